def ww_cn_deltaAway : List Cond := Cond.code yX12_deltaAway cX12_deltaAway 3 none :: ([Cond.fieldLink RX12 208 "LzmaChainsModel" "srcSize" "I"] ++ (wsX120 ++ ([])))
set_option maxHeartbeats 4000000 in
set_option maxRecDepth 100000 in
/-- the reference: deltaAway of nothing -/
theorem cn_deltaAway (l : Launch) (D : va_G) (cI cJ : ClassId) (ad : Nat → Nat) (g : Nat → Int32) (lg : Nat → Int64) (ar : Nat → Nat → Int32) (bk : Nat → Int64) (sz : Nat) (v : Int32) (hv : 1 ≤ v.toInt) (h17 : g 17 = 0) : Met l yX12_deltaAway ww_cn_deltaAway { frames := 0, cells := 0, slots := 0, locals := 0 } (va_Pc [.ref (ad 0), .int v] (hk_B D [(cI, .int), (cJ, .long)] sz (mw cI cJ ad g lg ar bk))) (va_Qv (fun u : Unit => True) (fun u : Unit => hk_E D [(cI, .int), (cJ, .long)] (va_A (mw cI cJ ad g lg ar bk) sz) (mw cI cJ ad g lg ar bk)) (va_A (mw cI cJ ad g lg ar bk) sz)) 0 0 (va_A (mw cI cJ ad g lg ar bk) sz) := by
  refine hk_met (cc := cX12_deltaAway) (maxL := 3) (ret := none) (by decide) rfl (Nat.le_of_ble_eq_true rfl) ?_
  intro p e s m below meth c ls hx hb hr hml hown hts hlocks hin hA hw hl
  have iX12 : ∀ w ∈ wsX120, w ∈ ww_cn_deltaAway := fun _ h => List.mem_cons_of_mem _ (List.mem_append_right _ (List.mem_append_left _ h))
  have hl : lv_has ls 3 [(0, .ref (ad 0)), (1, .int v)] := hl
  refine lv_aload_n hx hb dX12_deltaAway_0 rfl (lv_at hl 0 rfl) ?_
  refine hk_get (ci := 15) (C := RX12) (T := TX12) (N := 92) (v := .int 0) hx hb hts iX12 hown hw 0 rfl rfl 26 (by decide) (hts _ (List.mem_of_getElem? (i := 1) rfl)) (congrArg (fun z => some (Value.int z)) h17) dX12_deltaAway_1 ?_
  refine lv_iconst (v := 1) hx hb dX12_deltaAway_4 (by decide) ?_
  refine lv_isub hx hb dX12_deltaAway_5 ?_
  refine hk_topi (-1) (by decide +kernel) ?_
  refine lv_istore_n (lv' := [(2, .int (-1)), (0, .ref (ad 0)), (1, .int v)]) hx hb dX12_deltaAway_6 rfl hl (by decide) rfl (fun ls hl => ?_)
  refine lv_iload_n hx hb dX12_deltaAway_7 rfl (lv_at hl 0 rfl) ?_
  refine lv_iload_n hx hb dX12_deltaAway_8 rfl (lv_at hl 2 rfl) ?_
  refine lv_icmp_lt (tgt := 43) hx hb dX12_deltaAway_9 (by decide) (fun _ => ?_) (fun cc_1 => absurd (by simp only [Int32.lt_iff_toInt_lt, hk_tm1]; omega) cc_1)
  exact hk_vret (u := ()) hx hb hr hlocks (hw) (trivial) dX12_deltaAway_43

def ww_cn_deltaBack : List Cond := Cond.code yX12_deltaBack cX12_deltaBack 3 none :: ([Cond.fieldLink RX12 208 "LzmaChainsModel" "srcSize" "I"] ++ (wsX120 ++ ([])))
set_option maxHeartbeats 4000000 in
set_option maxRecDepth 100000 in
/-- the reference: deltaBack of nothing -/
theorem cn_deltaBack (l : Launch) (D : va_G) (cI cJ : ClassId) (ad : Nat → Nat) (g : Nat → Int32) (lg : Nat → Int64) (ar : Nat → Nat → Int32) (bk : Nat → Int64) (sz : Nat) (v : Int32) (hv : 1 ≤ v.toInt) (h17 : g 17 = 0) : Met l yX12_deltaBack ww_cn_deltaBack { frames := 0, cells := 0, slots := 0, locals := 0 } (va_Pc [.ref (ad 0), .int v] (hk_B D [(cI, .int), (cJ, .long)] sz (mw cI cJ ad g lg ar bk))) (va_Qv (fun u : Unit => True) (fun u : Unit => hk_E D [(cI, .int), (cJ, .long)] (va_A (mw cI cJ ad g lg ar bk) sz) (mw cI cJ ad g lg ar bk)) (va_A (mw cI cJ ad g lg ar bk) sz)) 0 0 (va_A (mw cI cJ ad g lg ar bk) sz) := by
  refine hk_met (cc := cX12_deltaBack) (maxL := 3) (ret := none) (by decide) rfl (Nat.le_of_ble_eq_true rfl) ?_
  intro p e s m below meth c ls hx hb hr hml hown hts hlocks hin hA hw hl
  have iX12 : ∀ w ∈ wsX120, w ∈ ww_cn_deltaBack := fun _ h => List.mem_cons_of_mem _ (List.mem_append_right _ (List.mem_append_left _ h))
  have hl : lv_has ls 3 [(0, .ref (ad 0)), (1, .int v)] := hl
  refine lv_iload_n hx hb dX12_deltaBack_0 rfl (lv_at hl 1 rfl) ?_
  refine lv_istore_n (lv' := [(2, .int v), (0, .ref (ad 0)), (1, .int v)]) hx hb dX12_deltaBack_1 rfl hl (by decide) rfl (fun ls hl => ?_)
  refine lv_iload_n hx hb dX12_deltaBack_2 rfl (lv_at hl 0 rfl) ?_
  refine lv_aload_n hx hb dX12_deltaBack_3 rfl (lv_at hl 1 rfl) ?_
  refine hk_get (ci := 15) (C := RX12) (T := TX12) (N := 92) (v := .int 0) hx hb hts iX12 hown hw 0 rfl rfl 26 (by decide) (hts _ (List.mem_of_getElem? (i := 1) rfl)) (congrArg (fun z => some (Value.int z)) h17) dX12_deltaBack_4 ?_
  refine lv_icmp_ge (tgt := 41) hx hb dX12_deltaBack_7 (by decide) (fun _ => ?_) (fun cc_1 => absurd (by simp only [Int32.le_iff_toInt_le, hk_t0]; omega) cc_1)
  exact hk_vret (u := ()) hx hb hr hlocks (hw) (trivial) dX12_deltaBack_41

def ww_cn_branchTurn : List Cond := Cond.code yX12_branchTurn cX12_branchTurn 6 none :: ([Cond.fieldLink RX12 208 "LzmaChainsModel" "srcSize" "I"] ++ (wsX120 ++ ([])))
set_option maxHeartbeats 4000000 in
set_option maxRecDepth 100000 in
/-- the reference: branchTurn of nothing -/
theorem cn_branchTurn (l : Launch) (D : va_G) (cI cJ : ClassId) (ad : Nat → Nat) (g : Nat → Int32) (lg : Nat → Int64) (ar : Nat → Nat → Int32) (bk : Nat → Int64) (sz : Nat) (bc : Int32) (h17 : g 17 = 0) : Met l yX12_branchTurn ww_cn_branchTurn { frames := 0, cells := 0, slots := 0, locals := 0 } (va_Pc [.ref (ad 0), .int bc] (hk_B D [(cI, .int), (cJ, .long)] sz (mw cI cJ ad g lg ar bk))) (va_Qv (fun u : Unit => True) (fun u : Unit => hk_E D [(cI, .int), (cJ, .long)] (va_A (mw cI cJ ad g lg ar bk) sz) (mw cI cJ ad g lg ar bk)) (va_A (mw cI cJ ad g lg ar bk) sz)) 0 0 (va_A (mw cI cJ ad g lg ar bk) sz) := by
  refine hk_met (cc := cX12_branchTurn) (maxL := 6) (ret := none) (by decide) rfl (Nat.le_of_ble_eq_true rfl) ?_
  intro p e s m below meth c ls hx hb hr hml hown hts hlocks hin hA hw hl
  have iX12 : ∀ w ∈ wsX120, w ∈ ww_cn_branchTurn := fun _ h => List.mem_cons_of_mem _ (List.mem_append_right _ (List.mem_append_left _ h))
  have hl : lv_has ls 6 [(0, .ref (ad 0)), (1, .int bc)] := hl
  refine lv_iconst (v := 0) hx hb dX12_branchTurn_0 (by decide) ?_
  refine lv_istore_n (lv' := [(2, .int 0), (0, .ref (ad 0)), (1, .int bc)]) hx hb dX12_branchTurn_1 rfl hl (by decide) rfl (fun ls hl => ?_)
  refine lv_iload_n hx hb dX12_branchTurn_2 rfl (lv_at hl 0 rfl) ?_
  refine lv_iconst (v := 4) hx hb dX12_branchTurn_3 (by decide) ?_
  refine lv_iadd hx hb dX12_branchTurn_4 ?_
  refine hk_topi 4 (by decide +kernel) ?_
  refine lv_aload_n hx hb dX12_branchTurn_5 rfl (lv_at hl 1 rfl) ?_
  refine hk_get (ci := 15) (C := RX12) (T := TX12) (N := 92) (v := .int 0) hx hb hts iX12 hown hw 0 rfl rfl 26 (by decide) (hts _ (List.mem_of_getElem? (i := 1) rfl)) (congrArg (fun z => some (Value.int z)) h17) dX12_branchTurn_6 ?_
  refine lv_icmp_gt (tgt := 141) hx hb dX12_branchTurn_9 (by decide) (fun _ => ?_) (fun cc_1 => absurd (by decide) cc_1)
  exact hk_vret (u := ()) hx hb hr hlocks (hw) (trivial) dX12_branchTurn_141

def ww_cm_turn : List Cond := Cond.code yX12_turn cX12_turn 5 (some .int) :: ([Cond.fieldLink RX12 111 "LzmaChainsModel" "thrown" "I", Cond.fieldLink RX12 129 "LzmaChainsModel" "outSize" "I", Cond.fieldLink RX12 208 "LzmaChainsModel" "srcSize" "I", Cond.methodLink RX12 219 yX12_deltaAway, Cond.instanceMethod yX12_deltaAway, Cond.selects RX12 yX12_deltaAway yX12_deltaAway, Cond.initialized RX12, Cond.code yX12_deltaAway cX12_deltaAway 3 none, Cond.methodLink RX12 216 yX12_deltaBack, Cond.instanceMethod yX12_deltaBack, Cond.selects RX12 yX12_deltaBack yX12_deltaBack, Cond.code yX12_deltaBack cX12_deltaBack 3 none, Cond.methodLink RX12 212 yX12_branchTurn, Cond.instanceMethod yX12_branchTurn, Cond.selects RX12 yX12_branchTurn yX12_branchTurn, Cond.code yX12_branchTurn cX12_branchTurn 6 none] ++ (wsX120 ++ ([])))
set_option maxRecDepth 20000 in
theorem gw_cm_turn_0 : GoodIn ww_cm_turn (wsV RX12 219 RX12 yX12_deltaAway ww_cn_deltaAway) := goodIn_r _ [4, 5, 6, 7, 8, 3, 17, 18, 19, 20, 21, 22, 23, 24, 25, 26, 27, 28, 29, 30, 31, 32, 33, 34, 35, 36, 37, 38, 39, 40, 41, 42, 43, 44, 45, 46, 47, 48, 49, 50, 51, 52, 53, 54, 55, 56, 57, 58, 59, 60, 61, 62, 63, 64, 65, 66, 67, 68, 69, 70, 71, 72, 73, 74, 75, 76, 77, 78, 79, 80, 81, 82, 83, 84, 85, 86, 87, 88, 89, 90, 91, 92, 93, 94, 95, 96, 97, 98, 99, 100, 101, 102, 103, 104, 105, 106, 107, 108] rfl (by decide +kernel)
set_option maxRecDepth 20000 in
theorem gw_cm_turn_1 : GoodIn ww_cm_turn (wsV RX12 216 RX12 yX12_deltaBack ww_cn_deltaBack) := goodIn_r _ [9, 10, 11, 7, 12, 3, 17, 18, 19, 20, 21, 22, 23, 24, 25, 26, 27, 28, 29, 30, 31, 32, 33, 34, 35, 36, 37, 38, 39, 40, 41, 42, 43, 44, 45, 46, 47, 48, 49, 50, 51, 52, 53, 54, 55, 56, 57, 58, 59, 60, 61, 62, 63, 64, 65, 66, 67, 68, 69, 70, 71, 72, 73, 74, 75, 76, 77, 78, 79, 80, 81, 82, 83, 84, 85, 86, 87, 88, 89, 90, 91, 92, 93, 94, 95, 96, 97, 98, 99, 100, 101, 102, 103, 104, 105, 106, 107, 108] rfl (by decide +kernel)
set_option maxRecDepth 20000 in
theorem gw_cm_turn_2 : GoodIn ww_cm_turn (wsV RX12 212 RX12 yX12_branchTurn ww_cn_branchTurn) := goodIn_r _ [13, 14, 15, 7, 16, 3, 17, 18, 19, 20, 21, 22, 23, 24, 25, 26, 27, 28, 29, 30, 31, 32, 33, 34, 35, 36, 37, 38, 39, 40, 41, 42, 43, 44, 45, 46, 47, 48, 49, 50, 51, 52, 53, 54, 55, 56, 57, 58, 59, 60, 61, 62, 63, 64, 65, 66, 67, 68, 69, 70, 71, 72, 73, 74, 75, 76, 77, 78, 79, 80, 81, 82, 83, 84, 85, 86, 87, 88, 89, 90, 91, 92, 93, 94, 95, 96, 97, 98, 99, 100, 101, 102, 103, 104, 105, 106, 107, 108] rfl (by decide +kernel)
set_option maxHeartbeats 4000000 in
set_option maxRecDepth 100000 in
/-- the reference: turn, new -/
theorem cm_turn (l : Launch) (D : va_G) (cI cJ : ClassId) (ad : Nat → Nat) (fm : Int32) (ar : Nat → Nat → Int32) (bk : Nat → Int64) (sz : Nat) (k v bc : Int32) : Met l yX12_turn ww_cm_turn { frames := 1, cells := 0, slots := 0, locals := 25 } (va_Pc [.ref (ad 0), .int k, .int v, .int bc] (hk_B D [(cI, .int), (cJ, .long)] sz (mw cI cJ ad (mf_g fm) mf_l ar bk))) (va_Qi (fun (r : Int32) (u : (Nat → Int32) × (Nat → Int64) × (Nat → Nat → Int32) × (Nat → Int64)) => (r.toInt = 0 ∧ (k.toInt = 0 ∧ 1 ≤ v.toInt ∧ v.toInt ≤ 256 ∨ k.toInt = 1)) ∨ (r.toInt = -1 ∧ ¬ (k.toInt = 0 ∧ 1 ≤ v.toInt ∧ v.toInt ≤ 256 ∨ k.toInt = 1))) (fun u : (Nat → Int32) × (Nat → Int64) × (Nat → Nat → Int32) × (Nat → Int64) => hk_E D [(cI, .int), (cJ, .long)] (va_A (mw cI cJ ad (mf_g fm) mf_l ar bk) sz) (mw cI cJ ad u.1 u.2.1 u.2.2.1 u.2.2.2)) (va_A (mw cI cJ ad (mf_g fm) mf_l ar bk) sz)) 0 0 (va_A (mw cI cJ ad (mf_g fm) mf_l ar bk) sz) := by
  refine hk_met (cc := cX12_turn) (maxL := 5) (ret := (some .int)) (by decide) rfl (Nat.le_of_ble_eq_true rfl) ?_
  intro p e s m below meth c ls hx hb hr hml hown hts hlocks hin hA hw hl
  have iX12 : ∀ w ∈ wsX120, w ∈ ww_cm_turn := fun _ h => List.mem_cons_of_mem _ (List.mem_append_right _ (List.mem_append_left _ h))
  have hl : lv_has ls 5 [(0, .ref (ad 0)), (1, .int k), (2, .int v), (3, .int bc)] := hl
  refine lv_aload_n hx hb dX12_turn_0 rfl (lv_at hl 0 rfl) ?_
  refine lv_iconst (v := 0) hx hb dX12_turn_1 (by decide) ?_
  refine hk_put (ci := 15) (C := RX12) (T := TX12) (N := 92) (ty := .int) (v := .int 0) hx hb hts iX12 tyX12 tyX12_ok nmX12 hown hw 0 rfl rfl 1 (by decide) (hts _ (List.mem_of_getElem? (i := 1) rfl)) rfl (by decide +kernel) rfl rfl (Nat.le_of_ble_eq_true rfl) dX12_turn_2 (ws' := mw cI cJ ad (upd (mf_g fm) 1 0) mf_l ar bk) rfl (fun H locs hw => ?_)
  refine lv_iload_n hx hb dX12_turn_5 rfl (lv_at hl 1 rfl) ?_
  refine lv_if_lt (tgt := 30) hx hb dX12_turn_6 (by decide) (fun cc_1 => ?_) (fun cc_1 => ?_)
  · refine lv_iconst (v := (-1)) hx hb dX12_turn_30 (by decide) ?_
    exact hk_iret (u := ((upd (mf_g fm) 1 0), mf_l, ar, bk)) hx hb hr hlocks (hw) (by simp only [Int32.lt_iff_toInt_lt, Int32.le_iff_toInt_le, ← Int32.toInt_inj, hk_t0, hk_t1, hk_t2, hk_t3, hk_t4, hk_t5, hk_t6, hk_t7, hk_t8, hk_t9, hk_t10, hk_t11, hk_t12, hk_t13, hk_t14, hk_t15, hk_t16, hk_t17, hk_t18, hk_t20, hk_t32, hk_tm1, hk_t256, hk_t1500, hk_t4096, hk_t2000, hk_t3000, hk_t512, hk_t1024, true_and, and_true, false_and, and_false, true_or, or_true, false_or, or_false, not_true_eq_false, not_false_eq_true] at cc_1 ⊢; omega) dX12_turn_31
  · refine lv_iload_n hx hb dX12_turn_9 rfl (lv_at hl 1 rfl) ?_
    refine lv_iconst (v := 1) hx hb dX12_turn_10 (by decide) ?_
    refine lv_icmp_gt (tgt := 30) hx hb dX12_turn_11 (by decide) (fun cc_2 => ?_) (fun cc_2 => ?_)
    · refine lv_iconst (v := (-1)) hx hb dX12_turn_30 (by decide) ?_
      exact hk_iret (u := ((upd (mf_g fm) 1 0), mf_l, ar, bk)) hx hb hr hlocks (hw) (by simp only [Int32.lt_iff_toInt_lt, Int32.le_iff_toInt_le, ← Int32.toInt_inj, hk_t0, hk_t1, hk_t2, hk_t3, hk_t4, hk_t5, hk_t6, hk_t7, hk_t8, hk_t9, hk_t10, hk_t11, hk_t12, hk_t13, hk_t14, hk_t15, hk_t16, hk_t17, hk_t18, hk_t20, hk_t32, hk_tm1, hk_t256, hk_t1500, hk_t4096, hk_t2000, hk_t3000, hk_t512, hk_t1024, true_and, and_true, false_and, and_false, true_or, or_true, false_or, or_false, not_true_eq_false, not_false_eq_true] at cc_1 cc_2 ⊢; omega) dX12_turn_31
    · refine lv_iload_n hx hb dX12_turn_14 rfl (lv_at hl 1 rfl) ?_
      refine lv_if_ne (tgt := 32) hx hb dX12_turn_15 (by decide) (fun cc_3 => ?_) (fun cc_3 => ?_)
      · refine lv_aload_n hx hb dX12_turn_32 rfl (lv_at hl 0 rfl) ?_
        refine lv_aload_n hx hb dX12_turn_33 rfl (lv_at hl 0 rfl) ?_
        refine hk_get (ci := 15) (C := RX12) (T := TX12) (N := 92) (v := .int 0) hx hb hts iX12 hown hw 0 rfl rfl 15 (by decide) (hts _ (List.mem_of_getElem? (i := 2) rfl)) rfl dX12_turn_34 ?_
        refine hk_put (ci := 15) (C := RX12) (T := TX12) (N := 92) (ty := .int) (v := .int 0) hx hb hts iX12 tyX12 tyX12_ok nmX12 hown hw 0 rfl rfl 26 (by decide) (hts _ (List.mem_of_getElem? (i := 3) rfl)) rfl (by decide +kernel) rfl rfl (Nat.le_of_ble_eq_true rfl) dX12_turn_37 (ws' := mw cI cJ ad (upd (upd (mf_g fm) 1 0) 17 0) mf_l ar bk) rfl (fun H locs hw => ?_)
        refine lv_iconst (v := 0) hx hb dX12_turn_40 (by decide) ?_
        refine lv_istore (lv' := [(4, .int 0), (0, .ref (ad 0)), (1, .int k), (2, .int v), (3, .int bc)]) hx hb dX12_turn_41 hl (by decide) rfl (fun ls hl => ?_)
        refine lv_iload hx hb dX12_turn_43 (lv_at hl 0 rfl) ?_
        refine lv_aload_n hx hb dX12_turn_45 rfl (lv_at hl 1 rfl) ?_
        refine hk_get (ci := 15) (C := RX12) (T := TX12) (N := 92) (v := .int 0) hx hb hts iX12 hown hw 0 rfl rfl 15 (by decide) (hts _ (List.mem_of_getElem? (i := 2) rfl)) rfl dX12_turn_46 ?_
        refine lv_icmp_ge (tgt := 72) hx hb dX12_turn_49 (by decide) (fun _ => ?_) (fun cc_4 => absurd (by decide) cc_4)
        refine lv_iload_n hx hb dX12_turn_72 rfl (lv_at hl 2 rfl) ?_
        refine lv_iconst (v := 1) hx hb dX12_turn_73 (by decide) ?_
        refine lv_icmp_ne (tgt := 85) hx hb dX12_turn_74 (by decide) (fun cc_5 => ?_) (fun cc_5 => ?_)
        · refine lv_iload_n hx hb dX12_turn_85 rfl (lv_at hl 4 rfl) ?_
          refine lv_if_eq (tgt := 97) hx hb dX12_turn_86 (by decide) (fun cc_6 => ?_) (fun cc_6 => ?_)
          · refine lv_aload_n hx hb dX12_turn_97 rfl (lv_at hl 1 rfl) ?_
            refine lv_iload_n hx hb dX12_turn_98 rfl (lv_at hl 3 rfl) ?_
            refine hk_Vv (As := [.int v]) (rest := []) ⟨hx, hb, hml, hown, hts⟩ hw hA (cn_deltaAway l D cI cJ ad (upd (upd (mf_g fm) 1 0) 17 0) mf_l ar bk _ v (by simp only [Int32.lt_iff_toInt_lt, Int32.le_iff_toInt_le, ← Int32.toInt_inj, hk_t0, hk_t1, hk_t2, hk_t3, hk_t4, hk_t5, hk_t6, hk_t7, hk_t8, hk_t9, hk_t10, hk_t11, hk_t12, hk_t13, hk_t14, hk_t15, hk_t16, hk_t17, hk_t18, hk_t20, hk_t32, hk_tm1, hk_t256, hk_t1500, hk_t4096, hk_t2000, hk_t3000, hk_t512, hk_t1024, true_and, and_true, false_and, and_false, true_or, or_true, false_or, or_false, not_true_eq_false, not_false_eq_true] at *; omega) rfl) (cwV 1 hts gw_cm_turn_0 rfl rfl rfl (by decide +kernel) ⟨Nat.le_of_ble_eq_true rfl, Nat.le_of_ble_eq_true rfl⟩) 0 (ci := 15) (T := TX12) (N := 92) rfl rfl rfl hl.1 rfl (Nat.le_of_ble_eq_true rfl) dX12_turn_99 ⟨Nat.le_of_ble_eq_true rfl, Nat.le_of_ble_eq_true rfl⟩ (fun uu_8 H locs hp_9 hw => ?_)
            have hw : hk_W D [(cI, .int), (cJ, .long)] _ s _ _ (mw cI cJ ad (upd (upd (mf_g fm) 1 0) 17 0) mf_l ar bk) := hw
            refine lv_iconst (v := 0) hx hb dX12_turn_102 (by decide) ?_
            refine lv_istore (lv' := [(4, .int 0), (0, .ref (ad 0)), (1, .int k), (2, .int v), (3, .int bc)]) hx hb dX12_turn_103 hl (by decide) rfl (fun ls hl => ?_)
            refine lv_iload hx hb dX12_turn_105 (lv_at hl 0 rfl) ?_
            refine lv_aload_n hx hb dX12_turn_107 rfl (lv_at hl 1 rfl) ?_
            refine hk_get (ci := 15) (C := RX12) (T := TX12) (N := 92) (v := .int 0) hx hb hts iX12 hown hw 0 rfl rfl 15 (by decide) (hts _ (List.mem_of_getElem? (i := 2) rfl)) rfl dX12_turn_108 ?_
            refine lv_icmp_ge (tgt := 134) hx hb dX12_turn_111 (by decide) (fun _ => ?_) (fun cc_10 => absurd (by decide) cc_10)
            refine lv_aload_n hx hb dX12_turn_134 rfl (lv_at hl 1 rfl) ?_
            refine hk_get (ci := 15) (C := RX12) (T := TX12) (N := 92) (v := .int 0) hx hb hts iX12 hown hw 0 rfl rfl 15 (by decide) (hts _ (List.mem_of_getElem? (i := 2) rfl)) rfl dX12_turn_135 ?_
            exact hk_iret (u := ((upd (upd (mf_g fm) 1 0) 17 0), mf_l, ar, bk)) hx hb hr hlocks (hw) (by simp only [Int32.lt_iff_toInt_lt, Int32.le_iff_toInt_le, ← Int32.toInt_inj, hk_t0, hk_t1, hk_t2, hk_t3, hk_t4, hk_t5, hk_t6, hk_t7, hk_t8, hk_t9, hk_t10, hk_t11, hk_t12, hk_t13, hk_t14, hk_t15, hk_t16, hk_t17, hk_t18, hk_t20, hk_t32, hk_tm1, hk_t256, hk_t1500, hk_t4096, hk_t2000, hk_t3000, hk_t512, hk_t1024, true_and, and_true, false_and, and_false, true_or, or_true, false_or, or_false, not_true_eq_false, not_false_eq_true] at cc_1 cc_2 cc_3 cc_5 cc_6 ⊢; omega) dX12_turn_138
          · refine lv_aload_n hx hb dX12_turn_89 rfl (lv_at hl 1 rfl) ?_
            refine lv_iload_n hx hb dX12_turn_90 rfl (lv_at hl 3 rfl) ?_
            refine hk_Vv (As := [.int v]) (rest := []) ⟨hx, hb, hml, hown, hts⟩ hw hA (cn_deltaBack l D cI cJ ad (upd (upd (mf_g fm) 1 0) 17 0) mf_l ar bk _ v (by simp only [Int32.lt_iff_toInt_lt, Int32.le_iff_toInt_le, ← Int32.toInt_inj, hk_t0, hk_t1, hk_t2, hk_t3, hk_t4, hk_t5, hk_t6, hk_t7, hk_t8, hk_t9, hk_t10, hk_t11, hk_t12, hk_t13, hk_t14, hk_t15, hk_t16, hk_t17, hk_t18, hk_t20, hk_t32, hk_tm1, hk_t256, hk_t1500, hk_t4096, hk_t2000, hk_t3000, hk_t512, hk_t1024, true_and, and_true, false_and, and_false, true_or, or_true, false_or, or_false, not_true_eq_false, not_false_eq_true] at *; omega) rfl) (cwV 1 hts gw_cm_turn_1 rfl rfl rfl (by decide +kernel) ⟨Nat.le_of_ble_eq_true rfl, Nat.le_of_ble_eq_true rfl⟩) 0 (ci := 15) (T := TX12) (N := 92) rfl rfl rfl hl.1 rfl (Nat.le_of_ble_eq_true rfl) dX12_turn_91 ⟨Nat.le_of_ble_eq_true rfl, Nat.le_of_ble_eq_true rfl⟩ (fun uu_12 H locs hp_13 hw => ?_)
            have hw : hk_W D [(cI, .int), (cJ, .long)] _ s _ _ (mw cI cJ ad (upd (upd (mf_g fm) 1 0) 17 0) mf_l ar bk) := hw
            refine lv_goto (tgt := 102) hx hb dX12_turn_94 (by decide) ?_
            refine lv_iconst (v := 0) hx hb dX12_turn_102 (by decide) ?_
            refine lv_istore (lv' := [(4, .int 0), (0, .ref (ad 0)), (1, .int k), (2, .int v), (3, .int bc)]) hx hb dX12_turn_103 hl (by decide) rfl (fun ls hl => ?_)
            refine lv_iload hx hb dX12_turn_105 (lv_at hl 0 rfl) ?_
            refine lv_aload_n hx hb dX12_turn_107 rfl (lv_at hl 1 rfl) ?_
            refine hk_get (ci := 15) (C := RX12) (T := TX12) (N := 92) (v := .int 0) hx hb hts iX12 hown hw 0 rfl rfl 15 (by decide) (hts _ (List.mem_of_getElem? (i := 2) rfl)) rfl dX12_turn_108 ?_
            refine lv_icmp_ge (tgt := 134) hx hb dX12_turn_111 (by decide) (fun _ => ?_) (fun cc_14 => absurd (by decide) cc_14)
            refine lv_aload_n hx hb dX12_turn_134 rfl (lv_at hl 1 rfl) ?_
            refine hk_get (ci := 15) (C := RX12) (T := TX12) (N := 92) (v := .int 0) hx hb hts iX12 hown hw 0 rfl rfl 15 (by decide) (hts _ (List.mem_of_getElem? (i := 2) rfl)) rfl dX12_turn_135 ?_
            exact hk_iret (u := ((upd (upd (mf_g fm) 1 0) 17 0), mf_l, ar, bk)) hx hb hr hlocks (hw) (by simp only [Int32.lt_iff_toInt_lt, Int32.le_iff_toInt_le, ← Int32.toInt_inj, hk_t0, hk_t1, hk_t2, hk_t3, hk_t4, hk_t5, hk_t6, hk_t7, hk_t8, hk_t9, hk_t10, hk_t11, hk_t12, hk_t13, hk_t14, hk_t15, hk_t16, hk_t17, hk_t18, hk_t20, hk_t32, hk_tm1, hk_t256, hk_t1500, hk_t4096, hk_t2000, hk_t3000, hk_t512, hk_t1024, true_and, and_true, false_and, and_false, true_or, or_true, false_or, or_false, not_true_eq_false, not_false_eq_true] at cc_1 cc_2 cc_3 cc_5 cc_6 ⊢; omega) dX12_turn_138
        · refine lv_aload_n hx hb dX12_turn_77 rfl (lv_at hl 1 rfl) ?_
          refine lv_iload_n hx hb dX12_turn_78 rfl (lv_at hl 4 rfl) ?_
          refine hk_Vv (As := [.int bc]) (rest := []) ⟨hx, hb, hml, hown, hts⟩ hw hA (cn_branchTurn l D cI cJ ad (upd (upd (mf_g fm) 1 0) 17 0) mf_l ar bk _ bc rfl) (cwV 1 hts gw_cm_turn_2 rfl rfl rfl (by decide +kernel) ⟨Nat.le_of_ble_eq_true rfl, Nat.le_of_ble_eq_true rfl⟩) 0 (ci := 15) (T := TX12) (N := 92) rfl rfl rfl hl.1 rfl (Nat.le_of_ble_eq_true rfl) dX12_turn_79 ⟨Nat.le_of_ble_eq_true rfl, Nat.le_of_ble_eq_true rfl⟩ (fun uu_16 H locs hp_17 hw => ?_)
          have hw : hk_W D [(cI, .int), (cJ, .long)] _ s _ _ (mw cI cJ ad (upd (upd (mf_g fm) 1 0) 17 0) mf_l ar bk) := hw
          refine lv_goto (tgt := 102) hx hb dX12_turn_82 (by decide) ?_
          refine lv_iconst (v := 0) hx hb dX12_turn_102 (by decide) ?_
          refine lv_istore (lv' := [(4, .int 0), (0, .ref (ad 0)), (1, .int k), (2, .int v), (3, .int bc)]) hx hb dX12_turn_103 hl (by decide) rfl (fun ls hl => ?_)
          refine lv_iload hx hb dX12_turn_105 (lv_at hl 0 rfl) ?_
          refine lv_aload_n hx hb dX12_turn_107 rfl (lv_at hl 1 rfl) ?_
          refine hk_get (ci := 15) (C := RX12) (T := TX12) (N := 92) (v := .int 0) hx hb hts iX12 hown hw 0 rfl rfl 15 (by decide) (hts _ (List.mem_of_getElem? (i := 2) rfl)) rfl dX12_turn_108 ?_
          refine lv_icmp_ge (tgt := 134) hx hb dX12_turn_111 (by decide) (fun _ => ?_) (fun cc_18 => absurd (by decide) cc_18)
          refine lv_aload_n hx hb dX12_turn_134 rfl (lv_at hl 1 rfl) ?_
          refine hk_get (ci := 15) (C := RX12) (T := TX12) (N := 92) (v := .int 0) hx hb hts iX12 hown hw 0 rfl rfl 15 (by decide) (hts _ (List.mem_of_getElem? (i := 2) rfl)) rfl dX12_turn_135 ?_
          exact hk_iret (u := ((upd (upd (mf_g fm) 1 0) 17 0), mf_l, ar, bk)) hx hb hr hlocks (hw) (by simp only [Int32.lt_iff_toInt_lt, Int32.le_iff_toInt_le, ← Int32.toInt_inj, hk_t0, hk_t1, hk_t2, hk_t3, hk_t4, hk_t5, hk_t6, hk_t7, hk_t8, hk_t9, hk_t10, hk_t11, hk_t12, hk_t13, hk_t14, hk_t15, hk_t16, hk_t17, hk_t18, hk_t20, hk_t32, hk_tm1, hk_t256, hk_t1500, hk_t4096, hk_t2000, hk_t3000, hk_t512, hk_t1024, true_and, and_true, false_and, and_false, true_or, or_true, false_or, or_false, not_true_eq_false, not_false_eq_true] at cc_1 cc_2 cc_3 cc_5 ⊢; omega) dX12_turn_138
      · refine lv_iload_n hx hb dX12_turn_18 rfl (lv_at hl 2 rfl) ?_
        refine lv_iconst (v := 1) hx hb dX12_turn_19 (by decide) ?_
        refine lv_icmp_lt (tgt := 30) hx hb dX12_turn_20 (by decide) (fun cc_19 => ?_) (fun cc_19 => ?_)
        · refine lv_iconst (v := (-1)) hx hb dX12_turn_30 (by decide) ?_
          exact hk_iret (u := ((upd (mf_g fm) 1 0), mf_l, ar, bk)) hx hb hr hlocks (hw) (by simp only [Int32.lt_iff_toInt_lt, Int32.le_iff_toInt_le, ← Int32.toInt_inj, hk_t0, hk_t1, hk_t2, hk_t3, hk_t4, hk_t5, hk_t6, hk_t7, hk_t8, hk_t9, hk_t10, hk_t11, hk_t12, hk_t13, hk_t14, hk_t15, hk_t16, hk_t17, hk_t18, hk_t20, hk_t32, hk_tm1, hk_t256, hk_t1500, hk_t4096, hk_t2000, hk_t3000, hk_t512, hk_t1024, true_and, and_true, false_and, and_false, true_or, or_true, false_or, or_false, not_true_eq_false, not_false_eq_true] at cc_1 cc_2 cc_3 cc_19 ⊢; omega) dX12_turn_31
        · refine lv_iload_n hx hb dX12_turn_23 rfl (lv_at hl 2 rfl) ?_
          refine lv_sipush (v := 256) hx hb dX12_turn_24 (by decide) ?_
          refine lv_icmp_le (tgt := 32) hx hb dX12_turn_27 (by decide) (fun cc_20 => ?_) (fun cc_20 => ?_)
          · refine lv_aload_n hx hb dX12_turn_32 rfl (lv_at hl 0 rfl) ?_
            refine lv_aload_n hx hb dX12_turn_33 rfl (lv_at hl 0 rfl) ?_
            refine hk_get (ci := 15) (C := RX12) (T := TX12) (N := 92) (v := .int 0) hx hb hts iX12 hown hw 0 rfl rfl 15 (by decide) (hts _ (List.mem_of_getElem? (i := 2) rfl)) rfl dX12_turn_34 ?_
            refine hk_put (ci := 15) (C := RX12) (T := TX12) (N := 92) (ty := .int) (v := .int 0) hx hb hts iX12 tyX12 tyX12_ok nmX12 hown hw 0 rfl rfl 26 (by decide) (hts _ (List.mem_of_getElem? (i := 3) rfl)) rfl (by decide +kernel) rfl rfl (Nat.le_of_ble_eq_true rfl) dX12_turn_37 (ws' := mw cI cJ ad (upd (upd (mf_g fm) 1 0) 17 0) mf_l ar bk) rfl (fun H locs hw => ?_)
            refine lv_iconst (v := 0) hx hb dX12_turn_40 (by decide) ?_
            refine lv_istore (lv' := [(4, .int 0), (0, .ref (ad 0)), (1, .int k), (2, .int v), (3, .int bc)]) hx hb dX12_turn_41 hl (by decide) rfl (fun ls hl => ?_)
            refine lv_iload hx hb dX12_turn_43 (lv_at hl 0 rfl) ?_
            refine lv_aload_n hx hb dX12_turn_45 rfl (lv_at hl 1 rfl) ?_
            refine hk_get (ci := 15) (C := RX12) (T := TX12) (N := 92) (v := .int 0) hx hb hts iX12 hown hw 0 rfl rfl 15 (by decide) (hts _ (List.mem_of_getElem? (i := 2) rfl)) rfl dX12_turn_46 ?_
            refine lv_icmp_ge (tgt := 72) hx hb dX12_turn_49 (by decide) (fun _ => ?_) (fun cc_21 => absurd (by decide) cc_21)
            refine lv_iload_n hx hb dX12_turn_72 rfl (lv_at hl 2 rfl) ?_
            refine lv_iconst (v := 1) hx hb dX12_turn_73 (by decide) ?_
            refine lv_icmp_ne (tgt := 85) hx hb dX12_turn_74 (by decide) (fun cc_22 => ?_) (fun cc_22 => ?_)
            · refine lv_iload_n hx hb dX12_turn_85 rfl (lv_at hl 4 rfl) ?_
              refine lv_if_eq (tgt := 97) hx hb dX12_turn_86 (by decide) (fun cc_23 => ?_) (fun cc_23 => ?_)
              · refine lv_aload_n hx hb dX12_turn_97 rfl (lv_at hl 1 rfl) ?_
                refine lv_iload_n hx hb dX12_turn_98 rfl (lv_at hl 3 rfl) ?_
                refine hk_Vv (As := [.int v]) (rest := []) ⟨hx, hb, hml, hown, hts⟩ hw hA (cn_deltaAway l D cI cJ ad (upd (upd (mf_g fm) 1 0) 17 0) mf_l ar bk _ v (by simp only [Int32.lt_iff_toInt_lt, Int32.le_iff_toInt_le, ← Int32.toInt_inj, hk_t0, hk_t1, hk_t2, hk_t3, hk_t4, hk_t5, hk_t6, hk_t7, hk_t8, hk_t9, hk_t10, hk_t11, hk_t12, hk_t13, hk_t14, hk_t15, hk_t16, hk_t17, hk_t18, hk_t20, hk_t32, hk_tm1, hk_t256, hk_t1500, hk_t4096, hk_t2000, hk_t3000, hk_t512, hk_t1024, true_and, and_true, false_and, and_false, true_or, or_true, false_or, or_false, not_true_eq_false, not_false_eq_true] at *; omega) rfl) (cwV 1 hts gw_cm_turn_0 rfl rfl rfl (by decide +kernel) ⟨Nat.le_of_ble_eq_true rfl, Nat.le_of_ble_eq_true rfl⟩) 0 (ci := 15) (T := TX12) (N := 92) rfl rfl rfl hl.1 rfl (Nat.le_of_ble_eq_true rfl) dX12_turn_99 ⟨Nat.le_of_ble_eq_true rfl, Nat.le_of_ble_eq_true rfl⟩ (fun uu_25 H locs hp_26 hw => ?_)
                have hw : hk_W D [(cI, .int), (cJ, .long)] _ s _ _ (mw cI cJ ad (upd (upd (mf_g fm) 1 0) 17 0) mf_l ar bk) := hw
                refine lv_iconst (v := 0) hx hb dX12_turn_102 (by decide) ?_
                refine lv_istore (lv' := [(4, .int 0), (0, .ref (ad 0)), (1, .int k), (2, .int v), (3, .int bc)]) hx hb dX12_turn_103 hl (by decide) rfl (fun ls hl => ?_)
                refine lv_iload hx hb dX12_turn_105 (lv_at hl 0 rfl) ?_
                refine lv_aload_n hx hb dX12_turn_107 rfl (lv_at hl 1 rfl) ?_
                refine hk_get (ci := 15) (C := RX12) (T := TX12) (N := 92) (v := .int 0) hx hb hts iX12 hown hw 0 rfl rfl 15 (by decide) (hts _ (List.mem_of_getElem? (i := 2) rfl)) rfl dX12_turn_108 ?_
                refine lv_icmp_ge (tgt := 134) hx hb dX12_turn_111 (by decide) (fun _ => ?_) (fun cc_27 => absurd (by decide) cc_27)
                refine lv_aload_n hx hb dX12_turn_134 rfl (lv_at hl 1 rfl) ?_
                refine hk_get (ci := 15) (C := RX12) (T := TX12) (N := 92) (v := .int 0) hx hb hts iX12 hown hw 0 rfl rfl 15 (by decide) (hts _ (List.mem_of_getElem? (i := 2) rfl)) rfl dX12_turn_135 ?_
                exact hk_iret (u := ((upd (upd (mf_g fm) 1 0) 17 0), mf_l, ar, bk)) hx hb hr hlocks (hw) (by simp only [Int32.lt_iff_toInt_lt, Int32.le_iff_toInt_le, ← Int32.toInt_inj, hk_t0, hk_t1, hk_t2, hk_t3, hk_t4, hk_t5, hk_t6, hk_t7, hk_t8, hk_t9, hk_t10, hk_t11, hk_t12, hk_t13, hk_t14, hk_t15, hk_t16, hk_t17, hk_t18, hk_t20, hk_t32, hk_tm1, hk_t256, hk_t1500, hk_t4096, hk_t2000, hk_t3000, hk_t512, hk_t1024, true_and, and_true, false_and, and_false, true_or, or_true, false_or, or_false, not_true_eq_false, not_false_eq_true] at cc_1 cc_2 cc_3 cc_19 cc_20 cc_22 cc_23 ⊢; omega) dX12_turn_138
              · refine lv_aload_n hx hb dX12_turn_89 rfl (lv_at hl 1 rfl) ?_
                refine lv_iload_n hx hb dX12_turn_90 rfl (lv_at hl 3 rfl) ?_
                refine hk_Vv (As := [.int v]) (rest := []) ⟨hx, hb, hml, hown, hts⟩ hw hA (cn_deltaBack l D cI cJ ad (upd (upd (mf_g fm) 1 0) 17 0) mf_l ar bk _ v (by simp only [Int32.lt_iff_toInt_lt, Int32.le_iff_toInt_le, ← Int32.toInt_inj, hk_t0, hk_t1, hk_t2, hk_t3, hk_t4, hk_t5, hk_t6, hk_t7, hk_t8, hk_t9, hk_t10, hk_t11, hk_t12, hk_t13, hk_t14, hk_t15, hk_t16, hk_t17, hk_t18, hk_t20, hk_t32, hk_tm1, hk_t256, hk_t1500, hk_t4096, hk_t2000, hk_t3000, hk_t512, hk_t1024, true_and, and_true, false_and, and_false, true_or, or_true, false_or, or_false, not_true_eq_false, not_false_eq_true] at *; omega) rfl) (cwV 1 hts gw_cm_turn_1 rfl rfl rfl (by decide +kernel) ⟨Nat.le_of_ble_eq_true rfl, Nat.le_of_ble_eq_true rfl⟩) 0 (ci := 15) (T := TX12) (N := 92) rfl rfl rfl hl.1 rfl (Nat.le_of_ble_eq_true rfl) dX12_turn_91 ⟨Nat.le_of_ble_eq_true rfl, Nat.le_of_ble_eq_true rfl⟩ (fun uu_29 H locs hp_30 hw => ?_)
                have hw : hk_W D [(cI, .int), (cJ, .long)] _ s _ _ (mw cI cJ ad (upd (upd (mf_g fm) 1 0) 17 0) mf_l ar bk) := hw
                refine lv_goto (tgt := 102) hx hb dX12_turn_94 (by decide) ?_
                refine lv_iconst (v := 0) hx hb dX12_turn_102 (by decide) ?_
                refine lv_istore (lv' := [(4, .int 0), (0, .ref (ad 0)), (1, .int k), (2, .int v), (3, .int bc)]) hx hb dX12_turn_103 hl (by decide) rfl (fun ls hl => ?_)
                refine lv_iload hx hb dX12_turn_105 (lv_at hl 0 rfl) ?_
                refine lv_aload_n hx hb dX12_turn_107 rfl (lv_at hl 1 rfl) ?_
                refine hk_get (ci := 15) (C := RX12) (T := TX12) (N := 92) (v := .int 0) hx hb hts iX12 hown hw 0 rfl rfl 15 (by decide) (hts _ (List.mem_of_getElem? (i := 2) rfl)) rfl dX12_turn_108 ?_
                refine lv_icmp_ge (tgt := 134) hx hb dX12_turn_111 (by decide) (fun _ => ?_) (fun cc_31 => absurd (by decide) cc_31)
                refine lv_aload_n hx hb dX12_turn_134 rfl (lv_at hl 1 rfl) ?_
                refine hk_get (ci := 15) (C := RX12) (T := TX12) (N := 92) (v := .int 0) hx hb hts iX12 hown hw 0 rfl rfl 15 (by decide) (hts _ (List.mem_of_getElem? (i := 2) rfl)) rfl dX12_turn_135 ?_
                exact hk_iret (u := ((upd (upd (mf_g fm) 1 0) 17 0), mf_l, ar, bk)) hx hb hr hlocks (hw) (by simp only [Int32.lt_iff_toInt_lt, Int32.le_iff_toInt_le, ← Int32.toInt_inj, hk_t0, hk_t1, hk_t2, hk_t3, hk_t4, hk_t5, hk_t6, hk_t7, hk_t8, hk_t9, hk_t10, hk_t11, hk_t12, hk_t13, hk_t14, hk_t15, hk_t16, hk_t17, hk_t18, hk_t20, hk_t32, hk_tm1, hk_t256, hk_t1500, hk_t4096, hk_t2000, hk_t3000, hk_t512, hk_t1024, true_and, and_true, false_and, and_false, true_or, or_true, false_or, or_false, not_true_eq_false, not_false_eq_true] at cc_1 cc_2 cc_3 cc_19 cc_20 cc_22 cc_23 ⊢; omega) dX12_turn_138
            · refine lv_aload_n hx hb dX12_turn_77 rfl (lv_at hl 1 rfl) ?_
              refine lv_iload_n hx hb dX12_turn_78 rfl (lv_at hl 4 rfl) ?_
              refine hk_Vv (As := [.int bc]) (rest := []) ⟨hx, hb, hml, hown, hts⟩ hw hA (cn_branchTurn l D cI cJ ad (upd (upd (mf_g fm) 1 0) 17 0) mf_l ar bk _ bc rfl) (cwV 1 hts gw_cm_turn_2 rfl rfl rfl (by decide +kernel) ⟨Nat.le_of_ble_eq_true rfl, Nat.le_of_ble_eq_true rfl⟩) 0 (ci := 15) (T := TX12) (N := 92) rfl rfl rfl hl.1 rfl (Nat.le_of_ble_eq_true rfl) dX12_turn_79 ⟨Nat.le_of_ble_eq_true rfl, Nat.le_of_ble_eq_true rfl⟩ (fun uu_33 H locs hp_34 hw => ?_)
              have hw : hk_W D [(cI, .int), (cJ, .long)] _ s _ _ (mw cI cJ ad (upd (upd (mf_g fm) 1 0) 17 0) mf_l ar bk) := hw
              refine lv_goto (tgt := 102) hx hb dX12_turn_82 (by decide) ?_
              refine lv_iconst (v := 0) hx hb dX12_turn_102 (by decide) ?_
              refine lv_istore (lv' := [(4, .int 0), (0, .ref (ad 0)), (1, .int k), (2, .int v), (3, .int bc)]) hx hb dX12_turn_103 hl (by decide) rfl (fun ls hl => ?_)
              refine lv_iload hx hb dX12_turn_105 (lv_at hl 0 rfl) ?_
              refine lv_aload_n hx hb dX12_turn_107 rfl (lv_at hl 1 rfl) ?_
              refine hk_get (ci := 15) (C := RX12) (T := TX12) (N := 92) (v := .int 0) hx hb hts iX12 hown hw 0 rfl rfl 15 (by decide) (hts _ (List.mem_of_getElem? (i := 2) rfl)) rfl dX12_turn_108 ?_
              refine lv_icmp_ge (tgt := 134) hx hb dX12_turn_111 (by decide) (fun _ => ?_) (fun cc_35 => absurd (by decide) cc_35)
              refine lv_aload_n hx hb dX12_turn_134 rfl (lv_at hl 1 rfl) ?_
              refine hk_get (ci := 15) (C := RX12) (T := TX12) (N := 92) (v := .int 0) hx hb hts iX12 hown hw 0 rfl rfl 15 (by decide) (hts _ (List.mem_of_getElem? (i := 2) rfl)) rfl dX12_turn_135 ?_
              exact hk_iret (u := ((upd (upd (mf_g fm) 1 0) 17 0), mf_l, ar, bk)) hx hb hr hlocks (hw) (by simp only [Int32.lt_iff_toInt_lt, Int32.le_iff_toInt_le, ← Int32.toInt_inj, hk_t0, hk_t1, hk_t2, hk_t3, hk_t4, hk_t5, hk_t6, hk_t7, hk_t8, hk_t9, hk_t10, hk_t11, hk_t12, hk_t13, hk_t14, hk_t15, hk_t16, hk_t17, hk_t18, hk_t20, hk_t32, hk_tm1, hk_t256, hk_t1500, hk_t4096, hk_t2000, hk_t3000, hk_t512, hk_t1024, true_and, and_true, false_and, and_false, true_or, or_true, false_or, or_false, not_true_eq_false, not_false_eq_true] at cc_1 cc_2 cc_3 cc_19 cc_20 cc_22 ⊢; omega) dX12_turn_138
          · refine lv_iconst (v := (-1)) hx hb dX12_turn_30 (by decide) ?_
            exact hk_iret (u := ((upd (mf_g fm) 1 0), mf_l, ar, bk)) hx hb hr hlocks (hw) (by simp only [Int32.lt_iff_toInt_lt, Int32.le_iff_toInt_le, ← Int32.toInt_inj, hk_t0, hk_t1, hk_t2, hk_t3, hk_t4, hk_t5, hk_t6, hk_t7, hk_t8, hk_t9, hk_t10, hk_t11, hk_t12, hk_t13, hk_t14, hk_t15, hk_t16, hk_t17, hk_t18, hk_t20, hk_t32, hk_tm1, hk_t256, hk_t1500, hk_t4096, hk_t2000, hk_t3000, hk_t512, hk_t1024, true_and, and_true, false_and, and_false, true_or, or_true, false_or, or_false, not_true_eq_false, not_false_eq_true] at cc_1 cc_2 cc_3 cc_19 cc_20 ⊢; omega) dX12_turn_31

def ww_cm_property : List Cond := Cond.code yX12_property cX12_property 4 (some .int) :: ([Cond.fieldLink RX12 111 "LzmaChainsModel" "thrown" "I", Cond.fieldLink RX12 7 "LzmaChainsModel" "lc" "I", Cond.fieldLink RX12 114 "LzmaChainsModel" "lp" "I", Cond.fieldLink RX12 13 "LzmaChainsModel" "pb" "I", Cond.fieldLink RX12 16 "LzmaChainsModel" "dictionary" "I", Cond.fieldLink RX12 107 "LzmaChainsModel" "form" "I", Cond.fieldLink RX12 19 "LzmaChainsModel" "chunk" "I", Cond.fieldLink RX12 22 "LzmaChainsModel" "blockBytes" "I", Cond.fieldLink RX12 25 "LzmaChainsModel" "checkKind" "I", Cond.fieldLink RX12 117 "LzmaChainsModel" "mark" "I"] ++ (wsX120 ++ ([])))
set_option maxHeartbeats 4000000 in
set_option maxRecDepth 100000 in
/-- the reference: property, new -/
theorem cm_property (l : Launch) (D : va_G) (cI cJ : ClassId) (ad : Nat → Nat) (fm : Int32) (ar : Nat → Nat → Int32) (bk : Nat → Int64) (sz : Nat) (wt v : Int32) : Met l yX12_property ww_cm_property { frames := 0, cells := 0, slots := 0, locals := 0 } (va_Pc [.ref (ad 0), .int wt, .int v] (hk_B D [(cI, .int), (cJ, .long)] sz (mw cI cJ ad (mf_g fm) mf_l ar bk))) (va_Qi (fun (r : Int32) (u : (Nat → Int32) × (Nat → Int64) × (Nat → Nat → Int32) × (Nat → Int64)) => r = hk_qf fm wt v) (fun u : (Nat → Int32) × (Nat → Int64) × (Nat → Nat → Int32) × (Nat → Int64) => hk_E D [(cI, .int), (cJ, .long)] (va_A (mw cI cJ ad (mf_g fm) mf_l ar bk) sz) (mw cI cJ ad u.1 u.2.1 u.2.2.1 u.2.2.2)) (va_A (mw cI cJ ad (mf_g fm) mf_l ar bk) sz)) 0 0 (va_A (mw cI cJ ad (mf_g fm) mf_l ar bk) sz) := by
  refine hk_met (cc := cX12_property) (maxL := 4) (ret := (some .int)) (by decide) rfl (Nat.le_of_ble_eq_true rfl) ?_
  intro p e s m below meth c ls hx hb hr hml hown hts hlocks hin hA hw hl
  have iX12 : ∀ w ∈ wsX120, w ∈ ww_cm_property := fun _ h => List.mem_cons_of_mem _ (List.mem_append_right _ (List.mem_append_left _ h))
  have hl : lv_has ls 4 [(0, .ref (ad 0)), (1, .int wt), (2, .int v)] := hl
  refine lv_aload_n hx hb dX12_property_0 rfl (lv_at hl 0 rfl) ?_
  refine lv_iconst (v := 0) hx hb dX12_property_1 (by decide) ?_
  refine hk_put (ci := 15) (C := RX12) (T := TX12) (N := 92) (ty := .int) (v := .int 0) hx hb hts iX12 tyX12 tyX12_ok nmX12 hown hw 0 rfl rfl 1 (by decide) (hts _ (List.mem_of_getElem? (i := 1) rfl)) rfl (by decide +kernel) rfl rfl (Nat.le_of_ble_eq_true rfl) dX12_property_2 (ws' := mw cI cJ ad (upd (mf_g fm) 1 0) mf_l ar bk) rfl (fun H locs hw => ?_)
  refine lv_iload_n hx hb dX12_property_5 rfl (lv_at hl 1 rfl) ?_
  rcases hk_eqOr wt 0 with cc_2 | cc_2
  · refine lv_tableIn (tgt := 52) (off := 46) hx hb dX12_property_6 (by rw [cc_2]; decide) (by rw [cc_2]; decide) (by rw [cc_2]; rfl) (by decide) ?_
    refine lv_iload_n hx hb dX12_property_52 rfl (lv_at hl 2 rfl) ?_
    refine lv_if_lt (tgt := 75) hx hb dX12_property_53 (by decide) (fun cc_3 => ?_) (fun cc_3 => ?_)
    · refine lv_iconst (v := 0) hx hb dX12_property_75 (by decide) ?_
      refine lv_istore_n (lv' := [(3, .int 0), (0, .ref (ad 0)), (1, .int wt), (2, .int v)]) hx hb dX12_property_76 rfl hl (by decide) rfl (fun ls hl => ?_)
      refine lv_aload_n hx hb dX12_property_77 rfl (lv_at hl 1 rfl) ?_
      refine lv_iload_n hx hb dX12_property_78 rfl (lv_at hl 0 rfl) ?_
      refine lv_if_eq (tgt := 86) hx hb dX12_property_79 (by decide) (fun _ => ?_) (fun cc_4 => absurd (by decide) cc_4)
      refine lv_aload_n hx hb dX12_property_86 rfl (lv_at hl 1 rfl) ?_
      refine hk_get (ci := 15) (C := RX12) (T := TX12) (N := 92) (v := .int 3) hx hb hts iX12 hown hw 0 rfl rfl 2 (by decide) (hts _ (List.mem_of_getElem? (i := 2) rfl)) rfl dX12_property_87 ?_
      refine hk_put (ci := 15) (C := RX12) (T := TX12) (N := 92) (ty := .int) (v := .int 3) hx hb hts iX12 tyX12 tyX12_ok nmX12 hown hw 0 rfl rfl 2 (by decide) (hts _ (List.mem_of_getElem? (i := 2) rfl)) rfl (by decide +kernel) rfl rfl (Nat.le_of_ble_eq_true rfl) dX12_property_90 (ws' := mw cI cJ ad (upd (upd (mf_g fm) 1 0) 2 3) mf_l ar bk) rfl (fun H locs hw => ?_)
      refine lv_goto (tgt := 381) hx hb dX12_property_93 (by decide) ?_
      refine lv_iload_n hx hb dX12_property_381 rfl (lv_at hl 0 rfl) ?_
      refine lv_if_eq (tgt := 389) hx hb dX12_property_382 (by decide) (fun _ => ?_) (fun cc_5 => absurd (by decide) cc_5)
      refine lv_iconst (v := 0) hx hb dX12_property_389 (by decide) ?_
      exact hk_iret (u := ((upd (upd (mf_g fm) 1 0) 2 3), mf_l, ar, bk)) hx hb hr hlocks (hw) (by have ha := hk_a3 v; simp only [Int32.add_zero, Int32.lt_iff_toInt_lt, Int32.le_iff_toInt_le, ← Int32.toInt_inj, hk_t0, hk_t1, hk_t2, hk_t3, hk_t4, hk_t5, hk_t6, hk_t7, hk_t8, hk_t9, hk_t10, hk_t11, hk_t12, hk_t13, hk_t14, hk_t15, hk_t16, hk_t17, hk_t18, hk_t20, hk_t32, hk_tm1, hk_t256, hk_t1500, hk_t4096, hk_t2000, hk_t3000, hk_t512, hk_t1024, true_and, and_true, false_and, and_false, true_or, or_true, false_or, or_false, not_true_eq_false, not_false_eq_true] at cc_2 cc_3 <;> unfold hk_qf <;> (repeat' split) <;> first | rfl | (exfalso; omega)) dX12_property_390
    · refine lv_iload_n hx hb dX12_property_56 rfl (lv_at hl 2 rfl) ?_
      refine lv_iconst (v := 4) hx hb dX12_property_57 (by decide) ?_
      refine lv_icmp_gt (tgt := 75) hx hb dX12_property_58 (by decide) (fun cc_6 => ?_) (fun cc_6 => ?_)
      · refine lv_iconst (v := 0) hx hb dX12_property_75 (by decide) ?_
        refine lv_istore_n (lv' := [(3, .int 0), (0, .ref (ad 0)), (1, .int wt), (2, .int v)]) hx hb dX12_property_76 rfl hl (by decide) rfl (fun ls hl => ?_)
        refine lv_aload_n hx hb dX12_property_77 rfl (lv_at hl 1 rfl) ?_
        refine lv_iload_n hx hb dX12_property_78 rfl (lv_at hl 0 rfl) ?_
        refine lv_if_eq (tgt := 86) hx hb dX12_property_79 (by decide) (fun _ => ?_) (fun cc_7 => absurd (by decide) cc_7)
        refine lv_aload_n hx hb dX12_property_86 rfl (lv_at hl 1 rfl) ?_
        refine hk_get (ci := 15) (C := RX12) (T := TX12) (N := 92) (v := .int 3) hx hb hts iX12 hown hw 0 rfl rfl 2 (by decide) (hts _ (List.mem_of_getElem? (i := 2) rfl)) rfl dX12_property_87 ?_
        refine hk_put (ci := 15) (C := RX12) (T := TX12) (N := 92) (ty := .int) (v := .int 3) hx hb hts iX12 tyX12 tyX12_ok nmX12 hown hw 0 rfl rfl 2 (by decide) (hts _ (List.mem_of_getElem? (i := 2) rfl)) rfl (by decide +kernel) rfl rfl (Nat.le_of_ble_eq_true rfl) dX12_property_90 (ws' := mw cI cJ ad (upd (upd (mf_g fm) 1 0) 2 3) mf_l ar bk) rfl (fun H locs hw => ?_)
        refine lv_goto (tgt := 381) hx hb dX12_property_93 (by decide) ?_
        refine lv_iload_n hx hb dX12_property_381 rfl (lv_at hl 0 rfl) ?_
        refine lv_if_eq (tgt := 389) hx hb dX12_property_382 (by decide) (fun _ => ?_) (fun cc_8 => absurd (by decide) cc_8)
        refine lv_iconst (v := 0) hx hb dX12_property_389 (by decide) ?_
        exact hk_iret (u := ((upd (upd (mf_g fm) 1 0) 2 3), mf_l, ar, bk)) hx hb hr hlocks (hw) (by have ha := hk_a3 v; simp only [Int32.add_zero, Int32.lt_iff_toInt_lt, Int32.le_iff_toInt_le, ← Int32.toInt_inj, hk_t0, hk_t1, hk_t2, hk_t3, hk_t4, hk_t5, hk_t6, hk_t7, hk_t8, hk_t9, hk_t10, hk_t11, hk_t12, hk_t13, hk_t14, hk_t15, hk_t16, hk_t17, hk_t18, hk_t20, hk_t32, hk_tm1, hk_t256, hk_t1500, hk_t4096, hk_t2000, hk_t3000, hk_t512, hk_t1024, true_and, and_true, false_and, and_false, true_or, or_true, false_or, or_false, not_true_eq_false, not_false_eq_true] at cc_2 cc_3 cc_6 <;> unfold hk_qf <;> (repeat' split) <;> first | rfl | (exfalso; omega)) dX12_property_390
      · refine lv_iload_n hx hb dX12_property_61 rfl (lv_at hl 2 rfl) ?_
        refine lv_aload_n hx hb dX12_property_62 rfl (lv_at hl 0 rfl) ?_
        refine hk_get (ci := 15) (C := RX12) (T := TX12) (N := 92) (v := .int 0) hx hb hts iX12 hown hw 0 rfl rfl 3 (by decide) (hts _ (List.mem_of_getElem? (i := 3) rfl)) rfl dX12_property_63 ?_
        refine lv_iadd hx hb dX12_property_66 ?_
        refine lv_iconst (v := 4) hx hb dX12_property_67 (by decide) ?_
        refine lv_icmp_gt (tgt := 75) hx hb dX12_property_68 (by decide) (fun cc_9 => ?_) (fun cc_9 => ?_)
        · refine lv_iconst (v := 0) hx hb dX12_property_75 (by decide) ?_
          refine lv_istore_n (lv' := [(3, .int 0), (0, .ref (ad 0)), (1, .int wt), (2, .int v)]) hx hb dX12_property_76 rfl hl (by decide) rfl (fun ls hl => ?_)
          refine lv_aload_n hx hb dX12_property_77 rfl (lv_at hl 1 rfl) ?_
          refine lv_iload_n hx hb dX12_property_78 rfl (lv_at hl 0 rfl) ?_
          refine lv_if_eq (tgt := 86) hx hb dX12_property_79 (by decide) (fun _ => ?_) (fun cc_10 => absurd (by decide) cc_10)
          refine lv_aload_n hx hb dX12_property_86 rfl (lv_at hl 1 rfl) ?_
          refine hk_get (ci := 15) (C := RX12) (T := TX12) (N := 92) (v := .int 3) hx hb hts iX12 hown hw 0 rfl rfl 2 (by decide) (hts _ (List.mem_of_getElem? (i := 2) rfl)) rfl dX12_property_87 ?_
          refine hk_put (ci := 15) (C := RX12) (T := TX12) (N := 92) (ty := .int) (v := .int 3) hx hb hts iX12 tyX12 tyX12_ok nmX12 hown hw 0 rfl rfl 2 (by decide) (hts _ (List.mem_of_getElem? (i := 2) rfl)) rfl (by decide +kernel) rfl rfl (Nat.le_of_ble_eq_true rfl) dX12_property_90 (ws' := mw cI cJ ad (upd (upd (mf_g fm) 1 0) 2 3) mf_l ar bk) rfl (fun H locs hw => ?_)
          refine lv_goto (tgt := 381) hx hb dX12_property_93 (by decide) ?_
          refine lv_iload_n hx hb dX12_property_381 rfl (lv_at hl 0 rfl) ?_
          refine lv_if_eq (tgt := 389) hx hb dX12_property_382 (by decide) (fun _ => ?_) (fun cc_11 => absurd (by decide) cc_11)
          refine lv_iconst (v := 0) hx hb dX12_property_389 (by decide) ?_
          exact hk_iret (u := ((upd (upd (mf_g fm) 1 0) 2 3), mf_l, ar, bk)) hx hb hr hlocks (hw) (by have ha := hk_a3 v; simp only [Int32.add_zero, Int32.lt_iff_toInt_lt, Int32.le_iff_toInt_le, ← Int32.toInt_inj, hk_t0, hk_t1, hk_t2, hk_t3, hk_t4, hk_t5, hk_t6, hk_t7, hk_t8, hk_t9, hk_t10, hk_t11, hk_t12, hk_t13, hk_t14, hk_t15, hk_t16, hk_t17, hk_t18, hk_t20, hk_t32, hk_tm1, hk_t256, hk_t1500, hk_t4096, hk_t2000, hk_t3000, hk_t512, hk_t1024, true_and, and_true, false_and, and_false, true_or, or_true, false_or, or_false, not_true_eq_false, not_false_eq_true] at cc_2 cc_3 cc_6 cc_9 <;> unfold hk_qf <;> (repeat' split) <;> first | rfl | (exfalso; omega)) dX12_property_390
        · refine lv_iconst (v := 1) hx hb dX12_property_71 (by decide) ?_
          refine lv_goto (tgt := 76) hx hb dX12_property_72 (by decide) ?_
          refine lv_istore_n (lv' := [(3, .int 1), (0, .ref (ad 0)), (1, .int wt), (2, .int v)]) hx hb dX12_property_76 rfl hl (by decide) rfl (fun ls hl => ?_)
          refine lv_aload_n hx hb dX12_property_77 rfl (lv_at hl 1 rfl) ?_
          refine lv_iload_n hx hb dX12_property_78 rfl (lv_at hl 0 rfl) ?_
          refine lv_if_eq (tgt := 86) hx hb dX12_property_79 (by decide) (fun cc_12 => absurd cc_12 (by decide)) (fun _ => ?_)
          refine lv_iload_n hx hb dX12_property_82 rfl (lv_at hl 3 rfl) ?_
          refine lv_goto (tgt := 90) hx hb dX12_property_83 (by decide) ?_
          refine hk_put (ci := 15) (C := RX12) (T := TX12) (N := 92) (ty := .int) (v := .int v) hx hb hts iX12 tyX12 tyX12_ok nmX12 hown hw 0 rfl rfl 2 (by decide) (hts _ (List.mem_of_getElem? (i := 2) rfl)) rfl (by decide +kernel) rfl rfl (Nat.le_of_ble_eq_true rfl) dX12_property_90 (ws' := mw cI cJ ad (upd (upd (mf_g fm) 1 0) 2 v) mf_l ar bk) rfl (fun H locs hw => ?_)
          refine lv_goto (tgt := 381) hx hb dX12_property_93 (by decide) ?_
          refine lv_iload_n hx hb dX12_property_381 rfl (lv_at hl 0 rfl) ?_
          refine lv_if_eq (tgt := 389) hx hb dX12_property_382 (by decide) (fun cc_13 => absurd cc_13 (by decide)) (fun _ => ?_)
          refine lv_iconst (v := 1) hx hb dX12_property_385 (by decide) ?_
          refine lv_goto (tgt := 390) hx hb dX12_property_386 (by decide) ?_
          exact hk_iret (u := ((upd (upd (mf_g fm) 1 0) 2 v), mf_l, ar, bk)) hx hb hr hlocks (hw) (by have ha := hk_a3 v; simp only [Int32.add_zero, Int32.lt_iff_toInt_lt, Int32.le_iff_toInt_le, ← Int32.toInt_inj, hk_t0, hk_t1, hk_t2, hk_t3, hk_t4, hk_t5, hk_t6, hk_t7, hk_t8, hk_t9, hk_t10, hk_t11, hk_t12, hk_t13, hk_t14, hk_t15, hk_t16, hk_t17, hk_t18, hk_t20, hk_t32, hk_tm1, hk_t256, hk_t1500, hk_t4096, hk_t2000, hk_t3000, hk_t512, hk_t1024, true_and, and_true, false_and, and_false, true_or, or_true, false_or, or_false, not_true_eq_false, not_false_eq_true] at cc_2 cc_3 cc_6 cc_9 <;> unfold hk_qf <;> (repeat' split) <;> first | rfl | (exfalso; omega)) dX12_property_390
  rcases hk_eqOr wt 1 with cc_14 | cc_14
  · refine lv_tableIn (tgt := 96) (off := 90) hx hb dX12_property_6 (by rw [cc_14]; decide) (by rw [cc_14]; decide) (by rw [cc_14]; rfl) (by decide) ?_
    refine lv_iload_n hx hb dX12_property_96 rfl (lv_at hl 2 rfl) ?_
    refine lv_if_lt (tgt := 119) hx hb dX12_property_97 (by decide) (fun cc_15 => ?_) (fun cc_15 => ?_)
    · refine lv_iconst (v := 0) hx hb dX12_property_119 (by decide) ?_
      refine lv_istore_n (lv' := [(3, .int 0), (0, .ref (ad 0)), (1, .int wt), (2, .int v)]) hx hb dX12_property_120 rfl hl (by decide) rfl (fun ls hl => ?_)
      refine lv_aload_n hx hb dX12_property_121 rfl (lv_at hl 1 rfl) ?_
      refine lv_iload_n hx hb dX12_property_122 rfl (lv_at hl 0 rfl) ?_
      refine lv_if_eq (tgt := 130) hx hb dX12_property_123 (by decide) (fun _ => ?_) (fun cc_16 => absurd (by decide) cc_16)
      refine lv_aload_n hx hb dX12_property_130 rfl (lv_at hl 1 rfl) ?_
      refine hk_get (ci := 15) (C := RX12) (T := TX12) (N := 92) (v := .int 0) hx hb hts iX12 hown hw 0 rfl rfl 3 (by decide) (hts _ (List.mem_of_getElem? (i := 3) rfl)) rfl dX12_property_131 ?_
      refine hk_put (ci := 15) (C := RX12) (T := TX12) (N := 92) (ty := .int) (v := .int 0) hx hb hts iX12 tyX12 tyX12_ok nmX12 hown hw 0 rfl rfl 3 (by decide) (hts _ (List.mem_of_getElem? (i := 3) rfl)) rfl (by decide +kernel) rfl rfl (Nat.le_of_ble_eq_true rfl) dX12_property_134 (ws' := mw cI cJ ad (upd (upd (mf_g fm) 1 0) 3 0) mf_l ar bk) rfl (fun H locs hw => ?_)
      refine lv_goto (tgt := 381) hx hb dX12_property_137 (by decide) ?_
      refine lv_iload_n hx hb dX12_property_381 rfl (lv_at hl 0 rfl) ?_
      refine lv_if_eq (tgt := 389) hx hb dX12_property_382 (by decide) (fun _ => ?_) (fun cc_17 => absurd (by decide) cc_17)
      refine lv_iconst (v := 0) hx hb dX12_property_389 (by decide) ?_
      exact hk_iret (u := ((upd (upd (mf_g fm) 1 0) 3 0), mf_l, ar, bk)) hx hb hr hlocks (hw) (by have ha := hk_a3 v; simp only [Int32.add_zero, Int32.lt_iff_toInt_lt, Int32.le_iff_toInt_le, ← Int32.toInt_inj, hk_t0, hk_t1, hk_t2, hk_t3, hk_t4, hk_t5, hk_t6, hk_t7, hk_t8, hk_t9, hk_t10, hk_t11, hk_t12, hk_t13, hk_t14, hk_t15, hk_t16, hk_t17, hk_t18, hk_t20, hk_t32, hk_tm1, hk_t256, hk_t1500, hk_t4096, hk_t2000, hk_t3000, hk_t512, hk_t1024, true_and, and_true, false_and, and_false, true_or, or_true, false_or, or_false, not_true_eq_false, not_false_eq_true] at cc_2 cc_14 cc_15 <;> unfold hk_qf <;> (repeat' split) <;> first | rfl | (exfalso; omega)) dX12_property_390
    · refine lv_iload_n hx hb dX12_property_100 rfl (lv_at hl 2 rfl) ?_
      refine lv_iconst (v := 4) hx hb dX12_property_101 (by decide) ?_
      refine lv_icmp_gt (tgt := 119) hx hb dX12_property_102 (by decide) (fun cc_18 => ?_) (fun cc_18 => ?_)
      · refine lv_iconst (v := 0) hx hb dX12_property_119 (by decide) ?_
        refine lv_istore_n (lv' := [(3, .int 0), (0, .ref (ad 0)), (1, .int wt), (2, .int v)]) hx hb dX12_property_120 rfl hl (by decide) rfl (fun ls hl => ?_)
        refine lv_aload_n hx hb dX12_property_121 rfl (lv_at hl 1 rfl) ?_
        refine lv_iload_n hx hb dX12_property_122 rfl (lv_at hl 0 rfl) ?_
        refine lv_if_eq (tgt := 130) hx hb dX12_property_123 (by decide) (fun _ => ?_) (fun cc_19 => absurd (by decide) cc_19)
        refine lv_aload_n hx hb dX12_property_130 rfl (lv_at hl 1 rfl) ?_
        refine hk_get (ci := 15) (C := RX12) (T := TX12) (N := 92) (v := .int 0) hx hb hts iX12 hown hw 0 rfl rfl 3 (by decide) (hts _ (List.mem_of_getElem? (i := 3) rfl)) rfl dX12_property_131 ?_
        refine hk_put (ci := 15) (C := RX12) (T := TX12) (N := 92) (ty := .int) (v := .int 0) hx hb hts iX12 tyX12 tyX12_ok nmX12 hown hw 0 rfl rfl 3 (by decide) (hts _ (List.mem_of_getElem? (i := 3) rfl)) rfl (by decide +kernel) rfl rfl (Nat.le_of_ble_eq_true rfl) dX12_property_134 (ws' := mw cI cJ ad (upd (upd (mf_g fm) 1 0) 3 0) mf_l ar bk) rfl (fun H locs hw => ?_)
        refine lv_goto (tgt := 381) hx hb dX12_property_137 (by decide) ?_
        refine lv_iload_n hx hb dX12_property_381 rfl (lv_at hl 0 rfl) ?_
        refine lv_if_eq (tgt := 389) hx hb dX12_property_382 (by decide) (fun _ => ?_) (fun cc_20 => absurd (by decide) cc_20)
        refine lv_iconst (v := 0) hx hb dX12_property_389 (by decide) ?_
        exact hk_iret (u := ((upd (upd (mf_g fm) 1 0) 3 0), mf_l, ar, bk)) hx hb hr hlocks (hw) (by have ha := hk_a3 v; simp only [Int32.add_zero, Int32.lt_iff_toInt_lt, Int32.le_iff_toInt_le, ← Int32.toInt_inj, hk_t0, hk_t1, hk_t2, hk_t3, hk_t4, hk_t5, hk_t6, hk_t7, hk_t8, hk_t9, hk_t10, hk_t11, hk_t12, hk_t13, hk_t14, hk_t15, hk_t16, hk_t17, hk_t18, hk_t20, hk_t32, hk_tm1, hk_t256, hk_t1500, hk_t4096, hk_t2000, hk_t3000, hk_t512, hk_t1024, true_and, and_true, false_and, and_false, true_or, or_true, false_or, or_false, not_true_eq_false, not_false_eq_true] at cc_2 cc_14 cc_15 cc_18 <;> unfold hk_qf <;> (repeat' split) <;> first | rfl | (exfalso; omega)) dX12_property_390
      · refine lv_iload_n hx hb dX12_property_105 rfl (lv_at hl 2 rfl) ?_
        refine lv_aload_n hx hb dX12_property_106 rfl (lv_at hl 0 rfl) ?_
        refine hk_get (ci := 15) (C := RX12) (T := TX12) (N := 92) (v := .int 3) hx hb hts iX12 hown hw 0 rfl rfl 2 (by decide) (hts _ (List.mem_of_getElem? (i := 2) rfl)) rfl dX12_property_107 ?_
        refine lv_iadd hx hb dX12_property_110 ?_
        refine lv_iconst (v := 4) hx hb dX12_property_111 (by decide) ?_
        refine lv_icmp_gt (tgt := 119) hx hb dX12_property_112 (by decide) (fun cc_21 => ?_) (fun cc_21 => ?_)
        · refine lv_iconst (v := 0) hx hb dX12_property_119 (by decide) ?_
          refine lv_istore_n (lv' := [(3, .int 0), (0, .ref (ad 0)), (1, .int wt), (2, .int v)]) hx hb dX12_property_120 rfl hl (by decide) rfl (fun ls hl => ?_)
          refine lv_aload_n hx hb dX12_property_121 rfl (lv_at hl 1 rfl) ?_
          refine lv_iload_n hx hb dX12_property_122 rfl (lv_at hl 0 rfl) ?_
          refine lv_if_eq (tgt := 130) hx hb dX12_property_123 (by decide) (fun _ => ?_) (fun cc_22 => absurd (by decide) cc_22)
          refine lv_aload_n hx hb dX12_property_130 rfl (lv_at hl 1 rfl) ?_
          refine hk_get (ci := 15) (C := RX12) (T := TX12) (N := 92) (v := .int 0) hx hb hts iX12 hown hw 0 rfl rfl 3 (by decide) (hts _ (List.mem_of_getElem? (i := 3) rfl)) rfl dX12_property_131 ?_
          refine hk_put (ci := 15) (C := RX12) (T := TX12) (N := 92) (ty := .int) (v := .int 0) hx hb hts iX12 tyX12 tyX12_ok nmX12 hown hw 0 rfl rfl 3 (by decide) (hts _ (List.mem_of_getElem? (i := 3) rfl)) rfl (by decide +kernel) rfl rfl (Nat.le_of_ble_eq_true rfl) dX12_property_134 (ws' := mw cI cJ ad (upd (upd (mf_g fm) 1 0) 3 0) mf_l ar bk) rfl (fun H locs hw => ?_)
          refine lv_goto (tgt := 381) hx hb dX12_property_137 (by decide) ?_
          refine lv_iload_n hx hb dX12_property_381 rfl (lv_at hl 0 rfl) ?_
          refine lv_if_eq (tgt := 389) hx hb dX12_property_382 (by decide) (fun _ => ?_) (fun cc_23 => absurd (by decide) cc_23)
          refine lv_iconst (v := 0) hx hb dX12_property_389 (by decide) ?_
          exact hk_iret (u := ((upd (upd (mf_g fm) 1 0) 3 0), mf_l, ar, bk)) hx hb hr hlocks (hw) (by have ha := hk_a3 v; simp only [Int32.add_zero, Int32.lt_iff_toInt_lt, Int32.le_iff_toInt_le, ← Int32.toInt_inj, hk_t0, hk_t1, hk_t2, hk_t3, hk_t4, hk_t5, hk_t6, hk_t7, hk_t8, hk_t9, hk_t10, hk_t11, hk_t12, hk_t13, hk_t14, hk_t15, hk_t16, hk_t17, hk_t18, hk_t20, hk_t32, hk_tm1, hk_t256, hk_t1500, hk_t4096, hk_t2000, hk_t3000, hk_t512, hk_t1024, true_and, and_true, false_and, and_false, true_or, or_true, false_or, or_false, not_true_eq_false, not_false_eq_true] at cc_2 cc_14 cc_15 cc_18 cc_21 <;> unfold hk_qf <;> (repeat' split) <;> first | rfl | (exfalso; omega)) dX12_property_390
        · refine lv_iconst (v := 1) hx hb dX12_property_115 (by decide) ?_
          refine lv_goto (tgt := 120) hx hb dX12_property_116 (by decide) ?_
          refine lv_istore_n (lv' := [(3, .int 1), (0, .ref (ad 0)), (1, .int wt), (2, .int v)]) hx hb dX12_property_120 rfl hl (by decide) rfl (fun ls hl => ?_)
          refine lv_aload_n hx hb dX12_property_121 rfl (lv_at hl 1 rfl) ?_
          refine lv_iload_n hx hb dX12_property_122 rfl (lv_at hl 0 rfl) ?_
          refine lv_if_eq (tgt := 130) hx hb dX12_property_123 (by decide) (fun cc_24 => absurd cc_24 (by decide)) (fun _ => ?_)
          refine lv_iload_n hx hb dX12_property_126 rfl (lv_at hl 3 rfl) ?_
          refine lv_goto (tgt := 134) hx hb dX12_property_127 (by decide) ?_
          refine hk_put (ci := 15) (C := RX12) (T := TX12) (N := 92) (ty := .int) (v := .int v) hx hb hts iX12 tyX12 tyX12_ok nmX12 hown hw 0 rfl rfl 3 (by decide) (hts _ (List.mem_of_getElem? (i := 3) rfl)) rfl (by decide +kernel) rfl rfl (Nat.le_of_ble_eq_true rfl) dX12_property_134 (ws' := mw cI cJ ad (upd (upd (mf_g fm) 1 0) 3 v) mf_l ar bk) rfl (fun H locs hw => ?_)
          refine lv_goto (tgt := 381) hx hb dX12_property_137 (by decide) ?_
          refine lv_iload_n hx hb dX12_property_381 rfl (lv_at hl 0 rfl) ?_
          refine lv_if_eq (tgt := 389) hx hb dX12_property_382 (by decide) (fun cc_25 => absurd cc_25 (by decide)) (fun _ => ?_)
          refine lv_iconst (v := 1) hx hb dX12_property_385 (by decide) ?_
          refine lv_goto (tgt := 390) hx hb dX12_property_386 (by decide) ?_
          exact hk_iret (u := ((upd (upd (mf_g fm) 1 0) 3 v), mf_l, ar, bk)) hx hb hr hlocks (hw) (by have ha := hk_a3 v; simp only [Int32.add_zero, Int32.lt_iff_toInt_lt, Int32.le_iff_toInt_le, ← Int32.toInt_inj, hk_t0, hk_t1, hk_t2, hk_t3, hk_t4, hk_t5, hk_t6, hk_t7, hk_t8, hk_t9, hk_t10, hk_t11, hk_t12, hk_t13, hk_t14, hk_t15, hk_t16, hk_t17, hk_t18, hk_t20, hk_t32, hk_tm1, hk_t256, hk_t1500, hk_t4096, hk_t2000, hk_t3000, hk_t512, hk_t1024, true_and, and_true, false_and, and_false, true_or, or_true, false_or, or_false, not_true_eq_false, not_false_eq_true] at cc_2 cc_14 cc_15 cc_18 cc_21 <;> unfold hk_qf <;> (repeat' split) <;> first | rfl | (exfalso; omega)) dX12_property_390
  rcases hk_eqOr wt 2 with cc_26 | cc_26
  · refine lv_tableIn (tgt := 140) (off := 134) hx hb dX12_property_6 (by rw [cc_26]; decide) (by rw [cc_26]; decide) (by rw [cc_26]; rfl) (by decide) ?_
    refine lv_iload_n hx hb dX12_property_140 rfl (lv_at hl 2 rfl) ?_
    refine lv_if_lt (tgt := 153) hx hb dX12_property_141 (by decide) (fun cc_27 => ?_) (fun cc_27 => ?_)
    · refine lv_iconst (v := 0) hx hb dX12_property_153 (by decide) ?_
      refine lv_istore_n (lv' := [(3, .int 0), (0, .ref (ad 0)), (1, .int wt), (2, .int v)]) hx hb dX12_property_154 rfl hl (by decide) rfl (fun ls hl => ?_)
      refine lv_aload_n hx hb dX12_property_155 rfl (lv_at hl 1 rfl) ?_
      refine lv_iload_n hx hb dX12_property_156 rfl (lv_at hl 0 rfl) ?_
      refine lv_if_eq (tgt := 164) hx hb dX12_property_157 (by decide) (fun _ => ?_) (fun cc_28 => absurd (by decide) cc_28)
      refine lv_aload_n hx hb dX12_property_164 rfl (lv_at hl 1 rfl) ?_
      refine hk_get (ci := 15) (C := RX12) (T := TX12) (N := 92) (v := .int 2) hx hb hts iX12 hown hw 0 rfl rfl 4 (by decide) (hts _ (List.mem_of_getElem? (i := 4) rfl)) rfl dX12_property_165 ?_
      refine hk_put (ci := 15) (C := RX12) (T := TX12) (N := 92) (ty := .int) (v := .int 2) hx hb hts iX12 tyX12 tyX12_ok nmX12 hown hw 0 rfl rfl 4 (by decide) (hts _ (List.mem_of_getElem? (i := 4) rfl)) rfl (by decide +kernel) rfl rfl (Nat.le_of_ble_eq_true rfl) dX12_property_168 (ws' := mw cI cJ ad (upd (upd (mf_g fm) 1 0) 4 2) mf_l ar bk) rfl (fun H locs hw => ?_)
      refine lv_goto (tgt := 381) hx hb dX12_property_171 (by decide) ?_
      refine lv_iload_n hx hb dX12_property_381 rfl (lv_at hl 0 rfl) ?_
      refine lv_if_eq (tgt := 389) hx hb dX12_property_382 (by decide) (fun _ => ?_) (fun cc_29 => absurd (by decide) cc_29)
      refine lv_iconst (v := 0) hx hb dX12_property_389 (by decide) ?_
      exact hk_iret (u := ((upd (upd (mf_g fm) 1 0) 4 2), mf_l, ar, bk)) hx hb hr hlocks (hw) (by have ha := hk_a3 v; simp only [Int32.add_zero, Int32.lt_iff_toInt_lt, Int32.le_iff_toInt_le, ← Int32.toInt_inj, hk_t0, hk_t1, hk_t2, hk_t3, hk_t4, hk_t5, hk_t6, hk_t7, hk_t8, hk_t9, hk_t10, hk_t11, hk_t12, hk_t13, hk_t14, hk_t15, hk_t16, hk_t17, hk_t18, hk_t20, hk_t32, hk_tm1, hk_t256, hk_t1500, hk_t4096, hk_t2000, hk_t3000, hk_t512, hk_t1024, true_and, and_true, false_and, and_false, true_or, or_true, false_or, or_false, not_true_eq_false, not_false_eq_true] at cc_2 cc_14 cc_26 cc_27 <;> unfold hk_qf <;> (repeat' split) <;> first | rfl | (exfalso; omega)) dX12_property_390
    · refine lv_iload_n hx hb dX12_property_144 rfl (lv_at hl 2 rfl) ?_
      refine lv_iconst (v := 4) hx hb dX12_property_145 (by decide) ?_
      refine lv_icmp_gt (tgt := 153) hx hb dX12_property_146 (by decide) (fun cc_30 => ?_) (fun cc_30 => ?_)
      · refine lv_iconst (v := 0) hx hb dX12_property_153 (by decide) ?_
        refine lv_istore_n (lv' := [(3, .int 0), (0, .ref (ad 0)), (1, .int wt), (2, .int v)]) hx hb dX12_property_154 rfl hl (by decide) rfl (fun ls hl => ?_)
        refine lv_aload_n hx hb dX12_property_155 rfl (lv_at hl 1 rfl) ?_
        refine lv_iload_n hx hb dX12_property_156 rfl (lv_at hl 0 rfl) ?_
        refine lv_if_eq (tgt := 164) hx hb dX12_property_157 (by decide) (fun _ => ?_) (fun cc_31 => absurd (by decide) cc_31)
        refine lv_aload_n hx hb dX12_property_164 rfl (lv_at hl 1 rfl) ?_
        refine hk_get (ci := 15) (C := RX12) (T := TX12) (N := 92) (v := .int 2) hx hb hts iX12 hown hw 0 rfl rfl 4 (by decide) (hts _ (List.mem_of_getElem? (i := 4) rfl)) rfl dX12_property_165 ?_
        refine hk_put (ci := 15) (C := RX12) (T := TX12) (N := 92) (ty := .int) (v := .int 2) hx hb hts iX12 tyX12 tyX12_ok nmX12 hown hw 0 rfl rfl 4 (by decide) (hts _ (List.mem_of_getElem? (i := 4) rfl)) rfl (by decide +kernel) rfl rfl (Nat.le_of_ble_eq_true rfl) dX12_property_168 (ws' := mw cI cJ ad (upd (upd (mf_g fm) 1 0) 4 2) mf_l ar bk) rfl (fun H locs hw => ?_)
        refine lv_goto (tgt := 381) hx hb dX12_property_171 (by decide) ?_
        refine lv_iload_n hx hb dX12_property_381 rfl (lv_at hl 0 rfl) ?_
        refine lv_if_eq (tgt := 389) hx hb dX12_property_382 (by decide) (fun _ => ?_) (fun cc_32 => absurd (by decide) cc_32)
        refine lv_iconst (v := 0) hx hb dX12_property_389 (by decide) ?_
        exact hk_iret (u := ((upd (upd (mf_g fm) 1 0) 4 2), mf_l, ar, bk)) hx hb hr hlocks (hw) (by have ha := hk_a3 v; simp only [Int32.add_zero, Int32.lt_iff_toInt_lt, Int32.le_iff_toInt_le, ← Int32.toInt_inj, hk_t0, hk_t1, hk_t2, hk_t3, hk_t4, hk_t5, hk_t6, hk_t7, hk_t8, hk_t9, hk_t10, hk_t11, hk_t12, hk_t13, hk_t14, hk_t15, hk_t16, hk_t17, hk_t18, hk_t20, hk_t32, hk_tm1, hk_t256, hk_t1500, hk_t4096, hk_t2000, hk_t3000, hk_t512, hk_t1024, true_and, and_true, false_and, and_false, true_or, or_true, false_or, or_false, not_true_eq_false, not_false_eq_true] at cc_2 cc_14 cc_26 cc_27 cc_30 <;> unfold hk_qf <;> (repeat' split) <;> first | rfl | (exfalso; omega)) dX12_property_390
      · refine lv_iconst (v := 1) hx hb dX12_property_149 (by decide) ?_
        refine lv_goto (tgt := 154) hx hb dX12_property_150 (by decide) ?_
        refine lv_istore_n (lv' := [(3, .int 1), (0, .ref (ad 0)), (1, .int wt), (2, .int v)]) hx hb dX12_property_154 rfl hl (by decide) rfl (fun ls hl => ?_)
        refine lv_aload_n hx hb dX12_property_155 rfl (lv_at hl 1 rfl) ?_
        refine lv_iload_n hx hb dX12_property_156 rfl (lv_at hl 0 rfl) ?_
        refine lv_if_eq (tgt := 164) hx hb dX12_property_157 (by decide) (fun cc_33 => absurd cc_33 (by decide)) (fun _ => ?_)
        refine lv_iload_n hx hb dX12_property_160 rfl (lv_at hl 3 rfl) ?_
        refine lv_goto (tgt := 168) hx hb dX12_property_161 (by decide) ?_
        refine hk_put (ci := 15) (C := RX12) (T := TX12) (N := 92) (ty := .int) (v := .int v) hx hb hts iX12 tyX12 tyX12_ok nmX12 hown hw 0 rfl rfl 4 (by decide) (hts _ (List.mem_of_getElem? (i := 4) rfl)) rfl (by decide +kernel) rfl rfl (Nat.le_of_ble_eq_true rfl) dX12_property_168 (ws' := mw cI cJ ad (upd (upd (mf_g fm) 1 0) 4 v) mf_l ar bk) rfl (fun H locs hw => ?_)
        refine lv_goto (tgt := 381) hx hb dX12_property_171 (by decide) ?_
        refine lv_iload_n hx hb dX12_property_381 rfl (lv_at hl 0 rfl) ?_
        refine lv_if_eq (tgt := 389) hx hb dX12_property_382 (by decide) (fun cc_34 => absurd cc_34 (by decide)) (fun _ => ?_)
        refine lv_iconst (v := 1) hx hb dX12_property_385 (by decide) ?_
        refine lv_goto (tgt := 390) hx hb dX12_property_386 (by decide) ?_
        exact hk_iret (u := ((upd (upd (mf_g fm) 1 0) 4 v), mf_l, ar, bk)) hx hb hr hlocks (hw) (by have ha := hk_a3 v; simp only [Int32.add_zero, Int32.lt_iff_toInt_lt, Int32.le_iff_toInt_le, ← Int32.toInt_inj, hk_t0, hk_t1, hk_t2, hk_t3, hk_t4, hk_t5, hk_t6, hk_t7, hk_t8, hk_t9, hk_t10, hk_t11, hk_t12, hk_t13, hk_t14, hk_t15, hk_t16, hk_t17, hk_t18, hk_t20, hk_t32, hk_tm1, hk_t256, hk_t1500, hk_t4096, hk_t2000, hk_t3000, hk_t512, hk_t1024, true_and, and_true, false_and, and_false, true_or, or_true, false_or, or_false, not_true_eq_false, not_false_eq_true] at cc_2 cc_14 cc_26 cc_27 cc_30 <;> unfold hk_qf <;> (repeat' split) <;> first | rfl | (exfalso; omega)) dX12_property_390
  rcases hk_eqOr wt 3 with cc_35 | cc_35
  · refine lv_tableIn (tgt := 174) (off := 168) hx hb dX12_property_6 (by rw [cc_35]; decide) (by rw [cc_35]; decide) (by rw [cc_35]; rfl) (by decide) ?_
    refine lv_iload_n hx hb dX12_property_174 rfl (lv_at hl 2 rfl) ?_
    refine lv_iconst (v := 1) hx hb dX12_property_175 (by decide) ?_
    refine lv_icmp_lt (tgt := 205) hx hb dX12_property_176 (by decide) (fun cc_36 => ?_) (fun cc_36 => ?_)
    · refine lv_iconst (v := 0) hx hb dX12_property_205 (by decide) ?_
      refine lv_istore_n (lv' := [(3, .int 0), (0, .ref (ad 0)), (1, .int wt), (2, .int v)]) hx hb dX12_property_206 rfl hl (by decide) rfl (fun ls hl => ?_)
      refine lv_aload_n hx hb dX12_property_207 rfl (lv_at hl 1 rfl) ?_
      refine lv_iload_n hx hb dX12_property_208 rfl (lv_at hl 0 rfl) ?_
      refine lv_if_eq (tgt := 216) hx hb dX12_property_209 (by decide) (fun _ => ?_) (fun cc_37 => absurd (by decide) cc_37)
      refine lv_aload_n hx hb dX12_property_216 rfl (lv_at hl 1 rfl) ?_
      refine hk_get (ci := 15) (C := RX12) (T := TX12) (N := 92) (v := .int 4096) hx hb hts iX12 hown hw 0 rfl rfl 5 (by decide) (hts _ (List.mem_of_getElem? (i := 5) rfl)) rfl dX12_property_217 ?_
      refine hk_put (ci := 15) (C := RX12) (T := TX12) (N := 92) (ty := .int) (v := .int 4096) hx hb hts iX12 tyX12 tyX12_ok nmX12 hown hw 0 rfl rfl 5 (by decide) (hts _ (List.mem_of_getElem? (i := 5) rfl)) rfl (by decide +kernel) rfl rfl (Nat.le_of_ble_eq_true rfl) dX12_property_220 (ws' := mw cI cJ ad (upd (upd (mf_g fm) 1 0) 5 4096) mf_l ar bk) rfl (fun H locs hw => ?_)
      refine lv_goto (tgt := 381) hx hb dX12_property_223 (by decide) ?_
      refine lv_iload_n hx hb dX12_property_381 rfl (lv_at hl 0 rfl) ?_
      refine lv_if_eq (tgt := 389) hx hb dX12_property_382 (by decide) (fun _ => ?_) (fun cc_38 => absurd (by decide) cc_38)
      refine lv_iconst (v := 0) hx hb dX12_property_389 (by decide) ?_
      exact hk_iret (u := ((upd (upd (mf_g fm) 1 0) 5 4096), mf_l, ar, bk)) hx hb hr hlocks (hw) (by have ha := hk_a3 v; simp only [Int32.add_zero, Int32.lt_iff_toInt_lt, Int32.le_iff_toInt_le, ← Int32.toInt_inj, hk_t0, hk_t1, hk_t2, hk_t3, hk_t4, hk_t5, hk_t6, hk_t7, hk_t8, hk_t9, hk_t10, hk_t11, hk_t12, hk_t13, hk_t14, hk_t15, hk_t16, hk_t17, hk_t18, hk_t20, hk_t32, hk_tm1, hk_t256, hk_t1500, hk_t4096, hk_t2000, hk_t3000, hk_t512, hk_t1024, true_and, and_true, false_and, and_false, true_or, or_true, false_or, or_false, not_true_eq_false, not_false_eq_true] at cc_2 cc_14 cc_26 cc_35 cc_36 <;> unfold hk_qf <;> (repeat' split) <;> first | rfl | (exfalso; omega)) dX12_property_390
    · refine lv_iload_n hx hb dX12_property_179 rfl (lv_at hl 2 rfl) ?_
      refine lv_sipush (v := 4096) hx hb dX12_property_180 (by decide) ?_
      refine lv_icmp_gt (tgt := 205) hx hb dX12_property_183 (by decide) (fun cc_39 => ?_) (fun cc_39 => ?_)
      · refine lv_iconst (v := 0) hx hb dX12_property_205 (by decide) ?_
        refine lv_istore_n (lv' := [(3, .int 0), (0, .ref (ad 0)), (1, .int wt), (2, .int v)]) hx hb dX12_property_206 rfl hl (by decide) rfl (fun ls hl => ?_)
        refine lv_aload_n hx hb dX12_property_207 rfl (lv_at hl 1 rfl) ?_
        refine lv_iload_n hx hb dX12_property_208 rfl (lv_at hl 0 rfl) ?_
        refine lv_if_eq (tgt := 216) hx hb dX12_property_209 (by decide) (fun _ => ?_) (fun cc_40 => absurd (by decide) cc_40)
        refine lv_aload_n hx hb dX12_property_216 rfl (lv_at hl 1 rfl) ?_
        refine hk_get (ci := 15) (C := RX12) (T := TX12) (N := 92) (v := .int 4096) hx hb hts iX12 hown hw 0 rfl rfl 5 (by decide) (hts _ (List.mem_of_getElem? (i := 5) rfl)) rfl dX12_property_217 ?_
        refine hk_put (ci := 15) (C := RX12) (T := TX12) (N := 92) (ty := .int) (v := .int 4096) hx hb hts iX12 tyX12 tyX12_ok nmX12 hown hw 0 rfl rfl 5 (by decide) (hts _ (List.mem_of_getElem? (i := 5) rfl)) rfl (by decide +kernel) rfl rfl (Nat.le_of_ble_eq_true rfl) dX12_property_220 (ws' := mw cI cJ ad (upd (upd (mf_g fm) 1 0) 5 4096) mf_l ar bk) rfl (fun H locs hw => ?_)
        refine lv_goto (tgt := 381) hx hb dX12_property_223 (by decide) ?_
        refine lv_iload_n hx hb dX12_property_381 rfl (lv_at hl 0 rfl) ?_
        refine lv_if_eq (tgt := 389) hx hb dX12_property_382 (by decide) (fun _ => ?_) (fun cc_41 => absurd (by decide) cc_41)
        refine lv_iconst (v := 0) hx hb dX12_property_389 (by decide) ?_
        exact hk_iret (u := ((upd (upd (mf_g fm) 1 0) 5 4096), mf_l, ar, bk)) hx hb hr hlocks (hw) (by have ha := hk_a3 v; simp only [Int32.add_zero, Int32.lt_iff_toInt_lt, Int32.le_iff_toInt_le, ← Int32.toInt_inj, hk_t0, hk_t1, hk_t2, hk_t3, hk_t4, hk_t5, hk_t6, hk_t7, hk_t8, hk_t9, hk_t10, hk_t11, hk_t12, hk_t13, hk_t14, hk_t15, hk_t16, hk_t17, hk_t18, hk_t20, hk_t32, hk_tm1, hk_t256, hk_t1500, hk_t4096, hk_t2000, hk_t3000, hk_t512, hk_t1024, true_and, and_true, false_and, and_false, true_or, or_true, false_or, or_false, not_true_eq_false, not_false_eq_true] at cc_2 cc_14 cc_26 cc_35 cc_36 cc_39 <;> unfold hk_qf <;> (repeat' split) <;> first | rfl | (exfalso; omega)) dX12_property_390
      · refine lv_aload_n hx hb dX12_property_186 rfl (lv_at hl 0 rfl) ?_
        refine hk_get (ci := 15) (C := RX12) (T := TX12) (N := 92) (v := .int fm) hx hb hts iX12 hown hw 0 rfl rfl 0 (by decide) (hts _ (List.mem_of_getElem? (i := 6) rfl)) rfl dX12_property_187 ?_
        refine lv_iconst (v := 2) hx hb dX12_property_190 (by decide) ?_
        refine lv_icmp_ne (tgt := 201) hx hb dX12_property_191 (by decide) (fun cc_42 => ?_) (fun cc_42 => ?_)
        · refine lv_iconst (v := 1) hx hb dX12_property_201 (by decide) ?_
          refine lv_goto (tgt := 206) hx hb dX12_property_202 (by decide) ?_
          refine lv_istore_n (lv' := [(3, .int 1), (0, .ref (ad 0)), (1, .int wt), (2, .int v)]) hx hb dX12_property_206 rfl hl (by decide) rfl (fun ls hl => ?_)
          refine lv_aload_n hx hb dX12_property_207 rfl (lv_at hl 1 rfl) ?_
          refine lv_iload_n hx hb dX12_property_208 rfl (lv_at hl 0 rfl) ?_
          refine lv_if_eq (tgt := 216) hx hb dX12_property_209 (by decide) (fun cc_43 => absurd cc_43 (by decide)) (fun _ => ?_)
          refine lv_iload_n hx hb dX12_property_212 rfl (lv_at hl 3 rfl) ?_
          refine lv_goto (tgt := 220) hx hb dX12_property_213 (by decide) ?_
          refine hk_put (ci := 15) (C := RX12) (T := TX12) (N := 92) (ty := .int) (v := .int v) hx hb hts iX12 tyX12 tyX12_ok nmX12 hown hw 0 rfl rfl 5 (by decide) (hts _ (List.mem_of_getElem? (i := 5) rfl)) rfl (by decide +kernel) rfl rfl (Nat.le_of_ble_eq_true rfl) dX12_property_220 (ws' := mw cI cJ ad (upd (upd (mf_g fm) 1 0) 5 v) mf_l ar bk) rfl (fun H locs hw => ?_)
          refine lv_goto (tgt := 381) hx hb dX12_property_223 (by decide) ?_
          refine lv_iload_n hx hb dX12_property_381 rfl (lv_at hl 0 rfl) ?_
          refine lv_if_eq (tgt := 389) hx hb dX12_property_382 (by decide) (fun cc_44 => absurd cc_44 (by decide)) (fun _ => ?_)
          refine lv_iconst (v := 1) hx hb dX12_property_385 (by decide) ?_
          refine lv_goto (tgt := 390) hx hb dX12_property_386 (by decide) ?_
          exact hk_iret (u := ((upd (upd (mf_g fm) 1 0) 5 v), mf_l, ar, bk)) hx hb hr hlocks (hw) (by have ha := hk_a3 v; simp only [Int32.add_zero, Int32.lt_iff_toInt_lt, Int32.le_iff_toInt_le, ← Int32.toInt_inj, hk_t0, hk_t1, hk_t2, hk_t3, hk_t4, hk_t5, hk_t6, hk_t7, hk_t8, hk_t9, hk_t10, hk_t11, hk_t12, hk_t13, hk_t14, hk_t15, hk_t16, hk_t17, hk_t18, hk_t20, hk_t32, hk_tm1, hk_t256, hk_t1500, hk_t4096, hk_t2000, hk_t3000, hk_t512, hk_t1024, true_and, and_true, false_and, and_false, true_or, or_true, false_or, or_false, not_true_eq_false, not_false_eq_true] at cc_2 cc_14 cc_26 cc_35 cc_36 cc_39 cc_42 <;> unfold hk_qf <;> (repeat' split) <;> first | rfl | (exfalso; omega)) dX12_property_390
        · refine lv_iload_n hx hb dX12_property_194 rfl (lv_at hl 2 rfl) ?_
          refine lv_sipush (v := 4096) hx hb dX12_property_195 (by decide) ?_
          refine lv_icmp_ne (tgt := 205) hx hb dX12_property_198 (by decide) (fun cc_45 => ?_) (fun cc_45 => ?_)
          · refine lv_iconst (v := 0) hx hb dX12_property_205 (by decide) ?_
            refine lv_istore_n (lv' := [(3, .int 0), (0, .ref (ad 0)), (1, .int wt), (2, .int v)]) hx hb dX12_property_206 rfl hl (by decide) rfl (fun ls hl => ?_)
            refine lv_aload_n hx hb dX12_property_207 rfl (lv_at hl 1 rfl) ?_
            refine lv_iload_n hx hb dX12_property_208 rfl (lv_at hl 0 rfl) ?_
            refine lv_if_eq (tgt := 216) hx hb dX12_property_209 (by decide) (fun _ => ?_) (fun cc_46 => absurd (by decide) cc_46)
            refine lv_aload_n hx hb dX12_property_216 rfl (lv_at hl 1 rfl) ?_
            refine hk_get (ci := 15) (C := RX12) (T := TX12) (N := 92) (v := .int 4096) hx hb hts iX12 hown hw 0 rfl rfl 5 (by decide) (hts _ (List.mem_of_getElem? (i := 5) rfl)) rfl dX12_property_217 ?_
            refine hk_put (ci := 15) (C := RX12) (T := TX12) (N := 92) (ty := .int) (v := .int 4096) hx hb hts iX12 tyX12 tyX12_ok nmX12 hown hw 0 rfl rfl 5 (by decide) (hts _ (List.mem_of_getElem? (i := 5) rfl)) rfl (by decide +kernel) rfl rfl (Nat.le_of_ble_eq_true rfl) dX12_property_220 (ws' := mw cI cJ ad (upd (upd (mf_g fm) 1 0) 5 4096) mf_l ar bk) rfl (fun H locs hw => ?_)
            refine lv_goto (tgt := 381) hx hb dX12_property_223 (by decide) ?_
            refine lv_iload_n hx hb dX12_property_381 rfl (lv_at hl 0 rfl) ?_
            refine lv_if_eq (tgt := 389) hx hb dX12_property_382 (by decide) (fun _ => ?_) (fun cc_47 => absurd (by decide) cc_47)
            refine lv_iconst (v := 0) hx hb dX12_property_389 (by decide) ?_
            exact hk_iret (u := ((upd (upd (mf_g fm) 1 0) 5 4096), mf_l, ar, bk)) hx hb hr hlocks (hw) (by have ha := hk_a3 v; simp only [Int32.add_zero, Int32.lt_iff_toInt_lt, Int32.le_iff_toInt_le, ← Int32.toInt_inj, hk_t0, hk_t1, hk_t2, hk_t3, hk_t4, hk_t5, hk_t6, hk_t7, hk_t8, hk_t9, hk_t10, hk_t11, hk_t12, hk_t13, hk_t14, hk_t15, hk_t16, hk_t17, hk_t18, hk_t20, hk_t32, hk_tm1, hk_t256, hk_t1500, hk_t4096, hk_t2000, hk_t3000, hk_t512, hk_t1024, true_and, and_true, false_and, and_false, true_or, or_true, false_or, or_false, not_true_eq_false, not_false_eq_true] at cc_2 cc_14 cc_26 cc_35 cc_36 cc_39 cc_42 cc_45 <;> unfold hk_qf <;> (repeat' split) <;> first | rfl | (exfalso; omega)) dX12_property_390
          · refine lv_iconst (v := 1) hx hb dX12_property_201 (by decide) ?_
            refine lv_goto (tgt := 206) hx hb dX12_property_202 (by decide) ?_
            refine lv_istore_n (lv' := [(3, .int 1), (0, .ref (ad 0)), (1, .int wt), (2, .int v)]) hx hb dX12_property_206 rfl hl (by decide) rfl (fun ls hl => ?_)
            refine lv_aload_n hx hb dX12_property_207 rfl (lv_at hl 1 rfl) ?_
            refine lv_iload_n hx hb dX12_property_208 rfl (lv_at hl 0 rfl) ?_
            refine lv_if_eq (tgt := 216) hx hb dX12_property_209 (by decide) (fun cc_48 => absurd cc_48 (by decide)) (fun _ => ?_)
            refine lv_iload_n hx hb dX12_property_212 rfl (lv_at hl 3 rfl) ?_
            refine lv_goto (tgt := 220) hx hb dX12_property_213 (by decide) ?_
            refine hk_put (ci := 15) (C := RX12) (T := TX12) (N := 92) (ty := .int) (v := .int v) hx hb hts iX12 tyX12 tyX12_ok nmX12 hown hw 0 rfl rfl 5 (by decide) (hts _ (List.mem_of_getElem? (i := 5) rfl)) rfl (by decide +kernel) rfl rfl (Nat.le_of_ble_eq_true rfl) dX12_property_220 (ws' := mw cI cJ ad (upd (upd (mf_g fm) 1 0) 5 v) mf_l ar bk) rfl (fun H locs hw => ?_)
            refine lv_goto (tgt := 381) hx hb dX12_property_223 (by decide) ?_
            refine lv_iload_n hx hb dX12_property_381 rfl (lv_at hl 0 rfl) ?_
            refine lv_if_eq (tgt := 389) hx hb dX12_property_382 (by decide) (fun cc_49 => absurd cc_49 (by decide)) (fun _ => ?_)
            refine lv_iconst (v := 1) hx hb dX12_property_385 (by decide) ?_
            refine lv_goto (tgt := 390) hx hb dX12_property_386 (by decide) ?_
            exact hk_iret (u := ((upd (upd (mf_g fm) 1 0) 5 v), mf_l, ar, bk)) hx hb hr hlocks (hw) (by have ha := hk_a3 v; simp only [Int32.add_zero, Int32.lt_iff_toInt_lt, Int32.le_iff_toInt_le, ← Int32.toInt_inj, hk_t0, hk_t1, hk_t2, hk_t3, hk_t4, hk_t5, hk_t6, hk_t7, hk_t8, hk_t9, hk_t10, hk_t11, hk_t12, hk_t13, hk_t14, hk_t15, hk_t16, hk_t17, hk_t18, hk_t20, hk_t32, hk_tm1, hk_t256, hk_t1500, hk_t4096, hk_t2000, hk_t3000, hk_t512, hk_t1024, true_and, and_true, false_and, and_false, true_or, or_true, false_or, or_false, not_true_eq_false, not_false_eq_true] at cc_2 cc_14 cc_26 cc_35 cc_36 cc_39 cc_42 cc_45 <;> unfold hk_qf <;> (repeat' split) <;> first | rfl | (exfalso; omega)) dX12_property_390
  rcases hk_eqOr wt 4 with cc_50 | cc_50
  · refine lv_tableIn (tgt := 226) (off := 220) hx hb dX12_property_6 (by rw [cc_50]; decide) (by rw [cc_50]; decide) (by rw [cc_50]; rfl) (by decide) ?_
    refine lv_iload_n hx hb dX12_property_226 rfl (lv_at hl 2 rfl) ?_
    refine lv_iconst (v := 1) hx hb dX12_property_227 (by decide) ?_
    refine lv_icmp_lt (tgt := 242) hx hb dX12_property_228 (by decide) (fun cc_51 => ?_) (fun cc_51 => ?_)
    · refine lv_iconst (v := 0) hx hb dX12_property_242 (by decide) ?_
      refine lv_istore_n (lv' := [(3, .int 0), (0, .ref (ad 0)), (1, .int wt), (2, .int v)]) hx hb dX12_property_243 rfl hl (by decide) rfl (fun ls hl => ?_)
      refine lv_aload_n hx hb dX12_property_244 rfl (lv_at hl 1 rfl) ?_
      refine lv_iload_n hx hb dX12_property_245 rfl (lv_at hl 0 rfl) ?_
      refine lv_if_eq (tgt := 253) hx hb dX12_property_246 (by decide) (fun _ => ?_) (fun cc_52 => absurd (by decide) cc_52)
      refine lv_aload_n hx hb dX12_property_253 rfl (lv_at hl 1 rfl) ?_
      refine hk_get (ci := 15) (C := RX12) (T := TX12) (N := 92) (v := .int 512) hx hb hts iX12 hown hw 0 rfl rfl 6 (by decide) (hts _ (List.mem_of_getElem? (i := 7) rfl)) rfl dX12_property_254 ?_
      refine hk_put (ci := 15) (C := RX12) (T := TX12) (N := 92) (ty := .int) (v := .int 512) hx hb hts iX12 tyX12 tyX12_ok nmX12 hown hw 0 rfl rfl 6 (by decide) (hts _ (List.mem_of_getElem? (i := 7) rfl)) rfl (by decide +kernel) rfl rfl (Nat.le_of_ble_eq_true rfl) dX12_property_257 (ws' := mw cI cJ ad (upd (upd (mf_g fm) 1 0) 6 512) mf_l ar bk) rfl (fun H locs hw => ?_)
      refine lv_goto (tgt := 381) hx hb dX12_property_260 (by decide) ?_
      refine lv_iload_n hx hb dX12_property_381 rfl (lv_at hl 0 rfl) ?_
      refine lv_if_eq (tgt := 389) hx hb dX12_property_382 (by decide) (fun _ => ?_) (fun cc_53 => absurd (by decide) cc_53)
      refine lv_iconst (v := 0) hx hb dX12_property_389 (by decide) ?_
      exact hk_iret (u := ((upd (upd (mf_g fm) 1 0) 6 512), mf_l, ar, bk)) hx hb hr hlocks (hw) (by have ha := hk_a3 v; simp only [Int32.add_zero, Int32.lt_iff_toInt_lt, Int32.le_iff_toInt_le, ← Int32.toInt_inj, hk_t0, hk_t1, hk_t2, hk_t3, hk_t4, hk_t5, hk_t6, hk_t7, hk_t8, hk_t9, hk_t10, hk_t11, hk_t12, hk_t13, hk_t14, hk_t15, hk_t16, hk_t17, hk_t18, hk_t20, hk_t32, hk_tm1, hk_t256, hk_t1500, hk_t4096, hk_t2000, hk_t3000, hk_t512, hk_t1024, true_and, and_true, false_and, and_false, true_or, or_true, false_or, or_false, not_true_eq_false, not_false_eq_true] at cc_2 cc_14 cc_26 cc_35 cc_50 cc_51 <;> unfold hk_qf <;> (repeat' split) <;> first | rfl | (exfalso; omega)) dX12_property_390
    · refine lv_iload_n hx hb dX12_property_231 rfl (lv_at hl 2 rfl) ?_
      refine lv_sipush (v := 1500) hx hb dX12_property_232 (by decide) ?_
      refine lv_icmp_gt (tgt := 242) hx hb dX12_property_235 (by decide) (fun cc_54 => ?_) (fun cc_54 => ?_)
      · refine lv_iconst (v := 0) hx hb dX12_property_242 (by decide) ?_
        refine lv_istore_n (lv' := [(3, .int 0), (0, .ref (ad 0)), (1, .int wt), (2, .int v)]) hx hb dX12_property_243 rfl hl (by decide) rfl (fun ls hl => ?_)
        refine lv_aload_n hx hb dX12_property_244 rfl (lv_at hl 1 rfl) ?_
        refine lv_iload_n hx hb dX12_property_245 rfl (lv_at hl 0 rfl) ?_
        refine lv_if_eq (tgt := 253) hx hb dX12_property_246 (by decide) (fun _ => ?_) (fun cc_55 => absurd (by decide) cc_55)
        refine lv_aload_n hx hb dX12_property_253 rfl (lv_at hl 1 rfl) ?_
        refine hk_get (ci := 15) (C := RX12) (T := TX12) (N := 92) (v := .int 512) hx hb hts iX12 hown hw 0 rfl rfl 6 (by decide) (hts _ (List.mem_of_getElem? (i := 7) rfl)) rfl dX12_property_254 ?_
        refine hk_put (ci := 15) (C := RX12) (T := TX12) (N := 92) (ty := .int) (v := .int 512) hx hb hts iX12 tyX12 tyX12_ok nmX12 hown hw 0 rfl rfl 6 (by decide) (hts _ (List.mem_of_getElem? (i := 7) rfl)) rfl (by decide +kernel) rfl rfl (Nat.le_of_ble_eq_true rfl) dX12_property_257 (ws' := mw cI cJ ad (upd (upd (mf_g fm) 1 0) 6 512) mf_l ar bk) rfl (fun H locs hw => ?_)
        refine lv_goto (tgt := 381) hx hb dX12_property_260 (by decide) ?_
        refine lv_iload_n hx hb dX12_property_381 rfl (lv_at hl 0 rfl) ?_
        refine lv_if_eq (tgt := 389) hx hb dX12_property_382 (by decide) (fun _ => ?_) (fun cc_56 => absurd (by decide) cc_56)
        refine lv_iconst (v := 0) hx hb dX12_property_389 (by decide) ?_
        exact hk_iret (u := ((upd (upd (mf_g fm) 1 0) 6 512), mf_l, ar, bk)) hx hb hr hlocks (hw) (by have ha := hk_a3 v; simp only [Int32.add_zero, Int32.lt_iff_toInt_lt, Int32.le_iff_toInt_le, ← Int32.toInt_inj, hk_t0, hk_t1, hk_t2, hk_t3, hk_t4, hk_t5, hk_t6, hk_t7, hk_t8, hk_t9, hk_t10, hk_t11, hk_t12, hk_t13, hk_t14, hk_t15, hk_t16, hk_t17, hk_t18, hk_t20, hk_t32, hk_tm1, hk_t256, hk_t1500, hk_t4096, hk_t2000, hk_t3000, hk_t512, hk_t1024, true_and, and_true, false_and, and_false, true_or, or_true, false_or, or_false, not_true_eq_false, not_false_eq_true] at cc_2 cc_14 cc_26 cc_35 cc_50 cc_51 cc_54 <;> unfold hk_qf <;> (repeat' split) <;> first | rfl | (exfalso; omega)) dX12_property_390
      · refine lv_iconst (v := 1) hx hb dX12_property_238 (by decide) ?_
        refine lv_goto (tgt := 243) hx hb dX12_property_239 (by decide) ?_
        refine lv_istore_n (lv' := [(3, .int 1), (0, .ref (ad 0)), (1, .int wt), (2, .int v)]) hx hb dX12_property_243 rfl hl (by decide) rfl (fun ls hl => ?_)
        refine lv_aload_n hx hb dX12_property_244 rfl (lv_at hl 1 rfl) ?_
        refine lv_iload_n hx hb dX12_property_245 rfl (lv_at hl 0 rfl) ?_
        refine lv_if_eq (tgt := 253) hx hb dX12_property_246 (by decide) (fun cc_57 => absurd cc_57 (by decide)) (fun _ => ?_)
        refine lv_iload_n hx hb dX12_property_249 rfl (lv_at hl 3 rfl) ?_
        refine lv_goto (tgt := 257) hx hb dX12_property_250 (by decide) ?_
        refine hk_put (ci := 15) (C := RX12) (T := TX12) (N := 92) (ty := .int) (v := .int v) hx hb hts iX12 tyX12 tyX12_ok nmX12 hown hw 0 rfl rfl 6 (by decide) (hts _ (List.mem_of_getElem? (i := 7) rfl)) rfl (by decide +kernel) rfl rfl (Nat.le_of_ble_eq_true rfl) dX12_property_257 (ws' := mw cI cJ ad (upd (upd (mf_g fm) 1 0) 6 v) mf_l ar bk) rfl (fun H locs hw => ?_)
        refine lv_goto (tgt := 381) hx hb dX12_property_260 (by decide) ?_
        refine lv_iload_n hx hb dX12_property_381 rfl (lv_at hl 0 rfl) ?_
        refine lv_if_eq (tgt := 389) hx hb dX12_property_382 (by decide) (fun cc_58 => absurd cc_58 (by decide)) (fun _ => ?_)
        refine lv_iconst (v := 1) hx hb dX12_property_385 (by decide) ?_
        refine lv_goto (tgt := 390) hx hb dX12_property_386 (by decide) ?_
        exact hk_iret (u := ((upd (upd (mf_g fm) 1 0) 6 v), mf_l, ar, bk)) hx hb hr hlocks (hw) (by have ha := hk_a3 v; simp only [Int32.add_zero, Int32.lt_iff_toInt_lt, Int32.le_iff_toInt_le, ← Int32.toInt_inj, hk_t0, hk_t1, hk_t2, hk_t3, hk_t4, hk_t5, hk_t6, hk_t7, hk_t8, hk_t9, hk_t10, hk_t11, hk_t12, hk_t13, hk_t14, hk_t15, hk_t16, hk_t17, hk_t18, hk_t20, hk_t32, hk_tm1, hk_t256, hk_t1500, hk_t4096, hk_t2000, hk_t3000, hk_t512, hk_t1024, true_and, and_true, false_and, and_false, true_or, or_true, false_or, or_false, not_true_eq_false, not_false_eq_true] at cc_2 cc_14 cc_26 cc_35 cc_50 cc_51 cc_54 <;> unfold hk_qf <;> (repeat' split) <;> first | rfl | (exfalso; omega)) dX12_property_390
  rcases hk_eqOr wt 5 with cc_59 | cc_59
  · refine lv_tableIn (tgt := 263) (off := 257) hx hb dX12_property_6 (by rw [cc_59]; decide) (by rw [cc_59]; decide) (by rw [cc_59]; rfl) (by decide) ?_
    refine lv_iload_n hx hb dX12_property_263 rfl (lv_at hl 2 rfl) ?_
    refine lv_iconst (v := 1) hx hb dX12_property_264 (by decide) ?_
    refine lv_icmp_lt (tgt := 279) hx hb dX12_property_265 (by decide) (fun cc_60 => ?_) (fun cc_60 => ?_)
    · refine lv_iconst (v := 0) hx hb dX12_property_279 (by decide) ?_
      refine lv_istore_n (lv' := [(3, .int 0), (0, .ref (ad 0)), (1, .int wt), (2, .int v)]) hx hb dX12_property_280 rfl hl (by decide) rfl (fun ls hl => ?_)
      refine lv_aload_n hx hb dX12_property_281 rfl (lv_at hl 1 rfl) ?_
      refine lv_iload_n hx hb dX12_property_282 rfl (lv_at hl 0 rfl) ?_
      refine lv_if_eq (tgt := 290) hx hb dX12_property_283 (by decide) (fun _ => ?_) (fun cc_61 => absurd (by decide) cc_61)
      refine lv_aload_n hx hb dX12_property_290 rfl (lv_at hl 1 rfl) ?_
      refine hk_get (ci := 15) (C := RX12) (T := TX12) (N := 92) (v := .int 1024) hx hb hts iX12 hown hw 0 rfl rfl 7 (by decide) (hts _ (List.mem_of_getElem? (i := 8) rfl)) rfl dX12_property_291 ?_
      refine hk_put (ci := 15) (C := RX12) (T := TX12) (N := 92) (ty := .int) (v := .int 1024) hx hb hts iX12 tyX12 tyX12_ok nmX12 hown hw 0 rfl rfl 7 (by decide) (hts _ (List.mem_of_getElem? (i := 8) rfl)) rfl (by decide +kernel) rfl rfl (Nat.le_of_ble_eq_true rfl) dX12_property_294 (ws' := mw cI cJ ad (upd (upd (mf_g fm) 1 0) 7 1024) mf_l ar bk) rfl (fun H locs hw => ?_)
      refine lv_goto (tgt := 381) hx hb dX12_property_297 (by decide) ?_
      refine lv_iload_n hx hb dX12_property_381 rfl (lv_at hl 0 rfl) ?_
      refine lv_if_eq (tgt := 389) hx hb dX12_property_382 (by decide) (fun _ => ?_) (fun cc_62 => absurd (by decide) cc_62)
      refine lv_iconst (v := 0) hx hb dX12_property_389 (by decide) ?_
      exact hk_iret (u := ((upd (upd (mf_g fm) 1 0) 7 1024), mf_l, ar, bk)) hx hb hr hlocks (hw) (by have ha := hk_a3 v; simp only [Int32.add_zero, Int32.lt_iff_toInt_lt, Int32.le_iff_toInt_le, ← Int32.toInt_inj, hk_t0, hk_t1, hk_t2, hk_t3, hk_t4, hk_t5, hk_t6, hk_t7, hk_t8, hk_t9, hk_t10, hk_t11, hk_t12, hk_t13, hk_t14, hk_t15, hk_t16, hk_t17, hk_t18, hk_t20, hk_t32, hk_tm1, hk_t256, hk_t1500, hk_t4096, hk_t2000, hk_t3000, hk_t512, hk_t1024, true_and, and_true, false_and, and_false, true_or, or_true, false_or, or_false, not_true_eq_false, not_false_eq_true] at cc_2 cc_14 cc_26 cc_35 cc_50 cc_59 cc_60 <;> unfold hk_qf <;> (repeat' split) <;> first | rfl | (exfalso; omega)) dX12_property_390
    · refine lv_iload_n hx hb dX12_property_268 rfl (lv_at hl 2 rfl) ?_
      refine lv_sipush (v := 1500) hx hb dX12_property_269 (by decide) ?_
      refine lv_icmp_gt (tgt := 279) hx hb dX12_property_272 (by decide) (fun cc_63 => ?_) (fun cc_63 => ?_)
      · refine lv_iconst (v := 0) hx hb dX12_property_279 (by decide) ?_
        refine lv_istore_n (lv' := [(3, .int 0), (0, .ref (ad 0)), (1, .int wt), (2, .int v)]) hx hb dX12_property_280 rfl hl (by decide) rfl (fun ls hl => ?_)
        refine lv_aload_n hx hb dX12_property_281 rfl (lv_at hl 1 rfl) ?_
        refine lv_iload_n hx hb dX12_property_282 rfl (lv_at hl 0 rfl) ?_
        refine lv_if_eq (tgt := 290) hx hb dX12_property_283 (by decide) (fun _ => ?_) (fun cc_64 => absurd (by decide) cc_64)
        refine lv_aload_n hx hb dX12_property_290 rfl (lv_at hl 1 rfl) ?_
        refine hk_get (ci := 15) (C := RX12) (T := TX12) (N := 92) (v := .int 1024) hx hb hts iX12 hown hw 0 rfl rfl 7 (by decide) (hts _ (List.mem_of_getElem? (i := 8) rfl)) rfl dX12_property_291 ?_
        refine hk_put (ci := 15) (C := RX12) (T := TX12) (N := 92) (ty := .int) (v := .int 1024) hx hb hts iX12 tyX12 tyX12_ok nmX12 hown hw 0 rfl rfl 7 (by decide) (hts _ (List.mem_of_getElem? (i := 8) rfl)) rfl (by decide +kernel) rfl rfl (Nat.le_of_ble_eq_true rfl) dX12_property_294 (ws' := mw cI cJ ad (upd (upd (mf_g fm) 1 0) 7 1024) mf_l ar bk) rfl (fun H locs hw => ?_)
        refine lv_goto (tgt := 381) hx hb dX12_property_297 (by decide) ?_
        refine lv_iload_n hx hb dX12_property_381 rfl (lv_at hl 0 rfl) ?_
        refine lv_if_eq (tgt := 389) hx hb dX12_property_382 (by decide) (fun _ => ?_) (fun cc_65 => absurd (by decide) cc_65)
        refine lv_iconst (v := 0) hx hb dX12_property_389 (by decide) ?_
        exact hk_iret (u := ((upd (upd (mf_g fm) 1 0) 7 1024), mf_l, ar, bk)) hx hb hr hlocks (hw) (by have ha := hk_a3 v; simp only [Int32.add_zero, Int32.lt_iff_toInt_lt, Int32.le_iff_toInt_le, ← Int32.toInt_inj, hk_t0, hk_t1, hk_t2, hk_t3, hk_t4, hk_t5, hk_t6, hk_t7, hk_t8, hk_t9, hk_t10, hk_t11, hk_t12, hk_t13, hk_t14, hk_t15, hk_t16, hk_t17, hk_t18, hk_t20, hk_t32, hk_tm1, hk_t256, hk_t1500, hk_t4096, hk_t2000, hk_t3000, hk_t512, hk_t1024, true_and, and_true, false_and, and_false, true_or, or_true, false_or, or_false, not_true_eq_false, not_false_eq_true] at cc_2 cc_14 cc_26 cc_35 cc_50 cc_59 cc_60 cc_63 <;> unfold hk_qf <;> (repeat' split) <;> first | rfl | (exfalso; omega)) dX12_property_390
      · refine lv_iconst (v := 1) hx hb dX12_property_275 (by decide) ?_
        refine lv_goto (tgt := 280) hx hb dX12_property_276 (by decide) ?_
        refine lv_istore_n (lv' := [(3, .int 1), (0, .ref (ad 0)), (1, .int wt), (2, .int v)]) hx hb dX12_property_280 rfl hl (by decide) rfl (fun ls hl => ?_)
        refine lv_aload_n hx hb dX12_property_281 rfl (lv_at hl 1 rfl) ?_
        refine lv_iload_n hx hb dX12_property_282 rfl (lv_at hl 0 rfl) ?_
        refine lv_if_eq (tgt := 290) hx hb dX12_property_283 (by decide) (fun cc_66 => absurd cc_66 (by decide)) (fun _ => ?_)
        refine lv_iload_n hx hb dX12_property_286 rfl (lv_at hl 3 rfl) ?_
        refine lv_goto (tgt := 294) hx hb dX12_property_287 (by decide) ?_
        refine hk_put (ci := 15) (C := RX12) (T := TX12) (N := 92) (ty := .int) (v := .int v) hx hb hts iX12 tyX12 tyX12_ok nmX12 hown hw 0 rfl rfl 7 (by decide) (hts _ (List.mem_of_getElem? (i := 8) rfl)) rfl (by decide +kernel) rfl rfl (Nat.le_of_ble_eq_true rfl) dX12_property_294 (ws' := mw cI cJ ad (upd (upd (mf_g fm) 1 0) 7 v) mf_l ar bk) rfl (fun H locs hw => ?_)
        refine lv_goto (tgt := 381) hx hb dX12_property_297 (by decide) ?_
        refine lv_iload_n hx hb dX12_property_381 rfl (lv_at hl 0 rfl) ?_
        refine lv_if_eq (tgt := 389) hx hb dX12_property_382 (by decide) (fun cc_67 => absurd cc_67 (by decide)) (fun _ => ?_)
        refine lv_iconst (v := 1) hx hb dX12_property_385 (by decide) ?_
        refine lv_goto (tgt := 390) hx hb dX12_property_386 (by decide) ?_
        exact hk_iret (u := ((upd (upd (mf_g fm) 1 0) 7 v), mf_l, ar, bk)) hx hb hr hlocks (hw) (by have ha := hk_a3 v; simp only [Int32.add_zero, Int32.lt_iff_toInt_lt, Int32.le_iff_toInt_le, ← Int32.toInt_inj, hk_t0, hk_t1, hk_t2, hk_t3, hk_t4, hk_t5, hk_t6, hk_t7, hk_t8, hk_t9, hk_t10, hk_t11, hk_t12, hk_t13, hk_t14, hk_t15, hk_t16, hk_t17, hk_t18, hk_t20, hk_t32, hk_tm1, hk_t256, hk_t1500, hk_t4096, hk_t2000, hk_t3000, hk_t512, hk_t1024, true_and, and_true, false_and, and_false, true_or, or_true, false_or, or_false, not_true_eq_false, not_false_eq_true] at cc_2 cc_14 cc_26 cc_35 cc_50 cc_59 cc_60 cc_63 <;> unfold hk_qf <;> (repeat' split) <;> first | rfl | (exfalso; omega)) dX12_property_390
  rcases hk_eqOr wt 6 with cc_68 | cc_68
  · refine lv_tableIn (tgt := 300) (off := 294) hx hb dX12_property_6 (by rw [cc_68]; decide) (by rw [cc_68]; decide) (by rw [cc_68]; rfl) (by decide) ?_
    refine lv_iload_n hx hb dX12_property_300 rfl (lv_at hl 2 rfl) ?_
    refine lv_if_eq (tgt := 320) hx hb dX12_property_301 (by decide) (fun cc_69 => ?_) (fun cc_69 => ?_)
    · refine lv_iconst (v := 1) hx hb dX12_property_320 (by decide) ?_
      refine lv_goto (tgt := 325) hx hb dX12_property_321 (by decide) ?_
      refine lv_istore_n (lv' := [(3, .int 1), (0, .ref (ad 0)), (1, .int wt), (2, .int v)]) hx hb dX12_property_325 rfl hl (by decide) rfl (fun ls hl => ?_)
      refine lv_aload_n hx hb dX12_property_326 rfl (lv_at hl 1 rfl) ?_
      refine lv_iload_n hx hb dX12_property_327 rfl (lv_at hl 0 rfl) ?_
      refine lv_if_eq (tgt := 335) hx hb dX12_property_328 (by decide) (fun cc_70 => absurd cc_70 (by decide)) (fun _ => ?_)
      refine lv_iload_n hx hb dX12_property_331 rfl (lv_at hl 3 rfl) ?_
      refine lv_goto (tgt := 339) hx hb dX12_property_332 (by decide) ?_
      refine hk_put (ci := 15) (C := RX12) (T := TX12) (N := 92) (ty := .int) (v := .int v) hx hb hts iX12 tyX12 tyX12_ok nmX12 hown hw 0 rfl rfl 8 (by decide) (hts _ (List.mem_of_getElem? (i := 9) rfl)) rfl (by decide +kernel) rfl rfl (Nat.le_of_ble_eq_true rfl) dX12_property_339 (ws' := mw cI cJ ad (upd (upd (mf_g fm) 1 0) 8 v) mf_l ar bk) rfl (fun H locs hw => ?_)
      refine lv_goto (tgt := 381) hx hb dX12_property_342 (by decide) ?_
      refine lv_iload_n hx hb dX12_property_381 rfl (lv_at hl 0 rfl) ?_
      refine lv_if_eq (tgt := 389) hx hb dX12_property_382 (by decide) (fun cc_71 => absurd cc_71 (by decide)) (fun _ => ?_)
      refine lv_iconst (v := 1) hx hb dX12_property_385 (by decide) ?_
      refine lv_goto (tgt := 390) hx hb dX12_property_386 (by decide) ?_
      exact hk_iret (u := ((upd (upd (mf_g fm) 1 0) 8 v), mf_l, ar, bk)) hx hb hr hlocks (hw) (by have ha := hk_a3 v; simp only [Int32.add_zero, Int32.lt_iff_toInt_lt, Int32.le_iff_toInt_le, ← Int32.toInt_inj, hk_t0, hk_t1, hk_t2, hk_t3, hk_t4, hk_t5, hk_t6, hk_t7, hk_t8, hk_t9, hk_t10, hk_t11, hk_t12, hk_t13, hk_t14, hk_t15, hk_t16, hk_t17, hk_t18, hk_t20, hk_t32, hk_tm1, hk_t256, hk_t1500, hk_t4096, hk_t2000, hk_t3000, hk_t512, hk_t1024, true_and, and_true, false_and, and_false, true_or, or_true, false_or, or_false, not_true_eq_false, not_false_eq_true] at cc_2 cc_14 cc_26 cc_35 cc_50 cc_59 cc_68 cc_69 <;> unfold hk_qf <;> (repeat' split) <;> first | rfl | (exfalso; omega)) dX12_property_390
    · refine lv_iload_n hx hb dX12_property_304 rfl (lv_at hl 2 rfl) ?_
      refine lv_iconst (v := 1) hx hb dX12_property_305 (by decide) ?_
      refine lv_icmp_eq (tgt := 320) hx hb dX12_property_306 (by decide) (fun cc_72 => ?_) (fun cc_72 => ?_)
      · refine lv_iconst (v := 1) hx hb dX12_property_320 (by decide) ?_
        refine lv_goto (tgt := 325) hx hb dX12_property_321 (by decide) ?_
        refine lv_istore_n (lv' := [(3, .int 1), (0, .ref (ad 0)), (1, .int wt), (2, .int v)]) hx hb dX12_property_325 rfl hl (by decide) rfl (fun ls hl => ?_)
        refine lv_aload_n hx hb dX12_property_326 rfl (lv_at hl 1 rfl) ?_
        refine lv_iload_n hx hb dX12_property_327 rfl (lv_at hl 0 rfl) ?_
        refine lv_if_eq (tgt := 335) hx hb dX12_property_328 (by decide) (fun cc_73 => absurd cc_73 (by decide)) (fun _ => ?_)
        refine lv_iload_n hx hb dX12_property_331 rfl (lv_at hl 3 rfl) ?_
        refine lv_goto (tgt := 339) hx hb dX12_property_332 (by decide) ?_
        refine hk_put (ci := 15) (C := RX12) (T := TX12) (N := 92) (ty := .int) (v := .int v) hx hb hts iX12 tyX12 tyX12_ok nmX12 hown hw 0 rfl rfl 8 (by decide) (hts _ (List.mem_of_getElem? (i := 9) rfl)) rfl (by decide +kernel) rfl rfl (Nat.le_of_ble_eq_true rfl) dX12_property_339 (ws' := mw cI cJ ad (upd (upd (mf_g fm) 1 0) 8 v) mf_l ar bk) rfl (fun H locs hw => ?_)
        refine lv_goto (tgt := 381) hx hb dX12_property_342 (by decide) ?_
        refine lv_iload_n hx hb dX12_property_381 rfl (lv_at hl 0 rfl) ?_
        refine lv_if_eq (tgt := 389) hx hb dX12_property_382 (by decide) (fun cc_74 => absurd cc_74 (by decide)) (fun _ => ?_)
        refine lv_iconst (v := 1) hx hb dX12_property_385 (by decide) ?_
        refine lv_goto (tgt := 390) hx hb dX12_property_386 (by decide) ?_
        exact hk_iret (u := ((upd (upd (mf_g fm) 1 0) 8 v), mf_l, ar, bk)) hx hb hr hlocks (hw) (by have ha := hk_a3 v; simp only [Int32.add_zero, Int32.lt_iff_toInt_lt, Int32.le_iff_toInt_le, ← Int32.toInt_inj, hk_t0, hk_t1, hk_t2, hk_t3, hk_t4, hk_t5, hk_t6, hk_t7, hk_t8, hk_t9, hk_t10, hk_t11, hk_t12, hk_t13, hk_t14, hk_t15, hk_t16, hk_t17, hk_t18, hk_t20, hk_t32, hk_tm1, hk_t256, hk_t1500, hk_t4096, hk_t2000, hk_t3000, hk_t512, hk_t1024, true_and, and_true, false_and, and_false, true_or, or_true, false_or, or_false, not_true_eq_false, not_false_eq_true] at cc_2 cc_14 cc_26 cc_35 cc_50 cc_59 cc_68 cc_69 cc_72 <;> unfold hk_qf <;> (repeat' split) <;> first | rfl | (exfalso; omega)) dX12_property_390
      · refine lv_iload_n hx hb dX12_property_309 rfl (lv_at hl 2 rfl) ?_
        refine lv_iconst (v := 4) hx hb dX12_property_310 (by decide) ?_
        refine lv_icmp_eq (tgt := 320) hx hb dX12_property_311 (by decide) (fun cc_75 => ?_) (fun cc_75 => ?_)
        · refine lv_iconst (v := 1) hx hb dX12_property_320 (by decide) ?_
          refine lv_goto (tgt := 325) hx hb dX12_property_321 (by decide) ?_
          refine lv_istore_n (lv' := [(3, .int 1), (0, .ref (ad 0)), (1, .int wt), (2, .int v)]) hx hb dX12_property_325 rfl hl (by decide) rfl (fun ls hl => ?_)
          refine lv_aload_n hx hb dX12_property_326 rfl (lv_at hl 1 rfl) ?_
          refine lv_iload_n hx hb dX12_property_327 rfl (lv_at hl 0 rfl) ?_
          refine lv_if_eq (tgt := 335) hx hb dX12_property_328 (by decide) (fun cc_76 => absurd cc_76 (by decide)) (fun _ => ?_)
          refine lv_iload_n hx hb dX12_property_331 rfl (lv_at hl 3 rfl) ?_
          refine lv_goto (tgt := 339) hx hb dX12_property_332 (by decide) ?_
          refine hk_put (ci := 15) (C := RX12) (T := TX12) (N := 92) (ty := .int) (v := .int v) hx hb hts iX12 tyX12 tyX12_ok nmX12 hown hw 0 rfl rfl 8 (by decide) (hts _ (List.mem_of_getElem? (i := 9) rfl)) rfl (by decide +kernel) rfl rfl (Nat.le_of_ble_eq_true rfl) dX12_property_339 (ws' := mw cI cJ ad (upd (upd (mf_g fm) 1 0) 8 v) mf_l ar bk) rfl (fun H locs hw => ?_)
          refine lv_goto (tgt := 381) hx hb dX12_property_342 (by decide) ?_
          refine lv_iload_n hx hb dX12_property_381 rfl (lv_at hl 0 rfl) ?_
          refine lv_if_eq (tgt := 389) hx hb dX12_property_382 (by decide) (fun cc_77 => absurd cc_77 (by decide)) (fun _ => ?_)
          refine lv_iconst (v := 1) hx hb dX12_property_385 (by decide) ?_
          refine lv_goto (tgt := 390) hx hb dX12_property_386 (by decide) ?_
          exact hk_iret (u := ((upd (upd (mf_g fm) 1 0) 8 v), mf_l, ar, bk)) hx hb hr hlocks (hw) (by have ha := hk_a3 v; simp only [Int32.add_zero, Int32.lt_iff_toInt_lt, Int32.le_iff_toInt_le, ← Int32.toInt_inj, hk_t0, hk_t1, hk_t2, hk_t3, hk_t4, hk_t5, hk_t6, hk_t7, hk_t8, hk_t9, hk_t10, hk_t11, hk_t12, hk_t13, hk_t14, hk_t15, hk_t16, hk_t17, hk_t18, hk_t20, hk_t32, hk_tm1, hk_t256, hk_t1500, hk_t4096, hk_t2000, hk_t3000, hk_t512, hk_t1024, true_and, and_true, false_and, and_false, true_or, or_true, false_or, or_false, not_true_eq_false, not_false_eq_true] at cc_2 cc_14 cc_26 cc_35 cc_50 cc_59 cc_68 cc_69 cc_72 cc_75 <;> unfold hk_qf <;> (repeat' split) <;> first | rfl | (exfalso; omega)) dX12_property_390
        · refine lv_iload_n hx hb dX12_property_314 rfl (lv_at hl 2 rfl) ?_
          refine lv_bipush (v := 10) hx hb dX12_property_315 (by decide) ?_
          refine lv_icmp_ne (tgt := 324) hx hb dX12_property_317 (by decide) (fun cc_78 => ?_) (fun cc_78 => ?_)
          · refine lv_iconst (v := 0) hx hb dX12_property_324 (by decide) ?_
            refine lv_istore_n (lv' := [(3, .int 0), (0, .ref (ad 0)), (1, .int wt), (2, .int v)]) hx hb dX12_property_325 rfl hl (by decide) rfl (fun ls hl => ?_)
            refine lv_aload_n hx hb dX12_property_326 rfl (lv_at hl 1 rfl) ?_
            refine lv_iload_n hx hb dX12_property_327 rfl (lv_at hl 0 rfl) ?_
            refine lv_if_eq (tgt := 335) hx hb dX12_property_328 (by decide) (fun _ => ?_) (fun cc_79 => absurd (by decide) cc_79)
            refine lv_aload_n hx hb dX12_property_335 rfl (lv_at hl 1 rfl) ?_
            refine hk_get (ci := 15) (C := RX12) (T := TX12) (N := 92) (v := .int 1) hx hb hts iX12 hown hw 0 rfl rfl 8 (by decide) (hts _ (List.mem_of_getElem? (i := 9) rfl)) rfl dX12_property_336 ?_
            refine hk_put (ci := 15) (C := RX12) (T := TX12) (N := 92) (ty := .int) (v := .int 1) hx hb hts iX12 tyX12 tyX12_ok nmX12 hown hw 0 rfl rfl 8 (by decide) (hts _ (List.mem_of_getElem? (i := 9) rfl)) rfl (by decide +kernel) rfl rfl (Nat.le_of_ble_eq_true rfl) dX12_property_339 (ws' := mw cI cJ ad (upd (upd (mf_g fm) 1 0) 8 1) mf_l ar bk) rfl (fun H locs hw => ?_)
            refine lv_goto (tgt := 381) hx hb dX12_property_342 (by decide) ?_
            refine lv_iload_n hx hb dX12_property_381 rfl (lv_at hl 0 rfl) ?_
            refine lv_if_eq (tgt := 389) hx hb dX12_property_382 (by decide) (fun _ => ?_) (fun cc_80 => absurd (by decide) cc_80)
            refine lv_iconst (v := 0) hx hb dX12_property_389 (by decide) ?_
            exact hk_iret (u := ((upd (upd (mf_g fm) 1 0) 8 1), mf_l, ar, bk)) hx hb hr hlocks (hw) (by have ha := hk_a3 v; simp only [Int32.add_zero, Int32.lt_iff_toInt_lt, Int32.le_iff_toInt_le, ← Int32.toInt_inj, hk_t0, hk_t1, hk_t2, hk_t3, hk_t4, hk_t5, hk_t6, hk_t7, hk_t8, hk_t9, hk_t10, hk_t11, hk_t12, hk_t13, hk_t14, hk_t15, hk_t16, hk_t17, hk_t18, hk_t20, hk_t32, hk_tm1, hk_t256, hk_t1500, hk_t4096, hk_t2000, hk_t3000, hk_t512, hk_t1024, true_and, and_true, false_and, and_false, true_or, or_true, false_or, or_false, not_true_eq_false, not_false_eq_true] at cc_2 cc_14 cc_26 cc_35 cc_50 cc_59 cc_68 cc_69 cc_72 cc_75 cc_78 <;> unfold hk_qf <;> (repeat' split) <;> first | rfl | (exfalso; omega)) dX12_property_390
          · refine lv_iconst (v := 1) hx hb dX12_property_320 (by decide) ?_
            refine lv_goto (tgt := 325) hx hb dX12_property_321 (by decide) ?_
            refine lv_istore_n (lv' := [(3, .int 1), (0, .ref (ad 0)), (1, .int wt), (2, .int v)]) hx hb dX12_property_325 rfl hl (by decide) rfl (fun ls hl => ?_)
            refine lv_aload_n hx hb dX12_property_326 rfl (lv_at hl 1 rfl) ?_
            refine lv_iload_n hx hb dX12_property_327 rfl (lv_at hl 0 rfl) ?_
            refine lv_if_eq (tgt := 335) hx hb dX12_property_328 (by decide) (fun cc_81 => absurd cc_81 (by decide)) (fun _ => ?_)
            refine lv_iload_n hx hb dX12_property_331 rfl (lv_at hl 3 rfl) ?_
            refine lv_goto (tgt := 339) hx hb dX12_property_332 (by decide) ?_
            refine hk_put (ci := 15) (C := RX12) (T := TX12) (N := 92) (ty := .int) (v := .int v) hx hb hts iX12 tyX12 tyX12_ok nmX12 hown hw 0 rfl rfl 8 (by decide) (hts _ (List.mem_of_getElem? (i := 9) rfl)) rfl (by decide +kernel) rfl rfl (Nat.le_of_ble_eq_true rfl) dX12_property_339 (ws' := mw cI cJ ad (upd (upd (mf_g fm) 1 0) 8 v) mf_l ar bk) rfl (fun H locs hw => ?_)
            refine lv_goto (tgt := 381) hx hb dX12_property_342 (by decide) ?_
            refine lv_iload_n hx hb dX12_property_381 rfl (lv_at hl 0 rfl) ?_
            refine lv_if_eq (tgt := 389) hx hb dX12_property_382 (by decide) (fun cc_82 => absurd cc_82 (by decide)) (fun _ => ?_)
            refine lv_iconst (v := 1) hx hb dX12_property_385 (by decide) ?_
            refine lv_goto (tgt := 390) hx hb dX12_property_386 (by decide) ?_
            exact hk_iret (u := ((upd (upd (mf_g fm) 1 0) 8 v), mf_l, ar, bk)) hx hb hr hlocks (hw) (by have ha := hk_a3 v; simp only [Int32.add_zero, Int32.lt_iff_toInt_lt, Int32.le_iff_toInt_le, ← Int32.toInt_inj, hk_t0, hk_t1, hk_t2, hk_t3, hk_t4, hk_t5, hk_t6, hk_t7, hk_t8, hk_t9, hk_t10, hk_t11, hk_t12, hk_t13, hk_t14, hk_t15, hk_t16, hk_t17, hk_t18, hk_t20, hk_t32, hk_tm1, hk_t256, hk_t1500, hk_t4096, hk_t2000, hk_t3000, hk_t512, hk_t1024, true_and, and_true, false_and, and_false, true_or, or_true, false_or, or_false, not_true_eq_false, not_false_eq_true] at cc_2 cc_14 cc_26 cc_35 cc_50 cc_59 cc_68 cc_69 cc_72 cc_75 cc_78 <;> unfold hk_qf <;> (repeat' split) <;> first | rfl | (exfalso; omega)) dX12_property_390
  rcases hk_eqOr wt 7 with cc_83 | cc_83
  · refine lv_tableIn (tgt := 345) (off := 339) hx hb dX12_property_6 (by rw [cc_83]; decide) (by rw [cc_83]; decide) (by rw [cc_83]; rfl) (by decide) ?_
    refine lv_iload_n hx hb dX12_property_345 rfl (lv_at hl 2 rfl) ?_
    refine lv_if_lt (tgt := 358) hx hb dX12_property_346 (by decide) (fun cc_84 => ?_) (fun cc_84 => ?_)
    · refine lv_iconst (v := 0) hx hb dX12_property_358 (by decide) ?_
      refine lv_istore_n (lv' := [(3, .int 0), (0, .ref (ad 0)), (1, .int wt), (2, .int v)]) hx hb dX12_property_359 rfl hl (by decide) rfl (fun ls hl => ?_)
      refine lv_aload_n hx hb dX12_property_360 rfl (lv_at hl 1 rfl) ?_
      refine lv_iload_n hx hb dX12_property_361 rfl (lv_at hl 0 rfl) ?_
      refine lv_if_eq (tgt := 369) hx hb dX12_property_362 (by decide) (fun _ => ?_) (fun cc_85 => absurd (by decide) cc_85)
      refine lv_aload_n hx hb dX12_property_369 rfl (lv_at hl 1 rfl) ?_
      refine hk_get (ci := 15) (C := RX12) (T := TX12) (N := 92) (v := .int 0) hx hb hts iX12 hown hw 0 rfl rfl 9 (by decide) (hts _ (List.mem_of_getElem? (i := 10) rfl)) rfl dX12_property_370 ?_
      refine hk_put (ci := 15) (C := RX12) (T := TX12) (N := 92) (ty := .int) (v := .int 0) hx hb hts iX12 tyX12 tyX12_ok nmX12 hown hw 0 rfl rfl 9 (by decide) (hts _ (List.mem_of_getElem? (i := 10) rfl)) rfl (by decide +kernel) rfl rfl (Nat.le_of_ble_eq_true rfl) dX12_property_373 (ws' := mw cI cJ ad (upd (upd (mf_g fm) 1 0) 9 0) mf_l ar bk) rfl (fun H locs hw => ?_)
      refine lv_goto (tgt := 381) hx hb dX12_property_376 (by decide) ?_
      refine lv_iload_n hx hb dX12_property_381 rfl (lv_at hl 0 rfl) ?_
      refine lv_if_eq (tgt := 389) hx hb dX12_property_382 (by decide) (fun _ => ?_) (fun cc_86 => absurd (by decide) cc_86)
      refine lv_iconst (v := 0) hx hb dX12_property_389 (by decide) ?_
      exact hk_iret (u := ((upd (upd (mf_g fm) 1 0) 9 0), mf_l, ar, bk)) hx hb hr hlocks (hw) (by have ha := hk_a3 v; simp only [Int32.add_zero, Int32.lt_iff_toInt_lt, Int32.le_iff_toInt_le, ← Int32.toInt_inj, hk_t0, hk_t1, hk_t2, hk_t3, hk_t4, hk_t5, hk_t6, hk_t7, hk_t8, hk_t9, hk_t10, hk_t11, hk_t12, hk_t13, hk_t14, hk_t15, hk_t16, hk_t17, hk_t18, hk_t20, hk_t32, hk_tm1, hk_t256, hk_t1500, hk_t4096, hk_t2000, hk_t3000, hk_t512, hk_t1024, true_and, and_true, false_and, and_false, true_or, or_true, false_or, or_false, not_true_eq_false, not_false_eq_true] at cc_2 cc_14 cc_26 cc_35 cc_50 cc_59 cc_68 cc_83 cc_84 <;> unfold hk_qf <;> (repeat' split) <;> first | rfl | (exfalso; omega)) dX12_property_390
    · refine lv_iload_n hx hb dX12_property_349 rfl (lv_at hl 2 rfl) ?_
      refine lv_iconst (v := 1) hx hb dX12_property_350 (by decide) ?_
      refine lv_icmp_gt (tgt := 358) hx hb dX12_property_351 (by decide) (fun cc_87 => ?_) (fun cc_87 => ?_)
      · refine lv_iconst (v := 0) hx hb dX12_property_358 (by decide) ?_
        refine lv_istore_n (lv' := [(3, .int 0), (0, .ref (ad 0)), (1, .int wt), (2, .int v)]) hx hb dX12_property_359 rfl hl (by decide) rfl (fun ls hl => ?_)
        refine lv_aload_n hx hb dX12_property_360 rfl (lv_at hl 1 rfl) ?_
        refine lv_iload_n hx hb dX12_property_361 rfl (lv_at hl 0 rfl) ?_
        refine lv_if_eq (tgt := 369) hx hb dX12_property_362 (by decide) (fun _ => ?_) (fun cc_88 => absurd (by decide) cc_88)
        refine lv_aload_n hx hb dX12_property_369 rfl (lv_at hl 1 rfl) ?_
        refine hk_get (ci := 15) (C := RX12) (T := TX12) (N := 92) (v := .int 0) hx hb hts iX12 hown hw 0 rfl rfl 9 (by decide) (hts _ (List.mem_of_getElem? (i := 10) rfl)) rfl dX12_property_370 ?_
        refine hk_put (ci := 15) (C := RX12) (T := TX12) (N := 92) (ty := .int) (v := .int 0) hx hb hts iX12 tyX12 tyX12_ok nmX12 hown hw 0 rfl rfl 9 (by decide) (hts _ (List.mem_of_getElem? (i := 10) rfl)) rfl (by decide +kernel) rfl rfl (Nat.le_of_ble_eq_true rfl) dX12_property_373 (ws' := mw cI cJ ad (upd (upd (mf_g fm) 1 0) 9 0) mf_l ar bk) rfl (fun H locs hw => ?_)
        refine lv_goto (tgt := 381) hx hb dX12_property_376 (by decide) ?_
        refine lv_iload_n hx hb dX12_property_381 rfl (lv_at hl 0 rfl) ?_
        refine lv_if_eq (tgt := 389) hx hb dX12_property_382 (by decide) (fun _ => ?_) (fun cc_89 => absurd (by decide) cc_89)
        refine lv_iconst (v := 0) hx hb dX12_property_389 (by decide) ?_
        exact hk_iret (u := ((upd (upd (mf_g fm) 1 0) 9 0), mf_l, ar, bk)) hx hb hr hlocks (hw) (by have ha := hk_a3 v; simp only [Int32.add_zero, Int32.lt_iff_toInt_lt, Int32.le_iff_toInt_le, ← Int32.toInt_inj, hk_t0, hk_t1, hk_t2, hk_t3, hk_t4, hk_t5, hk_t6, hk_t7, hk_t8, hk_t9, hk_t10, hk_t11, hk_t12, hk_t13, hk_t14, hk_t15, hk_t16, hk_t17, hk_t18, hk_t20, hk_t32, hk_tm1, hk_t256, hk_t1500, hk_t4096, hk_t2000, hk_t3000, hk_t512, hk_t1024, true_and, and_true, false_and, and_false, true_or, or_true, false_or, or_false, not_true_eq_false, not_false_eq_true] at cc_2 cc_14 cc_26 cc_35 cc_50 cc_59 cc_68 cc_83 cc_84 cc_87 <;> unfold hk_qf <;> (repeat' split) <;> first | rfl | (exfalso; omega)) dX12_property_390
      · refine lv_iconst (v := 1) hx hb dX12_property_354 (by decide) ?_
        refine lv_goto (tgt := 359) hx hb dX12_property_355 (by decide) ?_
        refine lv_istore_n (lv' := [(3, .int 1), (0, .ref (ad 0)), (1, .int wt), (2, .int v)]) hx hb dX12_property_359 rfl hl (by decide) rfl (fun ls hl => ?_)
        refine lv_aload_n hx hb dX12_property_360 rfl (lv_at hl 1 rfl) ?_
        refine lv_iload_n hx hb dX12_property_361 rfl (lv_at hl 0 rfl) ?_
        refine lv_if_eq (tgt := 369) hx hb dX12_property_362 (by decide) (fun cc_90 => absurd cc_90 (by decide)) (fun _ => ?_)
        refine lv_iload_n hx hb dX12_property_365 rfl (lv_at hl 3 rfl) ?_
        refine lv_goto (tgt := 373) hx hb dX12_property_366 (by decide) ?_
        refine hk_put (ci := 15) (C := RX12) (T := TX12) (N := 92) (ty := .int) (v := .int v) hx hb hts iX12 tyX12 tyX12_ok nmX12 hown hw 0 rfl rfl 9 (by decide) (hts _ (List.mem_of_getElem? (i := 10) rfl)) rfl (by decide +kernel) rfl rfl (Nat.le_of_ble_eq_true rfl) dX12_property_373 (ws' := mw cI cJ ad (upd (upd (mf_g fm) 1 0) 9 v) mf_l ar bk) rfl (fun H locs hw => ?_)
        refine lv_goto (tgt := 381) hx hb dX12_property_376 (by decide) ?_
        refine lv_iload_n hx hb dX12_property_381 rfl (lv_at hl 0 rfl) ?_
        refine lv_if_eq (tgt := 389) hx hb dX12_property_382 (by decide) (fun cc_91 => absurd cc_91 (by decide)) (fun _ => ?_)
        refine lv_iconst (v := 1) hx hb dX12_property_385 (by decide) ?_
        refine lv_goto (tgt := 390) hx hb dX12_property_386 (by decide) ?_
        exact hk_iret (u := ((upd (upd (mf_g fm) 1 0) 9 v), mf_l, ar, bk)) hx hb hr hlocks (hw) (by have ha := hk_a3 v; simp only [Int32.add_zero, Int32.lt_iff_toInt_lt, Int32.le_iff_toInt_le, ← Int32.toInt_inj, hk_t0, hk_t1, hk_t2, hk_t3, hk_t4, hk_t5, hk_t6, hk_t7, hk_t8, hk_t9, hk_t10, hk_t11, hk_t12, hk_t13, hk_t14, hk_t15, hk_t16, hk_t17, hk_t18, hk_t20, hk_t32, hk_tm1, hk_t256, hk_t1500, hk_t4096, hk_t2000, hk_t3000, hk_t512, hk_t1024, true_and, and_true, false_and, and_false, true_or, or_true, false_or, or_false, not_true_eq_false, not_false_eq_true] at cc_2 cc_14 cc_26 cc_35 cc_50 cc_59 cc_68 cc_83 cc_84 cc_87 <;> unfold hk_qf <;> (repeat' split) <;> first | rfl | (exfalso; omega)) dX12_property_390
  refine lv_tableOut (tgt := 379) hx hb dX12_property_6 (by simp only [← Int32.toInt_inj, hk_t0, hk_t1, hk_t2, hk_t3, hk_t4, hk_t5, hk_t6, hk_t7] at cc_2 cc_14 cc_26 cc_35 cc_50 cc_59 cc_68 cc_83; omega) (by decide) ?_
  refine lv_iconst (v := 0) hx hb dX12_property_379 (by decide) ?_
  refine lv_istore_n (lv' := [(3, .int 0), (0, .ref (ad 0)), (1, .int wt), (2, .int v)]) hx hb dX12_property_380 rfl hl (by decide) rfl (fun ls hl => ?_)
  refine lv_iload_n hx hb dX12_property_381 rfl (lv_at hl 0 rfl) ?_
  refine lv_if_eq (tgt := 389) hx hb dX12_property_382 (by decide) (fun _ => ?_) (fun cc_92 => absurd (by decide) cc_92)
  refine lv_iconst (v := 0) hx hb dX12_property_389 (by decide) ?_
  exact hk_iret (u := ((upd (mf_g fm) 1 0), mf_l, ar, bk)) hx hb hr hlocks (hw) (by have ha := hk_a3 v; simp only [Int32.add_zero, Int32.lt_iff_toInt_lt, Int32.le_iff_toInt_le, ← Int32.toInt_inj, hk_t0, hk_t1, hk_t2, hk_t3, hk_t4, hk_t5, hk_t6, hk_t7, hk_t8, hk_t9, hk_t10, hk_t11, hk_t12, hk_t13, hk_t14, hk_t15, hk_t16, hk_t17, hk_t18, hk_t20, hk_t32, hk_tm1, hk_t256, hk_t1500, hk_t4096, hk_t2000, hk_t3000, hk_t512, hk_t1024, true_and, and_true, false_and, and_false, true_or, or_true, false_or, or_false, not_true_eq_false, not_false_eq_true] at cc_2 cc_14 cc_26 cc_35 cc_50 cc_59 cc_68 cc_83 <;> unfold hk_qf <;> (repeat' split) <;> first | rfl | (exfalso; omega)) dX12_property_390
