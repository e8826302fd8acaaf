theorem hk_t0 : (0 : Int32).toInt = 0 := by decide
theorem hk_t1 : (1 : Int32).toInt = 1 := by decide
theorem hk_t2 : (2 : Int32).toInt = 2 := by decide
theorem hk_t3 : (3 : Int32).toInt = 3 := by decide
theorem hk_t4 : (4 : Int32).toInt = 4 := by decide
theorem hk_t5 : (5 : Int32).toInt = 5 := by decide
theorem hk_t6 : (6 : Int32).toInt = 6 := by decide
theorem hk_t7 : (7 : Int32).toInt = 7 := by decide
theorem hk_t8 : (8 : Int32).toInt = 8 := by decide
theorem hk_t9 : (9 : Int32).toInt = 9 := by decide
theorem hk_t10 : (10 : Int32).toInt = 10 := by decide
theorem hk_t11 : (11 : Int32).toInt = 11 := by decide
theorem hk_t12 : (12 : Int32).toInt = 12 := by decide
theorem hk_t13 : (13 : Int32).toInt = 13 := by decide
theorem hk_t14 : (14 : Int32).toInt = 14 := by decide
theorem hk_t15 : (15 : Int32).toInt = 15 := by decide
theorem hk_t16 : (16 : Int32).toInt = 16 := by decide
theorem hk_t17 : (17 : Int32).toInt = 17 := by decide
theorem hk_t18 : (18 : Int32).toInt = 18 := by decide
theorem hk_t20 : (20 : Int32).toInt = 20 := by decide
theorem hk_t32 : (32 : Int32).toInt = 32 := by decide
theorem hk_tm1 : ((-1) : Int32).toInt = -1 := by decide
theorem hk_t256 : (256 : Int32).toInt = 256 := by decide
theorem hk_t1500 : (1500 : Int32).toInt = 1500 := by decide
theorem hk_t4096 : (4096 : Int32).toInt = 4096 := by decide
theorem hk_t2000 : (2000 : Int32).toInt = 2000 := by decide
theorem hk_t3000 : (3000 : Int32).toInt = 3000 := by decide
theorem hk_t512 : (512 : Int32).toInt = 512 := by decide
theorem hk_t1024 : (1024 : Int32).toInt = 1024 := by decide
def xf_g (fm : Int32) : Nat → Int32 := fun k => match k with
  | 0 => fm
  | 2 => (-1)
  | 3 => 3
  | 5 => 2
  | 6 => 4096
  | 7 => 512
  | 8 => 1024
  | 9 => 1
  | _ => 0
def xf_l : Nat → Int64 := fun _ => 0
def ww_cx_isKind : List Cond := Cond.code yX0_isKind cX0_isKind 1 (some .boolean) :: ([] ++ ([]))
set_option maxHeartbeats 4000000 in
set_option maxRecDepth 100000 in
/-- Checks.isKind -/
theorem cx_isKind (l : Launch) (D : va_G) (cI cJ : ClassId) (ad : Nat → Nat) (g : Nat → Int32) (lg : Nat → Int64) (ar : Nat → Nat → Int32) (bk : Nat → Int64) (sz : Nat) (k : Int32) : Met l yX0_isKind ww_cx_isKind { frames := 0, cells := 0, slots := 0, locals := 0 } (va_Pc [.int k] (hk_B D [(cI, .int), (cJ, .long)] sz (xw cI cJ ad g lg ar bk))) (va_Qi (fun (r : Int32) (u : Unit) => (r.toInt = 1 ∧ (k.toInt = 0 ∨ k.toInt = 1 ∨ k.toInt = 4 ∨ k.toInt = 10)) ∨ (r.toInt = 0 ∧ ¬ (k.toInt = 0 ∨ k.toInt = 1 ∨ k.toInt = 4 ∨ k.toInt = 10))) (fun u : Unit => hk_E D [(cI, .int), (cJ, .long)] (va_A (xw cI cJ ad g lg ar bk) sz) (xw cI cJ ad g lg ar bk)) (va_A (xw cI cJ ad g lg ar bk) sz)) 0 0 (va_A (xw cI cJ ad g lg ar bk) sz) := by
  refine hk_met (cc := cX0_isKind) (maxL := 1) (ret := (some .boolean)) (by decide) rfl (Nat.le_of_ble_eq_true rfl) ?_
  intro p e s m below meth c ls hx hb hr hml hown hts hlocks hin hA hw hl
  have hl : lv_has ls 1 [(0, .int k)] := hl
  refine lv_iload_n hx hb dX0_isKind_0 rfl (lv_at hl 0 rfl) ?_
  refine lv_if_eq (tgt := 20) hx hb dX0_isKind_1 (by decide) (fun cc_1 => ?_) (fun cc_1 => ?_)
  · refine lv_iconst (v := 1) hx hb dX0_isKind_20 (by decide) ?_
    refine lv_goto (tgt := 25) hx hb dX0_isKind_21 (by decide) ?_
    exact hk_zret (u := ()) hx hb hr rfl hlocks (hw) (by simp only [Int32.lt_iff_toInt_lt, Int32.le_iff_toInt_le, ← Int32.toInt_inj, hk_t0, hk_t1, hk_t2, hk_t3, hk_t4, hk_t5, hk_t6, hk_t7, hk_t8, hk_t9, hk_t10, hk_t11, hk_t12, hk_t13, hk_t14, hk_t15, hk_t16, hk_t17, hk_t18, hk_t20, hk_t32, hk_tm1, hk_t256, hk_t1500, hk_t4096, hk_t2000, hk_t3000, hk_t512, hk_t1024, true_and, and_true, false_and, and_false, true_or, or_true, false_or, or_false, not_true_eq_false, not_false_eq_true] at cc_1 ⊢; omega) dX0_isKind_25
  · refine lv_iload_n hx hb dX0_isKind_4 rfl (lv_at hl 0 rfl) ?_
    refine lv_iconst (v := 1) hx hb dX0_isKind_5 (by decide) ?_
    refine lv_icmp_eq (tgt := 20) hx hb dX0_isKind_6 (by decide) (fun cc_2 => ?_) (fun cc_2 => ?_)
    · refine lv_iconst (v := 1) hx hb dX0_isKind_20 (by decide) ?_
      refine lv_goto (tgt := 25) hx hb dX0_isKind_21 (by decide) ?_
      exact hk_zret (u := ()) hx hb hr rfl hlocks (hw) (by simp only [Int32.lt_iff_toInt_lt, Int32.le_iff_toInt_le, ← Int32.toInt_inj, hk_t0, hk_t1, hk_t2, hk_t3, hk_t4, hk_t5, hk_t6, hk_t7, hk_t8, hk_t9, hk_t10, hk_t11, hk_t12, hk_t13, hk_t14, hk_t15, hk_t16, hk_t17, hk_t18, hk_t20, hk_t32, hk_tm1, hk_t256, hk_t1500, hk_t4096, hk_t2000, hk_t3000, hk_t512, hk_t1024, true_and, and_true, false_and, and_false, true_or, or_true, false_or, or_false, not_true_eq_false, not_false_eq_true] at cc_1 cc_2 ⊢; omega) dX0_isKind_25
    · refine lv_iload_n hx hb dX0_isKind_9 rfl (lv_at hl 0 rfl) ?_
      refine lv_iconst (v := 4) hx hb dX0_isKind_10 (by decide) ?_
      refine lv_icmp_eq (tgt := 20) hx hb dX0_isKind_11 (by decide) (fun cc_3 => ?_) (fun cc_3 => ?_)
      · refine lv_iconst (v := 1) hx hb dX0_isKind_20 (by decide) ?_
        refine lv_goto (tgt := 25) hx hb dX0_isKind_21 (by decide) ?_
        exact hk_zret (u := ()) hx hb hr rfl hlocks (hw) (by simp only [Int32.lt_iff_toInt_lt, Int32.le_iff_toInt_le, ← Int32.toInt_inj, hk_t0, hk_t1, hk_t2, hk_t3, hk_t4, hk_t5, hk_t6, hk_t7, hk_t8, hk_t9, hk_t10, hk_t11, hk_t12, hk_t13, hk_t14, hk_t15, hk_t16, hk_t17, hk_t18, hk_t20, hk_t32, hk_tm1, hk_t256, hk_t1500, hk_t4096, hk_t2000, hk_t3000, hk_t512, hk_t1024, true_and, and_true, false_and, and_false, true_or, or_true, false_or, or_false, not_true_eq_false, not_false_eq_true] at cc_1 cc_2 cc_3 ⊢; omega) dX0_isKind_25
      · refine lv_iload_n hx hb dX0_isKind_14 rfl (lv_at hl 0 rfl) ?_
        refine lv_bipush (v := 10) hx hb dX0_isKind_15 (by decide) ?_
        refine lv_icmp_ne (tgt := 24) hx hb dX0_isKind_17 (by decide) (fun cc_4 => ?_) (fun cc_4 => ?_)
        · refine lv_iconst (v := 0) hx hb dX0_isKind_24 (by decide) ?_
          exact hk_zret (u := ()) hx hb hr rfl hlocks (hw) (by simp only [Int32.lt_iff_toInt_lt, Int32.le_iff_toInt_le, ← Int32.toInt_inj, hk_t0, hk_t1, hk_t2, hk_t3, hk_t4, hk_t5, hk_t6, hk_t7, hk_t8, hk_t9, hk_t10, hk_t11, hk_t12, hk_t13, hk_t14, hk_t15, hk_t16, hk_t17, hk_t18, hk_t20, hk_t32, hk_tm1, hk_t256, hk_t1500, hk_t4096, hk_t2000, hk_t3000, hk_t512, hk_t1024, true_and, and_true, false_and, and_false, true_or, or_true, false_or, or_false, not_true_eq_false, not_false_eq_true] at cc_1 cc_2 cc_3 cc_4 ⊢; omega) dX0_isKind_25
        · refine lv_iconst (v := 1) hx hb dX0_isKind_20 (by decide) ?_
          refine lv_goto (tgt := 25) hx hb dX0_isKind_21 (by decide) ?_
          exact hk_zret (u := ()) hx hb hr rfl hlocks (hw) (by simp only [Int32.lt_iff_toInt_lt, Int32.le_iff_toInt_le, ← Int32.toInt_inj, hk_t0, hk_t1, hk_t2, hk_t3, hk_t4, hk_t5, hk_t6, hk_t7, hk_t8, hk_t9, hk_t10, hk_t11, hk_t12, hk_t13, hk_t14, hk_t15, hk_t16, hk_t17, hk_t18, hk_t20, hk_t32, hk_tm1, hk_t256, hk_t1500, hk_t4096, hk_t2000, hk_t3000, hk_t512, hk_t1024, true_and, and_true, false_and, and_false, true_or, or_true, false_or, or_false, not_true_eq_false, not_false_eq_true] at cc_1 cc_2 cc_3 cc_4 ⊢; omega) dX0_isKind_25

def ww_cx_setFilter : List Cond := Cond.code yX10_setFilter cX10_setFilter 3 (some .boolean) :: ([Cond.fieldLink RX10 45 "LzmaChains$Settings" "branch" "I", Cond.fieldLink RX10 42 "LzmaChains$Settings" "delta" "I"] ++ (wsX100 ++ ([])))
set_option maxHeartbeats 4000000 in
set_option maxRecDepth 100000 in
/-- Settings.setFilter -/
theorem cx_setFilter (l : Launch) (D : va_G) (cI cJ : ClassId) (ad : Nat → Nat) (g : Nat → Int32) (lg : Nat → Int64) (ar : Nat → Nat → Int32) (bk : Nat → Int64) (sz : Nat) (k v : Int32) : Met l yX10_setFilter ww_cx_setFilter { frames := 0, cells := 0, slots := 0, locals := 0 } (va_Pc [.ref (ad 1), .int k, .int v] (hk_B D [(cI, .int), (cJ, .long)] sz (xw cI cJ ad g lg ar bk))) (va_Qi (fun (r : Int32) (u : Nat → Int32) => (r.toInt = 1 ∧ (k.toInt = 0 ∧ 0 ≤ v.toInt ∧ v.toInt ≤ 256 ∨ k.toInt = 1 ∧ (v.toInt = 0 ∨ v.toInt = 1))) ∨ (r.toInt = 0 ∧ ¬ (k.toInt = 0 ∧ 0 ≤ v.toInt ∧ v.toInt ≤ 256 ∨ k.toInt = 1 ∧ (v.toInt = 0 ∨ v.toInt = 1)))) (fun u : Nat → Int32 => hk_E D [(cI, .int), (cJ, .long)] (va_A (xw cI cJ ad g lg ar bk) sz) (xw cI cJ ad u lg ar bk)) (va_A (xw cI cJ ad g lg ar bk) sz)) 0 0 (va_A (xw cI cJ ad g lg ar bk) sz) := by
  refine hk_met (cc := cX10_setFilter) (maxL := 3) (ret := (some .boolean)) (by decide) rfl (Nat.le_of_ble_eq_true rfl) ?_
  intro p e s m below meth c ls hx hb hr hml hown hts hlocks hin hA hw hl
  have iX10 : ∀ w ∈ wsX100, w ∈ ww_cx_setFilter := fun _ h => List.mem_cons_of_mem _ (List.mem_append_right _ (List.mem_append_left _ h))
  have hl : lv_has ls 3 [(0, .ref (ad 1)), (1, .int k), (2, .int v)] := hl
  refine lv_iload_n hx hb dX10_setFilter_0 rfl (lv_at hl 1 rfl) ?_
  refine lv_if_ne (tgt := 22) hx hb dX10_setFilter_1 (by decide) (fun cc_1 => ?_) (fun cc_1 => ?_)
  · refine lv_iload_n hx hb dX10_setFilter_22 rfl (lv_at hl 1 rfl) ?_
    refine lv_iconst (v := 1) hx hb dX10_setFilter_23 (by decide) ?_
    refine lv_icmp_ne (tgt := 43) hx hb dX10_setFilter_24 (by decide) (fun cc_2 => ?_) (fun cc_2 => ?_)
    · refine lv_iconst (v := 0) hx hb dX10_setFilter_43 (by decide) ?_
      exact hk_zret (u := g) hx hb hr rfl hlocks (hw) (by simp only [Int32.lt_iff_toInt_lt, Int32.le_iff_toInt_le, ← Int32.toInt_inj, hk_t0, hk_t1, hk_t2, hk_t3, hk_t4, hk_t5, hk_t6, hk_t7, hk_t8, hk_t9, hk_t10, hk_t11, hk_t12, hk_t13, hk_t14, hk_t15, hk_t16, hk_t17, hk_t18, hk_t20, hk_t32, hk_tm1, hk_t256, hk_t1500, hk_t4096, hk_t2000, hk_t3000, hk_t512, hk_t1024, true_and, and_true, false_and, and_false, true_or, or_true, false_or, or_false, not_true_eq_false, not_false_eq_true] at cc_1 cc_2 ⊢; omega) dX10_setFilter_44
    · refine lv_iload_n hx hb dX10_setFilter_27 rfl (lv_at hl 2 rfl) ?_
      refine lv_if_eq (tgt := 36) hx hb dX10_setFilter_28 (by decide) (fun cc_3 => ?_) (fun cc_3 => ?_)
      · refine lv_aload_n hx hb dX10_setFilter_36 rfl (lv_at hl 0 rfl) ?_
        refine lv_iload_n hx hb dX10_setFilter_37 rfl (lv_at hl 2 rfl) ?_
        refine hk_put (ci := 13) (C := RX10) (T := TX10) (N := 10) (ty := .int) (v := .int v) hx hb hts iX10 tyX10 tyX10_ok nmX10 hown hw 1 rfl rfl 9 (by decide) (hts _ (List.mem_of_getElem? (i := 1) rfl)) rfl (by decide +kernel) rfl rfl (Nat.le_of_ble_eq_true rfl) dX10_setFilter_38 (ws' := xw cI cJ ad (upd g 12 v) lg ar bk) rfl (fun H locs hw => ?_)
        refine lv_iconst (v := 1) hx hb dX10_setFilter_41 (by decide) ?_
        exact hk_zret (u := (upd g 12 v)) hx hb hr rfl hlocks (hw) (by simp only [Int32.lt_iff_toInt_lt, Int32.le_iff_toInt_le, ← Int32.toInt_inj, hk_t0, hk_t1, hk_t2, hk_t3, hk_t4, hk_t5, hk_t6, hk_t7, hk_t8, hk_t9, hk_t10, hk_t11, hk_t12, hk_t13, hk_t14, hk_t15, hk_t16, hk_t17, hk_t18, hk_t20, hk_t32, hk_tm1, hk_t256, hk_t1500, hk_t4096, hk_t2000, hk_t3000, hk_t512, hk_t1024, true_and, and_true, false_and, and_false, true_or, or_true, false_or, or_false, not_true_eq_false, not_false_eq_true] at cc_1 cc_2 cc_3 ⊢; omega) dX10_setFilter_42
      · refine lv_iload_n hx hb dX10_setFilter_31 rfl (lv_at hl 2 rfl) ?_
        refine lv_iconst (v := 1) hx hb dX10_setFilter_32 (by decide) ?_
        refine lv_icmp_ne (tgt := 43) hx hb dX10_setFilter_33 (by decide) (fun cc_4 => ?_) (fun cc_4 => ?_)
        · refine lv_iconst (v := 0) hx hb dX10_setFilter_43 (by decide) ?_
          exact hk_zret (u := g) hx hb hr rfl hlocks (hw) (by simp only [Int32.lt_iff_toInt_lt, Int32.le_iff_toInt_le, ← Int32.toInt_inj, hk_t0, hk_t1, hk_t2, hk_t3, hk_t4, hk_t5, hk_t6, hk_t7, hk_t8, hk_t9, hk_t10, hk_t11, hk_t12, hk_t13, hk_t14, hk_t15, hk_t16, hk_t17, hk_t18, hk_t20, hk_t32, hk_tm1, hk_t256, hk_t1500, hk_t4096, hk_t2000, hk_t3000, hk_t512, hk_t1024, true_and, and_true, false_and, and_false, true_or, or_true, false_or, or_false, not_true_eq_false, not_false_eq_true] at cc_1 cc_2 cc_3 cc_4 ⊢; omega) dX10_setFilter_44
        · refine lv_aload_n hx hb dX10_setFilter_36 rfl (lv_at hl 0 rfl) ?_
          refine lv_iload_n hx hb dX10_setFilter_37 rfl (lv_at hl 2 rfl) ?_
          refine hk_put (ci := 13) (C := RX10) (T := TX10) (N := 10) (ty := .int) (v := .int v) hx hb hts iX10 tyX10 tyX10_ok nmX10 hown hw 1 rfl rfl 9 (by decide) (hts _ (List.mem_of_getElem? (i := 1) rfl)) rfl (by decide +kernel) rfl rfl (Nat.le_of_ble_eq_true rfl) dX10_setFilter_38 (ws' := xw cI cJ ad (upd g 12 v) lg ar bk) rfl (fun H locs hw => ?_)
          refine lv_iconst (v := 1) hx hb dX10_setFilter_41 (by decide) ?_
          exact hk_zret (u := (upd g 12 v)) hx hb hr rfl hlocks (hw) (by simp only [Int32.lt_iff_toInt_lt, Int32.le_iff_toInt_le, ← Int32.toInt_inj, hk_t0, hk_t1, hk_t2, hk_t3, hk_t4, hk_t5, hk_t6, hk_t7, hk_t8, hk_t9, hk_t10, hk_t11, hk_t12, hk_t13, hk_t14, hk_t15, hk_t16, hk_t17, hk_t18, hk_t20, hk_t32, hk_tm1, hk_t256, hk_t1500, hk_t4096, hk_t2000, hk_t3000, hk_t512, hk_t1024, true_and, and_true, false_and, and_false, true_or, or_true, false_or, or_false, not_true_eq_false, not_false_eq_true] at cc_1 cc_2 cc_3 cc_4 ⊢; omega) dX10_setFilter_42
  · refine lv_iload_n hx hb dX10_setFilter_4 rfl (lv_at hl 2 rfl) ?_
    refine lv_if_lt (tgt := 22) hx hb dX10_setFilter_5 (by decide) (fun cc_5 => ?_) (fun cc_5 => ?_)
    · refine lv_iload_n hx hb dX10_setFilter_22 rfl (lv_at hl 1 rfl) ?_
      refine lv_iconst (v := 1) hx hb dX10_setFilter_23 (by decide) ?_
      refine lv_icmp_ne (tgt := 43) hx hb dX10_setFilter_24 (by decide) (fun cc_6 => ?_) (fun cc_6 => ?_)
      · refine lv_iconst (v := 0) hx hb dX10_setFilter_43 (by decide) ?_
        exact hk_zret (u := g) hx hb hr rfl hlocks (hw) (by simp only [Int32.lt_iff_toInt_lt, Int32.le_iff_toInt_le, ← Int32.toInt_inj, hk_t0, hk_t1, hk_t2, hk_t3, hk_t4, hk_t5, hk_t6, hk_t7, hk_t8, hk_t9, hk_t10, hk_t11, hk_t12, hk_t13, hk_t14, hk_t15, hk_t16, hk_t17, hk_t18, hk_t20, hk_t32, hk_tm1, hk_t256, hk_t1500, hk_t4096, hk_t2000, hk_t3000, hk_t512, hk_t1024, true_and, and_true, false_and, and_false, true_or, or_true, false_or, or_false, not_true_eq_false, not_false_eq_true] at cc_1 cc_5 cc_6 ⊢; omega) dX10_setFilter_44
      · refine lv_iload_n hx hb dX10_setFilter_27 rfl (lv_at hl 2 rfl) ?_
        refine lv_if_eq (tgt := 36) hx hb dX10_setFilter_28 (by decide) (fun cc_7 => ?_) (fun cc_7 => ?_)
        · refine lv_aload_n hx hb dX10_setFilter_36 rfl (lv_at hl 0 rfl) ?_
          refine lv_iload_n hx hb dX10_setFilter_37 rfl (lv_at hl 2 rfl) ?_
          refine hk_put (ci := 13) (C := RX10) (T := TX10) (N := 10) (ty := .int) (v := .int v) hx hb hts iX10 tyX10 tyX10_ok nmX10 hown hw 1 rfl rfl 9 (by decide) (hts _ (List.mem_of_getElem? (i := 1) rfl)) rfl (by decide +kernel) rfl rfl (Nat.le_of_ble_eq_true rfl) dX10_setFilter_38 (ws' := xw cI cJ ad (upd g 12 v) lg ar bk) rfl (fun H locs hw => ?_)
          refine lv_iconst (v := 1) hx hb dX10_setFilter_41 (by decide) ?_
          exact hk_zret (u := (upd g 12 v)) hx hb hr rfl hlocks (hw) (by simp only [Int32.lt_iff_toInt_lt, Int32.le_iff_toInt_le, ← Int32.toInt_inj, hk_t0, hk_t1, hk_t2, hk_t3, hk_t4, hk_t5, hk_t6, hk_t7, hk_t8, hk_t9, hk_t10, hk_t11, hk_t12, hk_t13, hk_t14, hk_t15, hk_t16, hk_t17, hk_t18, hk_t20, hk_t32, hk_tm1, hk_t256, hk_t1500, hk_t4096, hk_t2000, hk_t3000, hk_t512, hk_t1024, true_and, and_true, false_and, and_false, true_or, or_true, false_or, or_false, not_true_eq_false, not_false_eq_true] at cc_1 cc_5 cc_6 cc_7 ⊢; omega) dX10_setFilter_42
        · refine lv_iload_n hx hb dX10_setFilter_31 rfl (lv_at hl 2 rfl) ?_
          refine lv_iconst (v := 1) hx hb dX10_setFilter_32 (by decide) ?_
          refine lv_icmp_ne (tgt := 43) hx hb dX10_setFilter_33 (by decide) (fun cc_8 => ?_) (fun cc_8 => ?_)
          · refine lv_iconst (v := 0) hx hb dX10_setFilter_43 (by decide) ?_
            exact hk_zret (u := g) hx hb hr rfl hlocks (hw) (by simp only [Int32.lt_iff_toInt_lt, Int32.le_iff_toInt_le, ← Int32.toInt_inj, hk_t0, hk_t1, hk_t2, hk_t3, hk_t4, hk_t5, hk_t6, hk_t7, hk_t8, hk_t9, hk_t10, hk_t11, hk_t12, hk_t13, hk_t14, hk_t15, hk_t16, hk_t17, hk_t18, hk_t20, hk_t32, hk_tm1, hk_t256, hk_t1500, hk_t4096, hk_t2000, hk_t3000, hk_t512, hk_t1024, true_and, and_true, false_and, and_false, true_or, or_true, false_or, or_false, not_true_eq_false, not_false_eq_true] at cc_1 cc_5 cc_6 cc_7 cc_8 ⊢; omega) dX10_setFilter_44
          · refine lv_aload_n hx hb dX10_setFilter_36 rfl (lv_at hl 0 rfl) ?_
            refine lv_iload_n hx hb dX10_setFilter_37 rfl (lv_at hl 2 rfl) ?_
            refine hk_put (ci := 13) (C := RX10) (T := TX10) (N := 10) (ty := .int) (v := .int v) hx hb hts iX10 tyX10 tyX10_ok nmX10 hown hw 1 rfl rfl 9 (by decide) (hts _ (List.mem_of_getElem? (i := 1) rfl)) rfl (by decide +kernel) rfl rfl (Nat.le_of_ble_eq_true rfl) dX10_setFilter_38 (ws' := xw cI cJ ad (upd g 12 v) lg ar bk) rfl (fun H locs hw => ?_)
            refine lv_iconst (v := 1) hx hb dX10_setFilter_41 (by decide) ?_
            exact hk_zret (u := (upd g 12 v)) hx hb hr rfl hlocks (hw) (by simp only [Int32.lt_iff_toInt_lt, Int32.le_iff_toInt_le, ← Int32.toInt_inj, hk_t0, hk_t1, hk_t2, hk_t3, hk_t4, hk_t5, hk_t6, hk_t7, hk_t8, hk_t9, hk_t10, hk_t11, hk_t12, hk_t13, hk_t14, hk_t15, hk_t16, hk_t17, hk_t18, hk_t20, hk_t32, hk_tm1, hk_t256, hk_t1500, hk_t4096, hk_t2000, hk_t3000, hk_t512, hk_t1024, true_and, and_true, false_and, and_false, true_or, or_true, false_or, or_false, not_true_eq_false, not_false_eq_true] at cc_1 cc_5 cc_6 cc_7 cc_8 ⊢; omega) dX10_setFilter_42
    · refine lv_iload_n hx hb dX10_setFilter_8 rfl (lv_at hl 2 rfl) ?_
      refine lv_sipush (v := 256) hx hb dX10_setFilter_9 (by decide) ?_
      refine lv_icmp_gt (tgt := 22) hx hb dX10_setFilter_12 (by decide) (fun cc_9 => ?_) (fun cc_9 => ?_)
      · refine lv_iload_n hx hb dX10_setFilter_22 rfl (lv_at hl 1 rfl) ?_
        refine lv_iconst (v := 1) hx hb dX10_setFilter_23 (by decide) ?_
        refine lv_icmp_ne (tgt := 43) hx hb dX10_setFilter_24 (by decide) (fun cc_10 => ?_) (fun cc_10 => ?_)
        · refine lv_iconst (v := 0) hx hb dX10_setFilter_43 (by decide) ?_
          exact hk_zret (u := g) hx hb hr rfl hlocks (hw) (by simp only [Int32.lt_iff_toInt_lt, Int32.le_iff_toInt_le, ← Int32.toInt_inj, hk_t0, hk_t1, hk_t2, hk_t3, hk_t4, hk_t5, hk_t6, hk_t7, hk_t8, hk_t9, hk_t10, hk_t11, hk_t12, hk_t13, hk_t14, hk_t15, hk_t16, hk_t17, hk_t18, hk_t20, hk_t32, hk_tm1, hk_t256, hk_t1500, hk_t4096, hk_t2000, hk_t3000, hk_t512, hk_t1024, true_and, and_true, false_and, and_false, true_or, or_true, false_or, or_false, not_true_eq_false, not_false_eq_true] at cc_1 cc_5 cc_9 cc_10 ⊢; omega) dX10_setFilter_44
        · refine lv_iload_n hx hb dX10_setFilter_27 rfl (lv_at hl 2 rfl) ?_
          refine lv_if_eq (tgt := 36) hx hb dX10_setFilter_28 (by decide) (fun cc_11 => ?_) (fun cc_11 => ?_)
          · refine lv_aload_n hx hb dX10_setFilter_36 rfl (lv_at hl 0 rfl) ?_
            refine lv_iload_n hx hb dX10_setFilter_37 rfl (lv_at hl 2 rfl) ?_
            refine hk_put (ci := 13) (C := RX10) (T := TX10) (N := 10) (ty := .int) (v := .int v) hx hb hts iX10 tyX10 tyX10_ok nmX10 hown hw 1 rfl rfl 9 (by decide) (hts _ (List.mem_of_getElem? (i := 1) rfl)) rfl (by decide +kernel) rfl rfl (Nat.le_of_ble_eq_true rfl) dX10_setFilter_38 (ws' := xw cI cJ ad (upd g 12 v) lg ar bk) rfl (fun H locs hw => ?_)
            refine lv_iconst (v := 1) hx hb dX10_setFilter_41 (by decide) ?_
            exact hk_zret (u := (upd g 12 v)) hx hb hr rfl hlocks (hw) (by simp only [Int32.lt_iff_toInt_lt, Int32.le_iff_toInt_le, ← Int32.toInt_inj, hk_t0, hk_t1, hk_t2, hk_t3, hk_t4, hk_t5, hk_t6, hk_t7, hk_t8, hk_t9, hk_t10, hk_t11, hk_t12, hk_t13, hk_t14, hk_t15, hk_t16, hk_t17, hk_t18, hk_t20, hk_t32, hk_tm1, hk_t256, hk_t1500, hk_t4096, hk_t2000, hk_t3000, hk_t512, hk_t1024, true_and, and_true, false_and, and_false, true_or, or_true, false_or, or_false, not_true_eq_false, not_false_eq_true] at cc_1 cc_5 cc_9 cc_10 cc_11 ⊢; omega) dX10_setFilter_42
          · refine lv_iload_n hx hb dX10_setFilter_31 rfl (lv_at hl 2 rfl) ?_
            refine lv_iconst (v := 1) hx hb dX10_setFilter_32 (by decide) ?_
            refine lv_icmp_ne (tgt := 43) hx hb dX10_setFilter_33 (by decide) (fun cc_12 => ?_) (fun cc_12 => ?_)
            · refine lv_iconst (v := 0) hx hb dX10_setFilter_43 (by decide) ?_
              exact hk_zret (u := g) hx hb hr rfl hlocks (hw) (by simp only [Int32.lt_iff_toInt_lt, Int32.le_iff_toInt_le, ← Int32.toInt_inj, hk_t0, hk_t1, hk_t2, hk_t3, hk_t4, hk_t5, hk_t6, hk_t7, hk_t8, hk_t9, hk_t10, hk_t11, hk_t12, hk_t13, hk_t14, hk_t15, hk_t16, hk_t17, hk_t18, hk_t20, hk_t32, hk_tm1, hk_t256, hk_t1500, hk_t4096, hk_t2000, hk_t3000, hk_t512, hk_t1024, true_and, and_true, false_and, and_false, true_or, or_true, false_or, or_false, not_true_eq_false, not_false_eq_true] at cc_1 cc_5 cc_9 cc_10 cc_11 cc_12 ⊢; omega) dX10_setFilter_44
            · refine lv_aload_n hx hb dX10_setFilter_36 rfl (lv_at hl 0 rfl) ?_
              refine lv_iload_n hx hb dX10_setFilter_37 rfl (lv_at hl 2 rfl) ?_
              refine hk_put (ci := 13) (C := RX10) (T := TX10) (N := 10) (ty := .int) (v := .int v) hx hb hts iX10 tyX10 tyX10_ok nmX10 hown hw 1 rfl rfl 9 (by decide) (hts _ (List.mem_of_getElem? (i := 1) rfl)) rfl (by decide +kernel) rfl rfl (Nat.le_of_ble_eq_true rfl) dX10_setFilter_38 (ws' := xw cI cJ ad (upd g 12 v) lg ar bk) rfl (fun H locs hw => ?_)
              refine lv_iconst (v := 1) hx hb dX10_setFilter_41 (by decide) ?_
              exact hk_zret (u := (upd g 12 v)) hx hb hr rfl hlocks (hw) (by simp only [Int32.lt_iff_toInt_lt, Int32.le_iff_toInt_le, ← Int32.toInt_inj, hk_t0, hk_t1, hk_t2, hk_t3, hk_t4, hk_t5, hk_t6, hk_t7, hk_t8, hk_t9, hk_t10, hk_t11, hk_t12, hk_t13, hk_t14, hk_t15, hk_t16, hk_t17, hk_t18, hk_t20, hk_t32, hk_tm1, hk_t256, hk_t1500, hk_t4096, hk_t2000, hk_t3000, hk_t512, hk_t1024, true_and, and_true, false_and, and_false, true_or, or_true, false_or, or_false, not_true_eq_false, not_false_eq_true] at cc_1 cc_5 cc_9 cc_10 cc_11 cc_12 ⊢; omega) dX10_setFilter_42
      · refine lv_aload_n hx hb dX10_setFilter_15 rfl (lv_at hl 0 rfl) ?_
        refine lv_iload_n hx hb dX10_setFilter_16 rfl (lv_at hl 2 rfl) ?_
        refine hk_put (ci := 13) (C := RX10) (T := TX10) (N := 10) (ty := .int) (v := .int v) hx hb hts iX10 tyX10 tyX10_ok nmX10 hown hw 1 rfl rfl 8 (by decide) (hts _ (List.mem_of_getElem? (i := 2) rfl)) rfl (by decide +kernel) rfl rfl (Nat.le_of_ble_eq_true rfl) dX10_setFilter_17 (ws' := xw cI cJ ad (upd g 11 v) lg ar bk) rfl (fun H locs hw => ?_)
        refine lv_iconst (v := 1) hx hb dX10_setFilter_20 (by decide) ?_
        exact hk_zret (u := (upd g 11 v)) hx hb hr rfl hlocks (hw) (by simp only [Int32.lt_iff_toInt_lt, Int32.le_iff_toInt_le, ← Int32.toInt_inj, hk_t0, hk_t1, hk_t2, hk_t3, hk_t4, hk_t5, hk_t6, hk_t7, hk_t8, hk_t9, hk_t10, hk_t11, hk_t12, hk_t13, hk_t14, hk_t15, hk_t16, hk_t17, hk_t18, hk_t20, hk_t32, hk_tm1, hk_t256, hk_t1500, hk_t4096, hk_t2000, hk_t3000, hk_t512, hk_t1024, true_and, and_true, false_and, and_false, true_or, or_true, false_or, or_false, not_true_eq_false, not_false_eq_true] at cc_1 cc_5 cc_9 ⊢; omega) dX10_setFilter_21

def ww_ct_filter : List Cond := Cond.code yX11_filter cX11_filter 3 (some .int) :: ([Cond.fieldLink RX11 16 "LzmaChains" "settings" "LLzmaChains$Settings;", Cond.methodLink RX11 97 yX10_setFilter, Cond.instanceMethod yX10_setFilter, Cond.selects RX10 yX10_setFilter yX10_setFilter, Cond.initialized RX10, Cond.code yX10_setFilter cX10_setFilter 3 (some .boolean), Cond.fieldLink RX10 45 "LzmaChains$Settings" "branch" "I", Cond.fieldLink RX10 42 "LzmaChains$Settings" "delta" "I"] ++ (wsX110 ++ (wsX100 ++ ([]))))
set_option maxRecDepth 20000 in
theorem gw_ct_filter_0 : GoodIn ww_ct_filter (wsV RX11 97 RX10 yX10_setFilter ww_cx_setFilter) := goodIn_r _ [2, 3, 4, 5, 6, 7, 8, 20, 21, 22, 23, 24, 25, 26, 27, 28, 29] rfl (by decide +kernel)
set_option maxHeartbeats 4000000 in
set_option maxRecDepth 100000 in
/-- filter on a new object -/
theorem ct_filter (l : Launch) (D : va_G) (cI cJ : ClassId) (ad : Nat → Nat) (fm : Int32) (ar : Nat → Nat → Int32) (bk : Nat → Int64) (sz : Nat) (k v : Int32) : Met l yX11_filter ww_ct_filter { frames := 1, cells := 0, slots := 0, locals := 22 } (va_Pc [.ref (ad 0), .int k, .int v] (hk_B D [(cI, .int), (cJ, .long)] sz (xw cI cJ ad (xf_g fm) xf_l ar bk))) (va_Qi (fun (r : Int32) (u : (Nat → Int32) × (Nat → Int64) × (Nat → Nat → Int32) × (Nat → Int64)) => (r.toInt = 1 ∧ (k.toInt = 0 ∧ 0 ≤ v.toInt ∧ v.toInt ≤ 256 ∨ k.toInt = 1 ∧ (v.toInt = 0 ∨ v.toInt = 1))) ∨ (r.toInt = 0 ∧ ¬ (k.toInt = 0 ∧ 0 ≤ v.toInt ∧ v.toInt ≤ 256 ∨ k.toInt = 1 ∧ (v.toInt = 0 ∨ v.toInt = 1)))) (fun u : (Nat → Int32) × (Nat → Int64) × (Nat → Nat → Int32) × (Nat → Int64) => hk_E D [(cI, .int), (cJ, .long)] (va_A (xw cI cJ ad (xf_g fm) xf_l ar bk) sz) (xw cI cJ ad u.1 u.2.1 u.2.2.1 u.2.2.2)) (va_A (xw cI cJ ad (xf_g fm) xf_l ar bk) sz)) 0 0 (va_A (xw cI cJ ad (xf_g fm) xf_l ar bk) sz) := by
  refine hk_met (cc := cX11_filter) (maxL := 3) (ret := (some .int)) (by decide) rfl (Nat.le_of_ble_eq_true rfl) ?_
  intro p e s m below meth c ls hx hb hr hml hown hts hlocks hin hA hw hl
  have iX11 : ∀ w ∈ wsX110, w ∈ ww_ct_filter := fun _ h => List.mem_cons_of_mem _ (List.mem_append_right _ (List.mem_append_left _ h))
  have iX10 : ∀ w ∈ wsX100, w ∈ ww_ct_filter := fun _ h => List.mem_cons_of_mem _ (List.mem_append_right _ (List.mem_append_right _ (List.mem_append_left _ h)))
  have hl : lv_has ls 3 [(0, .ref (ad 0)), (1, .int k), (2, .int v)] := hl
  refine lv_aload_n hx hb dX11_filter_0 rfl (lv_at hl 0 rfl) ?_
  refine hk_get (ci := 14) (C := RX11) (T := TX11) (N := 11) (v := .ref (ad 1)) hx hb hts iX11 hown hw 0 rfl rfl 1 (by decide) (hts _ (List.mem_of_getElem? (i := 1) rfl)) rfl dX11_filter_1 ?_
  refine lv_iload_n hx hb dX11_filter_4 rfl (lv_at hl 1 rfl) ?_
  refine lv_iload_n hx hb dX11_filter_5 rfl (lv_at hl 2 rfl) ?_
  refine hk_Vi (As := [.int k, .int v]) (rest := []) ⟨hx, hb, hml, hown, hts⟩ hw hA (cx_setFilter l D cI cJ ad (xf_g fm) xf_l ar bk _ k v) (cwV 2 hts gw_ct_filter_0 rfl rfl rfl (by decide +kernel) ⟨Nat.le_of_ble_eq_true rfl, Nat.le_of_ble_eq_true rfl⟩) 1 (ci := 13) (T := TX10) (N := 10) rfl rfl rfl hl.1 rfl (Nat.le_of_ble_eq_true rfl) dX11_filter_6 ⟨Nat.le_of_ble_eq_true rfl, Nat.le_of_ble_eq_true rfl⟩ (fun rr_1 uu_2 H locs hp_3 hw => ?_)
  have hw : hk_W D [(cI, .int), (cJ, .long)] _ s _ _ (xw cI cJ ad uu_2 xf_l ar bk) := hw
  refine lv_if_eq (tgt := 16) hx hb dX11_filter_9 (by decide) (fun cc_4 => ?_) (fun cc_4 => ?_)
  · refine lv_iconst (v := 0) hx hb dX11_filter_16 (by decide) ?_
    exact hk_iret (u := (uu_2, xf_l, ar, bk)) hx hb hr hlocks (hw) (by simp only [Int32.lt_iff_toInt_lt, Int32.le_iff_toInt_le, ← Int32.toInt_inj, hk_t0, hk_t1, hk_t2, hk_t3, hk_t4, hk_t5, hk_t6, hk_t7, hk_t8, hk_t9, hk_t10, hk_t11, hk_t12, hk_t13, hk_t14, hk_t15, hk_t16, hk_t17, hk_t18, hk_t20, hk_t32, hk_tm1, hk_t256, hk_t1500, hk_t4096, hk_t2000, hk_t3000, hk_t512, hk_t1024, true_and, and_true, false_and, and_false, true_or, or_true, false_or, or_false, not_true_eq_false, not_false_eq_true] at cc_4 hp_3 ⊢; omega) dX11_filter_17
  · refine lv_iconst (v := 1) hx hb dX11_filter_12 (by decide) ?_
    refine lv_goto (tgt := 17) hx hb dX11_filter_13 (by decide) ?_
    exact hk_iret (u := (uu_2, xf_l, ar, bk)) hx hb hr hlocks (hw) (by simp only [Int32.lt_iff_toInt_lt, Int32.le_iff_toInt_le, ← Int32.toInt_inj, hk_t0, hk_t1, hk_t2, hk_t3, hk_t4, hk_t5, hk_t6, hk_t7, hk_t8, hk_t9, hk_t10, hk_t11, hk_t12, hk_t13, hk_t14, hk_t15, hk_t16, hk_t17, hk_t18, hk_t20, hk_t32, hk_tm1, hk_t256, hk_t1500, hk_t4096, hk_t2000, hk_t3000, hk_t512, hk_t1024, true_and, and_true, false_and, and_false, true_or, or_true, false_or, or_false, not_true_eq_false, not_false_eq_true] at cc_4 hp_3 ⊢; omega) dX11_filter_17

def ww_ct_rule : List Cond := Cond.code yX11_rule cX11_rule 1 (some .int) :: ([Cond.fieldLink RX11 83 "LzmaChains" "broken" "I"] ++ (wsX110 ++ ([])))
set_option maxHeartbeats 4000000 in
set_option maxRecDepth 100000 in
/-- rule on a new object -/
theorem ct_rule (l : Launch) (D : va_G) (cI cJ : ClassId) (ad : Nat → Nat) (fm : Int32) (ar : Nat → Nat → Int32) (bk : Nat → Int64) (sz : Nat)  : Met l yX11_rule ww_ct_rule { frames := 0, cells := 0, slots := 0, locals := 0 } (va_Pc [.ref (ad 0)] (hk_B D [(cI, .int), (cJ, .long)] sz (xw cI cJ ad (xf_g fm) xf_l ar bk))) (va_Qi (fun (r : Int32) (u : (Nat → Int32) × (Nat → Int64) × (Nat → Nat → Int32) × (Nat → Int64)) => r = 0) (fun u : (Nat → Int32) × (Nat → Int64) × (Nat → Nat → Int32) × (Nat → Int64) => hk_E D [(cI, .int), (cJ, .long)] (va_A (xw cI cJ ad (xf_g fm) xf_l ar bk) sz) (xw cI cJ ad u.1 u.2.1 u.2.2.1 u.2.2.2)) (va_A (xw cI cJ ad (xf_g fm) xf_l ar bk) sz)) 0 0 (va_A (xw cI cJ ad (xf_g fm) xf_l ar bk) sz) := by
  refine hk_met (cc := cX11_rule) (maxL := 1) (ret := (some .int)) (by decide) rfl (Nat.le_of_ble_eq_true rfl) ?_
  intro p e s m below meth c ls hx hb hr hml hown hts hlocks hin hA hw hl
  have iX11 : ∀ w ∈ wsX110, w ∈ ww_ct_rule := fun _ h => List.mem_cons_of_mem _ (List.mem_append_right _ (List.mem_append_left _ h))
  have hl : lv_has ls 1 [(0, .ref (ad 0))] := hl
  refine lv_aload_n hx hb dX11_rule_0 rfl (lv_at hl 0 rfl) ?_
  refine hk_get (ci := 14) (C := RX11) (T := TX11) (N := 11) (v := .int 0) hx hb hts iX11 hown hw 0 rfl rfl 9 (by decide) (hts _ (List.mem_of_getElem? (i := 1) rfl)) rfl dX11_rule_1 ?_
  exact hk_iret (u := ((xf_g fm), xf_l, ar, bk)) hx hb hr hlocks (hw) (rfl) dX11_rule_4

def ww_ct_state : List Cond := Cond.code yX11_state cX11_state 1 (some .int) :: ([Cond.fieldLink RX11 86 "LzmaChains" "lastState" "I"] ++ (wsX110 ++ ([])))
set_option maxHeartbeats 4000000 in
set_option maxRecDepth 100000 in
/-- state on a new object -/
theorem ct_state (l : Launch) (D : va_G) (cI cJ : ClassId) (ad : Nat → Nat) (fm : Int32) (ar : Nat → Nat → Int32) (bk : Nat → Int64) (sz : Nat)  : Met l yX11_state ww_ct_state { frames := 0, cells := 0, slots := 0, locals := 0 } (va_Pc [.ref (ad 0)] (hk_B D [(cI, .int), (cJ, .long)] sz (xw cI cJ ad (xf_g fm) xf_l ar bk))) (va_Qi (fun (r : Int32) (u : (Nat → Int32) × (Nat → Int64) × (Nat → Nat → Int32) × (Nat → Int64)) => r = -1) (fun u : (Nat → Int32) × (Nat → Int64) × (Nat → Nat → Int32) × (Nat → Int64) => hk_E D [(cI, .int), (cJ, .long)] (va_A (xw cI cJ ad (xf_g fm) xf_l ar bk) sz) (xw cI cJ ad u.1 u.2.1 u.2.2.1 u.2.2.2)) (va_A (xw cI cJ ad (xf_g fm) xf_l ar bk) sz)) 0 0 (va_A (xw cI cJ ad (xf_g fm) xf_l ar bk) sz) := by
  refine hk_met (cc := cX11_state) (maxL := 1) (ret := (some .int)) (by decide) rfl (Nat.le_of_ble_eq_true rfl) ?_
  intro p e s m below meth c ls hx hb hr hml hown hts hlocks hin hA hw hl
  have iX11 : ∀ w ∈ wsX110, w ∈ ww_ct_state := fun _ h => List.mem_cons_of_mem _ (List.mem_append_right _ (List.mem_append_left _ h))
  have hl : lv_has ls 1 [(0, .ref (ad 0))] := hl
  refine lv_aload_n hx hb dX11_state_0 rfl (lv_at hl 0 rfl) ?_
  refine hk_get (ci := 14) (C := RX11) (T := TX11) (N := 11) (v := .int (-1)) hx hb hts iX11 hown hw 0 rfl rfl 10 (by decide) (hts _ (List.mem_of_getElem? (i := 1) rfl)) rfl dX11_state_1 ?_
  exact hk_iret (u := ((xf_g fm), xf_l, ar, bk)) hx hb hr hlocks (hw) (rfl) dX11_state_4

def ww_ct_count : List Cond := Cond.code yX11_count cX11_count 2 (some .int) :: ([Cond.fieldLink RX11 29 "LzmaChains" "output" "LLzmaChains$Row;", Cond.fieldLink RX11 100 "LzmaChains$Row" "size" "I", Cond.fieldLink RX11 25 "LzmaChains" "input" "LLzmaChains$Row;"] ++ (wsX110 ++ (wsX90 ++ ([]))))
set_option maxHeartbeats 4000000 in
set_option maxRecDepth 100000 in
/-- count on a new object -/
theorem ct_count (l : Launch) (D : va_G) (cI cJ : ClassId) (ad : Nat → Nat) (fm : Int32) (ar : Nat → Nat → Int32) (bk : Nat → Int64) (sz : Nat) (k : Int32) : Met l yX11_count ww_ct_count { frames := 0, cells := 0, slots := 0, locals := 0 } (va_Pc [.ref (ad 0), .int k] (hk_B D [(cI, .int), (cJ, .long)] sz (xw cI cJ ad (xf_g fm) xf_l ar bk))) (va_Qi (fun (r : Int32) (u : (Nat → Int32) × (Nat → Int64) × (Nat → Nat → Int32) × (Nat → Int64)) => (r.toInt = 0 ∧ (k.toInt = 0 ∨ k.toInt = 1)) ∨ (r.toInt = -1 ∧ ¬ (k.toInt = 0 ∨ k.toInt = 1))) (fun u : (Nat → Int32) × (Nat → Int64) × (Nat → Nat → Int32) × (Nat → Int64) => hk_E D [(cI, .int), (cJ, .long)] (va_A (xw cI cJ ad (xf_g fm) xf_l ar bk) sz) (xw cI cJ ad u.1 u.2.1 u.2.2.1 u.2.2.2)) (va_A (xw cI cJ ad (xf_g fm) xf_l ar bk) sz)) 0 0 (va_A (xw cI cJ ad (xf_g fm) xf_l ar bk) sz) := by
  refine hk_met (cc := cX11_count) (maxL := 2) (ret := (some .int)) (by decide) rfl (Nat.le_of_ble_eq_true rfl) ?_
  intro p e s m below meth c ls hx hb hr hml hown hts hlocks hin hA hw hl
  have iX11 : ∀ w ∈ wsX110, w ∈ ww_ct_count := fun _ h => List.mem_cons_of_mem _ (List.mem_append_right _ (List.mem_append_left _ h))
  have iX9 : ∀ w ∈ wsX90, w ∈ ww_ct_count := fun _ h => List.mem_cons_of_mem _ (List.mem_append_right _ (List.mem_append_right _ (List.mem_append_left _ h)))
  have hl : lv_has ls 2 [(0, .ref (ad 0)), (1, .int k)] := hl
  refine lv_iload_n hx hb dX11_count_0 rfl (lv_at hl 1 rfl) ?_
  refine lv_if_ne (tgt := 12) hx hb dX11_count_1 (by decide) (fun cc_1 => ?_) (fun cc_1 => ?_)
  · refine lv_iload_n hx hb dX11_count_12 rfl (lv_at hl 1 rfl) ?_
    refine lv_iconst (v := 1) hx hb dX11_count_13 (by decide) ?_
    refine lv_icmp_ne (tgt := 27) hx hb dX11_count_14 (by decide) (fun cc_2 => ?_) (fun cc_2 => ?_)
    · refine lv_iconst (v := (-1)) hx hb dX11_count_27 (by decide) ?_
      exact hk_iret (u := ((xf_g fm), xf_l, ar, bk)) hx hb hr hlocks (hw) (by simp only [Int32.lt_iff_toInt_lt, Int32.le_iff_toInt_le, ← Int32.toInt_inj, hk_t0, hk_t1, hk_t2, hk_t3, hk_t4, hk_t5, hk_t6, hk_t7, hk_t8, hk_t9, hk_t10, hk_t11, hk_t12, hk_t13, hk_t14, hk_t15, hk_t16, hk_t17, hk_t18, hk_t20, hk_t32, hk_tm1, hk_t256, hk_t1500, hk_t4096, hk_t2000, hk_t3000, hk_t512, hk_t1024, true_and, and_true, false_and, and_false, true_or, or_true, false_or, or_false, not_true_eq_false, not_false_eq_true] at cc_1 cc_2 ⊢; omega) dX11_count_28
    · refine lv_aload_n hx hb dX11_count_17 rfl (lv_at hl 0 rfl) ?_
      refine hk_get (ci := 14) (C := RX11) (T := TX11) (N := 11) (v := .ref (ad 4)) hx hb hts iX11 hown hw 0 rfl rfl 3 (by decide) (hts _ (List.mem_of_getElem? (i := 1) rfl)) rfl dX11_count_18 ?_
      refine hk_get (ci := 12) (C := RX9) (T := TX9) (N := 2) (v := .int 0) hx hb hts iX9 hown hw 4 rfl rfl 1 (by decide) (hts _ (List.mem_of_getElem? (i := 2) rfl)) rfl dX11_count_21 ?_
      refine lv_goto (tgt := 28) hx hb dX11_count_24 (by decide) ?_
      exact hk_iret (u := ((xf_g fm), xf_l, ar, bk)) hx hb hr hlocks (hw) (by simp only [Int32.lt_iff_toInt_lt, Int32.le_iff_toInt_le, ← Int32.toInt_inj, hk_t0, hk_t1, hk_t2, hk_t3, hk_t4, hk_t5, hk_t6, hk_t7, hk_t8, hk_t9, hk_t10, hk_t11, hk_t12, hk_t13, hk_t14, hk_t15, hk_t16, hk_t17, hk_t18, hk_t20, hk_t32, hk_tm1, hk_t256, hk_t1500, hk_t4096, hk_t2000, hk_t3000, hk_t512, hk_t1024, true_and, and_true, false_and, and_false, true_or, or_true, false_or, or_false, not_true_eq_false, not_false_eq_true] at cc_1 cc_2 ⊢; omega) dX11_count_28
  · refine lv_aload_n hx hb dX11_count_4 rfl (lv_at hl 0 rfl) ?_
    refine hk_get (ci := 14) (C := RX11) (T := TX11) (N := 11) (v := .ref (ad 2)) hx hb hts iX11 hown hw 0 rfl rfl 2 (by decide) (hts _ (List.mem_of_getElem? (i := 3) rfl)) rfl dX11_count_5 ?_
    refine hk_get (ci := 12) (C := RX9) (T := TX9) (N := 2) (v := .int 0) hx hb hts iX9 hown hw 2 rfl rfl 1 (by decide) (hts _ (List.mem_of_getElem? (i := 2) rfl)) rfl dX11_count_8 ?_
    exact hk_iret (u := ((xf_g fm), xf_l, ar, bk)) hx hb hr hlocks (hw) (by simp only [Int32.lt_iff_toInt_lt, Int32.le_iff_toInt_le, ← Int32.toInt_inj, hk_t0, hk_t1, hk_t2, hk_t3, hk_t4, hk_t5, hk_t6, hk_t7, hk_t8, hk_t9, hk_t10, hk_t11, hk_t12, hk_t13, hk_t14, hk_t15, hk_t16, hk_t17, hk_t18, hk_t20, hk_t32, hk_tm1, hk_t256, hk_t1500, hk_t4096, hk_t2000, hk_t3000, hk_t512, hk_t1024, true_and, and_true, false_and, and_false, true_or, or_true, false_or, or_false, not_true_eq_false, not_false_eq_true] at cc_1 ⊢; omega) dX11_count_11

def ww_ct_end : List Cond := Cond.code yX11_end cX11_end 2 (some .int) :: ([Cond.fieldLink RX11 25 "LzmaChains" "input" "LLzmaChains$Row;", Cond.fieldLink RX11 100 "LzmaChains$Row" "size" "I"] ++ (wsX110 ++ (wsX90 ++ ([]))))
set_option maxHeartbeats 4000000 in
set_option maxRecDepth 100000 in
/-- end on a new object -/
theorem ct_end (l : Launch) (D : va_G) (cI cJ : ClassId) (ad : Nat → Nat) (fm : Int32) (ar : Nat → Nat → Int32) (bk : Nat → Int64) (sz : Nat) (n : Int32) : Met l yX11_end ww_ct_end { frames := 0, cells := 0, slots := 0, locals := 0 } (va_Pc [.ref (ad 0), .int n] (hk_B D [(cI, .int), (cJ, .long)] sz (xw cI cJ ad (xf_g fm) xf_l ar bk))) (va_Qi (fun (r : Int32) (u : (Nat → Int32) × (Nat → Int64) × (Nat → Nat → Int32) × (Nat → Int64)) => r = -1) (fun u : (Nat → Int32) × (Nat → Int64) × (Nat → Nat → Int32) × (Nat → Int64) => hk_E D [(cI, .int), (cJ, .long)] (va_A (xw cI cJ ad (xf_g fm) xf_l ar bk) sz) (xw cI cJ ad u.1 u.2.1 u.2.2.1 u.2.2.2)) (va_A (xw cI cJ ad (xf_g fm) xf_l ar bk) sz)) 0 0 (va_A (xw cI cJ ad (xf_g fm) xf_l ar bk) sz) := by
  refine hk_met (cc := cX11_end) (maxL := 2) (ret := (some .int)) (by decide) rfl (Nat.le_of_ble_eq_true rfl) ?_
  intro p e s m below meth c ls hx hb hr hml hown hts hlocks hin hA hw hl
  have iX11 : ∀ w ∈ wsX110, w ∈ ww_ct_end := fun _ h => List.mem_cons_of_mem _ (List.mem_append_right _ (List.mem_append_left _ h))
  have iX9 : ∀ w ∈ wsX90, w ∈ ww_ct_end := fun _ h => List.mem_cons_of_mem _ (List.mem_append_right _ (List.mem_append_right _ (List.mem_append_left _ h)))
  have hl : lv_has ls 2 [(0, .ref (ad 0)), (1, .int n)] := hl
  refine lv_iload_n hx hb dX11_end_0 rfl (lv_at hl 1 rfl) ?_
  refine lv_if_lt (tgt := 22) hx hb dX11_end_1 (by decide) (fun cc_1 => ?_) (fun cc_1 => ?_)
  · refine lv_iconst (v := (-1)) hx hb dX11_end_22 (by decide) ?_
    exact hk_iret (u := ((xf_g fm), xf_l, ar, bk)) hx hb hr hlocks (hw) (rfl) dX11_end_23
  · refine lv_iload_n hx hb dX11_end_4 rfl (lv_at hl 1 rfl) ?_
    refine lv_bipush (v := 20) hx hb dX11_end_5 (by decide) ?_
    refine lv_icmp_gt (tgt := 22) hx hb dX11_end_7 (by decide) (fun cc_2 => ?_) (fun cc_2 => ?_)
    · refine lv_iconst (v := (-1)) hx hb dX11_end_22 (by decide) ?_
      exact hk_iret (u := ((xf_g fm), xf_l, ar, bk)) hx hb hr hlocks (hw) (rfl) dX11_end_23
    · refine lv_aload_n hx hb dX11_end_10 rfl (lv_at hl 0 rfl) ?_
      refine hk_get (ci := 14) (C := RX11) (T := TX11) (N := 11) (v := .ref (ad 2)) hx hb hts iX11 hown hw 0 rfl rfl 2 (by decide) (hts _ (List.mem_of_getElem? (i := 1) rfl)) rfl dX11_end_11 ?_
      refine hk_get (ci := 12) (C := RX9) (T := TX9) (N := 2) (v := .int 0) hx hb hts iX9 hown hw 2 rfl rfl 1 (by decide) (hts _ (List.mem_of_getElem? (i := 2) rfl)) rfl dX11_end_14 ?_
      refine lv_bipush (v := 20) hx hb dX11_end_17 (by decide) ?_
      refine lv_icmp_ge (tgt := 24) hx hb dX11_end_19 (by decide) (fun cc_3 => absurd cc_3 (by decide)) (fun _ => ?_)
      refine lv_iconst (v := (-1)) hx hb dX11_end_22 (by decide) ?_
      exact hk_iret (u := ((xf_g fm), xf_l, ar, bk)) hx hb hr hlocks (hw) (rfl) dX11_end_23

def ww_ct_octet : List Cond := Cond.code yX11_octet cX11_octet 2 (some .int) :: ([Cond.fieldLink RX11 25 "LzmaChains" "input" "LLzmaChains$Row;", Cond.fieldLink RX11 100 "LzmaChains$Row" "size" "I", Cond.methodLink RX11 107 yX9_put, Cond.instanceMethod yX9_put, Cond.selects RX9 yX9_put yX9_put, Cond.initialized RX9, Cond.code yX9_put cX9_put 2 none, Cond.fieldLink RX9 13 "LzmaChains$Row" "size" "I", Cond.methodLink RX9 17 yX9_set, Cond.instanceMethod yX9_set, Cond.selects RX9 yX9_set yX9_set, Cond.code yX9_set cX9_set 3 none, Cond.fieldLink RX9 7 "LzmaChains$Row" "data" "[I"] ++ (wsX110 ++ (wsX90 ++ ([]))))
set_option maxRecDepth 20000 in
theorem gw_ct_octet_0 : GoodIn ww_ct_octet (wsV RX11 107 RX9 yX9_put ww_cx_in_put) := goodIn_r _ [3, 4, 5, 6, 7, 8, 9, 10, 11, 6, 12, 13, 25, 26] rfl (by decide +kernel)
set_option maxHeartbeats 4000000 in
set_option maxRecDepth 100000 in
/-- octet on a new object -/
theorem ct_octet (l : Launch) (D : va_G) (cI cJ : ClassId) (ad : Nat → Nat) (fm : Int32) (ar : Nat → Nat → Int32) (bk : Nat → Int64) (sz : Nat) (b : Int32) : Met l yX11_octet ww_ct_octet { frames := 2, cells := 0, slots := 0, locals := 43 } (va_Pc [.ref (ad 0), .int b] (hk_B D [(cI, .int), (cJ, .long)] sz (xw cI cJ ad (xf_g fm) xf_l ar bk))) (va_Qi (fun (r : Int32) (u : (Nat → Int32) × (Nat → Int64) × (Nat → Nat → Int32) × (Nat → Int64)) => r = 1) (fun u : (Nat → Int32) × (Nat → Int64) × (Nat → Nat → Int32) × (Nat → Int64) => hk_E D [(cI, .int), (cJ, .long)] (va_A (xw cI cJ ad (xf_g fm) xf_l ar bk) sz) (xw cI cJ ad u.1 u.2.1 u.2.2.1 u.2.2.2)) (va_A (xw cI cJ ad (xf_g fm) xf_l ar bk) sz)) 0 0 (va_A (xw cI cJ ad (xf_g fm) xf_l ar bk) sz) := by
  refine hk_met (cc := cX11_octet) (maxL := 2) (ret := (some .int)) (by decide) rfl (Nat.le_of_ble_eq_true rfl) ?_
  intro p e s m below meth c ls hx hb hr hml hown hts hlocks hin hA hw hl
  have iX11 : ∀ w ∈ wsX110, w ∈ ww_ct_octet := fun _ h => List.mem_cons_of_mem _ (List.mem_append_right _ (List.mem_append_left _ h))
  have iX9 : ∀ w ∈ wsX90, w ∈ ww_ct_octet := fun _ h => List.mem_cons_of_mem _ (List.mem_append_right _ (List.mem_append_right _ (List.mem_append_left _ h)))
  have hl : lv_has ls 2 [(0, .ref (ad 0)), (1, .int b)] := hl
  refine lv_aload_n hx hb dX11_octet_0 rfl (lv_at hl 0 rfl) ?_
  refine hk_get (ci := 14) (C := RX11) (T := TX11) (N := 11) (v := .ref (ad 2)) hx hb hts iX11 hown hw 0 rfl rfl 2 (by decide) (hts _ (List.mem_of_getElem? (i := 1) rfl)) rfl dX11_octet_1 ?_
  refine hk_get (ci := 12) (C := RX9) (T := TX9) (N := 2) (v := .int 0) hx hb hts iX9 hown hw 2 rfl rfl 1 (by decide) (hts _ (List.mem_of_getElem? (i := 2) rfl)) rfl dX11_octet_4 ?_
  refine lv_sipush (v := 1500) hx hb dX11_octet_7 (by decide) ?_
  refine lv_icmp_lt (tgt := 16) hx hb dX11_octet_10 (by decide) (fun _ => ?_) (fun cc_1 => absurd (by decide) cc_1)
  refine lv_aload_n hx hb dX11_octet_16 rfl (lv_at hl 0 rfl) ?_
  refine hk_get (ci := 14) (C := RX11) (T := TX11) (N := 11) (v := .ref (ad 2)) hx hb hts iX11 hown hw 0 rfl rfl 2 (by decide) (hts _ (List.mem_of_getElem? (i := 1) rfl)) rfl dX11_octet_17 ?_
  refine lv_iload_n hx hb dX11_octet_20 rfl (lv_at hl 1 rfl) ?_
  refine hk_Vv (As := [.int b]) (rest := []) ⟨hx, hb, hml, hown, hts⟩ hw hA (cx_in_put l D cI cJ ad (xf_g fm) xf_l ar bk _ b 0 1 rfl (by decide)) (cwV 1 hts gw_ct_octet_0 rfl rfl rfl (by decide +kernel) ⟨Nat.le_of_ble_eq_true rfl, Nat.le_of_ble_eq_true rfl⟩) 2 (ci := 12) (T := TX9) (N := 2) rfl rfl rfl hl.1 rfl (Nat.le_of_ble_eq_true rfl) dX11_octet_21 ⟨Nat.le_of_ble_eq_true rfl, Nat.le_of_ble_eq_true rfl⟩ (fun uu_3 H locs hp_4 hw => ?_)
  have hw : hk_W D [(cI, .int), (cJ, .long)] _ s _ _ (xw cI cJ ad (upd (xf_g fm) 13 1) xf_l (va_up ar 0 uu_3) bk) := hw
  refine lv_aload_n hx hb dX11_octet_24 rfl (lv_at hl 0 rfl) ?_
  refine hk_get (ci := 14) (C := RX11) (T := TX11) (N := 11) (v := .ref (ad 2)) hx hb hts iX11 hown hw 0 rfl rfl 2 (by decide) (hts _ (List.mem_of_getElem? (i := 1) rfl)) rfl dX11_octet_25 ?_
  refine hk_get (ci := 12) (C := RX9) (T := TX9) (N := 2) (v := .int 1) hx hb hts iX9 hown hw 2 rfl rfl 1 (by decide) (hts _ (List.mem_of_getElem? (i := 2) rfl)) rfl dX11_octet_28 ?_
  exact hk_iret (u := ((upd (xf_g fm) 13 1), xf_l, (va_up ar 0 uu_3), bk)) hx hb hr hlocks (hw) (rfl) dX11_octet_31
