def mf_g (fm : Int32) : Nat → Int32 := fun k => match k with
  | 0 => fm
  | 2 => 3
  | 4 => 2
  | 5 => 4096
  | 6 => 512
  | 7 => 1024
  | 8 => 1
  | 21 => (-1)
  | _ => 0
def mf_l : Nat → Int64 := fun _ => 0
def ww_cm_filter : List Cond := Cond.code yX12_filter cX12_filter 3 (some .int) :: ([Cond.fieldLink RX12 111 "LzmaChainsModel" "thrown" "I", Cond.fieldLink RX12 123 "LzmaChainsModel" "branch" "I", Cond.fieldLink RX12 120 "LzmaChainsModel" "delta" "I"] ++ (wsX120 ++ ([])))
set_option maxHeartbeats 4000000 in
set_option maxRecDepth 100000 in
/-- the reference: filter, new -/
theorem cm_filter (l : Launch) (D : va_G) (cI cJ : ClassId) (ad : Nat → Nat) (fm : Int32) (ar : Nat → Nat → Int32) (bk : Nat → Int64) (sz : Nat) (k v : Int32) : Met l yX12_filter ww_cm_filter { frames := 0, cells := 0, slots := 0, locals := 0 } (va_Pc [.ref (ad 0), .int k, .int v] (hk_B D [(cI, .int), (cJ, .long)] sz (mw cI cJ ad (mf_g fm) mf_l ar bk))) (va_Qi (fun (r : Int32) (u : (Nat → Int32) × (Nat → Int64) × (Nat → Nat → Int32) × (Nat → Int64)) => (r.toInt = 1 ∧ (k.toInt = 0 ∧ 0 ≤ v.toInt ∧ v.toInt ≤ 256 ∨ k.toInt = 1 ∧ (v.toInt = 0 ∨ v.toInt = 1))) ∨ (r.toInt = 0 ∧ ¬ (k.toInt = 0 ∧ 0 ≤ v.toInt ∧ v.toInt ≤ 256 ∨ k.toInt = 1 ∧ (v.toInt = 0 ∨ v.toInt = 1)))) (fun u : (Nat → Int32) × (Nat → Int64) × (Nat → Nat → Int32) × (Nat → Int64) => hk_E D [(cI, .int), (cJ, .long)] (va_A (mw cI cJ ad (mf_g fm) mf_l ar bk) sz) (mw cI cJ ad u.1 u.2.1 u.2.2.1 u.2.2.2)) (va_A (mw cI cJ ad (mf_g fm) mf_l ar bk) sz)) 0 0 (va_A (mw cI cJ ad (mf_g fm) mf_l ar bk) sz) := by
  refine hk_met (cc := cX12_filter) (maxL := 3) (ret := (some .int)) (by decide) rfl (Nat.le_of_ble_eq_true rfl) ?_
  intro p e s m below meth c ls hx hb hr hml hown hts hlocks hin hA hw hl
  have iX12 : ∀ w ∈ wsX120, w ∈ ww_cm_filter := fun _ h => List.mem_cons_of_mem _ (List.mem_append_right _ (List.mem_append_left _ h))
  have hl : lv_has ls 3 [(0, .ref (ad 0)), (1, .int k), (2, .int v)] := hl
  refine lv_aload_n hx hb dX12_filter_0 rfl (lv_at hl 0 rfl) ?_
  refine lv_iconst (v := 0) hx hb dX12_filter_1 (by decide) ?_
  refine hk_put (ci := 15) (C := RX12) (T := TX12) (N := 92) (ty := .int) (v := .int 0) hx hb hts iX12 tyX12 tyX12_ok nmX12 hown hw 0 rfl rfl 1 (by decide) (hts _ (List.mem_of_getElem? (i := 1) rfl)) rfl (by decide +kernel) rfl rfl (Nat.le_of_ble_eq_true rfl) dX12_filter_2 (ws' := mw cI cJ ad (upd (mf_g fm) 1 0) mf_l ar bk) rfl (fun H locs hw => ?_)
  refine lv_iload_n hx hb dX12_filter_5 rfl (lv_at hl 1 rfl) ?_
  refine lv_if_ne (tgt := 27) hx hb dX12_filter_6 (by decide) (fun cc_1 => ?_) (fun cc_1 => ?_)
  · refine lv_iload_n hx hb dX12_filter_27 rfl (lv_at hl 1 rfl) ?_
    refine lv_iconst (v := 1) hx hb dX12_filter_28 (by decide) ?_
    refine lv_icmp_ne (tgt := 48) hx hb dX12_filter_29 (by decide) (fun cc_2 => ?_) (fun cc_2 => ?_)
    · refine lv_iconst (v := 0) hx hb dX12_filter_48 (by decide) ?_
      exact hk_iret (u := ((upd (mf_g fm) 1 0), mf_l, ar, bk)) hx hb hr hlocks (hw) (by simp only [Int32.lt_iff_toInt_lt, Int32.le_iff_toInt_le, ← Int32.toInt_inj, hk_t0, hk_t1, hk_t2, hk_t3, hk_t4, hk_t5, hk_t6, hk_t7, hk_t8, hk_t9, hk_t10, hk_t11, hk_t12, hk_t13, hk_t14, hk_t15, hk_t16, hk_t17, hk_t18, hk_t20, hk_t32, hk_tm1, hk_t256, hk_t1500, hk_t4096, hk_t2000, hk_t3000, hk_t512, hk_t1024, true_and, and_true, false_and, and_false, true_or, or_true, false_or, or_false, not_true_eq_false, not_false_eq_true] at cc_1 cc_2 ⊢; omega) dX12_filter_49
    · refine lv_iload_n hx hb dX12_filter_32 rfl (lv_at hl 2 rfl) ?_
      refine lv_if_lt (tgt := 48) hx hb dX12_filter_33 (by decide) (fun cc_3 => ?_) (fun cc_3 => ?_)
      · refine lv_iconst (v := 0) hx hb dX12_filter_48 (by decide) ?_
        exact hk_iret (u := ((upd (mf_g fm) 1 0), mf_l, ar, bk)) hx hb hr hlocks (hw) (by simp only [Int32.lt_iff_toInt_lt, Int32.le_iff_toInt_le, ← Int32.toInt_inj, hk_t0, hk_t1, hk_t2, hk_t3, hk_t4, hk_t5, hk_t6, hk_t7, hk_t8, hk_t9, hk_t10, hk_t11, hk_t12, hk_t13, hk_t14, hk_t15, hk_t16, hk_t17, hk_t18, hk_t20, hk_t32, hk_tm1, hk_t256, hk_t1500, hk_t4096, hk_t2000, hk_t3000, hk_t512, hk_t1024, true_and, and_true, false_and, and_false, true_or, or_true, false_or, or_false, not_true_eq_false, not_false_eq_true] at cc_1 cc_2 cc_3 ⊢; omega) dX12_filter_49
      · refine lv_iload_n hx hb dX12_filter_36 rfl (lv_at hl 2 rfl) ?_
        refine lv_iconst (v := 1) hx hb dX12_filter_37 (by decide) ?_
        refine lv_icmp_gt (tgt := 48) hx hb dX12_filter_38 (by decide) (fun cc_4 => ?_) (fun cc_4 => ?_)
        · refine lv_iconst (v := 0) hx hb dX12_filter_48 (by decide) ?_
          exact hk_iret (u := ((upd (mf_g fm) 1 0), mf_l, ar, bk)) hx hb hr hlocks (hw) (by simp only [Int32.lt_iff_toInt_lt, Int32.le_iff_toInt_le, ← Int32.toInt_inj, hk_t0, hk_t1, hk_t2, hk_t3, hk_t4, hk_t5, hk_t6, hk_t7, hk_t8, hk_t9, hk_t10, hk_t11, hk_t12, hk_t13, hk_t14, hk_t15, hk_t16, hk_t17, hk_t18, hk_t20, hk_t32, hk_tm1, hk_t256, hk_t1500, hk_t4096, hk_t2000, hk_t3000, hk_t512, hk_t1024, true_and, and_true, false_and, and_false, true_or, or_true, false_or, or_false, not_true_eq_false, not_false_eq_true] at cc_1 cc_2 cc_3 cc_4 ⊢; omega) dX12_filter_49
        · refine lv_aload_n hx hb dX12_filter_41 rfl (lv_at hl 0 rfl) ?_
          refine lv_iload_n hx hb dX12_filter_42 rfl (lv_at hl 2 rfl) ?_
          refine hk_put (ci := 15) (C := RX12) (T := TX12) (N := 92) (ty := .int) (v := .int v) hx hb hts iX12 tyX12 tyX12_ok nmX12 hown hw 0 rfl rfl 11 (by decide) (hts _ (List.mem_of_getElem? (i := 2) rfl)) rfl (by decide +kernel) rfl rfl (Nat.le_of_ble_eq_true rfl) dX12_filter_43 (ws' := mw cI cJ ad (upd (upd (mf_g fm) 1 0) 11 v) mf_l ar bk) rfl (fun H locs hw => ?_)
          refine lv_iconst (v := 1) hx hb dX12_filter_46 (by decide) ?_
          exact hk_iret (u := ((upd (upd (mf_g fm) 1 0) 11 v), mf_l, ar, bk)) hx hb hr hlocks (hw) (by simp only [Int32.lt_iff_toInt_lt, Int32.le_iff_toInt_le, ← Int32.toInt_inj, hk_t0, hk_t1, hk_t2, hk_t3, hk_t4, hk_t5, hk_t6, hk_t7, hk_t8, hk_t9, hk_t10, hk_t11, hk_t12, hk_t13, hk_t14, hk_t15, hk_t16, hk_t17, hk_t18, hk_t20, hk_t32, hk_tm1, hk_t256, hk_t1500, hk_t4096, hk_t2000, hk_t3000, hk_t512, hk_t1024, true_and, and_true, false_and, and_false, true_or, or_true, false_or, or_false, not_true_eq_false, not_false_eq_true] at cc_1 cc_2 cc_3 cc_4 ⊢; omega) dX12_filter_47
  · refine lv_iload_n hx hb dX12_filter_9 rfl (lv_at hl 2 rfl) ?_
    refine lv_if_lt (tgt := 27) hx hb dX12_filter_10 (by decide) (fun cc_5 => ?_) (fun cc_5 => ?_)
    · refine lv_iload_n hx hb dX12_filter_27 rfl (lv_at hl 1 rfl) ?_
      refine lv_iconst (v := 1) hx hb dX12_filter_28 (by decide) ?_
      refine lv_icmp_ne (tgt := 48) hx hb dX12_filter_29 (by decide) (fun cc_6 => ?_) (fun cc_6 => ?_)
      · refine lv_iconst (v := 0) hx hb dX12_filter_48 (by decide) ?_
        exact hk_iret (u := ((upd (mf_g fm) 1 0), mf_l, ar, bk)) hx hb hr hlocks (hw) (by simp only [Int32.lt_iff_toInt_lt, Int32.le_iff_toInt_le, ← Int32.toInt_inj, hk_t0, hk_t1, hk_t2, hk_t3, hk_t4, hk_t5, hk_t6, hk_t7, hk_t8, hk_t9, hk_t10, hk_t11, hk_t12, hk_t13, hk_t14, hk_t15, hk_t16, hk_t17, hk_t18, hk_t20, hk_t32, hk_tm1, hk_t256, hk_t1500, hk_t4096, hk_t2000, hk_t3000, hk_t512, hk_t1024, true_and, and_true, false_and, and_false, true_or, or_true, false_or, or_false, not_true_eq_false, not_false_eq_true] at cc_1 cc_5 cc_6 ⊢; omega) dX12_filter_49
      · refine lv_iload_n hx hb dX12_filter_32 rfl (lv_at hl 2 rfl) ?_
        refine lv_if_lt (tgt := 48) hx hb dX12_filter_33 (by decide) (fun cc_7 => ?_) (fun cc_7 => ?_)
        · refine lv_iconst (v := 0) hx hb dX12_filter_48 (by decide) ?_
          exact hk_iret (u := ((upd (mf_g fm) 1 0), mf_l, ar, bk)) hx hb hr hlocks (hw) (by simp only [Int32.lt_iff_toInt_lt, Int32.le_iff_toInt_le, ← Int32.toInt_inj, hk_t0, hk_t1, hk_t2, hk_t3, hk_t4, hk_t5, hk_t6, hk_t7, hk_t8, hk_t9, hk_t10, hk_t11, hk_t12, hk_t13, hk_t14, hk_t15, hk_t16, hk_t17, hk_t18, hk_t20, hk_t32, hk_tm1, hk_t256, hk_t1500, hk_t4096, hk_t2000, hk_t3000, hk_t512, hk_t1024, true_and, and_true, false_and, and_false, true_or, or_true, false_or, or_false, not_true_eq_false, not_false_eq_true] at cc_1 cc_5 cc_6 cc_7 ⊢; omega) dX12_filter_49
        · refine lv_iload_n hx hb dX12_filter_36 rfl (lv_at hl 2 rfl) ?_
          refine lv_iconst (v := 1) hx hb dX12_filter_37 (by decide) ?_
          refine lv_icmp_gt (tgt := 48) hx hb dX12_filter_38 (by decide) (fun cc_8 => ?_) (fun cc_8 => ?_)
          · refine lv_iconst (v := 0) hx hb dX12_filter_48 (by decide) ?_
            exact hk_iret (u := ((upd (mf_g fm) 1 0), mf_l, ar, bk)) hx hb hr hlocks (hw) (by simp only [Int32.lt_iff_toInt_lt, Int32.le_iff_toInt_le, ← Int32.toInt_inj, hk_t0, hk_t1, hk_t2, hk_t3, hk_t4, hk_t5, hk_t6, hk_t7, hk_t8, hk_t9, hk_t10, hk_t11, hk_t12, hk_t13, hk_t14, hk_t15, hk_t16, hk_t17, hk_t18, hk_t20, hk_t32, hk_tm1, hk_t256, hk_t1500, hk_t4096, hk_t2000, hk_t3000, hk_t512, hk_t1024, true_and, and_true, false_and, and_false, true_or, or_true, false_or, or_false, not_true_eq_false, not_false_eq_true] at cc_1 cc_5 cc_6 cc_7 cc_8 ⊢; omega) dX12_filter_49
          · refine lv_aload_n hx hb dX12_filter_41 rfl (lv_at hl 0 rfl) ?_
            refine lv_iload_n hx hb dX12_filter_42 rfl (lv_at hl 2 rfl) ?_
            refine hk_put (ci := 15) (C := RX12) (T := TX12) (N := 92) (ty := .int) (v := .int v) hx hb hts iX12 tyX12 tyX12_ok nmX12 hown hw 0 rfl rfl 11 (by decide) (hts _ (List.mem_of_getElem? (i := 2) rfl)) rfl (by decide +kernel) rfl rfl (Nat.le_of_ble_eq_true rfl) dX12_filter_43 (ws' := mw cI cJ ad (upd (upd (mf_g fm) 1 0) 11 v) mf_l ar bk) rfl (fun H locs hw => ?_)
            refine lv_iconst (v := 1) hx hb dX12_filter_46 (by decide) ?_
            exact hk_iret (u := ((upd (upd (mf_g fm) 1 0) 11 v), mf_l, ar, bk)) hx hb hr hlocks (hw) (by simp only [Int32.lt_iff_toInt_lt, Int32.le_iff_toInt_le, ← Int32.toInt_inj, hk_t0, hk_t1, hk_t2, hk_t3, hk_t4, hk_t5, hk_t6, hk_t7, hk_t8, hk_t9, hk_t10, hk_t11, hk_t12, hk_t13, hk_t14, hk_t15, hk_t16, hk_t17, hk_t18, hk_t20, hk_t32, hk_tm1, hk_t256, hk_t1500, hk_t4096, hk_t2000, hk_t3000, hk_t512, hk_t1024, true_and, and_true, false_and, and_false, true_or, or_true, false_or, or_false, not_true_eq_false, not_false_eq_true] at cc_1 cc_5 cc_6 cc_7 cc_8 ⊢; omega) dX12_filter_47
    · refine lv_iload_n hx hb dX12_filter_13 rfl (lv_at hl 2 rfl) ?_
      refine lv_sipush (v := 256) hx hb dX12_filter_14 (by decide) ?_
      refine lv_icmp_gt (tgt := 27) hx hb dX12_filter_17 (by decide) (fun cc_9 => ?_) (fun cc_9 => ?_)
      · refine lv_iload_n hx hb dX12_filter_27 rfl (lv_at hl 1 rfl) ?_
        refine lv_iconst (v := 1) hx hb dX12_filter_28 (by decide) ?_
        refine lv_icmp_ne (tgt := 48) hx hb dX12_filter_29 (by decide) (fun cc_10 => ?_) (fun cc_10 => ?_)
        · refine lv_iconst (v := 0) hx hb dX12_filter_48 (by decide) ?_
          exact hk_iret (u := ((upd (mf_g fm) 1 0), mf_l, ar, bk)) hx hb hr hlocks (hw) (by simp only [Int32.lt_iff_toInt_lt, Int32.le_iff_toInt_le, ← Int32.toInt_inj, hk_t0, hk_t1, hk_t2, hk_t3, hk_t4, hk_t5, hk_t6, hk_t7, hk_t8, hk_t9, hk_t10, hk_t11, hk_t12, hk_t13, hk_t14, hk_t15, hk_t16, hk_t17, hk_t18, hk_t20, hk_t32, hk_tm1, hk_t256, hk_t1500, hk_t4096, hk_t2000, hk_t3000, hk_t512, hk_t1024, true_and, and_true, false_and, and_false, true_or, or_true, false_or, or_false, not_true_eq_false, not_false_eq_true] at cc_1 cc_5 cc_9 cc_10 ⊢; omega) dX12_filter_49
        · refine lv_iload_n hx hb dX12_filter_32 rfl (lv_at hl 2 rfl) ?_
          refine lv_if_lt (tgt := 48) hx hb dX12_filter_33 (by decide) (fun cc_11 => ?_) (fun cc_11 => ?_)
          · refine lv_iconst (v := 0) hx hb dX12_filter_48 (by decide) ?_
            exact hk_iret (u := ((upd (mf_g fm) 1 0), mf_l, ar, bk)) hx hb hr hlocks (hw) (by simp only [Int32.lt_iff_toInt_lt, Int32.le_iff_toInt_le, ← Int32.toInt_inj, hk_t0, hk_t1, hk_t2, hk_t3, hk_t4, hk_t5, hk_t6, hk_t7, hk_t8, hk_t9, hk_t10, hk_t11, hk_t12, hk_t13, hk_t14, hk_t15, hk_t16, hk_t17, hk_t18, hk_t20, hk_t32, hk_tm1, hk_t256, hk_t1500, hk_t4096, hk_t2000, hk_t3000, hk_t512, hk_t1024, true_and, and_true, false_and, and_false, true_or, or_true, false_or, or_false, not_true_eq_false, not_false_eq_true] at cc_1 cc_5 cc_9 cc_10 cc_11 ⊢; omega) dX12_filter_49
          · refine lv_iload_n hx hb dX12_filter_36 rfl (lv_at hl 2 rfl) ?_
            refine lv_iconst (v := 1) hx hb dX12_filter_37 (by decide) ?_
            refine lv_icmp_gt (tgt := 48) hx hb dX12_filter_38 (by decide) (fun cc_12 => ?_) (fun cc_12 => ?_)
            · refine lv_iconst (v := 0) hx hb dX12_filter_48 (by decide) ?_
              exact hk_iret (u := ((upd (mf_g fm) 1 0), mf_l, ar, bk)) hx hb hr hlocks (hw) (by simp only [Int32.lt_iff_toInt_lt, Int32.le_iff_toInt_le, ← Int32.toInt_inj, hk_t0, hk_t1, hk_t2, hk_t3, hk_t4, hk_t5, hk_t6, hk_t7, hk_t8, hk_t9, hk_t10, hk_t11, hk_t12, hk_t13, hk_t14, hk_t15, hk_t16, hk_t17, hk_t18, hk_t20, hk_t32, hk_tm1, hk_t256, hk_t1500, hk_t4096, hk_t2000, hk_t3000, hk_t512, hk_t1024, true_and, and_true, false_and, and_false, true_or, or_true, false_or, or_false, not_true_eq_false, not_false_eq_true] at cc_1 cc_5 cc_9 cc_10 cc_11 cc_12 ⊢; omega) dX12_filter_49
            · refine lv_aload_n hx hb dX12_filter_41 rfl (lv_at hl 0 rfl) ?_
              refine lv_iload_n hx hb dX12_filter_42 rfl (lv_at hl 2 rfl) ?_
              refine hk_put (ci := 15) (C := RX12) (T := TX12) (N := 92) (ty := .int) (v := .int v) hx hb hts iX12 tyX12 tyX12_ok nmX12 hown hw 0 rfl rfl 11 (by decide) (hts _ (List.mem_of_getElem? (i := 2) rfl)) rfl (by decide +kernel) rfl rfl (Nat.le_of_ble_eq_true rfl) dX12_filter_43 (ws' := mw cI cJ ad (upd (upd (mf_g fm) 1 0) 11 v) mf_l ar bk) rfl (fun H locs hw => ?_)
              refine lv_iconst (v := 1) hx hb dX12_filter_46 (by decide) ?_
              exact hk_iret (u := ((upd (upd (mf_g fm) 1 0) 11 v), mf_l, ar, bk)) hx hb hr hlocks (hw) (by simp only [Int32.lt_iff_toInt_lt, Int32.le_iff_toInt_le, ← Int32.toInt_inj, hk_t0, hk_t1, hk_t2, hk_t3, hk_t4, hk_t5, hk_t6, hk_t7, hk_t8, hk_t9, hk_t10, hk_t11, hk_t12, hk_t13, hk_t14, hk_t15, hk_t16, hk_t17, hk_t18, hk_t20, hk_t32, hk_tm1, hk_t256, hk_t1500, hk_t4096, hk_t2000, hk_t3000, hk_t512, hk_t1024, true_and, and_true, false_and, and_false, true_or, or_true, false_or, or_false, not_true_eq_false, not_false_eq_true] at cc_1 cc_5 cc_9 cc_10 cc_11 cc_12 ⊢; omega) dX12_filter_47
      · refine lv_aload_n hx hb dX12_filter_20 rfl (lv_at hl 0 rfl) ?_
        refine lv_iload_n hx hb dX12_filter_21 rfl (lv_at hl 2 rfl) ?_
        refine hk_put (ci := 15) (C := RX12) (T := TX12) (N := 92) (ty := .int) (v := .int v) hx hb hts iX12 tyX12 tyX12_ok nmX12 hown hw 0 rfl rfl 10 (by decide) (hts _ (List.mem_of_getElem? (i := 3) rfl)) rfl (by decide +kernel) rfl rfl (Nat.le_of_ble_eq_true rfl) dX12_filter_22 (ws' := mw cI cJ ad (upd (upd (mf_g fm) 1 0) 10 v) mf_l ar bk) rfl (fun H locs hw => ?_)
        refine lv_iconst (v := 1) hx hb dX12_filter_25 (by decide) ?_
        exact hk_iret (u := ((upd (upd (mf_g fm) 1 0) 10 v), mf_l, ar, bk)) hx hb hr hlocks (hw) (by simp only [Int32.lt_iff_toInt_lt, Int32.le_iff_toInt_le, ← Int32.toInt_inj, hk_t0, hk_t1, hk_t2, hk_t3, hk_t4, hk_t5, hk_t6, hk_t7, hk_t8, hk_t9, hk_t10, hk_t11, hk_t12, hk_t13, hk_t14, hk_t15, hk_t16, hk_t17, hk_t18, hk_t20, hk_t32, hk_tm1, hk_t256, hk_t1500, hk_t4096, hk_t2000, hk_t3000, hk_t512, hk_t1024, true_and, and_true, false_and, and_false, true_or, or_true, false_or, or_false, not_true_eq_false, not_false_eq_true] at cc_1 cc_5 cc_9 ⊢; omega) dX12_filter_26

def ww_cm_rule : List Cond := Cond.code yX12_rule cX12_rule 1 (some .int) :: ([Cond.fieldLink RX12 111 "LzmaChainsModel" "thrown" "I", Cond.fieldLink RX12 225 "LzmaChainsModel" "rule" "I"] ++ (wsX120 ++ ([])))
set_option maxHeartbeats 4000000 in
set_option maxRecDepth 100000 in
/-- the reference: rule, new -/
theorem cm_rule (l : Launch) (D : va_G) (cI cJ : ClassId) (ad : Nat → Nat) (fm : Int32) (ar : Nat → Nat → Int32) (bk : Nat → Int64) (sz : Nat)  : Met l yX12_rule ww_cm_rule { frames := 0, cells := 0, slots := 0, locals := 0 } (va_Pc [.ref (ad 0)] (hk_B D [(cI, .int), (cJ, .long)] sz (mw cI cJ ad (mf_g fm) mf_l ar bk))) (va_Qi (fun (r : Int32) (u : (Nat → Int32) × (Nat → Int64) × (Nat → Nat → Int32) × (Nat → Int64)) => r = 0) (fun u : (Nat → Int32) × (Nat → Int64) × (Nat → Nat → Int32) × (Nat → Int64) => hk_E D [(cI, .int), (cJ, .long)] (va_A (mw cI cJ ad (mf_g fm) mf_l ar bk) sz) (mw cI cJ ad u.1 u.2.1 u.2.2.1 u.2.2.2)) (va_A (mw cI cJ ad (mf_g fm) mf_l ar bk) sz)) 0 0 (va_A (mw cI cJ ad (mf_g fm) mf_l ar bk) sz) := by
  refine hk_met (cc := cX12_rule) (maxL := 1) (ret := (some .int)) (by decide) rfl (Nat.le_of_ble_eq_true rfl) ?_
  intro p e s m below meth c ls hx hb hr hml hown hts hlocks hin hA hw hl
  have iX12 : ∀ w ∈ wsX120, w ∈ ww_cm_rule := fun _ h => List.mem_cons_of_mem _ (List.mem_append_right _ (List.mem_append_left _ h))
  have hl : lv_has ls 1 [(0, .ref (ad 0))] := hl
  refine lv_aload_n hx hb dX12_rule_0 rfl (lv_at hl 0 rfl) ?_
  refine lv_iconst (v := 0) hx hb dX12_rule_1 (by decide) ?_
  refine hk_put (ci := 15) (C := RX12) (T := TX12) (N := 92) (ty := .int) (v := .int 0) hx hb hts iX12 tyX12 tyX12_ok nmX12 hown hw 0 rfl rfl 1 (by decide) (hts _ (List.mem_of_getElem? (i := 1) rfl)) rfl (by decide +kernel) rfl rfl (Nat.le_of_ble_eq_true rfl) dX12_rule_2 (ws' := mw cI cJ ad (upd (mf_g fm) 1 0) mf_l ar bk) rfl (fun H locs hw => ?_)
  refine lv_aload_n hx hb dX12_rule_5 rfl (lv_at hl 0 rfl) ?_
  refine hk_get (ci := 15) (C := RX12) (T := TX12) (N := 92) (v := .int 0) hx hb hts iX12 hown hw 0 rfl rfl 40 (by decide) (hts _ (List.mem_of_getElem? (i := 2) rfl)) rfl dX12_rule_6 ?_
  exact hk_iret (u := ((upd (mf_g fm) 1 0), mf_l, ar, bk)) hx hb hr hlocks (hw) (rfl) dX12_rule_9

def ww_cm_state : List Cond := Cond.code yX12_state cX12_state 1 (some .int) :: ([Cond.fieldLink RX12 111 "LzmaChainsModel" "thrown" "I", Cond.fieldLink RX12 77 "LzmaChainsModel" "told" "I"] ++ (wsX120 ++ ([])))
set_option maxHeartbeats 4000000 in
set_option maxRecDepth 100000 in
/-- the reference: state, new -/
theorem cm_state (l : Launch) (D : va_G) (cI cJ : ClassId) (ad : Nat → Nat) (fm : Int32) (ar : Nat → Nat → Int32) (bk : Nat → Int64) (sz : Nat)  : Met l yX12_state ww_cm_state { frames := 0, cells := 0, slots := 0, locals := 0 } (va_Pc [.ref (ad 0)] (hk_B D [(cI, .int), (cJ, .long)] sz (mw cI cJ ad (mf_g fm) mf_l ar bk))) (va_Qi (fun (r : Int32) (u : (Nat → Int32) × (Nat → Int64) × (Nat → Nat → Int32) × (Nat → Int64)) => r = -1) (fun u : (Nat → Int32) × (Nat → Int64) × (Nat → Nat → Int32) × (Nat → Int64) => hk_E D [(cI, .int), (cJ, .long)] (va_A (mw cI cJ ad (mf_g fm) mf_l ar bk) sz) (mw cI cJ ad u.1 u.2.1 u.2.2.1 u.2.2.2)) (va_A (mw cI cJ ad (mf_g fm) mf_l ar bk) sz)) 0 0 (va_A (mw cI cJ ad (mf_g fm) mf_l ar bk) sz) := by
  refine hk_met (cc := cX12_state) (maxL := 1) (ret := (some .int)) (by decide) rfl (Nat.le_of_ble_eq_true rfl) ?_
  intro p e s m below meth c ls hx hb hr hml hown hts hlocks hin hA hw hl
  have iX12 : ∀ w ∈ wsX120, w ∈ ww_cm_state := fun _ h => List.mem_cons_of_mem _ (List.mem_append_right _ (List.mem_append_left _ h))
  have hl : lv_has ls 1 [(0, .ref (ad 0))] := hl
  refine lv_aload_n hx hb dX12_state_0 rfl (lv_at hl 0 rfl) ?_
  refine lv_iconst (v := 0) hx hb dX12_state_1 (by decide) ?_
  refine hk_put (ci := 15) (C := RX12) (T := TX12) (N := 92) (ty := .int) (v := .int 0) hx hb hts iX12 tyX12 tyX12_ok nmX12 hown hw 0 rfl rfl 1 (by decide) (hts _ (List.mem_of_getElem? (i := 1) rfl)) rfl (by decide +kernel) rfl rfl (Nat.le_of_ble_eq_true rfl) dX12_state_2 (ws' := mw cI cJ ad (upd (mf_g fm) 1 0) mf_l ar bk) rfl (fun H locs hw => ?_)
  refine lv_aload_n hx hb dX12_state_5 rfl (lv_at hl 0 rfl) ?_
  refine hk_get (ci := 15) (C := RX12) (T := TX12) (N := 92) (v := .int (-1)) hx hb hts iX12 hown hw 0 rfl rfl 39 (by decide) (hts _ (List.mem_of_getElem? (i := 2) rfl)) rfl dX12_state_6 ?_
  exact hk_iret (u := ((upd (mf_g fm) 1 0), mf_l, ar, bk)) hx hb hr hlocks (hw) (rfl) dX12_state_9

def ww_cm_count : List Cond := Cond.code yX12_count cX12_count 2 (some .int) :: ([Cond.fieldLink RX12 111 "LzmaChainsModel" "thrown" "I", Cond.fieldLink RX12 129 "LzmaChainsModel" "outSize" "I", Cond.fieldLink RX12 126 "LzmaChainsModel" "inSize" "I"] ++ (wsX120 ++ ([])))
set_option maxHeartbeats 4000000 in
set_option maxRecDepth 100000 in
/-- the reference: count, new -/
theorem cm_count (l : Launch) (D : va_G) (cI cJ : ClassId) (ad : Nat → Nat) (fm : Int32) (ar : Nat → Nat → Int32) (bk : Nat → Int64) (sz : Nat) (k : Int32) : Met l yX12_count ww_cm_count { frames := 0, cells := 0, slots := 0, locals := 0 } (va_Pc [.ref (ad 0), .int k] (hk_B D [(cI, .int), (cJ, .long)] sz (mw cI cJ ad (mf_g fm) mf_l ar bk))) (va_Qi (fun (r : Int32) (u : (Nat → Int32) × (Nat → Int64) × (Nat → Nat → Int32) × (Nat → Int64)) => (r.toInt = 0 ∧ (k.toInt = 0 ∨ k.toInt = 1)) ∨ (r.toInt = -1 ∧ ¬ (k.toInt = 0 ∨ k.toInt = 1))) (fun u : (Nat → Int32) × (Nat → Int64) × (Nat → Nat → Int32) × (Nat → Int64) => hk_E D [(cI, .int), (cJ, .long)] (va_A (mw cI cJ ad (mf_g fm) mf_l ar bk) sz) (mw cI cJ ad u.1 u.2.1 u.2.2.1 u.2.2.2)) (va_A (mw cI cJ ad (mf_g fm) mf_l ar bk) sz)) 0 0 (va_A (mw cI cJ ad (mf_g fm) mf_l ar bk) sz) := by
  refine hk_met (cc := cX12_count) (maxL := 2) (ret := (some .int)) (by decide) rfl (Nat.le_of_ble_eq_true rfl) ?_
  intro p e s m below meth c ls hx hb hr hml hown hts hlocks hin hA hw hl
  have iX12 : ∀ w ∈ wsX120, w ∈ ww_cm_count := fun _ h => List.mem_cons_of_mem _ (List.mem_append_right _ (List.mem_append_left _ h))
  have hl : lv_has ls 2 [(0, .ref (ad 0)), (1, .int k)] := hl
  refine lv_aload_n hx hb dX12_count_0 rfl (lv_at hl 0 rfl) ?_
  refine lv_iconst (v := 0) hx hb dX12_count_1 (by decide) ?_
  refine hk_put (ci := 15) (C := RX12) (T := TX12) (N := 92) (ty := .int) (v := .int 0) hx hb hts iX12 tyX12 tyX12_ok nmX12 hown hw 0 rfl rfl 1 (by decide) (hts _ (List.mem_of_getElem? (i := 1) rfl)) rfl (by decide +kernel) rfl rfl (Nat.le_of_ble_eq_true rfl) dX12_count_2 (ws' := mw cI cJ ad (upd (mf_g fm) 1 0) mf_l ar bk) rfl (fun H locs hw => ?_)
  refine lv_iload_n hx hb dX12_count_5 rfl (lv_at hl 1 rfl) ?_
  refine lv_if_ne (tgt := 16) hx hb dX12_count_6 (by decide) (fun cc_1 => ?_) (fun cc_1 => ?_)
  · refine lv_iload_n hx hb dX12_count_16 rfl (lv_at hl 1 rfl) ?_
    refine lv_iconst (v := 1) hx hb dX12_count_17 (by decide) ?_
    refine lv_icmp_ne (tgt := 28) hx hb dX12_count_18 (by decide) (fun cc_2 => ?_) (fun cc_2 => ?_)
    · refine lv_iconst (v := (-1)) hx hb dX12_count_28 (by decide) ?_
      exact hk_iret (u := ((upd (mf_g fm) 1 0), mf_l, ar, bk)) hx hb hr hlocks (hw) (by simp only [Int32.lt_iff_toInt_lt, Int32.le_iff_toInt_le, ← Int32.toInt_inj, hk_t0, hk_t1, hk_t2, hk_t3, hk_t4, hk_t5, hk_t6, hk_t7, hk_t8, hk_t9, hk_t10, hk_t11, hk_t12, hk_t13, hk_t14, hk_t15, hk_t16, hk_t17, hk_t18, hk_t20, hk_t32, hk_tm1, hk_t256, hk_t1500, hk_t4096, hk_t2000, hk_t3000, hk_t512, hk_t1024, true_and, and_true, false_and, and_false, true_or, or_true, false_or, or_false, not_true_eq_false, not_false_eq_true] at cc_1 cc_2 ⊢; omega) dX12_count_29
    · refine lv_aload_n hx hb dX12_count_21 rfl (lv_at hl 0 rfl) ?_
      refine hk_get (ci := 15) (C := RX12) (T := TX12) (N := 92) (v := .int 0) hx hb hts iX12 hown hw 0 rfl rfl 15 (by decide) (hts _ (List.mem_of_getElem? (i := 2) rfl)) rfl dX12_count_22 ?_
      refine lv_goto (tgt := 29) hx hb dX12_count_25 (by decide) ?_
      exact hk_iret (u := ((upd (mf_g fm) 1 0), mf_l, ar, bk)) hx hb hr hlocks (hw) (by simp only [Int32.lt_iff_toInt_lt, Int32.le_iff_toInt_le, ← Int32.toInt_inj, hk_t0, hk_t1, hk_t2, hk_t3, hk_t4, hk_t5, hk_t6, hk_t7, hk_t8, hk_t9, hk_t10, hk_t11, hk_t12, hk_t13, hk_t14, hk_t15, hk_t16, hk_t17, hk_t18, hk_t20, hk_t32, hk_tm1, hk_t256, hk_t1500, hk_t4096, hk_t2000, hk_t3000, hk_t512, hk_t1024, true_and, and_true, false_and, and_false, true_or, or_true, false_or, or_false, not_true_eq_false, not_false_eq_true] at cc_1 cc_2 ⊢; omega) dX12_count_29
  · refine lv_aload_n hx hb dX12_count_9 rfl (lv_at hl 0 rfl) ?_
    refine hk_get (ci := 15) (C := RX12) (T := TX12) (N := 92) (v := .int 0) hx hb hts iX12 hown hw 0 rfl rfl 13 (by decide) (hts _ (List.mem_of_getElem? (i := 3) rfl)) rfl dX12_count_10 ?_
    refine lv_goto (tgt := 29) hx hb dX12_count_13 (by decide) ?_
    exact hk_iret (u := ((upd (mf_g fm) 1 0), mf_l, ar, bk)) hx hb hr hlocks (hw) (by simp only [Int32.lt_iff_toInt_lt, Int32.le_iff_toInt_le, ← Int32.toInt_inj, hk_t0, hk_t1, hk_t2, hk_t3, hk_t4, hk_t5, hk_t6, hk_t7, hk_t8, hk_t9, hk_t10, hk_t11, hk_t12, hk_t13, hk_t14, hk_t15, hk_t16, hk_t17, hk_t18, hk_t20, hk_t32, hk_tm1, hk_t256, hk_t1500, hk_t4096, hk_t2000, hk_t3000, hk_t512, hk_t1024, true_and, and_true, false_and, and_false, true_or, or_true, false_or, or_false, not_true_eq_false, not_false_eq_true] at cc_1 ⊢; omega) dX12_count_29

def ww_cm_end : List Cond := Cond.code yX12_end cX12_end 2 (some .int) :: ([Cond.fieldLink RX12 111 "LzmaChainsModel" "thrown" "I", Cond.fieldLink RX12 126 "LzmaChainsModel" "inSize" "I"] ++ (wsX120 ++ ([])))
set_option maxHeartbeats 4000000 in
set_option maxRecDepth 100000 in
/-- the reference: end, new -/
theorem cm_end (l : Launch) (D : va_G) (cI cJ : ClassId) (ad : Nat → Nat) (fm : Int32) (ar : Nat → Nat → Int32) (bk : Nat → Int64) (sz : Nat) (n : Int32) : Met l yX12_end ww_cm_end { frames := 0, cells := 0, slots := 0, locals := 0 } (va_Pc [.ref (ad 0), .int n] (hk_B D [(cI, .int), (cJ, .long)] sz (mw cI cJ ad (mf_g fm) mf_l ar bk))) (va_Qi (fun (r : Int32) (u : (Nat → Int32) × (Nat → Int64) × (Nat → Nat → Int32) × (Nat → Int64)) => r = -1) (fun u : (Nat → Int32) × (Nat → Int64) × (Nat → Nat → Int32) × (Nat → Int64) => hk_E D [(cI, .int), (cJ, .long)] (va_A (mw cI cJ ad (mf_g fm) mf_l ar bk) sz) (mw cI cJ ad u.1 u.2.1 u.2.2.1 u.2.2.2)) (va_A (mw cI cJ ad (mf_g fm) mf_l ar bk) sz)) 0 0 (va_A (mw cI cJ ad (mf_g fm) mf_l ar bk) sz) := by
  refine hk_met (cc := cX12_end) (maxL := 2) (ret := (some .int)) (by decide) rfl (Nat.le_of_ble_eq_true rfl) ?_
  intro p e s m below meth c ls hx hb hr hml hown hts hlocks hin hA hw hl
  have iX12 : ∀ w ∈ wsX120, w ∈ ww_cm_end := fun _ h => List.mem_cons_of_mem _ (List.mem_append_right _ (List.mem_append_left _ h))
  have hl : lv_has ls 2 [(0, .ref (ad 0)), (1, .int n)] := hl
  refine lv_aload_n hx hb dX12_end_0 rfl (lv_at hl 0 rfl) ?_
  refine lv_iconst (v := 0) hx hb dX12_end_1 (by decide) ?_
  refine hk_put (ci := 15) (C := RX12) (T := TX12) (N := 92) (ty := .int) (v := .int 0) hx hb hts iX12 tyX12 tyX12_ok nmX12 hown hw 0 rfl rfl 1 (by decide) (hts _ (List.mem_of_getElem? (i := 1) rfl)) rfl (by decide +kernel) rfl rfl (Nat.le_of_ble_eq_true rfl) dX12_end_2 (ws' := mw cI cJ ad (upd (mf_g fm) 1 0) mf_l ar bk) rfl (fun H locs hw => ?_)
  refine lv_iload_n hx hb dX12_end_5 rfl (lv_at hl 1 rfl) ?_
  refine lv_if_lt (tgt := 24) hx hb dX12_end_6 (by decide) (fun cc_1 => ?_) (fun cc_1 => ?_)
  · refine lv_iconst (v := (-1)) hx hb dX12_end_24 (by decide) ?_
    exact hk_iret (u := ((upd (mf_g fm) 1 0), mf_l, ar, bk)) hx hb hr hlocks (hw) (rfl) dX12_end_25
  · refine lv_iload_n hx hb dX12_end_9 rfl (lv_at hl 1 rfl) ?_
    refine lv_bipush (v := 20) hx hb dX12_end_10 (by decide) ?_
    refine lv_icmp_gt (tgt := 24) hx hb dX12_end_12 (by decide) (fun cc_2 => ?_) (fun cc_2 => ?_)
    · refine lv_iconst (v := (-1)) hx hb dX12_end_24 (by decide) ?_
      exact hk_iret (u := ((upd (mf_g fm) 1 0), mf_l, ar, bk)) hx hb hr hlocks (hw) (rfl) dX12_end_25
    · refine lv_aload_n hx hb dX12_end_15 rfl (lv_at hl 0 rfl) ?_
      refine hk_get (ci := 15) (C := RX12) (T := TX12) (N := 92) (v := .int 0) hx hb hts iX12 hown hw 0 rfl rfl 13 (by decide) (hts _ (List.mem_of_getElem? (i := 2) rfl)) rfl dX12_end_16 ?_
      refine lv_bipush (v := 20) hx hb dX12_end_19 (by decide) ?_
      refine lv_icmp_ge (tgt := 26) hx hb dX12_end_21 (by decide) (fun cc_3 => absurd cc_3 (by decide)) (fun _ => ?_)
      refine lv_iconst (v := (-1)) hx hb dX12_end_24 (by decide) ?_
      exact hk_iret (u := ((upd (mf_g fm) 1 0), mf_l, ar, bk)) hx hb hr hlocks (hw) (rfl) dX12_end_25

def ww_cm_octet : List Cond := Cond.code yX12_octet cX12_octet 2 (some .int) :: ([Cond.fieldLink RX12 111 "LzmaChainsModel" "thrown" "I", Cond.fieldLink RX12 126 "LzmaChainsModel" "inSize" "I", Cond.fieldLink RX12 28 "LzmaChainsModel" "in" "[I"] ++ (wsX120 ++ ([])))
set_option maxHeartbeats 4000000 in
set_option maxRecDepth 100000 in
/-- the reference: octet, new -/
theorem cm_octet (l : Launch) (D : va_G) (cI cJ : ClassId) (ad : Nat → Nat) (fm : Int32) (ar : Nat → Nat → Int32) (bk : Nat → Int64) (sz : Nat) (b : Int32) : Met l yX12_octet ww_cm_octet { frames := 0, cells := 0, slots := 0, locals := 0 } (va_Pc [.ref (ad 0), .int b] (hk_B D [(cI, .int), (cJ, .long)] sz (mw cI cJ ad (mf_g fm) mf_l ar bk))) (va_Qi (fun (r : Int32) (u : (Nat → Int32) × (Nat → Int64) × (Nat → Nat → Int32) × (Nat → Int64)) => r = 1) (fun u : (Nat → Int32) × (Nat → Int64) × (Nat → Nat → Int32) × (Nat → Int64) => hk_E D [(cI, .int), (cJ, .long)] (va_A (mw cI cJ ad (mf_g fm) mf_l ar bk) sz) (mw cI cJ ad u.1 u.2.1 u.2.2.1 u.2.2.2)) (va_A (mw cI cJ ad (mf_g fm) mf_l ar bk) sz)) 0 0 (va_A (mw cI cJ ad (mf_g fm) mf_l ar bk) sz) := by
  refine hk_met (cc := cX12_octet) (maxL := 2) (ret := (some .int)) (by decide) rfl (Nat.le_of_ble_eq_true rfl) ?_
  intro p e s m below meth c ls hx hb hr hml hown hts hlocks hin hA hw hl
  have iX12 : ∀ w ∈ wsX120, w ∈ ww_cm_octet := fun _ h => List.mem_cons_of_mem _ (List.mem_append_right _ (List.mem_append_left _ h))
  have hl : lv_has ls 2 [(0, .ref (ad 0)), (1, .int b)] := hl
  refine lv_aload_n hx hb dX12_octet_0 rfl (lv_at hl 0 rfl) ?_
  refine lv_iconst (v := 0) hx hb dX12_octet_1 (by decide) ?_
  refine hk_put (ci := 15) (C := RX12) (T := TX12) (N := 92) (ty := .int) (v := .int 0) hx hb hts iX12 tyX12 tyX12_ok nmX12 hown hw 0 rfl rfl 1 (by decide) (hts _ (List.mem_of_getElem? (i := 1) rfl)) rfl (by decide +kernel) rfl rfl (Nat.le_of_ble_eq_true rfl) dX12_octet_2 (ws' := mw cI cJ ad (upd (mf_g fm) 1 0) mf_l ar bk) rfl (fun H locs hw => ?_)
  refine lv_aload_n hx hb dX12_octet_5 rfl (lv_at hl 0 rfl) ?_
  refine hk_get (ci := 15) (C := RX12) (T := TX12) (N := 92) (v := .int 0) hx hb hts iX12 hown hw 0 rfl rfl 13 (by decide) (hts _ (List.mem_of_getElem? (i := 2) rfl)) rfl dX12_octet_6 ?_
  refine lv_sipush (v := 1500) hx hb dX12_octet_9 (by decide) ?_
  refine lv_icmp_ne (tgt := 18) hx hb dX12_octet_12 (by decide) (fun _ => ?_) (fun cc_1 => absurd cc_1 (by decide))
  refine lv_aload_n hx hb dX12_octet_18 rfl (lv_at hl 0 rfl) ?_
  refine hk_get (ci := 15) (C := RX12) (T := TX12) (N := 92) (v := .ref (ad 1)) hx hb hts iX12 hown hw 0 rfl rfl 12 (by decide) (hts _ (List.mem_of_getElem? (i := 3) rfl)) rfl dX12_octet_19 ?_
  refine lv_aload_n hx hb dX12_octet_22 rfl (lv_at hl 0 rfl) ?_
  refine hk_get (ci := 15) (C := RX12) (T := TX12) (N := 92) (v := .int 0) hx hb hts iX12 hown hw 0 rfl rfl 13 (by decide) (hts _ (List.mem_of_getElem? (i := 2) rfl)) rfl dX12_octet_23 ?_
  refine lv_iload_n hx hb dX12_octet_26 rfl (lv_at hl 1 rfl) ?_
  refine lv_sipush (v := 255) hx hb dX12_octet_27 (by decide) ?_
  refine lv_iand hx hb dX12_octet_30 ?_
  refine hk_iast hx hb hw 1 0 rfl rfl (show ¬ (_ ∨ _) by decide) dX12_octet_31 (ws' := mw cI cJ ad (upd (mf_g fm) 1 0) mf_l (va_up ar 0 (upd (ar 0) 0 (b &&& 255))) bk) rfl (fun H locs hw => ?_)
  refine lv_aload_n hx hb dX12_octet_32 rfl (lv_at hl 0 rfl) ?_
  refine lv_dup hx hb dX12_octet_33 rfl ?_
  refine hk_get (ci := 15) (C := RX12) (T := TX12) (N := 92) (v := .int 0) hx hb hts iX12 hown hw 0 rfl rfl 13 (by decide) (hts _ (List.mem_of_getElem? (i := 2) rfl)) rfl dX12_octet_34 ?_
  refine lv_iconst (v := 1) hx hb dX12_octet_37 (by decide) ?_
  refine lv_iadd hx hb dX12_octet_38 ?_
  refine hk_topi 1 (by decide +kernel) ?_
  refine hk_put (ci := 15) (C := RX12) (T := TX12) (N := 92) (ty := .int) (v := .int 1) hx hb hts iX12 tyX12 tyX12_ok nmX12 hown hw 0 rfl rfl 13 (by decide) (hts _ (List.mem_of_getElem? (i := 2) rfl)) rfl (by decide +kernel) rfl rfl (Nat.le_of_ble_eq_true rfl) dX12_octet_39 (ws' := mw cI cJ ad (upd (upd (mf_g fm) 1 0) 12 1) mf_l (va_up ar 0 (upd (ar 0) 0 (b &&& 255))) bk) rfl (fun H locs hw => ?_)
  refine lv_aload_n hx hb dX12_octet_42 rfl (lv_at hl 0 rfl) ?_
  refine hk_get (ci := 15) (C := RX12) (T := TX12) (N := 92) (v := .int 1) hx hb hts iX12 hown hw 0 rfl rfl 13 (by decide) (hts _ (List.mem_of_getElem? (i := 2) rfl)) rfl dX12_octet_43 ?_
  exact hk_iret (u := ((upd (upd (mf_g fm) 1 0) 12 1), mf_l, (va_up ar 0 (upd (ar 0) 0 (b &&& 255))), bk)) hx hb hr hlocks (hw) (rfl) dX12_octet_46

def ww_cm_pass : List Cond := Cond.code yX12_pass cX12_pass 2 (some .int) :: ([Cond.fieldLink RX12 111 "LzmaChainsModel" "thrown" "I", Cond.fieldLink RX12 129 "LzmaChainsModel" "outSize" "I", Cond.fieldLink RX12 126 "LzmaChainsModel" "inSize" "I"] ++ (wsX120 ++ ([])))
set_option maxHeartbeats 4000000 in
set_option maxRecDepth 100000 in
/-- the reference: pass, new -/
theorem cm_pass (l : Launch) (D : va_G) (cI cJ : ClassId) (ad : Nat → Nat) (fm : Int32) (ar : Nat → Nat → Int32) (bk : Nat → Int64) (sz : Nat)  : Met l yX12_pass ww_cm_pass { frames := 0, cells := 0, slots := 0, locals := 0 } (va_Pc [.ref (ad 0)] (hk_B D [(cI, .int), (cJ, .long)] sz (mw cI cJ ad (mf_g fm) mf_l ar bk))) (va_Qi (fun (r : Int32) (u : (Nat → Int32) × (Nat → Int64) × (Nat → Nat → Int32) × (Nat → Int64)) => r = 0) (fun u : (Nat → Int32) × (Nat → Int64) × (Nat → Nat → Int32) × (Nat → Int64) => hk_E D [(cI, .int), (cJ, .long)] (va_A (mw cI cJ ad (mf_g fm) mf_l ar bk) sz) (mw cI cJ ad u.1 u.2.1 u.2.2.1 u.2.2.2)) (va_A (mw cI cJ ad (mf_g fm) mf_l ar bk) sz)) 0 0 (va_A (mw cI cJ ad (mf_g fm) mf_l ar bk) sz) := by
  refine hk_met (cc := cX12_pass) (maxL := 2) (ret := (some .int)) (by decide) rfl (Nat.le_of_ble_eq_true rfl) ?_
  intro p e s m below meth c ls hx hb hr hml hown hts hlocks hin hA hw hl
  have iX12 : ∀ w ∈ wsX120, w ∈ ww_cm_pass := fun _ h => List.mem_cons_of_mem _ (List.mem_append_right _ (List.mem_append_left _ h))
  have hl : lv_has ls 2 [(0, .ref (ad 0))] := hl
  refine lv_aload_n hx hb dX12_pass_0 rfl (lv_at hl 0 rfl) ?_
  refine lv_iconst (v := 0) hx hb dX12_pass_1 (by decide) ?_
  refine hk_put (ci := 15) (C := RX12) (T := TX12) (N := 92) (ty := .int) (v := .int 0) hx hb hts iX12 tyX12 tyX12_ok nmX12 hown hw 0 rfl rfl 1 (by decide) (hts _ (List.mem_of_getElem? (i := 1) rfl)) rfl (by decide +kernel) rfl rfl (Nat.le_of_ble_eq_true rfl) dX12_pass_2 (ws' := mw cI cJ ad (upd (mf_g fm) 1 0) mf_l ar bk) rfl (fun H locs hw => ?_)
  refine lv_aload_n hx hb dX12_pass_5 rfl (lv_at hl 0 rfl) ?_
  refine hk_get (ci := 15) (C := RX12) (T := TX12) (N := 92) (v := .int 0) hx hb hts iX12 hown hw 0 rfl rfl 15 (by decide) (hts _ (List.mem_of_getElem? (i := 2) rfl)) rfl dX12_pass_6 ?_
  refine lv_sipush (v := 1500) hx hb dX12_pass_9 (by decide) ?_
  refine lv_icmp_le (tgt := 18) hx hb dX12_pass_12 (by decide) (fun _ => ?_) (fun cc_1 => absurd (by decide) cc_1)
  refine lv_iconst (v := 0) hx hb dX12_pass_18 (by decide) ?_
  refine lv_istore_n (lv' := [(1, .int 0), (0, .ref (ad 0))]) hx hb dX12_pass_19 rfl hl (by decide) rfl (fun ls hl => ?_)
  refine lv_iload_n hx hb dX12_pass_20 rfl (lv_at hl 0 rfl) ?_
  refine lv_aload_n hx hb dX12_pass_21 rfl (lv_at hl 1 rfl) ?_
  refine hk_get (ci := 15) (C := RX12) (T := TX12) (N := 92) (v := .int 0) hx hb hts iX12 hown hw 0 rfl rfl 15 (by decide) (hts _ (List.mem_of_getElem? (i := 2) rfl)) rfl dX12_pass_22 ?_
  refine lv_icmp_ge (tgt := 46) hx hb dX12_pass_25 (by decide) (fun _ => ?_) (fun cc_2 => absurd (by decide) cc_2)
  refine lv_aload_n hx hb dX12_pass_46 rfl (lv_at hl 1 rfl) ?_
  refine lv_aload_n hx hb dX12_pass_47 rfl (lv_at hl 1 rfl) ?_
  refine hk_get (ci := 15) (C := RX12) (T := TX12) (N := 92) (v := .int 0) hx hb hts iX12 hown hw 0 rfl rfl 15 (by decide) (hts _ (List.mem_of_getElem? (i := 2) rfl)) rfl dX12_pass_48 ?_
  refine hk_put (ci := 15) (C := RX12) (T := TX12) (N := 92) (ty := .int) (v := .int 0) hx hb hts iX12 tyX12 tyX12_ok nmX12 hown hw 0 rfl rfl 13 (by decide) (hts _ (List.mem_of_getElem? (i := 3) rfl)) rfl (by decide +kernel) rfl rfl (Nat.le_of_ble_eq_true rfl) dX12_pass_51 (ws' := mw cI cJ ad (upd (upd (mf_g fm) 1 0) 12 0) mf_l ar bk) rfl (fun H locs hw => ?_)
  refine lv_aload_n hx hb dX12_pass_54 rfl (lv_at hl 1 rfl) ?_
  refine hk_get (ci := 15) (C := RX12) (T := TX12) (N := 92) (v := .int 0) hx hb hts iX12 hown hw 0 rfl rfl 13 (by decide) (hts _ (List.mem_of_getElem? (i := 3) rfl)) rfl dX12_pass_55 ?_
  exact hk_iret (u := ((upd (upd (mf_g fm) 1 0) 12 0), mf_l, ar, bk)) hx hb hr hlocks (hw) (rfl) dX12_pass_58

def ww_cm_step : List Cond := Cond.code yX12_step cX12_step 3 (some .int) :: ([Cond.fieldLink RX12 111 "LzmaChainsModel" "thrown" "I", Cond.fieldLink RX12 222 "LzmaChainsModel" "steps" "I"] ++ (wsX120 ++ ([])))
set_option maxHeartbeats 4000000 in
set_option maxRecDepth 100000 in
/-- the reference: step, new -/
theorem cm_step (l : Launch) (D : va_G) (cI cJ : ClassId) (ad : Nat → Nat) (fm : Int32) (ar : Nat → Nat → Int32) (bk : Nat → Int64) (sz : Nat) (k v : Int32) : Met l yX12_step ww_cm_step { frames := 0, cells := 0, slots := 0, locals := 0 } (va_Pc [.ref (ad 0), .int k, .int v] (hk_B D [(cI, .int), (cJ, .long)] sz (mw cI cJ ad (mf_g fm) mf_l ar bk))) (va_Qi (fun (r : Int32) (u : (Nat → Int32) × (Nat → Int64) × (Nat → Nat → Int32) × (Nat → Int64)) => (r.toInt = 0 ∧ k.toInt = -1 ∧ v.toInt = 0) ∨ (r.toInt = -1 ∧ ¬ (k.toInt = -1 ∧ v.toInt = 0))) (fun u : (Nat → Int32) × (Nat → Int64) × (Nat → Nat → Int32) × (Nat → Int64) => hk_E D [(cI, .int), (cJ, .long)] (va_A (mw cI cJ ad (mf_g fm) mf_l ar bk) sz) (mw cI cJ ad u.1 u.2.1 u.2.2.1 u.2.2.2)) (va_A (mw cI cJ ad (mf_g fm) mf_l ar bk) sz)) 0 0 (va_A (mw cI cJ ad (mf_g fm) mf_l ar bk) sz) := by
  refine hk_met (cc := cX12_step) (maxL := 3) (ret := (some .int)) (by decide) rfl (Nat.le_of_ble_eq_true rfl) ?_
  intro p e s m below meth c ls hx hb hr hml hown hts hlocks hin hA hw hl
  have iX12 : ∀ w ∈ wsX120, w ∈ ww_cm_step := fun _ h => List.mem_cons_of_mem _ (List.mem_append_right _ (List.mem_append_left _ h))
  have hl : lv_has ls 3 [(0, .ref (ad 0)), (1, .int k), (2, .int v)] := hl
  refine lv_aload_n hx hb dX12_step_0 rfl (lv_at hl 0 rfl) ?_
  refine lv_iconst (v := 0) hx hb dX12_step_1 (by decide) ?_
  refine hk_put (ci := 15) (C := RX12) (T := TX12) (N := 92) (ty := .int) (v := .int 0) hx hb hts iX12 tyX12 tyX12_ok nmX12 hown hw 0 rfl rfl 1 (by decide) (hts _ (List.mem_of_getElem? (i := 1) rfl)) rfl (by decide +kernel) rfl rfl (Nat.le_of_ble_eq_true rfl) dX12_step_2 (ws' := mw cI cJ ad (upd (mf_g fm) 1 0) mf_l ar bk) rfl (fun H locs hw => ?_)
  refine lv_iload_n hx hb dX12_step_5 rfl (lv_at hl 1 rfl) ?_
  refine lv_iconst (v := (-1)) hx hb dX12_step_6 (by decide) ?_
  refine lv_icmp_ne (tgt := 19) hx hb dX12_step_7 (by decide) (fun cc_1 => ?_) (fun cc_1 => ?_)
  · refine lv_iload_n hx hb dX12_step_19 rfl (lv_at hl 1 rfl) ?_
    refine lv_if_lt (tgt := 47) hx hb dX12_step_20 (by decide) (fun cc_2 => ?_) (fun cc_2 => ?_)
    · refine lv_iconst (v := (-1)) hx hb dX12_step_47 (by decide) ?_
      exact hk_iret (u := ((upd (mf_g fm) 1 0), mf_l, ar, bk)) hx hb hr hlocks (hw) (by simp only [Int32.lt_iff_toInt_lt, Int32.le_iff_toInt_le, ← Int32.toInt_inj, hk_t0, hk_t1, hk_t2, hk_t3, hk_t4, hk_t5, hk_t6, hk_t7, hk_t8, hk_t9, hk_t10, hk_t11, hk_t12, hk_t13, hk_t14, hk_t15, hk_t16, hk_t17, hk_t18, hk_t20, hk_t32, hk_tm1, hk_t256, hk_t1500, hk_t4096, hk_t2000, hk_t3000, hk_t512, hk_t1024, true_and, and_true, false_and, and_false, true_or, or_true, false_or, or_false, not_true_eq_false, not_false_eq_true] at cc_1 cc_2 ⊢; omega) dX12_step_48
    · refine lv_iload_n hx hb dX12_step_23 rfl (lv_at hl 1 rfl) ?_
      refine lv_aload_n hx hb dX12_step_24 rfl (lv_at hl 0 rfl) ?_
      refine hk_get (ci := 15) (C := RX12) (T := TX12) (N := 92) (v := .int 0) hx hb hts iX12 hown hw 0 rfl rfl 27 (by decide) (hts _ (List.mem_of_getElem? (i := 2) rfl)) rfl dX12_step_25 ?_
      refine lv_icmp_ge (tgt := 47) hx hb dX12_step_28 (by decide) (fun _ => ?_) (fun cc_3 => absurd (by simp only [Int32.lt_iff_toInt_lt, Int32.le_iff_toInt_le, hk_t0] at *; omega) cc_3)
      refine lv_iconst (v := (-1)) hx hb dX12_step_47 (by decide) ?_
      exact hk_iret (u := ((upd (mf_g fm) 1 0), mf_l, ar, bk)) hx hb hr hlocks (hw) (by simp only [Int32.lt_iff_toInt_lt, Int32.le_iff_toInt_le, ← Int32.toInt_inj, hk_t0, hk_t1, hk_t2, hk_t3, hk_t4, hk_t5, hk_t6, hk_t7, hk_t8, hk_t9, hk_t10, hk_t11, hk_t12, hk_t13, hk_t14, hk_t15, hk_t16, hk_t17, hk_t18, hk_t20, hk_t32, hk_tm1, hk_t256, hk_t1500, hk_t4096, hk_t2000, hk_t3000, hk_t512, hk_t1024, true_and, and_true, false_and, and_false, true_or, or_true, false_or, or_false, not_true_eq_false, not_false_eq_true] at cc_1 cc_2 ⊢; omega) dX12_step_48
  · refine lv_iload_n hx hb dX12_step_10 rfl (lv_at hl 2 rfl) ?_
    refine lv_if_ne (tgt := 19) hx hb dX12_step_11 (by decide) (fun cc_4 => ?_) (fun cc_4 => ?_)
    · refine lv_iload_n hx hb dX12_step_19 rfl (lv_at hl 1 rfl) ?_
      refine lv_if_lt (tgt := 47) hx hb dX12_step_20 (by decide) (fun cc_5 => ?_) (fun cc_5 => ?_)
      · refine lv_iconst (v := (-1)) hx hb dX12_step_47 (by decide) ?_
        exact hk_iret (u := ((upd (mf_g fm) 1 0), mf_l, ar, bk)) hx hb hr hlocks (hw) (by simp only [Int32.lt_iff_toInt_lt, Int32.le_iff_toInt_le, ← Int32.toInt_inj, hk_t0, hk_t1, hk_t2, hk_t3, hk_t4, hk_t5, hk_t6, hk_t7, hk_t8, hk_t9, hk_t10, hk_t11, hk_t12, hk_t13, hk_t14, hk_t15, hk_t16, hk_t17, hk_t18, hk_t20, hk_t32, hk_tm1, hk_t256, hk_t1500, hk_t4096, hk_t2000, hk_t3000, hk_t512, hk_t1024, true_and, and_true, false_and, and_false, true_or, or_true, false_or, or_false, not_true_eq_false, not_false_eq_true] at cc_1 cc_4 cc_5 ⊢; omega) dX12_step_48
      · refine lv_iload_n hx hb dX12_step_23 rfl (lv_at hl 1 rfl) ?_
        refine lv_aload_n hx hb dX12_step_24 rfl (lv_at hl 0 rfl) ?_
        refine hk_get (ci := 15) (C := RX12) (T := TX12) (N := 92) (v := .int 0) hx hb hts iX12 hown hw 0 rfl rfl 27 (by decide) (hts _ (List.mem_of_getElem? (i := 2) rfl)) rfl dX12_step_25 ?_
        refine lv_icmp_ge (tgt := 47) hx hb dX12_step_28 (by decide) (fun _ => ?_) (fun cc_6 => absurd (by simp only [Int32.lt_iff_toInt_lt, Int32.le_iff_toInt_le, hk_t0] at *; omega) cc_6)
        refine lv_iconst (v := (-1)) hx hb dX12_step_47 (by decide) ?_
        exact hk_iret (u := ((upd (mf_g fm) 1 0), mf_l, ar, bk)) hx hb hr hlocks (hw) (by simp only [Int32.lt_iff_toInt_lt, Int32.le_iff_toInt_le, ← Int32.toInt_inj, hk_t0, hk_t1, hk_t2, hk_t3, hk_t4, hk_t5, hk_t6, hk_t7, hk_t8, hk_t9, hk_t10, hk_t11, hk_t12, hk_t13, hk_t14, hk_t15, hk_t16, hk_t17, hk_t18, hk_t20, hk_t32, hk_tm1, hk_t256, hk_t1500, hk_t4096, hk_t2000, hk_t3000, hk_t512, hk_t1024, true_and, and_true, false_and, and_false, true_or, or_true, false_or, or_false, not_true_eq_false, not_false_eq_true] at cc_1 cc_4 cc_5 ⊢; omega) dX12_step_48
    · refine lv_aload_n hx hb dX12_step_14 rfl (lv_at hl 0 rfl) ?_
      refine hk_get (ci := 15) (C := RX12) (T := TX12) (N := 92) (v := .int 0) hx hb hts iX12 hown hw 0 rfl rfl 27 (by decide) (hts _ (List.mem_of_getElem? (i := 2) rfl)) rfl dX12_step_15 ?_
      exact hk_iret (u := ((upd (mf_g fm) 1 0), mf_l, ar, bk)) hx hb hr hlocks (hw) (by simp only [Int32.lt_iff_toInt_lt, Int32.le_iff_toInt_le, ← Int32.toInt_inj, hk_t0, hk_t1, hk_t2, hk_t3, hk_t4, hk_t5, hk_t6, hk_t7, hk_t8, hk_t9, hk_t10, hk_t11, hk_t12, hk_t13, hk_t14, hk_t15, hk_t16, hk_t17, hk_t18, hk_t20, hk_t32, hk_tm1, hk_t256, hk_t1500, hk_t4096, hk_t2000, hk_t3000, hk_t512, hk_t1024, true_and, and_true, false_and, and_false, true_or, or_true, false_or, or_false, not_true_eq_false, not_false_eq_true] at cc_1 cc_4 ⊢; omega) dX12_step_18

def ww_cm_block : List Cond := Cond.code yX12_block cX12_block 3 (some .int) :: ([Cond.fieldLink RX12 111 "LzmaChainsModel" "thrown" "I", Cond.fieldLink RX12 228 "LzmaChainsModel" "blocks" "I"] ++ (wsX120 ++ ([])))
set_option maxHeartbeats 4000000 in
set_option maxRecDepth 100000 in
/-- the reference: block, new -/
theorem cm_block (l : Launch) (D : va_G) (cI cJ : ClassId) (ad : Nat → Nat) (fm : Int32) (ar : Nat → Nat → Int32) (bk : Nat → Int64) (sz : Nat) (k v : Int32) : Met l yX12_block ww_cm_block { frames := 0, cells := 0, slots := 0, locals := 0 } (va_Pc [.ref (ad 0), .int k, .int v] (hk_B D [(cI, .int), (cJ, .long)] sz (mw cI cJ ad (mf_g fm) mf_l ar bk))) (va_Qi (fun (r : Int32) (u : (Nat → Int32) × (Nat → Int64) × (Nat → Nat → Int32) × (Nat → Int64)) => (r.toInt = 0 ∧ k.toInt = -1 ∧ v.toInt = 0) ∨ (r.toInt = -1 ∧ ¬ (k.toInt = -1 ∧ v.toInt = 0))) (fun u : (Nat → Int32) × (Nat → Int64) × (Nat → Nat → Int32) × (Nat → Int64) => hk_E D [(cI, .int), (cJ, .long)] (va_A (mw cI cJ ad (mf_g fm) mf_l ar bk) sz) (mw cI cJ ad u.1 u.2.1 u.2.2.1 u.2.2.2)) (va_A (mw cI cJ ad (mf_g fm) mf_l ar bk) sz)) 0 0 (va_A (mw cI cJ ad (mf_g fm) mf_l ar bk) sz) := by
  refine hk_met (cc := cX12_block) (maxL := 3) (ret := (some .int)) (by decide) rfl (Nat.le_of_ble_eq_true rfl) ?_
  intro p e s m below meth c ls hx hb hr hml hown hts hlocks hin hA hw hl
  have iX12 : ∀ w ∈ wsX120, w ∈ ww_cm_block := fun _ h => List.mem_cons_of_mem _ (List.mem_append_right _ (List.mem_append_left _ h))
  have hl : lv_has ls 3 [(0, .ref (ad 0)), (1, .int k), (2, .int v)] := hl
  refine lv_aload_n hx hb dX12_block_0 rfl (lv_at hl 0 rfl) ?_
  refine lv_iconst (v := 0) hx hb dX12_block_1 (by decide) ?_
  refine hk_put (ci := 15) (C := RX12) (T := TX12) (N := 92) (ty := .int) (v := .int 0) hx hb hts iX12 tyX12 tyX12_ok nmX12 hown hw 0 rfl rfl 1 (by decide) (hts _ (List.mem_of_getElem? (i := 1) rfl)) rfl (by decide +kernel) rfl rfl (Nat.le_of_ble_eq_true rfl) dX12_block_2 (ws' := mw cI cJ ad (upd (mf_g fm) 1 0) mf_l ar bk) rfl (fun H locs hw => ?_)
  refine lv_iload_n hx hb dX12_block_5 rfl (lv_at hl 1 rfl) ?_
  refine lv_iconst (v := (-1)) hx hb dX12_block_6 (by decide) ?_
  refine lv_icmp_ne (tgt := 19) hx hb dX12_block_7 (by decide) (fun cc_1 => ?_) (fun cc_1 => ?_)
  · refine lv_iload_n hx hb dX12_block_19 rfl (lv_at hl 1 rfl) ?_
    refine lv_if_lt (tgt := 40) hx hb dX12_block_20 (by decide) (fun cc_2 => ?_) (fun cc_2 => ?_)
    · refine lv_iconst (v := (-1)) hx hb dX12_block_40 (by decide) ?_
      exact hk_iret (u := ((upd (mf_g fm) 1 0), mf_l, ar, bk)) hx hb hr hlocks (hw) (by simp only [Int32.lt_iff_toInt_lt, Int32.le_iff_toInt_le, ← Int32.toInt_inj, hk_t0, hk_t1, hk_t2, hk_t3, hk_t4, hk_t5, hk_t6, hk_t7, hk_t8, hk_t9, hk_t10, hk_t11, hk_t12, hk_t13, hk_t14, hk_t15, hk_t16, hk_t17, hk_t18, hk_t20, hk_t32, hk_tm1, hk_t256, hk_t1500, hk_t4096, hk_t2000, hk_t3000, hk_t512, hk_t1024, true_and, and_true, false_and, and_false, true_or, or_true, false_or, or_false, not_true_eq_false, not_false_eq_true] at cc_1 cc_2 ⊢; omega) dX12_block_41
    · refine lv_iload_n hx hb dX12_block_23 rfl (lv_at hl 1 rfl) ?_
      refine lv_aload_n hx hb dX12_block_24 rfl (lv_at hl 0 rfl) ?_
      refine hk_get (ci := 15) (C := RX12) (T := TX12) (N := 92) (v := .int 0) hx hb hts iX12 hown hw 0 rfl rfl 33 (by decide) (hts _ (List.mem_of_getElem? (i := 2) rfl)) rfl dX12_block_25 ?_
      refine lv_icmp_ge (tgt := 40) hx hb dX12_block_28 (by decide) (fun _ => ?_) (fun cc_3 => absurd (by simp only [Int32.lt_iff_toInt_lt, Int32.le_iff_toInt_le, hk_t0] at *; omega) cc_3)
      refine lv_iconst (v := (-1)) hx hb dX12_block_40 (by decide) ?_
      exact hk_iret (u := ((upd (mf_g fm) 1 0), mf_l, ar, bk)) hx hb hr hlocks (hw) (by simp only [Int32.lt_iff_toInt_lt, Int32.le_iff_toInt_le, ← Int32.toInt_inj, hk_t0, hk_t1, hk_t2, hk_t3, hk_t4, hk_t5, hk_t6, hk_t7, hk_t8, hk_t9, hk_t10, hk_t11, hk_t12, hk_t13, hk_t14, hk_t15, hk_t16, hk_t17, hk_t18, hk_t20, hk_t32, hk_tm1, hk_t256, hk_t1500, hk_t4096, hk_t2000, hk_t3000, hk_t512, hk_t1024, true_and, and_true, false_and, and_false, true_or, or_true, false_or, or_false, not_true_eq_false, not_false_eq_true] at cc_1 cc_2 ⊢; omega) dX12_block_41
  · refine lv_iload_n hx hb dX12_block_10 rfl (lv_at hl 2 rfl) ?_
    refine lv_if_ne (tgt := 19) hx hb dX12_block_11 (by decide) (fun cc_4 => ?_) (fun cc_4 => ?_)
    · refine lv_iload_n hx hb dX12_block_19 rfl (lv_at hl 1 rfl) ?_
      refine lv_if_lt (tgt := 40) hx hb dX12_block_20 (by decide) (fun cc_5 => ?_) (fun cc_5 => ?_)
      · refine lv_iconst (v := (-1)) hx hb dX12_block_40 (by decide) ?_
        exact hk_iret (u := ((upd (mf_g fm) 1 0), mf_l, ar, bk)) hx hb hr hlocks (hw) (by simp only [Int32.lt_iff_toInt_lt, Int32.le_iff_toInt_le, ← Int32.toInt_inj, hk_t0, hk_t1, hk_t2, hk_t3, hk_t4, hk_t5, hk_t6, hk_t7, hk_t8, hk_t9, hk_t10, hk_t11, hk_t12, hk_t13, hk_t14, hk_t15, hk_t16, hk_t17, hk_t18, hk_t20, hk_t32, hk_tm1, hk_t256, hk_t1500, hk_t4096, hk_t2000, hk_t3000, hk_t512, hk_t1024, true_and, and_true, false_and, and_false, true_or, or_true, false_or, or_false, not_true_eq_false, not_false_eq_true] at cc_1 cc_4 cc_5 ⊢; omega) dX12_block_41
      · refine lv_iload_n hx hb dX12_block_23 rfl (lv_at hl 1 rfl) ?_
        refine lv_aload_n hx hb dX12_block_24 rfl (lv_at hl 0 rfl) ?_
        refine hk_get (ci := 15) (C := RX12) (T := TX12) (N := 92) (v := .int 0) hx hb hts iX12 hown hw 0 rfl rfl 33 (by decide) (hts _ (List.mem_of_getElem? (i := 2) rfl)) rfl dX12_block_25 ?_
        refine lv_icmp_ge (tgt := 40) hx hb dX12_block_28 (by decide) (fun _ => ?_) (fun cc_6 => absurd (by simp only [Int32.lt_iff_toInt_lt, Int32.le_iff_toInt_le, hk_t0] at *; omega) cc_6)
        refine lv_iconst (v := (-1)) hx hb dX12_block_40 (by decide) ?_
        exact hk_iret (u := ((upd (mf_g fm) 1 0), mf_l, ar, bk)) hx hb hr hlocks (hw) (by simp only [Int32.lt_iff_toInt_lt, Int32.le_iff_toInt_le, ← Int32.toInt_inj, hk_t0, hk_t1, hk_t2, hk_t3, hk_t4, hk_t5, hk_t6, hk_t7, hk_t8, hk_t9, hk_t10, hk_t11, hk_t12, hk_t13, hk_t14, hk_t15, hk_t16, hk_t17, hk_t18, hk_t20, hk_t32, hk_tm1, hk_t256, hk_t1500, hk_t4096, hk_t2000, hk_t3000, hk_t512, hk_t1024, true_and, and_true, false_and, and_false, true_or, or_true, false_or, or_false, not_true_eq_false, not_false_eq_true] at cc_1 cc_4 cc_5 ⊢; omega) dX12_block_41
    · refine lv_aload_n hx hb dX12_block_14 rfl (lv_at hl 0 rfl) ?_
      refine hk_get (ci := 15) (C := RX12) (T := TX12) (N := 92) (v := .int 0) hx hb hts iX12 hown hw 0 rfl rfl 33 (by decide) (hts _ (List.mem_of_getElem? (i := 2) rfl)) rfl dX12_block_15 ?_
      exact hk_iret (u := ((upd (mf_g fm) 1 0), mf_l, ar, bk)) hx hb hr hlocks (hw) (by simp only [Int32.lt_iff_toInt_lt, Int32.le_iff_toInt_le, ← Int32.toInt_inj, hk_t0, hk_t1, hk_t2, hk_t3, hk_t4, hk_t5, hk_t6, hk_t7, hk_t8, hk_t9, hk_t10, hk_t11, hk_t12, hk_t13, hk_t14, hk_t15, hk_t16, hk_t17, hk_t18, hk_t20, hk_t32, hk_tm1, hk_t256, hk_t1500, hk_t4096, hk_t2000, hk_t3000, hk_t512, hk_t1024, true_and, and_true, false_and, and_false, true_or, or_true, false_or, or_false, not_true_eq_false, not_false_eq_true] at cc_1 cc_4 ⊢; omega) dX12_block_18

def ww_cm_feed : List Cond := Cond.code yX12_feed cX12_feed 8 (some .int) :: ([Cond.fieldLink RX12 111 "LzmaChainsModel" "thrown" "I", Cond.fieldLink RX12 126 "LzmaChainsModel" "inSize" "I", Cond.fieldLink RX12 28 "LzmaChainsModel" "in" "[I"] ++ (wsX120 ++ ([])))
set_option maxHeartbeats 4000000 in
set_option maxRecDepth 100000 in
/-- the reference: feed, new -/
theorem cm_feed (l : Launch) (D : va_G) (cI cJ : ClassId) (ad : Nat → Nat) (fm : Int32) (ar : Nat → Nat → Int32) (bk : Nat → Int64) (sz : Nat) (a1 a2 a3 a4 a5 : Int32) : Met l yX12_feed ww_cm_feed { frames := 0, cells := 0, slots := 0, locals := 0 } (va_Pc [.ref (ad 0), .int a1, .int a2, .int a3, .int a4, .int a5] (hk_B D [(cI, .int), (cJ, .long)] sz (mw cI cJ ad (mf_g fm) mf_l ar bk))) (va_Qi (fun (r : Int32) (u : (Nat → Int32) × (Nat → Int64) × (Nat → Nat → Int32) × (Nat → Int64)) => r = 20) (fun u : (Nat → Int32) × (Nat → Int64) × (Nat → Nat → Int32) × (Nat → Int64) => hk_E D [(cI, .int), (cJ, .long)] (va_A (mw cI cJ ad (mf_g fm) mf_l ar bk) sz) (mw cI cJ ad u.1 u.2.1 u.2.2.1 u.2.2.2)) (va_A (mw cI cJ ad (mf_g fm) mf_l ar bk) sz)) 0 0 (va_A (mw cI cJ ad (mf_g fm) mf_l ar bk) sz) := by
  refine hk_met (cc := cX12_feed) (maxL := 8) (ret := (some .int)) (by decide) rfl (Nat.le_of_ble_eq_true rfl) ?_
  intro p e s m below meth c ls hx hb hr hml hown hts hlocks hin hA hw hl
  have iX12 : ∀ w ∈ wsX120, w ∈ ww_cm_feed := fun _ h => List.mem_cons_of_mem _ (List.mem_append_right _ (List.mem_append_left _ h))
  have hl : lv_has ls 8 [(0, .ref (ad 0)), (1, .int a1), (2, .int a2), (3, .int a3), (4, .int a4), (5, .int a5)] := hl
  refine lv_aload_n hx hb dX12_feed_0 rfl (lv_at hl 0 rfl) ?_
  refine lv_iconst (v := 0) hx hb dX12_feed_1 (by decide) ?_
  refine hk_put (ci := 15) (C := RX12) (T := TX12) (N := 92) (ty := .int) (v := .int 0) hx hb hts iX12 tyX12 tyX12_ok nmX12 hown hw 0 rfl rfl 1 (by decide) (hts _ (List.mem_of_getElem? (i := 1) rfl)) rfl (by decide +kernel) rfl rfl (Nat.le_of_ble_eq_true rfl) dX12_feed_2 (ws' := mw cI cJ ad (upd (mf_g fm) 1 0) mf_l ar bk) rfl (fun H locs hw => ?_)
  refine lv_aload_n hx hb dX12_feed_5 rfl (lv_at hl 0 rfl) ?_
  refine hk_get (ci := 15) (C := RX12) (T := TX12) (N := 92) (v := .int 0) hx hb hts iX12 hown hw 0 rfl rfl 13 (by decide) (hts _ (List.mem_of_getElem? (i := 2) rfl)) rfl dX12_feed_6 ?_
  refine lv_bipush (v := 20) hx hb dX12_feed_9 (by decide) ?_
  refine lv_iadd hx hb dX12_feed_11 ?_
  refine hk_topi 20 (by decide +kernel) ?_
  refine lv_sipush (v := 1500) hx hb dX12_feed_12 (by decide) ?_
  refine lv_icmp_le (tgt := 21) hx hb dX12_feed_15 (by decide) (fun _ => ?_) (fun cc_1 => absurd (by decide) cc_1)
  refine lv_iconst (v := 0) hx hb dX12_feed_21 (by decide) ?_
  refine lv_istore (lv' := [(6, .int 0), (0, .ref (ad 0)), (1, .int a1), (2, .int a2), (3, .int a3), (4, .int a4), (5, .int a5)]) hx hb dX12_feed_22 hl (by decide) rfl (fun ls hl => ?_)
  have loop_3 : ∀ (ki i : Nat) (jj_2 : Nat → Int32) (ls : Array Slot) (H : Heap) (locs : List Loc), i + ki = 20 → hk_W D [(cI, .int), (cJ, .long)] (va_A (mw cI cJ ad (mf_g fm) mf_l ar bk) sz) s H locs (mw cI cJ ad (upd (upd (mf_g fm) 1 0) 12 (nI i)) mf_l (va_up ar 0 jj_2) bk) → lv_has ls 8 [(6, .int (nI i)), (0, .ref (ad 0)), (1, .int a1), (2, .int a2), (3, .int a3), (4, .int a4), (5, .int a5)] → W p l e { frames := 0, cells := 0, slots := 0, locals := 0 } s m (List.toArray [.ref (ad 0), .int a1, .int a2, .int a3, .int a4, .int a5]) below meth c H locs 0 0 (MQ below (va_Qi (fun (r : Int32) (u : (Nat → Int32) × (Nat → Int64) × (Nat → Nat → Int32) × (Nat → Int64)) => r = 20) (fun u : (Nat → Int32) × (Nat → Int64) × (Nat → Nat → Int32) × (Nat → Int64) => hk_E D [(cI, .int), (cJ, .long)] (va_A (mw cI cJ ad (mf_g fm) mf_l ar bk) sz) (mw cI cJ ad u.1 u.2.1 u.2.2.1 u.2.2.2)) (va_A (mw cI cJ ad (mf_g fm) mf_l ar bk) sz)) (List.toArray [.ref (ad 0), .int a1, .int a2, .int a3, .int a4, .int a5]) s 0 0 (va_A (mw cI cJ ad (mf_g fm) mf_l ar bk) sz)) (F0 m 24 ls []) := by
    intro ki
    induction ki with
    | zero =>
      intro i jj_2 ls H locs hik  hw hl
      refine lv_iload hx hb dX12_feed_24 (lv_at hl 0 rfl) ?_
      refine lv_bipush (v := 20) hx hb dX12_feed_26 (by decide) ?_
      refine lv_icmp_ge (tgt := 121) hx hb dX12_feed_28 (by decide) (fun _ => ?_) (fun cc_4 => absurd (hk_le (a := 20) (b := i) (by omega) (by omega)) cc_4)
      refine lv_aload_n hx hb dX12_feed_121 rfl (lv_at hl 1 rfl) ?_
      refine hk_get (ci := 15) (C := RX12) (T := TX12) (N := 92) (v := .int (nI i)) hx hb hts iX12 hown hw 0 rfl rfl 13 (by decide) (hts _ (List.mem_of_getElem? (i := 2) rfl)) rfl dX12_feed_122 ?_
      exact hk_iret (u := ((upd (upd (mf_g fm) 1 0) 12 (nI i)), mf_l, (va_up ar 0 jj_2), bk)) hx hb hr hlocks (hw) (by rw [show i = 20 by omega]; rfl) dX12_feed_125
    | succ ki ih =>
      intro i jj_2 ls H locs hik  hw hl
      refine lv_iload hx hb dX12_feed_24 (lv_at hl 0 rfl) ?_
      refine lv_bipush (v := 20) hx hb dX12_feed_26 (by decide) ?_
      refine lv_icmp_ge (tgt := 121) hx hb dX12_feed_28 (by decide) (fun cc_5 => absurd cc_5 (hk_nle (a := i) (b := 20) (by omega) (by omega))) (fun _ => ?_)
      refine lv_iload hx hb dX12_feed_31 (lv_at hl 0 rfl) ?_
      refine lv_iconst (v := 4) hx hb dX12_feed_33 (by decide) ?_
      refine lv_icmp_ge (tgt := 41) hx hb dX12_feed_34 (by decide) (fun cc_6 => ?_) (fun cc_6 => ?_)
      · refine lv_iload hx hb dX12_feed_41 (lv_at hl 0 rfl) ?_
        refine lv_bipush (v := 8) hx hb dX12_feed_43 (by decide) ?_
        refine lv_icmp_ge (tgt := 52) hx hb dX12_feed_45 (by decide) (fun cc_7 => ?_) (fun cc_7 => ?_)
        · refine lv_iload hx hb dX12_feed_52 (lv_at hl 0 rfl) ?_
          refine lv_bipush (v := 12) hx hb dX12_feed_54 (by decide) ?_
          refine lv_icmp_ge (tgt := 63) hx hb dX12_feed_56 (by decide) (fun cc_8 => ?_) (fun cc_8 => ?_)
          · refine lv_iload hx hb dX12_feed_63 (lv_at hl 0 rfl) ?_
            refine lv_bipush (v := 16) hx hb dX12_feed_65 (by decide) ?_
            refine lv_icmp_ge (tgt := 75) hx hb dX12_feed_67 (by decide) (fun cc_9 => ?_) (fun cc_9 => ?_)
            · refine lv_iload hx hb dX12_feed_75 (lv_at hl 6 rfl) ?_
              refine lv_istore (lv' := [(7, .int a5), (6, .int (nI i)), (0, .ref (ad 0)), (1, .int a1), (2, .int a2), (3, .int a3), (4, .int a4), (5, .int a5)]) hx hb dX12_feed_77 hl (by decide) rfl (fun ls hl => ?_)
              refine lv_aload_n hx hb dX12_feed_79 rfl (lv_at hl 2 rfl) ?_
              refine hk_get (ci := 15) (C := RX12) (T := TX12) (N := 92) (v := .ref (ad 1)) hx hb hts iX12 hown hw 0 rfl rfl 12 (by decide) (hts _ (List.mem_of_getElem? (i := 3) rfl)) rfl dX12_feed_80 ?_
              refine lv_aload_n hx hb dX12_feed_83 rfl (lv_at hl 2 rfl) ?_
              refine hk_get (ci := 15) (C := RX12) (T := TX12) (N := 92) (v := .int (nI i)) hx hb hts iX12 hown hw 0 rfl rfl 13 (by decide) (hts _ (List.mem_of_getElem? (i := 2) rfl)) rfl dX12_feed_84 ?_
              refine lv_iload hx hb dX12_feed_87 (lv_at hl 0 rfl) ?_
              refine lv_bipush (v := 24) hx hb dX12_feed_89 (by decide) ?_
              refine lv_bipush (v := 8) hx hb dX12_feed_91 (by decide) ?_
              refine lv_iload hx hb dX12_feed_93 (lv_at hl 1 rfl) ?_
              refine lv_iconst (v := 4) hx hb dX12_feed_95 (by decide) ?_
              refine lv_irem hx hb dX12_feed_96 (by decide) ?_
              refine lv_imul hx hb dX12_feed_97 ?_
              refine lv_isub hx hb dX12_feed_98 ?_
              refine lv_ishr hx hb dX12_feed_99 ?_
              refine lv_sipush (v := 255) hx hb dX12_feed_100 (by decide) ?_
              refine lv_iand hx hb dX12_feed_103 ?_
              refine hk_iast hx hb hw 1 0 rfl rfl (vp_in_nI (by omega) (by omega)) dX12_feed_104 (ws' := mw cI cJ ad (upd (upd (mf_g fm) 1 0) 12 (nI i)) mf_l (va_up ar 0 (upd jj_2 ((nI i)).toNatClampNeg (((a5 : Int32) >>> (((24 - (8 * ((nI i) - (nI i) / 4 * 4))) : Int32) &&& 31)) &&& 255))) bk) rfl (fun H locs hw => ?_)
              refine lv_aload_n hx hb dX12_feed_105 rfl (lv_at hl 2 rfl) ?_
              refine lv_dup hx hb dX12_feed_106 rfl ?_
              refine hk_get (ci := 15) (C := RX12) (T := TX12) (N := 92) (v := .int (nI i)) hx hb hts iX12 hown hw 0 rfl rfl 13 (by decide) (hts _ (List.mem_of_getElem? (i := 2) rfl)) rfl dX12_feed_107 ?_
              refine lv_iconst (v := 1) hx hb dX12_feed_110 (by decide) ?_
              refine lv_iadd hx hb dX12_feed_111 ?_
              refine hk_topi (nI (i + 1)) ((nI_succ i).symm) ?_
              refine hk_put (ci := 15) (C := RX12) (T := TX12) (N := 92) (ty := .int) (v := .int (nI (i + 1))) hx hb hts iX12 tyX12 tyX12_ok nmX12 hown hw 0 rfl rfl 13 (by decide) (hts _ (List.mem_of_getElem? (i := 2) rfl)) rfl (by decide +kernel) rfl rfl (Nat.le_of_ble_eq_true rfl) dX12_feed_112 (ws' := mw cI cJ ad (upd (upd (mf_g fm) 1 0) 12 (nI (i + 1))) mf_l (va_up ar 0 (upd jj_2 ((nI i)).toNatClampNeg (((a5 : Int32) >>> (((24 - (8 * ((nI i) - (nI i) / 4 * 4))) : Int32) &&& 31)) &&& 255))) bk) rfl (fun H locs hw => ?_)
              refine lv_iinc (v := (nI (i + 1))) (lv' := [(6, .int (nI (i + 1))), (7, .int a5), (0, .ref (ad 0)), (1, .int a1), (2, .int a2), (3, .int a3), (4, .int a4), (5, .int a5)]) hx hb dX12_feed_115 hl (k := 1) rfl ((nI_succ i).symm) (by decide) rfl (fun ls hl => ?_)
              refine lv_goto (tgt := 24) hx hb dX12_feed_118 (by decide) ?_
              exact ih (i + 1) (upd jj_2 ((nI i)).toNatClampNeg (((a5 : Int32) >>> (((24 - (8 * ((nI i) - (nI i) / 4 * 4))) : Int32) &&& 31)) &&& 255)) ls _ _ (by omega)  hw (lv_sub hl [0, 2, 3, 4, 5, 6, 7] rfl)
            · refine lv_iload hx hb dX12_feed_70 (lv_at hl 5 rfl) ?_
              refine lv_goto (tgt := 77) hx hb dX12_feed_72 (by decide) ?_
              refine lv_istore (lv' := [(7, .int a4), (6, .int (nI i)), (0, .ref (ad 0)), (1, .int a1), (2, .int a2), (3, .int a3), (4, .int a4), (5, .int a5)]) hx hb dX12_feed_77 hl (by decide) rfl (fun ls hl => ?_)
              refine lv_aload_n hx hb dX12_feed_79 rfl (lv_at hl 2 rfl) ?_
              refine hk_get (ci := 15) (C := RX12) (T := TX12) (N := 92) (v := .ref (ad 1)) hx hb hts iX12 hown hw 0 rfl rfl 12 (by decide) (hts _ (List.mem_of_getElem? (i := 3) rfl)) rfl dX12_feed_80 ?_
              refine lv_aload_n hx hb dX12_feed_83 rfl (lv_at hl 2 rfl) ?_
              refine hk_get (ci := 15) (C := RX12) (T := TX12) (N := 92) (v := .int (nI i)) hx hb hts iX12 hown hw 0 rfl rfl 13 (by decide) (hts _ (List.mem_of_getElem? (i := 2) rfl)) rfl dX12_feed_84 ?_
              refine lv_iload hx hb dX12_feed_87 (lv_at hl 0 rfl) ?_
              refine lv_bipush (v := 24) hx hb dX12_feed_89 (by decide) ?_
              refine lv_bipush (v := 8) hx hb dX12_feed_91 (by decide) ?_
              refine lv_iload hx hb dX12_feed_93 (lv_at hl 1 rfl) ?_
              refine lv_iconst (v := 4) hx hb dX12_feed_95 (by decide) ?_
              refine lv_irem hx hb dX12_feed_96 (by decide) ?_
              refine lv_imul hx hb dX12_feed_97 ?_
              refine lv_isub hx hb dX12_feed_98 ?_
              refine lv_ishr hx hb dX12_feed_99 ?_
              refine lv_sipush (v := 255) hx hb dX12_feed_100 (by decide) ?_
              refine lv_iand hx hb dX12_feed_103 ?_
              refine hk_iast hx hb hw 1 0 rfl rfl (vp_in_nI (by omega) (by omega)) dX12_feed_104 (ws' := mw cI cJ ad (upd (upd (mf_g fm) 1 0) 12 (nI i)) mf_l (va_up ar 0 (upd jj_2 ((nI i)).toNatClampNeg (((a4 : Int32) >>> (((24 - (8 * ((nI i) - (nI i) / 4 * 4))) : Int32) &&& 31)) &&& 255))) bk) rfl (fun H locs hw => ?_)
              refine lv_aload_n hx hb dX12_feed_105 rfl (lv_at hl 2 rfl) ?_
              refine lv_dup hx hb dX12_feed_106 rfl ?_
              refine hk_get (ci := 15) (C := RX12) (T := TX12) (N := 92) (v := .int (nI i)) hx hb hts iX12 hown hw 0 rfl rfl 13 (by decide) (hts _ (List.mem_of_getElem? (i := 2) rfl)) rfl dX12_feed_107 ?_
              refine lv_iconst (v := 1) hx hb dX12_feed_110 (by decide) ?_
              refine lv_iadd hx hb dX12_feed_111 ?_
              refine hk_topi (nI (i + 1)) ((nI_succ i).symm) ?_
              refine hk_put (ci := 15) (C := RX12) (T := TX12) (N := 92) (ty := .int) (v := .int (nI (i + 1))) hx hb hts iX12 tyX12 tyX12_ok nmX12 hown hw 0 rfl rfl 13 (by decide) (hts _ (List.mem_of_getElem? (i := 2) rfl)) rfl (by decide +kernel) rfl rfl (Nat.le_of_ble_eq_true rfl) dX12_feed_112 (ws' := mw cI cJ ad (upd (upd (mf_g fm) 1 0) 12 (nI (i + 1))) mf_l (va_up ar 0 (upd jj_2 ((nI i)).toNatClampNeg (((a4 : Int32) >>> (((24 - (8 * ((nI i) - (nI i) / 4 * 4))) : Int32) &&& 31)) &&& 255))) bk) rfl (fun H locs hw => ?_)
              refine lv_iinc (v := (nI (i + 1))) (lv' := [(6, .int (nI (i + 1))), (7, .int a4), (0, .ref (ad 0)), (1, .int a1), (2, .int a2), (3, .int a3), (4, .int a4), (5, .int a5)]) hx hb dX12_feed_115 hl (k := 1) rfl ((nI_succ i).symm) (by decide) rfl (fun ls hl => ?_)
              refine lv_goto (tgt := 24) hx hb dX12_feed_118 (by decide) ?_
              exact ih (i + 1) (upd jj_2 ((nI i)).toNatClampNeg (((a4 : Int32) >>> (((24 - (8 * ((nI i) - (nI i) / 4 * 4))) : Int32) &&& 31)) &&& 255)) ls _ _ (by omega)  hw (lv_sub hl [0, 2, 3, 4, 5, 6, 7] rfl)
          · refine lv_iload_n hx hb dX12_feed_59 rfl (lv_at hl 4 rfl) ?_
            refine lv_goto (tgt := 77) hx hb dX12_feed_60 (by decide) ?_
            refine lv_istore (lv' := [(7, .int a3), (6, .int (nI i)), (0, .ref (ad 0)), (1, .int a1), (2, .int a2), (3, .int a3), (4, .int a4), (5, .int a5)]) hx hb dX12_feed_77 hl (by decide) rfl (fun ls hl => ?_)
            refine lv_aload_n hx hb dX12_feed_79 rfl (lv_at hl 2 rfl) ?_
            refine hk_get (ci := 15) (C := RX12) (T := TX12) (N := 92) (v := .ref (ad 1)) hx hb hts iX12 hown hw 0 rfl rfl 12 (by decide) (hts _ (List.mem_of_getElem? (i := 3) rfl)) rfl dX12_feed_80 ?_
            refine lv_aload_n hx hb dX12_feed_83 rfl (lv_at hl 2 rfl) ?_
            refine hk_get (ci := 15) (C := RX12) (T := TX12) (N := 92) (v := .int (nI i)) hx hb hts iX12 hown hw 0 rfl rfl 13 (by decide) (hts _ (List.mem_of_getElem? (i := 2) rfl)) rfl dX12_feed_84 ?_
            refine lv_iload hx hb dX12_feed_87 (lv_at hl 0 rfl) ?_
            refine lv_bipush (v := 24) hx hb dX12_feed_89 (by decide) ?_
            refine lv_bipush (v := 8) hx hb dX12_feed_91 (by decide) ?_
            refine lv_iload hx hb dX12_feed_93 (lv_at hl 1 rfl) ?_
            refine lv_iconst (v := 4) hx hb dX12_feed_95 (by decide) ?_
            refine lv_irem hx hb dX12_feed_96 (by decide) ?_
            refine lv_imul hx hb dX12_feed_97 ?_
            refine lv_isub hx hb dX12_feed_98 ?_
            refine lv_ishr hx hb dX12_feed_99 ?_
            refine lv_sipush (v := 255) hx hb dX12_feed_100 (by decide) ?_
            refine lv_iand hx hb dX12_feed_103 ?_
            refine hk_iast hx hb hw 1 0 rfl rfl (vp_in_nI (by omega) (by omega)) dX12_feed_104 (ws' := mw cI cJ ad (upd (upd (mf_g fm) 1 0) 12 (nI i)) mf_l (va_up ar 0 (upd jj_2 ((nI i)).toNatClampNeg (((a3 : Int32) >>> (((24 - (8 * ((nI i) - (nI i) / 4 * 4))) : Int32) &&& 31)) &&& 255))) bk) rfl (fun H locs hw => ?_)
            refine lv_aload_n hx hb dX12_feed_105 rfl (lv_at hl 2 rfl) ?_
            refine lv_dup hx hb dX12_feed_106 rfl ?_
            refine hk_get (ci := 15) (C := RX12) (T := TX12) (N := 92) (v := .int (nI i)) hx hb hts iX12 hown hw 0 rfl rfl 13 (by decide) (hts _ (List.mem_of_getElem? (i := 2) rfl)) rfl dX12_feed_107 ?_
            refine lv_iconst (v := 1) hx hb dX12_feed_110 (by decide) ?_
            refine lv_iadd hx hb dX12_feed_111 ?_
            refine hk_topi (nI (i + 1)) ((nI_succ i).symm) ?_
            refine hk_put (ci := 15) (C := RX12) (T := TX12) (N := 92) (ty := .int) (v := .int (nI (i + 1))) hx hb hts iX12 tyX12 tyX12_ok nmX12 hown hw 0 rfl rfl 13 (by decide) (hts _ (List.mem_of_getElem? (i := 2) rfl)) rfl (by decide +kernel) rfl rfl (Nat.le_of_ble_eq_true rfl) dX12_feed_112 (ws' := mw cI cJ ad (upd (upd (mf_g fm) 1 0) 12 (nI (i + 1))) mf_l (va_up ar 0 (upd jj_2 ((nI i)).toNatClampNeg (((a3 : Int32) >>> (((24 - (8 * ((nI i) - (nI i) / 4 * 4))) : Int32) &&& 31)) &&& 255))) bk) rfl (fun H locs hw => ?_)
            refine lv_iinc (v := (nI (i + 1))) (lv' := [(6, .int (nI (i + 1))), (7, .int a3), (0, .ref (ad 0)), (1, .int a1), (2, .int a2), (3, .int a3), (4, .int a4), (5, .int a5)]) hx hb dX12_feed_115 hl (k := 1) rfl ((nI_succ i).symm) (by decide) rfl (fun ls hl => ?_)
            refine lv_goto (tgt := 24) hx hb dX12_feed_118 (by decide) ?_
            exact ih (i + 1) (upd jj_2 ((nI i)).toNatClampNeg (((a3 : Int32) >>> (((24 - (8 * ((nI i) - (nI i) / 4 * 4))) : Int32) &&& 31)) &&& 255)) ls _ _ (by omega)  hw (lv_sub hl [0, 2, 3, 4, 5, 6, 7] rfl)
        · refine lv_iload_n hx hb dX12_feed_48 rfl (lv_at hl 3 rfl) ?_
          refine lv_goto (tgt := 77) hx hb dX12_feed_49 (by decide) ?_
          refine lv_istore (lv' := [(7, .int a2), (6, .int (nI i)), (0, .ref (ad 0)), (1, .int a1), (2, .int a2), (3, .int a3), (4, .int a4), (5, .int a5)]) hx hb dX12_feed_77 hl (by decide) rfl (fun ls hl => ?_)
          refine lv_aload_n hx hb dX12_feed_79 rfl (lv_at hl 2 rfl) ?_
          refine hk_get (ci := 15) (C := RX12) (T := TX12) (N := 92) (v := .ref (ad 1)) hx hb hts iX12 hown hw 0 rfl rfl 12 (by decide) (hts _ (List.mem_of_getElem? (i := 3) rfl)) rfl dX12_feed_80 ?_
          refine lv_aload_n hx hb dX12_feed_83 rfl (lv_at hl 2 rfl) ?_
          refine hk_get (ci := 15) (C := RX12) (T := TX12) (N := 92) (v := .int (nI i)) hx hb hts iX12 hown hw 0 rfl rfl 13 (by decide) (hts _ (List.mem_of_getElem? (i := 2) rfl)) rfl dX12_feed_84 ?_
          refine lv_iload hx hb dX12_feed_87 (lv_at hl 0 rfl) ?_
          refine lv_bipush (v := 24) hx hb dX12_feed_89 (by decide) ?_
          refine lv_bipush (v := 8) hx hb dX12_feed_91 (by decide) ?_
          refine lv_iload hx hb dX12_feed_93 (lv_at hl 1 rfl) ?_
          refine lv_iconst (v := 4) hx hb dX12_feed_95 (by decide) ?_
          refine lv_irem hx hb dX12_feed_96 (by decide) ?_
          refine lv_imul hx hb dX12_feed_97 ?_
          refine lv_isub hx hb dX12_feed_98 ?_
          refine lv_ishr hx hb dX12_feed_99 ?_
          refine lv_sipush (v := 255) hx hb dX12_feed_100 (by decide) ?_
          refine lv_iand hx hb dX12_feed_103 ?_
          refine hk_iast hx hb hw 1 0 rfl rfl (vp_in_nI (by omega) (by omega)) dX12_feed_104 (ws' := mw cI cJ ad (upd (upd (mf_g fm) 1 0) 12 (nI i)) mf_l (va_up ar 0 (upd jj_2 ((nI i)).toNatClampNeg (((a2 : Int32) >>> (((24 - (8 * ((nI i) - (nI i) / 4 * 4))) : Int32) &&& 31)) &&& 255))) bk) rfl (fun H locs hw => ?_)
          refine lv_aload_n hx hb dX12_feed_105 rfl (lv_at hl 2 rfl) ?_
          refine lv_dup hx hb dX12_feed_106 rfl ?_
          refine hk_get (ci := 15) (C := RX12) (T := TX12) (N := 92) (v := .int (nI i)) hx hb hts iX12 hown hw 0 rfl rfl 13 (by decide) (hts _ (List.mem_of_getElem? (i := 2) rfl)) rfl dX12_feed_107 ?_
          refine lv_iconst (v := 1) hx hb dX12_feed_110 (by decide) ?_
          refine lv_iadd hx hb dX12_feed_111 ?_
          refine hk_topi (nI (i + 1)) ((nI_succ i).symm) ?_
          refine hk_put (ci := 15) (C := RX12) (T := TX12) (N := 92) (ty := .int) (v := .int (nI (i + 1))) hx hb hts iX12 tyX12 tyX12_ok nmX12 hown hw 0 rfl rfl 13 (by decide) (hts _ (List.mem_of_getElem? (i := 2) rfl)) rfl (by decide +kernel) rfl rfl (Nat.le_of_ble_eq_true rfl) dX12_feed_112 (ws' := mw cI cJ ad (upd (upd (mf_g fm) 1 0) 12 (nI (i + 1))) mf_l (va_up ar 0 (upd jj_2 ((nI i)).toNatClampNeg (((a2 : Int32) >>> (((24 - (8 * ((nI i) - (nI i) / 4 * 4))) : Int32) &&& 31)) &&& 255))) bk) rfl (fun H locs hw => ?_)
          refine lv_iinc (v := (nI (i + 1))) (lv' := [(6, .int (nI (i + 1))), (7, .int a2), (0, .ref (ad 0)), (1, .int a1), (2, .int a2), (3, .int a3), (4, .int a4), (5, .int a5)]) hx hb dX12_feed_115 hl (k := 1) rfl ((nI_succ i).symm) (by decide) rfl (fun ls hl => ?_)
          refine lv_goto (tgt := 24) hx hb dX12_feed_118 (by decide) ?_
          exact ih (i + 1) (upd jj_2 ((nI i)).toNatClampNeg (((a2 : Int32) >>> (((24 - (8 * ((nI i) - (nI i) / 4 * 4))) : Int32) &&& 31)) &&& 255)) ls _ _ (by omega)  hw (lv_sub hl [0, 2, 3, 4, 5, 6, 7] rfl)
      · refine lv_iload_n hx hb dX12_feed_37 rfl (lv_at hl 2 rfl) ?_
        refine lv_goto (tgt := 77) hx hb dX12_feed_38 (by decide) ?_
        refine lv_istore (lv' := [(7, .int a1), (6, .int (nI i)), (0, .ref (ad 0)), (1, .int a1), (2, .int a2), (3, .int a3), (4, .int a4), (5, .int a5)]) hx hb dX12_feed_77 hl (by decide) rfl (fun ls hl => ?_)
        refine lv_aload_n hx hb dX12_feed_79 rfl (lv_at hl 2 rfl) ?_
        refine hk_get (ci := 15) (C := RX12) (T := TX12) (N := 92) (v := .ref (ad 1)) hx hb hts iX12 hown hw 0 rfl rfl 12 (by decide) (hts _ (List.mem_of_getElem? (i := 3) rfl)) rfl dX12_feed_80 ?_
        refine lv_aload_n hx hb dX12_feed_83 rfl (lv_at hl 2 rfl) ?_
        refine hk_get (ci := 15) (C := RX12) (T := TX12) (N := 92) (v := .int (nI i)) hx hb hts iX12 hown hw 0 rfl rfl 13 (by decide) (hts _ (List.mem_of_getElem? (i := 2) rfl)) rfl dX12_feed_84 ?_
        refine lv_iload hx hb dX12_feed_87 (lv_at hl 0 rfl) ?_
        refine lv_bipush (v := 24) hx hb dX12_feed_89 (by decide) ?_
        refine lv_bipush (v := 8) hx hb dX12_feed_91 (by decide) ?_
        refine lv_iload hx hb dX12_feed_93 (lv_at hl 1 rfl) ?_
        refine lv_iconst (v := 4) hx hb dX12_feed_95 (by decide) ?_
        refine lv_irem hx hb dX12_feed_96 (by decide) ?_
        refine lv_imul hx hb dX12_feed_97 ?_
        refine lv_isub hx hb dX12_feed_98 ?_
        refine lv_ishr hx hb dX12_feed_99 ?_
        refine lv_sipush (v := 255) hx hb dX12_feed_100 (by decide) ?_
        refine lv_iand hx hb dX12_feed_103 ?_
        refine hk_iast hx hb hw 1 0 rfl rfl (vp_in_nI (by omega) (by omega)) dX12_feed_104 (ws' := mw cI cJ ad (upd (upd (mf_g fm) 1 0) 12 (nI i)) mf_l (va_up ar 0 (upd jj_2 ((nI i)).toNatClampNeg (((a1 : Int32) >>> (((24 - (8 * ((nI i) - (nI i) / 4 * 4))) : Int32) &&& 31)) &&& 255))) bk) rfl (fun H locs hw => ?_)
        refine lv_aload_n hx hb dX12_feed_105 rfl (lv_at hl 2 rfl) ?_
        refine lv_dup hx hb dX12_feed_106 rfl ?_
        refine hk_get (ci := 15) (C := RX12) (T := TX12) (N := 92) (v := .int (nI i)) hx hb hts iX12 hown hw 0 rfl rfl 13 (by decide) (hts _ (List.mem_of_getElem? (i := 2) rfl)) rfl dX12_feed_107 ?_
        refine lv_iconst (v := 1) hx hb dX12_feed_110 (by decide) ?_
        refine lv_iadd hx hb dX12_feed_111 ?_
        refine hk_topi (nI (i + 1)) ((nI_succ i).symm) ?_
        refine hk_put (ci := 15) (C := RX12) (T := TX12) (N := 92) (ty := .int) (v := .int (nI (i + 1))) hx hb hts iX12 tyX12 tyX12_ok nmX12 hown hw 0 rfl rfl 13 (by decide) (hts _ (List.mem_of_getElem? (i := 2) rfl)) rfl (by decide +kernel) rfl rfl (Nat.le_of_ble_eq_true rfl) dX12_feed_112 (ws' := mw cI cJ ad (upd (upd (mf_g fm) 1 0) 12 (nI (i + 1))) mf_l (va_up ar 0 (upd jj_2 ((nI i)).toNatClampNeg (((a1 : Int32) >>> (((24 - (8 * ((nI i) - (nI i) / 4 * 4))) : Int32) &&& 31)) &&& 255))) bk) rfl (fun H locs hw => ?_)
        refine lv_iinc (v := (nI (i + 1))) (lv' := [(6, .int (nI (i + 1))), (7, .int a1), (0, .ref (ad 0)), (1, .int a1), (2, .int a2), (3, .int a3), (4, .int a4), (5, .int a5)]) hx hb dX12_feed_115 hl (k := 1) rfl ((nI_succ i).symm) (by decide) rfl (fun ls hl => ?_)
        refine lv_goto (tgt := 24) hx hb dX12_feed_118 (by decide) ?_
        exact ih (i + 1) (upd jj_2 ((nI i)).toNatClampNeg (((a1 : Int32) >>> (((24 - (8 * ((nI i) - (nI i) / 4 * 4))) : Int32) &&& 31)) &&& 255)) ls _ _ (by omega)  hw (lv_sub hl [0, 2, 3, 4, 5, 6, 7] rfl)
  exact loop_3 (20 - 0) 0 (ar 0) ls _ _ (by omega)  hw (lv_sub hl [0, 1, 2, 3, 4, 5, 6] rfl)
