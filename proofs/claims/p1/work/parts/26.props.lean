def hk_qf (fm wt v : Int32) : Int32 := if wt.toInt = 0 then (if 0 ≤ v.toInt ∧ v.toInt ≤ 4 then 1 else 0) else if wt.toInt = 1 then (if 0 ≤ v.toInt ∧ v.toInt ≤ 1 then 1 else 0) else if wt.toInt = 2 then (if 0 ≤ v.toInt ∧ v.toInt ≤ 4 then 1 else 0) else if wt.toInt = 3 then (if fm.toInt = 2 then (if v.toInt = 4096 then 1 else 0) else (if 1 ≤ v.toInt ∧ v.toInt ≤ 4096 then 1 else 0)) else if wt.toInt = 4 then (if 1 ≤ v.toInt ∧ v.toInt ≤ 1500 then 1 else 0) else if wt.toInt = 5 then (if 1 ≤ v.toInt ∧ v.toInt ≤ 1500 then 1 else 0) else if wt.toInt = 6 then (if v.toInt = 0 ∨ v.toInt = 1 ∨ v.toInt = 4 ∨ v.toInt = 10 then 1 else 0) else if wt.toInt = 7 then (if v.toInt = 0 ∨ v.toInt = 1 then 1 else 0) else 0
theorem hk_a3 (v : Int32) : 0 ≤ v.toInt → v.toInt ≤ 4 → (v + 3).toInt = v.toInt + 3 := by
  intro h1 h2
  rw [Int32.toInt_add]
  simp only [hk_t3, Int.bmod]
  split <;> omega
theorem hk_negle {v : Int32} (h1 : 1 ≤ v.toInt) (h2 : v.toInt ≤ 256) : (0 : Int32) - v ≤ 0 := by
  rw [Int32.le_iff_toInt_le, Int32.toInt_sub]
  simp only [hk_t0, Int.bmod]
  split <;> omega
def ww_cx_setCoding : List Cond := Cond.code yX10_setCoding cX10_setCoding 4 (some .boolean) :: ([Cond.fieldLink RX10 21 "LzmaChains$Settings" "dictionary" "I", Cond.fieldLink RX10 18 "LzmaChains$Settings" "pb" "I", Cond.fieldLink RX10 9 "LzmaChains$Settings" "lc" "I", Cond.fieldLink RX10 15 "LzmaChains$Settings" "lp" "I"] ++ (wsX100 ++ ([])))
set_option maxHeartbeats 4000000 in
set_option maxRecDepth 100000 in
/-- Settings.setCoding, lc 3 and lp 0 -/
theorem cx_setCoding (l : Launch) (D : va_G) (cI cJ : ClassId) (ad : Nat → Nat) (g : Nat → Int32) (lg : Nat → Int64) (ar : Nat → Nat → Int32) (bk : Nat → Int64) (sz : Nat) (wt v bx : Int32) (h3 : g 3 = 3) (h4 : g 4 = 0) : Met l yX10_setCoding ww_cx_setCoding { frames := 0, cells := 0, slots := 0, locals := 0 } (va_Pc [.ref (ad 1), .int wt, .int v, .int bx] (hk_B D [(cI, .int), (cJ, .long)] sz (xw cI cJ ad g lg ar bk))) (va_Qi (fun (r : Int32) (u : Nat → Int32) => (r.toInt = 1 ∧ (wt.toInt = 0 ∧ 0 ≤ v.toInt ∧ v.toInt ≤ 4 ∨ wt.toInt = 1 ∧ 0 ≤ v.toInt ∧ v.toInt ≤ 1 ∨ wt.toInt = 2 ∧ 0 ≤ v.toInt ∧ v.toInt ≤ 4 ∨ wt.toInt = 3 ∧ (bx.toInt ≠ 0 ∧ v.toInt = 4096 ∨ bx.toInt = 0 ∧ 1 ≤ v.toInt ∧ v.toInt ≤ 4096))) ∨ (r.toInt = 0 ∧ ¬ (wt.toInt = 0 ∧ 0 ≤ v.toInt ∧ v.toInt ≤ 4 ∨ wt.toInt = 1 ∧ 0 ≤ v.toInt ∧ v.toInt ≤ 1 ∨ wt.toInt = 2 ∧ 0 ≤ v.toInt ∧ v.toInt ≤ 4 ∨ wt.toInt = 3 ∧ (bx.toInt ≠ 0 ∧ v.toInt = 4096 ∨ bx.toInt = 0 ∧ 1 ≤ v.toInt ∧ v.toInt ≤ 4096)))) (fun u : Nat → Int32 => hk_E D [(cI, .int), (cJ, .long)] (va_A (xw cI cJ ad g lg ar bk) sz) (xw cI cJ ad u lg ar bk)) (va_A (xw cI cJ ad g lg ar bk) sz)) 0 0 (va_A (xw cI cJ ad g lg ar bk) sz) := by
  refine hk_met (cc := cX10_setCoding) (maxL := 4) (ret := (some .boolean)) (by decide) rfl (Nat.le_of_ble_eq_true rfl) ?_
  intro p e s m below meth c ls hx hb hr hml hown hts hlocks hin hA hw hl
  have iX10 : ∀ w ∈ wsX100, w ∈ ww_cx_setCoding := fun _ h => List.mem_cons_of_mem _ (List.mem_append_right _ (List.mem_append_left _ h))
  have hl : lv_has ls 4 [(0, .ref (ad 1)), (1, .int wt), (2, .int v), (3, .int bx)] := hl
  refine lv_iload_n hx hb dX10_setCoding_0 rfl (lv_at hl 1 rfl) ?_
  refine lv_if_ne (tgt := 25) hx hb dX10_setCoding_1 (by decide) (fun cc_1 => ?_) (fun cc_1 => ?_)
  · refine lv_iload_n hx hb dX10_setCoding_25 rfl (lv_at hl 1 rfl) ?_
    refine lv_iconst (v := 1) hx hb dX10_setCoding_26 (by decide) ?_
    refine lv_icmp_ne (tgt := 51) hx hb dX10_setCoding_27 (by decide) (fun cc_2 => ?_) (fun cc_2 => ?_)
    · refine lv_iload_n hx hb dX10_setCoding_51 rfl (lv_at hl 1 rfl) ?_
      refine lv_iconst (v := 2) hx hb dX10_setCoding_52 (by decide) ?_
      refine lv_icmp_ne (tgt := 72) hx hb dX10_setCoding_53 (by decide) (fun cc_3 => ?_) (fun cc_3 => ?_)
      · refine lv_iload_n hx hb dX10_setCoding_72 rfl (lv_at hl 1 rfl) ?_
        refine lv_iconst (v := 3) hx hb dX10_setCoding_73 (by decide) ?_
        refine lv_icmp_ne (tgt := 106) hx hb dX10_setCoding_74 (by decide) (fun cc_4 => ?_) (fun cc_4 => ?_)
        · refine lv_iconst (v := 0) hx hb dX10_setCoding_106 (by decide) ?_
          exact hk_zret (u := g) hx hb hr rfl hlocks (hw) (by simp only [Int32.lt_iff_toInt_lt, Int32.le_iff_toInt_le, ← Int32.toInt_inj, hk_t0, hk_t1, hk_t2, hk_t3, hk_t4, hk_t5, hk_t6, hk_t7, hk_t8, hk_t9, hk_t10, hk_t11, hk_t12, hk_t13, hk_t14, hk_t15, hk_t16, hk_t17, hk_t18, hk_t20, hk_t32, hk_tm1, hk_t256, hk_t1500, hk_t4096, hk_t2000, hk_t3000, hk_t512, hk_t1024, true_and, and_true, false_and, and_false, true_or, or_true, false_or, or_false, not_true_eq_false, not_false_eq_true] at cc_1 cc_2 cc_3 cc_4 ⊢; omega) dX10_setCoding_107
        · refine lv_iload_n hx hb dX10_setCoding_77 rfl (lv_at hl 2 rfl) ?_
          refine lv_iload_n hx hb dX10_setCoding_78 rfl (lv_at hl 3 rfl) ?_
          refine lv_if_eq (tgt := 88) hx hb dX10_setCoding_79 (by decide) (fun cc_5 => ?_) (fun cc_5 => ?_)
          · refine lv_iconst (v := 1) hx hb dX10_setCoding_88 (by decide) ?_
            refine lv_icmp_lt (tgt := 106) hx hb dX10_setCoding_89 (by decide) (fun cc_6 => ?_) (fun cc_6 => ?_)
            · refine lv_iconst (v := 0) hx hb dX10_setCoding_106 (by decide) ?_
              exact hk_zret (u := g) hx hb hr rfl hlocks (hw) (by simp only [Int32.lt_iff_toInt_lt, Int32.le_iff_toInt_le, ← Int32.toInt_inj, hk_t0, hk_t1, hk_t2, hk_t3, hk_t4, hk_t5, hk_t6, hk_t7, hk_t8, hk_t9, hk_t10, hk_t11, hk_t12, hk_t13, hk_t14, hk_t15, hk_t16, hk_t17, hk_t18, hk_t20, hk_t32, hk_tm1, hk_t256, hk_t1500, hk_t4096, hk_t2000, hk_t3000, hk_t512, hk_t1024, true_and, and_true, false_and, and_false, true_or, or_true, false_or, or_false, not_true_eq_false, not_false_eq_true] at cc_1 cc_2 cc_3 cc_4 cc_5 cc_6 ⊢; omega) dX10_setCoding_107
            · refine lv_iload_n hx hb dX10_setCoding_92 rfl (lv_at hl 2 rfl) ?_
              refine lv_sipush (v := 4096) hx hb dX10_setCoding_93 (by decide) ?_
              refine lv_icmp_gt (tgt := 106) hx hb dX10_setCoding_96 (by decide) (fun cc_7 => ?_) (fun cc_7 => ?_)
              · refine lv_iconst (v := 0) hx hb dX10_setCoding_106 (by decide) ?_
                exact hk_zret (u := g) hx hb hr rfl hlocks (hw) (by simp only [Int32.lt_iff_toInt_lt, Int32.le_iff_toInt_le, ← Int32.toInt_inj, hk_t0, hk_t1, hk_t2, hk_t3, hk_t4, hk_t5, hk_t6, hk_t7, hk_t8, hk_t9, hk_t10, hk_t11, hk_t12, hk_t13, hk_t14, hk_t15, hk_t16, hk_t17, hk_t18, hk_t20, hk_t32, hk_tm1, hk_t256, hk_t1500, hk_t4096, hk_t2000, hk_t3000, hk_t512, hk_t1024, true_and, and_true, false_and, and_false, true_or, or_true, false_or, or_false, not_true_eq_false, not_false_eq_true] at cc_1 cc_2 cc_3 cc_4 cc_5 cc_6 cc_7 ⊢; omega) dX10_setCoding_107
              · refine lv_aload_n hx hb dX10_setCoding_99 rfl (lv_at hl 0 rfl) ?_
                refine lv_iload_n hx hb dX10_setCoding_100 rfl (lv_at hl 2 rfl) ?_
                refine hk_put (ci := 13) (C := RX10) (T := TX10) (N := 10) (ty := .int) (v := .int v) hx hb hts iX10 tyX10 tyX10_ok nmX10 hown hw 1 rfl rfl 3 (by decide) (hts _ (List.mem_of_getElem? (i := 1) rfl)) rfl (by decide +kernel) rfl rfl (Nat.le_of_ble_eq_true rfl) dX10_setCoding_101 (ws' := xw cI cJ ad (upd g 6 v) lg ar bk) rfl (fun H locs hw => ?_)
                refine lv_iconst (v := 1) hx hb dX10_setCoding_104 (by decide) ?_
                exact hk_zret (u := (upd g 6 v)) hx hb hr rfl hlocks (hw) (by simp only [Int32.lt_iff_toInt_lt, Int32.le_iff_toInt_le, ← Int32.toInt_inj, hk_t0, hk_t1, hk_t2, hk_t3, hk_t4, hk_t5, hk_t6, hk_t7, hk_t8, hk_t9, hk_t10, hk_t11, hk_t12, hk_t13, hk_t14, hk_t15, hk_t16, hk_t17, hk_t18, hk_t20, hk_t32, hk_tm1, hk_t256, hk_t1500, hk_t4096, hk_t2000, hk_t3000, hk_t512, hk_t1024, true_and, and_true, false_and, and_false, true_or, or_true, false_or, or_false, not_true_eq_false, not_false_eq_true] at cc_1 cc_2 cc_3 cc_4 cc_5 cc_6 cc_7 ⊢; omega) dX10_setCoding_105
          · refine lv_sipush (v := 4096) hx hb dX10_setCoding_82 (by decide) ?_
            refine lv_goto (tgt := 89) hx hb dX10_setCoding_85 (by decide) ?_
            refine lv_icmp_lt (tgt := 106) hx hb dX10_setCoding_89 (by decide) (fun cc_8 => ?_) (fun cc_8 => ?_)
            · refine lv_iconst (v := 0) hx hb dX10_setCoding_106 (by decide) ?_
              exact hk_zret (u := g) hx hb hr rfl hlocks (hw) (by simp only [Int32.lt_iff_toInt_lt, Int32.le_iff_toInt_le, ← Int32.toInt_inj, hk_t0, hk_t1, hk_t2, hk_t3, hk_t4, hk_t5, hk_t6, hk_t7, hk_t8, hk_t9, hk_t10, hk_t11, hk_t12, hk_t13, hk_t14, hk_t15, hk_t16, hk_t17, hk_t18, hk_t20, hk_t32, hk_tm1, hk_t256, hk_t1500, hk_t4096, hk_t2000, hk_t3000, hk_t512, hk_t1024, true_and, and_true, false_and, and_false, true_or, or_true, false_or, or_false, not_true_eq_false, not_false_eq_true] at cc_1 cc_2 cc_3 cc_4 cc_5 cc_8 ⊢; omega) dX10_setCoding_107
            · refine lv_iload_n hx hb dX10_setCoding_92 rfl (lv_at hl 2 rfl) ?_
              refine lv_sipush (v := 4096) hx hb dX10_setCoding_93 (by decide) ?_
              refine lv_icmp_gt (tgt := 106) hx hb dX10_setCoding_96 (by decide) (fun cc_9 => ?_) (fun cc_9 => ?_)
              · refine lv_iconst (v := 0) hx hb dX10_setCoding_106 (by decide) ?_
                exact hk_zret (u := g) hx hb hr rfl hlocks (hw) (by simp only [Int32.lt_iff_toInt_lt, Int32.le_iff_toInt_le, ← Int32.toInt_inj, hk_t0, hk_t1, hk_t2, hk_t3, hk_t4, hk_t5, hk_t6, hk_t7, hk_t8, hk_t9, hk_t10, hk_t11, hk_t12, hk_t13, hk_t14, hk_t15, hk_t16, hk_t17, hk_t18, hk_t20, hk_t32, hk_tm1, hk_t256, hk_t1500, hk_t4096, hk_t2000, hk_t3000, hk_t512, hk_t1024, true_and, and_true, false_and, and_false, true_or, or_true, false_or, or_false, not_true_eq_false, not_false_eq_true] at cc_1 cc_2 cc_3 cc_4 cc_5 cc_8 cc_9 ⊢; omega) dX10_setCoding_107
              · refine lv_aload_n hx hb dX10_setCoding_99 rfl (lv_at hl 0 rfl) ?_
                refine lv_iload_n hx hb dX10_setCoding_100 rfl (lv_at hl 2 rfl) ?_
                refine hk_put (ci := 13) (C := RX10) (T := TX10) (N := 10) (ty := .int) (v := .int v) hx hb hts iX10 tyX10 tyX10_ok nmX10 hown hw 1 rfl rfl 3 (by decide) (hts _ (List.mem_of_getElem? (i := 1) rfl)) rfl (by decide +kernel) rfl rfl (Nat.le_of_ble_eq_true rfl) dX10_setCoding_101 (ws' := xw cI cJ ad (upd g 6 v) lg ar bk) rfl (fun H locs hw => ?_)
                refine lv_iconst (v := 1) hx hb dX10_setCoding_104 (by decide) ?_
                exact hk_zret (u := (upd g 6 v)) hx hb hr rfl hlocks (hw) (by simp only [Int32.lt_iff_toInt_lt, Int32.le_iff_toInt_le, ← Int32.toInt_inj, hk_t0, hk_t1, hk_t2, hk_t3, hk_t4, hk_t5, hk_t6, hk_t7, hk_t8, hk_t9, hk_t10, hk_t11, hk_t12, hk_t13, hk_t14, hk_t15, hk_t16, hk_t17, hk_t18, hk_t20, hk_t32, hk_tm1, hk_t256, hk_t1500, hk_t4096, hk_t2000, hk_t3000, hk_t512, hk_t1024, true_and, and_true, false_and, and_false, true_or, or_true, false_or, or_false, not_true_eq_false, not_false_eq_true] at cc_1 cc_2 cc_3 cc_4 cc_5 cc_8 cc_9 ⊢; omega) dX10_setCoding_105
      · refine lv_iload_n hx hb dX10_setCoding_56 rfl (lv_at hl 2 rfl) ?_
        refine lv_if_lt (tgt := 72) hx hb dX10_setCoding_57 (by decide) (fun cc_10 => ?_) (fun cc_10 => ?_)
        · refine lv_iload_n hx hb dX10_setCoding_72 rfl (lv_at hl 1 rfl) ?_
          refine lv_iconst (v := 3) hx hb dX10_setCoding_73 (by decide) ?_
          refine lv_icmp_ne (tgt := 106) hx hb dX10_setCoding_74 (by decide) (fun cc_11 => ?_) (fun cc_11 => ?_)
          · refine lv_iconst (v := 0) hx hb dX10_setCoding_106 (by decide) ?_
            exact hk_zret (u := g) hx hb hr rfl hlocks (hw) (by simp only [Int32.lt_iff_toInt_lt, Int32.le_iff_toInt_le, ← Int32.toInt_inj, hk_t0, hk_t1, hk_t2, hk_t3, hk_t4, hk_t5, hk_t6, hk_t7, hk_t8, hk_t9, hk_t10, hk_t11, hk_t12, hk_t13, hk_t14, hk_t15, hk_t16, hk_t17, hk_t18, hk_t20, hk_t32, hk_tm1, hk_t256, hk_t1500, hk_t4096, hk_t2000, hk_t3000, hk_t512, hk_t1024, true_and, and_true, false_and, and_false, true_or, or_true, false_or, or_false, not_true_eq_false, not_false_eq_true] at cc_1 cc_2 cc_3 cc_10 cc_11 ⊢; omega) dX10_setCoding_107
          · refine lv_iload_n hx hb dX10_setCoding_77 rfl (lv_at hl 2 rfl) ?_
            refine lv_iload_n hx hb dX10_setCoding_78 rfl (lv_at hl 3 rfl) ?_
            refine lv_if_eq (tgt := 88) hx hb dX10_setCoding_79 (by decide) (fun cc_12 => ?_) (fun cc_12 => ?_)
            · refine lv_iconst (v := 1) hx hb dX10_setCoding_88 (by decide) ?_
              refine lv_icmp_lt (tgt := 106) hx hb dX10_setCoding_89 (by decide) (fun cc_13 => ?_) (fun cc_13 => ?_)
              · refine lv_iconst (v := 0) hx hb dX10_setCoding_106 (by decide) ?_
                exact hk_zret (u := g) hx hb hr rfl hlocks (hw) (by simp only [Int32.lt_iff_toInt_lt, Int32.le_iff_toInt_le, ← Int32.toInt_inj, hk_t0, hk_t1, hk_t2, hk_t3, hk_t4, hk_t5, hk_t6, hk_t7, hk_t8, hk_t9, hk_t10, hk_t11, hk_t12, hk_t13, hk_t14, hk_t15, hk_t16, hk_t17, hk_t18, hk_t20, hk_t32, hk_tm1, hk_t256, hk_t1500, hk_t4096, hk_t2000, hk_t3000, hk_t512, hk_t1024, true_and, and_true, false_and, and_false, true_or, or_true, false_or, or_false, not_true_eq_false, not_false_eq_true] at cc_1 cc_2 cc_3 cc_10 cc_11 cc_12 cc_13 ⊢; omega) dX10_setCoding_107
              · refine lv_iload_n hx hb dX10_setCoding_92 rfl (lv_at hl 2 rfl) ?_
                refine lv_sipush (v := 4096) hx hb dX10_setCoding_93 (by decide) ?_
                refine lv_icmp_gt (tgt := 106) hx hb dX10_setCoding_96 (by decide) (fun cc_14 => ?_) (fun cc_14 => ?_)
                · refine lv_iconst (v := 0) hx hb dX10_setCoding_106 (by decide) ?_
                  exact hk_zret (u := g) hx hb hr rfl hlocks (hw) (by simp only [Int32.lt_iff_toInt_lt, Int32.le_iff_toInt_le, ← Int32.toInt_inj, hk_t0, hk_t1, hk_t2, hk_t3, hk_t4, hk_t5, hk_t6, hk_t7, hk_t8, hk_t9, hk_t10, hk_t11, hk_t12, hk_t13, hk_t14, hk_t15, hk_t16, hk_t17, hk_t18, hk_t20, hk_t32, hk_tm1, hk_t256, hk_t1500, hk_t4096, hk_t2000, hk_t3000, hk_t512, hk_t1024, true_and, and_true, false_and, and_false, true_or, or_true, false_or, or_false, not_true_eq_false, not_false_eq_true] at cc_1 cc_2 cc_3 cc_10 cc_11 cc_12 cc_13 cc_14 ⊢; omega) dX10_setCoding_107
                · refine lv_aload_n hx hb dX10_setCoding_99 rfl (lv_at hl 0 rfl) ?_
                  refine lv_iload_n hx hb dX10_setCoding_100 rfl (lv_at hl 2 rfl) ?_
                  refine hk_put (ci := 13) (C := RX10) (T := TX10) (N := 10) (ty := .int) (v := .int v) hx hb hts iX10 tyX10 tyX10_ok nmX10 hown hw 1 rfl rfl 3 (by decide) (hts _ (List.mem_of_getElem? (i := 1) rfl)) rfl (by decide +kernel) rfl rfl (Nat.le_of_ble_eq_true rfl) dX10_setCoding_101 (ws' := xw cI cJ ad (upd g 6 v) lg ar bk) rfl (fun H locs hw => ?_)
                  refine lv_iconst (v := 1) hx hb dX10_setCoding_104 (by decide) ?_
                  exact hk_zret (u := (upd g 6 v)) hx hb hr rfl hlocks (hw) (by simp only [Int32.lt_iff_toInt_lt, Int32.le_iff_toInt_le, ← Int32.toInt_inj, hk_t0, hk_t1, hk_t2, hk_t3, hk_t4, hk_t5, hk_t6, hk_t7, hk_t8, hk_t9, hk_t10, hk_t11, hk_t12, hk_t13, hk_t14, hk_t15, hk_t16, hk_t17, hk_t18, hk_t20, hk_t32, hk_tm1, hk_t256, hk_t1500, hk_t4096, hk_t2000, hk_t3000, hk_t512, hk_t1024, true_and, and_true, false_and, and_false, true_or, or_true, false_or, or_false, not_true_eq_false, not_false_eq_true] at cc_1 cc_2 cc_3 cc_10 cc_11 cc_12 cc_13 cc_14 ⊢; omega) dX10_setCoding_105
            · refine lv_sipush (v := 4096) hx hb dX10_setCoding_82 (by decide) ?_
              refine lv_goto (tgt := 89) hx hb dX10_setCoding_85 (by decide) ?_
              refine lv_icmp_lt (tgt := 106) hx hb dX10_setCoding_89 (by decide) (fun cc_15 => ?_) (fun cc_15 => ?_)
              · refine lv_iconst (v := 0) hx hb dX10_setCoding_106 (by decide) ?_
                exact hk_zret (u := g) hx hb hr rfl hlocks (hw) (by simp only [Int32.lt_iff_toInt_lt, Int32.le_iff_toInt_le, ← Int32.toInt_inj, hk_t0, hk_t1, hk_t2, hk_t3, hk_t4, hk_t5, hk_t6, hk_t7, hk_t8, hk_t9, hk_t10, hk_t11, hk_t12, hk_t13, hk_t14, hk_t15, hk_t16, hk_t17, hk_t18, hk_t20, hk_t32, hk_tm1, hk_t256, hk_t1500, hk_t4096, hk_t2000, hk_t3000, hk_t512, hk_t1024, true_and, and_true, false_and, and_false, true_or, or_true, false_or, or_false, not_true_eq_false, not_false_eq_true] at cc_1 cc_2 cc_3 cc_10 cc_11 cc_12 cc_15 ⊢; omega) dX10_setCoding_107
              · refine lv_iload_n hx hb dX10_setCoding_92 rfl (lv_at hl 2 rfl) ?_
                refine lv_sipush (v := 4096) hx hb dX10_setCoding_93 (by decide) ?_
                refine lv_icmp_gt (tgt := 106) hx hb dX10_setCoding_96 (by decide) (fun cc_16 => ?_) (fun cc_16 => ?_)
                · refine lv_iconst (v := 0) hx hb dX10_setCoding_106 (by decide) ?_
                  exact hk_zret (u := g) hx hb hr rfl hlocks (hw) (by simp only [Int32.lt_iff_toInt_lt, Int32.le_iff_toInt_le, ← Int32.toInt_inj, hk_t0, hk_t1, hk_t2, hk_t3, hk_t4, hk_t5, hk_t6, hk_t7, hk_t8, hk_t9, hk_t10, hk_t11, hk_t12, hk_t13, hk_t14, hk_t15, hk_t16, hk_t17, hk_t18, hk_t20, hk_t32, hk_tm1, hk_t256, hk_t1500, hk_t4096, hk_t2000, hk_t3000, hk_t512, hk_t1024, true_and, and_true, false_and, and_false, true_or, or_true, false_or, or_false, not_true_eq_false, not_false_eq_true] at cc_1 cc_2 cc_3 cc_10 cc_11 cc_12 cc_15 cc_16 ⊢; omega) dX10_setCoding_107
                · refine lv_aload_n hx hb dX10_setCoding_99 rfl (lv_at hl 0 rfl) ?_
                  refine lv_iload_n hx hb dX10_setCoding_100 rfl (lv_at hl 2 rfl) ?_
                  refine hk_put (ci := 13) (C := RX10) (T := TX10) (N := 10) (ty := .int) (v := .int v) hx hb hts iX10 tyX10 tyX10_ok nmX10 hown hw 1 rfl rfl 3 (by decide) (hts _ (List.mem_of_getElem? (i := 1) rfl)) rfl (by decide +kernel) rfl rfl (Nat.le_of_ble_eq_true rfl) dX10_setCoding_101 (ws' := xw cI cJ ad (upd g 6 v) lg ar bk) rfl (fun H locs hw => ?_)
                  refine lv_iconst (v := 1) hx hb dX10_setCoding_104 (by decide) ?_
                  exact hk_zret (u := (upd g 6 v)) hx hb hr rfl hlocks (hw) (by simp only [Int32.lt_iff_toInt_lt, Int32.le_iff_toInt_le, ← Int32.toInt_inj, hk_t0, hk_t1, hk_t2, hk_t3, hk_t4, hk_t5, hk_t6, hk_t7, hk_t8, hk_t9, hk_t10, hk_t11, hk_t12, hk_t13, hk_t14, hk_t15, hk_t16, hk_t17, hk_t18, hk_t20, hk_t32, hk_tm1, hk_t256, hk_t1500, hk_t4096, hk_t2000, hk_t3000, hk_t512, hk_t1024, true_and, and_true, false_and, and_false, true_or, or_true, false_or, or_false, not_true_eq_false, not_false_eq_true] at cc_1 cc_2 cc_3 cc_10 cc_11 cc_12 cc_15 cc_16 ⊢; omega) dX10_setCoding_105
        · refine lv_iload_n hx hb dX10_setCoding_60 rfl (lv_at hl 2 rfl) ?_
          refine lv_iconst (v := 4) hx hb dX10_setCoding_61 (by decide) ?_
          refine lv_icmp_gt (tgt := 72) hx hb dX10_setCoding_62 (by decide) (fun cc_17 => ?_) (fun cc_17 => ?_)
          · refine lv_iload_n hx hb dX10_setCoding_72 rfl (lv_at hl 1 rfl) ?_
            refine lv_iconst (v := 3) hx hb dX10_setCoding_73 (by decide) ?_
            refine lv_icmp_ne (tgt := 106) hx hb dX10_setCoding_74 (by decide) (fun cc_18 => ?_) (fun cc_18 => ?_)
            · refine lv_iconst (v := 0) hx hb dX10_setCoding_106 (by decide) ?_
              exact hk_zret (u := g) hx hb hr rfl hlocks (hw) (by simp only [Int32.lt_iff_toInt_lt, Int32.le_iff_toInt_le, ← Int32.toInt_inj, hk_t0, hk_t1, hk_t2, hk_t3, hk_t4, hk_t5, hk_t6, hk_t7, hk_t8, hk_t9, hk_t10, hk_t11, hk_t12, hk_t13, hk_t14, hk_t15, hk_t16, hk_t17, hk_t18, hk_t20, hk_t32, hk_tm1, hk_t256, hk_t1500, hk_t4096, hk_t2000, hk_t3000, hk_t512, hk_t1024, true_and, and_true, false_and, and_false, true_or, or_true, false_or, or_false, not_true_eq_false, not_false_eq_true] at cc_1 cc_2 cc_3 cc_10 cc_17 cc_18 ⊢; omega) dX10_setCoding_107
            · refine lv_iload_n hx hb dX10_setCoding_77 rfl (lv_at hl 2 rfl) ?_
              refine lv_iload_n hx hb dX10_setCoding_78 rfl (lv_at hl 3 rfl) ?_
              refine lv_if_eq (tgt := 88) hx hb dX10_setCoding_79 (by decide) (fun cc_19 => ?_) (fun cc_19 => ?_)
              · refine lv_iconst (v := 1) hx hb dX10_setCoding_88 (by decide) ?_
                refine lv_icmp_lt (tgt := 106) hx hb dX10_setCoding_89 (by decide) (fun cc_20 => ?_) (fun cc_20 => ?_)
                · refine lv_iconst (v := 0) hx hb dX10_setCoding_106 (by decide) ?_
                  exact hk_zret (u := g) hx hb hr rfl hlocks (hw) (by simp only [Int32.lt_iff_toInt_lt, Int32.le_iff_toInt_le, ← Int32.toInt_inj, hk_t0, hk_t1, hk_t2, hk_t3, hk_t4, hk_t5, hk_t6, hk_t7, hk_t8, hk_t9, hk_t10, hk_t11, hk_t12, hk_t13, hk_t14, hk_t15, hk_t16, hk_t17, hk_t18, hk_t20, hk_t32, hk_tm1, hk_t256, hk_t1500, hk_t4096, hk_t2000, hk_t3000, hk_t512, hk_t1024, true_and, and_true, false_and, and_false, true_or, or_true, false_or, or_false, not_true_eq_false, not_false_eq_true] at cc_1 cc_2 cc_3 cc_10 cc_17 cc_18 cc_19 cc_20 ⊢; omega) dX10_setCoding_107
                · refine lv_iload_n hx hb dX10_setCoding_92 rfl (lv_at hl 2 rfl) ?_
                  refine lv_sipush (v := 4096) hx hb dX10_setCoding_93 (by decide) ?_
                  refine lv_icmp_gt (tgt := 106) hx hb dX10_setCoding_96 (by decide) (fun cc_21 => ?_) (fun cc_21 => ?_)
                  · refine lv_iconst (v := 0) hx hb dX10_setCoding_106 (by decide) ?_
                    exact hk_zret (u := g) hx hb hr rfl hlocks (hw) (by simp only [Int32.lt_iff_toInt_lt, Int32.le_iff_toInt_le, ← Int32.toInt_inj, hk_t0, hk_t1, hk_t2, hk_t3, hk_t4, hk_t5, hk_t6, hk_t7, hk_t8, hk_t9, hk_t10, hk_t11, hk_t12, hk_t13, hk_t14, hk_t15, hk_t16, hk_t17, hk_t18, hk_t20, hk_t32, hk_tm1, hk_t256, hk_t1500, hk_t4096, hk_t2000, hk_t3000, hk_t512, hk_t1024, true_and, and_true, false_and, and_false, true_or, or_true, false_or, or_false, not_true_eq_false, not_false_eq_true] at cc_1 cc_2 cc_3 cc_10 cc_17 cc_18 cc_19 cc_20 cc_21 ⊢; omega) dX10_setCoding_107
                  · refine lv_aload_n hx hb dX10_setCoding_99 rfl (lv_at hl 0 rfl) ?_
                    refine lv_iload_n hx hb dX10_setCoding_100 rfl (lv_at hl 2 rfl) ?_
                    refine hk_put (ci := 13) (C := RX10) (T := TX10) (N := 10) (ty := .int) (v := .int v) hx hb hts iX10 tyX10 tyX10_ok nmX10 hown hw 1 rfl rfl 3 (by decide) (hts _ (List.mem_of_getElem? (i := 1) rfl)) rfl (by decide +kernel) rfl rfl (Nat.le_of_ble_eq_true rfl) dX10_setCoding_101 (ws' := xw cI cJ ad (upd g 6 v) lg ar bk) rfl (fun H locs hw => ?_)
                    refine lv_iconst (v := 1) hx hb dX10_setCoding_104 (by decide) ?_
                    exact hk_zret (u := (upd g 6 v)) hx hb hr rfl hlocks (hw) (by simp only [Int32.lt_iff_toInt_lt, Int32.le_iff_toInt_le, ← Int32.toInt_inj, hk_t0, hk_t1, hk_t2, hk_t3, hk_t4, hk_t5, hk_t6, hk_t7, hk_t8, hk_t9, hk_t10, hk_t11, hk_t12, hk_t13, hk_t14, hk_t15, hk_t16, hk_t17, hk_t18, hk_t20, hk_t32, hk_tm1, hk_t256, hk_t1500, hk_t4096, hk_t2000, hk_t3000, hk_t512, hk_t1024, true_and, and_true, false_and, and_false, true_or, or_true, false_or, or_false, not_true_eq_false, not_false_eq_true] at cc_1 cc_2 cc_3 cc_10 cc_17 cc_18 cc_19 cc_20 cc_21 ⊢; omega) dX10_setCoding_105
              · refine lv_sipush (v := 4096) hx hb dX10_setCoding_82 (by decide) ?_
                refine lv_goto (tgt := 89) hx hb dX10_setCoding_85 (by decide) ?_
                refine lv_icmp_lt (tgt := 106) hx hb dX10_setCoding_89 (by decide) (fun cc_22 => ?_) (fun cc_22 => ?_)
                · refine lv_iconst (v := 0) hx hb dX10_setCoding_106 (by decide) ?_
                  exact hk_zret (u := g) hx hb hr rfl hlocks (hw) (by simp only [Int32.lt_iff_toInt_lt, Int32.le_iff_toInt_le, ← Int32.toInt_inj, hk_t0, hk_t1, hk_t2, hk_t3, hk_t4, hk_t5, hk_t6, hk_t7, hk_t8, hk_t9, hk_t10, hk_t11, hk_t12, hk_t13, hk_t14, hk_t15, hk_t16, hk_t17, hk_t18, hk_t20, hk_t32, hk_tm1, hk_t256, hk_t1500, hk_t4096, hk_t2000, hk_t3000, hk_t512, hk_t1024, true_and, and_true, false_and, and_false, true_or, or_true, false_or, or_false, not_true_eq_false, not_false_eq_true] at cc_1 cc_2 cc_3 cc_10 cc_17 cc_18 cc_19 cc_22 ⊢; omega) dX10_setCoding_107
                · refine lv_iload_n hx hb dX10_setCoding_92 rfl (lv_at hl 2 rfl) ?_
                  refine lv_sipush (v := 4096) hx hb dX10_setCoding_93 (by decide) ?_
                  refine lv_icmp_gt (tgt := 106) hx hb dX10_setCoding_96 (by decide) (fun cc_23 => ?_) (fun cc_23 => ?_)
                  · refine lv_iconst (v := 0) hx hb dX10_setCoding_106 (by decide) ?_
                    exact hk_zret (u := g) hx hb hr rfl hlocks (hw) (by simp only [Int32.lt_iff_toInt_lt, Int32.le_iff_toInt_le, ← Int32.toInt_inj, hk_t0, hk_t1, hk_t2, hk_t3, hk_t4, hk_t5, hk_t6, hk_t7, hk_t8, hk_t9, hk_t10, hk_t11, hk_t12, hk_t13, hk_t14, hk_t15, hk_t16, hk_t17, hk_t18, hk_t20, hk_t32, hk_tm1, hk_t256, hk_t1500, hk_t4096, hk_t2000, hk_t3000, hk_t512, hk_t1024, true_and, and_true, false_and, and_false, true_or, or_true, false_or, or_false, not_true_eq_false, not_false_eq_true] at cc_1 cc_2 cc_3 cc_10 cc_17 cc_18 cc_19 cc_22 cc_23 ⊢; omega) dX10_setCoding_107
                  · refine lv_aload_n hx hb dX10_setCoding_99 rfl (lv_at hl 0 rfl) ?_
                    refine lv_iload_n hx hb dX10_setCoding_100 rfl (lv_at hl 2 rfl) ?_
                    refine hk_put (ci := 13) (C := RX10) (T := TX10) (N := 10) (ty := .int) (v := .int v) hx hb hts iX10 tyX10 tyX10_ok nmX10 hown hw 1 rfl rfl 3 (by decide) (hts _ (List.mem_of_getElem? (i := 1) rfl)) rfl (by decide +kernel) rfl rfl (Nat.le_of_ble_eq_true rfl) dX10_setCoding_101 (ws' := xw cI cJ ad (upd g 6 v) lg ar bk) rfl (fun H locs hw => ?_)
                    refine lv_iconst (v := 1) hx hb dX10_setCoding_104 (by decide) ?_
                    exact hk_zret (u := (upd g 6 v)) hx hb hr rfl hlocks (hw) (by simp only [Int32.lt_iff_toInt_lt, Int32.le_iff_toInt_le, ← Int32.toInt_inj, hk_t0, hk_t1, hk_t2, hk_t3, hk_t4, hk_t5, hk_t6, hk_t7, hk_t8, hk_t9, hk_t10, hk_t11, hk_t12, hk_t13, hk_t14, hk_t15, hk_t16, hk_t17, hk_t18, hk_t20, hk_t32, hk_tm1, hk_t256, hk_t1500, hk_t4096, hk_t2000, hk_t3000, hk_t512, hk_t1024, true_and, and_true, false_and, and_false, true_or, or_true, false_or, or_false, not_true_eq_false, not_false_eq_true] at cc_1 cc_2 cc_3 cc_10 cc_17 cc_18 cc_19 cc_22 cc_23 ⊢; omega) dX10_setCoding_105
          · refine lv_aload_n hx hb dX10_setCoding_65 rfl (lv_at hl 0 rfl) ?_
            refine lv_iload_n hx hb dX10_setCoding_66 rfl (lv_at hl 2 rfl) ?_
            refine hk_put (ci := 13) (C := RX10) (T := TX10) (N := 10) (ty := .int) (v := .int v) hx hb hts iX10 tyX10 tyX10_ok nmX10 hown hw 1 rfl rfl 2 (by decide) (hts _ (List.mem_of_getElem? (i := 2) rfl)) rfl (by decide +kernel) rfl rfl (Nat.le_of_ble_eq_true rfl) dX10_setCoding_67 (ws' := xw cI cJ ad (upd g 5 v) lg ar bk) rfl (fun H locs hw => ?_)
            refine lv_iconst (v := 1) hx hb dX10_setCoding_70 (by decide) ?_
            exact hk_zret (u := (upd g 5 v)) hx hb hr rfl hlocks (hw) (by simp only [Int32.lt_iff_toInt_lt, Int32.le_iff_toInt_le, ← Int32.toInt_inj, hk_t0, hk_t1, hk_t2, hk_t3, hk_t4, hk_t5, hk_t6, hk_t7, hk_t8, hk_t9, hk_t10, hk_t11, hk_t12, hk_t13, hk_t14, hk_t15, hk_t16, hk_t17, hk_t18, hk_t20, hk_t32, hk_tm1, hk_t256, hk_t1500, hk_t4096, hk_t2000, hk_t3000, hk_t512, hk_t1024, true_and, and_true, false_and, and_false, true_or, or_true, false_or, or_false, not_true_eq_false, not_false_eq_true] at cc_1 cc_2 cc_3 cc_10 cc_17 ⊢; omega) dX10_setCoding_71
    · refine lv_iload_n hx hb dX10_setCoding_30 rfl (lv_at hl 2 rfl) ?_
      refine lv_if_lt (tgt := 51) hx hb dX10_setCoding_31 (by decide) (fun cc_24 => ?_) (fun cc_24 => ?_)
      · refine lv_iload_n hx hb dX10_setCoding_51 rfl (lv_at hl 1 rfl) ?_
        refine lv_iconst (v := 2) hx hb dX10_setCoding_52 (by decide) ?_
        refine lv_icmp_ne (tgt := 72) hx hb dX10_setCoding_53 (by decide) (fun cc_25 => ?_) (fun cc_25 => ?_)
        · refine lv_iload_n hx hb dX10_setCoding_72 rfl (lv_at hl 1 rfl) ?_
          refine lv_iconst (v := 3) hx hb dX10_setCoding_73 (by decide) ?_
          refine lv_icmp_ne (tgt := 106) hx hb dX10_setCoding_74 (by decide) (fun cc_26 => ?_) (fun cc_26 => ?_)
          · refine lv_iconst (v := 0) hx hb dX10_setCoding_106 (by decide) ?_
            exact hk_zret (u := g) hx hb hr rfl hlocks (hw) (by simp only [Int32.lt_iff_toInt_lt, Int32.le_iff_toInt_le, ← Int32.toInt_inj, hk_t0, hk_t1, hk_t2, hk_t3, hk_t4, hk_t5, hk_t6, hk_t7, hk_t8, hk_t9, hk_t10, hk_t11, hk_t12, hk_t13, hk_t14, hk_t15, hk_t16, hk_t17, hk_t18, hk_t20, hk_t32, hk_tm1, hk_t256, hk_t1500, hk_t4096, hk_t2000, hk_t3000, hk_t512, hk_t1024, true_and, and_true, false_and, and_false, true_or, or_true, false_or, or_false, not_true_eq_false, not_false_eq_true] at cc_1 cc_2 cc_24 cc_25 cc_26 ⊢; omega) dX10_setCoding_107
          · refine lv_iload_n hx hb dX10_setCoding_77 rfl (lv_at hl 2 rfl) ?_
            refine lv_iload_n hx hb dX10_setCoding_78 rfl (lv_at hl 3 rfl) ?_
            refine lv_if_eq (tgt := 88) hx hb dX10_setCoding_79 (by decide) (fun cc_27 => ?_) (fun cc_27 => ?_)
            · refine lv_iconst (v := 1) hx hb dX10_setCoding_88 (by decide) ?_
              refine lv_icmp_lt (tgt := 106) hx hb dX10_setCoding_89 (by decide) (fun cc_28 => ?_) (fun cc_28 => ?_)
              · refine lv_iconst (v := 0) hx hb dX10_setCoding_106 (by decide) ?_
                exact hk_zret (u := g) hx hb hr rfl hlocks (hw) (by simp only [Int32.lt_iff_toInt_lt, Int32.le_iff_toInt_le, ← Int32.toInt_inj, hk_t0, hk_t1, hk_t2, hk_t3, hk_t4, hk_t5, hk_t6, hk_t7, hk_t8, hk_t9, hk_t10, hk_t11, hk_t12, hk_t13, hk_t14, hk_t15, hk_t16, hk_t17, hk_t18, hk_t20, hk_t32, hk_tm1, hk_t256, hk_t1500, hk_t4096, hk_t2000, hk_t3000, hk_t512, hk_t1024, true_and, and_true, false_and, and_false, true_or, or_true, false_or, or_false, not_true_eq_false, not_false_eq_true] at cc_1 cc_2 cc_24 cc_25 cc_26 cc_27 cc_28 ⊢; omega) dX10_setCoding_107
              · refine lv_iload_n hx hb dX10_setCoding_92 rfl (lv_at hl 2 rfl) ?_
                refine lv_sipush (v := 4096) hx hb dX10_setCoding_93 (by decide) ?_
                refine lv_icmp_gt (tgt := 106) hx hb dX10_setCoding_96 (by decide) (fun cc_29 => ?_) (fun cc_29 => ?_)
                · refine lv_iconst (v := 0) hx hb dX10_setCoding_106 (by decide) ?_
                  exact hk_zret (u := g) hx hb hr rfl hlocks (hw) (by simp only [Int32.lt_iff_toInt_lt, Int32.le_iff_toInt_le, ← Int32.toInt_inj, hk_t0, hk_t1, hk_t2, hk_t3, hk_t4, hk_t5, hk_t6, hk_t7, hk_t8, hk_t9, hk_t10, hk_t11, hk_t12, hk_t13, hk_t14, hk_t15, hk_t16, hk_t17, hk_t18, hk_t20, hk_t32, hk_tm1, hk_t256, hk_t1500, hk_t4096, hk_t2000, hk_t3000, hk_t512, hk_t1024, true_and, and_true, false_and, and_false, true_or, or_true, false_or, or_false, not_true_eq_false, not_false_eq_true] at cc_1 cc_2 cc_24 cc_25 cc_26 cc_27 cc_28 cc_29 ⊢; omega) dX10_setCoding_107
                · refine lv_aload_n hx hb dX10_setCoding_99 rfl (lv_at hl 0 rfl) ?_
                  refine lv_iload_n hx hb dX10_setCoding_100 rfl (lv_at hl 2 rfl) ?_
                  refine hk_put (ci := 13) (C := RX10) (T := TX10) (N := 10) (ty := .int) (v := .int v) hx hb hts iX10 tyX10 tyX10_ok nmX10 hown hw 1 rfl rfl 3 (by decide) (hts _ (List.mem_of_getElem? (i := 1) rfl)) rfl (by decide +kernel) rfl rfl (Nat.le_of_ble_eq_true rfl) dX10_setCoding_101 (ws' := xw cI cJ ad (upd g 6 v) lg ar bk) rfl (fun H locs hw => ?_)
                  refine lv_iconst (v := 1) hx hb dX10_setCoding_104 (by decide) ?_
                  exact hk_zret (u := (upd g 6 v)) hx hb hr rfl hlocks (hw) (by simp only [Int32.lt_iff_toInt_lt, Int32.le_iff_toInt_le, ← Int32.toInt_inj, hk_t0, hk_t1, hk_t2, hk_t3, hk_t4, hk_t5, hk_t6, hk_t7, hk_t8, hk_t9, hk_t10, hk_t11, hk_t12, hk_t13, hk_t14, hk_t15, hk_t16, hk_t17, hk_t18, hk_t20, hk_t32, hk_tm1, hk_t256, hk_t1500, hk_t4096, hk_t2000, hk_t3000, hk_t512, hk_t1024, true_and, and_true, false_and, and_false, true_or, or_true, false_or, or_false, not_true_eq_false, not_false_eq_true] at cc_1 cc_2 cc_24 cc_25 cc_26 cc_27 cc_28 cc_29 ⊢; omega) dX10_setCoding_105
            · refine lv_sipush (v := 4096) hx hb dX10_setCoding_82 (by decide) ?_
              refine lv_goto (tgt := 89) hx hb dX10_setCoding_85 (by decide) ?_
              refine lv_icmp_lt (tgt := 106) hx hb dX10_setCoding_89 (by decide) (fun cc_30 => ?_) (fun cc_30 => ?_)
              · refine lv_iconst (v := 0) hx hb dX10_setCoding_106 (by decide) ?_
                exact hk_zret (u := g) hx hb hr rfl hlocks (hw) (by simp only [Int32.lt_iff_toInt_lt, Int32.le_iff_toInt_le, ← Int32.toInt_inj, hk_t0, hk_t1, hk_t2, hk_t3, hk_t4, hk_t5, hk_t6, hk_t7, hk_t8, hk_t9, hk_t10, hk_t11, hk_t12, hk_t13, hk_t14, hk_t15, hk_t16, hk_t17, hk_t18, hk_t20, hk_t32, hk_tm1, hk_t256, hk_t1500, hk_t4096, hk_t2000, hk_t3000, hk_t512, hk_t1024, true_and, and_true, false_and, and_false, true_or, or_true, false_or, or_false, not_true_eq_false, not_false_eq_true] at cc_1 cc_2 cc_24 cc_25 cc_26 cc_27 cc_30 ⊢; omega) dX10_setCoding_107
              · refine lv_iload_n hx hb dX10_setCoding_92 rfl (lv_at hl 2 rfl) ?_
                refine lv_sipush (v := 4096) hx hb dX10_setCoding_93 (by decide) ?_
                refine lv_icmp_gt (tgt := 106) hx hb dX10_setCoding_96 (by decide) (fun cc_31 => ?_) (fun cc_31 => ?_)
                · refine lv_iconst (v := 0) hx hb dX10_setCoding_106 (by decide) ?_
                  exact hk_zret (u := g) hx hb hr rfl hlocks (hw) (by simp only [Int32.lt_iff_toInt_lt, Int32.le_iff_toInt_le, ← Int32.toInt_inj, hk_t0, hk_t1, hk_t2, hk_t3, hk_t4, hk_t5, hk_t6, hk_t7, hk_t8, hk_t9, hk_t10, hk_t11, hk_t12, hk_t13, hk_t14, hk_t15, hk_t16, hk_t17, hk_t18, hk_t20, hk_t32, hk_tm1, hk_t256, hk_t1500, hk_t4096, hk_t2000, hk_t3000, hk_t512, hk_t1024, true_and, and_true, false_and, and_false, true_or, or_true, false_or, or_false, not_true_eq_false, not_false_eq_true] at cc_1 cc_2 cc_24 cc_25 cc_26 cc_27 cc_30 cc_31 ⊢; omega) dX10_setCoding_107
                · refine lv_aload_n hx hb dX10_setCoding_99 rfl (lv_at hl 0 rfl) ?_
                  refine lv_iload_n hx hb dX10_setCoding_100 rfl (lv_at hl 2 rfl) ?_
                  refine hk_put (ci := 13) (C := RX10) (T := TX10) (N := 10) (ty := .int) (v := .int v) hx hb hts iX10 tyX10 tyX10_ok nmX10 hown hw 1 rfl rfl 3 (by decide) (hts _ (List.mem_of_getElem? (i := 1) rfl)) rfl (by decide +kernel) rfl rfl (Nat.le_of_ble_eq_true rfl) dX10_setCoding_101 (ws' := xw cI cJ ad (upd g 6 v) lg ar bk) rfl (fun H locs hw => ?_)
                  refine lv_iconst (v := 1) hx hb dX10_setCoding_104 (by decide) ?_
                  exact hk_zret (u := (upd g 6 v)) hx hb hr rfl hlocks (hw) (by simp only [Int32.lt_iff_toInt_lt, Int32.le_iff_toInt_le, ← Int32.toInt_inj, hk_t0, hk_t1, hk_t2, hk_t3, hk_t4, hk_t5, hk_t6, hk_t7, hk_t8, hk_t9, hk_t10, hk_t11, hk_t12, hk_t13, hk_t14, hk_t15, hk_t16, hk_t17, hk_t18, hk_t20, hk_t32, hk_tm1, hk_t256, hk_t1500, hk_t4096, hk_t2000, hk_t3000, hk_t512, hk_t1024, true_and, and_true, false_and, and_false, true_or, or_true, false_or, or_false, not_true_eq_false, not_false_eq_true] at cc_1 cc_2 cc_24 cc_25 cc_26 cc_27 cc_30 cc_31 ⊢; omega) dX10_setCoding_105
        · refine lv_iload_n hx hb dX10_setCoding_56 rfl (lv_at hl 2 rfl) ?_
          refine lv_if_lt (tgt := 72) hx hb dX10_setCoding_57 (by decide) (fun cc_32 => ?_) (fun cc_32 => ?_)
          · refine lv_iload_n hx hb dX10_setCoding_72 rfl (lv_at hl 1 rfl) ?_
            refine lv_iconst (v := 3) hx hb dX10_setCoding_73 (by decide) ?_
            refine lv_icmp_ne (tgt := 106) hx hb dX10_setCoding_74 (by decide) (fun cc_33 => ?_) (fun cc_33 => ?_)
            · refine lv_iconst (v := 0) hx hb dX10_setCoding_106 (by decide) ?_
              exact hk_zret (u := g) hx hb hr rfl hlocks (hw) (by simp only [Int32.lt_iff_toInt_lt, Int32.le_iff_toInt_le, ← Int32.toInt_inj, hk_t0, hk_t1, hk_t2, hk_t3, hk_t4, hk_t5, hk_t6, hk_t7, hk_t8, hk_t9, hk_t10, hk_t11, hk_t12, hk_t13, hk_t14, hk_t15, hk_t16, hk_t17, hk_t18, hk_t20, hk_t32, hk_tm1, hk_t256, hk_t1500, hk_t4096, hk_t2000, hk_t3000, hk_t512, hk_t1024, true_and, and_true, false_and, and_false, true_or, or_true, false_or, or_false, not_true_eq_false, not_false_eq_true] at cc_1 cc_2 cc_24 cc_25 cc_32 cc_33 ⊢; omega) dX10_setCoding_107
            · refine lv_iload_n hx hb dX10_setCoding_77 rfl (lv_at hl 2 rfl) ?_
              refine lv_iload_n hx hb dX10_setCoding_78 rfl (lv_at hl 3 rfl) ?_
              refine lv_if_eq (tgt := 88) hx hb dX10_setCoding_79 (by decide) (fun cc_34 => ?_) (fun cc_34 => ?_)
              · refine lv_iconst (v := 1) hx hb dX10_setCoding_88 (by decide) ?_
                refine lv_icmp_lt (tgt := 106) hx hb dX10_setCoding_89 (by decide) (fun cc_35 => ?_) (fun cc_35 => ?_)
                · refine lv_iconst (v := 0) hx hb dX10_setCoding_106 (by decide) ?_
                  exact hk_zret (u := g) hx hb hr rfl hlocks (hw) (by simp only [Int32.lt_iff_toInt_lt, Int32.le_iff_toInt_le, ← Int32.toInt_inj, hk_t0, hk_t1, hk_t2, hk_t3, hk_t4, hk_t5, hk_t6, hk_t7, hk_t8, hk_t9, hk_t10, hk_t11, hk_t12, hk_t13, hk_t14, hk_t15, hk_t16, hk_t17, hk_t18, hk_t20, hk_t32, hk_tm1, hk_t256, hk_t1500, hk_t4096, hk_t2000, hk_t3000, hk_t512, hk_t1024, true_and, and_true, false_and, and_false, true_or, or_true, false_or, or_false, not_true_eq_false, not_false_eq_true] at cc_1 cc_2 cc_24 cc_25 cc_32 cc_33 cc_34 cc_35 ⊢; omega) dX10_setCoding_107
                · refine lv_iload_n hx hb dX10_setCoding_92 rfl (lv_at hl 2 rfl) ?_
                  refine lv_sipush (v := 4096) hx hb dX10_setCoding_93 (by decide) ?_
                  refine lv_icmp_gt (tgt := 106) hx hb dX10_setCoding_96 (by decide) (fun cc_36 => ?_) (fun cc_36 => ?_)
                  · refine lv_iconst (v := 0) hx hb dX10_setCoding_106 (by decide) ?_
                    exact hk_zret (u := g) hx hb hr rfl hlocks (hw) (by simp only [Int32.lt_iff_toInt_lt, Int32.le_iff_toInt_le, ← Int32.toInt_inj, hk_t0, hk_t1, hk_t2, hk_t3, hk_t4, hk_t5, hk_t6, hk_t7, hk_t8, hk_t9, hk_t10, hk_t11, hk_t12, hk_t13, hk_t14, hk_t15, hk_t16, hk_t17, hk_t18, hk_t20, hk_t32, hk_tm1, hk_t256, hk_t1500, hk_t4096, hk_t2000, hk_t3000, hk_t512, hk_t1024, true_and, and_true, false_and, and_false, true_or, or_true, false_or, or_false, not_true_eq_false, not_false_eq_true] at cc_1 cc_2 cc_24 cc_25 cc_32 cc_33 cc_34 cc_35 cc_36 ⊢; omega) dX10_setCoding_107
                  · refine lv_aload_n hx hb dX10_setCoding_99 rfl (lv_at hl 0 rfl) ?_
                    refine lv_iload_n hx hb dX10_setCoding_100 rfl (lv_at hl 2 rfl) ?_
                    refine hk_put (ci := 13) (C := RX10) (T := TX10) (N := 10) (ty := .int) (v := .int v) hx hb hts iX10 tyX10 tyX10_ok nmX10 hown hw 1 rfl rfl 3 (by decide) (hts _ (List.mem_of_getElem? (i := 1) rfl)) rfl (by decide +kernel) rfl rfl (Nat.le_of_ble_eq_true rfl) dX10_setCoding_101 (ws' := xw cI cJ ad (upd g 6 v) lg ar bk) rfl (fun H locs hw => ?_)
                    refine lv_iconst (v := 1) hx hb dX10_setCoding_104 (by decide) ?_
                    exact hk_zret (u := (upd g 6 v)) hx hb hr rfl hlocks (hw) (by simp only [Int32.lt_iff_toInt_lt, Int32.le_iff_toInt_le, ← Int32.toInt_inj, hk_t0, hk_t1, hk_t2, hk_t3, hk_t4, hk_t5, hk_t6, hk_t7, hk_t8, hk_t9, hk_t10, hk_t11, hk_t12, hk_t13, hk_t14, hk_t15, hk_t16, hk_t17, hk_t18, hk_t20, hk_t32, hk_tm1, hk_t256, hk_t1500, hk_t4096, hk_t2000, hk_t3000, hk_t512, hk_t1024, true_and, and_true, false_and, and_false, true_or, or_true, false_or, or_false, not_true_eq_false, not_false_eq_true] at cc_1 cc_2 cc_24 cc_25 cc_32 cc_33 cc_34 cc_35 cc_36 ⊢; omega) dX10_setCoding_105
              · refine lv_sipush (v := 4096) hx hb dX10_setCoding_82 (by decide) ?_
                refine lv_goto (tgt := 89) hx hb dX10_setCoding_85 (by decide) ?_
                refine lv_icmp_lt (tgt := 106) hx hb dX10_setCoding_89 (by decide) (fun cc_37 => ?_) (fun cc_37 => ?_)
                · refine lv_iconst (v := 0) hx hb dX10_setCoding_106 (by decide) ?_
                  exact hk_zret (u := g) hx hb hr rfl hlocks (hw) (by simp only [Int32.lt_iff_toInt_lt, Int32.le_iff_toInt_le, ← Int32.toInt_inj, hk_t0, hk_t1, hk_t2, hk_t3, hk_t4, hk_t5, hk_t6, hk_t7, hk_t8, hk_t9, hk_t10, hk_t11, hk_t12, hk_t13, hk_t14, hk_t15, hk_t16, hk_t17, hk_t18, hk_t20, hk_t32, hk_tm1, hk_t256, hk_t1500, hk_t4096, hk_t2000, hk_t3000, hk_t512, hk_t1024, true_and, and_true, false_and, and_false, true_or, or_true, false_or, or_false, not_true_eq_false, not_false_eq_true] at cc_1 cc_2 cc_24 cc_25 cc_32 cc_33 cc_34 cc_37 ⊢; omega) dX10_setCoding_107
                · refine lv_iload_n hx hb dX10_setCoding_92 rfl (lv_at hl 2 rfl) ?_
                  refine lv_sipush (v := 4096) hx hb dX10_setCoding_93 (by decide) ?_
                  refine lv_icmp_gt (tgt := 106) hx hb dX10_setCoding_96 (by decide) (fun cc_38 => ?_) (fun cc_38 => ?_)
                  · refine lv_iconst (v := 0) hx hb dX10_setCoding_106 (by decide) ?_
                    exact hk_zret (u := g) hx hb hr rfl hlocks (hw) (by simp only [Int32.lt_iff_toInt_lt, Int32.le_iff_toInt_le, ← Int32.toInt_inj, hk_t0, hk_t1, hk_t2, hk_t3, hk_t4, hk_t5, hk_t6, hk_t7, hk_t8, hk_t9, hk_t10, hk_t11, hk_t12, hk_t13, hk_t14, hk_t15, hk_t16, hk_t17, hk_t18, hk_t20, hk_t32, hk_tm1, hk_t256, hk_t1500, hk_t4096, hk_t2000, hk_t3000, hk_t512, hk_t1024, true_and, and_true, false_and, and_false, true_or, or_true, false_or, or_false, not_true_eq_false, not_false_eq_true] at cc_1 cc_2 cc_24 cc_25 cc_32 cc_33 cc_34 cc_37 cc_38 ⊢; omega) dX10_setCoding_107
                  · refine lv_aload_n hx hb dX10_setCoding_99 rfl (lv_at hl 0 rfl) ?_
                    refine lv_iload_n hx hb dX10_setCoding_100 rfl (lv_at hl 2 rfl) ?_
                    refine hk_put (ci := 13) (C := RX10) (T := TX10) (N := 10) (ty := .int) (v := .int v) hx hb hts iX10 tyX10 tyX10_ok nmX10 hown hw 1 rfl rfl 3 (by decide) (hts _ (List.mem_of_getElem? (i := 1) rfl)) rfl (by decide +kernel) rfl rfl (Nat.le_of_ble_eq_true rfl) dX10_setCoding_101 (ws' := xw cI cJ ad (upd g 6 v) lg ar bk) rfl (fun H locs hw => ?_)
                    refine lv_iconst (v := 1) hx hb dX10_setCoding_104 (by decide) ?_
                    exact hk_zret (u := (upd g 6 v)) hx hb hr rfl hlocks (hw) (by simp only [Int32.lt_iff_toInt_lt, Int32.le_iff_toInt_le, ← Int32.toInt_inj, hk_t0, hk_t1, hk_t2, hk_t3, hk_t4, hk_t5, hk_t6, hk_t7, hk_t8, hk_t9, hk_t10, hk_t11, hk_t12, hk_t13, hk_t14, hk_t15, hk_t16, hk_t17, hk_t18, hk_t20, hk_t32, hk_tm1, hk_t256, hk_t1500, hk_t4096, hk_t2000, hk_t3000, hk_t512, hk_t1024, true_and, and_true, false_and, and_false, true_or, or_true, false_or, or_false, not_true_eq_false, not_false_eq_true] at cc_1 cc_2 cc_24 cc_25 cc_32 cc_33 cc_34 cc_37 cc_38 ⊢; omega) dX10_setCoding_105
          · refine lv_iload_n hx hb dX10_setCoding_60 rfl (lv_at hl 2 rfl) ?_
            refine lv_iconst (v := 4) hx hb dX10_setCoding_61 (by decide) ?_
            refine lv_icmp_gt (tgt := 72) hx hb dX10_setCoding_62 (by decide) (fun cc_39 => ?_) (fun cc_39 => ?_)
            · refine lv_iload_n hx hb dX10_setCoding_72 rfl (lv_at hl 1 rfl) ?_
              refine lv_iconst (v := 3) hx hb dX10_setCoding_73 (by decide) ?_
              refine lv_icmp_ne (tgt := 106) hx hb dX10_setCoding_74 (by decide) (fun cc_40 => ?_) (fun cc_40 => ?_)
              · refine lv_iconst (v := 0) hx hb dX10_setCoding_106 (by decide) ?_
                exact hk_zret (u := g) hx hb hr rfl hlocks (hw) (by simp only [Int32.lt_iff_toInt_lt, Int32.le_iff_toInt_le, ← Int32.toInt_inj, hk_t0, hk_t1, hk_t2, hk_t3, hk_t4, hk_t5, hk_t6, hk_t7, hk_t8, hk_t9, hk_t10, hk_t11, hk_t12, hk_t13, hk_t14, hk_t15, hk_t16, hk_t17, hk_t18, hk_t20, hk_t32, hk_tm1, hk_t256, hk_t1500, hk_t4096, hk_t2000, hk_t3000, hk_t512, hk_t1024, true_and, and_true, false_and, and_false, true_or, or_true, false_or, or_false, not_true_eq_false, not_false_eq_true] at cc_1 cc_2 cc_24 cc_25 cc_32 cc_39 cc_40 ⊢; omega) dX10_setCoding_107
              · refine lv_iload_n hx hb dX10_setCoding_77 rfl (lv_at hl 2 rfl) ?_
                refine lv_iload_n hx hb dX10_setCoding_78 rfl (lv_at hl 3 rfl) ?_
                refine lv_if_eq (tgt := 88) hx hb dX10_setCoding_79 (by decide) (fun cc_41 => ?_) (fun cc_41 => ?_)
                · refine lv_iconst (v := 1) hx hb dX10_setCoding_88 (by decide) ?_
                  refine lv_icmp_lt (tgt := 106) hx hb dX10_setCoding_89 (by decide) (fun cc_42 => ?_) (fun cc_42 => ?_)
                  · refine lv_iconst (v := 0) hx hb dX10_setCoding_106 (by decide) ?_
                    exact hk_zret (u := g) hx hb hr rfl hlocks (hw) (by simp only [Int32.lt_iff_toInt_lt, Int32.le_iff_toInt_le, ← Int32.toInt_inj, hk_t0, hk_t1, hk_t2, hk_t3, hk_t4, hk_t5, hk_t6, hk_t7, hk_t8, hk_t9, hk_t10, hk_t11, hk_t12, hk_t13, hk_t14, hk_t15, hk_t16, hk_t17, hk_t18, hk_t20, hk_t32, hk_tm1, hk_t256, hk_t1500, hk_t4096, hk_t2000, hk_t3000, hk_t512, hk_t1024, true_and, and_true, false_and, and_false, true_or, or_true, false_or, or_false, not_true_eq_false, not_false_eq_true] at cc_1 cc_2 cc_24 cc_25 cc_32 cc_39 cc_40 cc_41 cc_42 ⊢; omega) dX10_setCoding_107
                  · refine lv_iload_n hx hb dX10_setCoding_92 rfl (lv_at hl 2 rfl) ?_
                    refine lv_sipush (v := 4096) hx hb dX10_setCoding_93 (by decide) ?_
                    refine lv_icmp_gt (tgt := 106) hx hb dX10_setCoding_96 (by decide) (fun cc_43 => ?_) (fun cc_43 => ?_)
                    · refine lv_iconst (v := 0) hx hb dX10_setCoding_106 (by decide) ?_
                      exact hk_zret (u := g) hx hb hr rfl hlocks (hw) (by simp only [Int32.lt_iff_toInt_lt, Int32.le_iff_toInt_le, ← Int32.toInt_inj, hk_t0, hk_t1, hk_t2, hk_t3, hk_t4, hk_t5, hk_t6, hk_t7, hk_t8, hk_t9, hk_t10, hk_t11, hk_t12, hk_t13, hk_t14, hk_t15, hk_t16, hk_t17, hk_t18, hk_t20, hk_t32, hk_tm1, hk_t256, hk_t1500, hk_t4096, hk_t2000, hk_t3000, hk_t512, hk_t1024, true_and, and_true, false_and, and_false, true_or, or_true, false_or, or_false, not_true_eq_false, not_false_eq_true] at cc_1 cc_2 cc_24 cc_25 cc_32 cc_39 cc_40 cc_41 cc_42 cc_43 ⊢; omega) dX10_setCoding_107
                    · refine lv_aload_n hx hb dX10_setCoding_99 rfl (lv_at hl 0 rfl) ?_
                      refine lv_iload_n hx hb dX10_setCoding_100 rfl (lv_at hl 2 rfl) ?_
                      refine hk_put (ci := 13) (C := RX10) (T := TX10) (N := 10) (ty := .int) (v := .int v) hx hb hts iX10 tyX10 tyX10_ok nmX10 hown hw 1 rfl rfl 3 (by decide) (hts _ (List.mem_of_getElem? (i := 1) rfl)) rfl (by decide +kernel) rfl rfl (Nat.le_of_ble_eq_true rfl) dX10_setCoding_101 (ws' := xw cI cJ ad (upd g 6 v) lg ar bk) rfl (fun H locs hw => ?_)
                      refine lv_iconst (v := 1) hx hb dX10_setCoding_104 (by decide) ?_
                      exact hk_zret (u := (upd g 6 v)) hx hb hr rfl hlocks (hw) (by simp only [Int32.lt_iff_toInt_lt, Int32.le_iff_toInt_le, ← Int32.toInt_inj, hk_t0, hk_t1, hk_t2, hk_t3, hk_t4, hk_t5, hk_t6, hk_t7, hk_t8, hk_t9, hk_t10, hk_t11, hk_t12, hk_t13, hk_t14, hk_t15, hk_t16, hk_t17, hk_t18, hk_t20, hk_t32, hk_tm1, hk_t256, hk_t1500, hk_t4096, hk_t2000, hk_t3000, hk_t512, hk_t1024, true_and, and_true, false_and, and_false, true_or, or_true, false_or, or_false, not_true_eq_false, not_false_eq_true] at cc_1 cc_2 cc_24 cc_25 cc_32 cc_39 cc_40 cc_41 cc_42 cc_43 ⊢; omega) dX10_setCoding_105
                · refine lv_sipush (v := 4096) hx hb dX10_setCoding_82 (by decide) ?_
                  refine lv_goto (tgt := 89) hx hb dX10_setCoding_85 (by decide) ?_
                  refine lv_icmp_lt (tgt := 106) hx hb dX10_setCoding_89 (by decide) (fun cc_44 => ?_) (fun cc_44 => ?_)
                  · refine lv_iconst (v := 0) hx hb dX10_setCoding_106 (by decide) ?_
                    exact hk_zret (u := g) hx hb hr rfl hlocks (hw) (by simp only [Int32.lt_iff_toInt_lt, Int32.le_iff_toInt_le, ← Int32.toInt_inj, hk_t0, hk_t1, hk_t2, hk_t3, hk_t4, hk_t5, hk_t6, hk_t7, hk_t8, hk_t9, hk_t10, hk_t11, hk_t12, hk_t13, hk_t14, hk_t15, hk_t16, hk_t17, hk_t18, hk_t20, hk_t32, hk_tm1, hk_t256, hk_t1500, hk_t4096, hk_t2000, hk_t3000, hk_t512, hk_t1024, true_and, and_true, false_and, and_false, true_or, or_true, false_or, or_false, not_true_eq_false, not_false_eq_true] at cc_1 cc_2 cc_24 cc_25 cc_32 cc_39 cc_40 cc_41 cc_44 ⊢; omega) dX10_setCoding_107
                  · refine lv_iload_n hx hb dX10_setCoding_92 rfl (lv_at hl 2 rfl) ?_
                    refine lv_sipush (v := 4096) hx hb dX10_setCoding_93 (by decide) ?_
                    refine lv_icmp_gt (tgt := 106) hx hb dX10_setCoding_96 (by decide) (fun cc_45 => ?_) (fun cc_45 => ?_)
                    · refine lv_iconst (v := 0) hx hb dX10_setCoding_106 (by decide) ?_
                      exact hk_zret (u := g) hx hb hr rfl hlocks (hw) (by simp only [Int32.lt_iff_toInt_lt, Int32.le_iff_toInt_le, ← Int32.toInt_inj, hk_t0, hk_t1, hk_t2, hk_t3, hk_t4, hk_t5, hk_t6, hk_t7, hk_t8, hk_t9, hk_t10, hk_t11, hk_t12, hk_t13, hk_t14, hk_t15, hk_t16, hk_t17, hk_t18, hk_t20, hk_t32, hk_tm1, hk_t256, hk_t1500, hk_t4096, hk_t2000, hk_t3000, hk_t512, hk_t1024, true_and, and_true, false_and, and_false, true_or, or_true, false_or, or_false, not_true_eq_false, not_false_eq_true] at cc_1 cc_2 cc_24 cc_25 cc_32 cc_39 cc_40 cc_41 cc_44 cc_45 ⊢; omega) dX10_setCoding_107
                    · refine lv_aload_n hx hb dX10_setCoding_99 rfl (lv_at hl 0 rfl) ?_
                      refine lv_iload_n hx hb dX10_setCoding_100 rfl (lv_at hl 2 rfl) ?_
                      refine hk_put (ci := 13) (C := RX10) (T := TX10) (N := 10) (ty := .int) (v := .int v) hx hb hts iX10 tyX10 tyX10_ok nmX10 hown hw 1 rfl rfl 3 (by decide) (hts _ (List.mem_of_getElem? (i := 1) rfl)) rfl (by decide +kernel) rfl rfl (Nat.le_of_ble_eq_true rfl) dX10_setCoding_101 (ws' := xw cI cJ ad (upd g 6 v) lg ar bk) rfl (fun H locs hw => ?_)
                      refine lv_iconst (v := 1) hx hb dX10_setCoding_104 (by decide) ?_
                      exact hk_zret (u := (upd g 6 v)) hx hb hr rfl hlocks (hw) (by simp only [Int32.lt_iff_toInt_lt, Int32.le_iff_toInt_le, ← Int32.toInt_inj, hk_t0, hk_t1, hk_t2, hk_t3, hk_t4, hk_t5, hk_t6, hk_t7, hk_t8, hk_t9, hk_t10, hk_t11, hk_t12, hk_t13, hk_t14, hk_t15, hk_t16, hk_t17, hk_t18, hk_t20, hk_t32, hk_tm1, hk_t256, hk_t1500, hk_t4096, hk_t2000, hk_t3000, hk_t512, hk_t1024, true_and, and_true, false_and, and_false, true_or, or_true, false_or, or_false, not_true_eq_false, not_false_eq_true] at cc_1 cc_2 cc_24 cc_25 cc_32 cc_39 cc_40 cc_41 cc_44 cc_45 ⊢; omega) dX10_setCoding_105
            · refine lv_aload_n hx hb dX10_setCoding_65 rfl (lv_at hl 0 rfl) ?_
              refine lv_iload_n hx hb dX10_setCoding_66 rfl (lv_at hl 2 rfl) ?_
              refine hk_put (ci := 13) (C := RX10) (T := TX10) (N := 10) (ty := .int) (v := .int v) hx hb hts iX10 tyX10 tyX10_ok nmX10 hown hw 1 rfl rfl 2 (by decide) (hts _ (List.mem_of_getElem? (i := 2) rfl)) rfl (by decide +kernel) rfl rfl (Nat.le_of_ble_eq_true rfl) dX10_setCoding_67 (ws' := xw cI cJ ad (upd g 5 v) lg ar bk) rfl (fun H locs hw => ?_)
              refine lv_iconst (v := 1) hx hb dX10_setCoding_70 (by decide) ?_
              exact hk_zret (u := (upd g 5 v)) hx hb hr rfl hlocks (hw) (by simp only [Int32.lt_iff_toInt_lt, Int32.le_iff_toInt_le, ← Int32.toInt_inj, hk_t0, hk_t1, hk_t2, hk_t3, hk_t4, hk_t5, hk_t6, hk_t7, hk_t8, hk_t9, hk_t10, hk_t11, hk_t12, hk_t13, hk_t14, hk_t15, hk_t16, hk_t17, hk_t18, hk_t20, hk_t32, hk_tm1, hk_t256, hk_t1500, hk_t4096, hk_t2000, hk_t3000, hk_t512, hk_t1024, true_and, and_true, false_and, and_false, true_or, or_true, false_or, or_false, not_true_eq_false, not_false_eq_true] at cc_1 cc_2 cc_24 cc_25 cc_32 cc_39 ⊢; omega) dX10_setCoding_71
      · refine lv_iload_n hx hb dX10_setCoding_34 rfl (lv_at hl 2 rfl) ?_
        refine lv_iconst (v := 4) hx hb dX10_setCoding_35 (by decide) ?_
        refine lv_aload_n hx hb dX10_setCoding_36 rfl (lv_at hl 0 rfl) ?_
        refine hk_get (ci := 13) (C := RX10) (T := TX10) (N := 10) (v := .int 3) hx hb hts iX10 hown hw 1 rfl rfl 0 (by decide) (hts _ (List.mem_of_getElem? (i := 3) rfl)) (congrArg (fun z => some (Value.int z)) h3) dX10_setCoding_37 ?_
        refine lv_isub hx hb dX10_setCoding_40 ?_
        refine hk_topi 1 (by decide +kernel) ?_
        refine lv_icmp_gt (tgt := 51) hx hb dX10_setCoding_41 (by decide) (fun cc_46 => ?_) (fun cc_46 => ?_)
        · refine lv_iload_n hx hb dX10_setCoding_51 rfl (lv_at hl 1 rfl) ?_
          refine lv_iconst (v := 2) hx hb dX10_setCoding_52 (by decide) ?_
          refine lv_icmp_ne (tgt := 72) hx hb dX10_setCoding_53 (by decide) (fun cc_47 => ?_) (fun cc_47 => ?_)
          · refine lv_iload_n hx hb dX10_setCoding_72 rfl (lv_at hl 1 rfl) ?_
            refine lv_iconst (v := 3) hx hb dX10_setCoding_73 (by decide) ?_
            refine lv_icmp_ne (tgt := 106) hx hb dX10_setCoding_74 (by decide) (fun cc_48 => ?_) (fun cc_48 => ?_)
            · refine lv_iconst (v := 0) hx hb dX10_setCoding_106 (by decide) ?_
              exact hk_zret (u := g) hx hb hr rfl hlocks (hw) (by simp only [Int32.lt_iff_toInt_lt, Int32.le_iff_toInt_le, ← Int32.toInt_inj, hk_t0, hk_t1, hk_t2, hk_t3, hk_t4, hk_t5, hk_t6, hk_t7, hk_t8, hk_t9, hk_t10, hk_t11, hk_t12, hk_t13, hk_t14, hk_t15, hk_t16, hk_t17, hk_t18, hk_t20, hk_t32, hk_tm1, hk_t256, hk_t1500, hk_t4096, hk_t2000, hk_t3000, hk_t512, hk_t1024, true_and, and_true, false_and, and_false, true_or, or_true, false_or, or_false, not_true_eq_false, not_false_eq_true] at cc_1 cc_2 cc_24 cc_46 cc_47 cc_48 ⊢; omega) dX10_setCoding_107
            · refine lv_iload_n hx hb dX10_setCoding_77 rfl (lv_at hl 2 rfl) ?_
              refine lv_iload_n hx hb dX10_setCoding_78 rfl (lv_at hl 3 rfl) ?_
              refine lv_if_eq (tgt := 88) hx hb dX10_setCoding_79 (by decide) (fun cc_49 => ?_) (fun cc_49 => ?_)
              · refine lv_iconst (v := 1) hx hb dX10_setCoding_88 (by decide) ?_
                refine lv_icmp_lt (tgt := 106) hx hb dX10_setCoding_89 (by decide) (fun cc_50 => ?_) (fun cc_50 => ?_)
                · refine lv_iconst (v := 0) hx hb dX10_setCoding_106 (by decide) ?_
                  exact hk_zret (u := g) hx hb hr rfl hlocks (hw) (by simp only [Int32.lt_iff_toInt_lt, Int32.le_iff_toInt_le, ← Int32.toInt_inj, hk_t0, hk_t1, hk_t2, hk_t3, hk_t4, hk_t5, hk_t6, hk_t7, hk_t8, hk_t9, hk_t10, hk_t11, hk_t12, hk_t13, hk_t14, hk_t15, hk_t16, hk_t17, hk_t18, hk_t20, hk_t32, hk_tm1, hk_t256, hk_t1500, hk_t4096, hk_t2000, hk_t3000, hk_t512, hk_t1024, true_and, and_true, false_and, and_false, true_or, or_true, false_or, or_false, not_true_eq_false, not_false_eq_true] at cc_1 cc_2 cc_24 cc_46 cc_47 cc_48 cc_49 cc_50 ⊢; omega) dX10_setCoding_107
                · refine lv_iload_n hx hb dX10_setCoding_92 rfl (lv_at hl 2 rfl) ?_
                  refine lv_sipush (v := 4096) hx hb dX10_setCoding_93 (by decide) ?_
                  refine lv_icmp_gt (tgt := 106) hx hb dX10_setCoding_96 (by decide) (fun cc_51 => ?_) (fun cc_51 => ?_)
                  · refine lv_iconst (v := 0) hx hb dX10_setCoding_106 (by decide) ?_
                    exact hk_zret (u := g) hx hb hr rfl hlocks (hw) (by simp only [Int32.lt_iff_toInt_lt, Int32.le_iff_toInt_le, ← Int32.toInt_inj, hk_t0, hk_t1, hk_t2, hk_t3, hk_t4, hk_t5, hk_t6, hk_t7, hk_t8, hk_t9, hk_t10, hk_t11, hk_t12, hk_t13, hk_t14, hk_t15, hk_t16, hk_t17, hk_t18, hk_t20, hk_t32, hk_tm1, hk_t256, hk_t1500, hk_t4096, hk_t2000, hk_t3000, hk_t512, hk_t1024, true_and, and_true, false_and, and_false, true_or, or_true, false_or, or_false, not_true_eq_false, not_false_eq_true] at cc_1 cc_2 cc_24 cc_46 cc_47 cc_48 cc_49 cc_50 cc_51 ⊢; omega) dX10_setCoding_107
                  · refine lv_aload_n hx hb dX10_setCoding_99 rfl (lv_at hl 0 rfl) ?_
                    refine lv_iload_n hx hb dX10_setCoding_100 rfl (lv_at hl 2 rfl) ?_
                    refine hk_put (ci := 13) (C := RX10) (T := TX10) (N := 10) (ty := .int) (v := .int v) hx hb hts iX10 tyX10 tyX10_ok nmX10 hown hw 1 rfl rfl 3 (by decide) (hts _ (List.mem_of_getElem? (i := 1) rfl)) rfl (by decide +kernel) rfl rfl (Nat.le_of_ble_eq_true rfl) dX10_setCoding_101 (ws' := xw cI cJ ad (upd g 6 v) lg ar bk) rfl (fun H locs hw => ?_)
                    refine lv_iconst (v := 1) hx hb dX10_setCoding_104 (by decide) ?_
                    exact hk_zret (u := (upd g 6 v)) hx hb hr rfl hlocks (hw) (by simp only [Int32.lt_iff_toInt_lt, Int32.le_iff_toInt_le, ← Int32.toInt_inj, hk_t0, hk_t1, hk_t2, hk_t3, hk_t4, hk_t5, hk_t6, hk_t7, hk_t8, hk_t9, hk_t10, hk_t11, hk_t12, hk_t13, hk_t14, hk_t15, hk_t16, hk_t17, hk_t18, hk_t20, hk_t32, hk_tm1, hk_t256, hk_t1500, hk_t4096, hk_t2000, hk_t3000, hk_t512, hk_t1024, true_and, and_true, false_and, and_false, true_or, or_true, false_or, or_false, not_true_eq_false, not_false_eq_true] at cc_1 cc_2 cc_24 cc_46 cc_47 cc_48 cc_49 cc_50 cc_51 ⊢; omega) dX10_setCoding_105
              · refine lv_sipush (v := 4096) hx hb dX10_setCoding_82 (by decide) ?_
                refine lv_goto (tgt := 89) hx hb dX10_setCoding_85 (by decide) ?_
                refine lv_icmp_lt (tgt := 106) hx hb dX10_setCoding_89 (by decide) (fun cc_52 => ?_) (fun cc_52 => ?_)
                · refine lv_iconst (v := 0) hx hb dX10_setCoding_106 (by decide) ?_
                  exact hk_zret (u := g) hx hb hr rfl hlocks (hw) (by simp only [Int32.lt_iff_toInt_lt, Int32.le_iff_toInt_le, ← Int32.toInt_inj, hk_t0, hk_t1, hk_t2, hk_t3, hk_t4, hk_t5, hk_t6, hk_t7, hk_t8, hk_t9, hk_t10, hk_t11, hk_t12, hk_t13, hk_t14, hk_t15, hk_t16, hk_t17, hk_t18, hk_t20, hk_t32, hk_tm1, hk_t256, hk_t1500, hk_t4096, hk_t2000, hk_t3000, hk_t512, hk_t1024, true_and, and_true, false_and, and_false, true_or, or_true, false_or, or_false, not_true_eq_false, not_false_eq_true] at cc_1 cc_2 cc_24 cc_46 cc_47 cc_48 cc_49 cc_52 ⊢; omega) dX10_setCoding_107
                · refine lv_iload_n hx hb dX10_setCoding_92 rfl (lv_at hl 2 rfl) ?_
                  refine lv_sipush (v := 4096) hx hb dX10_setCoding_93 (by decide) ?_
                  refine lv_icmp_gt (tgt := 106) hx hb dX10_setCoding_96 (by decide) (fun cc_53 => ?_) (fun cc_53 => ?_)
                  · refine lv_iconst (v := 0) hx hb dX10_setCoding_106 (by decide) ?_
                    exact hk_zret (u := g) hx hb hr rfl hlocks (hw) (by simp only [Int32.lt_iff_toInt_lt, Int32.le_iff_toInt_le, ← Int32.toInt_inj, hk_t0, hk_t1, hk_t2, hk_t3, hk_t4, hk_t5, hk_t6, hk_t7, hk_t8, hk_t9, hk_t10, hk_t11, hk_t12, hk_t13, hk_t14, hk_t15, hk_t16, hk_t17, hk_t18, hk_t20, hk_t32, hk_tm1, hk_t256, hk_t1500, hk_t4096, hk_t2000, hk_t3000, hk_t512, hk_t1024, true_and, and_true, false_and, and_false, true_or, or_true, false_or, or_false, not_true_eq_false, not_false_eq_true] at cc_1 cc_2 cc_24 cc_46 cc_47 cc_48 cc_49 cc_52 cc_53 ⊢; omega) dX10_setCoding_107
                  · refine lv_aload_n hx hb dX10_setCoding_99 rfl (lv_at hl 0 rfl) ?_
                    refine lv_iload_n hx hb dX10_setCoding_100 rfl (lv_at hl 2 rfl) ?_
                    refine hk_put (ci := 13) (C := RX10) (T := TX10) (N := 10) (ty := .int) (v := .int v) hx hb hts iX10 tyX10 tyX10_ok nmX10 hown hw 1 rfl rfl 3 (by decide) (hts _ (List.mem_of_getElem? (i := 1) rfl)) rfl (by decide +kernel) rfl rfl (Nat.le_of_ble_eq_true rfl) dX10_setCoding_101 (ws' := xw cI cJ ad (upd g 6 v) lg ar bk) rfl (fun H locs hw => ?_)
                    refine lv_iconst (v := 1) hx hb dX10_setCoding_104 (by decide) ?_
                    exact hk_zret (u := (upd g 6 v)) hx hb hr rfl hlocks (hw) (by simp only [Int32.lt_iff_toInt_lt, Int32.le_iff_toInt_le, ← Int32.toInt_inj, hk_t0, hk_t1, hk_t2, hk_t3, hk_t4, hk_t5, hk_t6, hk_t7, hk_t8, hk_t9, hk_t10, hk_t11, hk_t12, hk_t13, hk_t14, hk_t15, hk_t16, hk_t17, hk_t18, hk_t20, hk_t32, hk_tm1, hk_t256, hk_t1500, hk_t4096, hk_t2000, hk_t3000, hk_t512, hk_t1024, true_and, and_true, false_and, and_false, true_or, or_true, false_or, or_false, not_true_eq_false, not_false_eq_true] at cc_1 cc_2 cc_24 cc_46 cc_47 cc_48 cc_49 cc_52 cc_53 ⊢; omega) dX10_setCoding_105
          · refine lv_iload_n hx hb dX10_setCoding_56 rfl (lv_at hl 2 rfl) ?_
            refine lv_if_lt (tgt := 72) hx hb dX10_setCoding_57 (by decide) (fun cc_54 => ?_) (fun cc_54 => ?_)
            · refine lv_iload_n hx hb dX10_setCoding_72 rfl (lv_at hl 1 rfl) ?_
              refine lv_iconst (v := 3) hx hb dX10_setCoding_73 (by decide) ?_
              refine lv_icmp_ne (tgt := 106) hx hb dX10_setCoding_74 (by decide) (fun cc_55 => ?_) (fun cc_55 => ?_)
              · refine lv_iconst (v := 0) hx hb dX10_setCoding_106 (by decide) ?_
                exact hk_zret (u := g) hx hb hr rfl hlocks (hw) (by simp only [Int32.lt_iff_toInt_lt, Int32.le_iff_toInt_le, ← Int32.toInt_inj, hk_t0, hk_t1, hk_t2, hk_t3, hk_t4, hk_t5, hk_t6, hk_t7, hk_t8, hk_t9, hk_t10, hk_t11, hk_t12, hk_t13, hk_t14, hk_t15, hk_t16, hk_t17, hk_t18, hk_t20, hk_t32, hk_tm1, hk_t256, hk_t1500, hk_t4096, hk_t2000, hk_t3000, hk_t512, hk_t1024, true_and, and_true, false_and, and_false, true_or, or_true, false_or, or_false, not_true_eq_false, not_false_eq_true] at cc_1 cc_2 cc_24 cc_46 cc_47 cc_54 cc_55 ⊢; omega) dX10_setCoding_107
              · refine lv_iload_n hx hb dX10_setCoding_77 rfl (lv_at hl 2 rfl) ?_
                refine lv_iload_n hx hb dX10_setCoding_78 rfl (lv_at hl 3 rfl) ?_
                refine lv_if_eq (tgt := 88) hx hb dX10_setCoding_79 (by decide) (fun cc_56 => ?_) (fun cc_56 => ?_)
                · refine lv_iconst (v := 1) hx hb dX10_setCoding_88 (by decide) ?_
                  refine lv_icmp_lt (tgt := 106) hx hb dX10_setCoding_89 (by decide) (fun cc_57 => ?_) (fun cc_57 => ?_)
                  · refine lv_iconst (v := 0) hx hb dX10_setCoding_106 (by decide) ?_
                    exact hk_zret (u := g) hx hb hr rfl hlocks (hw) (by simp only [Int32.lt_iff_toInt_lt, Int32.le_iff_toInt_le, ← Int32.toInt_inj, hk_t0, hk_t1, hk_t2, hk_t3, hk_t4, hk_t5, hk_t6, hk_t7, hk_t8, hk_t9, hk_t10, hk_t11, hk_t12, hk_t13, hk_t14, hk_t15, hk_t16, hk_t17, hk_t18, hk_t20, hk_t32, hk_tm1, hk_t256, hk_t1500, hk_t4096, hk_t2000, hk_t3000, hk_t512, hk_t1024, true_and, and_true, false_and, and_false, true_or, or_true, false_or, or_false, not_true_eq_false, not_false_eq_true] at cc_1 cc_2 cc_24 cc_46 cc_47 cc_54 cc_55 cc_56 cc_57 ⊢; omega) dX10_setCoding_107
                  · refine lv_iload_n hx hb dX10_setCoding_92 rfl (lv_at hl 2 rfl) ?_
                    refine lv_sipush (v := 4096) hx hb dX10_setCoding_93 (by decide) ?_
                    refine lv_icmp_gt (tgt := 106) hx hb dX10_setCoding_96 (by decide) (fun cc_58 => ?_) (fun cc_58 => ?_)
                    · refine lv_iconst (v := 0) hx hb dX10_setCoding_106 (by decide) ?_
                      exact hk_zret (u := g) hx hb hr rfl hlocks (hw) (by simp only [Int32.lt_iff_toInt_lt, Int32.le_iff_toInt_le, ← Int32.toInt_inj, hk_t0, hk_t1, hk_t2, hk_t3, hk_t4, hk_t5, hk_t6, hk_t7, hk_t8, hk_t9, hk_t10, hk_t11, hk_t12, hk_t13, hk_t14, hk_t15, hk_t16, hk_t17, hk_t18, hk_t20, hk_t32, hk_tm1, hk_t256, hk_t1500, hk_t4096, hk_t2000, hk_t3000, hk_t512, hk_t1024, true_and, and_true, false_and, and_false, true_or, or_true, false_or, or_false, not_true_eq_false, not_false_eq_true] at cc_1 cc_2 cc_24 cc_46 cc_47 cc_54 cc_55 cc_56 cc_57 cc_58 ⊢; omega) dX10_setCoding_107
                    · refine lv_aload_n hx hb dX10_setCoding_99 rfl (lv_at hl 0 rfl) ?_
                      refine lv_iload_n hx hb dX10_setCoding_100 rfl (lv_at hl 2 rfl) ?_
                      refine hk_put (ci := 13) (C := RX10) (T := TX10) (N := 10) (ty := .int) (v := .int v) hx hb hts iX10 tyX10 tyX10_ok nmX10 hown hw 1 rfl rfl 3 (by decide) (hts _ (List.mem_of_getElem? (i := 1) rfl)) rfl (by decide +kernel) rfl rfl (Nat.le_of_ble_eq_true rfl) dX10_setCoding_101 (ws' := xw cI cJ ad (upd g 6 v) lg ar bk) rfl (fun H locs hw => ?_)
                      refine lv_iconst (v := 1) hx hb dX10_setCoding_104 (by decide) ?_
                      exact hk_zret (u := (upd g 6 v)) hx hb hr rfl hlocks (hw) (by simp only [Int32.lt_iff_toInt_lt, Int32.le_iff_toInt_le, ← Int32.toInt_inj, hk_t0, hk_t1, hk_t2, hk_t3, hk_t4, hk_t5, hk_t6, hk_t7, hk_t8, hk_t9, hk_t10, hk_t11, hk_t12, hk_t13, hk_t14, hk_t15, hk_t16, hk_t17, hk_t18, hk_t20, hk_t32, hk_tm1, hk_t256, hk_t1500, hk_t4096, hk_t2000, hk_t3000, hk_t512, hk_t1024, true_and, and_true, false_and, and_false, true_or, or_true, false_or, or_false, not_true_eq_false, not_false_eq_true] at cc_1 cc_2 cc_24 cc_46 cc_47 cc_54 cc_55 cc_56 cc_57 cc_58 ⊢; omega) dX10_setCoding_105
                · refine lv_sipush (v := 4096) hx hb dX10_setCoding_82 (by decide) ?_
                  refine lv_goto (tgt := 89) hx hb dX10_setCoding_85 (by decide) ?_
                  refine lv_icmp_lt (tgt := 106) hx hb dX10_setCoding_89 (by decide) (fun cc_59 => ?_) (fun cc_59 => ?_)
                  · refine lv_iconst (v := 0) hx hb dX10_setCoding_106 (by decide) ?_
                    exact hk_zret (u := g) hx hb hr rfl hlocks (hw) (by simp only [Int32.lt_iff_toInt_lt, Int32.le_iff_toInt_le, ← Int32.toInt_inj, hk_t0, hk_t1, hk_t2, hk_t3, hk_t4, hk_t5, hk_t6, hk_t7, hk_t8, hk_t9, hk_t10, hk_t11, hk_t12, hk_t13, hk_t14, hk_t15, hk_t16, hk_t17, hk_t18, hk_t20, hk_t32, hk_tm1, hk_t256, hk_t1500, hk_t4096, hk_t2000, hk_t3000, hk_t512, hk_t1024, true_and, and_true, false_and, and_false, true_or, or_true, false_or, or_false, not_true_eq_false, not_false_eq_true] at cc_1 cc_2 cc_24 cc_46 cc_47 cc_54 cc_55 cc_56 cc_59 ⊢; omega) dX10_setCoding_107
                  · refine lv_iload_n hx hb dX10_setCoding_92 rfl (lv_at hl 2 rfl) ?_
                    refine lv_sipush (v := 4096) hx hb dX10_setCoding_93 (by decide) ?_
                    refine lv_icmp_gt (tgt := 106) hx hb dX10_setCoding_96 (by decide) (fun cc_60 => ?_) (fun cc_60 => ?_)
                    · refine lv_iconst (v := 0) hx hb dX10_setCoding_106 (by decide) ?_
                      exact hk_zret (u := g) hx hb hr rfl hlocks (hw) (by simp only [Int32.lt_iff_toInt_lt, Int32.le_iff_toInt_le, ← Int32.toInt_inj, hk_t0, hk_t1, hk_t2, hk_t3, hk_t4, hk_t5, hk_t6, hk_t7, hk_t8, hk_t9, hk_t10, hk_t11, hk_t12, hk_t13, hk_t14, hk_t15, hk_t16, hk_t17, hk_t18, hk_t20, hk_t32, hk_tm1, hk_t256, hk_t1500, hk_t4096, hk_t2000, hk_t3000, hk_t512, hk_t1024, true_and, and_true, false_and, and_false, true_or, or_true, false_or, or_false, not_true_eq_false, not_false_eq_true] at cc_1 cc_2 cc_24 cc_46 cc_47 cc_54 cc_55 cc_56 cc_59 cc_60 ⊢; omega) dX10_setCoding_107
                    · refine lv_aload_n hx hb dX10_setCoding_99 rfl (lv_at hl 0 rfl) ?_
                      refine lv_iload_n hx hb dX10_setCoding_100 rfl (lv_at hl 2 rfl) ?_
                      refine hk_put (ci := 13) (C := RX10) (T := TX10) (N := 10) (ty := .int) (v := .int v) hx hb hts iX10 tyX10 tyX10_ok nmX10 hown hw 1 rfl rfl 3 (by decide) (hts _ (List.mem_of_getElem? (i := 1) rfl)) rfl (by decide +kernel) rfl rfl (Nat.le_of_ble_eq_true rfl) dX10_setCoding_101 (ws' := xw cI cJ ad (upd g 6 v) lg ar bk) rfl (fun H locs hw => ?_)
                      refine lv_iconst (v := 1) hx hb dX10_setCoding_104 (by decide) ?_
                      exact hk_zret (u := (upd g 6 v)) hx hb hr rfl hlocks (hw) (by simp only [Int32.lt_iff_toInt_lt, Int32.le_iff_toInt_le, ← Int32.toInt_inj, hk_t0, hk_t1, hk_t2, hk_t3, hk_t4, hk_t5, hk_t6, hk_t7, hk_t8, hk_t9, hk_t10, hk_t11, hk_t12, hk_t13, hk_t14, hk_t15, hk_t16, hk_t17, hk_t18, hk_t20, hk_t32, hk_tm1, hk_t256, hk_t1500, hk_t4096, hk_t2000, hk_t3000, hk_t512, hk_t1024, true_and, and_true, false_and, and_false, true_or, or_true, false_or, or_false, not_true_eq_false, not_false_eq_true] at cc_1 cc_2 cc_24 cc_46 cc_47 cc_54 cc_55 cc_56 cc_59 cc_60 ⊢; omega) dX10_setCoding_105
            · refine lv_iload_n hx hb dX10_setCoding_60 rfl (lv_at hl 2 rfl) ?_
              refine lv_iconst (v := 4) hx hb dX10_setCoding_61 (by decide) ?_
              refine lv_icmp_gt (tgt := 72) hx hb dX10_setCoding_62 (by decide) (fun cc_61 => ?_) (fun cc_61 => ?_)
              · refine lv_iload_n hx hb dX10_setCoding_72 rfl (lv_at hl 1 rfl) ?_
                refine lv_iconst (v := 3) hx hb dX10_setCoding_73 (by decide) ?_
                refine lv_icmp_ne (tgt := 106) hx hb dX10_setCoding_74 (by decide) (fun cc_62 => ?_) (fun cc_62 => ?_)
                · refine lv_iconst (v := 0) hx hb dX10_setCoding_106 (by decide) ?_
                  exact hk_zret (u := g) hx hb hr rfl hlocks (hw) (by simp only [Int32.lt_iff_toInt_lt, Int32.le_iff_toInt_le, ← Int32.toInt_inj, hk_t0, hk_t1, hk_t2, hk_t3, hk_t4, hk_t5, hk_t6, hk_t7, hk_t8, hk_t9, hk_t10, hk_t11, hk_t12, hk_t13, hk_t14, hk_t15, hk_t16, hk_t17, hk_t18, hk_t20, hk_t32, hk_tm1, hk_t256, hk_t1500, hk_t4096, hk_t2000, hk_t3000, hk_t512, hk_t1024, true_and, and_true, false_and, and_false, true_or, or_true, false_or, or_false, not_true_eq_false, not_false_eq_true] at cc_1 cc_2 cc_24 cc_46 cc_47 cc_54 cc_61 cc_62 ⊢; omega) dX10_setCoding_107
                · refine lv_iload_n hx hb dX10_setCoding_77 rfl (lv_at hl 2 rfl) ?_
                  refine lv_iload_n hx hb dX10_setCoding_78 rfl (lv_at hl 3 rfl) ?_
                  refine lv_if_eq (tgt := 88) hx hb dX10_setCoding_79 (by decide) (fun cc_63 => ?_) (fun cc_63 => ?_)
                  · refine lv_iconst (v := 1) hx hb dX10_setCoding_88 (by decide) ?_
                    refine lv_icmp_lt (tgt := 106) hx hb dX10_setCoding_89 (by decide) (fun cc_64 => ?_) (fun cc_64 => ?_)
                    · refine lv_iconst (v := 0) hx hb dX10_setCoding_106 (by decide) ?_
                      exact hk_zret (u := g) hx hb hr rfl hlocks (hw) (by simp only [Int32.lt_iff_toInt_lt, Int32.le_iff_toInt_le, ← Int32.toInt_inj, hk_t0, hk_t1, hk_t2, hk_t3, hk_t4, hk_t5, hk_t6, hk_t7, hk_t8, hk_t9, hk_t10, hk_t11, hk_t12, hk_t13, hk_t14, hk_t15, hk_t16, hk_t17, hk_t18, hk_t20, hk_t32, hk_tm1, hk_t256, hk_t1500, hk_t4096, hk_t2000, hk_t3000, hk_t512, hk_t1024, true_and, and_true, false_and, and_false, true_or, or_true, false_or, or_false, not_true_eq_false, not_false_eq_true] at cc_1 cc_2 cc_24 cc_46 cc_47 cc_54 cc_61 cc_62 cc_63 cc_64 ⊢; omega) dX10_setCoding_107
                    · refine lv_iload_n hx hb dX10_setCoding_92 rfl (lv_at hl 2 rfl) ?_
                      refine lv_sipush (v := 4096) hx hb dX10_setCoding_93 (by decide) ?_
                      refine lv_icmp_gt (tgt := 106) hx hb dX10_setCoding_96 (by decide) (fun cc_65 => ?_) (fun cc_65 => ?_)
                      · refine lv_iconst (v := 0) hx hb dX10_setCoding_106 (by decide) ?_
                        exact hk_zret (u := g) hx hb hr rfl hlocks (hw) (by simp only [Int32.lt_iff_toInt_lt, Int32.le_iff_toInt_le, ← Int32.toInt_inj, hk_t0, hk_t1, hk_t2, hk_t3, hk_t4, hk_t5, hk_t6, hk_t7, hk_t8, hk_t9, hk_t10, hk_t11, hk_t12, hk_t13, hk_t14, hk_t15, hk_t16, hk_t17, hk_t18, hk_t20, hk_t32, hk_tm1, hk_t256, hk_t1500, hk_t4096, hk_t2000, hk_t3000, hk_t512, hk_t1024, true_and, and_true, false_and, and_false, true_or, or_true, false_or, or_false, not_true_eq_false, not_false_eq_true] at cc_1 cc_2 cc_24 cc_46 cc_47 cc_54 cc_61 cc_62 cc_63 cc_64 cc_65 ⊢; omega) dX10_setCoding_107
                      · refine lv_aload_n hx hb dX10_setCoding_99 rfl (lv_at hl 0 rfl) ?_
                        refine lv_iload_n hx hb dX10_setCoding_100 rfl (lv_at hl 2 rfl) ?_
                        refine hk_put (ci := 13) (C := RX10) (T := TX10) (N := 10) (ty := .int) (v := .int v) hx hb hts iX10 tyX10 tyX10_ok nmX10 hown hw 1 rfl rfl 3 (by decide) (hts _ (List.mem_of_getElem? (i := 1) rfl)) rfl (by decide +kernel) rfl rfl (Nat.le_of_ble_eq_true rfl) dX10_setCoding_101 (ws' := xw cI cJ ad (upd g 6 v) lg ar bk) rfl (fun H locs hw => ?_)
                        refine lv_iconst (v := 1) hx hb dX10_setCoding_104 (by decide) ?_
                        exact hk_zret (u := (upd g 6 v)) hx hb hr rfl hlocks (hw) (by simp only [Int32.lt_iff_toInt_lt, Int32.le_iff_toInt_le, ← Int32.toInt_inj, hk_t0, hk_t1, hk_t2, hk_t3, hk_t4, hk_t5, hk_t6, hk_t7, hk_t8, hk_t9, hk_t10, hk_t11, hk_t12, hk_t13, hk_t14, hk_t15, hk_t16, hk_t17, hk_t18, hk_t20, hk_t32, hk_tm1, hk_t256, hk_t1500, hk_t4096, hk_t2000, hk_t3000, hk_t512, hk_t1024, true_and, and_true, false_and, and_false, true_or, or_true, false_or, or_false, not_true_eq_false, not_false_eq_true] at cc_1 cc_2 cc_24 cc_46 cc_47 cc_54 cc_61 cc_62 cc_63 cc_64 cc_65 ⊢; omega) dX10_setCoding_105
                  · refine lv_sipush (v := 4096) hx hb dX10_setCoding_82 (by decide) ?_
                    refine lv_goto (tgt := 89) hx hb dX10_setCoding_85 (by decide) ?_
                    refine lv_icmp_lt (tgt := 106) hx hb dX10_setCoding_89 (by decide) (fun cc_66 => ?_) (fun cc_66 => ?_)
                    · refine lv_iconst (v := 0) hx hb dX10_setCoding_106 (by decide) ?_
                      exact hk_zret (u := g) hx hb hr rfl hlocks (hw) (by simp only [Int32.lt_iff_toInt_lt, Int32.le_iff_toInt_le, ← Int32.toInt_inj, hk_t0, hk_t1, hk_t2, hk_t3, hk_t4, hk_t5, hk_t6, hk_t7, hk_t8, hk_t9, hk_t10, hk_t11, hk_t12, hk_t13, hk_t14, hk_t15, hk_t16, hk_t17, hk_t18, hk_t20, hk_t32, hk_tm1, hk_t256, hk_t1500, hk_t4096, hk_t2000, hk_t3000, hk_t512, hk_t1024, true_and, and_true, false_and, and_false, true_or, or_true, false_or, or_false, not_true_eq_false, not_false_eq_true] at cc_1 cc_2 cc_24 cc_46 cc_47 cc_54 cc_61 cc_62 cc_63 cc_66 ⊢; omega) dX10_setCoding_107
                    · refine lv_iload_n hx hb dX10_setCoding_92 rfl (lv_at hl 2 rfl) ?_
                      refine lv_sipush (v := 4096) hx hb dX10_setCoding_93 (by decide) ?_
                      refine lv_icmp_gt (tgt := 106) hx hb dX10_setCoding_96 (by decide) (fun cc_67 => ?_) (fun cc_67 => ?_)
                      · refine lv_iconst (v := 0) hx hb dX10_setCoding_106 (by decide) ?_
                        exact hk_zret (u := g) hx hb hr rfl hlocks (hw) (by simp only [Int32.lt_iff_toInt_lt, Int32.le_iff_toInt_le, ← Int32.toInt_inj, hk_t0, hk_t1, hk_t2, hk_t3, hk_t4, hk_t5, hk_t6, hk_t7, hk_t8, hk_t9, hk_t10, hk_t11, hk_t12, hk_t13, hk_t14, hk_t15, hk_t16, hk_t17, hk_t18, hk_t20, hk_t32, hk_tm1, hk_t256, hk_t1500, hk_t4096, hk_t2000, hk_t3000, hk_t512, hk_t1024, true_and, and_true, false_and, and_false, true_or, or_true, false_or, or_false, not_true_eq_false, not_false_eq_true] at cc_1 cc_2 cc_24 cc_46 cc_47 cc_54 cc_61 cc_62 cc_63 cc_66 cc_67 ⊢; omega) dX10_setCoding_107
                      · refine lv_aload_n hx hb dX10_setCoding_99 rfl (lv_at hl 0 rfl) ?_
                        refine lv_iload_n hx hb dX10_setCoding_100 rfl (lv_at hl 2 rfl) ?_
                        refine hk_put (ci := 13) (C := RX10) (T := TX10) (N := 10) (ty := .int) (v := .int v) hx hb hts iX10 tyX10 tyX10_ok nmX10 hown hw 1 rfl rfl 3 (by decide) (hts _ (List.mem_of_getElem? (i := 1) rfl)) rfl (by decide +kernel) rfl rfl (Nat.le_of_ble_eq_true rfl) dX10_setCoding_101 (ws' := xw cI cJ ad (upd g 6 v) lg ar bk) rfl (fun H locs hw => ?_)
                        refine lv_iconst (v := 1) hx hb dX10_setCoding_104 (by decide) ?_
                        exact hk_zret (u := (upd g 6 v)) hx hb hr rfl hlocks (hw) (by simp only [Int32.lt_iff_toInt_lt, Int32.le_iff_toInt_le, ← Int32.toInt_inj, hk_t0, hk_t1, hk_t2, hk_t3, hk_t4, hk_t5, hk_t6, hk_t7, hk_t8, hk_t9, hk_t10, hk_t11, hk_t12, hk_t13, hk_t14, hk_t15, hk_t16, hk_t17, hk_t18, hk_t20, hk_t32, hk_tm1, hk_t256, hk_t1500, hk_t4096, hk_t2000, hk_t3000, hk_t512, hk_t1024, true_and, and_true, false_and, and_false, true_or, or_true, false_or, or_false, not_true_eq_false, not_false_eq_true] at cc_1 cc_2 cc_24 cc_46 cc_47 cc_54 cc_61 cc_62 cc_63 cc_66 cc_67 ⊢; omega) dX10_setCoding_105
              · refine lv_aload_n hx hb dX10_setCoding_65 rfl (lv_at hl 0 rfl) ?_
                refine lv_iload_n hx hb dX10_setCoding_66 rfl (lv_at hl 2 rfl) ?_
                refine hk_put (ci := 13) (C := RX10) (T := TX10) (N := 10) (ty := .int) (v := .int v) hx hb hts iX10 tyX10 tyX10_ok nmX10 hown hw 1 rfl rfl 2 (by decide) (hts _ (List.mem_of_getElem? (i := 2) rfl)) rfl (by decide +kernel) rfl rfl (Nat.le_of_ble_eq_true rfl) dX10_setCoding_67 (ws' := xw cI cJ ad (upd g 5 v) lg ar bk) rfl (fun H locs hw => ?_)
                refine lv_iconst (v := 1) hx hb dX10_setCoding_70 (by decide) ?_
                exact hk_zret (u := (upd g 5 v)) hx hb hr rfl hlocks (hw) (by simp only [Int32.lt_iff_toInt_lt, Int32.le_iff_toInt_le, ← Int32.toInt_inj, hk_t0, hk_t1, hk_t2, hk_t3, hk_t4, hk_t5, hk_t6, hk_t7, hk_t8, hk_t9, hk_t10, hk_t11, hk_t12, hk_t13, hk_t14, hk_t15, hk_t16, hk_t17, hk_t18, hk_t20, hk_t32, hk_tm1, hk_t256, hk_t1500, hk_t4096, hk_t2000, hk_t3000, hk_t512, hk_t1024, true_and, and_true, false_and, and_false, true_or, or_true, false_or, or_false, not_true_eq_false, not_false_eq_true] at cc_1 cc_2 cc_24 cc_46 cc_47 cc_54 cc_61 ⊢; omega) dX10_setCoding_71
        · refine lv_aload_n hx hb dX10_setCoding_44 rfl (lv_at hl 0 rfl) ?_
          refine lv_iload_n hx hb dX10_setCoding_45 rfl (lv_at hl 2 rfl) ?_
          refine hk_put (ci := 13) (C := RX10) (T := TX10) (N := 10) (ty := .int) (v := .int v) hx hb hts iX10 tyX10 tyX10_ok nmX10 hown hw 1 rfl rfl 1 (by decide) (hts _ (List.mem_of_getElem? (i := 4) rfl)) rfl (by decide +kernel) rfl rfl (Nat.le_of_ble_eq_true rfl) dX10_setCoding_46 (ws' := xw cI cJ ad (upd g 4 v) lg ar bk) rfl (fun H locs hw => ?_)
          refine lv_iconst (v := 1) hx hb dX10_setCoding_49 (by decide) ?_
          exact hk_zret (u := (upd g 4 v)) hx hb hr rfl hlocks (hw) (by simp only [Int32.lt_iff_toInt_lt, Int32.le_iff_toInt_le, ← Int32.toInt_inj, hk_t0, hk_t1, hk_t2, hk_t3, hk_t4, hk_t5, hk_t6, hk_t7, hk_t8, hk_t9, hk_t10, hk_t11, hk_t12, hk_t13, hk_t14, hk_t15, hk_t16, hk_t17, hk_t18, hk_t20, hk_t32, hk_tm1, hk_t256, hk_t1500, hk_t4096, hk_t2000, hk_t3000, hk_t512, hk_t1024, true_and, and_true, false_and, and_false, true_or, or_true, false_or, or_false, not_true_eq_false, not_false_eq_true] at cc_1 cc_2 cc_24 cc_46 ⊢; omega) dX10_setCoding_50
  · refine lv_iload_n hx hb dX10_setCoding_4 rfl (lv_at hl 2 rfl) ?_
    refine lv_if_lt (tgt := 25) hx hb dX10_setCoding_5 (by decide) (fun cc_68 => ?_) (fun cc_68 => ?_)
    · refine lv_iload_n hx hb dX10_setCoding_25 rfl (lv_at hl 1 rfl) ?_
      refine lv_iconst (v := 1) hx hb dX10_setCoding_26 (by decide) ?_
      refine lv_icmp_ne (tgt := 51) hx hb dX10_setCoding_27 (by decide) (fun cc_69 => ?_) (fun cc_69 => ?_)
      · refine lv_iload_n hx hb dX10_setCoding_51 rfl (lv_at hl 1 rfl) ?_
        refine lv_iconst (v := 2) hx hb dX10_setCoding_52 (by decide) ?_
        refine lv_icmp_ne (tgt := 72) hx hb dX10_setCoding_53 (by decide) (fun cc_70 => ?_) (fun cc_70 => ?_)
        · refine lv_iload_n hx hb dX10_setCoding_72 rfl (lv_at hl 1 rfl) ?_
          refine lv_iconst (v := 3) hx hb dX10_setCoding_73 (by decide) ?_
          refine lv_icmp_ne (tgt := 106) hx hb dX10_setCoding_74 (by decide) (fun cc_71 => ?_) (fun cc_71 => ?_)
          · refine lv_iconst (v := 0) hx hb dX10_setCoding_106 (by decide) ?_
            exact hk_zret (u := g) hx hb hr rfl hlocks (hw) (by simp only [Int32.lt_iff_toInt_lt, Int32.le_iff_toInt_le, ← Int32.toInt_inj, hk_t0, hk_t1, hk_t2, hk_t3, hk_t4, hk_t5, hk_t6, hk_t7, hk_t8, hk_t9, hk_t10, hk_t11, hk_t12, hk_t13, hk_t14, hk_t15, hk_t16, hk_t17, hk_t18, hk_t20, hk_t32, hk_tm1, hk_t256, hk_t1500, hk_t4096, hk_t2000, hk_t3000, hk_t512, hk_t1024, true_and, and_true, false_and, and_false, true_or, or_true, false_or, or_false, not_true_eq_false, not_false_eq_true] at cc_1 cc_68 cc_69 cc_70 cc_71 ⊢; omega) dX10_setCoding_107
          · refine lv_iload_n hx hb dX10_setCoding_77 rfl (lv_at hl 2 rfl) ?_
            refine lv_iload_n hx hb dX10_setCoding_78 rfl (lv_at hl 3 rfl) ?_
            refine lv_if_eq (tgt := 88) hx hb dX10_setCoding_79 (by decide) (fun cc_72 => ?_) (fun cc_72 => ?_)
            · refine lv_iconst (v := 1) hx hb dX10_setCoding_88 (by decide) ?_
              refine lv_icmp_lt (tgt := 106) hx hb dX10_setCoding_89 (by decide) (fun cc_73 => ?_) (fun cc_73 => ?_)
              · refine lv_iconst (v := 0) hx hb dX10_setCoding_106 (by decide) ?_
                exact hk_zret (u := g) hx hb hr rfl hlocks (hw) (by simp only [Int32.lt_iff_toInt_lt, Int32.le_iff_toInt_le, ← Int32.toInt_inj, hk_t0, hk_t1, hk_t2, hk_t3, hk_t4, hk_t5, hk_t6, hk_t7, hk_t8, hk_t9, hk_t10, hk_t11, hk_t12, hk_t13, hk_t14, hk_t15, hk_t16, hk_t17, hk_t18, hk_t20, hk_t32, hk_tm1, hk_t256, hk_t1500, hk_t4096, hk_t2000, hk_t3000, hk_t512, hk_t1024, true_and, and_true, false_and, and_false, true_or, or_true, false_or, or_false, not_true_eq_false, not_false_eq_true] at cc_1 cc_68 cc_69 cc_70 cc_71 cc_72 cc_73 ⊢; omega) dX10_setCoding_107
              · refine lv_iload_n hx hb dX10_setCoding_92 rfl (lv_at hl 2 rfl) ?_
                refine lv_sipush (v := 4096) hx hb dX10_setCoding_93 (by decide) ?_
                refine lv_icmp_gt (tgt := 106) hx hb dX10_setCoding_96 (by decide) (fun cc_74 => ?_) (fun cc_74 => ?_)
                · refine lv_iconst (v := 0) hx hb dX10_setCoding_106 (by decide) ?_
                  exact hk_zret (u := g) hx hb hr rfl hlocks (hw) (by simp only [Int32.lt_iff_toInt_lt, Int32.le_iff_toInt_le, ← Int32.toInt_inj, hk_t0, hk_t1, hk_t2, hk_t3, hk_t4, hk_t5, hk_t6, hk_t7, hk_t8, hk_t9, hk_t10, hk_t11, hk_t12, hk_t13, hk_t14, hk_t15, hk_t16, hk_t17, hk_t18, hk_t20, hk_t32, hk_tm1, hk_t256, hk_t1500, hk_t4096, hk_t2000, hk_t3000, hk_t512, hk_t1024, true_and, and_true, false_and, and_false, true_or, or_true, false_or, or_false, not_true_eq_false, not_false_eq_true] at cc_1 cc_68 cc_69 cc_70 cc_71 cc_72 cc_73 cc_74 ⊢; omega) dX10_setCoding_107
                · refine lv_aload_n hx hb dX10_setCoding_99 rfl (lv_at hl 0 rfl) ?_
                  refine lv_iload_n hx hb dX10_setCoding_100 rfl (lv_at hl 2 rfl) ?_
                  refine hk_put (ci := 13) (C := RX10) (T := TX10) (N := 10) (ty := .int) (v := .int v) hx hb hts iX10 tyX10 tyX10_ok nmX10 hown hw 1 rfl rfl 3 (by decide) (hts _ (List.mem_of_getElem? (i := 1) rfl)) rfl (by decide +kernel) rfl rfl (Nat.le_of_ble_eq_true rfl) dX10_setCoding_101 (ws' := xw cI cJ ad (upd g 6 v) lg ar bk) rfl (fun H locs hw => ?_)
                  refine lv_iconst (v := 1) hx hb dX10_setCoding_104 (by decide) ?_
                  exact hk_zret (u := (upd g 6 v)) hx hb hr rfl hlocks (hw) (by simp only [Int32.lt_iff_toInt_lt, Int32.le_iff_toInt_le, ← Int32.toInt_inj, hk_t0, hk_t1, hk_t2, hk_t3, hk_t4, hk_t5, hk_t6, hk_t7, hk_t8, hk_t9, hk_t10, hk_t11, hk_t12, hk_t13, hk_t14, hk_t15, hk_t16, hk_t17, hk_t18, hk_t20, hk_t32, hk_tm1, hk_t256, hk_t1500, hk_t4096, hk_t2000, hk_t3000, hk_t512, hk_t1024, true_and, and_true, false_and, and_false, true_or, or_true, false_or, or_false, not_true_eq_false, not_false_eq_true] at cc_1 cc_68 cc_69 cc_70 cc_71 cc_72 cc_73 cc_74 ⊢; omega) dX10_setCoding_105
            · refine lv_sipush (v := 4096) hx hb dX10_setCoding_82 (by decide) ?_
              refine lv_goto (tgt := 89) hx hb dX10_setCoding_85 (by decide) ?_
              refine lv_icmp_lt (tgt := 106) hx hb dX10_setCoding_89 (by decide) (fun cc_75 => ?_) (fun cc_75 => ?_)
              · refine lv_iconst (v := 0) hx hb dX10_setCoding_106 (by decide) ?_
                exact hk_zret (u := g) hx hb hr rfl hlocks (hw) (by simp only [Int32.lt_iff_toInt_lt, Int32.le_iff_toInt_le, ← Int32.toInt_inj, hk_t0, hk_t1, hk_t2, hk_t3, hk_t4, hk_t5, hk_t6, hk_t7, hk_t8, hk_t9, hk_t10, hk_t11, hk_t12, hk_t13, hk_t14, hk_t15, hk_t16, hk_t17, hk_t18, hk_t20, hk_t32, hk_tm1, hk_t256, hk_t1500, hk_t4096, hk_t2000, hk_t3000, hk_t512, hk_t1024, true_and, and_true, false_and, and_false, true_or, or_true, false_or, or_false, not_true_eq_false, not_false_eq_true] at cc_1 cc_68 cc_69 cc_70 cc_71 cc_72 cc_75 ⊢; omega) dX10_setCoding_107
              · refine lv_iload_n hx hb dX10_setCoding_92 rfl (lv_at hl 2 rfl) ?_
                refine lv_sipush (v := 4096) hx hb dX10_setCoding_93 (by decide) ?_
                refine lv_icmp_gt (tgt := 106) hx hb dX10_setCoding_96 (by decide) (fun cc_76 => ?_) (fun cc_76 => ?_)
                · refine lv_iconst (v := 0) hx hb dX10_setCoding_106 (by decide) ?_
                  exact hk_zret (u := g) hx hb hr rfl hlocks (hw) (by simp only [Int32.lt_iff_toInt_lt, Int32.le_iff_toInt_le, ← Int32.toInt_inj, hk_t0, hk_t1, hk_t2, hk_t3, hk_t4, hk_t5, hk_t6, hk_t7, hk_t8, hk_t9, hk_t10, hk_t11, hk_t12, hk_t13, hk_t14, hk_t15, hk_t16, hk_t17, hk_t18, hk_t20, hk_t32, hk_tm1, hk_t256, hk_t1500, hk_t4096, hk_t2000, hk_t3000, hk_t512, hk_t1024, true_and, and_true, false_and, and_false, true_or, or_true, false_or, or_false, not_true_eq_false, not_false_eq_true] at cc_1 cc_68 cc_69 cc_70 cc_71 cc_72 cc_75 cc_76 ⊢; omega) dX10_setCoding_107
                · refine lv_aload_n hx hb dX10_setCoding_99 rfl (lv_at hl 0 rfl) ?_
                  refine lv_iload_n hx hb dX10_setCoding_100 rfl (lv_at hl 2 rfl) ?_
                  refine hk_put (ci := 13) (C := RX10) (T := TX10) (N := 10) (ty := .int) (v := .int v) hx hb hts iX10 tyX10 tyX10_ok nmX10 hown hw 1 rfl rfl 3 (by decide) (hts _ (List.mem_of_getElem? (i := 1) rfl)) rfl (by decide +kernel) rfl rfl (Nat.le_of_ble_eq_true rfl) dX10_setCoding_101 (ws' := xw cI cJ ad (upd g 6 v) lg ar bk) rfl (fun H locs hw => ?_)
                  refine lv_iconst (v := 1) hx hb dX10_setCoding_104 (by decide) ?_
                  exact hk_zret (u := (upd g 6 v)) hx hb hr rfl hlocks (hw) (by simp only [Int32.lt_iff_toInt_lt, Int32.le_iff_toInt_le, ← Int32.toInt_inj, hk_t0, hk_t1, hk_t2, hk_t3, hk_t4, hk_t5, hk_t6, hk_t7, hk_t8, hk_t9, hk_t10, hk_t11, hk_t12, hk_t13, hk_t14, hk_t15, hk_t16, hk_t17, hk_t18, hk_t20, hk_t32, hk_tm1, hk_t256, hk_t1500, hk_t4096, hk_t2000, hk_t3000, hk_t512, hk_t1024, true_and, and_true, false_and, and_false, true_or, or_true, false_or, or_false, not_true_eq_false, not_false_eq_true] at cc_1 cc_68 cc_69 cc_70 cc_71 cc_72 cc_75 cc_76 ⊢; omega) dX10_setCoding_105
        · refine lv_iload_n hx hb dX10_setCoding_56 rfl (lv_at hl 2 rfl) ?_
          refine lv_if_lt (tgt := 72) hx hb dX10_setCoding_57 (by decide) (fun cc_77 => ?_) (fun cc_77 => ?_)
          · refine lv_iload_n hx hb dX10_setCoding_72 rfl (lv_at hl 1 rfl) ?_
            refine lv_iconst (v := 3) hx hb dX10_setCoding_73 (by decide) ?_
            refine lv_icmp_ne (tgt := 106) hx hb dX10_setCoding_74 (by decide) (fun cc_78 => ?_) (fun cc_78 => ?_)
            · refine lv_iconst (v := 0) hx hb dX10_setCoding_106 (by decide) ?_
              exact hk_zret (u := g) hx hb hr rfl hlocks (hw) (by simp only [Int32.lt_iff_toInt_lt, Int32.le_iff_toInt_le, ← Int32.toInt_inj, hk_t0, hk_t1, hk_t2, hk_t3, hk_t4, hk_t5, hk_t6, hk_t7, hk_t8, hk_t9, hk_t10, hk_t11, hk_t12, hk_t13, hk_t14, hk_t15, hk_t16, hk_t17, hk_t18, hk_t20, hk_t32, hk_tm1, hk_t256, hk_t1500, hk_t4096, hk_t2000, hk_t3000, hk_t512, hk_t1024, true_and, and_true, false_and, and_false, true_or, or_true, false_or, or_false, not_true_eq_false, not_false_eq_true] at cc_1 cc_68 cc_69 cc_70 cc_77 cc_78 ⊢; omega) dX10_setCoding_107
            · refine lv_iload_n hx hb dX10_setCoding_77 rfl (lv_at hl 2 rfl) ?_
              refine lv_iload_n hx hb dX10_setCoding_78 rfl (lv_at hl 3 rfl) ?_
              refine lv_if_eq (tgt := 88) hx hb dX10_setCoding_79 (by decide) (fun cc_79 => ?_) (fun cc_79 => ?_)
              · refine lv_iconst (v := 1) hx hb dX10_setCoding_88 (by decide) ?_
                refine lv_icmp_lt (tgt := 106) hx hb dX10_setCoding_89 (by decide) (fun cc_80 => ?_) (fun cc_80 => ?_)
                · refine lv_iconst (v := 0) hx hb dX10_setCoding_106 (by decide) ?_
                  exact hk_zret (u := g) hx hb hr rfl hlocks (hw) (by simp only [Int32.lt_iff_toInt_lt, Int32.le_iff_toInt_le, ← Int32.toInt_inj, hk_t0, hk_t1, hk_t2, hk_t3, hk_t4, hk_t5, hk_t6, hk_t7, hk_t8, hk_t9, hk_t10, hk_t11, hk_t12, hk_t13, hk_t14, hk_t15, hk_t16, hk_t17, hk_t18, hk_t20, hk_t32, hk_tm1, hk_t256, hk_t1500, hk_t4096, hk_t2000, hk_t3000, hk_t512, hk_t1024, true_and, and_true, false_and, and_false, true_or, or_true, false_or, or_false, not_true_eq_false, not_false_eq_true] at cc_1 cc_68 cc_69 cc_70 cc_77 cc_78 cc_79 cc_80 ⊢; omega) dX10_setCoding_107
                · refine lv_iload_n hx hb dX10_setCoding_92 rfl (lv_at hl 2 rfl) ?_
                  refine lv_sipush (v := 4096) hx hb dX10_setCoding_93 (by decide) ?_
                  refine lv_icmp_gt (tgt := 106) hx hb dX10_setCoding_96 (by decide) (fun cc_81 => ?_) (fun cc_81 => ?_)
                  · refine lv_iconst (v := 0) hx hb dX10_setCoding_106 (by decide) ?_
                    exact hk_zret (u := g) hx hb hr rfl hlocks (hw) (by simp only [Int32.lt_iff_toInt_lt, Int32.le_iff_toInt_le, ← Int32.toInt_inj, hk_t0, hk_t1, hk_t2, hk_t3, hk_t4, hk_t5, hk_t6, hk_t7, hk_t8, hk_t9, hk_t10, hk_t11, hk_t12, hk_t13, hk_t14, hk_t15, hk_t16, hk_t17, hk_t18, hk_t20, hk_t32, hk_tm1, hk_t256, hk_t1500, hk_t4096, hk_t2000, hk_t3000, hk_t512, hk_t1024, true_and, and_true, false_and, and_false, true_or, or_true, false_or, or_false, not_true_eq_false, not_false_eq_true] at cc_1 cc_68 cc_69 cc_70 cc_77 cc_78 cc_79 cc_80 cc_81 ⊢; omega) dX10_setCoding_107
                  · refine lv_aload_n hx hb dX10_setCoding_99 rfl (lv_at hl 0 rfl) ?_
                    refine lv_iload_n hx hb dX10_setCoding_100 rfl (lv_at hl 2 rfl) ?_
                    refine hk_put (ci := 13) (C := RX10) (T := TX10) (N := 10) (ty := .int) (v := .int v) hx hb hts iX10 tyX10 tyX10_ok nmX10 hown hw 1 rfl rfl 3 (by decide) (hts _ (List.mem_of_getElem? (i := 1) rfl)) rfl (by decide +kernel) rfl rfl (Nat.le_of_ble_eq_true rfl) dX10_setCoding_101 (ws' := xw cI cJ ad (upd g 6 v) lg ar bk) rfl (fun H locs hw => ?_)
                    refine lv_iconst (v := 1) hx hb dX10_setCoding_104 (by decide) ?_
                    exact hk_zret (u := (upd g 6 v)) hx hb hr rfl hlocks (hw) (by simp only [Int32.lt_iff_toInt_lt, Int32.le_iff_toInt_le, ← Int32.toInt_inj, hk_t0, hk_t1, hk_t2, hk_t3, hk_t4, hk_t5, hk_t6, hk_t7, hk_t8, hk_t9, hk_t10, hk_t11, hk_t12, hk_t13, hk_t14, hk_t15, hk_t16, hk_t17, hk_t18, hk_t20, hk_t32, hk_tm1, hk_t256, hk_t1500, hk_t4096, hk_t2000, hk_t3000, hk_t512, hk_t1024, true_and, and_true, false_and, and_false, true_or, or_true, false_or, or_false, not_true_eq_false, not_false_eq_true] at cc_1 cc_68 cc_69 cc_70 cc_77 cc_78 cc_79 cc_80 cc_81 ⊢; omega) dX10_setCoding_105
              · refine lv_sipush (v := 4096) hx hb dX10_setCoding_82 (by decide) ?_
                refine lv_goto (tgt := 89) hx hb dX10_setCoding_85 (by decide) ?_
                refine lv_icmp_lt (tgt := 106) hx hb dX10_setCoding_89 (by decide) (fun cc_82 => ?_) (fun cc_82 => ?_)
                · refine lv_iconst (v := 0) hx hb dX10_setCoding_106 (by decide) ?_
                  exact hk_zret (u := g) hx hb hr rfl hlocks (hw) (by simp only [Int32.lt_iff_toInt_lt, Int32.le_iff_toInt_le, ← Int32.toInt_inj, hk_t0, hk_t1, hk_t2, hk_t3, hk_t4, hk_t5, hk_t6, hk_t7, hk_t8, hk_t9, hk_t10, hk_t11, hk_t12, hk_t13, hk_t14, hk_t15, hk_t16, hk_t17, hk_t18, hk_t20, hk_t32, hk_tm1, hk_t256, hk_t1500, hk_t4096, hk_t2000, hk_t3000, hk_t512, hk_t1024, true_and, and_true, false_and, and_false, true_or, or_true, false_or, or_false, not_true_eq_false, not_false_eq_true] at cc_1 cc_68 cc_69 cc_70 cc_77 cc_78 cc_79 cc_82 ⊢; omega) dX10_setCoding_107
                · refine lv_iload_n hx hb dX10_setCoding_92 rfl (lv_at hl 2 rfl) ?_
                  refine lv_sipush (v := 4096) hx hb dX10_setCoding_93 (by decide) ?_
                  refine lv_icmp_gt (tgt := 106) hx hb dX10_setCoding_96 (by decide) (fun cc_83 => ?_) (fun cc_83 => ?_)
                  · refine lv_iconst (v := 0) hx hb dX10_setCoding_106 (by decide) ?_
                    exact hk_zret (u := g) hx hb hr rfl hlocks (hw) (by simp only [Int32.lt_iff_toInt_lt, Int32.le_iff_toInt_le, ← Int32.toInt_inj, hk_t0, hk_t1, hk_t2, hk_t3, hk_t4, hk_t5, hk_t6, hk_t7, hk_t8, hk_t9, hk_t10, hk_t11, hk_t12, hk_t13, hk_t14, hk_t15, hk_t16, hk_t17, hk_t18, hk_t20, hk_t32, hk_tm1, hk_t256, hk_t1500, hk_t4096, hk_t2000, hk_t3000, hk_t512, hk_t1024, true_and, and_true, false_and, and_false, true_or, or_true, false_or, or_false, not_true_eq_false, not_false_eq_true] at cc_1 cc_68 cc_69 cc_70 cc_77 cc_78 cc_79 cc_82 cc_83 ⊢; omega) dX10_setCoding_107
                  · refine lv_aload_n hx hb dX10_setCoding_99 rfl (lv_at hl 0 rfl) ?_
                    refine lv_iload_n hx hb dX10_setCoding_100 rfl (lv_at hl 2 rfl) ?_
                    refine hk_put (ci := 13) (C := RX10) (T := TX10) (N := 10) (ty := .int) (v := .int v) hx hb hts iX10 tyX10 tyX10_ok nmX10 hown hw 1 rfl rfl 3 (by decide) (hts _ (List.mem_of_getElem? (i := 1) rfl)) rfl (by decide +kernel) rfl rfl (Nat.le_of_ble_eq_true rfl) dX10_setCoding_101 (ws' := xw cI cJ ad (upd g 6 v) lg ar bk) rfl (fun H locs hw => ?_)
                    refine lv_iconst (v := 1) hx hb dX10_setCoding_104 (by decide) ?_
                    exact hk_zret (u := (upd g 6 v)) hx hb hr rfl hlocks (hw) (by simp only [Int32.lt_iff_toInt_lt, Int32.le_iff_toInt_le, ← Int32.toInt_inj, hk_t0, hk_t1, hk_t2, hk_t3, hk_t4, hk_t5, hk_t6, hk_t7, hk_t8, hk_t9, hk_t10, hk_t11, hk_t12, hk_t13, hk_t14, hk_t15, hk_t16, hk_t17, hk_t18, hk_t20, hk_t32, hk_tm1, hk_t256, hk_t1500, hk_t4096, hk_t2000, hk_t3000, hk_t512, hk_t1024, true_and, and_true, false_and, and_false, true_or, or_true, false_or, or_false, not_true_eq_false, not_false_eq_true] at cc_1 cc_68 cc_69 cc_70 cc_77 cc_78 cc_79 cc_82 cc_83 ⊢; omega) dX10_setCoding_105
          · refine lv_iload_n hx hb dX10_setCoding_60 rfl (lv_at hl 2 rfl) ?_
            refine lv_iconst (v := 4) hx hb dX10_setCoding_61 (by decide) ?_
            refine lv_icmp_gt (tgt := 72) hx hb dX10_setCoding_62 (by decide) (fun cc_84 => ?_) (fun cc_84 => ?_)
            · refine lv_iload_n hx hb dX10_setCoding_72 rfl (lv_at hl 1 rfl) ?_
              refine lv_iconst (v := 3) hx hb dX10_setCoding_73 (by decide) ?_
              refine lv_icmp_ne (tgt := 106) hx hb dX10_setCoding_74 (by decide) (fun cc_85 => ?_) (fun cc_85 => ?_)
              · refine lv_iconst (v := 0) hx hb dX10_setCoding_106 (by decide) ?_
                exact hk_zret (u := g) hx hb hr rfl hlocks (hw) (by simp only [Int32.lt_iff_toInt_lt, Int32.le_iff_toInt_le, ← Int32.toInt_inj, hk_t0, hk_t1, hk_t2, hk_t3, hk_t4, hk_t5, hk_t6, hk_t7, hk_t8, hk_t9, hk_t10, hk_t11, hk_t12, hk_t13, hk_t14, hk_t15, hk_t16, hk_t17, hk_t18, hk_t20, hk_t32, hk_tm1, hk_t256, hk_t1500, hk_t4096, hk_t2000, hk_t3000, hk_t512, hk_t1024, true_and, and_true, false_and, and_false, true_or, or_true, false_or, or_false, not_true_eq_false, not_false_eq_true] at cc_1 cc_68 cc_69 cc_70 cc_77 cc_84 cc_85 ⊢; omega) dX10_setCoding_107
              · refine lv_iload_n hx hb dX10_setCoding_77 rfl (lv_at hl 2 rfl) ?_
                refine lv_iload_n hx hb dX10_setCoding_78 rfl (lv_at hl 3 rfl) ?_
                refine lv_if_eq (tgt := 88) hx hb dX10_setCoding_79 (by decide) (fun cc_86 => ?_) (fun cc_86 => ?_)
                · refine lv_iconst (v := 1) hx hb dX10_setCoding_88 (by decide) ?_
                  refine lv_icmp_lt (tgt := 106) hx hb dX10_setCoding_89 (by decide) (fun cc_87 => ?_) (fun cc_87 => ?_)
                  · refine lv_iconst (v := 0) hx hb dX10_setCoding_106 (by decide) ?_
                    exact hk_zret (u := g) hx hb hr rfl hlocks (hw) (by simp only [Int32.lt_iff_toInt_lt, Int32.le_iff_toInt_le, ← Int32.toInt_inj, hk_t0, hk_t1, hk_t2, hk_t3, hk_t4, hk_t5, hk_t6, hk_t7, hk_t8, hk_t9, hk_t10, hk_t11, hk_t12, hk_t13, hk_t14, hk_t15, hk_t16, hk_t17, hk_t18, hk_t20, hk_t32, hk_tm1, hk_t256, hk_t1500, hk_t4096, hk_t2000, hk_t3000, hk_t512, hk_t1024, true_and, and_true, false_and, and_false, true_or, or_true, false_or, or_false, not_true_eq_false, not_false_eq_true] at cc_1 cc_68 cc_69 cc_70 cc_77 cc_84 cc_85 cc_86 cc_87 ⊢; omega) dX10_setCoding_107
                  · refine lv_iload_n hx hb dX10_setCoding_92 rfl (lv_at hl 2 rfl) ?_
                    refine lv_sipush (v := 4096) hx hb dX10_setCoding_93 (by decide) ?_
                    refine lv_icmp_gt (tgt := 106) hx hb dX10_setCoding_96 (by decide) (fun cc_88 => ?_) (fun cc_88 => ?_)
                    · refine lv_iconst (v := 0) hx hb dX10_setCoding_106 (by decide) ?_
                      exact hk_zret (u := g) hx hb hr rfl hlocks (hw) (by simp only [Int32.lt_iff_toInt_lt, Int32.le_iff_toInt_le, ← Int32.toInt_inj, hk_t0, hk_t1, hk_t2, hk_t3, hk_t4, hk_t5, hk_t6, hk_t7, hk_t8, hk_t9, hk_t10, hk_t11, hk_t12, hk_t13, hk_t14, hk_t15, hk_t16, hk_t17, hk_t18, hk_t20, hk_t32, hk_tm1, hk_t256, hk_t1500, hk_t4096, hk_t2000, hk_t3000, hk_t512, hk_t1024, true_and, and_true, false_and, and_false, true_or, or_true, false_or, or_false, not_true_eq_false, not_false_eq_true] at cc_1 cc_68 cc_69 cc_70 cc_77 cc_84 cc_85 cc_86 cc_87 cc_88 ⊢; omega) dX10_setCoding_107
                    · refine lv_aload_n hx hb dX10_setCoding_99 rfl (lv_at hl 0 rfl) ?_
                      refine lv_iload_n hx hb dX10_setCoding_100 rfl (lv_at hl 2 rfl) ?_
                      refine hk_put (ci := 13) (C := RX10) (T := TX10) (N := 10) (ty := .int) (v := .int v) hx hb hts iX10 tyX10 tyX10_ok nmX10 hown hw 1 rfl rfl 3 (by decide) (hts _ (List.mem_of_getElem? (i := 1) rfl)) rfl (by decide +kernel) rfl rfl (Nat.le_of_ble_eq_true rfl) dX10_setCoding_101 (ws' := xw cI cJ ad (upd g 6 v) lg ar bk) rfl (fun H locs hw => ?_)
                      refine lv_iconst (v := 1) hx hb dX10_setCoding_104 (by decide) ?_
                      exact hk_zret (u := (upd g 6 v)) hx hb hr rfl hlocks (hw) (by simp only [Int32.lt_iff_toInt_lt, Int32.le_iff_toInt_le, ← Int32.toInt_inj, hk_t0, hk_t1, hk_t2, hk_t3, hk_t4, hk_t5, hk_t6, hk_t7, hk_t8, hk_t9, hk_t10, hk_t11, hk_t12, hk_t13, hk_t14, hk_t15, hk_t16, hk_t17, hk_t18, hk_t20, hk_t32, hk_tm1, hk_t256, hk_t1500, hk_t4096, hk_t2000, hk_t3000, hk_t512, hk_t1024, true_and, and_true, false_and, and_false, true_or, or_true, false_or, or_false, not_true_eq_false, not_false_eq_true] at cc_1 cc_68 cc_69 cc_70 cc_77 cc_84 cc_85 cc_86 cc_87 cc_88 ⊢; omega) dX10_setCoding_105
                · refine lv_sipush (v := 4096) hx hb dX10_setCoding_82 (by decide) ?_
                  refine lv_goto (tgt := 89) hx hb dX10_setCoding_85 (by decide) ?_
                  refine lv_icmp_lt (tgt := 106) hx hb dX10_setCoding_89 (by decide) (fun cc_89 => ?_) (fun cc_89 => ?_)
                  · refine lv_iconst (v := 0) hx hb dX10_setCoding_106 (by decide) ?_
                    exact hk_zret (u := g) hx hb hr rfl hlocks (hw) (by simp only [Int32.lt_iff_toInt_lt, Int32.le_iff_toInt_le, ← Int32.toInt_inj, hk_t0, hk_t1, hk_t2, hk_t3, hk_t4, hk_t5, hk_t6, hk_t7, hk_t8, hk_t9, hk_t10, hk_t11, hk_t12, hk_t13, hk_t14, hk_t15, hk_t16, hk_t17, hk_t18, hk_t20, hk_t32, hk_tm1, hk_t256, hk_t1500, hk_t4096, hk_t2000, hk_t3000, hk_t512, hk_t1024, true_and, and_true, false_and, and_false, true_or, or_true, false_or, or_false, not_true_eq_false, not_false_eq_true] at cc_1 cc_68 cc_69 cc_70 cc_77 cc_84 cc_85 cc_86 cc_89 ⊢; omega) dX10_setCoding_107
                  · refine lv_iload_n hx hb dX10_setCoding_92 rfl (lv_at hl 2 rfl) ?_
                    refine lv_sipush (v := 4096) hx hb dX10_setCoding_93 (by decide) ?_
                    refine lv_icmp_gt (tgt := 106) hx hb dX10_setCoding_96 (by decide) (fun cc_90 => ?_) (fun cc_90 => ?_)
                    · refine lv_iconst (v := 0) hx hb dX10_setCoding_106 (by decide) ?_
                      exact hk_zret (u := g) hx hb hr rfl hlocks (hw) (by simp only [Int32.lt_iff_toInt_lt, Int32.le_iff_toInt_le, ← Int32.toInt_inj, hk_t0, hk_t1, hk_t2, hk_t3, hk_t4, hk_t5, hk_t6, hk_t7, hk_t8, hk_t9, hk_t10, hk_t11, hk_t12, hk_t13, hk_t14, hk_t15, hk_t16, hk_t17, hk_t18, hk_t20, hk_t32, hk_tm1, hk_t256, hk_t1500, hk_t4096, hk_t2000, hk_t3000, hk_t512, hk_t1024, true_and, and_true, false_and, and_false, true_or, or_true, false_or, or_false, not_true_eq_false, not_false_eq_true] at cc_1 cc_68 cc_69 cc_70 cc_77 cc_84 cc_85 cc_86 cc_89 cc_90 ⊢; omega) dX10_setCoding_107
                    · refine lv_aload_n hx hb dX10_setCoding_99 rfl (lv_at hl 0 rfl) ?_
                      refine lv_iload_n hx hb dX10_setCoding_100 rfl (lv_at hl 2 rfl) ?_
                      refine hk_put (ci := 13) (C := RX10) (T := TX10) (N := 10) (ty := .int) (v := .int v) hx hb hts iX10 tyX10 tyX10_ok nmX10 hown hw 1 rfl rfl 3 (by decide) (hts _ (List.mem_of_getElem? (i := 1) rfl)) rfl (by decide +kernel) rfl rfl (Nat.le_of_ble_eq_true rfl) dX10_setCoding_101 (ws' := xw cI cJ ad (upd g 6 v) lg ar bk) rfl (fun H locs hw => ?_)
                      refine lv_iconst (v := 1) hx hb dX10_setCoding_104 (by decide) ?_
                      exact hk_zret (u := (upd g 6 v)) hx hb hr rfl hlocks (hw) (by simp only [Int32.lt_iff_toInt_lt, Int32.le_iff_toInt_le, ← Int32.toInt_inj, hk_t0, hk_t1, hk_t2, hk_t3, hk_t4, hk_t5, hk_t6, hk_t7, hk_t8, hk_t9, hk_t10, hk_t11, hk_t12, hk_t13, hk_t14, hk_t15, hk_t16, hk_t17, hk_t18, hk_t20, hk_t32, hk_tm1, hk_t256, hk_t1500, hk_t4096, hk_t2000, hk_t3000, hk_t512, hk_t1024, true_and, and_true, false_and, and_false, true_or, or_true, false_or, or_false, not_true_eq_false, not_false_eq_true] at cc_1 cc_68 cc_69 cc_70 cc_77 cc_84 cc_85 cc_86 cc_89 cc_90 ⊢; omega) dX10_setCoding_105
            · refine lv_aload_n hx hb dX10_setCoding_65 rfl (lv_at hl 0 rfl) ?_
              refine lv_iload_n hx hb dX10_setCoding_66 rfl (lv_at hl 2 rfl) ?_
              refine hk_put (ci := 13) (C := RX10) (T := TX10) (N := 10) (ty := .int) (v := .int v) hx hb hts iX10 tyX10 tyX10_ok nmX10 hown hw 1 rfl rfl 2 (by decide) (hts _ (List.mem_of_getElem? (i := 2) rfl)) rfl (by decide +kernel) rfl rfl (Nat.le_of_ble_eq_true rfl) dX10_setCoding_67 (ws' := xw cI cJ ad (upd g 5 v) lg ar bk) rfl (fun H locs hw => ?_)
              refine lv_iconst (v := 1) hx hb dX10_setCoding_70 (by decide) ?_
              exact hk_zret (u := (upd g 5 v)) hx hb hr rfl hlocks (hw) (by simp only [Int32.lt_iff_toInt_lt, Int32.le_iff_toInt_le, ← Int32.toInt_inj, hk_t0, hk_t1, hk_t2, hk_t3, hk_t4, hk_t5, hk_t6, hk_t7, hk_t8, hk_t9, hk_t10, hk_t11, hk_t12, hk_t13, hk_t14, hk_t15, hk_t16, hk_t17, hk_t18, hk_t20, hk_t32, hk_tm1, hk_t256, hk_t1500, hk_t4096, hk_t2000, hk_t3000, hk_t512, hk_t1024, true_and, and_true, false_and, and_false, true_or, or_true, false_or, or_false, not_true_eq_false, not_false_eq_true] at cc_1 cc_68 cc_69 cc_70 cc_77 cc_84 ⊢; omega) dX10_setCoding_71
      · refine lv_iload_n hx hb dX10_setCoding_30 rfl (lv_at hl 2 rfl) ?_
        refine lv_if_lt (tgt := 51) hx hb dX10_setCoding_31 (by decide) (fun cc_91 => ?_) (fun cc_91 => ?_)
        · refine lv_iload_n hx hb dX10_setCoding_51 rfl (lv_at hl 1 rfl) ?_
          refine lv_iconst (v := 2) hx hb dX10_setCoding_52 (by decide) ?_
          refine lv_icmp_ne (tgt := 72) hx hb dX10_setCoding_53 (by decide) (fun cc_92 => ?_) (fun cc_92 => ?_)
          · refine lv_iload_n hx hb dX10_setCoding_72 rfl (lv_at hl 1 rfl) ?_
            refine lv_iconst (v := 3) hx hb dX10_setCoding_73 (by decide) ?_
            refine lv_icmp_ne (tgt := 106) hx hb dX10_setCoding_74 (by decide) (fun cc_93 => ?_) (fun cc_93 => ?_)
            · refine lv_iconst (v := 0) hx hb dX10_setCoding_106 (by decide) ?_
              exact hk_zret (u := g) hx hb hr rfl hlocks (hw) (by simp only [Int32.lt_iff_toInt_lt, Int32.le_iff_toInt_le, ← Int32.toInt_inj, hk_t0, hk_t1, hk_t2, hk_t3, hk_t4, hk_t5, hk_t6, hk_t7, hk_t8, hk_t9, hk_t10, hk_t11, hk_t12, hk_t13, hk_t14, hk_t15, hk_t16, hk_t17, hk_t18, hk_t20, hk_t32, hk_tm1, hk_t256, hk_t1500, hk_t4096, hk_t2000, hk_t3000, hk_t512, hk_t1024, true_and, and_true, false_and, and_false, true_or, or_true, false_or, or_false, not_true_eq_false, not_false_eq_true] at cc_1 cc_68 cc_69 cc_91 cc_92 cc_93 ⊢; omega) dX10_setCoding_107
            · refine lv_iload_n hx hb dX10_setCoding_77 rfl (lv_at hl 2 rfl) ?_
              refine lv_iload_n hx hb dX10_setCoding_78 rfl (lv_at hl 3 rfl) ?_
              refine lv_if_eq (tgt := 88) hx hb dX10_setCoding_79 (by decide) (fun cc_94 => ?_) (fun cc_94 => ?_)
              · refine lv_iconst (v := 1) hx hb dX10_setCoding_88 (by decide) ?_
                refine lv_icmp_lt (tgt := 106) hx hb dX10_setCoding_89 (by decide) (fun cc_95 => ?_) (fun cc_95 => ?_)
                · refine lv_iconst (v := 0) hx hb dX10_setCoding_106 (by decide) ?_
                  exact hk_zret (u := g) hx hb hr rfl hlocks (hw) (by simp only [Int32.lt_iff_toInt_lt, Int32.le_iff_toInt_le, ← Int32.toInt_inj, hk_t0, hk_t1, hk_t2, hk_t3, hk_t4, hk_t5, hk_t6, hk_t7, hk_t8, hk_t9, hk_t10, hk_t11, hk_t12, hk_t13, hk_t14, hk_t15, hk_t16, hk_t17, hk_t18, hk_t20, hk_t32, hk_tm1, hk_t256, hk_t1500, hk_t4096, hk_t2000, hk_t3000, hk_t512, hk_t1024, true_and, and_true, false_and, and_false, true_or, or_true, false_or, or_false, not_true_eq_false, not_false_eq_true] at cc_1 cc_68 cc_69 cc_91 cc_92 cc_93 cc_94 cc_95 ⊢; omega) dX10_setCoding_107
                · refine lv_iload_n hx hb dX10_setCoding_92 rfl (lv_at hl 2 rfl) ?_
                  refine lv_sipush (v := 4096) hx hb dX10_setCoding_93 (by decide) ?_
                  refine lv_icmp_gt (tgt := 106) hx hb dX10_setCoding_96 (by decide) (fun cc_96 => ?_) (fun cc_96 => ?_)
                  · refine lv_iconst (v := 0) hx hb dX10_setCoding_106 (by decide) ?_
                    exact hk_zret (u := g) hx hb hr rfl hlocks (hw) (by simp only [Int32.lt_iff_toInt_lt, Int32.le_iff_toInt_le, ← Int32.toInt_inj, hk_t0, hk_t1, hk_t2, hk_t3, hk_t4, hk_t5, hk_t6, hk_t7, hk_t8, hk_t9, hk_t10, hk_t11, hk_t12, hk_t13, hk_t14, hk_t15, hk_t16, hk_t17, hk_t18, hk_t20, hk_t32, hk_tm1, hk_t256, hk_t1500, hk_t4096, hk_t2000, hk_t3000, hk_t512, hk_t1024, true_and, and_true, false_and, and_false, true_or, or_true, false_or, or_false, not_true_eq_false, not_false_eq_true] at cc_1 cc_68 cc_69 cc_91 cc_92 cc_93 cc_94 cc_95 cc_96 ⊢; omega) dX10_setCoding_107
                  · refine lv_aload_n hx hb dX10_setCoding_99 rfl (lv_at hl 0 rfl) ?_
                    refine lv_iload_n hx hb dX10_setCoding_100 rfl (lv_at hl 2 rfl) ?_
                    refine hk_put (ci := 13) (C := RX10) (T := TX10) (N := 10) (ty := .int) (v := .int v) hx hb hts iX10 tyX10 tyX10_ok nmX10 hown hw 1 rfl rfl 3 (by decide) (hts _ (List.mem_of_getElem? (i := 1) rfl)) rfl (by decide +kernel) rfl rfl (Nat.le_of_ble_eq_true rfl) dX10_setCoding_101 (ws' := xw cI cJ ad (upd g 6 v) lg ar bk) rfl (fun H locs hw => ?_)
                    refine lv_iconst (v := 1) hx hb dX10_setCoding_104 (by decide) ?_
                    exact hk_zret (u := (upd g 6 v)) hx hb hr rfl hlocks (hw) (by simp only [Int32.lt_iff_toInt_lt, Int32.le_iff_toInt_le, ← Int32.toInt_inj, hk_t0, hk_t1, hk_t2, hk_t3, hk_t4, hk_t5, hk_t6, hk_t7, hk_t8, hk_t9, hk_t10, hk_t11, hk_t12, hk_t13, hk_t14, hk_t15, hk_t16, hk_t17, hk_t18, hk_t20, hk_t32, hk_tm1, hk_t256, hk_t1500, hk_t4096, hk_t2000, hk_t3000, hk_t512, hk_t1024, true_and, and_true, false_and, and_false, true_or, or_true, false_or, or_false, not_true_eq_false, not_false_eq_true] at cc_1 cc_68 cc_69 cc_91 cc_92 cc_93 cc_94 cc_95 cc_96 ⊢; omega) dX10_setCoding_105
              · refine lv_sipush (v := 4096) hx hb dX10_setCoding_82 (by decide) ?_
                refine lv_goto (tgt := 89) hx hb dX10_setCoding_85 (by decide) ?_
                refine lv_icmp_lt (tgt := 106) hx hb dX10_setCoding_89 (by decide) (fun cc_97 => ?_) (fun cc_97 => ?_)
                · refine lv_iconst (v := 0) hx hb dX10_setCoding_106 (by decide) ?_
                  exact hk_zret (u := g) hx hb hr rfl hlocks (hw) (by simp only [Int32.lt_iff_toInt_lt, Int32.le_iff_toInt_le, ← Int32.toInt_inj, hk_t0, hk_t1, hk_t2, hk_t3, hk_t4, hk_t5, hk_t6, hk_t7, hk_t8, hk_t9, hk_t10, hk_t11, hk_t12, hk_t13, hk_t14, hk_t15, hk_t16, hk_t17, hk_t18, hk_t20, hk_t32, hk_tm1, hk_t256, hk_t1500, hk_t4096, hk_t2000, hk_t3000, hk_t512, hk_t1024, true_and, and_true, false_and, and_false, true_or, or_true, false_or, or_false, not_true_eq_false, not_false_eq_true] at cc_1 cc_68 cc_69 cc_91 cc_92 cc_93 cc_94 cc_97 ⊢; omega) dX10_setCoding_107
                · refine lv_iload_n hx hb dX10_setCoding_92 rfl (lv_at hl 2 rfl) ?_
                  refine lv_sipush (v := 4096) hx hb dX10_setCoding_93 (by decide) ?_
                  refine lv_icmp_gt (tgt := 106) hx hb dX10_setCoding_96 (by decide) (fun cc_98 => ?_) (fun cc_98 => ?_)
                  · refine lv_iconst (v := 0) hx hb dX10_setCoding_106 (by decide) ?_
                    exact hk_zret (u := g) hx hb hr rfl hlocks (hw) (by simp only [Int32.lt_iff_toInt_lt, Int32.le_iff_toInt_le, ← Int32.toInt_inj, hk_t0, hk_t1, hk_t2, hk_t3, hk_t4, hk_t5, hk_t6, hk_t7, hk_t8, hk_t9, hk_t10, hk_t11, hk_t12, hk_t13, hk_t14, hk_t15, hk_t16, hk_t17, hk_t18, hk_t20, hk_t32, hk_tm1, hk_t256, hk_t1500, hk_t4096, hk_t2000, hk_t3000, hk_t512, hk_t1024, true_and, and_true, false_and, and_false, true_or, or_true, false_or, or_false, not_true_eq_false, not_false_eq_true] at cc_1 cc_68 cc_69 cc_91 cc_92 cc_93 cc_94 cc_97 cc_98 ⊢; omega) dX10_setCoding_107
                  · refine lv_aload_n hx hb dX10_setCoding_99 rfl (lv_at hl 0 rfl) ?_
                    refine lv_iload_n hx hb dX10_setCoding_100 rfl (lv_at hl 2 rfl) ?_
                    refine hk_put (ci := 13) (C := RX10) (T := TX10) (N := 10) (ty := .int) (v := .int v) hx hb hts iX10 tyX10 tyX10_ok nmX10 hown hw 1 rfl rfl 3 (by decide) (hts _ (List.mem_of_getElem? (i := 1) rfl)) rfl (by decide +kernel) rfl rfl (Nat.le_of_ble_eq_true rfl) dX10_setCoding_101 (ws' := xw cI cJ ad (upd g 6 v) lg ar bk) rfl (fun H locs hw => ?_)
                    refine lv_iconst (v := 1) hx hb dX10_setCoding_104 (by decide) ?_
                    exact hk_zret (u := (upd g 6 v)) hx hb hr rfl hlocks (hw) (by simp only [Int32.lt_iff_toInt_lt, Int32.le_iff_toInt_le, ← Int32.toInt_inj, hk_t0, hk_t1, hk_t2, hk_t3, hk_t4, hk_t5, hk_t6, hk_t7, hk_t8, hk_t9, hk_t10, hk_t11, hk_t12, hk_t13, hk_t14, hk_t15, hk_t16, hk_t17, hk_t18, hk_t20, hk_t32, hk_tm1, hk_t256, hk_t1500, hk_t4096, hk_t2000, hk_t3000, hk_t512, hk_t1024, true_and, and_true, false_and, and_false, true_or, or_true, false_or, or_false, not_true_eq_false, not_false_eq_true] at cc_1 cc_68 cc_69 cc_91 cc_92 cc_93 cc_94 cc_97 cc_98 ⊢; omega) dX10_setCoding_105
          · refine lv_iload_n hx hb dX10_setCoding_56 rfl (lv_at hl 2 rfl) ?_
            refine lv_if_lt (tgt := 72) hx hb dX10_setCoding_57 (by decide) (fun cc_99 => ?_) (fun cc_99 => ?_)
            · refine lv_iload_n hx hb dX10_setCoding_72 rfl (lv_at hl 1 rfl) ?_
              refine lv_iconst (v := 3) hx hb dX10_setCoding_73 (by decide) ?_
              refine lv_icmp_ne (tgt := 106) hx hb dX10_setCoding_74 (by decide) (fun cc_100 => ?_) (fun cc_100 => ?_)
              · refine lv_iconst (v := 0) hx hb dX10_setCoding_106 (by decide) ?_
                exact hk_zret (u := g) hx hb hr rfl hlocks (hw) (by simp only [Int32.lt_iff_toInt_lt, Int32.le_iff_toInt_le, ← Int32.toInt_inj, hk_t0, hk_t1, hk_t2, hk_t3, hk_t4, hk_t5, hk_t6, hk_t7, hk_t8, hk_t9, hk_t10, hk_t11, hk_t12, hk_t13, hk_t14, hk_t15, hk_t16, hk_t17, hk_t18, hk_t20, hk_t32, hk_tm1, hk_t256, hk_t1500, hk_t4096, hk_t2000, hk_t3000, hk_t512, hk_t1024, true_and, and_true, false_and, and_false, true_or, or_true, false_or, or_false, not_true_eq_false, not_false_eq_true] at cc_1 cc_68 cc_69 cc_91 cc_92 cc_99 cc_100 ⊢; omega) dX10_setCoding_107
              · refine lv_iload_n hx hb dX10_setCoding_77 rfl (lv_at hl 2 rfl) ?_
                refine lv_iload_n hx hb dX10_setCoding_78 rfl (lv_at hl 3 rfl) ?_
                refine lv_if_eq (tgt := 88) hx hb dX10_setCoding_79 (by decide) (fun cc_101 => ?_) (fun cc_101 => ?_)
                · refine lv_iconst (v := 1) hx hb dX10_setCoding_88 (by decide) ?_
                  refine lv_icmp_lt (tgt := 106) hx hb dX10_setCoding_89 (by decide) (fun cc_102 => ?_) (fun cc_102 => ?_)
                  · refine lv_iconst (v := 0) hx hb dX10_setCoding_106 (by decide) ?_
                    exact hk_zret (u := g) hx hb hr rfl hlocks (hw) (by simp only [Int32.lt_iff_toInt_lt, Int32.le_iff_toInt_le, ← Int32.toInt_inj, hk_t0, hk_t1, hk_t2, hk_t3, hk_t4, hk_t5, hk_t6, hk_t7, hk_t8, hk_t9, hk_t10, hk_t11, hk_t12, hk_t13, hk_t14, hk_t15, hk_t16, hk_t17, hk_t18, hk_t20, hk_t32, hk_tm1, hk_t256, hk_t1500, hk_t4096, hk_t2000, hk_t3000, hk_t512, hk_t1024, true_and, and_true, false_and, and_false, true_or, or_true, false_or, or_false, not_true_eq_false, not_false_eq_true] at cc_1 cc_68 cc_69 cc_91 cc_92 cc_99 cc_100 cc_101 cc_102 ⊢; omega) dX10_setCoding_107
                  · refine lv_iload_n hx hb dX10_setCoding_92 rfl (lv_at hl 2 rfl) ?_
                    refine lv_sipush (v := 4096) hx hb dX10_setCoding_93 (by decide) ?_
                    refine lv_icmp_gt (tgt := 106) hx hb dX10_setCoding_96 (by decide) (fun cc_103 => ?_) (fun cc_103 => ?_)
                    · refine lv_iconst (v := 0) hx hb dX10_setCoding_106 (by decide) ?_
                      exact hk_zret (u := g) hx hb hr rfl hlocks (hw) (by simp only [Int32.lt_iff_toInt_lt, Int32.le_iff_toInt_le, ← Int32.toInt_inj, hk_t0, hk_t1, hk_t2, hk_t3, hk_t4, hk_t5, hk_t6, hk_t7, hk_t8, hk_t9, hk_t10, hk_t11, hk_t12, hk_t13, hk_t14, hk_t15, hk_t16, hk_t17, hk_t18, hk_t20, hk_t32, hk_tm1, hk_t256, hk_t1500, hk_t4096, hk_t2000, hk_t3000, hk_t512, hk_t1024, true_and, and_true, false_and, and_false, true_or, or_true, false_or, or_false, not_true_eq_false, not_false_eq_true] at cc_1 cc_68 cc_69 cc_91 cc_92 cc_99 cc_100 cc_101 cc_102 cc_103 ⊢; omega) dX10_setCoding_107
                    · refine lv_aload_n hx hb dX10_setCoding_99 rfl (lv_at hl 0 rfl) ?_
                      refine lv_iload_n hx hb dX10_setCoding_100 rfl (lv_at hl 2 rfl) ?_
                      refine hk_put (ci := 13) (C := RX10) (T := TX10) (N := 10) (ty := .int) (v := .int v) hx hb hts iX10 tyX10 tyX10_ok nmX10 hown hw 1 rfl rfl 3 (by decide) (hts _ (List.mem_of_getElem? (i := 1) rfl)) rfl (by decide +kernel) rfl rfl (Nat.le_of_ble_eq_true rfl) dX10_setCoding_101 (ws' := xw cI cJ ad (upd g 6 v) lg ar bk) rfl (fun H locs hw => ?_)
                      refine lv_iconst (v := 1) hx hb dX10_setCoding_104 (by decide) ?_
                      exact hk_zret (u := (upd g 6 v)) hx hb hr rfl hlocks (hw) (by simp only [Int32.lt_iff_toInt_lt, Int32.le_iff_toInt_le, ← Int32.toInt_inj, hk_t0, hk_t1, hk_t2, hk_t3, hk_t4, hk_t5, hk_t6, hk_t7, hk_t8, hk_t9, hk_t10, hk_t11, hk_t12, hk_t13, hk_t14, hk_t15, hk_t16, hk_t17, hk_t18, hk_t20, hk_t32, hk_tm1, hk_t256, hk_t1500, hk_t4096, hk_t2000, hk_t3000, hk_t512, hk_t1024, true_and, and_true, false_and, and_false, true_or, or_true, false_or, or_false, not_true_eq_false, not_false_eq_true] at cc_1 cc_68 cc_69 cc_91 cc_92 cc_99 cc_100 cc_101 cc_102 cc_103 ⊢; omega) dX10_setCoding_105
                · refine lv_sipush (v := 4096) hx hb dX10_setCoding_82 (by decide) ?_
                  refine lv_goto (tgt := 89) hx hb dX10_setCoding_85 (by decide) ?_
                  refine lv_icmp_lt (tgt := 106) hx hb dX10_setCoding_89 (by decide) (fun cc_104 => ?_) (fun cc_104 => ?_)
                  · refine lv_iconst (v := 0) hx hb dX10_setCoding_106 (by decide) ?_
                    exact hk_zret (u := g) hx hb hr rfl hlocks (hw) (by simp only [Int32.lt_iff_toInt_lt, Int32.le_iff_toInt_le, ← Int32.toInt_inj, hk_t0, hk_t1, hk_t2, hk_t3, hk_t4, hk_t5, hk_t6, hk_t7, hk_t8, hk_t9, hk_t10, hk_t11, hk_t12, hk_t13, hk_t14, hk_t15, hk_t16, hk_t17, hk_t18, hk_t20, hk_t32, hk_tm1, hk_t256, hk_t1500, hk_t4096, hk_t2000, hk_t3000, hk_t512, hk_t1024, true_and, and_true, false_and, and_false, true_or, or_true, false_or, or_false, not_true_eq_false, not_false_eq_true] at cc_1 cc_68 cc_69 cc_91 cc_92 cc_99 cc_100 cc_101 cc_104 ⊢; omega) dX10_setCoding_107
                  · refine lv_iload_n hx hb dX10_setCoding_92 rfl (lv_at hl 2 rfl) ?_
                    refine lv_sipush (v := 4096) hx hb dX10_setCoding_93 (by decide) ?_
                    refine lv_icmp_gt (tgt := 106) hx hb dX10_setCoding_96 (by decide) (fun cc_105 => ?_) (fun cc_105 => ?_)
                    · refine lv_iconst (v := 0) hx hb dX10_setCoding_106 (by decide) ?_
                      exact hk_zret (u := g) hx hb hr rfl hlocks (hw) (by simp only [Int32.lt_iff_toInt_lt, Int32.le_iff_toInt_le, ← Int32.toInt_inj, hk_t0, hk_t1, hk_t2, hk_t3, hk_t4, hk_t5, hk_t6, hk_t7, hk_t8, hk_t9, hk_t10, hk_t11, hk_t12, hk_t13, hk_t14, hk_t15, hk_t16, hk_t17, hk_t18, hk_t20, hk_t32, hk_tm1, hk_t256, hk_t1500, hk_t4096, hk_t2000, hk_t3000, hk_t512, hk_t1024, true_and, and_true, false_and, and_false, true_or, or_true, false_or, or_false, not_true_eq_false, not_false_eq_true] at cc_1 cc_68 cc_69 cc_91 cc_92 cc_99 cc_100 cc_101 cc_104 cc_105 ⊢; omega) dX10_setCoding_107
                    · refine lv_aload_n hx hb dX10_setCoding_99 rfl (lv_at hl 0 rfl) ?_
                      refine lv_iload_n hx hb dX10_setCoding_100 rfl (lv_at hl 2 rfl) ?_
                      refine hk_put (ci := 13) (C := RX10) (T := TX10) (N := 10) (ty := .int) (v := .int v) hx hb hts iX10 tyX10 tyX10_ok nmX10 hown hw 1 rfl rfl 3 (by decide) (hts _ (List.mem_of_getElem? (i := 1) rfl)) rfl (by decide +kernel) rfl rfl (Nat.le_of_ble_eq_true rfl) dX10_setCoding_101 (ws' := xw cI cJ ad (upd g 6 v) lg ar bk) rfl (fun H locs hw => ?_)
                      refine lv_iconst (v := 1) hx hb dX10_setCoding_104 (by decide) ?_
                      exact hk_zret (u := (upd g 6 v)) hx hb hr rfl hlocks (hw) (by simp only [Int32.lt_iff_toInt_lt, Int32.le_iff_toInt_le, ← Int32.toInt_inj, hk_t0, hk_t1, hk_t2, hk_t3, hk_t4, hk_t5, hk_t6, hk_t7, hk_t8, hk_t9, hk_t10, hk_t11, hk_t12, hk_t13, hk_t14, hk_t15, hk_t16, hk_t17, hk_t18, hk_t20, hk_t32, hk_tm1, hk_t256, hk_t1500, hk_t4096, hk_t2000, hk_t3000, hk_t512, hk_t1024, true_and, and_true, false_and, and_false, true_or, or_true, false_or, or_false, not_true_eq_false, not_false_eq_true] at cc_1 cc_68 cc_69 cc_91 cc_92 cc_99 cc_100 cc_101 cc_104 cc_105 ⊢; omega) dX10_setCoding_105
            · refine lv_iload_n hx hb dX10_setCoding_60 rfl (lv_at hl 2 rfl) ?_
              refine lv_iconst (v := 4) hx hb dX10_setCoding_61 (by decide) ?_
              refine lv_icmp_gt (tgt := 72) hx hb dX10_setCoding_62 (by decide) (fun cc_106 => ?_) (fun cc_106 => ?_)
              · refine lv_iload_n hx hb dX10_setCoding_72 rfl (lv_at hl 1 rfl) ?_
                refine lv_iconst (v := 3) hx hb dX10_setCoding_73 (by decide) ?_
                refine lv_icmp_ne (tgt := 106) hx hb dX10_setCoding_74 (by decide) (fun cc_107 => ?_) (fun cc_107 => ?_)
                · refine lv_iconst (v := 0) hx hb dX10_setCoding_106 (by decide) ?_
                  exact hk_zret (u := g) hx hb hr rfl hlocks (hw) (by simp only [Int32.lt_iff_toInt_lt, Int32.le_iff_toInt_le, ← Int32.toInt_inj, hk_t0, hk_t1, hk_t2, hk_t3, hk_t4, hk_t5, hk_t6, hk_t7, hk_t8, hk_t9, hk_t10, hk_t11, hk_t12, hk_t13, hk_t14, hk_t15, hk_t16, hk_t17, hk_t18, hk_t20, hk_t32, hk_tm1, hk_t256, hk_t1500, hk_t4096, hk_t2000, hk_t3000, hk_t512, hk_t1024, true_and, and_true, false_and, and_false, true_or, or_true, false_or, or_false, not_true_eq_false, not_false_eq_true] at cc_1 cc_68 cc_69 cc_91 cc_92 cc_99 cc_106 cc_107 ⊢; omega) dX10_setCoding_107
                · refine lv_iload_n hx hb dX10_setCoding_77 rfl (lv_at hl 2 rfl) ?_
                  refine lv_iload_n hx hb dX10_setCoding_78 rfl (lv_at hl 3 rfl) ?_
                  refine lv_if_eq (tgt := 88) hx hb dX10_setCoding_79 (by decide) (fun cc_108 => ?_) (fun cc_108 => ?_)
                  · refine lv_iconst (v := 1) hx hb dX10_setCoding_88 (by decide) ?_
                    refine lv_icmp_lt (tgt := 106) hx hb dX10_setCoding_89 (by decide) (fun cc_109 => ?_) (fun cc_109 => ?_)
                    · refine lv_iconst (v := 0) hx hb dX10_setCoding_106 (by decide) ?_
                      exact hk_zret (u := g) hx hb hr rfl hlocks (hw) (by simp only [Int32.lt_iff_toInt_lt, Int32.le_iff_toInt_le, ← Int32.toInt_inj, hk_t0, hk_t1, hk_t2, hk_t3, hk_t4, hk_t5, hk_t6, hk_t7, hk_t8, hk_t9, hk_t10, hk_t11, hk_t12, hk_t13, hk_t14, hk_t15, hk_t16, hk_t17, hk_t18, hk_t20, hk_t32, hk_tm1, hk_t256, hk_t1500, hk_t4096, hk_t2000, hk_t3000, hk_t512, hk_t1024, true_and, and_true, false_and, and_false, true_or, or_true, false_or, or_false, not_true_eq_false, not_false_eq_true] at cc_1 cc_68 cc_69 cc_91 cc_92 cc_99 cc_106 cc_107 cc_108 cc_109 ⊢; omega) dX10_setCoding_107
                    · refine lv_iload_n hx hb dX10_setCoding_92 rfl (lv_at hl 2 rfl) ?_
                      refine lv_sipush (v := 4096) hx hb dX10_setCoding_93 (by decide) ?_
                      refine lv_icmp_gt (tgt := 106) hx hb dX10_setCoding_96 (by decide) (fun cc_110 => ?_) (fun cc_110 => ?_)
                      · refine lv_iconst (v := 0) hx hb dX10_setCoding_106 (by decide) ?_
                        exact hk_zret (u := g) hx hb hr rfl hlocks (hw) (by simp only [Int32.lt_iff_toInt_lt, Int32.le_iff_toInt_le, ← Int32.toInt_inj, hk_t0, hk_t1, hk_t2, hk_t3, hk_t4, hk_t5, hk_t6, hk_t7, hk_t8, hk_t9, hk_t10, hk_t11, hk_t12, hk_t13, hk_t14, hk_t15, hk_t16, hk_t17, hk_t18, hk_t20, hk_t32, hk_tm1, hk_t256, hk_t1500, hk_t4096, hk_t2000, hk_t3000, hk_t512, hk_t1024, true_and, and_true, false_and, and_false, true_or, or_true, false_or, or_false, not_true_eq_false, not_false_eq_true] at cc_1 cc_68 cc_69 cc_91 cc_92 cc_99 cc_106 cc_107 cc_108 cc_109 cc_110 ⊢; omega) dX10_setCoding_107
                      · refine lv_aload_n hx hb dX10_setCoding_99 rfl (lv_at hl 0 rfl) ?_
                        refine lv_iload_n hx hb dX10_setCoding_100 rfl (lv_at hl 2 rfl) ?_
                        refine hk_put (ci := 13) (C := RX10) (T := TX10) (N := 10) (ty := .int) (v := .int v) hx hb hts iX10 tyX10 tyX10_ok nmX10 hown hw 1 rfl rfl 3 (by decide) (hts _ (List.mem_of_getElem? (i := 1) rfl)) rfl (by decide +kernel) rfl rfl (Nat.le_of_ble_eq_true rfl) dX10_setCoding_101 (ws' := xw cI cJ ad (upd g 6 v) lg ar bk) rfl (fun H locs hw => ?_)
                        refine lv_iconst (v := 1) hx hb dX10_setCoding_104 (by decide) ?_
                        exact hk_zret (u := (upd g 6 v)) hx hb hr rfl hlocks (hw) (by simp only [Int32.lt_iff_toInt_lt, Int32.le_iff_toInt_le, ← Int32.toInt_inj, hk_t0, hk_t1, hk_t2, hk_t3, hk_t4, hk_t5, hk_t6, hk_t7, hk_t8, hk_t9, hk_t10, hk_t11, hk_t12, hk_t13, hk_t14, hk_t15, hk_t16, hk_t17, hk_t18, hk_t20, hk_t32, hk_tm1, hk_t256, hk_t1500, hk_t4096, hk_t2000, hk_t3000, hk_t512, hk_t1024, true_and, and_true, false_and, and_false, true_or, or_true, false_or, or_false, not_true_eq_false, not_false_eq_true] at cc_1 cc_68 cc_69 cc_91 cc_92 cc_99 cc_106 cc_107 cc_108 cc_109 cc_110 ⊢; omega) dX10_setCoding_105
                  · refine lv_sipush (v := 4096) hx hb dX10_setCoding_82 (by decide) ?_
                    refine lv_goto (tgt := 89) hx hb dX10_setCoding_85 (by decide) ?_
                    refine lv_icmp_lt (tgt := 106) hx hb dX10_setCoding_89 (by decide) (fun cc_111 => ?_) (fun cc_111 => ?_)
                    · refine lv_iconst (v := 0) hx hb dX10_setCoding_106 (by decide) ?_
                      exact hk_zret (u := g) hx hb hr rfl hlocks (hw) (by simp only [Int32.lt_iff_toInt_lt, Int32.le_iff_toInt_le, ← Int32.toInt_inj, hk_t0, hk_t1, hk_t2, hk_t3, hk_t4, hk_t5, hk_t6, hk_t7, hk_t8, hk_t9, hk_t10, hk_t11, hk_t12, hk_t13, hk_t14, hk_t15, hk_t16, hk_t17, hk_t18, hk_t20, hk_t32, hk_tm1, hk_t256, hk_t1500, hk_t4096, hk_t2000, hk_t3000, hk_t512, hk_t1024, true_and, and_true, false_and, and_false, true_or, or_true, false_or, or_false, not_true_eq_false, not_false_eq_true] at cc_1 cc_68 cc_69 cc_91 cc_92 cc_99 cc_106 cc_107 cc_108 cc_111 ⊢; omega) dX10_setCoding_107
                    · refine lv_iload_n hx hb dX10_setCoding_92 rfl (lv_at hl 2 rfl) ?_
                      refine lv_sipush (v := 4096) hx hb dX10_setCoding_93 (by decide) ?_
                      refine lv_icmp_gt (tgt := 106) hx hb dX10_setCoding_96 (by decide) (fun cc_112 => ?_) (fun cc_112 => ?_)
                      · refine lv_iconst (v := 0) hx hb dX10_setCoding_106 (by decide) ?_
                        exact hk_zret (u := g) hx hb hr rfl hlocks (hw) (by simp only [Int32.lt_iff_toInt_lt, Int32.le_iff_toInt_le, ← Int32.toInt_inj, hk_t0, hk_t1, hk_t2, hk_t3, hk_t4, hk_t5, hk_t6, hk_t7, hk_t8, hk_t9, hk_t10, hk_t11, hk_t12, hk_t13, hk_t14, hk_t15, hk_t16, hk_t17, hk_t18, hk_t20, hk_t32, hk_tm1, hk_t256, hk_t1500, hk_t4096, hk_t2000, hk_t3000, hk_t512, hk_t1024, true_and, and_true, false_and, and_false, true_or, or_true, false_or, or_false, not_true_eq_false, not_false_eq_true] at cc_1 cc_68 cc_69 cc_91 cc_92 cc_99 cc_106 cc_107 cc_108 cc_111 cc_112 ⊢; omega) dX10_setCoding_107
                      · refine lv_aload_n hx hb dX10_setCoding_99 rfl (lv_at hl 0 rfl) ?_
                        refine lv_iload_n hx hb dX10_setCoding_100 rfl (lv_at hl 2 rfl) ?_
                        refine hk_put (ci := 13) (C := RX10) (T := TX10) (N := 10) (ty := .int) (v := .int v) hx hb hts iX10 tyX10 tyX10_ok nmX10 hown hw 1 rfl rfl 3 (by decide) (hts _ (List.mem_of_getElem? (i := 1) rfl)) rfl (by decide +kernel) rfl rfl (Nat.le_of_ble_eq_true rfl) dX10_setCoding_101 (ws' := xw cI cJ ad (upd g 6 v) lg ar bk) rfl (fun H locs hw => ?_)
                        refine lv_iconst (v := 1) hx hb dX10_setCoding_104 (by decide) ?_
                        exact hk_zret (u := (upd g 6 v)) hx hb hr rfl hlocks (hw) (by simp only [Int32.lt_iff_toInt_lt, Int32.le_iff_toInt_le, ← Int32.toInt_inj, hk_t0, hk_t1, hk_t2, hk_t3, hk_t4, hk_t5, hk_t6, hk_t7, hk_t8, hk_t9, hk_t10, hk_t11, hk_t12, hk_t13, hk_t14, hk_t15, hk_t16, hk_t17, hk_t18, hk_t20, hk_t32, hk_tm1, hk_t256, hk_t1500, hk_t4096, hk_t2000, hk_t3000, hk_t512, hk_t1024, true_and, and_true, false_and, and_false, true_or, or_true, false_or, or_false, not_true_eq_false, not_false_eq_true] at cc_1 cc_68 cc_69 cc_91 cc_92 cc_99 cc_106 cc_107 cc_108 cc_111 cc_112 ⊢; omega) dX10_setCoding_105
              · refine lv_aload_n hx hb dX10_setCoding_65 rfl (lv_at hl 0 rfl) ?_
                refine lv_iload_n hx hb dX10_setCoding_66 rfl (lv_at hl 2 rfl) ?_
                refine hk_put (ci := 13) (C := RX10) (T := TX10) (N := 10) (ty := .int) (v := .int v) hx hb hts iX10 tyX10 tyX10_ok nmX10 hown hw 1 rfl rfl 2 (by decide) (hts _ (List.mem_of_getElem? (i := 2) rfl)) rfl (by decide +kernel) rfl rfl (Nat.le_of_ble_eq_true rfl) dX10_setCoding_67 (ws' := xw cI cJ ad (upd g 5 v) lg ar bk) rfl (fun H locs hw => ?_)
                refine lv_iconst (v := 1) hx hb dX10_setCoding_70 (by decide) ?_
                exact hk_zret (u := (upd g 5 v)) hx hb hr rfl hlocks (hw) (by simp only [Int32.lt_iff_toInt_lt, Int32.le_iff_toInt_le, ← Int32.toInt_inj, hk_t0, hk_t1, hk_t2, hk_t3, hk_t4, hk_t5, hk_t6, hk_t7, hk_t8, hk_t9, hk_t10, hk_t11, hk_t12, hk_t13, hk_t14, hk_t15, hk_t16, hk_t17, hk_t18, hk_t20, hk_t32, hk_tm1, hk_t256, hk_t1500, hk_t4096, hk_t2000, hk_t3000, hk_t512, hk_t1024, true_and, and_true, false_and, and_false, true_or, or_true, false_or, or_false, not_true_eq_false, not_false_eq_true] at cc_1 cc_68 cc_69 cc_91 cc_92 cc_99 cc_106 ⊢; omega) dX10_setCoding_71
        · refine lv_iload_n hx hb dX10_setCoding_34 rfl (lv_at hl 2 rfl) ?_
          refine lv_iconst (v := 4) hx hb dX10_setCoding_35 (by decide) ?_
          refine lv_aload_n hx hb dX10_setCoding_36 rfl (lv_at hl 0 rfl) ?_
          refine hk_get (ci := 13) (C := RX10) (T := TX10) (N := 10) (v := .int 3) hx hb hts iX10 hown hw 1 rfl rfl 0 (by decide) (hts _ (List.mem_of_getElem? (i := 3) rfl)) (congrArg (fun z => some (Value.int z)) h3) dX10_setCoding_37 ?_
          refine lv_isub hx hb dX10_setCoding_40 ?_
          refine hk_topi 1 (by decide +kernel) ?_
          refine lv_icmp_gt (tgt := 51) hx hb dX10_setCoding_41 (by decide) (fun cc_113 => ?_) (fun cc_113 => ?_)
          · refine lv_iload_n hx hb dX10_setCoding_51 rfl (lv_at hl 1 rfl) ?_
            refine lv_iconst (v := 2) hx hb dX10_setCoding_52 (by decide) ?_
            refine lv_icmp_ne (tgt := 72) hx hb dX10_setCoding_53 (by decide) (fun cc_114 => ?_) (fun cc_114 => ?_)
            · refine lv_iload_n hx hb dX10_setCoding_72 rfl (lv_at hl 1 rfl) ?_
              refine lv_iconst (v := 3) hx hb dX10_setCoding_73 (by decide) ?_
              refine lv_icmp_ne (tgt := 106) hx hb dX10_setCoding_74 (by decide) (fun cc_115 => ?_) (fun cc_115 => ?_)
              · refine lv_iconst (v := 0) hx hb dX10_setCoding_106 (by decide) ?_
                exact hk_zret (u := g) hx hb hr rfl hlocks (hw) (by simp only [Int32.lt_iff_toInt_lt, Int32.le_iff_toInt_le, ← Int32.toInt_inj, hk_t0, hk_t1, hk_t2, hk_t3, hk_t4, hk_t5, hk_t6, hk_t7, hk_t8, hk_t9, hk_t10, hk_t11, hk_t12, hk_t13, hk_t14, hk_t15, hk_t16, hk_t17, hk_t18, hk_t20, hk_t32, hk_tm1, hk_t256, hk_t1500, hk_t4096, hk_t2000, hk_t3000, hk_t512, hk_t1024, true_and, and_true, false_and, and_false, true_or, or_true, false_or, or_false, not_true_eq_false, not_false_eq_true] at cc_1 cc_68 cc_69 cc_91 cc_113 cc_114 cc_115 ⊢; omega) dX10_setCoding_107
              · refine lv_iload_n hx hb dX10_setCoding_77 rfl (lv_at hl 2 rfl) ?_
                refine lv_iload_n hx hb dX10_setCoding_78 rfl (lv_at hl 3 rfl) ?_
                refine lv_if_eq (tgt := 88) hx hb dX10_setCoding_79 (by decide) (fun cc_116 => ?_) (fun cc_116 => ?_)
                · refine lv_iconst (v := 1) hx hb dX10_setCoding_88 (by decide) ?_
                  refine lv_icmp_lt (tgt := 106) hx hb dX10_setCoding_89 (by decide) (fun cc_117 => ?_) (fun cc_117 => ?_)
                  · refine lv_iconst (v := 0) hx hb dX10_setCoding_106 (by decide) ?_
                    exact hk_zret (u := g) hx hb hr rfl hlocks (hw) (by simp only [Int32.lt_iff_toInt_lt, Int32.le_iff_toInt_le, ← Int32.toInt_inj, hk_t0, hk_t1, hk_t2, hk_t3, hk_t4, hk_t5, hk_t6, hk_t7, hk_t8, hk_t9, hk_t10, hk_t11, hk_t12, hk_t13, hk_t14, hk_t15, hk_t16, hk_t17, hk_t18, hk_t20, hk_t32, hk_tm1, hk_t256, hk_t1500, hk_t4096, hk_t2000, hk_t3000, hk_t512, hk_t1024, true_and, and_true, false_and, and_false, true_or, or_true, false_or, or_false, not_true_eq_false, not_false_eq_true] at cc_1 cc_68 cc_69 cc_91 cc_113 cc_114 cc_115 cc_116 cc_117 ⊢; omega) dX10_setCoding_107
                  · refine lv_iload_n hx hb dX10_setCoding_92 rfl (lv_at hl 2 rfl) ?_
                    refine lv_sipush (v := 4096) hx hb dX10_setCoding_93 (by decide) ?_
                    refine lv_icmp_gt (tgt := 106) hx hb dX10_setCoding_96 (by decide) (fun cc_118 => ?_) (fun cc_118 => ?_)
                    · refine lv_iconst (v := 0) hx hb dX10_setCoding_106 (by decide) ?_
                      exact hk_zret (u := g) hx hb hr rfl hlocks (hw) (by simp only [Int32.lt_iff_toInt_lt, Int32.le_iff_toInt_le, ← Int32.toInt_inj, hk_t0, hk_t1, hk_t2, hk_t3, hk_t4, hk_t5, hk_t6, hk_t7, hk_t8, hk_t9, hk_t10, hk_t11, hk_t12, hk_t13, hk_t14, hk_t15, hk_t16, hk_t17, hk_t18, hk_t20, hk_t32, hk_tm1, hk_t256, hk_t1500, hk_t4096, hk_t2000, hk_t3000, hk_t512, hk_t1024, true_and, and_true, false_and, and_false, true_or, or_true, false_or, or_false, not_true_eq_false, not_false_eq_true] at cc_1 cc_68 cc_69 cc_91 cc_113 cc_114 cc_115 cc_116 cc_117 cc_118 ⊢; omega) dX10_setCoding_107
                    · refine lv_aload_n hx hb dX10_setCoding_99 rfl (lv_at hl 0 rfl) ?_
                      refine lv_iload_n hx hb dX10_setCoding_100 rfl (lv_at hl 2 rfl) ?_
                      refine hk_put (ci := 13) (C := RX10) (T := TX10) (N := 10) (ty := .int) (v := .int v) hx hb hts iX10 tyX10 tyX10_ok nmX10 hown hw 1 rfl rfl 3 (by decide) (hts _ (List.mem_of_getElem? (i := 1) rfl)) rfl (by decide +kernel) rfl rfl (Nat.le_of_ble_eq_true rfl) dX10_setCoding_101 (ws' := xw cI cJ ad (upd g 6 v) lg ar bk) rfl (fun H locs hw => ?_)
                      refine lv_iconst (v := 1) hx hb dX10_setCoding_104 (by decide) ?_
                      exact hk_zret (u := (upd g 6 v)) hx hb hr rfl hlocks (hw) (by simp only [Int32.lt_iff_toInt_lt, Int32.le_iff_toInt_le, ← Int32.toInt_inj, hk_t0, hk_t1, hk_t2, hk_t3, hk_t4, hk_t5, hk_t6, hk_t7, hk_t8, hk_t9, hk_t10, hk_t11, hk_t12, hk_t13, hk_t14, hk_t15, hk_t16, hk_t17, hk_t18, hk_t20, hk_t32, hk_tm1, hk_t256, hk_t1500, hk_t4096, hk_t2000, hk_t3000, hk_t512, hk_t1024, true_and, and_true, false_and, and_false, true_or, or_true, false_or, or_false, not_true_eq_false, not_false_eq_true] at cc_1 cc_68 cc_69 cc_91 cc_113 cc_114 cc_115 cc_116 cc_117 cc_118 ⊢; omega) dX10_setCoding_105
                · refine lv_sipush (v := 4096) hx hb dX10_setCoding_82 (by decide) ?_
                  refine lv_goto (tgt := 89) hx hb dX10_setCoding_85 (by decide) ?_
                  refine lv_icmp_lt (tgt := 106) hx hb dX10_setCoding_89 (by decide) (fun cc_119 => ?_) (fun cc_119 => ?_)
                  · refine lv_iconst (v := 0) hx hb dX10_setCoding_106 (by decide) ?_
                    exact hk_zret (u := g) hx hb hr rfl hlocks (hw) (by simp only [Int32.lt_iff_toInt_lt, Int32.le_iff_toInt_le, ← Int32.toInt_inj, hk_t0, hk_t1, hk_t2, hk_t3, hk_t4, hk_t5, hk_t6, hk_t7, hk_t8, hk_t9, hk_t10, hk_t11, hk_t12, hk_t13, hk_t14, hk_t15, hk_t16, hk_t17, hk_t18, hk_t20, hk_t32, hk_tm1, hk_t256, hk_t1500, hk_t4096, hk_t2000, hk_t3000, hk_t512, hk_t1024, true_and, and_true, false_and, and_false, true_or, or_true, false_or, or_false, not_true_eq_false, not_false_eq_true] at cc_1 cc_68 cc_69 cc_91 cc_113 cc_114 cc_115 cc_116 cc_119 ⊢; omega) dX10_setCoding_107
                  · refine lv_iload_n hx hb dX10_setCoding_92 rfl (lv_at hl 2 rfl) ?_
                    refine lv_sipush (v := 4096) hx hb dX10_setCoding_93 (by decide) ?_
                    refine lv_icmp_gt (tgt := 106) hx hb dX10_setCoding_96 (by decide) (fun cc_120 => ?_) (fun cc_120 => ?_)
                    · refine lv_iconst (v := 0) hx hb dX10_setCoding_106 (by decide) ?_
                      exact hk_zret (u := g) hx hb hr rfl hlocks (hw) (by simp only [Int32.lt_iff_toInt_lt, Int32.le_iff_toInt_le, ← Int32.toInt_inj, hk_t0, hk_t1, hk_t2, hk_t3, hk_t4, hk_t5, hk_t6, hk_t7, hk_t8, hk_t9, hk_t10, hk_t11, hk_t12, hk_t13, hk_t14, hk_t15, hk_t16, hk_t17, hk_t18, hk_t20, hk_t32, hk_tm1, hk_t256, hk_t1500, hk_t4096, hk_t2000, hk_t3000, hk_t512, hk_t1024, true_and, and_true, false_and, and_false, true_or, or_true, false_or, or_false, not_true_eq_false, not_false_eq_true] at cc_1 cc_68 cc_69 cc_91 cc_113 cc_114 cc_115 cc_116 cc_119 cc_120 ⊢; omega) dX10_setCoding_107
                    · refine lv_aload_n hx hb dX10_setCoding_99 rfl (lv_at hl 0 rfl) ?_
                      refine lv_iload_n hx hb dX10_setCoding_100 rfl (lv_at hl 2 rfl) ?_
                      refine hk_put (ci := 13) (C := RX10) (T := TX10) (N := 10) (ty := .int) (v := .int v) hx hb hts iX10 tyX10 tyX10_ok nmX10 hown hw 1 rfl rfl 3 (by decide) (hts _ (List.mem_of_getElem? (i := 1) rfl)) rfl (by decide +kernel) rfl rfl (Nat.le_of_ble_eq_true rfl) dX10_setCoding_101 (ws' := xw cI cJ ad (upd g 6 v) lg ar bk) rfl (fun H locs hw => ?_)
                      refine lv_iconst (v := 1) hx hb dX10_setCoding_104 (by decide) ?_
                      exact hk_zret (u := (upd g 6 v)) hx hb hr rfl hlocks (hw) (by simp only [Int32.lt_iff_toInt_lt, Int32.le_iff_toInt_le, ← Int32.toInt_inj, hk_t0, hk_t1, hk_t2, hk_t3, hk_t4, hk_t5, hk_t6, hk_t7, hk_t8, hk_t9, hk_t10, hk_t11, hk_t12, hk_t13, hk_t14, hk_t15, hk_t16, hk_t17, hk_t18, hk_t20, hk_t32, hk_tm1, hk_t256, hk_t1500, hk_t4096, hk_t2000, hk_t3000, hk_t512, hk_t1024, true_and, and_true, false_and, and_false, true_or, or_true, false_or, or_false, not_true_eq_false, not_false_eq_true] at cc_1 cc_68 cc_69 cc_91 cc_113 cc_114 cc_115 cc_116 cc_119 cc_120 ⊢; omega) dX10_setCoding_105
            · refine lv_iload_n hx hb dX10_setCoding_56 rfl (lv_at hl 2 rfl) ?_
              refine lv_if_lt (tgt := 72) hx hb dX10_setCoding_57 (by decide) (fun cc_121 => ?_) (fun cc_121 => ?_)
              · refine lv_iload_n hx hb dX10_setCoding_72 rfl (lv_at hl 1 rfl) ?_
                refine lv_iconst (v := 3) hx hb dX10_setCoding_73 (by decide) ?_
                refine lv_icmp_ne (tgt := 106) hx hb dX10_setCoding_74 (by decide) (fun cc_122 => ?_) (fun cc_122 => ?_)
                · refine lv_iconst (v := 0) hx hb dX10_setCoding_106 (by decide) ?_
                  exact hk_zret (u := g) hx hb hr rfl hlocks (hw) (by simp only [Int32.lt_iff_toInt_lt, Int32.le_iff_toInt_le, ← Int32.toInt_inj, hk_t0, hk_t1, hk_t2, hk_t3, hk_t4, hk_t5, hk_t6, hk_t7, hk_t8, hk_t9, hk_t10, hk_t11, hk_t12, hk_t13, hk_t14, hk_t15, hk_t16, hk_t17, hk_t18, hk_t20, hk_t32, hk_tm1, hk_t256, hk_t1500, hk_t4096, hk_t2000, hk_t3000, hk_t512, hk_t1024, true_and, and_true, false_and, and_false, true_or, or_true, false_or, or_false, not_true_eq_false, not_false_eq_true] at cc_1 cc_68 cc_69 cc_91 cc_113 cc_114 cc_121 cc_122 ⊢; omega) dX10_setCoding_107
                · refine lv_iload_n hx hb dX10_setCoding_77 rfl (lv_at hl 2 rfl) ?_
                  refine lv_iload_n hx hb dX10_setCoding_78 rfl (lv_at hl 3 rfl) ?_
                  refine lv_if_eq (tgt := 88) hx hb dX10_setCoding_79 (by decide) (fun cc_123 => ?_) (fun cc_123 => ?_)
                  · refine lv_iconst (v := 1) hx hb dX10_setCoding_88 (by decide) ?_
                    refine lv_icmp_lt (tgt := 106) hx hb dX10_setCoding_89 (by decide) (fun cc_124 => ?_) (fun cc_124 => ?_)
                    · refine lv_iconst (v := 0) hx hb dX10_setCoding_106 (by decide) ?_
                      exact hk_zret (u := g) hx hb hr rfl hlocks (hw) (by simp only [Int32.lt_iff_toInt_lt, Int32.le_iff_toInt_le, ← Int32.toInt_inj, hk_t0, hk_t1, hk_t2, hk_t3, hk_t4, hk_t5, hk_t6, hk_t7, hk_t8, hk_t9, hk_t10, hk_t11, hk_t12, hk_t13, hk_t14, hk_t15, hk_t16, hk_t17, hk_t18, hk_t20, hk_t32, hk_tm1, hk_t256, hk_t1500, hk_t4096, hk_t2000, hk_t3000, hk_t512, hk_t1024, true_and, and_true, false_and, and_false, true_or, or_true, false_or, or_false, not_true_eq_false, not_false_eq_true] at cc_1 cc_68 cc_69 cc_91 cc_113 cc_114 cc_121 cc_122 cc_123 cc_124 ⊢; omega) dX10_setCoding_107
                    · refine lv_iload_n hx hb dX10_setCoding_92 rfl (lv_at hl 2 rfl) ?_
                      refine lv_sipush (v := 4096) hx hb dX10_setCoding_93 (by decide) ?_
                      refine lv_icmp_gt (tgt := 106) hx hb dX10_setCoding_96 (by decide) (fun cc_125 => ?_) (fun cc_125 => ?_)
                      · refine lv_iconst (v := 0) hx hb dX10_setCoding_106 (by decide) ?_
                        exact hk_zret (u := g) hx hb hr rfl hlocks (hw) (by simp only [Int32.lt_iff_toInt_lt, Int32.le_iff_toInt_le, ← Int32.toInt_inj, hk_t0, hk_t1, hk_t2, hk_t3, hk_t4, hk_t5, hk_t6, hk_t7, hk_t8, hk_t9, hk_t10, hk_t11, hk_t12, hk_t13, hk_t14, hk_t15, hk_t16, hk_t17, hk_t18, hk_t20, hk_t32, hk_tm1, hk_t256, hk_t1500, hk_t4096, hk_t2000, hk_t3000, hk_t512, hk_t1024, true_and, and_true, false_and, and_false, true_or, or_true, false_or, or_false, not_true_eq_false, not_false_eq_true] at cc_1 cc_68 cc_69 cc_91 cc_113 cc_114 cc_121 cc_122 cc_123 cc_124 cc_125 ⊢; omega) dX10_setCoding_107
                      · refine lv_aload_n hx hb dX10_setCoding_99 rfl (lv_at hl 0 rfl) ?_
                        refine lv_iload_n hx hb dX10_setCoding_100 rfl (lv_at hl 2 rfl) ?_
                        refine hk_put (ci := 13) (C := RX10) (T := TX10) (N := 10) (ty := .int) (v := .int v) hx hb hts iX10 tyX10 tyX10_ok nmX10 hown hw 1 rfl rfl 3 (by decide) (hts _ (List.mem_of_getElem? (i := 1) rfl)) rfl (by decide +kernel) rfl rfl (Nat.le_of_ble_eq_true rfl) dX10_setCoding_101 (ws' := xw cI cJ ad (upd g 6 v) lg ar bk) rfl (fun H locs hw => ?_)
                        refine lv_iconst (v := 1) hx hb dX10_setCoding_104 (by decide) ?_
                        exact hk_zret (u := (upd g 6 v)) hx hb hr rfl hlocks (hw) (by simp only [Int32.lt_iff_toInt_lt, Int32.le_iff_toInt_le, ← Int32.toInt_inj, hk_t0, hk_t1, hk_t2, hk_t3, hk_t4, hk_t5, hk_t6, hk_t7, hk_t8, hk_t9, hk_t10, hk_t11, hk_t12, hk_t13, hk_t14, hk_t15, hk_t16, hk_t17, hk_t18, hk_t20, hk_t32, hk_tm1, hk_t256, hk_t1500, hk_t4096, hk_t2000, hk_t3000, hk_t512, hk_t1024, true_and, and_true, false_and, and_false, true_or, or_true, false_or, or_false, not_true_eq_false, not_false_eq_true] at cc_1 cc_68 cc_69 cc_91 cc_113 cc_114 cc_121 cc_122 cc_123 cc_124 cc_125 ⊢; omega) dX10_setCoding_105
                  · refine lv_sipush (v := 4096) hx hb dX10_setCoding_82 (by decide) ?_
                    refine lv_goto (tgt := 89) hx hb dX10_setCoding_85 (by decide) ?_
                    refine lv_icmp_lt (tgt := 106) hx hb dX10_setCoding_89 (by decide) (fun cc_126 => ?_) (fun cc_126 => ?_)
                    · refine lv_iconst (v := 0) hx hb dX10_setCoding_106 (by decide) ?_
                      exact hk_zret (u := g) hx hb hr rfl hlocks (hw) (by simp only [Int32.lt_iff_toInt_lt, Int32.le_iff_toInt_le, ← Int32.toInt_inj, hk_t0, hk_t1, hk_t2, hk_t3, hk_t4, hk_t5, hk_t6, hk_t7, hk_t8, hk_t9, hk_t10, hk_t11, hk_t12, hk_t13, hk_t14, hk_t15, hk_t16, hk_t17, hk_t18, hk_t20, hk_t32, hk_tm1, hk_t256, hk_t1500, hk_t4096, hk_t2000, hk_t3000, hk_t512, hk_t1024, true_and, and_true, false_and, and_false, true_or, or_true, false_or, or_false, not_true_eq_false, not_false_eq_true] at cc_1 cc_68 cc_69 cc_91 cc_113 cc_114 cc_121 cc_122 cc_123 cc_126 ⊢; omega) dX10_setCoding_107
                    · refine lv_iload_n hx hb dX10_setCoding_92 rfl (lv_at hl 2 rfl) ?_
                      refine lv_sipush (v := 4096) hx hb dX10_setCoding_93 (by decide) ?_
                      refine lv_icmp_gt (tgt := 106) hx hb dX10_setCoding_96 (by decide) (fun cc_127 => ?_) (fun cc_127 => ?_)
                      · refine lv_iconst (v := 0) hx hb dX10_setCoding_106 (by decide) ?_
                        exact hk_zret (u := g) hx hb hr rfl hlocks (hw) (by simp only [Int32.lt_iff_toInt_lt, Int32.le_iff_toInt_le, ← Int32.toInt_inj, hk_t0, hk_t1, hk_t2, hk_t3, hk_t4, hk_t5, hk_t6, hk_t7, hk_t8, hk_t9, hk_t10, hk_t11, hk_t12, hk_t13, hk_t14, hk_t15, hk_t16, hk_t17, hk_t18, hk_t20, hk_t32, hk_tm1, hk_t256, hk_t1500, hk_t4096, hk_t2000, hk_t3000, hk_t512, hk_t1024, true_and, and_true, false_and, and_false, true_or, or_true, false_or, or_false, not_true_eq_false, not_false_eq_true] at cc_1 cc_68 cc_69 cc_91 cc_113 cc_114 cc_121 cc_122 cc_123 cc_126 cc_127 ⊢; omega) dX10_setCoding_107
                      · refine lv_aload_n hx hb dX10_setCoding_99 rfl (lv_at hl 0 rfl) ?_
                        refine lv_iload_n hx hb dX10_setCoding_100 rfl (lv_at hl 2 rfl) ?_
                        refine hk_put (ci := 13) (C := RX10) (T := TX10) (N := 10) (ty := .int) (v := .int v) hx hb hts iX10 tyX10 tyX10_ok nmX10 hown hw 1 rfl rfl 3 (by decide) (hts _ (List.mem_of_getElem? (i := 1) rfl)) rfl (by decide +kernel) rfl rfl (Nat.le_of_ble_eq_true rfl) dX10_setCoding_101 (ws' := xw cI cJ ad (upd g 6 v) lg ar bk) rfl (fun H locs hw => ?_)
                        refine lv_iconst (v := 1) hx hb dX10_setCoding_104 (by decide) ?_
                        exact hk_zret (u := (upd g 6 v)) hx hb hr rfl hlocks (hw) (by simp only [Int32.lt_iff_toInt_lt, Int32.le_iff_toInt_le, ← Int32.toInt_inj, hk_t0, hk_t1, hk_t2, hk_t3, hk_t4, hk_t5, hk_t6, hk_t7, hk_t8, hk_t9, hk_t10, hk_t11, hk_t12, hk_t13, hk_t14, hk_t15, hk_t16, hk_t17, hk_t18, hk_t20, hk_t32, hk_tm1, hk_t256, hk_t1500, hk_t4096, hk_t2000, hk_t3000, hk_t512, hk_t1024, true_and, and_true, false_and, and_false, true_or, or_true, false_or, or_false, not_true_eq_false, not_false_eq_true] at cc_1 cc_68 cc_69 cc_91 cc_113 cc_114 cc_121 cc_122 cc_123 cc_126 cc_127 ⊢; omega) dX10_setCoding_105
              · refine lv_iload_n hx hb dX10_setCoding_60 rfl (lv_at hl 2 rfl) ?_
                refine lv_iconst (v := 4) hx hb dX10_setCoding_61 (by decide) ?_
                refine lv_icmp_gt (tgt := 72) hx hb dX10_setCoding_62 (by decide) (fun cc_128 => ?_) (fun cc_128 => ?_)
                · refine lv_iload_n hx hb dX10_setCoding_72 rfl (lv_at hl 1 rfl) ?_
                  refine lv_iconst (v := 3) hx hb dX10_setCoding_73 (by decide) ?_
                  refine lv_icmp_ne (tgt := 106) hx hb dX10_setCoding_74 (by decide) (fun cc_129 => ?_) (fun cc_129 => ?_)
                  · refine lv_iconst (v := 0) hx hb dX10_setCoding_106 (by decide) ?_
                    exact hk_zret (u := g) hx hb hr rfl hlocks (hw) (by simp only [Int32.lt_iff_toInt_lt, Int32.le_iff_toInt_le, ← Int32.toInt_inj, hk_t0, hk_t1, hk_t2, hk_t3, hk_t4, hk_t5, hk_t6, hk_t7, hk_t8, hk_t9, hk_t10, hk_t11, hk_t12, hk_t13, hk_t14, hk_t15, hk_t16, hk_t17, hk_t18, hk_t20, hk_t32, hk_tm1, hk_t256, hk_t1500, hk_t4096, hk_t2000, hk_t3000, hk_t512, hk_t1024, true_and, and_true, false_and, and_false, true_or, or_true, false_or, or_false, not_true_eq_false, not_false_eq_true] at cc_1 cc_68 cc_69 cc_91 cc_113 cc_114 cc_121 cc_128 cc_129 ⊢; omega) dX10_setCoding_107
                  · refine lv_iload_n hx hb dX10_setCoding_77 rfl (lv_at hl 2 rfl) ?_
                    refine lv_iload_n hx hb dX10_setCoding_78 rfl (lv_at hl 3 rfl) ?_
                    refine lv_if_eq (tgt := 88) hx hb dX10_setCoding_79 (by decide) (fun cc_130 => ?_) (fun cc_130 => ?_)
                    · refine lv_iconst (v := 1) hx hb dX10_setCoding_88 (by decide) ?_
                      refine lv_icmp_lt (tgt := 106) hx hb dX10_setCoding_89 (by decide) (fun cc_131 => ?_) (fun cc_131 => ?_)
                      · refine lv_iconst (v := 0) hx hb dX10_setCoding_106 (by decide) ?_
                        exact hk_zret (u := g) hx hb hr rfl hlocks (hw) (by simp only [Int32.lt_iff_toInt_lt, Int32.le_iff_toInt_le, ← Int32.toInt_inj, hk_t0, hk_t1, hk_t2, hk_t3, hk_t4, hk_t5, hk_t6, hk_t7, hk_t8, hk_t9, hk_t10, hk_t11, hk_t12, hk_t13, hk_t14, hk_t15, hk_t16, hk_t17, hk_t18, hk_t20, hk_t32, hk_tm1, hk_t256, hk_t1500, hk_t4096, hk_t2000, hk_t3000, hk_t512, hk_t1024, true_and, and_true, false_and, and_false, true_or, or_true, false_or, or_false, not_true_eq_false, not_false_eq_true] at cc_1 cc_68 cc_69 cc_91 cc_113 cc_114 cc_121 cc_128 cc_129 cc_130 cc_131 ⊢; omega) dX10_setCoding_107
                      · refine lv_iload_n hx hb dX10_setCoding_92 rfl (lv_at hl 2 rfl) ?_
                        refine lv_sipush (v := 4096) hx hb dX10_setCoding_93 (by decide) ?_
                        refine lv_icmp_gt (tgt := 106) hx hb dX10_setCoding_96 (by decide) (fun cc_132 => ?_) (fun cc_132 => ?_)
                        · refine lv_iconst (v := 0) hx hb dX10_setCoding_106 (by decide) ?_
                          exact hk_zret (u := g) hx hb hr rfl hlocks (hw) (by simp only [Int32.lt_iff_toInt_lt, Int32.le_iff_toInt_le, ← Int32.toInt_inj, hk_t0, hk_t1, hk_t2, hk_t3, hk_t4, hk_t5, hk_t6, hk_t7, hk_t8, hk_t9, hk_t10, hk_t11, hk_t12, hk_t13, hk_t14, hk_t15, hk_t16, hk_t17, hk_t18, hk_t20, hk_t32, hk_tm1, hk_t256, hk_t1500, hk_t4096, hk_t2000, hk_t3000, hk_t512, hk_t1024, true_and, and_true, false_and, and_false, true_or, or_true, false_or, or_false, not_true_eq_false, not_false_eq_true] at cc_1 cc_68 cc_69 cc_91 cc_113 cc_114 cc_121 cc_128 cc_129 cc_130 cc_131 cc_132 ⊢; omega) dX10_setCoding_107
                        · refine lv_aload_n hx hb dX10_setCoding_99 rfl (lv_at hl 0 rfl) ?_
                          refine lv_iload_n hx hb dX10_setCoding_100 rfl (lv_at hl 2 rfl) ?_
                          refine hk_put (ci := 13) (C := RX10) (T := TX10) (N := 10) (ty := .int) (v := .int v) hx hb hts iX10 tyX10 tyX10_ok nmX10 hown hw 1 rfl rfl 3 (by decide) (hts _ (List.mem_of_getElem? (i := 1) rfl)) rfl (by decide +kernel) rfl rfl (Nat.le_of_ble_eq_true rfl) dX10_setCoding_101 (ws' := xw cI cJ ad (upd g 6 v) lg ar bk) rfl (fun H locs hw => ?_)
                          refine lv_iconst (v := 1) hx hb dX10_setCoding_104 (by decide) ?_
                          exact hk_zret (u := (upd g 6 v)) hx hb hr rfl hlocks (hw) (by simp only [Int32.lt_iff_toInt_lt, Int32.le_iff_toInt_le, ← Int32.toInt_inj, hk_t0, hk_t1, hk_t2, hk_t3, hk_t4, hk_t5, hk_t6, hk_t7, hk_t8, hk_t9, hk_t10, hk_t11, hk_t12, hk_t13, hk_t14, hk_t15, hk_t16, hk_t17, hk_t18, hk_t20, hk_t32, hk_tm1, hk_t256, hk_t1500, hk_t4096, hk_t2000, hk_t3000, hk_t512, hk_t1024, true_and, and_true, false_and, and_false, true_or, or_true, false_or, or_false, not_true_eq_false, not_false_eq_true] at cc_1 cc_68 cc_69 cc_91 cc_113 cc_114 cc_121 cc_128 cc_129 cc_130 cc_131 cc_132 ⊢; omega) dX10_setCoding_105
                    · refine lv_sipush (v := 4096) hx hb dX10_setCoding_82 (by decide) ?_
                      refine lv_goto (tgt := 89) hx hb dX10_setCoding_85 (by decide) ?_
                      refine lv_icmp_lt (tgt := 106) hx hb dX10_setCoding_89 (by decide) (fun cc_133 => ?_) (fun cc_133 => ?_)
                      · refine lv_iconst (v := 0) hx hb dX10_setCoding_106 (by decide) ?_
                        exact hk_zret (u := g) hx hb hr rfl hlocks (hw) (by simp only [Int32.lt_iff_toInt_lt, Int32.le_iff_toInt_le, ← Int32.toInt_inj, hk_t0, hk_t1, hk_t2, hk_t3, hk_t4, hk_t5, hk_t6, hk_t7, hk_t8, hk_t9, hk_t10, hk_t11, hk_t12, hk_t13, hk_t14, hk_t15, hk_t16, hk_t17, hk_t18, hk_t20, hk_t32, hk_tm1, hk_t256, hk_t1500, hk_t4096, hk_t2000, hk_t3000, hk_t512, hk_t1024, true_and, and_true, false_and, and_false, true_or, or_true, false_or, or_false, not_true_eq_false, not_false_eq_true] at cc_1 cc_68 cc_69 cc_91 cc_113 cc_114 cc_121 cc_128 cc_129 cc_130 cc_133 ⊢; omega) dX10_setCoding_107
                      · refine lv_iload_n hx hb dX10_setCoding_92 rfl (lv_at hl 2 rfl) ?_
                        refine lv_sipush (v := 4096) hx hb dX10_setCoding_93 (by decide) ?_
                        refine lv_icmp_gt (tgt := 106) hx hb dX10_setCoding_96 (by decide) (fun cc_134 => ?_) (fun cc_134 => ?_)
                        · refine lv_iconst (v := 0) hx hb dX10_setCoding_106 (by decide) ?_
                          exact hk_zret (u := g) hx hb hr rfl hlocks (hw) (by simp only [Int32.lt_iff_toInt_lt, Int32.le_iff_toInt_le, ← Int32.toInt_inj, hk_t0, hk_t1, hk_t2, hk_t3, hk_t4, hk_t5, hk_t6, hk_t7, hk_t8, hk_t9, hk_t10, hk_t11, hk_t12, hk_t13, hk_t14, hk_t15, hk_t16, hk_t17, hk_t18, hk_t20, hk_t32, hk_tm1, hk_t256, hk_t1500, hk_t4096, hk_t2000, hk_t3000, hk_t512, hk_t1024, true_and, and_true, false_and, and_false, true_or, or_true, false_or, or_false, not_true_eq_false, not_false_eq_true] at cc_1 cc_68 cc_69 cc_91 cc_113 cc_114 cc_121 cc_128 cc_129 cc_130 cc_133 cc_134 ⊢; omega) dX10_setCoding_107
                        · refine lv_aload_n hx hb dX10_setCoding_99 rfl (lv_at hl 0 rfl) ?_
                          refine lv_iload_n hx hb dX10_setCoding_100 rfl (lv_at hl 2 rfl) ?_
                          refine hk_put (ci := 13) (C := RX10) (T := TX10) (N := 10) (ty := .int) (v := .int v) hx hb hts iX10 tyX10 tyX10_ok nmX10 hown hw 1 rfl rfl 3 (by decide) (hts _ (List.mem_of_getElem? (i := 1) rfl)) rfl (by decide +kernel) rfl rfl (Nat.le_of_ble_eq_true rfl) dX10_setCoding_101 (ws' := xw cI cJ ad (upd g 6 v) lg ar bk) rfl (fun H locs hw => ?_)
                          refine lv_iconst (v := 1) hx hb dX10_setCoding_104 (by decide) ?_
                          exact hk_zret (u := (upd g 6 v)) hx hb hr rfl hlocks (hw) (by simp only [Int32.lt_iff_toInt_lt, Int32.le_iff_toInt_le, ← Int32.toInt_inj, hk_t0, hk_t1, hk_t2, hk_t3, hk_t4, hk_t5, hk_t6, hk_t7, hk_t8, hk_t9, hk_t10, hk_t11, hk_t12, hk_t13, hk_t14, hk_t15, hk_t16, hk_t17, hk_t18, hk_t20, hk_t32, hk_tm1, hk_t256, hk_t1500, hk_t4096, hk_t2000, hk_t3000, hk_t512, hk_t1024, true_and, and_true, false_and, and_false, true_or, or_true, false_or, or_false, not_true_eq_false, not_false_eq_true] at cc_1 cc_68 cc_69 cc_91 cc_113 cc_114 cc_121 cc_128 cc_129 cc_130 cc_133 cc_134 ⊢; omega) dX10_setCoding_105
                · refine lv_aload_n hx hb dX10_setCoding_65 rfl (lv_at hl 0 rfl) ?_
                  refine lv_iload_n hx hb dX10_setCoding_66 rfl (lv_at hl 2 rfl) ?_
                  refine hk_put (ci := 13) (C := RX10) (T := TX10) (N := 10) (ty := .int) (v := .int v) hx hb hts iX10 tyX10 tyX10_ok nmX10 hown hw 1 rfl rfl 2 (by decide) (hts _ (List.mem_of_getElem? (i := 2) rfl)) rfl (by decide +kernel) rfl rfl (Nat.le_of_ble_eq_true rfl) dX10_setCoding_67 (ws' := xw cI cJ ad (upd g 5 v) lg ar bk) rfl (fun H locs hw => ?_)
                  refine lv_iconst (v := 1) hx hb dX10_setCoding_70 (by decide) ?_
                  exact hk_zret (u := (upd g 5 v)) hx hb hr rfl hlocks (hw) (by simp only [Int32.lt_iff_toInt_lt, Int32.le_iff_toInt_le, ← Int32.toInt_inj, hk_t0, hk_t1, hk_t2, hk_t3, hk_t4, hk_t5, hk_t6, hk_t7, hk_t8, hk_t9, hk_t10, hk_t11, hk_t12, hk_t13, hk_t14, hk_t15, hk_t16, hk_t17, hk_t18, hk_t20, hk_t32, hk_tm1, hk_t256, hk_t1500, hk_t4096, hk_t2000, hk_t3000, hk_t512, hk_t1024, true_and, and_true, false_and, and_false, true_or, or_true, false_or, or_false, not_true_eq_false, not_false_eq_true] at cc_1 cc_68 cc_69 cc_91 cc_113 cc_114 cc_121 cc_128 ⊢; omega) dX10_setCoding_71
          · refine lv_aload_n hx hb dX10_setCoding_44 rfl (lv_at hl 0 rfl) ?_
            refine lv_iload_n hx hb dX10_setCoding_45 rfl (lv_at hl 2 rfl) ?_
            refine hk_put (ci := 13) (C := RX10) (T := TX10) (N := 10) (ty := .int) (v := .int v) hx hb hts iX10 tyX10 tyX10_ok nmX10 hown hw 1 rfl rfl 1 (by decide) (hts _ (List.mem_of_getElem? (i := 4) rfl)) rfl (by decide +kernel) rfl rfl (Nat.le_of_ble_eq_true rfl) dX10_setCoding_46 (ws' := xw cI cJ ad (upd g 4 v) lg ar bk) rfl (fun H locs hw => ?_)
            refine lv_iconst (v := 1) hx hb dX10_setCoding_49 (by decide) ?_
            exact hk_zret (u := (upd g 4 v)) hx hb hr rfl hlocks (hw) (by simp only [Int32.lt_iff_toInt_lt, Int32.le_iff_toInt_le, ← Int32.toInt_inj, hk_t0, hk_t1, hk_t2, hk_t3, hk_t4, hk_t5, hk_t6, hk_t7, hk_t8, hk_t9, hk_t10, hk_t11, hk_t12, hk_t13, hk_t14, hk_t15, hk_t16, hk_t17, hk_t18, hk_t20, hk_t32, hk_tm1, hk_t256, hk_t1500, hk_t4096, hk_t2000, hk_t3000, hk_t512, hk_t1024, true_and, and_true, false_and, and_false, true_or, or_true, false_or, or_false, not_true_eq_false, not_false_eq_true] at cc_1 cc_68 cc_69 cc_91 cc_113 ⊢; omega) dX10_setCoding_50
    · refine lv_iload_n hx hb dX10_setCoding_8 rfl (lv_at hl 2 rfl) ?_
      refine lv_iconst (v := 4) hx hb dX10_setCoding_9 (by decide) ?_
      refine lv_aload_n hx hb dX10_setCoding_10 rfl (lv_at hl 0 rfl) ?_
      refine hk_get (ci := 13) (C := RX10) (T := TX10) (N := 10) (v := .int 0) hx hb hts iX10 hown hw 1 rfl rfl 1 (by decide) (hts _ (List.mem_of_getElem? (i := 4) rfl)) (congrArg (fun z => some (Value.int z)) h4) dX10_setCoding_11 ?_
      refine lv_isub hx hb dX10_setCoding_14 ?_
      refine hk_topi 4 (by decide +kernel) ?_
      refine lv_icmp_gt (tgt := 25) hx hb dX10_setCoding_15 (by decide) (fun cc_135 => ?_) (fun cc_135 => ?_)
      · refine lv_iload_n hx hb dX10_setCoding_25 rfl (lv_at hl 1 rfl) ?_
        refine lv_iconst (v := 1) hx hb dX10_setCoding_26 (by decide) ?_
        refine lv_icmp_ne (tgt := 51) hx hb dX10_setCoding_27 (by decide) (fun cc_136 => ?_) (fun cc_136 => ?_)
        · refine lv_iload_n hx hb dX10_setCoding_51 rfl (lv_at hl 1 rfl) ?_
          refine lv_iconst (v := 2) hx hb dX10_setCoding_52 (by decide) ?_
          refine lv_icmp_ne (tgt := 72) hx hb dX10_setCoding_53 (by decide) (fun cc_137 => ?_) (fun cc_137 => ?_)
          · refine lv_iload_n hx hb dX10_setCoding_72 rfl (lv_at hl 1 rfl) ?_
            refine lv_iconst (v := 3) hx hb dX10_setCoding_73 (by decide) ?_
            refine lv_icmp_ne (tgt := 106) hx hb dX10_setCoding_74 (by decide) (fun cc_138 => ?_) (fun cc_138 => ?_)
            · refine lv_iconst (v := 0) hx hb dX10_setCoding_106 (by decide) ?_
              exact hk_zret (u := g) hx hb hr rfl hlocks (hw) (by simp only [Int32.lt_iff_toInt_lt, Int32.le_iff_toInt_le, ← Int32.toInt_inj, hk_t0, hk_t1, hk_t2, hk_t3, hk_t4, hk_t5, hk_t6, hk_t7, hk_t8, hk_t9, hk_t10, hk_t11, hk_t12, hk_t13, hk_t14, hk_t15, hk_t16, hk_t17, hk_t18, hk_t20, hk_t32, hk_tm1, hk_t256, hk_t1500, hk_t4096, hk_t2000, hk_t3000, hk_t512, hk_t1024, true_and, and_true, false_and, and_false, true_or, or_true, false_or, or_false, not_true_eq_false, not_false_eq_true] at cc_1 cc_68 cc_135 cc_136 cc_137 cc_138 ⊢; omega) dX10_setCoding_107
            · refine lv_iload_n hx hb dX10_setCoding_77 rfl (lv_at hl 2 rfl) ?_
              refine lv_iload_n hx hb dX10_setCoding_78 rfl (lv_at hl 3 rfl) ?_
              refine lv_if_eq (tgt := 88) hx hb dX10_setCoding_79 (by decide) (fun cc_139 => ?_) (fun cc_139 => ?_)
              · refine lv_iconst (v := 1) hx hb dX10_setCoding_88 (by decide) ?_
                refine lv_icmp_lt (tgt := 106) hx hb dX10_setCoding_89 (by decide) (fun cc_140 => ?_) (fun cc_140 => ?_)
                · refine lv_iconst (v := 0) hx hb dX10_setCoding_106 (by decide) ?_
                  exact hk_zret (u := g) hx hb hr rfl hlocks (hw) (by simp only [Int32.lt_iff_toInt_lt, Int32.le_iff_toInt_le, ← Int32.toInt_inj, hk_t0, hk_t1, hk_t2, hk_t3, hk_t4, hk_t5, hk_t6, hk_t7, hk_t8, hk_t9, hk_t10, hk_t11, hk_t12, hk_t13, hk_t14, hk_t15, hk_t16, hk_t17, hk_t18, hk_t20, hk_t32, hk_tm1, hk_t256, hk_t1500, hk_t4096, hk_t2000, hk_t3000, hk_t512, hk_t1024, true_and, and_true, false_and, and_false, true_or, or_true, false_or, or_false, not_true_eq_false, not_false_eq_true] at cc_1 cc_68 cc_135 cc_136 cc_137 cc_138 cc_139 cc_140 ⊢; omega) dX10_setCoding_107
                · refine lv_iload_n hx hb dX10_setCoding_92 rfl (lv_at hl 2 rfl) ?_
                  refine lv_sipush (v := 4096) hx hb dX10_setCoding_93 (by decide) ?_
                  refine lv_icmp_gt (tgt := 106) hx hb dX10_setCoding_96 (by decide) (fun cc_141 => ?_) (fun cc_141 => ?_)
                  · refine lv_iconst (v := 0) hx hb dX10_setCoding_106 (by decide) ?_
                    exact hk_zret (u := g) hx hb hr rfl hlocks (hw) (by simp only [Int32.lt_iff_toInt_lt, Int32.le_iff_toInt_le, ← Int32.toInt_inj, hk_t0, hk_t1, hk_t2, hk_t3, hk_t4, hk_t5, hk_t6, hk_t7, hk_t8, hk_t9, hk_t10, hk_t11, hk_t12, hk_t13, hk_t14, hk_t15, hk_t16, hk_t17, hk_t18, hk_t20, hk_t32, hk_tm1, hk_t256, hk_t1500, hk_t4096, hk_t2000, hk_t3000, hk_t512, hk_t1024, true_and, and_true, false_and, and_false, true_or, or_true, false_or, or_false, not_true_eq_false, not_false_eq_true] at cc_1 cc_68 cc_135 cc_136 cc_137 cc_138 cc_139 cc_140 cc_141 ⊢; omega) dX10_setCoding_107
                  · refine lv_aload_n hx hb dX10_setCoding_99 rfl (lv_at hl 0 rfl) ?_
                    refine lv_iload_n hx hb dX10_setCoding_100 rfl (lv_at hl 2 rfl) ?_
                    refine hk_put (ci := 13) (C := RX10) (T := TX10) (N := 10) (ty := .int) (v := .int v) hx hb hts iX10 tyX10 tyX10_ok nmX10 hown hw 1 rfl rfl 3 (by decide) (hts _ (List.mem_of_getElem? (i := 1) rfl)) rfl (by decide +kernel) rfl rfl (Nat.le_of_ble_eq_true rfl) dX10_setCoding_101 (ws' := xw cI cJ ad (upd g 6 v) lg ar bk) rfl (fun H locs hw => ?_)
                    refine lv_iconst (v := 1) hx hb dX10_setCoding_104 (by decide) ?_
                    exact hk_zret (u := (upd g 6 v)) hx hb hr rfl hlocks (hw) (by simp only [Int32.lt_iff_toInt_lt, Int32.le_iff_toInt_le, ← Int32.toInt_inj, hk_t0, hk_t1, hk_t2, hk_t3, hk_t4, hk_t5, hk_t6, hk_t7, hk_t8, hk_t9, hk_t10, hk_t11, hk_t12, hk_t13, hk_t14, hk_t15, hk_t16, hk_t17, hk_t18, hk_t20, hk_t32, hk_tm1, hk_t256, hk_t1500, hk_t4096, hk_t2000, hk_t3000, hk_t512, hk_t1024, true_and, and_true, false_and, and_false, true_or, or_true, false_or, or_false, not_true_eq_false, not_false_eq_true] at cc_1 cc_68 cc_135 cc_136 cc_137 cc_138 cc_139 cc_140 cc_141 ⊢; omega) dX10_setCoding_105
              · refine lv_sipush (v := 4096) hx hb dX10_setCoding_82 (by decide) ?_
                refine lv_goto (tgt := 89) hx hb dX10_setCoding_85 (by decide) ?_
                refine lv_icmp_lt (tgt := 106) hx hb dX10_setCoding_89 (by decide) (fun cc_142 => ?_) (fun cc_142 => ?_)
                · refine lv_iconst (v := 0) hx hb dX10_setCoding_106 (by decide) ?_
                  exact hk_zret (u := g) hx hb hr rfl hlocks (hw) (by simp only [Int32.lt_iff_toInt_lt, Int32.le_iff_toInt_le, ← Int32.toInt_inj, hk_t0, hk_t1, hk_t2, hk_t3, hk_t4, hk_t5, hk_t6, hk_t7, hk_t8, hk_t9, hk_t10, hk_t11, hk_t12, hk_t13, hk_t14, hk_t15, hk_t16, hk_t17, hk_t18, hk_t20, hk_t32, hk_tm1, hk_t256, hk_t1500, hk_t4096, hk_t2000, hk_t3000, hk_t512, hk_t1024, true_and, and_true, false_and, and_false, true_or, or_true, false_or, or_false, not_true_eq_false, not_false_eq_true] at cc_1 cc_68 cc_135 cc_136 cc_137 cc_138 cc_139 cc_142 ⊢; omega) dX10_setCoding_107
                · refine lv_iload_n hx hb dX10_setCoding_92 rfl (lv_at hl 2 rfl) ?_
                  refine lv_sipush (v := 4096) hx hb dX10_setCoding_93 (by decide) ?_
                  refine lv_icmp_gt (tgt := 106) hx hb dX10_setCoding_96 (by decide) (fun cc_143 => ?_) (fun cc_143 => ?_)
                  · refine lv_iconst (v := 0) hx hb dX10_setCoding_106 (by decide) ?_
                    exact hk_zret (u := g) hx hb hr rfl hlocks (hw) (by simp only [Int32.lt_iff_toInt_lt, Int32.le_iff_toInt_le, ← Int32.toInt_inj, hk_t0, hk_t1, hk_t2, hk_t3, hk_t4, hk_t5, hk_t6, hk_t7, hk_t8, hk_t9, hk_t10, hk_t11, hk_t12, hk_t13, hk_t14, hk_t15, hk_t16, hk_t17, hk_t18, hk_t20, hk_t32, hk_tm1, hk_t256, hk_t1500, hk_t4096, hk_t2000, hk_t3000, hk_t512, hk_t1024, true_and, and_true, false_and, and_false, true_or, or_true, false_or, or_false, not_true_eq_false, not_false_eq_true] at cc_1 cc_68 cc_135 cc_136 cc_137 cc_138 cc_139 cc_142 cc_143 ⊢; omega) dX10_setCoding_107
                  · refine lv_aload_n hx hb dX10_setCoding_99 rfl (lv_at hl 0 rfl) ?_
                    refine lv_iload_n hx hb dX10_setCoding_100 rfl (lv_at hl 2 rfl) ?_
                    refine hk_put (ci := 13) (C := RX10) (T := TX10) (N := 10) (ty := .int) (v := .int v) hx hb hts iX10 tyX10 tyX10_ok nmX10 hown hw 1 rfl rfl 3 (by decide) (hts _ (List.mem_of_getElem? (i := 1) rfl)) rfl (by decide +kernel) rfl rfl (Nat.le_of_ble_eq_true rfl) dX10_setCoding_101 (ws' := xw cI cJ ad (upd g 6 v) lg ar bk) rfl (fun H locs hw => ?_)
                    refine lv_iconst (v := 1) hx hb dX10_setCoding_104 (by decide) ?_
                    exact hk_zret (u := (upd g 6 v)) hx hb hr rfl hlocks (hw) (by simp only [Int32.lt_iff_toInt_lt, Int32.le_iff_toInt_le, ← Int32.toInt_inj, hk_t0, hk_t1, hk_t2, hk_t3, hk_t4, hk_t5, hk_t6, hk_t7, hk_t8, hk_t9, hk_t10, hk_t11, hk_t12, hk_t13, hk_t14, hk_t15, hk_t16, hk_t17, hk_t18, hk_t20, hk_t32, hk_tm1, hk_t256, hk_t1500, hk_t4096, hk_t2000, hk_t3000, hk_t512, hk_t1024, true_and, and_true, false_and, and_false, true_or, or_true, false_or, or_false, not_true_eq_false, not_false_eq_true] at cc_1 cc_68 cc_135 cc_136 cc_137 cc_138 cc_139 cc_142 cc_143 ⊢; omega) dX10_setCoding_105
          · refine lv_iload_n hx hb dX10_setCoding_56 rfl (lv_at hl 2 rfl) ?_
            refine lv_if_lt (tgt := 72) hx hb dX10_setCoding_57 (by decide) (fun cc_144 => ?_) (fun cc_144 => ?_)
            · refine lv_iload_n hx hb dX10_setCoding_72 rfl (lv_at hl 1 rfl) ?_
              refine lv_iconst (v := 3) hx hb dX10_setCoding_73 (by decide) ?_
              refine lv_icmp_ne (tgt := 106) hx hb dX10_setCoding_74 (by decide) (fun cc_145 => ?_) (fun cc_145 => ?_)
              · refine lv_iconst (v := 0) hx hb dX10_setCoding_106 (by decide) ?_
                exact hk_zret (u := g) hx hb hr rfl hlocks (hw) (by simp only [Int32.lt_iff_toInt_lt, Int32.le_iff_toInt_le, ← Int32.toInt_inj, hk_t0, hk_t1, hk_t2, hk_t3, hk_t4, hk_t5, hk_t6, hk_t7, hk_t8, hk_t9, hk_t10, hk_t11, hk_t12, hk_t13, hk_t14, hk_t15, hk_t16, hk_t17, hk_t18, hk_t20, hk_t32, hk_tm1, hk_t256, hk_t1500, hk_t4096, hk_t2000, hk_t3000, hk_t512, hk_t1024, true_and, and_true, false_and, and_false, true_or, or_true, false_or, or_false, not_true_eq_false, not_false_eq_true] at cc_1 cc_68 cc_135 cc_136 cc_137 cc_144 cc_145 ⊢; omega) dX10_setCoding_107
              · refine lv_iload_n hx hb dX10_setCoding_77 rfl (lv_at hl 2 rfl) ?_
                refine lv_iload_n hx hb dX10_setCoding_78 rfl (lv_at hl 3 rfl) ?_
                refine lv_if_eq (tgt := 88) hx hb dX10_setCoding_79 (by decide) (fun cc_146 => ?_) (fun cc_146 => ?_)
                · refine lv_iconst (v := 1) hx hb dX10_setCoding_88 (by decide) ?_
                  refine lv_icmp_lt (tgt := 106) hx hb dX10_setCoding_89 (by decide) (fun cc_147 => ?_) (fun cc_147 => ?_)
                  · refine lv_iconst (v := 0) hx hb dX10_setCoding_106 (by decide) ?_
                    exact hk_zret (u := g) hx hb hr rfl hlocks (hw) (by simp only [Int32.lt_iff_toInt_lt, Int32.le_iff_toInt_le, ← Int32.toInt_inj, hk_t0, hk_t1, hk_t2, hk_t3, hk_t4, hk_t5, hk_t6, hk_t7, hk_t8, hk_t9, hk_t10, hk_t11, hk_t12, hk_t13, hk_t14, hk_t15, hk_t16, hk_t17, hk_t18, hk_t20, hk_t32, hk_tm1, hk_t256, hk_t1500, hk_t4096, hk_t2000, hk_t3000, hk_t512, hk_t1024, true_and, and_true, false_and, and_false, true_or, or_true, false_or, or_false, not_true_eq_false, not_false_eq_true] at cc_1 cc_68 cc_135 cc_136 cc_137 cc_144 cc_145 cc_146 cc_147 ⊢; omega) dX10_setCoding_107
                  · refine lv_iload_n hx hb dX10_setCoding_92 rfl (lv_at hl 2 rfl) ?_
                    refine lv_sipush (v := 4096) hx hb dX10_setCoding_93 (by decide) ?_
                    refine lv_icmp_gt (tgt := 106) hx hb dX10_setCoding_96 (by decide) (fun cc_148 => ?_) (fun cc_148 => ?_)
                    · refine lv_iconst (v := 0) hx hb dX10_setCoding_106 (by decide) ?_
                      exact hk_zret (u := g) hx hb hr rfl hlocks (hw) (by simp only [Int32.lt_iff_toInt_lt, Int32.le_iff_toInt_le, ← Int32.toInt_inj, hk_t0, hk_t1, hk_t2, hk_t3, hk_t4, hk_t5, hk_t6, hk_t7, hk_t8, hk_t9, hk_t10, hk_t11, hk_t12, hk_t13, hk_t14, hk_t15, hk_t16, hk_t17, hk_t18, hk_t20, hk_t32, hk_tm1, hk_t256, hk_t1500, hk_t4096, hk_t2000, hk_t3000, hk_t512, hk_t1024, true_and, and_true, false_and, and_false, true_or, or_true, false_or, or_false, not_true_eq_false, not_false_eq_true] at cc_1 cc_68 cc_135 cc_136 cc_137 cc_144 cc_145 cc_146 cc_147 cc_148 ⊢; omega) dX10_setCoding_107
                    · refine lv_aload_n hx hb dX10_setCoding_99 rfl (lv_at hl 0 rfl) ?_
                      refine lv_iload_n hx hb dX10_setCoding_100 rfl (lv_at hl 2 rfl) ?_
                      refine hk_put (ci := 13) (C := RX10) (T := TX10) (N := 10) (ty := .int) (v := .int v) hx hb hts iX10 tyX10 tyX10_ok nmX10 hown hw 1 rfl rfl 3 (by decide) (hts _ (List.mem_of_getElem? (i := 1) rfl)) rfl (by decide +kernel) rfl rfl (Nat.le_of_ble_eq_true rfl) dX10_setCoding_101 (ws' := xw cI cJ ad (upd g 6 v) lg ar bk) rfl (fun H locs hw => ?_)
                      refine lv_iconst (v := 1) hx hb dX10_setCoding_104 (by decide) ?_
                      exact hk_zret (u := (upd g 6 v)) hx hb hr rfl hlocks (hw) (by simp only [Int32.lt_iff_toInt_lt, Int32.le_iff_toInt_le, ← Int32.toInt_inj, hk_t0, hk_t1, hk_t2, hk_t3, hk_t4, hk_t5, hk_t6, hk_t7, hk_t8, hk_t9, hk_t10, hk_t11, hk_t12, hk_t13, hk_t14, hk_t15, hk_t16, hk_t17, hk_t18, hk_t20, hk_t32, hk_tm1, hk_t256, hk_t1500, hk_t4096, hk_t2000, hk_t3000, hk_t512, hk_t1024, true_and, and_true, false_and, and_false, true_or, or_true, false_or, or_false, not_true_eq_false, not_false_eq_true] at cc_1 cc_68 cc_135 cc_136 cc_137 cc_144 cc_145 cc_146 cc_147 cc_148 ⊢; omega) dX10_setCoding_105
                · refine lv_sipush (v := 4096) hx hb dX10_setCoding_82 (by decide) ?_
                  refine lv_goto (tgt := 89) hx hb dX10_setCoding_85 (by decide) ?_
                  refine lv_icmp_lt (tgt := 106) hx hb dX10_setCoding_89 (by decide) (fun cc_149 => ?_) (fun cc_149 => ?_)
                  · refine lv_iconst (v := 0) hx hb dX10_setCoding_106 (by decide) ?_
                    exact hk_zret (u := g) hx hb hr rfl hlocks (hw) (by simp only [Int32.lt_iff_toInt_lt, Int32.le_iff_toInt_le, ← Int32.toInt_inj, hk_t0, hk_t1, hk_t2, hk_t3, hk_t4, hk_t5, hk_t6, hk_t7, hk_t8, hk_t9, hk_t10, hk_t11, hk_t12, hk_t13, hk_t14, hk_t15, hk_t16, hk_t17, hk_t18, hk_t20, hk_t32, hk_tm1, hk_t256, hk_t1500, hk_t4096, hk_t2000, hk_t3000, hk_t512, hk_t1024, true_and, and_true, false_and, and_false, true_or, or_true, false_or, or_false, not_true_eq_false, not_false_eq_true] at cc_1 cc_68 cc_135 cc_136 cc_137 cc_144 cc_145 cc_146 cc_149 ⊢; omega) dX10_setCoding_107
                  · refine lv_iload_n hx hb dX10_setCoding_92 rfl (lv_at hl 2 rfl) ?_
                    refine lv_sipush (v := 4096) hx hb dX10_setCoding_93 (by decide) ?_
                    refine lv_icmp_gt (tgt := 106) hx hb dX10_setCoding_96 (by decide) (fun cc_150 => ?_) (fun cc_150 => ?_)
                    · refine lv_iconst (v := 0) hx hb dX10_setCoding_106 (by decide) ?_
                      exact hk_zret (u := g) hx hb hr rfl hlocks (hw) (by simp only [Int32.lt_iff_toInt_lt, Int32.le_iff_toInt_le, ← Int32.toInt_inj, hk_t0, hk_t1, hk_t2, hk_t3, hk_t4, hk_t5, hk_t6, hk_t7, hk_t8, hk_t9, hk_t10, hk_t11, hk_t12, hk_t13, hk_t14, hk_t15, hk_t16, hk_t17, hk_t18, hk_t20, hk_t32, hk_tm1, hk_t256, hk_t1500, hk_t4096, hk_t2000, hk_t3000, hk_t512, hk_t1024, true_and, and_true, false_and, and_false, true_or, or_true, false_or, or_false, not_true_eq_false, not_false_eq_true] at cc_1 cc_68 cc_135 cc_136 cc_137 cc_144 cc_145 cc_146 cc_149 cc_150 ⊢; omega) dX10_setCoding_107
                    · refine lv_aload_n hx hb dX10_setCoding_99 rfl (lv_at hl 0 rfl) ?_
                      refine lv_iload_n hx hb dX10_setCoding_100 rfl (lv_at hl 2 rfl) ?_
                      refine hk_put (ci := 13) (C := RX10) (T := TX10) (N := 10) (ty := .int) (v := .int v) hx hb hts iX10 tyX10 tyX10_ok nmX10 hown hw 1 rfl rfl 3 (by decide) (hts _ (List.mem_of_getElem? (i := 1) rfl)) rfl (by decide +kernel) rfl rfl (Nat.le_of_ble_eq_true rfl) dX10_setCoding_101 (ws' := xw cI cJ ad (upd g 6 v) lg ar bk) rfl (fun H locs hw => ?_)
                      refine lv_iconst (v := 1) hx hb dX10_setCoding_104 (by decide) ?_
                      exact hk_zret (u := (upd g 6 v)) hx hb hr rfl hlocks (hw) (by simp only [Int32.lt_iff_toInt_lt, Int32.le_iff_toInt_le, ← Int32.toInt_inj, hk_t0, hk_t1, hk_t2, hk_t3, hk_t4, hk_t5, hk_t6, hk_t7, hk_t8, hk_t9, hk_t10, hk_t11, hk_t12, hk_t13, hk_t14, hk_t15, hk_t16, hk_t17, hk_t18, hk_t20, hk_t32, hk_tm1, hk_t256, hk_t1500, hk_t4096, hk_t2000, hk_t3000, hk_t512, hk_t1024, true_and, and_true, false_and, and_false, true_or, or_true, false_or, or_false, not_true_eq_false, not_false_eq_true] at cc_1 cc_68 cc_135 cc_136 cc_137 cc_144 cc_145 cc_146 cc_149 cc_150 ⊢; omega) dX10_setCoding_105
            · refine lv_iload_n hx hb dX10_setCoding_60 rfl (lv_at hl 2 rfl) ?_
              refine lv_iconst (v := 4) hx hb dX10_setCoding_61 (by decide) ?_
              refine lv_icmp_gt (tgt := 72) hx hb dX10_setCoding_62 (by decide) (fun cc_151 => ?_) (fun cc_151 => ?_)
              · refine lv_iload_n hx hb dX10_setCoding_72 rfl (lv_at hl 1 rfl) ?_
                refine lv_iconst (v := 3) hx hb dX10_setCoding_73 (by decide) ?_
                refine lv_icmp_ne (tgt := 106) hx hb dX10_setCoding_74 (by decide) (fun cc_152 => ?_) (fun cc_152 => ?_)
                · refine lv_iconst (v := 0) hx hb dX10_setCoding_106 (by decide) ?_
                  exact hk_zret (u := g) hx hb hr rfl hlocks (hw) (by simp only [Int32.lt_iff_toInt_lt, Int32.le_iff_toInt_le, ← Int32.toInt_inj, hk_t0, hk_t1, hk_t2, hk_t3, hk_t4, hk_t5, hk_t6, hk_t7, hk_t8, hk_t9, hk_t10, hk_t11, hk_t12, hk_t13, hk_t14, hk_t15, hk_t16, hk_t17, hk_t18, hk_t20, hk_t32, hk_tm1, hk_t256, hk_t1500, hk_t4096, hk_t2000, hk_t3000, hk_t512, hk_t1024, true_and, and_true, false_and, and_false, true_or, or_true, false_or, or_false, not_true_eq_false, not_false_eq_true] at cc_1 cc_68 cc_135 cc_136 cc_137 cc_144 cc_151 cc_152 ⊢; omega) dX10_setCoding_107
                · refine lv_iload_n hx hb dX10_setCoding_77 rfl (lv_at hl 2 rfl) ?_
                  refine lv_iload_n hx hb dX10_setCoding_78 rfl (lv_at hl 3 rfl) ?_
                  refine lv_if_eq (tgt := 88) hx hb dX10_setCoding_79 (by decide) (fun cc_153 => ?_) (fun cc_153 => ?_)
                  · refine lv_iconst (v := 1) hx hb dX10_setCoding_88 (by decide) ?_
                    refine lv_icmp_lt (tgt := 106) hx hb dX10_setCoding_89 (by decide) (fun cc_154 => ?_) (fun cc_154 => ?_)
                    · refine lv_iconst (v := 0) hx hb dX10_setCoding_106 (by decide) ?_
                      exact hk_zret (u := g) hx hb hr rfl hlocks (hw) (by simp only [Int32.lt_iff_toInt_lt, Int32.le_iff_toInt_le, ← Int32.toInt_inj, hk_t0, hk_t1, hk_t2, hk_t3, hk_t4, hk_t5, hk_t6, hk_t7, hk_t8, hk_t9, hk_t10, hk_t11, hk_t12, hk_t13, hk_t14, hk_t15, hk_t16, hk_t17, hk_t18, hk_t20, hk_t32, hk_tm1, hk_t256, hk_t1500, hk_t4096, hk_t2000, hk_t3000, hk_t512, hk_t1024, true_and, and_true, false_and, and_false, true_or, or_true, false_or, or_false, not_true_eq_false, not_false_eq_true] at cc_1 cc_68 cc_135 cc_136 cc_137 cc_144 cc_151 cc_152 cc_153 cc_154 ⊢; omega) dX10_setCoding_107
                    · refine lv_iload_n hx hb dX10_setCoding_92 rfl (lv_at hl 2 rfl) ?_
                      refine lv_sipush (v := 4096) hx hb dX10_setCoding_93 (by decide) ?_
                      refine lv_icmp_gt (tgt := 106) hx hb dX10_setCoding_96 (by decide) (fun cc_155 => ?_) (fun cc_155 => ?_)
                      · refine lv_iconst (v := 0) hx hb dX10_setCoding_106 (by decide) ?_
                        exact hk_zret (u := g) hx hb hr rfl hlocks (hw) (by simp only [Int32.lt_iff_toInt_lt, Int32.le_iff_toInt_le, ← Int32.toInt_inj, hk_t0, hk_t1, hk_t2, hk_t3, hk_t4, hk_t5, hk_t6, hk_t7, hk_t8, hk_t9, hk_t10, hk_t11, hk_t12, hk_t13, hk_t14, hk_t15, hk_t16, hk_t17, hk_t18, hk_t20, hk_t32, hk_tm1, hk_t256, hk_t1500, hk_t4096, hk_t2000, hk_t3000, hk_t512, hk_t1024, true_and, and_true, false_and, and_false, true_or, or_true, false_or, or_false, not_true_eq_false, not_false_eq_true] at cc_1 cc_68 cc_135 cc_136 cc_137 cc_144 cc_151 cc_152 cc_153 cc_154 cc_155 ⊢; omega) dX10_setCoding_107
                      · refine lv_aload_n hx hb dX10_setCoding_99 rfl (lv_at hl 0 rfl) ?_
                        refine lv_iload_n hx hb dX10_setCoding_100 rfl (lv_at hl 2 rfl) ?_
                        refine hk_put (ci := 13) (C := RX10) (T := TX10) (N := 10) (ty := .int) (v := .int v) hx hb hts iX10 tyX10 tyX10_ok nmX10 hown hw 1 rfl rfl 3 (by decide) (hts _ (List.mem_of_getElem? (i := 1) rfl)) rfl (by decide +kernel) rfl rfl (Nat.le_of_ble_eq_true rfl) dX10_setCoding_101 (ws' := xw cI cJ ad (upd g 6 v) lg ar bk) rfl (fun H locs hw => ?_)
                        refine lv_iconst (v := 1) hx hb dX10_setCoding_104 (by decide) ?_
                        exact hk_zret (u := (upd g 6 v)) hx hb hr rfl hlocks (hw) (by simp only [Int32.lt_iff_toInt_lt, Int32.le_iff_toInt_le, ← Int32.toInt_inj, hk_t0, hk_t1, hk_t2, hk_t3, hk_t4, hk_t5, hk_t6, hk_t7, hk_t8, hk_t9, hk_t10, hk_t11, hk_t12, hk_t13, hk_t14, hk_t15, hk_t16, hk_t17, hk_t18, hk_t20, hk_t32, hk_tm1, hk_t256, hk_t1500, hk_t4096, hk_t2000, hk_t3000, hk_t512, hk_t1024, true_and, and_true, false_and, and_false, true_or, or_true, false_or, or_false, not_true_eq_false, not_false_eq_true] at cc_1 cc_68 cc_135 cc_136 cc_137 cc_144 cc_151 cc_152 cc_153 cc_154 cc_155 ⊢; omega) dX10_setCoding_105
                  · refine lv_sipush (v := 4096) hx hb dX10_setCoding_82 (by decide) ?_
                    refine lv_goto (tgt := 89) hx hb dX10_setCoding_85 (by decide) ?_
                    refine lv_icmp_lt (tgt := 106) hx hb dX10_setCoding_89 (by decide) (fun cc_156 => ?_) (fun cc_156 => ?_)
                    · refine lv_iconst (v := 0) hx hb dX10_setCoding_106 (by decide) ?_
                      exact hk_zret (u := g) hx hb hr rfl hlocks (hw) (by simp only [Int32.lt_iff_toInt_lt, Int32.le_iff_toInt_le, ← Int32.toInt_inj, hk_t0, hk_t1, hk_t2, hk_t3, hk_t4, hk_t5, hk_t6, hk_t7, hk_t8, hk_t9, hk_t10, hk_t11, hk_t12, hk_t13, hk_t14, hk_t15, hk_t16, hk_t17, hk_t18, hk_t20, hk_t32, hk_tm1, hk_t256, hk_t1500, hk_t4096, hk_t2000, hk_t3000, hk_t512, hk_t1024, true_and, and_true, false_and, and_false, true_or, or_true, false_or, or_false, not_true_eq_false, not_false_eq_true] at cc_1 cc_68 cc_135 cc_136 cc_137 cc_144 cc_151 cc_152 cc_153 cc_156 ⊢; omega) dX10_setCoding_107
                    · refine lv_iload_n hx hb dX10_setCoding_92 rfl (lv_at hl 2 rfl) ?_
                      refine lv_sipush (v := 4096) hx hb dX10_setCoding_93 (by decide) ?_
                      refine lv_icmp_gt (tgt := 106) hx hb dX10_setCoding_96 (by decide) (fun cc_157 => ?_) (fun cc_157 => ?_)
                      · refine lv_iconst (v := 0) hx hb dX10_setCoding_106 (by decide) ?_
                        exact hk_zret (u := g) hx hb hr rfl hlocks (hw) (by simp only [Int32.lt_iff_toInt_lt, Int32.le_iff_toInt_le, ← Int32.toInt_inj, hk_t0, hk_t1, hk_t2, hk_t3, hk_t4, hk_t5, hk_t6, hk_t7, hk_t8, hk_t9, hk_t10, hk_t11, hk_t12, hk_t13, hk_t14, hk_t15, hk_t16, hk_t17, hk_t18, hk_t20, hk_t32, hk_tm1, hk_t256, hk_t1500, hk_t4096, hk_t2000, hk_t3000, hk_t512, hk_t1024, true_and, and_true, false_and, and_false, true_or, or_true, false_or, or_false, not_true_eq_false, not_false_eq_true] at cc_1 cc_68 cc_135 cc_136 cc_137 cc_144 cc_151 cc_152 cc_153 cc_156 cc_157 ⊢; omega) dX10_setCoding_107
                      · refine lv_aload_n hx hb dX10_setCoding_99 rfl (lv_at hl 0 rfl) ?_
                        refine lv_iload_n hx hb dX10_setCoding_100 rfl (lv_at hl 2 rfl) ?_
                        refine hk_put (ci := 13) (C := RX10) (T := TX10) (N := 10) (ty := .int) (v := .int v) hx hb hts iX10 tyX10 tyX10_ok nmX10 hown hw 1 rfl rfl 3 (by decide) (hts _ (List.mem_of_getElem? (i := 1) rfl)) rfl (by decide +kernel) rfl rfl (Nat.le_of_ble_eq_true rfl) dX10_setCoding_101 (ws' := xw cI cJ ad (upd g 6 v) lg ar bk) rfl (fun H locs hw => ?_)
                        refine lv_iconst (v := 1) hx hb dX10_setCoding_104 (by decide) ?_
                        exact hk_zret (u := (upd g 6 v)) hx hb hr rfl hlocks (hw) (by simp only [Int32.lt_iff_toInt_lt, Int32.le_iff_toInt_le, ← Int32.toInt_inj, hk_t0, hk_t1, hk_t2, hk_t3, hk_t4, hk_t5, hk_t6, hk_t7, hk_t8, hk_t9, hk_t10, hk_t11, hk_t12, hk_t13, hk_t14, hk_t15, hk_t16, hk_t17, hk_t18, hk_t20, hk_t32, hk_tm1, hk_t256, hk_t1500, hk_t4096, hk_t2000, hk_t3000, hk_t512, hk_t1024, true_and, and_true, false_and, and_false, true_or, or_true, false_or, or_false, not_true_eq_false, not_false_eq_true] at cc_1 cc_68 cc_135 cc_136 cc_137 cc_144 cc_151 cc_152 cc_153 cc_156 cc_157 ⊢; omega) dX10_setCoding_105
              · refine lv_aload_n hx hb dX10_setCoding_65 rfl (lv_at hl 0 rfl) ?_
                refine lv_iload_n hx hb dX10_setCoding_66 rfl (lv_at hl 2 rfl) ?_
                refine hk_put (ci := 13) (C := RX10) (T := TX10) (N := 10) (ty := .int) (v := .int v) hx hb hts iX10 tyX10 tyX10_ok nmX10 hown hw 1 rfl rfl 2 (by decide) (hts _ (List.mem_of_getElem? (i := 2) rfl)) rfl (by decide +kernel) rfl rfl (Nat.le_of_ble_eq_true rfl) dX10_setCoding_67 (ws' := xw cI cJ ad (upd g 5 v) lg ar bk) rfl (fun H locs hw => ?_)
                refine lv_iconst (v := 1) hx hb dX10_setCoding_70 (by decide) ?_
                exact hk_zret (u := (upd g 5 v)) hx hb hr rfl hlocks (hw) (by simp only [Int32.lt_iff_toInt_lt, Int32.le_iff_toInt_le, ← Int32.toInt_inj, hk_t0, hk_t1, hk_t2, hk_t3, hk_t4, hk_t5, hk_t6, hk_t7, hk_t8, hk_t9, hk_t10, hk_t11, hk_t12, hk_t13, hk_t14, hk_t15, hk_t16, hk_t17, hk_t18, hk_t20, hk_t32, hk_tm1, hk_t256, hk_t1500, hk_t4096, hk_t2000, hk_t3000, hk_t512, hk_t1024, true_and, and_true, false_and, and_false, true_or, or_true, false_or, or_false, not_true_eq_false, not_false_eq_true] at cc_1 cc_68 cc_135 cc_136 cc_137 cc_144 cc_151 ⊢; omega) dX10_setCoding_71
        · refine lv_iload_n hx hb dX10_setCoding_30 rfl (lv_at hl 2 rfl) ?_
          refine lv_if_lt (tgt := 51) hx hb dX10_setCoding_31 (by decide) (fun cc_158 => ?_) (fun cc_158 => ?_)
          · refine lv_iload_n hx hb dX10_setCoding_51 rfl (lv_at hl 1 rfl) ?_
            refine lv_iconst (v := 2) hx hb dX10_setCoding_52 (by decide) ?_
            refine lv_icmp_ne (tgt := 72) hx hb dX10_setCoding_53 (by decide) (fun cc_159 => ?_) (fun cc_159 => ?_)
            · refine lv_iload_n hx hb dX10_setCoding_72 rfl (lv_at hl 1 rfl) ?_
              refine lv_iconst (v := 3) hx hb dX10_setCoding_73 (by decide) ?_
              refine lv_icmp_ne (tgt := 106) hx hb dX10_setCoding_74 (by decide) (fun cc_160 => ?_) (fun cc_160 => ?_)
              · refine lv_iconst (v := 0) hx hb dX10_setCoding_106 (by decide) ?_
                exact hk_zret (u := g) hx hb hr rfl hlocks (hw) (by simp only [Int32.lt_iff_toInt_lt, Int32.le_iff_toInt_le, ← Int32.toInt_inj, hk_t0, hk_t1, hk_t2, hk_t3, hk_t4, hk_t5, hk_t6, hk_t7, hk_t8, hk_t9, hk_t10, hk_t11, hk_t12, hk_t13, hk_t14, hk_t15, hk_t16, hk_t17, hk_t18, hk_t20, hk_t32, hk_tm1, hk_t256, hk_t1500, hk_t4096, hk_t2000, hk_t3000, hk_t512, hk_t1024, true_and, and_true, false_and, and_false, true_or, or_true, false_or, or_false, not_true_eq_false, not_false_eq_true] at cc_1 cc_68 cc_135 cc_136 cc_158 cc_159 cc_160 ⊢; omega) dX10_setCoding_107
              · refine lv_iload_n hx hb dX10_setCoding_77 rfl (lv_at hl 2 rfl) ?_
                refine lv_iload_n hx hb dX10_setCoding_78 rfl (lv_at hl 3 rfl) ?_
                refine lv_if_eq (tgt := 88) hx hb dX10_setCoding_79 (by decide) (fun cc_161 => ?_) (fun cc_161 => ?_)
                · refine lv_iconst (v := 1) hx hb dX10_setCoding_88 (by decide) ?_
                  refine lv_icmp_lt (tgt := 106) hx hb dX10_setCoding_89 (by decide) (fun cc_162 => ?_) (fun cc_162 => ?_)
                  · refine lv_iconst (v := 0) hx hb dX10_setCoding_106 (by decide) ?_
                    exact hk_zret (u := g) hx hb hr rfl hlocks (hw) (by simp only [Int32.lt_iff_toInt_lt, Int32.le_iff_toInt_le, ← Int32.toInt_inj, hk_t0, hk_t1, hk_t2, hk_t3, hk_t4, hk_t5, hk_t6, hk_t7, hk_t8, hk_t9, hk_t10, hk_t11, hk_t12, hk_t13, hk_t14, hk_t15, hk_t16, hk_t17, hk_t18, hk_t20, hk_t32, hk_tm1, hk_t256, hk_t1500, hk_t4096, hk_t2000, hk_t3000, hk_t512, hk_t1024, true_and, and_true, false_and, and_false, true_or, or_true, false_or, or_false, not_true_eq_false, not_false_eq_true] at cc_1 cc_68 cc_135 cc_136 cc_158 cc_159 cc_160 cc_161 cc_162 ⊢; omega) dX10_setCoding_107
                  · refine lv_iload_n hx hb dX10_setCoding_92 rfl (lv_at hl 2 rfl) ?_
                    refine lv_sipush (v := 4096) hx hb dX10_setCoding_93 (by decide) ?_
                    refine lv_icmp_gt (tgt := 106) hx hb dX10_setCoding_96 (by decide) (fun cc_163 => ?_) (fun cc_163 => ?_)
                    · refine lv_iconst (v := 0) hx hb dX10_setCoding_106 (by decide) ?_
                      exact hk_zret (u := g) hx hb hr rfl hlocks (hw) (by simp only [Int32.lt_iff_toInt_lt, Int32.le_iff_toInt_le, ← Int32.toInt_inj, hk_t0, hk_t1, hk_t2, hk_t3, hk_t4, hk_t5, hk_t6, hk_t7, hk_t8, hk_t9, hk_t10, hk_t11, hk_t12, hk_t13, hk_t14, hk_t15, hk_t16, hk_t17, hk_t18, hk_t20, hk_t32, hk_tm1, hk_t256, hk_t1500, hk_t4096, hk_t2000, hk_t3000, hk_t512, hk_t1024, true_and, and_true, false_and, and_false, true_or, or_true, false_or, or_false, not_true_eq_false, not_false_eq_true] at cc_1 cc_68 cc_135 cc_136 cc_158 cc_159 cc_160 cc_161 cc_162 cc_163 ⊢; omega) dX10_setCoding_107
                    · refine lv_aload_n hx hb dX10_setCoding_99 rfl (lv_at hl 0 rfl) ?_
                      refine lv_iload_n hx hb dX10_setCoding_100 rfl (lv_at hl 2 rfl) ?_
                      refine hk_put (ci := 13) (C := RX10) (T := TX10) (N := 10) (ty := .int) (v := .int v) hx hb hts iX10 tyX10 tyX10_ok nmX10 hown hw 1 rfl rfl 3 (by decide) (hts _ (List.mem_of_getElem? (i := 1) rfl)) rfl (by decide +kernel) rfl rfl (Nat.le_of_ble_eq_true rfl) dX10_setCoding_101 (ws' := xw cI cJ ad (upd g 6 v) lg ar bk) rfl (fun H locs hw => ?_)
                      refine lv_iconst (v := 1) hx hb dX10_setCoding_104 (by decide) ?_
                      exact hk_zret (u := (upd g 6 v)) hx hb hr rfl hlocks (hw) (by simp only [Int32.lt_iff_toInt_lt, Int32.le_iff_toInt_le, ← Int32.toInt_inj, hk_t0, hk_t1, hk_t2, hk_t3, hk_t4, hk_t5, hk_t6, hk_t7, hk_t8, hk_t9, hk_t10, hk_t11, hk_t12, hk_t13, hk_t14, hk_t15, hk_t16, hk_t17, hk_t18, hk_t20, hk_t32, hk_tm1, hk_t256, hk_t1500, hk_t4096, hk_t2000, hk_t3000, hk_t512, hk_t1024, true_and, and_true, false_and, and_false, true_or, or_true, false_or, or_false, not_true_eq_false, not_false_eq_true] at cc_1 cc_68 cc_135 cc_136 cc_158 cc_159 cc_160 cc_161 cc_162 cc_163 ⊢; omega) dX10_setCoding_105
                · refine lv_sipush (v := 4096) hx hb dX10_setCoding_82 (by decide) ?_
                  refine lv_goto (tgt := 89) hx hb dX10_setCoding_85 (by decide) ?_
                  refine lv_icmp_lt (tgt := 106) hx hb dX10_setCoding_89 (by decide) (fun cc_164 => ?_) (fun cc_164 => ?_)
                  · refine lv_iconst (v := 0) hx hb dX10_setCoding_106 (by decide) ?_
                    exact hk_zret (u := g) hx hb hr rfl hlocks (hw) (by simp only [Int32.lt_iff_toInt_lt, Int32.le_iff_toInt_le, ← Int32.toInt_inj, hk_t0, hk_t1, hk_t2, hk_t3, hk_t4, hk_t5, hk_t6, hk_t7, hk_t8, hk_t9, hk_t10, hk_t11, hk_t12, hk_t13, hk_t14, hk_t15, hk_t16, hk_t17, hk_t18, hk_t20, hk_t32, hk_tm1, hk_t256, hk_t1500, hk_t4096, hk_t2000, hk_t3000, hk_t512, hk_t1024, true_and, and_true, false_and, and_false, true_or, or_true, false_or, or_false, not_true_eq_false, not_false_eq_true] at cc_1 cc_68 cc_135 cc_136 cc_158 cc_159 cc_160 cc_161 cc_164 ⊢; omega) dX10_setCoding_107
                  · refine lv_iload_n hx hb dX10_setCoding_92 rfl (lv_at hl 2 rfl) ?_
                    refine lv_sipush (v := 4096) hx hb dX10_setCoding_93 (by decide) ?_
                    refine lv_icmp_gt (tgt := 106) hx hb dX10_setCoding_96 (by decide) (fun cc_165 => ?_) (fun cc_165 => ?_)
                    · refine lv_iconst (v := 0) hx hb dX10_setCoding_106 (by decide) ?_
                      exact hk_zret (u := g) hx hb hr rfl hlocks (hw) (by simp only [Int32.lt_iff_toInt_lt, Int32.le_iff_toInt_le, ← Int32.toInt_inj, hk_t0, hk_t1, hk_t2, hk_t3, hk_t4, hk_t5, hk_t6, hk_t7, hk_t8, hk_t9, hk_t10, hk_t11, hk_t12, hk_t13, hk_t14, hk_t15, hk_t16, hk_t17, hk_t18, hk_t20, hk_t32, hk_tm1, hk_t256, hk_t1500, hk_t4096, hk_t2000, hk_t3000, hk_t512, hk_t1024, true_and, and_true, false_and, and_false, true_or, or_true, false_or, or_false, not_true_eq_false, not_false_eq_true] at cc_1 cc_68 cc_135 cc_136 cc_158 cc_159 cc_160 cc_161 cc_164 cc_165 ⊢; omega) dX10_setCoding_107
                    · refine lv_aload_n hx hb dX10_setCoding_99 rfl (lv_at hl 0 rfl) ?_
                      refine lv_iload_n hx hb dX10_setCoding_100 rfl (lv_at hl 2 rfl) ?_
                      refine hk_put (ci := 13) (C := RX10) (T := TX10) (N := 10) (ty := .int) (v := .int v) hx hb hts iX10 tyX10 tyX10_ok nmX10 hown hw 1 rfl rfl 3 (by decide) (hts _ (List.mem_of_getElem? (i := 1) rfl)) rfl (by decide +kernel) rfl rfl (Nat.le_of_ble_eq_true rfl) dX10_setCoding_101 (ws' := xw cI cJ ad (upd g 6 v) lg ar bk) rfl (fun H locs hw => ?_)
                      refine lv_iconst (v := 1) hx hb dX10_setCoding_104 (by decide) ?_
                      exact hk_zret (u := (upd g 6 v)) hx hb hr rfl hlocks (hw) (by simp only [Int32.lt_iff_toInt_lt, Int32.le_iff_toInt_le, ← Int32.toInt_inj, hk_t0, hk_t1, hk_t2, hk_t3, hk_t4, hk_t5, hk_t6, hk_t7, hk_t8, hk_t9, hk_t10, hk_t11, hk_t12, hk_t13, hk_t14, hk_t15, hk_t16, hk_t17, hk_t18, hk_t20, hk_t32, hk_tm1, hk_t256, hk_t1500, hk_t4096, hk_t2000, hk_t3000, hk_t512, hk_t1024, true_and, and_true, false_and, and_false, true_or, or_true, false_or, or_false, not_true_eq_false, not_false_eq_true] at cc_1 cc_68 cc_135 cc_136 cc_158 cc_159 cc_160 cc_161 cc_164 cc_165 ⊢; omega) dX10_setCoding_105
            · refine lv_iload_n hx hb dX10_setCoding_56 rfl (lv_at hl 2 rfl) ?_
              refine lv_if_lt (tgt := 72) hx hb dX10_setCoding_57 (by decide) (fun cc_166 => ?_) (fun cc_166 => ?_)
              · refine lv_iload_n hx hb dX10_setCoding_72 rfl (lv_at hl 1 rfl) ?_
                refine lv_iconst (v := 3) hx hb dX10_setCoding_73 (by decide) ?_
                refine lv_icmp_ne (tgt := 106) hx hb dX10_setCoding_74 (by decide) (fun cc_167 => ?_) (fun cc_167 => ?_)
                · refine lv_iconst (v := 0) hx hb dX10_setCoding_106 (by decide) ?_
                  exact hk_zret (u := g) hx hb hr rfl hlocks (hw) (by simp only [Int32.lt_iff_toInt_lt, Int32.le_iff_toInt_le, ← Int32.toInt_inj, hk_t0, hk_t1, hk_t2, hk_t3, hk_t4, hk_t5, hk_t6, hk_t7, hk_t8, hk_t9, hk_t10, hk_t11, hk_t12, hk_t13, hk_t14, hk_t15, hk_t16, hk_t17, hk_t18, hk_t20, hk_t32, hk_tm1, hk_t256, hk_t1500, hk_t4096, hk_t2000, hk_t3000, hk_t512, hk_t1024, true_and, and_true, false_and, and_false, true_or, or_true, false_or, or_false, not_true_eq_false, not_false_eq_true] at cc_1 cc_68 cc_135 cc_136 cc_158 cc_159 cc_166 cc_167 ⊢; omega) dX10_setCoding_107
                · refine lv_iload_n hx hb dX10_setCoding_77 rfl (lv_at hl 2 rfl) ?_
                  refine lv_iload_n hx hb dX10_setCoding_78 rfl (lv_at hl 3 rfl) ?_
                  refine lv_if_eq (tgt := 88) hx hb dX10_setCoding_79 (by decide) (fun cc_168 => ?_) (fun cc_168 => ?_)
                  · refine lv_iconst (v := 1) hx hb dX10_setCoding_88 (by decide) ?_
                    refine lv_icmp_lt (tgt := 106) hx hb dX10_setCoding_89 (by decide) (fun cc_169 => ?_) (fun cc_169 => ?_)
                    · refine lv_iconst (v := 0) hx hb dX10_setCoding_106 (by decide) ?_
                      exact hk_zret (u := g) hx hb hr rfl hlocks (hw) (by simp only [Int32.lt_iff_toInt_lt, Int32.le_iff_toInt_le, ← Int32.toInt_inj, hk_t0, hk_t1, hk_t2, hk_t3, hk_t4, hk_t5, hk_t6, hk_t7, hk_t8, hk_t9, hk_t10, hk_t11, hk_t12, hk_t13, hk_t14, hk_t15, hk_t16, hk_t17, hk_t18, hk_t20, hk_t32, hk_tm1, hk_t256, hk_t1500, hk_t4096, hk_t2000, hk_t3000, hk_t512, hk_t1024, true_and, and_true, false_and, and_false, true_or, or_true, false_or, or_false, not_true_eq_false, not_false_eq_true] at cc_1 cc_68 cc_135 cc_136 cc_158 cc_159 cc_166 cc_167 cc_168 cc_169 ⊢; omega) dX10_setCoding_107
                    · refine lv_iload_n hx hb dX10_setCoding_92 rfl (lv_at hl 2 rfl) ?_
                      refine lv_sipush (v := 4096) hx hb dX10_setCoding_93 (by decide) ?_
                      refine lv_icmp_gt (tgt := 106) hx hb dX10_setCoding_96 (by decide) (fun cc_170 => ?_) (fun cc_170 => ?_)
                      · refine lv_iconst (v := 0) hx hb dX10_setCoding_106 (by decide) ?_
                        exact hk_zret (u := g) hx hb hr rfl hlocks (hw) (by simp only [Int32.lt_iff_toInt_lt, Int32.le_iff_toInt_le, ← Int32.toInt_inj, hk_t0, hk_t1, hk_t2, hk_t3, hk_t4, hk_t5, hk_t6, hk_t7, hk_t8, hk_t9, hk_t10, hk_t11, hk_t12, hk_t13, hk_t14, hk_t15, hk_t16, hk_t17, hk_t18, hk_t20, hk_t32, hk_tm1, hk_t256, hk_t1500, hk_t4096, hk_t2000, hk_t3000, hk_t512, hk_t1024, true_and, and_true, false_and, and_false, true_or, or_true, false_or, or_false, not_true_eq_false, not_false_eq_true] at cc_1 cc_68 cc_135 cc_136 cc_158 cc_159 cc_166 cc_167 cc_168 cc_169 cc_170 ⊢; omega) dX10_setCoding_107
                      · refine lv_aload_n hx hb dX10_setCoding_99 rfl (lv_at hl 0 rfl) ?_
                        refine lv_iload_n hx hb dX10_setCoding_100 rfl (lv_at hl 2 rfl) ?_
                        refine hk_put (ci := 13) (C := RX10) (T := TX10) (N := 10) (ty := .int) (v := .int v) hx hb hts iX10 tyX10 tyX10_ok nmX10 hown hw 1 rfl rfl 3 (by decide) (hts _ (List.mem_of_getElem? (i := 1) rfl)) rfl (by decide +kernel) rfl rfl (Nat.le_of_ble_eq_true rfl) dX10_setCoding_101 (ws' := xw cI cJ ad (upd g 6 v) lg ar bk) rfl (fun H locs hw => ?_)
                        refine lv_iconst (v := 1) hx hb dX10_setCoding_104 (by decide) ?_
                        exact hk_zret (u := (upd g 6 v)) hx hb hr rfl hlocks (hw) (by simp only [Int32.lt_iff_toInt_lt, Int32.le_iff_toInt_le, ← Int32.toInt_inj, hk_t0, hk_t1, hk_t2, hk_t3, hk_t4, hk_t5, hk_t6, hk_t7, hk_t8, hk_t9, hk_t10, hk_t11, hk_t12, hk_t13, hk_t14, hk_t15, hk_t16, hk_t17, hk_t18, hk_t20, hk_t32, hk_tm1, hk_t256, hk_t1500, hk_t4096, hk_t2000, hk_t3000, hk_t512, hk_t1024, true_and, and_true, false_and, and_false, true_or, or_true, false_or, or_false, not_true_eq_false, not_false_eq_true] at cc_1 cc_68 cc_135 cc_136 cc_158 cc_159 cc_166 cc_167 cc_168 cc_169 cc_170 ⊢; omega) dX10_setCoding_105
                  · refine lv_sipush (v := 4096) hx hb dX10_setCoding_82 (by decide) ?_
                    refine lv_goto (tgt := 89) hx hb dX10_setCoding_85 (by decide) ?_
                    refine lv_icmp_lt (tgt := 106) hx hb dX10_setCoding_89 (by decide) (fun cc_171 => ?_) (fun cc_171 => ?_)
                    · refine lv_iconst (v := 0) hx hb dX10_setCoding_106 (by decide) ?_
                      exact hk_zret (u := g) hx hb hr rfl hlocks (hw) (by simp only [Int32.lt_iff_toInt_lt, Int32.le_iff_toInt_le, ← Int32.toInt_inj, hk_t0, hk_t1, hk_t2, hk_t3, hk_t4, hk_t5, hk_t6, hk_t7, hk_t8, hk_t9, hk_t10, hk_t11, hk_t12, hk_t13, hk_t14, hk_t15, hk_t16, hk_t17, hk_t18, hk_t20, hk_t32, hk_tm1, hk_t256, hk_t1500, hk_t4096, hk_t2000, hk_t3000, hk_t512, hk_t1024, true_and, and_true, false_and, and_false, true_or, or_true, false_or, or_false, not_true_eq_false, not_false_eq_true] at cc_1 cc_68 cc_135 cc_136 cc_158 cc_159 cc_166 cc_167 cc_168 cc_171 ⊢; omega) dX10_setCoding_107
                    · refine lv_iload_n hx hb dX10_setCoding_92 rfl (lv_at hl 2 rfl) ?_
                      refine lv_sipush (v := 4096) hx hb dX10_setCoding_93 (by decide) ?_
                      refine lv_icmp_gt (tgt := 106) hx hb dX10_setCoding_96 (by decide) (fun cc_172 => ?_) (fun cc_172 => ?_)
                      · refine lv_iconst (v := 0) hx hb dX10_setCoding_106 (by decide) ?_
                        exact hk_zret (u := g) hx hb hr rfl hlocks (hw) (by simp only [Int32.lt_iff_toInt_lt, Int32.le_iff_toInt_le, ← Int32.toInt_inj, hk_t0, hk_t1, hk_t2, hk_t3, hk_t4, hk_t5, hk_t6, hk_t7, hk_t8, hk_t9, hk_t10, hk_t11, hk_t12, hk_t13, hk_t14, hk_t15, hk_t16, hk_t17, hk_t18, hk_t20, hk_t32, hk_tm1, hk_t256, hk_t1500, hk_t4096, hk_t2000, hk_t3000, hk_t512, hk_t1024, true_and, and_true, false_and, and_false, true_or, or_true, false_or, or_false, not_true_eq_false, not_false_eq_true] at cc_1 cc_68 cc_135 cc_136 cc_158 cc_159 cc_166 cc_167 cc_168 cc_171 cc_172 ⊢; omega) dX10_setCoding_107
                      · refine lv_aload_n hx hb dX10_setCoding_99 rfl (lv_at hl 0 rfl) ?_
                        refine lv_iload_n hx hb dX10_setCoding_100 rfl (lv_at hl 2 rfl) ?_
                        refine hk_put (ci := 13) (C := RX10) (T := TX10) (N := 10) (ty := .int) (v := .int v) hx hb hts iX10 tyX10 tyX10_ok nmX10 hown hw 1 rfl rfl 3 (by decide) (hts _ (List.mem_of_getElem? (i := 1) rfl)) rfl (by decide +kernel) rfl rfl (Nat.le_of_ble_eq_true rfl) dX10_setCoding_101 (ws' := xw cI cJ ad (upd g 6 v) lg ar bk) rfl (fun H locs hw => ?_)
                        refine lv_iconst (v := 1) hx hb dX10_setCoding_104 (by decide) ?_
                        exact hk_zret (u := (upd g 6 v)) hx hb hr rfl hlocks (hw) (by simp only [Int32.lt_iff_toInt_lt, Int32.le_iff_toInt_le, ← Int32.toInt_inj, hk_t0, hk_t1, hk_t2, hk_t3, hk_t4, hk_t5, hk_t6, hk_t7, hk_t8, hk_t9, hk_t10, hk_t11, hk_t12, hk_t13, hk_t14, hk_t15, hk_t16, hk_t17, hk_t18, hk_t20, hk_t32, hk_tm1, hk_t256, hk_t1500, hk_t4096, hk_t2000, hk_t3000, hk_t512, hk_t1024, true_and, and_true, false_and, and_false, true_or, or_true, false_or, or_false, not_true_eq_false, not_false_eq_true] at cc_1 cc_68 cc_135 cc_136 cc_158 cc_159 cc_166 cc_167 cc_168 cc_171 cc_172 ⊢; omega) dX10_setCoding_105
              · refine lv_iload_n hx hb dX10_setCoding_60 rfl (lv_at hl 2 rfl) ?_
                refine lv_iconst (v := 4) hx hb dX10_setCoding_61 (by decide) ?_
                refine lv_icmp_gt (tgt := 72) hx hb dX10_setCoding_62 (by decide) (fun cc_173 => ?_) (fun cc_173 => ?_)
                · refine lv_iload_n hx hb dX10_setCoding_72 rfl (lv_at hl 1 rfl) ?_
                  refine lv_iconst (v := 3) hx hb dX10_setCoding_73 (by decide) ?_
                  refine lv_icmp_ne (tgt := 106) hx hb dX10_setCoding_74 (by decide) (fun cc_174 => ?_) (fun cc_174 => ?_)
                  · refine lv_iconst (v := 0) hx hb dX10_setCoding_106 (by decide) ?_
                    exact hk_zret (u := g) hx hb hr rfl hlocks (hw) (by simp only [Int32.lt_iff_toInt_lt, Int32.le_iff_toInt_le, ← Int32.toInt_inj, hk_t0, hk_t1, hk_t2, hk_t3, hk_t4, hk_t5, hk_t6, hk_t7, hk_t8, hk_t9, hk_t10, hk_t11, hk_t12, hk_t13, hk_t14, hk_t15, hk_t16, hk_t17, hk_t18, hk_t20, hk_t32, hk_tm1, hk_t256, hk_t1500, hk_t4096, hk_t2000, hk_t3000, hk_t512, hk_t1024, true_and, and_true, false_and, and_false, true_or, or_true, false_or, or_false, not_true_eq_false, not_false_eq_true] at cc_1 cc_68 cc_135 cc_136 cc_158 cc_159 cc_166 cc_173 cc_174 ⊢; omega) dX10_setCoding_107
                  · refine lv_iload_n hx hb dX10_setCoding_77 rfl (lv_at hl 2 rfl) ?_
                    refine lv_iload_n hx hb dX10_setCoding_78 rfl (lv_at hl 3 rfl) ?_
                    refine lv_if_eq (tgt := 88) hx hb dX10_setCoding_79 (by decide) (fun cc_175 => ?_) (fun cc_175 => ?_)
                    · refine lv_iconst (v := 1) hx hb dX10_setCoding_88 (by decide) ?_
                      refine lv_icmp_lt (tgt := 106) hx hb dX10_setCoding_89 (by decide) (fun cc_176 => ?_) (fun cc_176 => ?_)
                      · refine lv_iconst (v := 0) hx hb dX10_setCoding_106 (by decide) ?_
                        exact hk_zret (u := g) hx hb hr rfl hlocks (hw) (by simp only [Int32.lt_iff_toInt_lt, Int32.le_iff_toInt_le, ← Int32.toInt_inj, hk_t0, hk_t1, hk_t2, hk_t3, hk_t4, hk_t5, hk_t6, hk_t7, hk_t8, hk_t9, hk_t10, hk_t11, hk_t12, hk_t13, hk_t14, hk_t15, hk_t16, hk_t17, hk_t18, hk_t20, hk_t32, hk_tm1, hk_t256, hk_t1500, hk_t4096, hk_t2000, hk_t3000, hk_t512, hk_t1024, true_and, and_true, false_and, and_false, true_or, or_true, false_or, or_false, not_true_eq_false, not_false_eq_true] at cc_1 cc_68 cc_135 cc_136 cc_158 cc_159 cc_166 cc_173 cc_174 cc_175 cc_176 ⊢; omega) dX10_setCoding_107
                      · refine lv_iload_n hx hb dX10_setCoding_92 rfl (lv_at hl 2 rfl) ?_
                        refine lv_sipush (v := 4096) hx hb dX10_setCoding_93 (by decide) ?_
                        refine lv_icmp_gt (tgt := 106) hx hb dX10_setCoding_96 (by decide) (fun cc_177 => ?_) (fun cc_177 => ?_)
                        · refine lv_iconst (v := 0) hx hb dX10_setCoding_106 (by decide) ?_
                          exact hk_zret (u := g) hx hb hr rfl hlocks (hw) (by simp only [Int32.lt_iff_toInt_lt, Int32.le_iff_toInt_le, ← Int32.toInt_inj, hk_t0, hk_t1, hk_t2, hk_t3, hk_t4, hk_t5, hk_t6, hk_t7, hk_t8, hk_t9, hk_t10, hk_t11, hk_t12, hk_t13, hk_t14, hk_t15, hk_t16, hk_t17, hk_t18, hk_t20, hk_t32, hk_tm1, hk_t256, hk_t1500, hk_t4096, hk_t2000, hk_t3000, hk_t512, hk_t1024, true_and, and_true, false_and, and_false, true_or, or_true, false_or, or_false, not_true_eq_false, not_false_eq_true] at cc_1 cc_68 cc_135 cc_136 cc_158 cc_159 cc_166 cc_173 cc_174 cc_175 cc_176 cc_177 ⊢; omega) dX10_setCoding_107
                        · refine lv_aload_n hx hb dX10_setCoding_99 rfl (lv_at hl 0 rfl) ?_
                          refine lv_iload_n hx hb dX10_setCoding_100 rfl (lv_at hl 2 rfl) ?_
                          refine hk_put (ci := 13) (C := RX10) (T := TX10) (N := 10) (ty := .int) (v := .int v) hx hb hts iX10 tyX10 tyX10_ok nmX10 hown hw 1 rfl rfl 3 (by decide) (hts _ (List.mem_of_getElem? (i := 1) rfl)) rfl (by decide +kernel) rfl rfl (Nat.le_of_ble_eq_true rfl) dX10_setCoding_101 (ws' := xw cI cJ ad (upd g 6 v) lg ar bk) rfl (fun H locs hw => ?_)
                          refine lv_iconst (v := 1) hx hb dX10_setCoding_104 (by decide) ?_
                          exact hk_zret (u := (upd g 6 v)) hx hb hr rfl hlocks (hw) (by simp only [Int32.lt_iff_toInt_lt, Int32.le_iff_toInt_le, ← Int32.toInt_inj, hk_t0, hk_t1, hk_t2, hk_t3, hk_t4, hk_t5, hk_t6, hk_t7, hk_t8, hk_t9, hk_t10, hk_t11, hk_t12, hk_t13, hk_t14, hk_t15, hk_t16, hk_t17, hk_t18, hk_t20, hk_t32, hk_tm1, hk_t256, hk_t1500, hk_t4096, hk_t2000, hk_t3000, hk_t512, hk_t1024, true_and, and_true, false_and, and_false, true_or, or_true, false_or, or_false, not_true_eq_false, not_false_eq_true] at cc_1 cc_68 cc_135 cc_136 cc_158 cc_159 cc_166 cc_173 cc_174 cc_175 cc_176 cc_177 ⊢; omega) dX10_setCoding_105
                    · refine lv_sipush (v := 4096) hx hb dX10_setCoding_82 (by decide) ?_
                      refine lv_goto (tgt := 89) hx hb dX10_setCoding_85 (by decide) ?_
                      refine lv_icmp_lt (tgt := 106) hx hb dX10_setCoding_89 (by decide) (fun cc_178 => ?_) (fun cc_178 => ?_)
                      · refine lv_iconst (v := 0) hx hb dX10_setCoding_106 (by decide) ?_
                        exact hk_zret (u := g) hx hb hr rfl hlocks (hw) (by simp only [Int32.lt_iff_toInt_lt, Int32.le_iff_toInt_le, ← Int32.toInt_inj, hk_t0, hk_t1, hk_t2, hk_t3, hk_t4, hk_t5, hk_t6, hk_t7, hk_t8, hk_t9, hk_t10, hk_t11, hk_t12, hk_t13, hk_t14, hk_t15, hk_t16, hk_t17, hk_t18, hk_t20, hk_t32, hk_tm1, hk_t256, hk_t1500, hk_t4096, hk_t2000, hk_t3000, hk_t512, hk_t1024, true_and, and_true, false_and, and_false, true_or, or_true, false_or, or_false, not_true_eq_false, not_false_eq_true] at cc_1 cc_68 cc_135 cc_136 cc_158 cc_159 cc_166 cc_173 cc_174 cc_175 cc_178 ⊢; omega) dX10_setCoding_107
                      · refine lv_iload_n hx hb dX10_setCoding_92 rfl (lv_at hl 2 rfl) ?_
                        refine lv_sipush (v := 4096) hx hb dX10_setCoding_93 (by decide) ?_
                        refine lv_icmp_gt (tgt := 106) hx hb dX10_setCoding_96 (by decide) (fun cc_179 => ?_) (fun cc_179 => ?_)
                        · refine lv_iconst (v := 0) hx hb dX10_setCoding_106 (by decide) ?_
                          exact hk_zret (u := g) hx hb hr rfl hlocks (hw) (by simp only [Int32.lt_iff_toInt_lt, Int32.le_iff_toInt_le, ← Int32.toInt_inj, hk_t0, hk_t1, hk_t2, hk_t3, hk_t4, hk_t5, hk_t6, hk_t7, hk_t8, hk_t9, hk_t10, hk_t11, hk_t12, hk_t13, hk_t14, hk_t15, hk_t16, hk_t17, hk_t18, hk_t20, hk_t32, hk_tm1, hk_t256, hk_t1500, hk_t4096, hk_t2000, hk_t3000, hk_t512, hk_t1024, true_and, and_true, false_and, and_false, true_or, or_true, false_or, or_false, not_true_eq_false, not_false_eq_true] at cc_1 cc_68 cc_135 cc_136 cc_158 cc_159 cc_166 cc_173 cc_174 cc_175 cc_178 cc_179 ⊢; omega) dX10_setCoding_107
                        · refine lv_aload_n hx hb dX10_setCoding_99 rfl (lv_at hl 0 rfl) ?_
                          refine lv_iload_n hx hb dX10_setCoding_100 rfl (lv_at hl 2 rfl) ?_
                          refine hk_put (ci := 13) (C := RX10) (T := TX10) (N := 10) (ty := .int) (v := .int v) hx hb hts iX10 tyX10 tyX10_ok nmX10 hown hw 1 rfl rfl 3 (by decide) (hts _ (List.mem_of_getElem? (i := 1) rfl)) rfl (by decide +kernel) rfl rfl (Nat.le_of_ble_eq_true rfl) dX10_setCoding_101 (ws' := xw cI cJ ad (upd g 6 v) lg ar bk) rfl (fun H locs hw => ?_)
                          refine lv_iconst (v := 1) hx hb dX10_setCoding_104 (by decide) ?_
                          exact hk_zret (u := (upd g 6 v)) hx hb hr rfl hlocks (hw) (by simp only [Int32.lt_iff_toInt_lt, Int32.le_iff_toInt_le, ← Int32.toInt_inj, hk_t0, hk_t1, hk_t2, hk_t3, hk_t4, hk_t5, hk_t6, hk_t7, hk_t8, hk_t9, hk_t10, hk_t11, hk_t12, hk_t13, hk_t14, hk_t15, hk_t16, hk_t17, hk_t18, hk_t20, hk_t32, hk_tm1, hk_t256, hk_t1500, hk_t4096, hk_t2000, hk_t3000, hk_t512, hk_t1024, true_and, and_true, false_and, and_false, true_or, or_true, false_or, or_false, not_true_eq_false, not_false_eq_true] at cc_1 cc_68 cc_135 cc_136 cc_158 cc_159 cc_166 cc_173 cc_174 cc_175 cc_178 cc_179 ⊢; omega) dX10_setCoding_105
                · refine lv_aload_n hx hb dX10_setCoding_65 rfl (lv_at hl 0 rfl) ?_
                  refine lv_iload_n hx hb dX10_setCoding_66 rfl (lv_at hl 2 rfl) ?_
                  refine hk_put (ci := 13) (C := RX10) (T := TX10) (N := 10) (ty := .int) (v := .int v) hx hb hts iX10 tyX10 tyX10_ok nmX10 hown hw 1 rfl rfl 2 (by decide) (hts _ (List.mem_of_getElem? (i := 2) rfl)) rfl (by decide +kernel) rfl rfl (Nat.le_of_ble_eq_true rfl) dX10_setCoding_67 (ws' := xw cI cJ ad (upd g 5 v) lg ar bk) rfl (fun H locs hw => ?_)
                  refine lv_iconst (v := 1) hx hb dX10_setCoding_70 (by decide) ?_
                  exact hk_zret (u := (upd g 5 v)) hx hb hr rfl hlocks (hw) (by simp only [Int32.lt_iff_toInt_lt, Int32.le_iff_toInt_le, ← Int32.toInt_inj, hk_t0, hk_t1, hk_t2, hk_t3, hk_t4, hk_t5, hk_t6, hk_t7, hk_t8, hk_t9, hk_t10, hk_t11, hk_t12, hk_t13, hk_t14, hk_t15, hk_t16, hk_t17, hk_t18, hk_t20, hk_t32, hk_tm1, hk_t256, hk_t1500, hk_t4096, hk_t2000, hk_t3000, hk_t512, hk_t1024, true_and, and_true, false_and, and_false, true_or, or_true, false_or, or_false, not_true_eq_false, not_false_eq_true] at cc_1 cc_68 cc_135 cc_136 cc_158 cc_159 cc_166 cc_173 ⊢; omega) dX10_setCoding_71
          · refine lv_iload_n hx hb dX10_setCoding_34 rfl (lv_at hl 2 rfl) ?_
            refine lv_iconst (v := 4) hx hb dX10_setCoding_35 (by decide) ?_
            refine lv_aload_n hx hb dX10_setCoding_36 rfl (lv_at hl 0 rfl) ?_
            refine hk_get (ci := 13) (C := RX10) (T := TX10) (N := 10) (v := .int 3) hx hb hts iX10 hown hw 1 rfl rfl 0 (by decide) (hts _ (List.mem_of_getElem? (i := 3) rfl)) (congrArg (fun z => some (Value.int z)) h3) dX10_setCoding_37 ?_
            refine lv_isub hx hb dX10_setCoding_40 ?_
            refine hk_topi 1 (by decide +kernel) ?_
            refine lv_icmp_gt (tgt := 51) hx hb dX10_setCoding_41 (by decide) (fun cc_180 => ?_) (fun cc_180 => ?_)
            · refine lv_iload_n hx hb dX10_setCoding_51 rfl (lv_at hl 1 rfl) ?_
              refine lv_iconst (v := 2) hx hb dX10_setCoding_52 (by decide) ?_
              refine lv_icmp_ne (tgt := 72) hx hb dX10_setCoding_53 (by decide) (fun cc_181 => ?_) (fun cc_181 => ?_)
              · refine lv_iload_n hx hb dX10_setCoding_72 rfl (lv_at hl 1 rfl) ?_
                refine lv_iconst (v := 3) hx hb dX10_setCoding_73 (by decide) ?_
                refine lv_icmp_ne (tgt := 106) hx hb dX10_setCoding_74 (by decide) (fun cc_182 => ?_) (fun cc_182 => ?_)
                · refine lv_iconst (v := 0) hx hb dX10_setCoding_106 (by decide) ?_
                  exact hk_zret (u := g) hx hb hr rfl hlocks (hw) (by simp only [Int32.lt_iff_toInt_lt, Int32.le_iff_toInt_le, ← Int32.toInt_inj, hk_t0, hk_t1, hk_t2, hk_t3, hk_t4, hk_t5, hk_t6, hk_t7, hk_t8, hk_t9, hk_t10, hk_t11, hk_t12, hk_t13, hk_t14, hk_t15, hk_t16, hk_t17, hk_t18, hk_t20, hk_t32, hk_tm1, hk_t256, hk_t1500, hk_t4096, hk_t2000, hk_t3000, hk_t512, hk_t1024, true_and, and_true, false_and, and_false, true_or, or_true, false_or, or_false, not_true_eq_false, not_false_eq_true] at cc_1 cc_68 cc_135 cc_136 cc_158 cc_180 cc_181 cc_182 ⊢; omega) dX10_setCoding_107
                · refine lv_iload_n hx hb dX10_setCoding_77 rfl (lv_at hl 2 rfl) ?_
                  refine lv_iload_n hx hb dX10_setCoding_78 rfl (lv_at hl 3 rfl) ?_
                  refine lv_if_eq (tgt := 88) hx hb dX10_setCoding_79 (by decide) (fun cc_183 => ?_) (fun cc_183 => ?_)
                  · refine lv_iconst (v := 1) hx hb dX10_setCoding_88 (by decide) ?_
                    refine lv_icmp_lt (tgt := 106) hx hb dX10_setCoding_89 (by decide) (fun cc_184 => ?_) (fun cc_184 => ?_)
                    · refine lv_iconst (v := 0) hx hb dX10_setCoding_106 (by decide) ?_
                      exact hk_zret (u := g) hx hb hr rfl hlocks (hw) (by simp only [Int32.lt_iff_toInt_lt, Int32.le_iff_toInt_le, ← Int32.toInt_inj, hk_t0, hk_t1, hk_t2, hk_t3, hk_t4, hk_t5, hk_t6, hk_t7, hk_t8, hk_t9, hk_t10, hk_t11, hk_t12, hk_t13, hk_t14, hk_t15, hk_t16, hk_t17, hk_t18, hk_t20, hk_t32, hk_tm1, hk_t256, hk_t1500, hk_t4096, hk_t2000, hk_t3000, hk_t512, hk_t1024, true_and, and_true, false_and, and_false, true_or, or_true, false_or, or_false, not_true_eq_false, not_false_eq_true] at cc_1 cc_68 cc_135 cc_136 cc_158 cc_180 cc_181 cc_182 cc_183 cc_184 ⊢; omega) dX10_setCoding_107
                    · refine lv_iload_n hx hb dX10_setCoding_92 rfl (lv_at hl 2 rfl) ?_
                      refine lv_sipush (v := 4096) hx hb dX10_setCoding_93 (by decide) ?_
                      refine lv_icmp_gt (tgt := 106) hx hb dX10_setCoding_96 (by decide) (fun cc_185 => ?_) (fun cc_185 => ?_)
                      · refine lv_iconst (v := 0) hx hb dX10_setCoding_106 (by decide) ?_
                        exact hk_zret (u := g) hx hb hr rfl hlocks (hw) (by simp only [Int32.lt_iff_toInt_lt, Int32.le_iff_toInt_le, ← Int32.toInt_inj, hk_t0, hk_t1, hk_t2, hk_t3, hk_t4, hk_t5, hk_t6, hk_t7, hk_t8, hk_t9, hk_t10, hk_t11, hk_t12, hk_t13, hk_t14, hk_t15, hk_t16, hk_t17, hk_t18, hk_t20, hk_t32, hk_tm1, hk_t256, hk_t1500, hk_t4096, hk_t2000, hk_t3000, hk_t512, hk_t1024, true_and, and_true, false_and, and_false, true_or, or_true, false_or, or_false, not_true_eq_false, not_false_eq_true] at cc_1 cc_68 cc_135 cc_136 cc_158 cc_180 cc_181 cc_182 cc_183 cc_184 cc_185 ⊢; omega) dX10_setCoding_107
                      · refine lv_aload_n hx hb dX10_setCoding_99 rfl (lv_at hl 0 rfl) ?_
                        refine lv_iload_n hx hb dX10_setCoding_100 rfl (lv_at hl 2 rfl) ?_
                        refine hk_put (ci := 13) (C := RX10) (T := TX10) (N := 10) (ty := .int) (v := .int v) hx hb hts iX10 tyX10 tyX10_ok nmX10 hown hw 1 rfl rfl 3 (by decide) (hts _ (List.mem_of_getElem? (i := 1) rfl)) rfl (by decide +kernel) rfl rfl (Nat.le_of_ble_eq_true rfl) dX10_setCoding_101 (ws' := xw cI cJ ad (upd g 6 v) lg ar bk) rfl (fun H locs hw => ?_)
                        refine lv_iconst (v := 1) hx hb dX10_setCoding_104 (by decide) ?_
                        exact hk_zret (u := (upd g 6 v)) hx hb hr rfl hlocks (hw) (by simp only [Int32.lt_iff_toInt_lt, Int32.le_iff_toInt_le, ← Int32.toInt_inj, hk_t0, hk_t1, hk_t2, hk_t3, hk_t4, hk_t5, hk_t6, hk_t7, hk_t8, hk_t9, hk_t10, hk_t11, hk_t12, hk_t13, hk_t14, hk_t15, hk_t16, hk_t17, hk_t18, hk_t20, hk_t32, hk_tm1, hk_t256, hk_t1500, hk_t4096, hk_t2000, hk_t3000, hk_t512, hk_t1024, true_and, and_true, false_and, and_false, true_or, or_true, false_or, or_false, not_true_eq_false, not_false_eq_true] at cc_1 cc_68 cc_135 cc_136 cc_158 cc_180 cc_181 cc_182 cc_183 cc_184 cc_185 ⊢; omega) dX10_setCoding_105
                  · refine lv_sipush (v := 4096) hx hb dX10_setCoding_82 (by decide) ?_
                    refine lv_goto (tgt := 89) hx hb dX10_setCoding_85 (by decide) ?_
                    refine lv_icmp_lt (tgt := 106) hx hb dX10_setCoding_89 (by decide) (fun cc_186 => ?_) (fun cc_186 => ?_)
                    · refine lv_iconst (v := 0) hx hb dX10_setCoding_106 (by decide) ?_
                      exact hk_zret (u := g) hx hb hr rfl hlocks (hw) (by simp only [Int32.lt_iff_toInt_lt, Int32.le_iff_toInt_le, ← Int32.toInt_inj, hk_t0, hk_t1, hk_t2, hk_t3, hk_t4, hk_t5, hk_t6, hk_t7, hk_t8, hk_t9, hk_t10, hk_t11, hk_t12, hk_t13, hk_t14, hk_t15, hk_t16, hk_t17, hk_t18, hk_t20, hk_t32, hk_tm1, hk_t256, hk_t1500, hk_t4096, hk_t2000, hk_t3000, hk_t512, hk_t1024, true_and, and_true, false_and, and_false, true_or, or_true, false_or, or_false, not_true_eq_false, not_false_eq_true] at cc_1 cc_68 cc_135 cc_136 cc_158 cc_180 cc_181 cc_182 cc_183 cc_186 ⊢; omega) dX10_setCoding_107
                    · refine lv_iload_n hx hb dX10_setCoding_92 rfl (lv_at hl 2 rfl) ?_
                      refine lv_sipush (v := 4096) hx hb dX10_setCoding_93 (by decide) ?_
                      refine lv_icmp_gt (tgt := 106) hx hb dX10_setCoding_96 (by decide) (fun cc_187 => ?_) (fun cc_187 => ?_)
                      · refine lv_iconst (v := 0) hx hb dX10_setCoding_106 (by decide) ?_
                        exact hk_zret (u := g) hx hb hr rfl hlocks (hw) (by simp only [Int32.lt_iff_toInt_lt, Int32.le_iff_toInt_le, ← Int32.toInt_inj, hk_t0, hk_t1, hk_t2, hk_t3, hk_t4, hk_t5, hk_t6, hk_t7, hk_t8, hk_t9, hk_t10, hk_t11, hk_t12, hk_t13, hk_t14, hk_t15, hk_t16, hk_t17, hk_t18, hk_t20, hk_t32, hk_tm1, hk_t256, hk_t1500, hk_t4096, hk_t2000, hk_t3000, hk_t512, hk_t1024, true_and, and_true, false_and, and_false, true_or, or_true, false_or, or_false, not_true_eq_false, not_false_eq_true] at cc_1 cc_68 cc_135 cc_136 cc_158 cc_180 cc_181 cc_182 cc_183 cc_186 cc_187 ⊢; omega) dX10_setCoding_107
                      · refine lv_aload_n hx hb dX10_setCoding_99 rfl (lv_at hl 0 rfl) ?_
                        refine lv_iload_n hx hb dX10_setCoding_100 rfl (lv_at hl 2 rfl) ?_
                        refine hk_put (ci := 13) (C := RX10) (T := TX10) (N := 10) (ty := .int) (v := .int v) hx hb hts iX10 tyX10 tyX10_ok nmX10 hown hw 1 rfl rfl 3 (by decide) (hts _ (List.mem_of_getElem? (i := 1) rfl)) rfl (by decide +kernel) rfl rfl (Nat.le_of_ble_eq_true rfl) dX10_setCoding_101 (ws' := xw cI cJ ad (upd g 6 v) lg ar bk) rfl (fun H locs hw => ?_)
                        refine lv_iconst (v := 1) hx hb dX10_setCoding_104 (by decide) ?_
                        exact hk_zret (u := (upd g 6 v)) hx hb hr rfl hlocks (hw) (by simp only [Int32.lt_iff_toInt_lt, Int32.le_iff_toInt_le, ← Int32.toInt_inj, hk_t0, hk_t1, hk_t2, hk_t3, hk_t4, hk_t5, hk_t6, hk_t7, hk_t8, hk_t9, hk_t10, hk_t11, hk_t12, hk_t13, hk_t14, hk_t15, hk_t16, hk_t17, hk_t18, hk_t20, hk_t32, hk_tm1, hk_t256, hk_t1500, hk_t4096, hk_t2000, hk_t3000, hk_t512, hk_t1024, true_and, and_true, false_and, and_false, true_or, or_true, false_or, or_false, not_true_eq_false, not_false_eq_true] at cc_1 cc_68 cc_135 cc_136 cc_158 cc_180 cc_181 cc_182 cc_183 cc_186 cc_187 ⊢; omega) dX10_setCoding_105
              · refine lv_iload_n hx hb dX10_setCoding_56 rfl (lv_at hl 2 rfl) ?_
                refine lv_if_lt (tgt := 72) hx hb dX10_setCoding_57 (by decide) (fun cc_188 => ?_) (fun cc_188 => ?_)
                · refine lv_iload_n hx hb dX10_setCoding_72 rfl (lv_at hl 1 rfl) ?_
                  refine lv_iconst (v := 3) hx hb dX10_setCoding_73 (by decide) ?_
                  refine lv_icmp_ne (tgt := 106) hx hb dX10_setCoding_74 (by decide) (fun cc_189 => ?_) (fun cc_189 => ?_)
                  · refine lv_iconst (v := 0) hx hb dX10_setCoding_106 (by decide) ?_
                    exact hk_zret (u := g) hx hb hr rfl hlocks (hw) (by simp only [Int32.lt_iff_toInt_lt, Int32.le_iff_toInt_le, ← Int32.toInt_inj, hk_t0, hk_t1, hk_t2, hk_t3, hk_t4, hk_t5, hk_t6, hk_t7, hk_t8, hk_t9, hk_t10, hk_t11, hk_t12, hk_t13, hk_t14, hk_t15, hk_t16, hk_t17, hk_t18, hk_t20, hk_t32, hk_tm1, hk_t256, hk_t1500, hk_t4096, hk_t2000, hk_t3000, hk_t512, hk_t1024, true_and, and_true, false_and, and_false, true_or, or_true, false_or, or_false, not_true_eq_false, not_false_eq_true] at cc_1 cc_68 cc_135 cc_136 cc_158 cc_180 cc_181 cc_188 cc_189 ⊢; omega) dX10_setCoding_107
                  · refine lv_iload_n hx hb dX10_setCoding_77 rfl (lv_at hl 2 rfl) ?_
                    refine lv_iload_n hx hb dX10_setCoding_78 rfl (lv_at hl 3 rfl) ?_
                    refine lv_if_eq (tgt := 88) hx hb dX10_setCoding_79 (by decide) (fun cc_190 => ?_) (fun cc_190 => ?_)
                    · refine lv_iconst (v := 1) hx hb dX10_setCoding_88 (by decide) ?_
                      refine lv_icmp_lt (tgt := 106) hx hb dX10_setCoding_89 (by decide) (fun cc_191 => ?_) (fun cc_191 => ?_)
                      · refine lv_iconst (v := 0) hx hb dX10_setCoding_106 (by decide) ?_
                        exact hk_zret (u := g) hx hb hr rfl hlocks (hw) (by simp only [Int32.lt_iff_toInt_lt, Int32.le_iff_toInt_le, ← Int32.toInt_inj, hk_t0, hk_t1, hk_t2, hk_t3, hk_t4, hk_t5, hk_t6, hk_t7, hk_t8, hk_t9, hk_t10, hk_t11, hk_t12, hk_t13, hk_t14, hk_t15, hk_t16, hk_t17, hk_t18, hk_t20, hk_t32, hk_tm1, hk_t256, hk_t1500, hk_t4096, hk_t2000, hk_t3000, hk_t512, hk_t1024, true_and, and_true, false_and, and_false, true_or, or_true, false_or, or_false, not_true_eq_false, not_false_eq_true] at cc_1 cc_68 cc_135 cc_136 cc_158 cc_180 cc_181 cc_188 cc_189 cc_190 cc_191 ⊢; omega) dX10_setCoding_107
                      · refine lv_iload_n hx hb dX10_setCoding_92 rfl (lv_at hl 2 rfl) ?_
                        refine lv_sipush (v := 4096) hx hb dX10_setCoding_93 (by decide) ?_
                        refine lv_icmp_gt (tgt := 106) hx hb dX10_setCoding_96 (by decide) (fun cc_192 => ?_) (fun cc_192 => ?_)
                        · refine lv_iconst (v := 0) hx hb dX10_setCoding_106 (by decide) ?_
                          exact hk_zret (u := g) hx hb hr rfl hlocks (hw) (by simp only [Int32.lt_iff_toInt_lt, Int32.le_iff_toInt_le, ← Int32.toInt_inj, hk_t0, hk_t1, hk_t2, hk_t3, hk_t4, hk_t5, hk_t6, hk_t7, hk_t8, hk_t9, hk_t10, hk_t11, hk_t12, hk_t13, hk_t14, hk_t15, hk_t16, hk_t17, hk_t18, hk_t20, hk_t32, hk_tm1, hk_t256, hk_t1500, hk_t4096, hk_t2000, hk_t3000, hk_t512, hk_t1024, true_and, and_true, false_and, and_false, true_or, or_true, false_or, or_false, not_true_eq_false, not_false_eq_true] at cc_1 cc_68 cc_135 cc_136 cc_158 cc_180 cc_181 cc_188 cc_189 cc_190 cc_191 cc_192 ⊢; omega) dX10_setCoding_107
                        · refine lv_aload_n hx hb dX10_setCoding_99 rfl (lv_at hl 0 rfl) ?_
                          refine lv_iload_n hx hb dX10_setCoding_100 rfl (lv_at hl 2 rfl) ?_
                          refine hk_put (ci := 13) (C := RX10) (T := TX10) (N := 10) (ty := .int) (v := .int v) hx hb hts iX10 tyX10 tyX10_ok nmX10 hown hw 1 rfl rfl 3 (by decide) (hts _ (List.mem_of_getElem? (i := 1) rfl)) rfl (by decide +kernel) rfl rfl (Nat.le_of_ble_eq_true rfl) dX10_setCoding_101 (ws' := xw cI cJ ad (upd g 6 v) lg ar bk) rfl (fun H locs hw => ?_)
                          refine lv_iconst (v := 1) hx hb dX10_setCoding_104 (by decide) ?_
                          exact hk_zret (u := (upd g 6 v)) hx hb hr rfl hlocks (hw) (by simp only [Int32.lt_iff_toInt_lt, Int32.le_iff_toInt_le, ← Int32.toInt_inj, hk_t0, hk_t1, hk_t2, hk_t3, hk_t4, hk_t5, hk_t6, hk_t7, hk_t8, hk_t9, hk_t10, hk_t11, hk_t12, hk_t13, hk_t14, hk_t15, hk_t16, hk_t17, hk_t18, hk_t20, hk_t32, hk_tm1, hk_t256, hk_t1500, hk_t4096, hk_t2000, hk_t3000, hk_t512, hk_t1024, true_and, and_true, false_and, and_false, true_or, or_true, false_or, or_false, not_true_eq_false, not_false_eq_true] at cc_1 cc_68 cc_135 cc_136 cc_158 cc_180 cc_181 cc_188 cc_189 cc_190 cc_191 cc_192 ⊢; omega) dX10_setCoding_105
                    · refine lv_sipush (v := 4096) hx hb dX10_setCoding_82 (by decide) ?_
                      refine lv_goto (tgt := 89) hx hb dX10_setCoding_85 (by decide) ?_
                      refine lv_icmp_lt (tgt := 106) hx hb dX10_setCoding_89 (by decide) (fun cc_193 => ?_) (fun cc_193 => ?_)
                      · refine lv_iconst (v := 0) hx hb dX10_setCoding_106 (by decide) ?_
                        exact hk_zret (u := g) hx hb hr rfl hlocks (hw) (by simp only [Int32.lt_iff_toInt_lt, Int32.le_iff_toInt_le, ← Int32.toInt_inj, hk_t0, hk_t1, hk_t2, hk_t3, hk_t4, hk_t5, hk_t6, hk_t7, hk_t8, hk_t9, hk_t10, hk_t11, hk_t12, hk_t13, hk_t14, hk_t15, hk_t16, hk_t17, hk_t18, hk_t20, hk_t32, hk_tm1, hk_t256, hk_t1500, hk_t4096, hk_t2000, hk_t3000, hk_t512, hk_t1024, true_and, and_true, false_and, and_false, true_or, or_true, false_or, or_false, not_true_eq_false, not_false_eq_true] at cc_1 cc_68 cc_135 cc_136 cc_158 cc_180 cc_181 cc_188 cc_189 cc_190 cc_193 ⊢; omega) dX10_setCoding_107
                      · refine lv_iload_n hx hb dX10_setCoding_92 rfl (lv_at hl 2 rfl) ?_
                        refine lv_sipush (v := 4096) hx hb dX10_setCoding_93 (by decide) ?_
                        refine lv_icmp_gt (tgt := 106) hx hb dX10_setCoding_96 (by decide) (fun cc_194 => ?_) (fun cc_194 => ?_)
                        · refine lv_iconst (v := 0) hx hb dX10_setCoding_106 (by decide) ?_
                          exact hk_zret (u := g) hx hb hr rfl hlocks (hw) (by simp only [Int32.lt_iff_toInt_lt, Int32.le_iff_toInt_le, ← Int32.toInt_inj, hk_t0, hk_t1, hk_t2, hk_t3, hk_t4, hk_t5, hk_t6, hk_t7, hk_t8, hk_t9, hk_t10, hk_t11, hk_t12, hk_t13, hk_t14, hk_t15, hk_t16, hk_t17, hk_t18, hk_t20, hk_t32, hk_tm1, hk_t256, hk_t1500, hk_t4096, hk_t2000, hk_t3000, hk_t512, hk_t1024, true_and, and_true, false_and, and_false, true_or, or_true, false_or, or_false, not_true_eq_false, not_false_eq_true] at cc_1 cc_68 cc_135 cc_136 cc_158 cc_180 cc_181 cc_188 cc_189 cc_190 cc_193 cc_194 ⊢; omega) dX10_setCoding_107
                        · refine lv_aload_n hx hb dX10_setCoding_99 rfl (lv_at hl 0 rfl) ?_
                          refine lv_iload_n hx hb dX10_setCoding_100 rfl (lv_at hl 2 rfl) ?_
                          refine hk_put (ci := 13) (C := RX10) (T := TX10) (N := 10) (ty := .int) (v := .int v) hx hb hts iX10 tyX10 tyX10_ok nmX10 hown hw 1 rfl rfl 3 (by decide) (hts _ (List.mem_of_getElem? (i := 1) rfl)) rfl (by decide +kernel) rfl rfl (Nat.le_of_ble_eq_true rfl) dX10_setCoding_101 (ws' := xw cI cJ ad (upd g 6 v) lg ar bk) rfl (fun H locs hw => ?_)
                          refine lv_iconst (v := 1) hx hb dX10_setCoding_104 (by decide) ?_
                          exact hk_zret (u := (upd g 6 v)) hx hb hr rfl hlocks (hw) (by simp only [Int32.lt_iff_toInt_lt, Int32.le_iff_toInt_le, ← Int32.toInt_inj, hk_t0, hk_t1, hk_t2, hk_t3, hk_t4, hk_t5, hk_t6, hk_t7, hk_t8, hk_t9, hk_t10, hk_t11, hk_t12, hk_t13, hk_t14, hk_t15, hk_t16, hk_t17, hk_t18, hk_t20, hk_t32, hk_tm1, hk_t256, hk_t1500, hk_t4096, hk_t2000, hk_t3000, hk_t512, hk_t1024, true_and, and_true, false_and, and_false, true_or, or_true, false_or, or_false, not_true_eq_false, not_false_eq_true] at cc_1 cc_68 cc_135 cc_136 cc_158 cc_180 cc_181 cc_188 cc_189 cc_190 cc_193 cc_194 ⊢; omega) dX10_setCoding_105
                · refine lv_iload_n hx hb dX10_setCoding_60 rfl (lv_at hl 2 rfl) ?_
                  refine lv_iconst (v := 4) hx hb dX10_setCoding_61 (by decide) ?_
                  refine lv_icmp_gt (tgt := 72) hx hb dX10_setCoding_62 (by decide) (fun cc_195 => ?_) (fun cc_195 => ?_)
                  · refine lv_iload_n hx hb dX10_setCoding_72 rfl (lv_at hl 1 rfl) ?_
                    refine lv_iconst (v := 3) hx hb dX10_setCoding_73 (by decide) ?_
                    refine lv_icmp_ne (tgt := 106) hx hb dX10_setCoding_74 (by decide) (fun cc_196 => ?_) (fun cc_196 => ?_)
                    · refine lv_iconst (v := 0) hx hb dX10_setCoding_106 (by decide) ?_
                      exact hk_zret (u := g) hx hb hr rfl hlocks (hw) (by simp only [Int32.lt_iff_toInt_lt, Int32.le_iff_toInt_le, ← Int32.toInt_inj, hk_t0, hk_t1, hk_t2, hk_t3, hk_t4, hk_t5, hk_t6, hk_t7, hk_t8, hk_t9, hk_t10, hk_t11, hk_t12, hk_t13, hk_t14, hk_t15, hk_t16, hk_t17, hk_t18, hk_t20, hk_t32, hk_tm1, hk_t256, hk_t1500, hk_t4096, hk_t2000, hk_t3000, hk_t512, hk_t1024, true_and, and_true, false_and, and_false, true_or, or_true, false_or, or_false, not_true_eq_false, not_false_eq_true] at cc_1 cc_68 cc_135 cc_136 cc_158 cc_180 cc_181 cc_188 cc_195 cc_196 ⊢; omega) dX10_setCoding_107
                    · refine lv_iload_n hx hb dX10_setCoding_77 rfl (lv_at hl 2 rfl) ?_
                      refine lv_iload_n hx hb dX10_setCoding_78 rfl (lv_at hl 3 rfl) ?_
                      refine lv_if_eq (tgt := 88) hx hb dX10_setCoding_79 (by decide) (fun cc_197 => ?_) (fun cc_197 => ?_)
                      · refine lv_iconst (v := 1) hx hb dX10_setCoding_88 (by decide) ?_
                        refine lv_icmp_lt (tgt := 106) hx hb dX10_setCoding_89 (by decide) (fun cc_198 => ?_) (fun cc_198 => ?_)
                        · refine lv_iconst (v := 0) hx hb dX10_setCoding_106 (by decide) ?_
                          exact hk_zret (u := g) hx hb hr rfl hlocks (hw) (by simp only [Int32.lt_iff_toInt_lt, Int32.le_iff_toInt_le, ← Int32.toInt_inj, hk_t0, hk_t1, hk_t2, hk_t3, hk_t4, hk_t5, hk_t6, hk_t7, hk_t8, hk_t9, hk_t10, hk_t11, hk_t12, hk_t13, hk_t14, hk_t15, hk_t16, hk_t17, hk_t18, hk_t20, hk_t32, hk_tm1, hk_t256, hk_t1500, hk_t4096, hk_t2000, hk_t3000, hk_t512, hk_t1024, true_and, and_true, false_and, and_false, true_or, or_true, false_or, or_false, not_true_eq_false, not_false_eq_true] at cc_1 cc_68 cc_135 cc_136 cc_158 cc_180 cc_181 cc_188 cc_195 cc_196 cc_197 cc_198 ⊢; omega) dX10_setCoding_107
                        · refine lv_iload_n hx hb dX10_setCoding_92 rfl (lv_at hl 2 rfl) ?_
                          refine lv_sipush (v := 4096) hx hb dX10_setCoding_93 (by decide) ?_
                          refine lv_icmp_gt (tgt := 106) hx hb dX10_setCoding_96 (by decide) (fun cc_199 => ?_) (fun cc_199 => ?_)
                          · refine lv_iconst (v := 0) hx hb dX10_setCoding_106 (by decide) ?_
                            exact hk_zret (u := g) hx hb hr rfl hlocks (hw) (by simp only [Int32.lt_iff_toInt_lt, Int32.le_iff_toInt_le, ← Int32.toInt_inj, hk_t0, hk_t1, hk_t2, hk_t3, hk_t4, hk_t5, hk_t6, hk_t7, hk_t8, hk_t9, hk_t10, hk_t11, hk_t12, hk_t13, hk_t14, hk_t15, hk_t16, hk_t17, hk_t18, hk_t20, hk_t32, hk_tm1, hk_t256, hk_t1500, hk_t4096, hk_t2000, hk_t3000, hk_t512, hk_t1024, true_and, and_true, false_and, and_false, true_or, or_true, false_or, or_false, not_true_eq_false, not_false_eq_true] at cc_1 cc_68 cc_135 cc_136 cc_158 cc_180 cc_181 cc_188 cc_195 cc_196 cc_197 cc_198 cc_199 ⊢; omega) dX10_setCoding_107
                          · refine lv_aload_n hx hb dX10_setCoding_99 rfl (lv_at hl 0 rfl) ?_
                            refine lv_iload_n hx hb dX10_setCoding_100 rfl (lv_at hl 2 rfl) ?_
                            refine hk_put (ci := 13) (C := RX10) (T := TX10) (N := 10) (ty := .int) (v := .int v) hx hb hts iX10 tyX10 tyX10_ok nmX10 hown hw 1 rfl rfl 3 (by decide) (hts _ (List.mem_of_getElem? (i := 1) rfl)) rfl (by decide +kernel) rfl rfl (Nat.le_of_ble_eq_true rfl) dX10_setCoding_101 (ws' := xw cI cJ ad (upd g 6 v) lg ar bk) rfl (fun H locs hw => ?_)
                            refine lv_iconst (v := 1) hx hb dX10_setCoding_104 (by decide) ?_
                            exact hk_zret (u := (upd g 6 v)) hx hb hr rfl hlocks (hw) (by simp only [Int32.lt_iff_toInt_lt, Int32.le_iff_toInt_le, ← Int32.toInt_inj, hk_t0, hk_t1, hk_t2, hk_t3, hk_t4, hk_t5, hk_t6, hk_t7, hk_t8, hk_t9, hk_t10, hk_t11, hk_t12, hk_t13, hk_t14, hk_t15, hk_t16, hk_t17, hk_t18, hk_t20, hk_t32, hk_tm1, hk_t256, hk_t1500, hk_t4096, hk_t2000, hk_t3000, hk_t512, hk_t1024, true_and, and_true, false_and, and_false, true_or, or_true, false_or, or_false, not_true_eq_false, not_false_eq_true] at cc_1 cc_68 cc_135 cc_136 cc_158 cc_180 cc_181 cc_188 cc_195 cc_196 cc_197 cc_198 cc_199 ⊢; omega) dX10_setCoding_105
                      · refine lv_sipush (v := 4096) hx hb dX10_setCoding_82 (by decide) ?_
                        refine lv_goto (tgt := 89) hx hb dX10_setCoding_85 (by decide) ?_
                        refine lv_icmp_lt (tgt := 106) hx hb dX10_setCoding_89 (by decide) (fun cc_200 => ?_) (fun cc_200 => ?_)
                        · refine lv_iconst (v := 0) hx hb dX10_setCoding_106 (by decide) ?_
                          exact hk_zret (u := g) hx hb hr rfl hlocks (hw) (by simp only [Int32.lt_iff_toInt_lt, Int32.le_iff_toInt_le, ← Int32.toInt_inj, hk_t0, hk_t1, hk_t2, hk_t3, hk_t4, hk_t5, hk_t6, hk_t7, hk_t8, hk_t9, hk_t10, hk_t11, hk_t12, hk_t13, hk_t14, hk_t15, hk_t16, hk_t17, hk_t18, hk_t20, hk_t32, hk_tm1, hk_t256, hk_t1500, hk_t4096, hk_t2000, hk_t3000, hk_t512, hk_t1024, true_and, and_true, false_and, and_false, true_or, or_true, false_or, or_false, not_true_eq_false, not_false_eq_true] at cc_1 cc_68 cc_135 cc_136 cc_158 cc_180 cc_181 cc_188 cc_195 cc_196 cc_197 cc_200 ⊢; omega) dX10_setCoding_107
                        · refine lv_iload_n hx hb dX10_setCoding_92 rfl (lv_at hl 2 rfl) ?_
                          refine lv_sipush (v := 4096) hx hb dX10_setCoding_93 (by decide) ?_
                          refine lv_icmp_gt (tgt := 106) hx hb dX10_setCoding_96 (by decide) (fun cc_201 => ?_) (fun cc_201 => ?_)
                          · refine lv_iconst (v := 0) hx hb dX10_setCoding_106 (by decide) ?_
                            exact hk_zret (u := g) hx hb hr rfl hlocks (hw) (by simp only [Int32.lt_iff_toInt_lt, Int32.le_iff_toInt_le, ← Int32.toInt_inj, hk_t0, hk_t1, hk_t2, hk_t3, hk_t4, hk_t5, hk_t6, hk_t7, hk_t8, hk_t9, hk_t10, hk_t11, hk_t12, hk_t13, hk_t14, hk_t15, hk_t16, hk_t17, hk_t18, hk_t20, hk_t32, hk_tm1, hk_t256, hk_t1500, hk_t4096, hk_t2000, hk_t3000, hk_t512, hk_t1024, true_and, and_true, false_and, and_false, true_or, or_true, false_or, or_false, not_true_eq_false, not_false_eq_true] at cc_1 cc_68 cc_135 cc_136 cc_158 cc_180 cc_181 cc_188 cc_195 cc_196 cc_197 cc_200 cc_201 ⊢; omega) dX10_setCoding_107
                          · refine lv_aload_n hx hb dX10_setCoding_99 rfl (lv_at hl 0 rfl) ?_
                            refine lv_iload_n hx hb dX10_setCoding_100 rfl (lv_at hl 2 rfl) ?_
                            refine hk_put (ci := 13) (C := RX10) (T := TX10) (N := 10) (ty := .int) (v := .int v) hx hb hts iX10 tyX10 tyX10_ok nmX10 hown hw 1 rfl rfl 3 (by decide) (hts _ (List.mem_of_getElem? (i := 1) rfl)) rfl (by decide +kernel) rfl rfl (Nat.le_of_ble_eq_true rfl) dX10_setCoding_101 (ws' := xw cI cJ ad (upd g 6 v) lg ar bk) rfl (fun H locs hw => ?_)
                            refine lv_iconst (v := 1) hx hb dX10_setCoding_104 (by decide) ?_
                            exact hk_zret (u := (upd g 6 v)) hx hb hr rfl hlocks (hw) (by simp only [Int32.lt_iff_toInt_lt, Int32.le_iff_toInt_le, ← Int32.toInt_inj, hk_t0, hk_t1, hk_t2, hk_t3, hk_t4, hk_t5, hk_t6, hk_t7, hk_t8, hk_t9, hk_t10, hk_t11, hk_t12, hk_t13, hk_t14, hk_t15, hk_t16, hk_t17, hk_t18, hk_t20, hk_t32, hk_tm1, hk_t256, hk_t1500, hk_t4096, hk_t2000, hk_t3000, hk_t512, hk_t1024, true_and, and_true, false_and, and_false, true_or, or_true, false_or, or_false, not_true_eq_false, not_false_eq_true] at cc_1 cc_68 cc_135 cc_136 cc_158 cc_180 cc_181 cc_188 cc_195 cc_196 cc_197 cc_200 cc_201 ⊢; omega) dX10_setCoding_105
                  · refine lv_aload_n hx hb dX10_setCoding_65 rfl (lv_at hl 0 rfl) ?_
                    refine lv_iload_n hx hb dX10_setCoding_66 rfl (lv_at hl 2 rfl) ?_
                    refine hk_put (ci := 13) (C := RX10) (T := TX10) (N := 10) (ty := .int) (v := .int v) hx hb hts iX10 tyX10 tyX10_ok nmX10 hown hw 1 rfl rfl 2 (by decide) (hts _ (List.mem_of_getElem? (i := 2) rfl)) rfl (by decide +kernel) rfl rfl (Nat.le_of_ble_eq_true rfl) dX10_setCoding_67 (ws' := xw cI cJ ad (upd g 5 v) lg ar bk) rfl (fun H locs hw => ?_)
                    refine lv_iconst (v := 1) hx hb dX10_setCoding_70 (by decide) ?_
                    exact hk_zret (u := (upd g 5 v)) hx hb hr rfl hlocks (hw) (by simp only [Int32.lt_iff_toInt_lt, Int32.le_iff_toInt_le, ← Int32.toInt_inj, hk_t0, hk_t1, hk_t2, hk_t3, hk_t4, hk_t5, hk_t6, hk_t7, hk_t8, hk_t9, hk_t10, hk_t11, hk_t12, hk_t13, hk_t14, hk_t15, hk_t16, hk_t17, hk_t18, hk_t20, hk_t32, hk_tm1, hk_t256, hk_t1500, hk_t4096, hk_t2000, hk_t3000, hk_t512, hk_t1024, true_and, and_true, false_and, and_false, true_or, or_true, false_or, or_false, not_true_eq_false, not_false_eq_true] at cc_1 cc_68 cc_135 cc_136 cc_158 cc_180 cc_181 cc_188 cc_195 ⊢; omega) dX10_setCoding_71
            · refine lv_aload_n hx hb dX10_setCoding_44 rfl (lv_at hl 0 rfl) ?_
              refine lv_iload_n hx hb dX10_setCoding_45 rfl (lv_at hl 2 rfl) ?_
              refine hk_put (ci := 13) (C := RX10) (T := TX10) (N := 10) (ty := .int) (v := .int v) hx hb hts iX10 tyX10 tyX10_ok nmX10 hown hw 1 rfl rfl 1 (by decide) (hts _ (List.mem_of_getElem? (i := 4) rfl)) rfl (by decide +kernel) rfl rfl (Nat.le_of_ble_eq_true rfl) dX10_setCoding_46 (ws' := xw cI cJ ad (upd g 4 v) lg ar bk) rfl (fun H locs hw => ?_)
              refine lv_iconst (v := 1) hx hb dX10_setCoding_49 (by decide) ?_
              exact hk_zret (u := (upd g 4 v)) hx hb hr rfl hlocks (hw) (by simp only [Int32.lt_iff_toInt_lt, Int32.le_iff_toInt_le, ← Int32.toInt_inj, hk_t0, hk_t1, hk_t2, hk_t3, hk_t4, hk_t5, hk_t6, hk_t7, hk_t8, hk_t9, hk_t10, hk_t11, hk_t12, hk_t13, hk_t14, hk_t15, hk_t16, hk_t17, hk_t18, hk_t20, hk_t32, hk_tm1, hk_t256, hk_t1500, hk_t4096, hk_t2000, hk_t3000, hk_t512, hk_t1024, true_and, and_true, false_and, and_false, true_or, or_true, false_or, or_false, not_true_eq_false, not_false_eq_true] at cc_1 cc_68 cc_135 cc_136 cc_158 cc_180 ⊢; omega) dX10_setCoding_50
      · refine lv_aload_n hx hb dX10_setCoding_18 rfl (lv_at hl 0 rfl) ?_
        refine lv_iload_n hx hb dX10_setCoding_19 rfl (lv_at hl 2 rfl) ?_
        refine hk_put (ci := 13) (C := RX10) (T := TX10) (N := 10) (ty := .int) (v := .int v) hx hb hts iX10 tyX10 tyX10_ok nmX10 hown hw 1 rfl rfl 0 (by decide) (hts _ (List.mem_of_getElem? (i := 3) rfl)) rfl (by decide +kernel) rfl rfl (Nat.le_of_ble_eq_true rfl) dX10_setCoding_20 (ws' := xw cI cJ ad (upd g 3 v) lg ar bk) rfl (fun H locs hw => ?_)
        refine lv_iconst (v := 1) hx hb dX10_setCoding_23 (by decide) ?_
        exact hk_zret (u := (upd g 3 v)) hx hb hr rfl hlocks (hw) (by simp only [Int32.lt_iff_toInt_lt, Int32.le_iff_toInt_le, ← Int32.toInt_inj, hk_t0, hk_t1, hk_t2, hk_t3, hk_t4, hk_t5, hk_t6, hk_t7, hk_t8, hk_t9, hk_t10, hk_t11, hk_t12, hk_t13, hk_t14, hk_t15, hk_t16, hk_t17, hk_t18, hk_t20, hk_t32, hk_tm1, hk_t256, hk_t1500, hk_t4096, hk_t2000, hk_t3000, hk_t512, hk_t1024, true_and, and_true, false_and, and_false, true_or, or_true, false_or, or_false, not_true_eq_false, not_false_eq_true] at cc_1 cc_68 cc_135 ⊢; omega) dX10_setCoding_24

def ww_cx_setShape : List Cond := Cond.code yX10_setShape cX10_setShape 3 (some .boolean) :: ([Cond.fieldLink RX10 39 "LzmaChains$Settings" "mark" "I", Cond.methodLink RX10 33 yX0_isKind, Cond.static yX0_isKind, Cond.initialized RX0, Cond.code yX0_isKind cX0_isKind 1 (some .boolean), Cond.fieldLink RX10 30 "LzmaChains$Settings" "check" "I", Cond.fieldLink RX10 27 "LzmaChains$Settings" "block" "I", Cond.fieldLink RX10 24 "LzmaChains$Settings" "chunk" "I"] ++ (wsX100 ++ ([])))
set_option maxRecDepth 20000 in
theorem gw_cx_setShape_0 : GoodIn ww_cx_setShape (va_wsS RX10 33 yX0_isKind ww_cx_isKind) := goodIn_r _ [2, 3, 4, 5] rfl (by decide +kernel)
set_option maxHeartbeats 4000000 in
set_option maxRecDepth 100000 in
/-- Settings.setShape -/
theorem cx_setShape (l : Launch) (D : va_G) (cI cJ : ClassId) (ad : Nat → Nat) (g : Nat → Int32) (lg : Nat → Int64) (ar : Nat → Nat → Int32) (bk : Nat → Int64) (sz : Nat) (wt v : Int32) : Met l yX10_setShape ww_cx_setShape { frames := 1, cells := 0, slots := 0, locals := 20 } (va_Pc [.ref (ad 1), .int wt, .int v] (hk_B D [(cI, .int), (cJ, .long)] sz (xw cI cJ ad g lg ar bk))) (va_Qi (fun (r : Int32) (u : Nat → Int32) => (r.toInt = 1 ∧ (wt.toInt = 4 ∧ 1 ≤ v.toInt ∧ v.toInt ≤ 1500 ∨ wt.toInt = 5 ∧ 1 ≤ v.toInt ∧ v.toInt ≤ 1500 ∨ wt.toInt = 6 ∧ (v.toInt = 0 ∨ v.toInt = 1 ∨ v.toInt = 4 ∨ v.toInt = 10) ∨ wt.toInt = 7 ∧ (v.toInt = 0 ∨ v.toInt = 1))) ∨ (r.toInt = 0 ∧ ¬ (wt.toInt = 4 ∧ 1 ≤ v.toInt ∧ v.toInt ≤ 1500 ∨ wt.toInt = 5 ∧ 1 ≤ v.toInt ∧ v.toInt ≤ 1500 ∨ wt.toInt = 6 ∧ (v.toInt = 0 ∨ v.toInt = 1 ∨ v.toInt = 4 ∨ v.toInt = 10) ∨ wt.toInt = 7 ∧ (v.toInt = 0 ∨ v.toInt = 1)))) (fun u : Nat → Int32 => hk_E D [(cI, .int), (cJ, .long)] (va_A (xw cI cJ ad g lg ar bk) sz) (xw cI cJ ad u lg ar bk)) (va_A (xw cI cJ ad g lg ar bk) sz)) 0 0 (va_A (xw cI cJ ad g lg ar bk) sz) := by
  refine hk_met (cc := cX10_setShape) (maxL := 3) (ret := (some .boolean)) (by decide) rfl (Nat.le_of_ble_eq_true rfl) ?_
  intro p e s m below meth c ls hx hb hr hml hown hts hlocks hin hA hw hl
  have iX10 : ∀ w ∈ wsX100, w ∈ ww_cx_setShape := fun _ h => List.mem_cons_of_mem _ (List.mem_append_right _ (List.mem_append_left _ h))
  have hl : lv_has ls 3 [(0, .ref (ad 1)), (1, .int wt), (2, .int v)] := hl
  refine lv_iload_n hx hb dX10_setShape_0 rfl (lv_at hl 1 rfl) ?_
  refine lv_iconst (v := 4) hx hb dX10_setShape_1 (by decide) ?_
  refine lv_icmp_ne (tgt := 24) hx hb dX10_setShape_2 (by decide) (fun cc_1 => ?_) (fun cc_1 => ?_)
  · refine lv_iload_n hx hb dX10_setShape_24 rfl (lv_at hl 1 rfl) ?_
    refine lv_iconst (v := 5) hx hb dX10_setShape_25 (by decide) ?_
    refine lv_icmp_ne (tgt := 48) hx hb dX10_setShape_26 (by decide) (fun cc_2 => ?_) (fun cc_2 => ?_)
    · refine lv_iload_n hx hb dX10_setShape_48 rfl (lv_at hl 1 rfl) ?_
      refine lv_bipush (v := 6) hx hb dX10_setShape_49 (by decide) ?_
      refine lv_icmp_ne (tgt := 68) hx hb dX10_setShape_51 (by decide) (fun cc_3 => ?_) (fun cc_3 => ?_)
      · refine lv_iload_n hx hb dX10_setShape_68 rfl (lv_at hl 1 rfl) ?_
        refine lv_bipush (v := 7) hx hb dX10_setShape_69 (by decide) ?_
        refine lv_icmp_ne (tgt := 90) hx hb dX10_setShape_71 (by decide) (fun cc_4 => ?_) (fun cc_4 => ?_)
        · refine lv_iconst (v := 0) hx hb dX10_setShape_90 (by decide) ?_
          exact hk_zret (u := g) hx hb hr rfl hlocks (hw) (by simp only [Int32.lt_iff_toInt_lt, Int32.le_iff_toInt_le, ← Int32.toInt_inj, hk_t0, hk_t1, hk_t2, hk_t3, hk_t4, hk_t5, hk_t6, hk_t7, hk_t8, hk_t9, hk_t10, hk_t11, hk_t12, hk_t13, hk_t14, hk_t15, hk_t16, hk_t17, hk_t18, hk_t20, hk_t32, hk_tm1, hk_t256, hk_t1500, hk_t4096, hk_t2000, hk_t3000, hk_t512, hk_t1024, true_and, and_true, false_and, and_false, true_or, or_true, false_or, or_false, not_true_eq_false, not_false_eq_true] at cc_1 cc_2 cc_3 cc_4 ⊢; omega) dX10_setShape_91
        · refine lv_iload_n hx hb dX10_setShape_74 rfl (lv_at hl 2 rfl) ?_
          refine lv_if_eq (tgt := 83) hx hb dX10_setShape_75 (by decide) (fun cc_5 => ?_) (fun cc_5 => ?_)
          · refine lv_aload_n hx hb dX10_setShape_83 rfl (lv_at hl 0 rfl) ?_
            refine lv_iload_n hx hb dX10_setShape_84 rfl (lv_at hl 2 rfl) ?_
            refine hk_put (ci := 13) (C := RX10) (T := TX10) (N := 10) (ty := .int) (v := .int v) hx hb hts iX10 tyX10 tyX10_ok nmX10 hown hw 1 rfl rfl 7 (by decide) (hts _ (List.mem_of_getElem? (i := 1) rfl)) rfl (by decide +kernel) rfl rfl (Nat.le_of_ble_eq_true rfl) dX10_setShape_85 (ws' := xw cI cJ ad (upd g 10 v) lg ar bk) rfl (fun H locs hw => ?_)
            refine lv_iconst (v := 1) hx hb dX10_setShape_88 (by decide) ?_
            exact hk_zret (u := (upd g 10 v)) hx hb hr rfl hlocks (hw) (by simp only [Int32.lt_iff_toInt_lt, Int32.le_iff_toInt_le, ← Int32.toInt_inj, hk_t0, hk_t1, hk_t2, hk_t3, hk_t4, hk_t5, hk_t6, hk_t7, hk_t8, hk_t9, hk_t10, hk_t11, hk_t12, hk_t13, hk_t14, hk_t15, hk_t16, hk_t17, hk_t18, hk_t20, hk_t32, hk_tm1, hk_t256, hk_t1500, hk_t4096, hk_t2000, hk_t3000, hk_t512, hk_t1024, true_and, and_true, false_and, and_false, true_or, or_true, false_or, or_false, not_true_eq_false, not_false_eq_true] at cc_1 cc_2 cc_3 cc_4 cc_5 ⊢; omega) dX10_setShape_89
          · refine lv_iload_n hx hb dX10_setShape_78 rfl (lv_at hl 2 rfl) ?_
            refine lv_iconst (v := 1) hx hb dX10_setShape_79 (by decide) ?_
            refine lv_icmp_ne (tgt := 90) hx hb dX10_setShape_80 (by decide) (fun cc_6 => ?_) (fun cc_6 => ?_)
            · refine lv_iconst (v := 0) hx hb dX10_setShape_90 (by decide) ?_
              exact hk_zret (u := g) hx hb hr rfl hlocks (hw) (by simp only [Int32.lt_iff_toInt_lt, Int32.le_iff_toInt_le, ← Int32.toInt_inj, hk_t0, hk_t1, hk_t2, hk_t3, hk_t4, hk_t5, hk_t6, hk_t7, hk_t8, hk_t9, hk_t10, hk_t11, hk_t12, hk_t13, hk_t14, hk_t15, hk_t16, hk_t17, hk_t18, hk_t20, hk_t32, hk_tm1, hk_t256, hk_t1500, hk_t4096, hk_t2000, hk_t3000, hk_t512, hk_t1024, true_and, and_true, false_and, and_false, true_or, or_true, false_or, or_false, not_true_eq_false, not_false_eq_true] at cc_1 cc_2 cc_3 cc_4 cc_5 cc_6 ⊢; omega) dX10_setShape_91
            · refine lv_aload_n hx hb dX10_setShape_83 rfl (lv_at hl 0 rfl) ?_
              refine lv_iload_n hx hb dX10_setShape_84 rfl (lv_at hl 2 rfl) ?_
              refine hk_put (ci := 13) (C := RX10) (T := TX10) (N := 10) (ty := .int) (v := .int v) hx hb hts iX10 tyX10 tyX10_ok nmX10 hown hw 1 rfl rfl 7 (by decide) (hts _ (List.mem_of_getElem? (i := 1) rfl)) rfl (by decide +kernel) rfl rfl (Nat.le_of_ble_eq_true rfl) dX10_setShape_85 (ws' := xw cI cJ ad (upd g 10 v) lg ar bk) rfl (fun H locs hw => ?_)
              refine lv_iconst (v := 1) hx hb dX10_setShape_88 (by decide) ?_
              exact hk_zret (u := (upd g 10 v)) hx hb hr rfl hlocks (hw) (by simp only [Int32.lt_iff_toInt_lt, Int32.le_iff_toInt_le, ← Int32.toInt_inj, hk_t0, hk_t1, hk_t2, hk_t3, hk_t4, hk_t5, hk_t6, hk_t7, hk_t8, hk_t9, hk_t10, hk_t11, hk_t12, hk_t13, hk_t14, hk_t15, hk_t16, hk_t17, hk_t18, hk_t20, hk_t32, hk_tm1, hk_t256, hk_t1500, hk_t4096, hk_t2000, hk_t3000, hk_t512, hk_t1024, true_and, and_true, false_and, and_false, true_or, or_true, false_or, or_false, not_true_eq_false, not_false_eq_true] at cc_1 cc_2 cc_3 cc_4 cc_5 cc_6 ⊢; omega) dX10_setShape_89
      · refine lv_iload_n hx hb dX10_setShape_54 rfl (lv_at hl 2 rfl) ?_
        refine hk_Si (As := [.int v]) (rest := []) ⟨hx, hb, hml, hown, hts⟩ hw hA (cx_isKind l D cI cJ ad g lg ar bk _ v) (va_cwS 1 hts gw_cx_setShape_0 rfl rfl rfl (by decide +kernel) ⟨Nat.le_of_ble_eq_true rfl, Nat.le_of_ble_eq_true rfl⟩) rfl hl.1 rfl (Nat.le_of_ble_eq_true rfl) dX10_setShape_55 ⟨Nat.le_of_ble_eq_true rfl, Nat.le_of_ble_eq_true rfl⟩ (fun rr_7 uu_8 H locs hp_9 hw => ?_)
        have hw : hk_W D [(cI, .int), (cJ, .long)] _ s _ _ (xw cI cJ ad g lg ar bk) := hw
        refine lv_if_eq (tgt := 68) hx hb dX10_setShape_58 (by decide) (fun cc_10 => ?_) (fun cc_10 => ?_)
        · refine lv_iload_n hx hb dX10_setShape_68 rfl (lv_at hl 1 rfl) ?_
          refine lv_bipush (v := 7) hx hb dX10_setShape_69 (by decide) ?_
          refine lv_icmp_ne (tgt := 90) hx hb dX10_setShape_71 (by decide) (fun cc_11 => ?_) (fun cc_11 => ?_)
          · refine lv_iconst (v := 0) hx hb dX10_setShape_90 (by decide) ?_
            exact hk_zret (u := g) hx hb hr rfl hlocks (hw) (by simp only [Int32.lt_iff_toInt_lt, Int32.le_iff_toInt_le, ← Int32.toInt_inj, hk_t0, hk_t1, hk_t2, hk_t3, hk_t4, hk_t5, hk_t6, hk_t7, hk_t8, hk_t9, hk_t10, hk_t11, hk_t12, hk_t13, hk_t14, hk_t15, hk_t16, hk_t17, hk_t18, hk_t20, hk_t32, hk_tm1, hk_t256, hk_t1500, hk_t4096, hk_t2000, hk_t3000, hk_t512, hk_t1024, true_and, and_true, false_and, and_false, true_or, or_true, false_or, or_false, not_true_eq_false, not_false_eq_true] at cc_1 cc_2 cc_3 cc_10 cc_11 hp_9 ⊢; omega) dX10_setShape_91
          · refine lv_iload_n hx hb dX10_setShape_74 rfl (lv_at hl 2 rfl) ?_
            refine lv_if_eq (tgt := 83) hx hb dX10_setShape_75 (by decide) (fun cc_12 => ?_) (fun cc_12 => ?_)
            · refine lv_aload_n hx hb dX10_setShape_83 rfl (lv_at hl 0 rfl) ?_
              refine lv_iload_n hx hb dX10_setShape_84 rfl (lv_at hl 2 rfl) ?_
              refine hk_put (ci := 13) (C := RX10) (T := TX10) (N := 10) (ty := .int) (v := .int v) hx hb hts iX10 tyX10 tyX10_ok nmX10 hown hw 1 rfl rfl 7 (by decide) (hts _ (List.mem_of_getElem? (i := 1) rfl)) rfl (by decide +kernel) rfl rfl (Nat.le_of_ble_eq_true rfl) dX10_setShape_85 (ws' := xw cI cJ ad (upd g 10 v) lg ar bk) rfl (fun H locs hw => ?_)
              refine lv_iconst (v := 1) hx hb dX10_setShape_88 (by decide) ?_
              exact hk_zret (u := (upd g 10 v)) hx hb hr rfl hlocks (hw) (by simp only [Int32.lt_iff_toInt_lt, Int32.le_iff_toInt_le, ← Int32.toInt_inj, hk_t0, hk_t1, hk_t2, hk_t3, hk_t4, hk_t5, hk_t6, hk_t7, hk_t8, hk_t9, hk_t10, hk_t11, hk_t12, hk_t13, hk_t14, hk_t15, hk_t16, hk_t17, hk_t18, hk_t20, hk_t32, hk_tm1, hk_t256, hk_t1500, hk_t4096, hk_t2000, hk_t3000, hk_t512, hk_t1024, true_and, and_true, false_and, and_false, true_or, or_true, false_or, or_false, not_true_eq_false, not_false_eq_true] at cc_1 cc_2 cc_3 cc_10 cc_11 cc_12 hp_9 ⊢; omega) dX10_setShape_89
            · refine lv_iload_n hx hb dX10_setShape_78 rfl (lv_at hl 2 rfl) ?_
              refine lv_iconst (v := 1) hx hb dX10_setShape_79 (by decide) ?_
              refine lv_icmp_ne (tgt := 90) hx hb dX10_setShape_80 (by decide) (fun cc_13 => ?_) (fun cc_13 => ?_)
              · refine lv_iconst (v := 0) hx hb dX10_setShape_90 (by decide) ?_
                exact hk_zret (u := g) hx hb hr rfl hlocks (hw) (by simp only [Int32.lt_iff_toInt_lt, Int32.le_iff_toInt_le, ← Int32.toInt_inj, hk_t0, hk_t1, hk_t2, hk_t3, hk_t4, hk_t5, hk_t6, hk_t7, hk_t8, hk_t9, hk_t10, hk_t11, hk_t12, hk_t13, hk_t14, hk_t15, hk_t16, hk_t17, hk_t18, hk_t20, hk_t32, hk_tm1, hk_t256, hk_t1500, hk_t4096, hk_t2000, hk_t3000, hk_t512, hk_t1024, true_and, and_true, false_and, and_false, true_or, or_true, false_or, or_false, not_true_eq_false, not_false_eq_true] at cc_1 cc_2 cc_3 cc_10 cc_11 cc_12 cc_13 hp_9 ⊢; omega) dX10_setShape_91
              · refine lv_aload_n hx hb dX10_setShape_83 rfl (lv_at hl 0 rfl) ?_
                refine lv_iload_n hx hb dX10_setShape_84 rfl (lv_at hl 2 rfl) ?_
                refine hk_put (ci := 13) (C := RX10) (T := TX10) (N := 10) (ty := .int) (v := .int v) hx hb hts iX10 tyX10 tyX10_ok nmX10 hown hw 1 rfl rfl 7 (by decide) (hts _ (List.mem_of_getElem? (i := 1) rfl)) rfl (by decide +kernel) rfl rfl (Nat.le_of_ble_eq_true rfl) dX10_setShape_85 (ws' := xw cI cJ ad (upd g 10 v) lg ar bk) rfl (fun H locs hw => ?_)
                refine lv_iconst (v := 1) hx hb dX10_setShape_88 (by decide) ?_
                exact hk_zret (u := (upd g 10 v)) hx hb hr rfl hlocks (hw) (by simp only [Int32.lt_iff_toInt_lt, Int32.le_iff_toInt_le, ← Int32.toInt_inj, hk_t0, hk_t1, hk_t2, hk_t3, hk_t4, hk_t5, hk_t6, hk_t7, hk_t8, hk_t9, hk_t10, hk_t11, hk_t12, hk_t13, hk_t14, hk_t15, hk_t16, hk_t17, hk_t18, hk_t20, hk_t32, hk_tm1, hk_t256, hk_t1500, hk_t4096, hk_t2000, hk_t3000, hk_t512, hk_t1024, true_and, and_true, false_and, and_false, true_or, or_true, false_or, or_false, not_true_eq_false, not_false_eq_true] at cc_1 cc_2 cc_3 cc_10 cc_11 cc_12 cc_13 hp_9 ⊢; omega) dX10_setShape_89
        · refine lv_aload_n hx hb dX10_setShape_61 rfl (lv_at hl 0 rfl) ?_
          refine lv_iload_n hx hb dX10_setShape_62 rfl (lv_at hl 2 rfl) ?_
          refine hk_put (ci := 13) (C := RX10) (T := TX10) (N := 10) (ty := .int) (v := .int v) hx hb hts iX10 tyX10 tyX10_ok nmX10 hown hw 1 rfl rfl 6 (by decide) (hts _ (List.mem_of_getElem? (i := 6) rfl)) rfl (by decide +kernel) rfl rfl (Nat.le_of_ble_eq_true rfl) dX10_setShape_63 (ws' := xw cI cJ ad (upd g 9 v) lg ar bk) rfl (fun H locs hw => ?_)
          refine lv_iconst (v := 1) hx hb dX10_setShape_66 (by decide) ?_
          exact hk_zret (u := (upd g 9 v)) hx hb hr rfl hlocks (hw) (by simp only [Int32.lt_iff_toInt_lt, Int32.le_iff_toInt_le, ← Int32.toInt_inj, hk_t0, hk_t1, hk_t2, hk_t3, hk_t4, hk_t5, hk_t6, hk_t7, hk_t8, hk_t9, hk_t10, hk_t11, hk_t12, hk_t13, hk_t14, hk_t15, hk_t16, hk_t17, hk_t18, hk_t20, hk_t32, hk_tm1, hk_t256, hk_t1500, hk_t4096, hk_t2000, hk_t3000, hk_t512, hk_t1024, true_and, and_true, false_and, and_false, true_or, or_true, false_or, or_false, not_true_eq_false, not_false_eq_true] at cc_1 cc_2 cc_3 cc_10 hp_9 ⊢; omega) dX10_setShape_67
    · refine lv_iload_n hx hb dX10_setShape_29 rfl (lv_at hl 2 rfl) ?_
      refine lv_iconst (v := 1) hx hb dX10_setShape_30 (by decide) ?_
      refine lv_icmp_lt (tgt := 48) hx hb dX10_setShape_31 (by decide) (fun cc_14 => ?_) (fun cc_14 => ?_)
      · refine lv_iload_n hx hb dX10_setShape_48 rfl (lv_at hl 1 rfl) ?_
        refine lv_bipush (v := 6) hx hb dX10_setShape_49 (by decide) ?_
        refine lv_icmp_ne (tgt := 68) hx hb dX10_setShape_51 (by decide) (fun cc_15 => ?_) (fun cc_15 => ?_)
        · refine lv_iload_n hx hb dX10_setShape_68 rfl (lv_at hl 1 rfl) ?_
          refine lv_bipush (v := 7) hx hb dX10_setShape_69 (by decide) ?_
          refine lv_icmp_ne (tgt := 90) hx hb dX10_setShape_71 (by decide) (fun cc_16 => ?_) (fun cc_16 => ?_)
          · refine lv_iconst (v := 0) hx hb dX10_setShape_90 (by decide) ?_
            exact hk_zret (u := g) hx hb hr rfl hlocks (hw) (by simp only [Int32.lt_iff_toInt_lt, Int32.le_iff_toInt_le, ← Int32.toInt_inj, hk_t0, hk_t1, hk_t2, hk_t3, hk_t4, hk_t5, hk_t6, hk_t7, hk_t8, hk_t9, hk_t10, hk_t11, hk_t12, hk_t13, hk_t14, hk_t15, hk_t16, hk_t17, hk_t18, hk_t20, hk_t32, hk_tm1, hk_t256, hk_t1500, hk_t4096, hk_t2000, hk_t3000, hk_t512, hk_t1024, true_and, and_true, false_and, and_false, true_or, or_true, false_or, or_false, not_true_eq_false, not_false_eq_true] at cc_1 cc_2 cc_14 cc_15 cc_16 ⊢; omega) dX10_setShape_91
          · refine lv_iload_n hx hb dX10_setShape_74 rfl (lv_at hl 2 rfl) ?_
            refine lv_if_eq (tgt := 83) hx hb dX10_setShape_75 (by decide) (fun cc_17 => ?_) (fun cc_17 => ?_)
            · refine lv_aload_n hx hb dX10_setShape_83 rfl (lv_at hl 0 rfl) ?_
              refine lv_iload_n hx hb dX10_setShape_84 rfl (lv_at hl 2 rfl) ?_
              refine hk_put (ci := 13) (C := RX10) (T := TX10) (N := 10) (ty := .int) (v := .int v) hx hb hts iX10 tyX10 tyX10_ok nmX10 hown hw 1 rfl rfl 7 (by decide) (hts _ (List.mem_of_getElem? (i := 1) rfl)) rfl (by decide +kernel) rfl rfl (Nat.le_of_ble_eq_true rfl) dX10_setShape_85 (ws' := xw cI cJ ad (upd g 10 v) lg ar bk) rfl (fun H locs hw => ?_)
              refine lv_iconst (v := 1) hx hb dX10_setShape_88 (by decide) ?_
              exact hk_zret (u := (upd g 10 v)) hx hb hr rfl hlocks (hw) (by simp only [Int32.lt_iff_toInt_lt, Int32.le_iff_toInt_le, ← Int32.toInt_inj, hk_t0, hk_t1, hk_t2, hk_t3, hk_t4, hk_t5, hk_t6, hk_t7, hk_t8, hk_t9, hk_t10, hk_t11, hk_t12, hk_t13, hk_t14, hk_t15, hk_t16, hk_t17, hk_t18, hk_t20, hk_t32, hk_tm1, hk_t256, hk_t1500, hk_t4096, hk_t2000, hk_t3000, hk_t512, hk_t1024, true_and, and_true, false_and, and_false, true_or, or_true, false_or, or_false, not_true_eq_false, not_false_eq_true] at cc_1 cc_2 cc_14 cc_15 cc_16 cc_17 ⊢; omega) dX10_setShape_89
            · refine lv_iload_n hx hb dX10_setShape_78 rfl (lv_at hl 2 rfl) ?_
              refine lv_iconst (v := 1) hx hb dX10_setShape_79 (by decide) ?_
              refine lv_icmp_ne (tgt := 90) hx hb dX10_setShape_80 (by decide) (fun cc_18 => ?_) (fun cc_18 => ?_)
              · refine lv_iconst (v := 0) hx hb dX10_setShape_90 (by decide) ?_
                exact hk_zret (u := g) hx hb hr rfl hlocks (hw) (by simp only [Int32.lt_iff_toInt_lt, Int32.le_iff_toInt_le, ← Int32.toInt_inj, hk_t0, hk_t1, hk_t2, hk_t3, hk_t4, hk_t5, hk_t6, hk_t7, hk_t8, hk_t9, hk_t10, hk_t11, hk_t12, hk_t13, hk_t14, hk_t15, hk_t16, hk_t17, hk_t18, hk_t20, hk_t32, hk_tm1, hk_t256, hk_t1500, hk_t4096, hk_t2000, hk_t3000, hk_t512, hk_t1024, true_and, and_true, false_and, and_false, true_or, or_true, false_or, or_false, not_true_eq_false, not_false_eq_true] at cc_1 cc_2 cc_14 cc_15 cc_16 cc_17 cc_18 ⊢; omega) dX10_setShape_91
              · refine lv_aload_n hx hb dX10_setShape_83 rfl (lv_at hl 0 rfl) ?_
                refine lv_iload_n hx hb dX10_setShape_84 rfl (lv_at hl 2 rfl) ?_
                refine hk_put (ci := 13) (C := RX10) (T := TX10) (N := 10) (ty := .int) (v := .int v) hx hb hts iX10 tyX10 tyX10_ok nmX10 hown hw 1 rfl rfl 7 (by decide) (hts _ (List.mem_of_getElem? (i := 1) rfl)) rfl (by decide +kernel) rfl rfl (Nat.le_of_ble_eq_true rfl) dX10_setShape_85 (ws' := xw cI cJ ad (upd g 10 v) lg ar bk) rfl (fun H locs hw => ?_)
                refine lv_iconst (v := 1) hx hb dX10_setShape_88 (by decide) ?_
                exact hk_zret (u := (upd g 10 v)) hx hb hr rfl hlocks (hw) (by simp only [Int32.lt_iff_toInt_lt, Int32.le_iff_toInt_le, ← Int32.toInt_inj, hk_t0, hk_t1, hk_t2, hk_t3, hk_t4, hk_t5, hk_t6, hk_t7, hk_t8, hk_t9, hk_t10, hk_t11, hk_t12, hk_t13, hk_t14, hk_t15, hk_t16, hk_t17, hk_t18, hk_t20, hk_t32, hk_tm1, hk_t256, hk_t1500, hk_t4096, hk_t2000, hk_t3000, hk_t512, hk_t1024, true_and, and_true, false_and, and_false, true_or, or_true, false_or, or_false, not_true_eq_false, not_false_eq_true] at cc_1 cc_2 cc_14 cc_15 cc_16 cc_17 cc_18 ⊢; omega) dX10_setShape_89
        · refine lv_iload_n hx hb dX10_setShape_54 rfl (lv_at hl 2 rfl) ?_
          refine hk_Si (As := [.int v]) (rest := []) ⟨hx, hb, hml, hown, hts⟩ hw hA (cx_isKind l D cI cJ ad g lg ar bk _ v) (va_cwS 1 hts gw_cx_setShape_0 rfl rfl rfl (by decide +kernel) ⟨Nat.le_of_ble_eq_true rfl, Nat.le_of_ble_eq_true rfl⟩) rfl hl.1 rfl (Nat.le_of_ble_eq_true rfl) dX10_setShape_55 ⟨Nat.le_of_ble_eq_true rfl, Nat.le_of_ble_eq_true rfl⟩ (fun rr_19 uu_20 H locs hp_21 hw => ?_)
          have hw : hk_W D [(cI, .int), (cJ, .long)] _ s _ _ (xw cI cJ ad g lg ar bk) := hw
          refine lv_if_eq (tgt := 68) hx hb dX10_setShape_58 (by decide) (fun cc_22 => ?_) (fun cc_22 => ?_)
          · refine lv_iload_n hx hb dX10_setShape_68 rfl (lv_at hl 1 rfl) ?_
            refine lv_bipush (v := 7) hx hb dX10_setShape_69 (by decide) ?_
            refine lv_icmp_ne (tgt := 90) hx hb dX10_setShape_71 (by decide) (fun cc_23 => ?_) (fun cc_23 => ?_)
            · refine lv_iconst (v := 0) hx hb dX10_setShape_90 (by decide) ?_
              exact hk_zret (u := g) hx hb hr rfl hlocks (hw) (by simp only [Int32.lt_iff_toInt_lt, Int32.le_iff_toInt_le, ← Int32.toInt_inj, hk_t0, hk_t1, hk_t2, hk_t3, hk_t4, hk_t5, hk_t6, hk_t7, hk_t8, hk_t9, hk_t10, hk_t11, hk_t12, hk_t13, hk_t14, hk_t15, hk_t16, hk_t17, hk_t18, hk_t20, hk_t32, hk_tm1, hk_t256, hk_t1500, hk_t4096, hk_t2000, hk_t3000, hk_t512, hk_t1024, true_and, and_true, false_and, and_false, true_or, or_true, false_or, or_false, not_true_eq_false, not_false_eq_true] at cc_1 cc_2 cc_14 cc_15 cc_22 cc_23 hp_21 ⊢; omega) dX10_setShape_91
            · refine lv_iload_n hx hb dX10_setShape_74 rfl (lv_at hl 2 rfl) ?_
              refine lv_if_eq (tgt := 83) hx hb dX10_setShape_75 (by decide) (fun cc_24 => ?_) (fun cc_24 => ?_)
              · refine lv_aload_n hx hb dX10_setShape_83 rfl (lv_at hl 0 rfl) ?_
                refine lv_iload_n hx hb dX10_setShape_84 rfl (lv_at hl 2 rfl) ?_
                refine hk_put (ci := 13) (C := RX10) (T := TX10) (N := 10) (ty := .int) (v := .int v) hx hb hts iX10 tyX10 tyX10_ok nmX10 hown hw 1 rfl rfl 7 (by decide) (hts _ (List.mem_of_getElem? (i := 1) rfl)) rfl (by decide +kernel) rfl rfl (Nat.le_of_ble_eq_true rfl) dX10_setShape_85 (ws' := xw cI cJ ad (upd g 10 v) lg ar bk) rfl (fun H locs hw => ?_)
                refine lv_iconst (v := 1) hx hb dX10_setShape_88 (by decide) ?_
                exact hk_zret (u := (upd g 10 v)) hx hb hr rfl hlocks (hw) (by simp only [Int32.lt_iff_toInt_lt, Int32.le_iff_toInt_le, ← Int32.toInt_inj, hk_t0, hk_t1, hk_t2, hk_t3, hk_t4, hk_t5, hk_t6, hk_t7, hk_t8, hk_t9, hk_t10, hk_t11, hk_t12, hk_t13, hk_t14, hk_t15, hk_t16, hk_t17, hk_t18, hk_t20, hk_t32, hk_tm1, hk_t256, hk_t1500, hk_t4096, hk_t2000, hk_t3000, hk_t512, hk_t1024, true_and, and_true, false_and, and_false, true_or, or_true, false_or, or_false, not_true_eq_false, not_false_eq_true] at cc_1 cc_2 cc_14 cc_15 cc_22 cc_23 cc_24 hp_21 ⊢; omega) dX10_setShape_89
              · refine lv_iload_n hx hb dX10_setShape_78 rfl (lv_at hl 2 rfl) ?_
                refine lv_iconst (v := 1) hx hb dX10_setShape_79 (by decide) ?_
                refine lv_icmp_ne (tgt := 90) hx hb dX10_setShape_80 (by decide) (fun cc_25 => ?_) (fun cc_25 => ?_)
                · refine lv_iconst (v := 0) hx hb dX10_setShape_90 (by decide) ?_
                  exact hk_zret (u := g) hx hb hr rfl hlocks (hw) (by simp only [Int32.lt_iff_toInt_lt, Int32.le_iff_toInt_le, ← Int32.toInt_inj, hk_t0, hk_t1, hk_t2, hk_t3, hk_t4, hk_t5, hk_t6, hk_t7, hk_t8, hk_t9, hk_t10, hk_t11, hk_t12, hk_t13, hk_t14, hk_t15, hk_t16, hk_t17, hk_t18, hk_t20, hk_t32, hk_tm1, hk_t256, hk_t1500, hk_t4096, hk_t2000, hk_t3000, hk_t512, hk_t1024, true_and, and_true, false_and, and_false, true_or, or_true, false_or, or_false, not_true_eq_false, not_false_eq_true] at cc_1 cc_2 cc_14 cc_15 cc_22 cc_23 cc_24 cc_25 hp_21 ⊢; omega) dX10_setShape_91
                · refine lv_aload_n hx hb dX10_setShape_83 rfl (lv_at hl 0 rfl) ?_
                  refine lv_iload_n hx hb dX10_setShape_84 rfl (lv_at hl 2 rfl) ?_
                  refine hk_put (ci := 13) (C := RX10) (T := TX10) (N := 10) (ty := .int) (v := .int v) hx hb hts iX10 tyX10 tyX10_ok nmX10 hown hw 1 rfl rfl 7 (by decide) (hts _ (List.mem_of_getElem? (i := 1) rfl)) rfl (by decide +kernel) rfl rfl (Nat.le_of_ble_eq_true rfl) dX10_setShape_85 (ws' := xw cI cJ ad (upd g 10 v) lg ar bk) rfl (fun H locs hw => ?_)
                  refine lv_iconst (v := 1) hx hb dX10_setShape_88 (by decide) ?_
                  exact hk_zret (u := (upd g 10 v)) hx hb hr rfl hlocks (hw) (by simp only [Int32.lt_iff_toInt_lt, Int32.le_iff_toInt_le, ← Int32.toInt_inj, hk_t0, hk_t1, hk_t2, hk_t3, hk_t4, hk_t5, hk_t6, hk_t7, hk_t8, hk_t9, hk_t10, hk_t11, hk_t12, hk_t13, hk_t14, hk_t15, hk_t16, hk_t17, hk_t18, hk_t20, hk_t32, hk_tm1, hk_t256, hk_t1500, hk_t4096, hk_t2000, hk_t3000, hk_t512, hk_t1024, true_and, and_true, false_and, and_false, true_or, or_true, false_or, or_false, not_true_eq_false, not_false_eq_true] at cc_1 cc_2 cc_14 cc_15 cc_22 cc_23 cc_24 cc_25 hp_21 ⊢; omega) dX10_setShape_89
          · refine lv_aload_n hx hb dX10_setShape_61 rfl (lv_at hl 0 rfl) ?_
            refine lv_iload_n hx hb dX10_setShape_62 rfl (lv_at hl 2 rfl) ?_
            refine hk_put (ci := 13) (C := RX10) (T := TX10) (N := 10) (ty := .int) (v := .int v) hx hb hts iX10 tyX10 tyX10_ok nmX10 hown hw 1 rfl rfl 6 (by decide) (hts _ (List.mem_of_getElem? (i := 6) rfl)) rfl (by decide +kernel) rfl rfl (Nat.le_of_ble_eq_true rfl) dX10_setShape_63 (ws' := xw cI cJ ad (upd g 9 v) lg ar bk) rfl (fun H locs hw => ?_)
            refine lv_iconst (v := 1) hx hb dX10_setShape_66 (by decide) ?_
            exact hk_zret (u := (upd g 9 v)) hx hb hr rfl hlocks (hw) (by simp only [Int32.lt_iff_toInt_lt, Int32.le_iff_toInt_le, ← Int32.toInt_inj, hk_t0, hk_t1, hk_t2, hk_t3, hk_t4, hk_t5, hk_t6, hk_t7, hk_t8, hk_t9, hk_t10, hk_t11, hk_t12, hk_t13, hk_t14, hk_t15, hk_t16, hk_t17, hk_t18, hk_t20, hk_t32, hk_tm1, hk_t256, hk_t1500, hk_t4096, hk_t2000, hk_t3000, hk_t512, hk_t1024, true_and, and_true, false_and, and_false, true_or, or_true, false_or, or_false, not_true_eq_false, not_false_eq_true] at cc_1 cc_2 cc_14 cc_15 cc_22 hp_21 ⊢; omega) dX10_setShape_67
      · refine lv_iload_n hx hb dX10_setShape_34 rfl (lv_at hl 2 rfl) ?_
        refine lv_sipush (v := 1500) hx hb dX10_setShape_35 (by decide) ?_
        refine lv_icmp_gt (tgt := 48) hx hb dX10_setShape_38 (by decide) (fun cc_26 => ?_) (fun cc_26 => ?_)
        · refine lv_iload_n hx hb dX10_setShape_48 rfl (lv_at hl 1 rfl) ?_
          refine lv_bipush (v := 6) hx hb dX10_setShape_49 (by decide) ?_
          refine lv_icmp_ne (tgt := 68) hx hb dX10_setShape_51 (by decide) (fun cc_27 => ?_) (fun cc_27 => ?_)
          · refine lv_iload_n hx hb dX10_setShape_68 rfl (lv_at hl 1 rfl) ?_
            refine lv_bipush (v := 7) hx hb dX10_setShape_69 (by decide) ?_
            refine lv_icmp_ne (tgt := 90) hx hb dX10_setShape_71 (by decide) (fun cc_28 => ?_) (fun cc_28 => ?_)
            · refine lv_iconst (v := 0) hx hb dX10_setShape_90 (by decide) ?_
              exact hk_zret (u := g) hx hb hr rfl hlocks (hw) (by simp only [Int32.lt_iff_toInt_lt, Int32.le_iff_toInt_le, ← Int32.toInt_inj, hk_t0, hk_t1, hk_t2, hk_t3, hk_t4, hk_t5, hk_t6, hk_t7, hk_t8, hk_t9, hk_t10, hk_t11, hk_t12, hk_t13, hk_t14, hk_t15, hk_t16, hk_t17, hk_t18, hk_t20, hk_t32, hk_tm1, hk_t256, hk_t1500, hk_t4096, hk_t2000, hk_t3000, hk_t512, hk_t1024, true_and, and_true, false_and, and_false, true_or, or_true, false_or, or_false, not_true_eq_false, not_false_eq_true] at cc_1 cc_2 cc_14 cc_26 cc_27 cc_28 ⊢; omega) dX10_setShape_91
            · refine lv_iload_n hx hb dX10_setShape_74 rfl (lv_at hl 2 rfl) ?_
              refine lv_if_eq (tgt := 83) hx hb dX10_setShape_75 (by decide) (fun cc_29 => ?_) (fun cc_29 => ?_)
              · refine lv_aload_n hx hb dX10_setShape_83 rfl (lv_at hl 0 rfl) ?_
                refine lv_iload_n hx hb dX10_setShape_84 rfl (lv_at hl 2 rfl) ?_
                refine hk_put (ci := 13) (C := RX10) (T := TX10) (N := 10) (ty := .int) (v := .int v) hx hb hts iX10 tyX10 tyX10_ok nmX10 hown hw 1 rfl rfl 7 (by decide) (hts _ (List.mem_of_getElem? (i := 1) rfl)) rfl (by decide +kernel) rfl rfl (Nat.le_of_ble_eq_true rfl) dX10_setShape_85 (ws' := xw cI cJ ad (upd g 10 v) lg ar bk) rfl (fun H locs hw => ?_)
                refine lv_iconst (v := 1) hx hb dX10_setShape_88 (by decide) ?_
                exact hk_zret (u := (upd g 10 v)) hx hb hr rfl hlocks (hw) (by simp only [Int32.lt_iff_toInt_lt, Int32.le_iff_toInt_le, ← Int32.toInt_inj, hk_t0, hk_t1, hk_t2, hk_t3, hk_t4, hk_t5, hk_t6, hk_t7, hk_t8, hk_t9, hk_t10, hk_t11, hk_t12, hk_t13, hk_t14, hk_t15, hk_t16, hk_t17, hk_t18, hk_t20, hk_t32, hk_tm1, hk_t256, hk_t1500, hk_t4096, hk_t2000, hk_t3000, hk_t512, hk_t1024, true_and, and_true, false_and, and_false, true_or, or_true, false_or, or_false, not_true_eq_false, not_false_eq_true] at cc_1 cc_2 cc_14 cc_26 cc_27 cc_28 cc_29 ⊢; omega) dX10_setShape_89
              · refine lv_iload_n hx hb dX10_setShape_78 rfl (lv_at hl 2 rfl) ?_
                refine lv_iconst (v := 1) hx hb dX10_setShape_79 (by decide) ?_
                refine lv_icmp_ne (tgt := 90) hx hb dX10_setShape_80 (by decide) (fun cc_30 => ?_) (fun cc_30 => ?_)
                · refine lv_iconst (v := 0) hx hb dX10_setShape_90 (by decide) ?_
                  exact hk_zret (u := g) hx hb hr rfl hlocks (hw) (by simp only [Int32.lt_iff_toInt_lt, Int32.le_iff_toInt_le, ← Int32.toInt_inj, hk_t0, hk_t1, hk_t2, hk_t3, hk_t4, hk_t5, hk_t6, hk_t7, hk_t8, hk_t9, hk_t10, hk_t11, hk_t12, hk_t13, hk_t14, hk_t15, hk_t16, hk_t17, hk_t18, hk_t20, hk_t32, hk_tm1, hk_t256, hk_t1500, hk_t4096, hk_t2000, hk_t3000, hk_t512, hk_t1024, true_and, and_true, false_and, and_false, true_or, or_true, false_or, or_false, not_true_eq_false, not_false_eq_true] at cc_1 cc_2 cc_14 cc_26 cc_27 cc_28 cc_29 cc_30 ⊢; omega) dX10_setShape_91
                · refine lv_aload_n hx hb dX10_setShape_83 rfl (lv_at hl 0 rfl) ?_
                  refine lv_iload_n hx hb dX10_setShape_84 rfl (lv_at hl 2 rfl) ?_
                  refine hk_put (ci := 13) (C := RX10) (T := TX10) (N := 10) (ty := .int) (v := .int v) hx hb hts iX10 tyX10 tyX10_ok nmX10 hown hw 1 rfl rfl 7 (by decide) (hts _ (List.mem_of_getElem? (i := 1) rfl)) rfl (by decide +kernel) rfl rfl (Nat.le_of_ble_eq_true rfl) dX10_setShape_85 (ws' := xw cI cJ ad (upd g 10 v) lg ar bk) rfl (fun H locs hw => ?_)
                  refine lv_iconst (v := 1) hx hb dX10_setShape_88 (by decide) ?_
                  exact hk_zret (u := (upd g 10 v)) hx hb hr rfl hlocks (hw) (by simp only [Int32.lt_iff_toInt_lt, Int32.le_iff_toInt_le, ← Int32.toInt_inj, hk_t0, hk_t1, hk_t2, hk_t3, hk_t4, hk_t5, hk_t6, hk_t7, hk_t8, hk_t9, hk_t10, hk_t11, hk_t12, hk_t13, hk_t14, hk_t15, hk_t16, hk_t17, hk_t18, hk_t20, hk_t32, hk_tm1, hk_t256, hk_t1500, hk_t4096, hk_t2000, hk_t3000, hk_t512, hk_t1024, true_and, and_true, false_and, and_false, true_or, or_true, false_or, or_false, not_true_eq_false, not_false_eq_true] at cc_1 cc_2 cc_14 cc_26 cc_27 cc_28 cc_29 cc_30 ⊢; omega) dX10_setShape_89
          · refine lv_iload_n hx hb dX10_setShape_54 rfl (lv_at hl 2 rfl) ?_
            refine hk_Si (As := [.int v]) (rest := []) ⟨hx, hb, hml, hown, hts⟩ hw hA (cx_isKind l D cI cJ ad g lg ar bk _ v) (va_cwS 1 hts gw_cx_setShape_0 rfl rfl rfl (by decide +kernel) ⟨Nat.le_of_ble_eq_true rfl, Nat.le_of_ble_eq_true rfl⟩) rfl hl.1 rfl (Nat.le_of_ble_eq_true rfl) dX10_setShape_55 ⟨Nat.le_of_ble_eq_true rfl, Nat.le_of_ble_eq_true rfl⟩ (fun rr_31 uu_32 H locs hp_33 hw => ?_)
            have hw : hk_W D [(cI, .int), (cJ, .long)] _ s _ _ (xw cI cJ ad g lg ar bk) := hw
            refine lv_if_eq (tgt := 68) hx hb dX10_setShape_58 (by decide) (fun cc_34 => ?_) (fun cc_34 => ?_)
            · refine lv_iload_n hx hb dX10_setShape_68 rfl (lv_at hl 1 rfl) ?_
              refine lv_bipush (v := 7) hx hb dX10_setShape_69 (by decide) ?_
              refine lv_icmp_ne (tgt := 90) hx hb dX10_setShape_71 (by decide) (fun cc_35 => ?_) (fun cc_35 => ?_)
              · refine lv_iconst (v := 0) hx hb dX10_setShape_90 (by decide) ?_
                exact hk_zret (u := g) hx hb hr rfl hlocks (hw) (by simp only [Int32.lt_iff_toInt_lt, Int32.le_iff_toInt_le, ← Int32.toInt_inj, hk_t0, hk_t1, hk_t2, hk_t3, hk_t4, hk_t5, hk_t6, hk_t7, hk_t8, hk_t9, hk_t10, hk_t11, hk_t12, hk_t13, hk_t14, hk_t15, hk_t16, hk_t17, hk_t18, hk_t20, hk_t32, hk_tm1, hk_t256, hk_t1500, hk_t4096, hk_t2000, hk_t3000, hk_t512, hk_t1024, true_and, and_true, false_and, and_false, true_or, or_true, false_or, or_false, not_true_eq_false, not_false_eq_true] at cc_1 cc_2 cc_14 cc_26 cc_27 cc_34 cc_35 hp_33 ⊢; omega) dX10_setShape_91
              · refine lv_iload_n hx hb dX10_setShape_74 rfl (lv_at hl 2 rfl) ?_
                refine lv_if_eq (tgt := 83) hx hb dX10_setShape_75 (by decide) (fun cc_36 => ?_) (fun cc_36 => ?_)
                · refine lv_aload_n hx hb dX10_setShape_83 rfl (lv_at hl 0 rfl) ?_
                  refine lv_iload_n hx hb dX10_setShape_84 rfl (lv_at hl 2 rfl) ?_
                  refine hk_put (ci := 13) (C := RX10) (T := TX10) (N := 10) (ty := .int) (v := .int v) hx hb hts iX10 tyX10 tyX10_ok nmX10 hown hw 1 rfl rfl 7 (by decide) (hts _ (List.mem_of_getElem? (i := 1) rfl)) rfl (by decide +kernel) rfl rfl (Nat.le_of_ble_eq_true rfl) dX10_setShape_85 (ws' := xw cI cJ ad (upd g 10 v) lg ar bk) rfl (fun H locs hw => ?_)
                  refine lv_iconst (v := 1) hx hb dX10_setShape_88 (by decide) ?_
                  exact hk_zret (u := (upd g 10 v)) hx hb hr rfl hlocks (hw) (by simp only [Int32.lt_iff_toInt_lt, Int32.le_iff_toInt_le, ← Int32.toInt_inj, hk_t0, hk_t1, hk_t2, hk_t3, hk_t4, hk_t5, hk_t6, hk_t7, hk_t8, hk_t9, hk_t10, hk_t11, hk_t12, hk_t13, hk_t14, hk_t15, hk_t16, hk_t17, hk_t18, hk_t20, hk_t32, hk_tm1, hk_t256, hk_t1500, hk_t4096, hk_t2000, hk_t3000, hk_t512, hk_t1024, true_and, and_true, false_and, and_false, true_or, or_true, false_or, or_false, not_true_eq_false, not_false_eq_true] at cc_1 cc_2 cc_14 cc_26 cc_27 cc_34 cc_35 cc_36 hp_33 ⊢; omega) dX10_setShape_89
                · refine lv_iload_n hx hb dX10_setShape_78 rfl (lv_at hl 2 rfl) ?_
                  refine lv_iconst (v := 1) hx hb dX10_setShape_79 (by decide) ?_
                  refine lv_icmp_ne (tgt := 90) hx hb dX10_setShape_80 (by decide) (fun cc_37 => ?_) (fun cc_37 => ?_)
                  · refine lv_iconst (v := 0) hx hb dX10_setShape_90 (by decide) ?_
                    exact hk_zret (u := g) hx hb hr rfl hlocks (hw) (by simp only [Int32.lt_iff_toInt_lt, Int32.le_iff_toInt_le, ← Int32.toInt_inj, hk_t0, hk_t1, hk_t2, hk_t3, hk_t4, hk_t5, hk_t6, hk_t7, hk_t8, hk_t9, hk_t10, hk_t11, hk_t12, hk_t13, hk_t14, hk_t15, hk_t16, hk_t17, hk_t18, hk_t20, hk_t32, hk_tm1, hk_t256, hk_t1500, hk_t4096, hk_t2000, hk_t3000, hk_t512, hk_t1024, true_and, and_true, false_and, and_false, true_or, or_true, false_or, or_false, not_true_eq_false, not_false_eq_true] at cc_1 cc_2 cc_14 cc_26 cc_27 cc_34 cc_35 cc_36 cc_37 hp_33 ⊢; omega) dX10_setShape_91
                  · refine lv_aload_n hx hb dX10_setShape_83 rfl (lv_at hl 0 rfl) ?_
                    refine lv_iload_n hx hb dX10_setShape_84 rfl (lv_at hl 2 rfl) ?_
                    refine hk_put (ci := 13) (C := RX10) (T := TX10) (N := 10) (ty := .int) (v := .int v) hx hb hts iX10 tyX10 tyX10_ok nmX10 hown hw 1 rfl rfl 7 (by decide) (hts _ (List.mem_of_getElem? (i := 1) rfl)) rfl (by decide +kernel) rfl rfl (Nat.le_of_ble_eq_true rfl) dX10_setShape_85 (ws' := xw cI cJ ad (upd g 10 v) lg ar bk) rfl (fun H locs hw => ?_)
                    refine lv_iconst (v := 1) hx hb dX10_setShape_88 (by decide) ?_
                    exact hk_zret (u := (upd g 10 v)) hx hb hr rfl hlocks (hw) (by simp only [Int32.lt_iff_toInt_lt, Int32.le_iff_toInt_le, ← Int32.toInt_inj, hk_t0, hk_t1, hk_t2, hk_t3, hk_t4, hk_t5, hk_t6, hk_t7, hk_t8, hk_t9, hk_t10, hk_t11, hk_t12, hk_t13, hk_t14, hk_t15, hk_t16, hk_t17, hk_t18, hk_t20, hk_t32, hk_tm1, hk_t256, hk_t1500, hk_t4096, hk_t2000, hk_t3000, hk_t512, hk_t1024, true_and, and_true, false_and, and_false, true_or, or_true, false_or, or_false, not_true_eq_false, not_false_eq_true] at cc_1 cc_2 cc_14 cc_26 cc_27 cc_34 cc_35 cc_36 cc_37 hp_33 ⊢; omega) dX10_setShape_89
            · refine lv_aload_n hx hb dX10_setShape_61 rfl (lv_at hl 0 rfl) ?_
              refine lv_iload_n hx hb dX10_setShape_62 rfl (lv_at hl 2 rfl) ?_
              refine hk_put (ci := 13) (C := RX10) (T := TX10) (N := 10) (ty := .int) (v := .int v) hx hb hts iX10 tyX10 tyX10_ok nmX10 hown hw 1 rfl rfl 6 (by decide) (hts _ (List.mem_of_getElem? (i := 6) rfl)) rfl (by decide +kernel) rfl rfl (Nat.le_of_ble_eq_true rfl) dX10_setShape_63 (ws' := xw cI cJ ad (upd g 9 v) lg ar bk) rfl (fun H locs hw => ?_)
              refine lv_iconst (v := 1) hx hb dX10_setShape_66 (by decide) ?_
              exact hk_zret (u := (upd g 9 v)) hx hb hr rfl hlocks (hw) (by simp only [Int32.lt_iff_toInt_lt, Int32.le_iff_toInt_le, ← Int32.toInt_inj, hk_t0, hk_t1, hk_t2, hk_t3, hk_t4, hk_t5, hk_t6, hk_t7, hk_t8, hk_t9, hk_t10, hk_t11, hk_t12, hk_t13, hk_t14, hk_t15, hk_t16, hk_t17, hk_t18, hk_t20, hk_t32, hk_tm1, hk_t256, hk_t1500, hk_t4096, hk_t2000, hk_t3000, hk_t512, hk_t1024, true_and, and_true, false_and, and_false, true_or, or_true, false_or, or_false, not_true_eq_false, not_false_eq_true] at cc_1 cc_2 cc_14 cc_26 cc_27 cc_34 hp_33 ⊢; omega) dX10_setShape_67
        · refine lv_aload_n hx hb dX10_setShape_41 rfl (lv_at hl 0 rfl) ?_
          refine lv_iload_n hx hb dX10_setShape_42 rfl (lv_at hl 2 rfl) ?_
          refine hk_put (ci := 13) (C := RX10) (T := TX10) (N := 10) (ty := .int) (v := .int v) hx hb hts iX10 tyX10 tyX10_ok nmX10 hown hw 1 rfl rfl 5 (by decide) (hts _ (List.mem_of_getElem? (i := 7) rfl)) rfl (by decide +kernel) rfl rfl (Nat.le_of_ble_eq_true rfl) dX10_setShape_43 (ws' := xw cI cJ ad (upd g 8 v) lg ar bk) rfl (fun H locs hw => ?_)
          refine lv_iconst (v := 1) hx hb dX10_setShape_46 (by decide) ?_
          exact hk_zret (u := (upd g 8 v)) hx hb hr rfl hlocks (hw) (by simp only [Int32.lt_iff_toInt_lt, Int32.le_iff_toInt_le, ← Int32.toInt_inj, hk_t0, hk_t1, hk_t2, hk_t3, hk_t4, hk_t5, hk_t6, hk_t7, hk_t8, hk_t9, hk_t10, hk_t11, hk_t12, hk_t13, hk_t14, hk_t15, hk_t16, hk_t17, hk_t18, hk_t20, hk_t32, hk_tm1, hk_t256, hk_t1500, hk_t4096, hk_t2000, hk_t3000, hk_t512, hk_t1024, true_and, and_true, false_and, and_false, true_or, or_true, false_or, or_false, not_true_eq_false, not_false_eq_true] at cc_1 cc_2 cc_14 cc_26 ⊢; omega) dX10_setShape_47
  · refine lv_iload_n hx hb dX10_setShape_5 rfl (lv_at hl 2 rfl) ?_
    refine lv_iconst (v := 1) hx hb dX10_setShape_6 (by decide) ?_
    refine lv_icmp_lt (tgt := 24) hx hb dX10_setShape_7 (by decide) (fun cc_38 => ?_) (fun cc_38 => ?_)
    · refine lv_iload_n hx hb dX10_setShape_24 rfl (lv_at hl 1 rfl) ?_
      refine lv_iconst (v := 5) hx hb dX10_setShape_25 (by decide) ?_
      refine lv_icmp_ne (tgt := 48) hx hb dX10_setShape_26 (by decide) (fun cc_39 => ?_) (fun cc_39 => ?_)
      · refine lv_iload_n hx hb dX10_setShape_48 rfl (lv_at hl 1 rfl) ?_
        refine lv_bipush (v := 6) hx hb dX10_setShape_49 (by decide) ?_
        refine lv_icmp_ne (tgt := 68) hx hb dX10_setShape_51 (by decide) (fun cc_40 => ?_) (fun cc_40 => ?_)
        · refine lv_iload_n hx hb dX10_setShape_68 rfl (lv_at hl 1 rfl) ?_
          refine lv_bipush (v := 7) hx hb dX10_setShape_69 (by decide) ?_
          refine lv_icmp_ne (tgt := 90) hx hb dX10_setShape_71 (by decide) (fun cc_41 => ?_) (fun cc_41 => ?_)
          · refine lv_iconst (v := 0) hx hb dX10_setShape_90 (by decide) ?_
            exact hk_zret (u := g) hx hb hr rfl hlocks (hw) (by simp only [Int32.lt_iff_toInt_lt, Int32.le_iff_toInt_le, ← Int32.toInt_inj, hk_t0, hk_t1, hk_t2, hk_t3, hk_t4, hk_t5, hk_t6, hk_t7, hk_t8, hk_t9, hk_t10, hk_t11, hk_t12, hk_t13, hk_t14, hk_t15, hk_t16, hk_t17, hk_t18, hk_t20, hk_t32, hk_tm1, hk_t256, hk_t1500, hk_t4096, hk_t2000, hk_t3000, hk_t512, hk_t1024, true_and, and_true, false_and, and_false, true_or, or_true, false_or, or_false, not_true_eq_false, not_false_eq_true] at cc_1 cc_38 cc_39 cc_40 cc_41 ⊢; omega) dX10_setShape_91
          · refine lv_iload_n hx hb dX10_setShape_74 rfl (lv_at hl 2 rfl) ?_
            refine lv_if_eq (tgt := 83) hx hb dX10_setShape_75 (by decide) (fun cc_42 => ?_) (fun cc_42 => ?_)
            · refine lv_aload_n hx hb dX10_setShape_83 rfl (lv_at hl 0 rfl) ?_
              refine lv_iload_n hx hb dX10_setShape_84 rfl (lv_at hl 2 rfl) ?_
              refine hk_put (ci := 13) (C := RX10) (T := TX10) (N := 10) (ty := .int) (v := .int v) hx hb hts iX10 tyX10 tyX10_ok nmX10 hown hw 1 rfl rfl 7 (by decide) (hts _ (List.mem_of_getElem? (i := 1) rfl)) rfl (by decide +kernel) rfl rfl (Nat.le_of_ble_eq_true rfl) dX10_setShape_85 (ws' := xw cI cJ ad (upd g 10 v) lg ar bk) rfl (fun H locs hw => ?_)
              refine lv_iconst (v := 1) hx hb dX10_setShape_88 (by decide) ?_
              exact hk_zret (u := (upd g 10 v)) hx hb hr rfl hlocks (hw) (by simp only [Int32.lt_iff_toInt_lt, Int32.le_iff_toInt_le, ← Int32.toInt_inj, hk_t0, hk_t1, hk_t2, hk_t3, hk_t4, hk_t5, hk_t6, hk_t7, hk_t8, hk_t9, hk_t10, hk_t11, hk_t12, hk_t13, hk_t14, hk_t15, hk_t16, hk_t17, hk_t18, hk_t20, hk_t32, hk_tm1, hk_t256, hk_t1500, hk_t4096, hk_t2000, hk_t3000, hk_t512, hk_t1024, true_and, and_true, false_and, and_false, true_or, or_true, false_or, or_false, not_true_eq_false, not_false_eq_true] at cc_1 cc_38 cc_39 cc_40 cc_41 cc_42 ⊢; omega) dX10_setShape_89
            · refine lv_iload_n hx hb dX10_setShape_78 rfl (lv_at hl 2 rfl) ?_
              refine lv_iconst (v := 1) hx hb dX10_setShape_79 (by decide) ?_
              refine lv_icmp_ne (tgt := 90) hx hb dX10_setShape_80 (by decide) (fun cc_43 => ?_) (fun cc_43 => ?_)
              · refine lv_iconst (v := 0) hx hb dX10_setShape_90 (by decide) ?_
                exact hk_zret (u := g) hx hb hr rfl hlocks (hw) (by simp only [Int32.lt_iff_toInt_lt, Int32.le_iff_toInt_le, ← Int32.toInt_inj, hk_t0, hk_t1, hk_t2, hk_t3, hk_t4, hk_t5, hk_t6, hk_t7, hk_t8, hk_t9, hk_t10, hk_t11, hk_t12, hk_t13, hk_t14, hk_t15, hk_t16, hk_t17, hk_t18, hk_t20, hk_t32, hk_tm1, hk_t256, hk_t1500, hk_t4096, hk_t2000, hk_t3000, hk_t512, hk_t1024, true_and, and_true, false_and, and_false, true_or, or_true, false_or, or_false, not_true_eq_false, not_false_eq_true] at cc_1 cc_38 cc_39 cc_40 cc_41 cc_42 cc_43 ⊢; omega) dX10_setShape_91
              · refine lv_aload_n hx hb dX10_setShape_83 rfl (lv_at hl 0 rfl) ?_
                refine lv_iload_n hx hb dX10_setShape_84 rfl (lv_at hl 2 rfl) ?_
                refine hk_put (ci := 13) (C := RX10) (T := TX10) (N := 10) (ty := .int) (v := .int v) hx hb hts iX10 tyX10 tyX10_ok nmX10 hown hw 1 rfl rfl 7 (by decide) (hts _ (List.mem_of_getElem? (i := 1) rfl)) rfl (by decide +kernel) rfl rfl (Nat.le_of_ble_eq_true rfl) dX10_setShape_85 (ws' := xw cI cJ ad (upd g 10 v) lg ar bk) rfl (fun H locs hw => ?_)
                refine lv_iconst (v := 1) hx hb dX10_setShape_88 (by decide) ?_
                exact hk_zret (u := (upd g 10 v)) hx hb hr rfl hlocks (hw) (by simp only [Int32.lt_iff_toInt_lt, Int32.le_iff_toInt_le, ← Int32.toInt_inj, hk_t0, hk_t1, hk_t2, hk_t3, hk_t4, hk_t5, hk_t6, hk_t7, hk_t8, hk_t9, hk_t10, hk_t11, hk_t12, hk_t13, hk_t14, hk_t15, hk_t16, hk_t17, hk_t18, hk_t20, hk_t32, hk_tm1, hk_t256, hk_t1500, hk_t4096, hk_t2000, hk_t3000, hk_t512, hk_t1024, true_and, and_true, false_and, and_false, true_or, or_true, false_or, or_false, not_true_eq_false, not_false_eq_true] at cc_1 cc_38 cc_39 cc_40 cc_41 cc_42 cc_43 ⊢; omega) dX10_setShape_89
        · refine lv_iload_n hx hb dX10_setShape_54 rfl (lv_at hl 2 rfl) ?_
          refine hk_Si (As := [.int v]) (rest := []) ⟨hx, hb, hml, hown, hts⟩ hw hA (cx_isKind l D cI cJ ad g lg ar bk _ v) (va_cwS 1 hts gw_cx_setShape_0 rfl rfl rfl (by decide +kernel) ⟨Nat.le_of_ble_eq_true rfl, Nat.le_of_ble_eq_true rfl⟩) rfl hl.1 rfl (Nat.le_of_ble_eq_true rfl) dX10_setShape_55 ⟨Nat.le_of_ble_eq_true rfl, Nat.le_of_ble_eq_true rfl⟩ (fun rr_44 uu_45 H locs hp_46 hw => ?_)
          have hw : hk_W D [(cI, .int), (cJ, .long)] _ s _ _ (xw cI cJ ad g lg ar bk) := hw
          refine lv_if_eq (tgt := 68) hx hb dX10_setShape_58 (by decide) (fun cc_47 => ?_) (fun cc_47 => ?_)
          · refine lv_iload_n hx hb dX10_setShape_68 rfl (lv_at hl 1 rfl) ?_
            refine lv_bipush (v := 7) hx hb dX10_setShape_69 (by decide) ?_
            refine lv_icmp_ne (tgt := 90) hx hb dX10_setShape_71 (by decide) (fun cc_48 => ?_) (fun cc_48 => ?_)
            · refine lv_iconst (v := 0) hx hb dX10_setShape_90 (by decide) ?_
              exact hk_zret (u := g) hx hb hr rfl hlocks (hw) (by simp only [Int32.lt_iff_toInt_lt, Int32.le_iff_toInt_le, ← Int32.toInt_inj, hk_t0, hk_t1, hk_t2, hk_t3, hk_t4, hk_t5, hk_t6, hk_t7, hk_t8, hk_t9, hk_t10, hk_t11, hk_t12, hk_t13, hk_t14, hk_t15, hk_t16, hk_t17, hk_t18, hk_t20, hk_t32, hk_tm1, hk_t256, hk_t1500, hk_t4096, hk_t2000, hk_t3000, hk_t512, hk_t1024, true_and, and_true, false_and, and_false, true_or, or_true, false_or, or_false, not_true_eq_false, not_false_eq_true] at cc_1 cc_38 cc_39 cc_40 cc_47 cc_48 hp_46 ⊢; omega) dX10_setShape_91
            · refine lv_iload_n hx hb dX10_setShape_74 rfl (lv_at hl 2 rfl) ?_
              refine lv_if_eq (tgt := 83) hx hb dX10_setShape_75 (by decide) (fun cc_49 => ?_) (fun cc_49 => ?_)
              · refine lv_aload_n hx hb dX10_setShape_83 rfl (lv_at hl 0 rfl) ?_
                refine lv_iload_n hx hb dX10_setShape_84 rfl (lv_at hl 2 rfl) ?_
                refine hk_put (ci := 13) (C := RX10) (T := TX10) (N := 10) (ty := .int) (v := .int v) hx hb hts iX10 tyX10 tyX10_ok nmX10 hown hw 1 rfl rfl 7 (by decide) (hts _ (List.mem_of_getElem? (i := 1) rfl)) rfl (by decide +kernel) rfl rfl (Nat.le_of_ble_eq_true rfl) dX10_setShape_85 (ws' := xw cI cJ ad (upd g 10 v) lg ar bk) rfl (fun H locs hw => ?_)
                refine lv_iconst (v := 1) hx hb dX10_setShape_88 (by decide) ?_
                exact hk_zret (u := (upd g 10 v)) hx hb hr rfl hlocks (hw) (by simp only [Int32.lt_iff_toInt_lt, Int32.le_iff_toInt_le, ← Int32.toInt_inj, hk_t0, hk_t1, hk_t2, hk_t3, hk_t4, hk_t5, hk_t6, hk_t7, hk_t8, hk_t9, hk_t10, hk_t11, hk_t12, hk_t13, hk_t14, hk_t15, hk_t16, hk_t17, hk_t18, hk_t20, hk_t32, hk_tm1, hk_t256, hk_t1500, hk_t4096, hk_t2000, hk_t3000, hk_t512, hk_t1024, true_and, and_true, false_and, and_false, true_or, or_true, false_or, or_false, not_true_eq_false, not_false_eq_true] at cc_1 cc_38 cc_39 cc_40 cc_47 cc_48 cc_49 hp_46 ⊢; omega) dX10_setShape_89
              · refine lv_iload_n hx hb dX10_setShape_78 rfl (lv_at hl 2 rfl) ?_
                refine lv_iconst (v := 1) hx hb dX10_setShape_79 (by decide) ?_
                refine lv_icmp_ne (tgt := 90) hx hb dX10_setShape_80 (by decide) (fun cc_50 => ?_) (fun cc_50 => ?_)
                · refine lv_iconst (v := 0) hx hb dX10_setShape_90 (by decide) ?_
                  exact hk_zret (u := g) hx hb hr rfl hlocks (hw) (by simp only [Int32.lt_iff_toInt_lt, Int32.le_iff_toInt_le, ← Int32.toInt_inj, hk_t0, hk_t1, hk_t2, hk_t3, hk_t4, hk_t5, hk_t6, hk_t7, hk_t8, hk_t9, hk_t10, hk_t11, hk_t12, hk_t13, hk_t14, hk_t15, hk_t16, hk_t17, hk_t18, hk_t20, hk_t32, hk_tm1, hk_t256, hk_t1500, hk_t4096, hk_t2000, hk_t3000, hk_t512, hk_t1024, true_and, and_true, false_and, and_false, true_or, or_true, false_or, or_false, not_true_eq_false, not_false_eq_true] at cc_1 cc_38 cc_39 cc_40 cc_47 cc_48 cc_49 cc_50 hp_46 ⊢; omega) dX10_setShape_91
                · refine lv_aload_n hx hb dX10_setShape_83 rfl (lv_at hl 0 rfl) ?_
                  refine lv_iload_n hx hb dX10_setShape_84 rfl (lv_at hl 2 rfl) ?_
                  refine hk_put (ci := 13) (C := RX10) (T := TX10) (N := 10) (ty := .int) (v := .int v) hx hb hts iX10 tyX10 tyX10_ok nmX10 hown hw 1 rfl rfl 7 (by decide) (hts _ (List.mem_of_getElem? (i := 1) rfl)) rfl (by decide +kernel) rfl rfl (Nat.le_of_ble_eq_true rfl) dX10_setShape_85 (ws' := xw cI cJ ad (upd g 10 v) lg ar bk) rfl (fun H locs hw => ?_)
                  refine lv_iconst (v := 1) hx hb dX10_setShape_88 (by decide) ?_
                  exact hk_zret (u := (upd g 10 v)) hx hb hr rfl hlocks (hw) (by simp only [Int32.lt_iff_toInt_lt, Int32.le_iff_toInt_le, ← Int32.toInt_inj, hk_t0, hk_t1, hk_t2, hk_t3, hk_t4, hk_t5, hk_t6, hk_t7, hk_t8, hk_t9, hk_t10, hk_t11, hk_t12, hk_t13, hk_t14, hk_t15, hk_t16, hk_t17, hk_t18, hk_t20, hk_t32, hk_tm1, hk_t256, hk_t1500, hk_t4096, hk_t2000, hk_t3000, hk_t512, hk_t1024, true_and, and_true, false_and, and_false, true_or, or_true, false_or, or_false, not_true_eq_false, not_false_eq_true] at cc_1 cc_38 cc_39 cc_40 cc_47 cc_48 cc_49 cc_50 hp_46 ⊢; omega) dX10_setShape_89
          · refine lv_aload_n hx hb dX10_setShape_61 rfl (lv_at hl 0 rfl) ?_
            refine lv_iload_n hx hb dX10_setShape_62 rfl (lv_at hl 2 rfl) ?_
            refine hk_put (ci := 13) (C := RX10) (T := TX10) (N := 10) (ty := .int) (v := .int v) hx hb hts iX10 tyX10 tyX10_ok nmX10 hown hw 1 rfl rfl 6 (by decide) (hts _ (List.mem_of_getElem? (i := 6) rfl)) rfl (by decide +kernel) rfl rfl (Nat.le_of_ble_eq_true rfl) dX10_setShape_63 (ws' := xw cI cJ ad (upd g 9 v) lg ar bk) rfl (fun H locs hw => ?_)
            refine lv_iconst (v := 1) hx hb dX10_setShape_66 (by decide) ?_
            exact hk_zret (u := (upd g 9 v)) hx hb hr rfl hlocks (hw) (by simp only [Int32.lt_iff_toInt_lt, Int32.le_iff_toInt_le, ← Int32.toInt_inj, hk_t0, hk_t1, hk_t2, hk_t3, hk_t4, hk_t5, hk_t6, hk_t7, hk_t8, hk_t9, hk_t10, hk_t11, hk_t12, hk_t13, hk_t14, hk_t15, hk_t16, hk_t17, hk_t18, hk_t20, hk_t32, hk_tm1, hk_t256, hk_t1500, hk_t4096, hk_t2000, hk_t3000, hk_t512, hk_t1024, true_and, and_true, false_and, and_false, true_or, or_true, false_or, or_false, not_true_eq_false, not_false_eq_true] at cc_1 cc_38 cc_39 cc_40 cc_47 hp_46 ⊢; omega) dX10_setShape_67
      · refine lv_iload_n hx hb dX10_setShape_29 rfl (lv_at hl 2 rfl) ?_
        refine lv_iconst (v := 1) hx hb dX10_setShape_30 (by decide) ?_
        refine lv_icmp_lt (tgt := 48) hx hb dX10_setShape_31 (by decide) (fun cc_51 => ?_) (fun cc_51 => ?_)
        · refine lv_iload_n hx hb dX10_setShape_48 rfl (lv_at hl 1 rfl) ?_
          refine lv_bipush (v := 6) hx hb dX10_setShape_49 (by decide) ?_
          refine lv_icmp_ne (tgt := 68) hx hb dX10_setShape_51 (by decide) (fun cc_52 => ?_) (fun cc_52 => ?_)
          · refine lv_iload_n hx hb dX10_setShape_68 rfl (lv_at hl 1 rfl) ?_
            refine lv_bipush (v := 7) hx hb dX10_setShape_69 (by decide) ?_
            refine lv_icmp_ne (tgt := 90) hx hb dX10_setShape_71 (by decide) (fun cc_53 => ?_) (fun cc_53 => ?_)
            · refine lv_iconst (v := 0) hx hb dX10_setShape_90 (by decide) ?_
              exact hk_zret (u := g) hx hb hr rfl hlocks (hw) (by simp only [Int32.lt_iff_toInt_lt, Int32.le_iff_toInt_le, ← Int32.toInt_inj, hk_t0, hk_t1, hk_t2, hk_t3, hk_t4, hk_t5, hk_t6, hk_t7, hk_t8, hk_t9, hk_t10, hk_t11, hk_t12, hk_t13, hk_t14, hk_t15, hk_t16, hk_t17, hk_t18, hk_t20, hk_t32, hk_tm1, hk_t256, hk_t1500, hk_t4096, hk_t2000, hk_t3000, hk_t512, hk_t1024, true_and, and_true, false_and, and_false, true_or, or_true, false_or, or_false, not_true_eq_false, not_false_eq_true] at cc_1 cc_38 cc_39 cc_51 cc_52 cc_53 ⊢; omega) dX10_setShape_91
            · refine lv_iload_n hx hb dX10_setShape_74 rfl (lv_at hl 2 rfl) ?_
              refine lv_if_eq (tgt := 83) hx hb dX10_setShape_75 (by decide) (fun cc_54 => ?_) (fun cc_54 => ?_)
              · refine lv_aload_n hx hb dX10_setShape_83 rfl (lv_at hl 0 rfl) ?_
                refine lv_iload_n hx hb dX10_setShape_84 rfl (lv_at hl 2 rfl) ?_
                refine hk_put (ci := 13) (C := RX10) (T := TX10) (N := 10) (ty := .int) (v := .int v) hx hb hts iX10 tyX10 tyX10_ok nmX10 hown hw 1 rfl rfl 7 (by decide) (hts _ (List.mem_of_getElem? (i := 1) rfl)) rfl (by decide +kernel) rfl rfl (Nat.le_of_ble_eq_true rfl) dX10_setShape_85 (ws' := xw cI cJ ad (upd g 10 v) lg ar bk) rfl (fun H locs hw => ?_)
                refine lv_iconst (v := 1) hx hb dX10_setShape_88 (by decide) ?_
                exact hk_zret (u := (upd g 10 v)) hx hb hr rfl hlocks (hw) (by simp only [Int32.lt_iff_toInt_lt, Int32.le_iff_toInt_le, ← Int32.toInt_inj, hk_t0, hk_t1, hk_t2, hk_t3, hk_t4, hk_t5, hk_t6, hk_t7, hk_t8, hk_t9, hk_t10, hk_t11, hk_t12, hk_t13, hk_t14, hk_t15, hk_t16, hk_t17, hk_t18, hk_t20, hk_t32, hk_tm1, hk_t256, hk_t1500, hk_t4096, hk_t2000, hk_t3000, hk_t512, hk_t1024, true_and, and_true, false_and, and_false, true_or, or_true, false_or, or_false, not_true_eq_false, not_false_eq_true] at cc_1 cc_38 cc_39 cc_51 cc_52 cc_53 cc_54 ⊢; omega) dX10_setShape_89
              · refine lv_iload_n hx hb dX10_setShape_78 rfl (lv_at hl 2 rfl) ?_
                refine lv_iconst (v := 1) hx hb dX10_setShape_79 (by decide) ?_
                refine lv_icmp_ne (tgt := 90) hx hb dX10_setShape_80 (by decide) (fun cc_55 => ?_) (fun cc_55 => ?_)
                · refine lv_iconst (v := 0) hx hb dX10_setShape_90 (by decide) ?_
                  exact hk_zret (u := g) hx hb hr rfl hlocks (hw) (by simp only [Int32.lt_iff_toInt_lt, Int32.le_iff_toInt_le, ← Int32.toInt_inj, hk_t0, hk_t1, hk_t2, hk_t3, hk_t4, hk_t5, hk_t6, hk_t7, hk_t8, hk_t9, hk_t10, hk_t11, hk_t12, hk_t13, hk_t14, hk_t15, hk_t16, hk_t17, hk_t18, hk_t20, hk_t32, hk_tm1, hk_t256, hk_t1500, hk_t4096, hk_t2000, hk_t3000, hk_t512, hk_t1024, true_and, and_true, false_and, and_false, true_or, or_true, false_or, or_false, not_true_eq_false, not_false_eq_true] at cc_1 cc_38 cc_39 cc_51 cc_52 cc_53 cc_54 cc_55 ⊢; omega) dX10_setShape_91
                · refine lv_aload_n hx hb dX10_setShape_83 rfl (lv_at hl 0 rfl) ?_
                  refine lv_iload_n hx hb dX10_setShape_84 rfl (lv_at hl 2 rfl) ?_
                  refine hk_put (ci := 13) (C := RX10) (T := TX10) (N := 10) (ty := .int) (v := .int v) hx hb hts iX10 tyX10 tyX10_ok nmX10 hown hw 1 rfl rfl 7 (by decide) (hts _ (List.mem_of_getElem? (i := 1) rfl)) rfl (by decide +kernel) rfl rfl (Nat.le_of_ble_eq_true rfl) dX10_setShape_85 (ws' := xw cI cJ ad (upd g 10 v) lg ar bk) rfl (fun H locs hw => ?_)
                  refine lv_iconst (v := 1) hx hb dX10_setShape_88 (by decide) ?_
                  exact hk_zret (u := (upd g 10 v)) hx hb hr rfl hlocks (hw) (by simp only [Int32.lt_iff_toInt_lt, Int32.le_iff_toInt_le, ← Int32.toInt_inj, hk_t0, hk_t1, hk_t2, hk_t3, hk_t4, hk_t5, hk_t6, hk_t7, hk_t8, hk_t9, hk_t10, hk_t11, hk_t12, hk_t13, hk_t14, hk_t15, hk_t16, hk_t17, hk_t18, hk_t20, hk_t32, hk_tm1, hk_t256, hk_t1500, hk_t4096, hk_t2000, hk_t3000, hk_t512, hk_t1024, true_and, and_true, false_and, and_false, true_or, or_true, false_or, or_false, not_true_eq_false, not_false_eq_true] at cc_1 cc_38 cc_39 cc_51 cc_52 cc_53 cc_54 cc_55 ⊢; omega) dX10_setShape_89
          · refine lv_iload_n hx hb dX10_setShape_54 rfl (lv_at hl 2 rfl) ?_
            refine hk_Si (As := [.int v]) (rest := []) ⟨hx, hb, hml, hown, hts⟩ hw hA (cx_isKind l D cI cJ ad g lg ar bk _ v) (va_cwS 1 hts gw_cx_setShape_0 rfl rfl rfl (by decide +kernel) ⟨Nat.le_of_ble_eq_true rfl, Nat.le_of_ble_eq_true rfl⟩) rfl hl.1 rfl (Nat.le_of_ble_eq_true rfl) dX10_setShape_55 ⟨Nat.le_of_ble_eq_true rfl, Nat.le_of_ble_eq_true rfl⟩ (fun rr_56 uu_57 H locs hp_58 hw => ?_)
            have hw : hk_W D [(cI, .int), (cJ, .long)] _ s _ _ (xw cI cJ ad g lg ar bk) := hw
            refine lv_if_eq (tgt := 68) hx hb dX10_setShape_58 (by decide) (fun cc_59 => ?_) (fun cc_59 => ?_)
            · refine lv_iload_n hx hb dX10_setShape_68 rfl (lv_at hl 1 rfl) ?_
              refine lv_bipush (v := 7) hx hb dX10_setShape_69 (by decide) ?_
              refine lv_icmp_ne (tgt := 90) hx hb dX10_setShape_71 (by decide) (fun cc_60 => ?_) (fun cc_60 => ?_)
              · refine lv_iconst (v := 0) hx hb dX10_setShape_90 (by decide) ?_
                exact hk_zret (u := g) hx hb hr rfl hlocks (hw) (by simp only [Int32.lt_iff_toInt_lt, Int32.le_iff_toInt_le, ← Int32.toInt_inj, hk_t0, hk_t1, hk_t2, hk_t3, hk_t4, hk_t5, hk_t6, hk_t7, hk_t8, hk_t9, hk_t10, hk_t11, hk_t12, hk_t13, hk_t14, hk_t15, hk_t16, hk_t17, hk_t18, hk_t20, hk_t32, hk_tm1, hk_t256, hk_t1500, hk_t4096, hk_t2000, hk_t3000, hk_t512, hk_t1024, true_and, and_true, false_and, and_false, true_or, or_true, false_or, or_false, not_true_eq_false, not_false_eq_true] at cc_1 cc_38 cc_39 cc_51 cc_52 cc_59 cc_60 hp_58 ⊢; omega) dX10_setShape_91
              · refine lv_iload_n hx hb dX10_setShape_74 rfl (lv_at hl 2 rfl) ?_
                refine lv_if_eq (tgt := 83) hx hb dX10_setShape_75 (by decide) (fun cc_61 => ?_) (fun cc_61 => ?_)
                · refine lv_aload_n hx hb dX10_setShape_83 rfl (lv_at hl 0 rfl) ?_
                  refine lv_iload_n hx hb dX10_setShape_84 rfl (lv_at hl 2 rfl) ?_
                  refine hk_put (ci := 13) (C := RX10) (T := TX10) (N := 10) (ty := .int) (v := .int v) hx hb hts iX10 tyX10 tyX10_ok nmX10 hown hw 1 rfl rfl 7 (by decide) (hts _ (List.mem_of_getElem? (i := 1) rfl)) rfl (by decide +kernel) rfl rfl (Nat.le_of_ble_eq_true rfl) dX10_setShape_85 (ws' := xw cI cJ ad (upd g 10 v) lg ar bk) rfl (fun H locs hw => ?_)
                  refine lv_iconst (v := 1) hx hb dX10_setShape_88 (by decide) ?_
                  exact hk_zret (u := (upd g 10 v)) hx hb hr rfl hlocks (hw) (by simp only [Int32.lt_iff_toInt_lt, Int32.le_iff_toInt_le, ← Int32.toInt_inj, hk_t0, hk_t1, hk_t2, hk_t3, hk_t4, hk_t5, hk_t6, hk_t7, hk_t8, hk_t9, hk_t10, hk_t11, hk_t12, hk_t13, hk_t14, hk_t15, hk_t16, hk_t17, hk_t18, hk_t20, hk_t32, hk_tm1, hk_t256, hk_t1500, hk_t4096, hk_t2000, hk_t3000, hk_t512, hk_t1024, true_and, and_true, false_and, and_false, true_or, or_true, false_or, or_false, not_true_eq_false, not_false_eq_true] at cc_1 cc_38 cc_39 cc_51 cc_52 cc_59 cc_60 cc_61 hp_58 ⊢; omega) dX10_setShape_89
                · refine lv_iload_n hx hb dX10_setShape_78 rfl (lv_at hl 2 rfl) ?_
                  refine lv_iconst (v := 1) hx hb dX10_setShape_79 (by decide) ?_
                  refine lv_icmp_ne (tgt := 90) hx hb dX10_setShape_80 (by decide) (fun cc_62 => ?_) (fun cc_62 => ?_)
                  · refine lv_iconst (v := 0) hx hb dX10_setShape_90 (by decide) ?_
                    exact hk_zret (u := g) hx hb hr rfl hlocks (hw) (by simp only [Int32.lt_iff_toInt_lt, Int32.le_iff_toInt_le, ← Int32.toInt_inj, hk_t0, hk_t1, hk_t2, hk_t3, hk_t4, hk_t5, hk_t6, hk_t7, hk_t8, hk_t9, hk_t10, hk_t11, hk_t12, hk_t13, hk_t14, hk_t15, hk_t16, hk_t17, hk_t18, hk_t20, hk_t32, hk_tm1, hk_t256, hk_t1500, hk_t4096, hk_t2000, hk_t3000, hk_t512, hk_t1024, true_and, and_true, false_and, and_false, true_or, or_true, false_or, or_false, not_true_eq_false, not_false_eq_true] at cc_1 cc_38 cc_39 cc_51 cc_52 cc_59 cc_60 cc_61 cc_62 hp_58 ⊢; omega) dX10_setShape_91
                  · refine lv_aload_n hx hb dX10_setShape_83 rfl (lv_at hl 0 rfl) ?_
                    refine lv_iload_n hx hb dX10_setShape_84 rfl (lv_at hl 2 rfl) ?_
                    refine hk_put (ci := 13) (C := RX10) (T := TX10) (N := 10) (ty := .int) (v := .int v) hx hb hts iX10 tyX10 tyX10_ok nmX10 hown hw 1 rfl rfl 7 (by decide) (hts _ (List.mem_of_getElem? (i := 1) rfl)) rfl (by decide +kernel) rfl rfl (Nat.le_of_ble_eq_true rfl) dX10_setShape_85 (ws' := xw cI cJ ad (upd g 10 v) lg ar bk) rfl (fun H locs hw => ?_)
                    refine lv_iconst (v := 1) hx hb dX10_setShape_88 (by decide) ?_
                    exact hk_zret (u := (upd g 10 v)) hx hb hr rfl hlocks (hw) (by simp only [Int32.lt_iff_toInt_lt, Int32.le_iff_toInt_le, ← Int32.toInt_inj, hk_t0, hk_t1, hk_t2, hk_t3, hk_t4, hk_t5, hk_t6, hk_t7, hk_t8, hk_t9, hk_t10, hk_t11, hk_t12, hk_t13, hk_t14, hk_t15, hk_t16, hk_t17, hk_t18, hk_t20, hk_t32, hk_tm1, hk_t256, hk_t1500, hk_t4096, hk_t2000, hk_t3000, hk_t512, hk_t1024, true_and, and_true, false_and, and_false, true_or, or_true, false_or, or_false, not_true_eq_false, not_false_eq_true] at cc_1 cc_38 cc_39 cc_51 cc_52 cc_59 cc_60 cc_61 cc_62 hp_58 ⊢; omega) dX10_setShape_89
            · refine lv_aload_n hx hb dX10_setShape_61 rfl (lv_at hl 0 rfl) ?_
              refine lv_iload_n hx hb dX10_setShape_62 rfl (lv_at hl 2 rfl) ?_
              refine hk_put (ci := 13) (C := RX10) (T := TX10) (N := 10) (ty := .int) (v := .int v) hx hb hts iX10 tyX10 tyX10_ok nmX10 hown hw 1 rfl rfl 6 (by decide) (hts _ (List.mem_of_getElem? (i := 6) rfl)) rfl (by decide +kernel) rfl rfl (Nat.le_of_ble_eq_true rfl) dX10_setShape_63 (ws' := xw cI cJ ad (upd g 9 v) lg ar bk) rfl (fun H locs hw => ?_)
              refine lv_iconst (v := 1) hx hb dX10_setShape_66 (by decide) ?_
              exact hk_zret (u := (upd g 9 v)) hx hb hr rfl hlocks (hw) (by simp only [Int32.lt_iff_toInt_lt, Int32.le_iff_toInt_le, ← Int32.toInt_inj, hk_t0, hk_t1, hk_t2, hk_t3, hk_t4, hk_t5, hk_t6, hk_t7, hk_t8, hk_t9, hk_t10, hk_t11, hk_t12, hk_t13, hk_t14, hk_t15, hk_t16, hk_t17, hk_t18, hk_t20, hk_t32, hk_tm1, hk_t256, hk_t1500, hk_t4096, hk_t2000, hk_t3000, hk_t512, hk_t1024, true_and, and_true, false_and, and_false, true_or, or_true, false_or, or_false, not_true_eq_false, not_false_eq_true] at cc_1 cc_38 cc_39 cc_51 cc_52 cc_59 hp_58 ⊢; omega) dX10_setShape_67
        · refine lv_iload_n hx hb dX10_setShape_34 rfl (lv_at hl 2 rfl) ?_
          refine lv_sipush (v := 1500) hx hb dX10_setShape_35 (by decide) ?_
          refine lv_icmp_gt (tgt := 48) hx hb dX10_setShape_38 (by decide) (fun cc_63 => ?_) (fun cc_63 => ?_)
          · refine lv_iload_n hx hb dX10_setShape_48 rfl (lv_at hl 1 rfl) ?_
            refine lv_bipush (v := 6) hx hb dX10_setShape_49 (by decide) ?_
            refine lv_icmp_ne (tgt := 68) hx hb dX10_setShape_51 (by decide) (fun cc_64 => ?_) (fun cc_64 => ?_)
            · refine lv_iload_n hx hb dX10_setShape_68 rfl (lv_at hl 1 rfl) ?_
              refine lv_bipush (v := 7) hx hb dX10_setShape_69 (by decide) ?_
              refine lv_icmp_ne (tgt := 90) hx hb dX10_setShape_71 (by decide) (fun cc_65 => ?_) (fun cc_65 => ?_)
              · refine lv_iconst (v := 0) hx hb dX10_setShape_90 (by decide) ?_
                exact hk_zret (u := g) hx hb hr rfl hlocks (hw) (by simp only [Int32.lt_iff_toInt_lt, Int32.le_iff_toInt_le, ← Int32.toInt_inj, hk_t0, hk_t1, hk_t2, hk_t3, hk_t4, hk_t5, hk_t6, hk_t7, hk_t8, hk_t9, hk_t10, hk_t11, hk_t12, hk_t13, hk_t14, hk_t15, hk_t16, hk_t17, hk_t18, hk_t20, hk_t32, hk_tm1, hk_t256, hk_t1500, hk_t4096, hk_t2000, hk_t3000, hk_t512, hk_t1024, true_and, and_true, false_and, and_false, true_or, or_true, false_or, or_false, not_true_eq_false, not_false_eq_true] at cc_1 cc_38 cc_39 cc_51 cc_63 cc_64 cc_65 ⊢; omega) dX10_setShape_91
              · refine lv_iload_n hx hb dX10_setShape_74 rfl (lv_at hl 2 rfl) ?_
                refine lv_if_eq (tgt := 83) hx hb dX10_setShape_75 (by decide) (fun cc_66 => ?_) (fun cc_66 => ?_)
                · refine lv_aload_n hx hb dX10_setShape_83 rfl (lv_at hl 0 rfl) ?_
                  refine lv_iload_n hx hb dX10_setShape_84 rfl (lv_at hl 2 rfl) ?_
                  refine hk_put (ci := 13) (C := RX10) (T := TX10) (N := 10) (ty := .int) (v := .int v) hx hb hts iX10 tyX10 tyX10_ok nmX10 hown hw 1 rfl rfl 7 (by decide) (hts _ (List.mem_of_getElem? (i := 1) rfl)) rfl (by decide +kernel) rfl rfl (Nat.le_of_ble_eq_true rfl) dX10_setShape_85 (ws' := xw cI cJ ad (upd g 10 v) lg ar bk) rfl (fun H locs hw => ?_)
                  refine lv_iconst (v := 1) hx hb dX10_setShape_88 (by decide) ?_
                  exact hk_zret (u := (upd g 10 v)) hx hb hr rfl hlocks (hw) (by simp only [Int32.lt_iff_toInt_lt, Int32.le_iff_toInt_le, ← Int32.toInt_inj, hk_t0, hk_t1, hk_t2, hk_t3, hk_t4, hk_t5, hk_t6, hk_t7, hk_t8, hk_t9, hk_t10, hk_t11, hk_t12, hk_t13, hk_t14, hk_t15, hk_t16, hk_t17, hk_t18, hk_t20, hk_t32, hk_tm1, hk_t256, hk_t1500, hk_t4096, hk_t2000, hk_t3000, hk_t512, hk_t1024, true_and, and_true, false_and, and_false, true_or, or_true, false_or, or_false, not_true_eq_false, not_false_eq_true] at cc_1 cc_38 cc_39 cc_51 cc_63 cc_64 cc_65 cc_66 ⊢; omega) dX10_setShape_89
                · refine lv_iload_n hx hb dX10_setShape_78 rfl (lv_at hl 2 rfl) ?_
                  refine lv_iconst (v := 1) hx hb dX10_setShape_79 (by decide) ?_
                  refine lv_icmp_ne (tgt := 90) hx hb dX10_setShape_80 (by decide) (fun cc_67 => ?_) (fun cc_67 => ?_)
                  · refine lv_iconst (v := 0) hx hb dX10_setShape_90 (by decide) ?_
                    exact hk_zret (u := g) hx hb hr rfl hlocks (hw) (by simp only [Int32.lt_iff_toInt_lt, Int32.le_iff_toInt_le, ← Int32.toInt_inj, hk_t0, hk_t1, hk_t2, hk_t3, hk_t4, hk_t5, hk_t6, hk_t7, hk_t8, hk_t9, hk_t10, hk_t11, hk_t12, hk_t13, hk_t14, hk_t15, hk_t16, hk_t17, hk_t18, hk_t20, hk_t32, hk_tm1, hk_t256, hk_t1500, hk_t4096, hk_t2000, hk_t3000, hk_t512, hk_t1024, true_and, and_true, false_and, and_false, true_or, or_true, false_or, or_false, not_true_eq_false, not_false_eq_true] at cc_1 cc_38 cc_39 cc_51 cc_63 cc_64 cc_65 cc_66 cc_67 ⊢; omega) dX10_setShape_91
                  · refine lv_aload_n hx hb dX10_setShape_83 rfl (lv_at hl 0 rfl) ?_
                    refine lv_iload_n hx hb dX10_setShape_84 rfl (lv_at hl 2 rfl) ?_
                    refine hk_put (ci := 13) (C := RX10) (T := TX10) (N := 10) (ty := .int) (v := .int v) hx hb hts iX10 tyX10 tyX10_ok nmX10 hown hw 1 rfl rfl 7 (by decide) (hts _ (List.mem_of_getElem? (i := 1) rfl)) rfl (by decide +kernel) rfl rfl (Nat.le_of_ble_eq_true rfl) dX10_setShape_85 (ws' := xw cI cJ ad (upd g 10 v) lg ar bk) rfl (fun H locs hw => ?_)
                    refine lv_iconst (v := 1) hx hb dX10_setShape_88 (by decide) ?_
                    exact hk_zret (u := (upd g 10 v)) hx hb hr rfl hlocks (hw) (by simp only [Int32.lt_iff_toInt_lt, Int32.le_iff_toInt_le, ← Int32.toInt_inj, hk_t0, hk_t1, hk_t2, hk_t3, hk_t4, hk_t5, hk_t6, hk_t7, hk_t8, hk_t9, hk_t10, hk_t11, hk_t12, hk_t13, hk_t14, hk_t15, hk_t16, hk_t17, hk_t18, hk_t20, hk_t32, hk_tm1, hk_t256, hk_t1500, hk_t4096, hk_t2000, hk_t3000, hk_t512, hk_t1024, true_and, and_true, false_and, and_false, true_or, or_true, false_or, or_false, not_true_eq_false, not_false_eq_true] at cc_1 cc_38 cc_39 cc_51 cc_63 cc_64 cc_65 cc_66 cc_67 ⊢; omega) dX10_setShape_89
            · refine lv_iload_n hx hb dX10_setShape_54 rfl (lv_at hl 2 rfl) ?_
              refine hk_Si (As := [.int v]) (rest := []) ⟨hx, hb, hml, hown, hts⟩ hw hA (cx_isKind l D cI cJ ad g lg ar bk _ v) (va_cwS 1 hts gw_cx_setShape_0 rfl rfl rfl (by decide +kernel) ⟨Nat.le_of_ble_eq_true rfl, Nat.le_of_ble_eq_true rfl⟩) rfl hl.1 rfl (Nat.le_of_ble_eq_true rfl) dX10_setShape_55 ⟨Nat.le_of_ble_eq_true rfl, Nat.le_of_ble_eq_true rfl⟩ (fun rr_68 uu_69 H locs hp_70 hw => ?_)
              have hw : hk_W D [(cI, .int), (cJ, .long)] _ s _ _ (xw cI cJ ad g lg ar bk) := hw
              refine lv_if_eq (tgt := 68) hx hb dX10_setShape_58 (by decide) (fun cc_71 => ?_) (fun cc_71 => ?_)
              · refine lv_iload_n hx hb dX10_setShape_68 rfl (lv_at hl 1 rfl) ?_
                refine lv_bipush (v := 7) hx hb dX10_setShape_69 (by decide) ?_
                refine lv_icmp_ne (tgt := 90) hx hb dX10_setShape_71 (by decide) (fun cc_72 => ?_) (fun cc_72 => ?_)
                · refine lv_iconst (v := 0) hx hb dX10_setShape_90 (by decide) ?_
                  exact hk_zret (u := g) hx hb hr rfl hlocks (hw) (by simp only [Int32.lt_iff_toInt_lt, Int32.le_iff_toInt_le, ← Int32.toInt_inj, hk_t0, hk_t1, hk_t2, hk_t3, hk_t4, hk_t5, hk_t6, hk_t7, hk_t8, hk_t9, hk_t10, hk_t11, hk_t12, hk_t13, hk_t14, hk_t15, hk_t16, hk_t17, hk_t18, hk_t20, hk_t32, hk_tm1, hk_t256, hk_t1500, hk_t4096, hk_t2000, hk_t3000, hk_t512, hk_t1024, true_and, and_true, false_and, and_false, true_or, or_true, false_or, or_false, not_true_eq_false, not_false_eq_true] at cc_1 cc_38 cc_39 cc_51 cc_63 cc_64 cc_71 cc_72 hp_70 ⊢; omega) dX10_setShape_91
                · refine lv_iload_n hx hb dX10_setShape_74 rfl (lv_at hl 2 rfl) ?_
                  refine lv_if_eq (tgt := 83) hx hb dX10_setShape_75 (by decide) (fun cc_73 => ?_) (fun cc_73 => ?_)
                  · refine lv_aload_n hx hb dX10_setShape_83 rfl (lv_at hl 0 rfl) ?_
                    refine lv_iload_n hx hb dX10_setShape_84 rfl (lv_at hl 2 rfl) ?_
                    refine hk_put (ci := 13) (C := RX10) (T := TX10) (N := 10) (ty := .int) (v := .int v) hx hb hts iX10 tyX10 tyX10_ok nmX10 hown hw 1 rfl rfl 7 (by decide) (hts _ (List.mem_of_getElem? (i := 1) rfl)) rfl (by decide +kernel) rfl rfl (Nat.le_of_ble_eq_true rfl) dX10_setShape_85 (ws' := xw cI cJ ad (upd g 10 v) lg ar bk) rfl (fun H locs hw => ?_)
                    refine lv_iconst (v := 1) hx hb dX10_setShape_88 (by decide) ?_
                    exact hk_zret (u := (upd g 10 v)) hx hb hr rfl hlocks (hw) (by simp only [Int32.lt_iff_toInt_lt, Int32.le_iff_toInt_le, ← Int32.toInt_inj, hk_t0, hk_t1, hk_t2, hk_t3, hk_t4, hk_t5, hk_t6, hk_t7, hk_t8, hk_t9, hk_t10, hk_t11, hk_t12, hk_t13, hk_t14, hk_t15, hk_t16, hk_t17, hk_t18, hk_t20, hk_t32, hk_tm1, hk_t256, hk_t1500, hk_t4096, hk_t2000, hk_t3000, hk_t512, hk_t1024, true_and, and_true, false_and, and_false, true_or, or_true, false_or, or_false, not_true_eq_false, not_false_eq_true] at cc_1 cc_38 cc_39 cc_51 cc_63 cc_64 cc_71 cc_72 cc_73 hp_70 ⊢; omega) dX10_setShape_89
                  · refine lv_iload_n hx hb dX10_setShape_78 rfl (lv_at hl 2 rfl) ?_
                    refine lv_iconst (v := 1) hx hb dX10_setShape_79 (by decide) ?_
                    refine lv_icmp_ne (tgt := 90) hx hb dX10_setShape_80 (by decide) (fun cc_74 => ?_) (fun cc_74 => ?_)
                    · refine lv_iconst (v := 0) hx hb dX10_setShape_90 (by decide) ?_
                      exact hk_zret (u := g) hx hb hr rfl hlocks (hw) (by simp only [Int32.lt_iff_toInt_lt, Int32.le_iff_toInt_le, ← Int32.toInt_inj, hk_t0, hk_t1, hk_t2, hk_t3, hk_t4, hk_t5, hk_t6, hk_t7, hk_t8, hk_t9, hk_t10, hk_t11, hk_t12, hk_t13, hk_t14, hk_t15, hk_t16, hk_t17, hk_t18, hk_t20, hk_t32, hk_tm1, hk_t256, hk_t1500, hk_t4096, hk_t2000, hk_t3000, hk_t512, hk_t1024, true_and, and_true, false_and, and_false, true_or, or_true, false_or, or_false, not_true_eq_false, not_false_eq_true] at cc_1 cc_38 cc_39 cc_51 cc_63 cc_64 cc_71 cc_72 cc_73 cc_74 hp_70 ⊢; omega) dX10_setShape_91
                    · refine lv_aload_n hx hb dX10_setShape_83 rfl (lv_at hl 0 rfl) ?_
                      refine lv_iload_n hx hb dX10_setShape_84 rfl (lv_at hl 2 rfl) ?_
                      refine hk_put (ci := 13) (C := RX10) (T := TX10) (N := 10) (ty := .int) (v := .int v) hx hb hts iX10 tyX10 tyX10_ok nmX10 hown hw 1 rfl rfl 7 (by decide) (hts _ (List.mem_of_getElem? (i := 1) rfl)) rfl (by decide +kernel) rfl rfl (Nat.le_of_ble_eq_true rfl) dX10_setShape_85 (ws' := xw cI cJ ad (upd g 10 v) lg ar bk) rfl (fun H locs hw => ?_)
                      refine lv_iconst (v := 1) hx hb dX10_setShape_88 (by decide) ?_
                      exact hk_zret (u := (upd g 10 v)) hx hb hr rfl hlocks (hw) (by simp only [Int32.lt_iff_toInt_lt, Int32.le_iff_toInt_le, ← Int32.toInt_inj, hk_t0, hk_t1, hk_t2, hk_t3, hk_t4, hk_t5, hk_t6, hk_t7, hk_t8, hk_t9, hk_t10, hk_t11, hk_t12, hk_t13, hk_t14, hk_t15, hk_t16, hk_t17, hk_t18, hk_t20, hk_t32, hk_tm1, hk_t256, hk_t1500, hk_t4096, hk_t2000, hk_t3000, hk_t512, hk_t1024, true_and, and_true, false_and, and_false, true_or, or_true, false_or, or_false, not_true_eq_false, not_false_eq_true] at cc_1 cc_38 cc_39 cc_51 cc_63 cc_64 cc_71 cc_72 cc_73 cc_74 hp_70 ⊢; omega) dX10_setShape_89
              · refine lv_aload_n hx hb dX10_setShape_61 rfl (lv_at hl 0 rfl) ?_
                refine lv_iload_n hx hb dX10_setShape_62 rfl (lv_at hl 2 rfl) ?_
                refine hk_put (ci := 13) (C := RX10) (T := TX10) (N := 10) (ty := .int) (v := .int v) hx hb hts iX10 tyX10 tyX10_ok nmX10 hown hw 1 rfl rfl 6 (by decide) (hts _ (List.mem_of_getElem? (i := 6) rfl)) rfl (by decide +kernel) rfl rfl (Nat.le_of_ble_eq_true rfl) dX10_setShape_63 (ws' := xw cI cJ ad (upd g 9 v) lg ar bk) rfl (fun H locs hw => ?_)
                refine lv_iconst (v := 1) hx hb dX10_setShape_66 (by decide) ?_
                exact hk_zret (u := (upd g 9 v)) hx hb hr rfl hlocks (hw) (by simp only [Int32.lt_iff_toInt_lt, Int32.le_iff_toInt_le, ← Int32.toInt_inj, hk_t0, hk_t1, hk_t2, hk_t3, hk_t4, hk_t5, hk_t6, hk_t7, hk_t8, hk_t9, hk_t10, hk_t11, hk_t12, hk_t13, hk_t14, hk_t15, hk_t16, hk_t17, hk_t18, hk_t20, hk_t32, hk_tm1, hk_t256, hk_t1500, hk_t4096, hk_t2000, hk_t3000, hk_t512, hk_t1024, true_and, and_true, false_and, and_false, true_or, or_true, false_or, or_false, not_true_eq_false, not_false_eq_true] at cc_1 cc_38 cc_39 cc_51 cc_63 cc_64 cc_71 hp_70 ⊢; omega) dX10_setShape_67
          · refine lv_aload_n hx hb dX10_setShape_41 rfl (lv_at hl 0 rfl) ?_
            refine lv_iload_n hx hb dX10_setShape_42 rfl (lv_at hl 2 rfl) ?_
            refine hk_put (ci := 13) (C := RX10) (T := TX10) (N := 10) (ty := .int) (v := .int v) hx hb hts iX10 tyX10 tyX10_ok nmX10 hown hw 1 rfl rfl 5 (by decide) (hts _ (List.mem_of_getElem? (i := 7) rfl)) rfl (by decide +kernel) rfl rfl (Nat.le_of_ble_eq_true rfl) dX10_setShape_43 (ws' := xw cI cJ ad (upd g 8 v) lg ar bk) rfl (fun H locs hw => ?_)
            refine lv_iconst (v := 1) hx hb dX10_setShape_46 (by decide) ?_
            exact hk_zret (u := (upd g 8 v)) hx hb hr rfl hlocks (hw) (by simp only [Int32.lt_iff_toInt_lt, Int32.le_iff_toInt_le, ← Int32.toInt_inj, hk_t0, hk_t1, hk_t2, hk_t3, hk_t4, hk_t5, hk_t6, hk_t7, hk_t8, hk_t9, hk_t10, hk_t11, hk_t12, hk_t13, hk_t14, hk_t15, hk_t16, hk_t17, hk_t18, hk_t20, hk_t32, hk_tm1, hk_t256, hk_t1500, hk_t4096, hk_t2000, hk_t3000, hk_t512, hk_t1024, true_and, and_true, false_and, and_false, true_or, or_true, false_or, or_false, not_true_eq_false, not_false_eq_true] at cc_1 cc_38 cc_39 cc_51 cc_63 ⊢; omega) dX10_setShape_47
    · refine lv_iload_n hx hb dX10_setShape_10 rfl (lv_at hl 2 rfl) ?_
      refine lv_sipush (v := 1500) hx hb dX10_setShape_11 (by decide) ?_
      refine lv_icmp_gt (tgt := 24) hx hb dX10_setShape_14 (by decide) (fun cc_75 => ?_) (fun cc_75 => ?_)
      · refine lv_iload_n hx hb dX10_setShape_24 rfl (lv_at hl 1 rfl) ?_
        refine lv_iconst (v := 5) hx hb dX10_setShape_25 (by decide) ?_
        refine lv_icmp_ne (tgt := 48) hx hb dX10_setShape_26 (by decide) (fun cc_76 => ?_) (fun cc_76 => ?_)
        · refine lv_iload_n hx hb dX10_setShape_48 rfl (lv_at hl 1 rfl) ?_
          refine lv_bipush (v := 6) hx hb dX10_setShape_49 (by decide) ?_
          refine lv_icmp_ne (tgt := 68) hx hb dX10_setShape_51 (by decide) (fun cc_77 => ?_) (fun cc_77 => ?_)
          · refine lv_iload_n hx hb dX10_setShape_68 rfl (lv_at hl 1 rfl) ?_
            refine lv_bipush (v := 7) hx hb dX10_setShape_69 (by decide) ?_
            refine lv_icmp_ne (tgt := 90) hx hb dX10_setShape_71 (by decide) (fun cc_78 => ?_) (fun cc_78 => ?_)
            · refine lv_iconst (v := 0) hx hb dX10_setShape_90 (by decide) ?_
              exact hk_zret (u := g) hx hb hr rfl hlocks (hw) (by simp only [Int32.lt_iff_toInt_lt, Int32.le_iff_toInt_le, ← Int32.toInt_inj, hk_t0, hk_t1, hk_t2, hk_t3, hk_t4, hk_t5, hk_t6, hk_t7, hk_t8, hk_t9, hk_t10, hk_t11, hk_t12, hk_t13, hk_t14, hk_t15, hk_t16, hk_t17, hk_t18, hk_t20, hk_t32, hk_tm1, hk_t256, hk_t1500, hk_t4096, hk_t2000, hk_t3000, hk_t512, hk_t1024, true_and, and_true, false_and, and_false, true_or, or_true, false_or, or_false, not_true_eq_false, not_false_eq_true] at cc_1 cc_38 cc_75 cc_76 cc_77 cc_78 ⊢; omega) dX10_setShape_91
            · refine lv_iload_n hx hb dX10_setShape_74 rfl (lv_at hl 2 rfl) ?_
              refine lv_if_eq (tgt := 83) hx hb dX10_setShape_75 (by decide) (fun cc_79 => ?_) (fun cc_79 => ?_)
              · refine lv_aload_n hx hb dX10_setShape_83 rfl (lv_at hl 0 rfl) ?_
                refine lv_iload_n hx hb dX10_setShape_84 rfl (lv_at hl 2 rfl) ?_
                refine hk_put (ci := 13) (C := RX10) (T := TX10) (N := 10) (ty := .int) (v := .int v) hx hb hts iX10 tyX10 tyX10_ok nmX10 hown hw 1 rfl rfl 7 (by decide) (hts _ (List.mem_of_getElem? (i := 1) rfl)) rfl (by decide +kernel) rfl rfl (Nat.le_of_ble_eq_true rfl) dX10_setShape_85 (ws' := xw cI cJ ad (upd g 10 v) lg ar bk) rfl (fun H locs hw => ?_)
                refine lv_iconst (v := 1) hx hb dX10_setShape_88 (by decide) ?_
                exact hk_zret (u := (upd g 10 v)) hx hb hr rfl hlocks (hw) (by simp only [Int32.lt_iff_toInt_lt, Int32.le_iff_toInt_le, ← Int32.toInt_inj, hk_t0, hk_t1, hk_t2, hk_t3, hk_t4, hk_t5, hk_t6, hk_t7, hk_t8, hk_t9, hk_t10, hk_t11, hk_t12, hk_t13, hk_t14, hk_t15, hk_t16, hk_t17, hk_t18, hk_t20, hk_t32, hk_tm1, hk_t256, hk_t1500, hk_t4096, hk_t2000, hk_t3000, hk_t512, hk_t1024, true_and, and_true, false_and, and_false, true_or, or_true, false_or, or_false, not_true_eq_false, not_false_eq_true] at cc_1 cc_38 cc_75 cc_76 cc_77 cc_78 cc_79 ⊢; omega) dX10_setShape_89
              · refine lv_iload_n hx hb dX10_setShape_78 rfl (lv_at hl 2 rfl) ?_
                refine lv_iconst (v := 1) hx hb dX10_setShape_79 (by decide) ?_
                refine lv_icmp_ne (tgt := 90) hx hb dX10_setShape_80 (by decide) (fun cc_80 => ?_) (fun cc_80 => ?_)
                · refine lv_iconst (v := 0) hx hb dX10_setShape_90 (by decide) ?_
                  exact hk_zret (u := g) hx hb hr rfl hlocks (hw) (by simp only [Int32.lt_iff_toInt_lt, Int32.le_iff_toInt_le, ← Int32.toInt_inj, hk_t0, hk_t1, hk_t2, hk_t3, hk_t4, hk_t5, hk_t6, hk_t7, hk_t8, hk_t9, hk_t10, hk_t11, hk_t12, hk_t13, hk_t14, hk_t15, hk_t16, hk_t17, hk_t18, hk_t20, hk_t32, hk_tm1, hk_t256, hk_t1500, hk_t4096, hk_t2000, hk_t3000, hk_t512, hk_t1024, true_and, and_true, false_and, and_false, true_or, or_true, false_or, or_false, not_true_eq_false, not_false_eq_true] at cc_1 cc_38 cc_75 cc_76 cc_77 cc_78 cc_79 cc_80 ⊢; omega) dX10_setShape_91
                · refine lv_aload_n hx hb dX10_setShape_83 rfl (lv_at hl 0 rfl) ?_
                  refine lv_iload_n hx hb dX10_setShape_84 rfl (lv_at hl 2 rfl) ?_
                  refine hk_put (ci := 13) (C := RX10) (T := TX10) (N := 10) (ty := .int) (v := .int v) hx hb hts iX10 tyX10 tyX10_ok nmX10 hown hw 1 rfl rfl 7 (by decide) (hts _ (List.mem_of_getElem? (i := 1) rfl)) rfl (by decide +kernel) rfl rfl (Nat.le_of_ble_eq_true rfl) dX10_setShape_85 (ws' := xw cI cJ ad (upd g 10 v) lg ar bk) rfl (fun H locs hw => ?_)
                  refine lv_iconst (v := 1) hx hb dX10_setShape_88 (by decide) ?_
                  exact hk_zret (u := (upd g 10 v)) hx hb hr rfl hlocks (hw) (by simp only [Int32.lt_iff_toInt_lt, Int32.le_iff_toInt_le, ← Int32.toInt_inj, hk_t0, hk_t1, hk_t2, hk_t3, hk_t4, hk_t5, hk_t6, hk_t7, hk_t8, hk_t9, hk_t10, hk_t11, hk_t12, hk_t13, hk_t14, hk_t15, hk_t16, hk_t17, hk_t18, hk_t20, hk_t32, hk_tm1, hk_t256, hk_t1500, hk_t4096, hk_t2000, hk_t3000, hk_t512, hk_t1024, true_and, and_true, false_and, and_false, true_or, or_true, false_or, or_false, not_true_eq_false, not_false_eq_true] at cc_1 cc_38 cc_75 cc_76 cc_77 cc_78 cc_79 cc_80 ⊢; omega) dX10_setShape_89
          · refine lv_iload_n hx hb dX10_setShape_54 rfl (lv_at hl 2 rfl) ?_
            refine hk_Si (As := [.int v]) (rest := []) ⟨hx, hb, hml, hown, hts⟩ hw hA (cx_isKind l D cI cJ ad g lg ar bk _ v) (va_cwS 1 hts gw_cx_setShape_0 rfl rfl rfl (by decide +kernel) ⟨Nat.le_of_ble_eq_true rfl, Nat.le_of_ble_eq_true rfl⟩) rfl hl.1 rfl (Nat.le_of_ble_eq_true rfl) dX10_setShape_55 ⟨Nat.le_of_ble_eq_true rfl, Nat.le_of_ble_eq_true rfl⟩ (fun rr_81 uu_82 H locs hp_83 hw => ?_)
            have hw : hk_W D [(cI, .int), (cJ, .long)] _ s _ _ (xw cI cJ ad g lg ar bk) := hw
            refine lv_if_eq (tgt := 68) hx hb dX10_setShape_58 (by decide) (fun cc_84 => ?_) (fun cc_84 => ?_)
            · refine lv_iload_n hx hb dX10_setShape_68 rfl (lv_at hl 1 rfl) ?_
              refine lv_bipush (v := 7) hx hb dX10_setShape_69 (by decide) ?_
              refine lv_icmp_ne (tgt := 90) hx hb dX10_setShape_71 (by decide) (fun cc_85 => ?_) (fun cc_85 => ?_)
              · refine lv_iconst (v := 0) hx hb dX10_setShape_90 (by decide) ?_
                exact hk_zret (u := g) hx hb hr rfl hlocks (hw) (by simp only [Int32.lt_iff_toInt_lt, Int32.le_iff_toInt_le, ← Int32.toInt_inj, hk_t0, hk_t1, hk_t2, hk_t3, hk_t4, hk_t5, hk_t6, hk_t7, hk_t8, hk_t9, hk_t10, hk_t11, hk_t12, hk_t13, hk_t14, hk_t15, hk_t16, hk_t17, hk_t18, hk_t20, hk_t32, hk_tm1, hk_t256, hk_t1500, hk_t4096, hk_t2000, hk_t3000, hk_t512, hk_t1024, true_and, and_true, false_and, and_false, true_or, or_true, false_or, or_false, not_true_eq_false, not_false_eq_true] at cc_1 cc_38 cc_75 cc_76 cc_77 cc_84 cc_85 hp_83 ⊢; omega) dX10_setShape_91
              · refine lv_iload_n hx hb dX10_setShape_74 rfl (lv_at hl 2 rfl) ?_
                refine lv_if_eq (tgt := 83) hx hb dX10_setShape_75 (by decide) (fun cc_86 => ?_) (fun cc_86 => ?_)
                · refine lv_aload_n hx hb dX10_setShape_83 rfl (lv_at hl 0 rfl) ?_
                  refine lv_iload_n hx hb dX10_setShape_84 rfl (lv_at hl 2 rfl) ?_
                  refine hk_put (ci := 13) (C := RX10) (T := TX10) (N := 10) (ty := .int) (v := .int v) hx hb hts iX10 tyX10 tyX10_ok nmX10 hown hw 1 rfl rfl 7 (by decide) (hts _ (List.mem_of_getElem? (i := 1) rfl)) rfl (by decide +kernel) rfl rfl (Nat.le_of_ble_eq_true rfl) dX10_setShape_85 (ws' := xw cI cJ ad (upd g 10 v) lg ar bk) rfl (fun H locs hw => ?_)
                  refine lv_iconst (v := 1) hx hb dX10_setShape_88 (by decide) ?_
                  exact hk_zret (u := (upd g 10 v)) hx hb hr rfl hlocks (hw) (by simp only [Int32.lt_iff_toInt_lt, Int32.le_iff_toInt_le, ← Int32.toInt_inj, hk_t0, hk_t1, hk_t2, hk_t3, hk_t4, hk_t5, hk_t6, hk_t7, hk_t8, hk_t9, hk_t10, hk_t11, hk_t12, hk_t13, hk_t14, hk_t15, hk_t16, hk_t17, hk_t18, hk_t20, hk_t32, hk_tm1, hk_t256, hk_t1500, hk_t4096, hk_t2000, hk_t3000, hk_t512, hk_t1024, true_and, and_true, false_and, and_false, true_or, or_true, false_or, or_false, not_true_eq_false, not_false_eq_true] at cc_1 cc_38 cc_75 cc_76 cc_77 cc_84 cc_85 cc_86 hp_83 ⊢; omega) dX10_setShape_89
                · refine lv_iload_n hx hb dX10_setShape_78 rfl (lv_at hl 2 rfl) ?_
                  refine lv_iconst (v := 1) hx hb dX10_setShape_79 (by decide) ?_
                  refine lv_icmp_ne (tgt := 90) hx hb dX10_setShape_80 (by decide) (fun cc_87 => ?_) (fun cc_87 => ?_)
                  · refine lv_iconst (v := 0) hx hb dX10_setShape_90 (by decide) ?_
                    exact hk_zret (u := g) hx hb hr rfl hlocks (hw) (by simp only [Int32.lt_iff_toInt_lt, Int32.le_iff_toInt_le, ← Int32.toInt_inj, hk_t0, hk_t1, hk_t2, hk_t3, hk_t4, hk_t5, hk_t6, hk_t7, hk_t8, hk_t9, hk_t10, hk_t11, hk_t12, hk_t13, hk_t14, hk_t15, hk_t16, hk_t17, hk_t18, hk_t20, hk_t32, hk_tm1, hk_t256, hk_t1500, hk_t4096, hk_t2000, hk_t3000, hk_t512, hk_t1024, true_and, and_true, false_and, and_false, true_or, or_true, false_or, or_false, not_true_eq_false, not_false_eq_true] at cc_1 cc_38 cc_75 cc_76 cc_77 cc_84 cc_85 cc_86 cc_87 hp_83 ⊢; omega) dX10_setShape_91
                  · refine lv_aload_n hx hb dX10_setShape_83 rfl (lv_at hl 0 rfl) ?_
                    refine lv_iload_n hx hb dX10_setShape_84 rfl (lv_at hl 2 rfl) ?_
                    refine hk_put (ci := 13) (C := RX10) (T := TX10) (N := 10) (ty := .int) (v := .int v) hx hb hts iX10 tyX10 tyX10_ok nmX10 hown hw 1 rfl rfl 7 (by decide) (hts _ (List.mem_of_getElem? (i := 1) rfl)) rfl (by decide +kernel) rfl rfl (Nat.le_of_ble_eq_true rfl) dX10_setShape_85 (ws' := xw cI cJ ad (upd g 10 v) lg ar bk) rfl (fun H locs hw => ?_)
                    refine lv_iconst (v := 1) hx hb dX10_setShape_88 (by decide) ?_
                    exact hk_zret (u := (upd g 10 v)) hx hb hr rfl hlocks (hw) (by simp only [Int32.lt_iff_toInt_lt, Int32.le_iff_toInt_le, ← Int32.toInt_inj, hk_t0, hk_t1, hk_t2, hk_t3, hk_t4, hk_t5, hk_t6, hk_t7, hk_t8, hk_t9, hk_t10, hk_t11, hk_t12, hk_t13, hk_t14, hk_t15, hk_t16, hk_t17, hk_t18, hk_t20, hk_t32, hk_tm1, hk_t256, hk_t1500, hk_t4096, hk_t2000, hk_t3000, hk_t512, hk_t1024, true_and, and_true, false_and, and_false, true_or, or_true, false_or, or_false, not_true_eq_false, not_false_eq_true] at cc_1 cc_38 cc_75 cc_76 cc_77 cc_84 cc_85 cc_86 cc_87 hp_83 ⊢; omega) dX10_setShape_89
            · refine lv_aload_n hx hb dX10_setShape_61 rfl (lv_at hl 0 rfl) ?_
              refine lv_iload_n hx hb dX10_setShape_62 rfl (lv_at hl 2 rfl) ?_
              refine hk_put (ci := 13) (C := RX10) (T := TX10) (N := 10) (ty := .int) (v := .int v) hx hb hts iX10 tyX10 tyX10_ok nmX10 hown hw 1 rfl rfl 6 (by decide) (hts _ (List.mem_of_getElem? (i := 6) rfl)) rfl (by decide +kernel) rfl rfl (Nat.le_of_ble_eq_true rfl) dX10_setShape_63 (ws' := xw cI cJ ad (upd g 9 v) lg ar bk) rfl (fun H locs hw => ?_)
              refine lv_iconst (v := 1) hx hb dX10_setShape_66 (by decide) ?_
              exact hk_zret (u := (upd g 9 v)) hx hb hr rfl hlocks (hw) (by simp only [Int32.lt_iff_toInt_lt, Int32.le_iff_toInt_le, ← Int32.toInt_inj, hk_t0, hk_t1, hk_t2, hk_t3, hk_t4, hk_t5, hk_t6, hk_t7, hk_t8, hk_t9, hk_t10, hk_t11, hk_t12, hk_t13, hk_t14, hk_t15, hk_t16, hk_t17, hk_t18, hk_t20, hk_t32, hk_tm1, hk_t256, hk_t1500, hk_t4096, hk_t2000, hk_t3000, hk_t512, hk_t1024, true_and, and_true, false_and, and_false, true_or, or_true, false_or, or_false, not_true_eq_false, not_false_eq_true] at cc_1 cc_38 cc_75 cc_76 cc_77 cc_84 hp_83 ⊢; omega) dX10_setShape_67
        · refine lv_iload_n hx hb dX10_setShape_29 rfl (lv_at hl 2 rfl) ?_
          refine lv_iconst (v := 1) hx hb dX10_setShape_30 (by decide) ?_
          refine lv_icmp_lt (tgt := 48) hx hb dX10_setShape_31 (by decide) (fun cc_88 => ?_) (fun cc_88 => ?_)
          · refine lv_iload_n hx hb dX10_setShape_48 rfl (lv_at hl 1 rfl) ?_
            refine lv_bipush (v := 6) hx hb dX10_setShape_49 (by decide) ?_
            refine lv_icmp_ne (tgt := 68) hx hb dX10_setShape_51 (by decide) (fun cc_89 => ?_) (fun cc_89 => ?_)
            · refine lv_iload_n hx hb dX10_setShape_68 rfl (lv_at hl 1 rfl) ?_
              refine lv_bipush (v := 7) hx hb dX10_setShape_69 (by decide) ?_
              refine lv_icmp_ne (tgt := 90) hx hb dX10_setShape_71 (by decide) (fun cc_90 => ?_) (fun cc_90 => ?_)
              · refine lv_iconst (v := 0) hx hb dX10_setShape_90 (by decide) ?_
                exact hk_zret (u := g) hx hb hr rfl hlocks (hw) (by simp only [Int32.lt_iff_toInt_lt, Int32.le_iff_toInt_le, ← Int32.toInt_inj, hk_t0, hk_t1, hk_t2, hk_t3, hk_t4, hk_t5, hk_t6, hk_t7, hk_t8, hk_t9, hk_t10, hk_t11, hk_t12, hk_t13, hk_t14, hk_t15, hk_t16, hk_t17, hk_t18, hk_t20, hk_t32, hk_tm1, hk_t256, hk_t1500, hk_t4096, hk_t2000, hk_t3000, hk_t512, hk_t1024, true_and, and_true, false_and, and_false, true_or, or_true, false_or, or_false, not_true_eq_false, not_false_eq_true] at cc_1 cc_38 cc_75 cc_76 cc_88 cc_89 cc_90 ⊢; omega) dX10_setShape_91
              · refine lv_iload_n hx hb dX10_setShape_74 rfl (lv_at hl 2 rfl) ?_
                refine lv_if_eq (tgt := 83) hx hb dX10_setShape_75 (by decide) (fun cc_91 => ?_) (fun cc_91 => ?_)
                · refine lv_aload_n hx hb dX10_setShape_83 rfl (lv_at hl 0 rfl) ?_
                  refine lv_iload_n hx hb dX10_setShape_84 rfl (lv_at hl 2 rfl) ?_
                  refine hk_put (ci := 13) (C := RX10) (T := TX10) (N := 10) (ty := .int) (v := .int v) hx hb hts iX10 tyX10 tyX10_ok nmX10 hown hw 1 rfl rfl 7 (by decide) (hts _ (List.mem_of_getElem? (i := 1) rfl)) rfl (by decide +kernel) rfl rfl (Nat.le_of_ble_eq_true rfl) dX10_setShape_85 (ws' := xw cI cJ ad (upd g 10 v) lg ar bk) rfl (fun H locs hw => ?_)
                  refine lv_iconst (v := 1) hx hb dX10_setShape_88 (by decide) ?_
                  exact hk_zret (u := (upd g 10 v)) hx hb hr rfl hlocks (hw) (by simp only [Int32.lt_iff_toInt_lt, Int32.le_iff_toInt_le, ← Int32.toInt_inj, hk_t0, hk_t1, hk_t2, hk_t3, hk_t4, hk_t5, hk_t6, hk_t7, hk_t8, hk_t9, hk_t10, hk_t11, hk_t12, hk_t13, hk_t14, hk_t15, hk_t16, hk_t17, hk_t18, hk_t20, hk_t32, hk_tm1, hk_t256, hk_t1500, hk_t4096, hk_t2000, hk_t3000, hk_t512, hk_t1024, true_and, and_true, false_and, and_false, true_or, or_true, false_or, or_false, not_true_eq_false, not_false_eq_true] at cc_1 cc_38 cc_75 cc_76 cc_88 cc_89 cc_90 cc_91 ⊢; omega) dX10_setShape_89
                · refine lv_iload_n hx hb dX10_setShape_78 rfl (lv_at hl 2 rfl) ?_
                  refine lv_iconst (v := 1) hx hb dX10_setShape_79 (by decide) ?_
                  refine lv_icmp_ne (tgt := 90) hx hb dX10_setShape_80 (by decide) (fun cc_92 => ?_) (fun cc_92 => ?_)
                  · refine lv_iconst (v := 0) hx hb dX10_setShape_90 (by decide) ?_
                    exact hk_zret (u := g) hx hb hr rfl hlocks (hw) (by simp only [Int32.lt_iff_toInt_lt, Int32.le_iff_toInt_le, ← Int32.toInt_inj, hk_t0, hk_t1, hk_t2, hk_t3, hk_t4, hk_t5, hk_t6, hk_t7, hk_t8, hk_t9, hk_t10, hk_t11, hk_t12, hk_t13, hk_t14, hk_t15, hk_t16, hk_t17, hk_t18, hk_t20, hk_t32, hk_tm1, hk_t256, hk_t1500, hk_t4096, hk_t2000, hk_t3000, hk_t512, hk_t1024, true_and, and_true, false_and, and_false, true_or, or_true, false_or, or_false, not_true_eq_false, not_false_eq_true] at cc_1 cc_38 cc_75 cc_76 cc_88 cc_89 cc_90 cc_91 cc_92 ⊢; omega) dX10_setShape_91
                  · refine lv_aload_n hx hb dX10_setShape_83 rfl (lv_at hl 0 rfl) ?_
                    refine lv_iload_n hx hb dX10_setShape_84 rfl (lv_at hl 2 rfl) ?_
                    refine hk_put (ci := 13) (C := RX10) (T := TX10) (N := 10) (ty := .int) (v := .int v) hx hb hts iX10 tyX10 tyX10_ok nmX10 hown hw 1 rfl rfl 7 (by decide) (hts _ (List.mem_of_getElem? (i := 1) rfl)) rfl (by decide +kernel) rfl rfl (Nat.le_of_ble_eq_true rfl) dX10_setShape_85 (ws' := xw cI cJ ad (upd g 10 v) lg ar bk) rfl (fun H locs hw => ?_)
                    refine lv_iconst (v := 1) hx hb dX10_setShape_88 (by decide) ?_
                    exact hk_zret (u := (upd g 10 v)) hx hb hr rfl hlocks (hw) (by simp only [Int32.lt_iff_toInt_lt, Int32.le_iff_toInt_le, ← Int32.toInt_inj, hk_t0, hk_t1, hk_t2, hk_t3, hk_t4, hk_t5, hk_t6, hk_t7, hk_t8, hk_t9, hk_t10, hk_t11, hk_t12, hk_t13, hk_t14, hk_t15, hk_t16, hk_t17, hk_t18, hk_t20, hk_t32, hk_tm1, hk_t256, hk_t1500, hk_t4096, hk_t2000, hk_t3000, hk_t512, hk_t1024, true_and, and_true, false_and, and_false, true_or, or_true, false_or, or_false, not_true_eq_false, not_false_eq_true] at cc_1 cc_38 cc_75 cc_76 cc_88 cc_89 cc_90 cc_91 cc_92 ⊢; omega) dX10_setShape_89
            · refine lv_iload_n hx hb dX10_setShape_54 rfl (lv_at hl 2 rfl) ?_
              refine hk_Si (As := [.int v]) (rest := []) ⟨hx, hb, hml, hown, hts⟩ hw hA (cx_isKind l D cI cJ ad g lg ar bk _ v) (va_cwS 1 hts gw_cx_setShape_0 rfl rfl rfl (by decide +kernel) ⟨Nat.le_of_ble_eq_true rfl, Nat.le_of_ble_eq_true rfl⟩) rfl hl.1 rfl (Nat.le_of_ble_eq_true rfl) dX10_setShape_55 ⟨Nat.le_of_ble_eq_true rfl, Nat.le_of_ble_eq_true rfl⟩ (fun rr_93 uu_94 H locs hp_95 hw => ?_)
              have hw : hk_W D [(cI, .int), (cJ, .long)] _ s _ _ (xw cI cJ ad g lg ar bk) := hw
              refine lv_if_eq (tgt := 68) hx hb dX10_setShape_58 (by decide) (fun cc_96 => ?_) (fun cc_96 => ?_)
              · refine lv_iload_n hx hb dX10_setShape_68 rfl (lv_at hl 1 rfl) ?_
                refine lv_bipush (v := 7) hx hb dX10_setShape_69 (by decide) ?_
                refine lv_icmp_ne (tgt := 90) hx hb dX10_setShape_71 (by decide) (fun cc_97 => ?_) (fun cc_97 => ?_)
                · refine lv_iconst (v := 0) hx hb dX10_setShape_90 (by decide) ?_
                  exact hk_zret (u := g) hx hb hr rfl hlocks (hw) (by simp only [Int32.lt_iff_toInt_lt, Int32.le_iff_toInt_le, ← Int32.toInt_inj, hk_t0, hk_t1, hk_t2, hk_t3, hk_t4, hk_t5, hk_t6, hk_t7, hk_t8, hk_t9, hk_t10, hk_t11, hk_t12, hk_t13, hk_t14, hk_t15, hk_t16, hk_t17, hk_t18, hk_t20, hk_t32, hk_tm1, hk_t256, hk_t1500, hk_t4096, hk_t2000, hk_t3000, hk_t512, hk_t1024, true_and, and_true, false_and, and_false, true_or, or_true, false_or, or_false, not_true_eq_false, not_false_eq_true] at cc_1 cc_38 cc_75 cc_76 cc_88 cc_89 cc_96 cc_97 hp_95 ⊢; omega) dX10_setShape_91
                · refine lv_iload_n hx hb dX10_setShape_74 rfl (lv_at hl 2 rfl) ?_
                  refine lv_if_eq (tgt := 83) hx hb dX10_setShape_75 (by decide) (fun cc_98 => ?_) (fun cc_98 => ?_)
                  · refine lv_aload_n hx hb dX10_setShape_83 rfl (lv_at hl 0 rfl) ?_
                    refine lv_iload_n hx hb dX10_setShape_84 rfl (lv_at hl 2 rfl) ?_
                    refine hk_put (ci := 13) (C := RX10) (T := TX10) (N := 10) (ty := .int) (v := .int v) hx hb hts iX10 tyX10 tyX10_ok nmX10 hown hw 1 rfl rfl 7 (by decide) (hts _ (List.mem_of_getElem? (i := 1) rfl)) rfl (by decide +kernel) rfl rfl (Nat.le_of_ble_eq_true rfl) dX10_setShape_85 (ws' := xw cI cJ ad (upd g 10 v) lg ar bk) rfl (fun H locs hw => ?_)
                    refine lv_iconst (v := 1) hx hb dX10_setShape_88 (by decide) ?_
                    exact hk_zret (u := (upd g 10 v)) hx hb hr rfl hlocks (hw) (by simp only [Int32.lt_iff_toInt_lt, Int32.le_iff_toInt_le, ← Int32.toInt_inj, hk_t0, hk_t1, hk_t2, hk_t3, hk_t4, hk_t5, hk_t6, hk_t7, hk_t8, hk_t9, hk_t10, hk_t11, hk_t12, hk_t13, hk_t14, hk_t15, hk_t16, hk_t17, hk_t18, hk_t20, hk_t32, hk_tm1, hk_t256, hk_t1500, hk_t4096, hk_t2000, hk_t3000, hk_t512, hk_t1024, true_and, and_true, false_and, and_false, true_or, or_true, false_or, or_false, not_true_eq_false, not_false_eq_true] at cc_1 cc_38 cc_75 cc_76 cc_88 cc_89 cc_96 cc_97 cc_98 hp_95 ⊢; omega) dX10_setShape_89
                  · refine lv_iload_n hx hb dX10_setShape_78 rfl (lv_at hl 2 rfl) ?_
                    refine lv_iconst (v := 1) hx hb dX10_setShape_79 (by decide) ?_
                    refine lv_icmp_ne (tgt := 90) hx hb dX10_setShape_80 (by decide) (fun cc_99 => ?_) (fun cc_99 => ?_)
                    · refine lv_iconst (v := 0) hx hb dX10_setShape_90 (by decide) ?_
                      exact hk_zret (u := g) hx hb hr rfl hlocks (hw) (by simp only [Int32.lt_iff_toInt_lt, Int32.le_iff_toInt_le, ← Int32.toInt_inj, hk_t0, hk_t1, hk_t2, hk_t3, hk_t4, hk_t5, hk_t6, hk_t7, hk_t8, hk_t9, hk_t10, hk_t11, hk_t12, hk_t13, hk_t14, hk_t15, hk_t16, hk_t17, hk_t18, hk_t20, hk_t32, hk_tm1, hk_t256, hk_t1500, hk_t4096, hk_t2000, hk_t3000, hk_t512, hk_t1024, true_and, and_true, false_and, and_false, true_or, or_true, false_or, or_false, not_true_eq_false, not_false_eq_true] at cc_1 cc_38 cc_75 cc_76 cc_88 cc_89 cc_96 cc_97 cc_98 cc_99 hp_95 ⊢; omega) dX10_setShape_91
                    · refine lv_aload_n hx hb dX10_setShape_83 rfl (lv_at hl 0 rfl) ?_
                      refine lv_iload_n hx hb dX10_setShape_84 rfl (lv_at hl 2 rfl) ?_
                      refine hk_put (ci := 13) (C := RX10) (T := TX10) (N := 10) (ty := .int) (v := .int v) hx hb hts iX10 tyX10 tyX10_ok nmX10 hown hw 1 rfl rfl 7 (by decide) (hts _ (List.mem_of_getElem? (i := 1) rfl)) rfl (by decide +kernel) rfl rfl (Nat.le_of_ble_eq_true rfl) dX10_setShape_85 (ws' := xw cI cJ ad (upd g 10 v) lg ar bk) rfl (fun H locs hw => ?_)
                      refine lv_iconst (v := 1) hx hb dX10_setShape_88 (by decide) ?_
                      exact hk_zret (u := (upd g 10 v)) hx hb hr rfl hlocks (hw) (by simp only [Int32.lt_iff_toInt_lt, Int32.le_iff_toInt_le, ← Int32.toInt_inj, hk_t0, hk_t1, hk_t2, hk_t3, hk_t4, hk_t5, hk_t6, hk_t7, hk_t8, hk_t9, hk_t10, hk_t11, hk_t12, hk_t13, hk_t14, hk_t15, hk_t16, hk_t17, hk_t18, hk_t20, hk_t32, hk_tm1, hk_t256, hk_t1500, hk_t4096, hk_t2000, hk_t3000, hk_t512, hk_t1024, true_and, and_true, false_and, and_false, true_or, or_true, false_or, or_false, not_true_eq_false, not_false_eq_true] at cc_1 cc_38 cc_75 cc_76 cc_88 cc_89 cc_96 cc_97 cc_98 cc_99 hp_95 ⊢; omega) dX10_setShape_89
              · refine lv_aload_n hx hb dX10_setShape_61 rfl (lv_at hl 0 rfl) ?_
                refine lv_iload_n hx hb dX10_setShape_62 rfl (lv_at hl 2 rfl) ?_
                refine hk_put (ci := 13) (C := RX10) (T := TX10) (N := 10) (ty := .int) (v := .int v) hx hb hts iX10 tyX10 tyX10_ok nmX10 hown hw 1 rfl rfl 6 (by decide) (hts _ (List.mem_of_getElem? (i := 6) rfl)) rfl (by decide +kernel) rfl rfl (Nat.le_of_ble_eq_true rfl) dX10_setShape_63 (ws' := xw cI cJ ad (upd g 9 v) lg ar bk) rfl (fun H locs hw => ?_)
                refine lv_iconst (v := 1) hx hb dX10_setShape_66 (by decide) ?_
                exact hk_zret (u := (upd g 9 v)) hx hb hr rfl hlocks (hw) (by simp only [Int32.lt_iff_toInt_lt, Int32.le_iff_toInt_le, ← Int32.toInt_inj, hk_t0, hk_t1, hk_t2, hk_t3, hk_t4, hk_t5, hk_t6, hk_t7, hk_t8, hk_t9, hk_t10, hk_t11, hk_t12, hk_t13, hk_t14, hk_t15, hk_t16, hk_t17, hk_t18, hk_t20, hk_t32, hk_tm1, hk_t256, hk_t1500, hk_t4096, hk_t2000, hk_t3000, hk_t512, hk_t1024, true_and, and_true, false_and, and_false, true_or, or_true, false_or, or_false, not_true_eq_false, not_false_eq_true] at cc_1 cc_38 cc_75 cc_76 cc_88 cc_89 cc_96 hp_95 ⊢; omega) dX10_setShape_67
          · refine lv_iload_n hx hb dX10_setShape_34 rfl (lv_at hl 2 rfl) ?_
            refine lv_sipush (v := 1500) hx hb dX10_setShape_35 (by decide) ?_
            refine lv_icmp_gt (tgt := 48) hx hb dX10_setShape_38 (by decide) (fun cc_100 => ?_) (fun cc_100 => ?_)
            · refine lv_iload_n hx hb dX10_setShape_48 rfl (lv_at hl 1 rfl) ?_
              refine lv_bipush (v := 6) hx hb dX10_setShape_49 (by decide) ?_
              refine lv_icmp_ne (tgt := 68) hx hb dX10_setShape_51 (by decide) (fun cc_101 => ?_) (fun cc_101 => ?_)
              · refine lv_iload_n hx hb dX10_setShape_68 rfl (lv_at hl 1 rfl) ?_
                refine lv_bipush (v := 7) hx hb dX10_setShape_69 (by decide) ?_
                refine lv_icmp_ne (tgt := 90) hx hb dX10_setShape_71 (by decide) (fun cc_102 => ?_) (fun cc_102 => ?_)
                · refine lv_iconst (v := 0) hx hb dX10_setShape_90 (by decide) ?_
                  exact hk_zret (u := g) hx hb hr rfl hlocks (hw) (by simp only [Int32.lt_iff_toInt_lt, Int32.le_iff_toInt_le, ← Int32.toInt_inj, hk_t0, hk_t1, hk_t2, hk_t3, hk_t4, hk_t5, hk_t6, hk_t7, hk_t8, hk_t9, hk_t10, hk_t11, hk_t12, hk_t13, hk_t14, hk_t15, hk_t16, hk_t17, hk_t18, hk_t20, hk_t32, hk_tm1, hk_t256, hk_t1500, hk_t4096, hk_t2000, hk_t3000, hk_t512, hk_t1024, true_and, and_true, false_and, and_false, true_or, or_true, false_or, or_false, not_true_eq_false, not_false_eq_true] at cc_1 cc_38 cc_75 cc_76 cc_88 cc_100 cc_101 cc_102 ⊢; omega) dX10_setShape_91
                · refine lv_iload_n hx hb dX10_setShape_74 rfl (lv_at hl 2 rfl) ?_
                  refine lv_if_eq (tgt := 83) hx hb dX10_setShape_75 (by decide) (fun cc_103 => ?_) (fun cc_103 => ?_)
                  · refine lv_aload_n hx hb dX10_setShape_83 rfl (lv_at hl 0 rfl) ?_
                    refine lv_iload_n hx hb dX10_setShape_84 rfl (lv_at hl 2 rfl) ?_
                    refine hk_put (ci := 13) (C := RX10) (T := TX10) (N := 10) (ty := .int) (v := .int v) hx hb hts iX10 tyX10 tyX10_ok nmX10 hown hw 1 rfl rfl 7 (by decide) (hts _ (List.mem_of_getElem? (i := 1) rfl)) rfl (by decide +kernel) rfl rfl (Nat.le_of_ble_eq_true rfl) dX10_setShape_85 (ws' := xw cI cJ ad (upd g 10 v) lg ar bk) rfl (fun H locs hw => ?_)
                    refine lv_iconst (v := 1) hx hb dX10_setShape_88 (by decide) ?_
                    exact hk_zret (u := (upd g 10 v)) hx hb hr rfl hlocks (hw) (by simp only [Int32.lt_iff_toInt_lt, Int32.le_iff_toInt_le, ← Int32.toInt_inj, hk_t0, hk_t1, hk_t2, hk_t3, hk_t4, hk_t5, hk_t6, hk_t7, hk_t8, hk_t9, hk_t10, hk_t11, hk_t12, hk_t13, hk_t14, hk_t15, hk_t16, hk_t17, hk_t18, hk_t20, hk_t32, hk_tm1, hk_t256, hk_t1500, hk_t4096, hk_t2000, hk_t3000, hk_t512, hk_t1024, true_and, and_true, false_and, and_false, true_or, or_true, false_or, or_false, not_true_eq_false, not_false_eq_true] at cc_1 cc_38 cc_75 cc_76 cc_88 cc_100 cc_101 cc_102 cc_103 ⊢; omega) dX10_setShape_89
                  · refine lv_iload_n hx hb dX10_setShape_78 rfl (lv_at hl 2 rfl) ?_
                    refine lv_iconst (v := 1) hx hb dX10_setShape_79 (by decide) ?_
                    refine lv_icmp_ne (tgt := 90) hx hb dX10_setShape_80 (by decide) (fun cc_104 => ?_) (fun cc_104 => ?_)
                    · refine lv_iconst (v := 0) hx hb dX10_setShape_90 (by decide) ?_
                      exact hk_zret (u := g) hx hb hr rfl hlocks (hw) (by simp only [Int32.lt_iff_toInt_lt, Int32.le_iff_toInt_le, ← Int32.toInt_inj, hk_t0, hk_t1, hk_t2, hk_t3, hk_t4, hk_t5, hk_t6, hk_t7, hk_t8, hk_t9, hk_t10, hk_t11, hk_t12, hk_t13, hk_t14, hk_t15, hk_t16, hk_t17, hk_t18, hk_t20, hk_t32, hk_tm1, hk_t256, hk_t1500, hk_t4096, hk_t2000, hk_t3000, hk_t512, hk_t1024, true_and, and_true, false_and, and_false, true_or, or_true, false_or, or_false, not_true_eq_false, not_false_eq_true] at cc_1 cc_38 cc_75 cc_76 cc_88 cc_100 cc_101 cc_102 cc_103 cc_104 ⊢; omega) dX10_setShape_91
                    · refine lv_aload_n hx hb dX10_setShape_83 rfl (lv_at hl 0 rfl) ?_
                      refine lv_iload_n hx hb dX10_setShape_84 rfl (lv_at hl 2 rfl) ?_
                      refine hk_put (ci := 13) (C := RX10) (T := TX10) (N := 10) (ty := .int) (v := .int v) hx hb hts iX10 tyX10 tyX10_ok nmX10 hown hw 1 rfl rfl 7 (by decide) (hts _ (List.mem_of_getElem? (i := 1) rfl)) rfl (by decide +kernel) rfl rfl (Nat.le_of_ble_eq_true rfl) dX10_setShape_85 (ws' := xw cI cJ ad (upd g 10 v) lg ar bk) rfl (fun H locs hw => ?_)
                      refine lv_iconst (v := 1) hx hb dX10_setShape_88 (by decide) ?_
                      exact hk_zret (u := (upd g 10 v)) hx hb hr rfl hlocks (hw) (by simp only [Int32.lt_iff_toInt_lt, Int32.le_iff_toInt_le, ← Int32.toInt_inj, hk_t0, hk_t1, hk_t2, hk_t3, hk_t4, hk_t5, hk_t6, hk_t7, hk_t8, hk_t9, hk_t10, hk_t11, hk_t12, hk_t13, hk_t14, hk_t15, hk_t16, hk_t17, hk_t18, hk_t20, hk_t32, hk_tm1, hk_t256, hk_t1500, hk_t4096, hk_t2000, hk_t3000, hk_t512, hk_t1024, true_and, and_true, false_and, and_false, true_or, or_true, false_or, or_false, not_true_eq_false, not_false_eq_true] at cc_1 cc_38 cc_75 cc_76 cc_88 cc_100 cc_101 cc_102 cc_103 cc_104 ⊢; omega) dX10_setShape_89
              · refine lv_iload_n hx hb dX10_setShape_54 rfl (lv_at hl 2 rfl) ?_
                refine hk_Si (As := [.int v]) (rest := []) ⟨hx, hb, hml, hown, hts⟩ hw hA (cx_isKind l D cI cJ ad g lg ar bk _ v) (va_cwS 1 hts gw_cx_setShape_0 rfl rfl rfl (by decide +kernel) ⟨Nat.le_of_ble_eq_true rfl, Nat.le_of_ble_eq_true rfl⟩) rfl hl.1 rfl (Nat.le_of_ble_eq_true rfl) dX10_setShape_55 ⟨Nat.le_of_ble_eq_true rfl, Nat.le_of_ble_eq_true rfl⟩ (fun rr_105 uu_106 H locs hp_107 hw => ?_)
                have hw : hk_W D [(cI, .int), (cJ, .long)] _ s _ _ (xw cI cJ ad g lg ar bk) := hw
                refine lv_if_eq (tgt := 68) hx hb dX10_setShape_58 (by decide) (fun cc_108 => ?_) (fun cc_108 => ?_)
                · refine lv_iload_n hx hb dX10_setShape_68 rfl (lv_at hl 1 rfl) ?_
                  refine lv_bipush (v := 7) hx hb dX10_setShape_69 (by decide) ?_
                  refine lv_icmp_ne (tgt := 90) hx hb dX10_setShape_71 (by decide) (fun cc_109 => ?_) (fun cc_109 => ?_)
                  · refine lv_iconst (v := 0) hx hb dX10_setShape_90 (by decide) ?_
                    exact hk_zret (u := g) hx hb hr rfl hlocks (hw) (by simp only [Int32.lt_iff_toInt_lt, Int32.le_iff_toInt_le, ← Int32.toInt_inj, hk_t0, hk_t1, hk_t2, hk_t3, hk_t4, hk_t5, hk_t6, hk_t7, hk_t8, hk_t9, hk_t10, hk_t11, hk_t12, hk_t13, hk_t14, hk_t15, hk_t16, hk_t17, hk_t18, hk_t20, hk_t32, hk_tm1, hk_t256, hk_t1500, hk_t4096, hk_t2000, hk_t3000, hk_t512, hk_t1024, true_and, and_true, false_and, and_false, true_or, or_true, false_or, or_false, not_true_eq_false, not_false_eq_true] at cc_1 cc_38 cc_75 cc_76 cc_88 cc_100 cc_101 cc_108 cc_109 hp_107 ⊢; omega) dX10_setShape_91
                  · refine lv_iload_n hx hb dX10_setShape_74 rfl (lv_at hl 2 rfl) ?_
                    refine lv_if_eq (tgt := 83) hx hb dX10_setShape_75 (by decide) (fun cc_110 => ?_) (fun cc_110 => ?_)
                    · refine lv_aload_n hx hb dX10_setShape_83 rfl (lv_at hl 0 rfl) ?_
                      refine lv_iload_n hx hb dX10_setShape_84 rfl (lv_at hl 2 rfl) ?_
                      refine hk_put (ci := 13) (C := RX10) (T := TX10) (N := 10) (ty := .int) (v := .int v) hx hb hts iX10 tyX10 tyX10_ok nmX10 hown hw 1 rfl rfl 7 (by decide) (hts _ (List.mem_of_getElem? (i := 1) rfl)) rfl (by decide +kernel) rfl rfl (Nat.le_of_ble_eq_true rfl) dX10_setShape_85 (ws' := xw cI cJ ad (upd g 10 v) lg ar bk) rfl (fun H locs hw => ?_)
                      refine lv_iconst (v := 1) hx hb dX10_setShape_88 (by decide) ?_
                      exact hk_zret (u := (upd g 10 v)) hx hb hr rfl hlocks (hw) (by simp only [Int32.lt_iff_toInt_lt, Int32.le_iff_toInt_le, ← Int32.toInt_inj, hk_t0, hk_t1, hk_t2, hk_t3, hk_t4, hk_t5, hk_t6, hk_t7, hk_t8, hk_t9, hk_t10, hk_t11, hk_t12, hk_t13, hk_t14, hk_t15, hk_t16, hk_t17, hk_t18, hk_t20, hk_t32, hk_tm1, hk_t256, hk_t1500, hk_t4096, hk_t2000, hk_t3000, hk_t512, hk_t1024, true_and, and_true, false_and, and_false, true_or, or_true, false_or, or_false, not_true_eq_false, not_false_eq_true] at cc_1 cc_38 cc_75 cc_76 cc_88 cc_100 cc_101 cc_108 cc_109 cc_110 hp_107 ⊢; omega) dX10_setShape_89
                    · refine lv_iload_n hx hb dX10_setShape_78 rfl (lv_at hl 2 rfl) ?_
                      refine lv_iconst (v := 1) hx hb dX10_setShape_79 (by decide) ?_
                      refine lv_icmp_ne (tgt := 90) hx hb dX10_setShape_80 (by decide) (fun cc_111 => ?_) (fun cc_111 => ?_)
                      · refine lv_iconst (v := 0) hx hb dX10_setShape_90 (by decide) ?_
                        exact hk_zret (u := g) hx hb hr rfl hlocks (hw) (by simp only [Int32.lt_iff_toInt_lt, Int32.le_iff_toInt_le, ← Int32.toInt_inj, hk_t0, hk_t1, hk_t2, hk_t3, hk_t4, hk_t5, hk_t6, hk_t7, hk_t8, hk_t9, hk_t10, hk_t11, hk_t12, hk_t13, hk_t14, hk_t15, hk_t16, hk_t17, hk_t18, hk_t20, hk_t32, hk_tm1, hk_t256, hk_t1500, hk_t4096, hk_t2000, hk_t3000, hk_t512, hk_t1024, true_and, and_true, false_and, and_false, true_or, or_true, false_or, or_false, not_true_eq_false, not_false_eq_true] at cc_1 cc_38 cc_75 cc_76 cc_88 cc_100 cc_101 cc_108 cc_109 cc_110 cc_111 hp_107 ⊢; omega) dX10_setShape_91
                      · refine lv_aload_n hx hb dX10_setShape_83 rfl (lv_at hl 0 rfl) ?_
                        refine lv_iload_n hx hb dX10_setShape_84 rfl (lv_at hl 2 rfl) ?_
                        refine hk_put (ci := 13) (C := RX10) (T := TX10) (N := 10) (ty := .int) (v := .int v) hx hb hts iX10 tyX10 tyX10_ok nmX10 hown hw 1 rfl rfl 7 (by decide) (hts _ (List.mem_of_getElem? (i := 1) rfl)) rfl (by decide +kernel) rfl rfl (Nat.le_of_ble_eq_true rfl) dX10_setShape_85 (ws' := xw cI cJ ad (upd g 10 v) lg ar bk) rfl (fun H locs hw => ?_)
                        refine lv_iconst (v := 1) hx hb dX10_setShape_88 (by decide) ?_
                        exact hk_zret (u := (upd g 10 v)) hx hb hr rfl hlocks (hw) (by simp only [Int32.lt_iff_toInt_lt, Int32.le_iff_toInt_le, ← Int32.toInt_inj, hk_t0, hk_t1, hk_t2, hk_t3, hk_t4, hk_t5, hk_t6, hk_t7, hk_t8, hk_t9, hk_t10, hk_t11, hk_t12, hk_t13, hk_t14, hk_t15, hk_t16, hk_t17, hk_t18, hk_t20, hk_t32, hk_tm1, hk_t256, hk_t1500, hk_t4096, hk_t2000, hk_t3000, hk_t512, hk_t1024, true_and, and_true, false_and, and_false, true_or, or_true, false_or, or_false, not_true_eq_false, not_false_eq_true] at cc_1 cc_38 cc_75 cc_76 cc_88 cc_100 cc_101 cc_108 cc_109 cc_110 cc_111 hp_107 ⊢; omega) dX10_setShape_89
                · refine lv_aload_n hx hb dX10_setShape_61 rfl (lv_at hl 0 rfl) ?_
                  refine lv_iload_n hx hb dX10_setShape_62 rfl (lv_at hl 2 rfl) ?_
                  refine hk_put (ci := 13) (C := RX10) (T := TX10) (N := 10) (ty := .int) (v := .int v) hx hb hts iX10 tyX10 tyX10_ok nmX10 hown hw 1 rfl rfl 6 (by decide) (hts _ (List.mem_of_getElem? (i := 6) rfl)) rfl (by decide +kernel) rfl rfl (Nat.le_of_ble_eq_true rfl) dX10_setShape_63 (ws' := xw cI cJ ad (upd g 9 v) lg ar bk) rfl (fun H locs hw => ?_)
                  refine lv_iconst (v := 1) hx hb dX10_setShape_66 (by decide) ?_
                  exact hk_zret (u := (upd g 9 v)) hx hb hr rfl hlocks (hw) (by simp only [Int32.lt_iff_toInt_lt, Int32.le_iff_toInt_le, ← Int32.toInt_inj, hk_t0, hk_t1, hk_t2, hk_t3, hk_t4, hk_t5, hk_t6, hk_t7, hk_t8, hk_t9, hk_t10, hk_t11, hk_t12, hk_t13, hk_t14, hk_t15, hk_t16, hk_t17, hk_t18, hk_t20, hk_t32, hk_tm1, hk_t256, hk_t1500, hk_t4096, hk_t2000, hk_t3000, hk_t512, hk_t1024, true_and, and_true, false_and, and_false, true_or, or_true, false_or, or_false, not_true_eq_false, not_false_eq_true] at cc_1 cc_38 cc_75 cc_76 cc_88 cc_100 cc_101 cc_108 hp_107 ⊢; omega) dX10_setShape_67
            · refine lv_aload_n hx hb dX10_setShape_41 rfl (lv_at hl 0 rfl) ?_
              refine lv_iload_n hx hb dX10_setShape_42 rfl (lv_at hl 2 rfl) ?_
              refine hk_put (ci := 13) (C := RX10) (T := TX10) (N := 10) (ty := .int) (v := .int v) hx hb hts iX10 tyX10 tyX10_ok nmX10 hown hw 1 rfl rfl 5 (by decide) (hts _ (List.mem_of_getElem? (i := 7) rfl)) rfl (by decide +kernel) rfl rfl (Nat.le_of_ble_eq_true rfl) dX10_setShape_43 (ws' := xw cI cJ ad (upd g 8 v) lg ar bk) rfl (fun H locs hw => ?_)
              refine lv_iconst (v := 1) hx hb dX10_setShape_46 (by decide) ?_
              exact hk_zret (u := (upd g 8 v)) hx hb hr rfl hlocks (hw) (by simp only [Int32.lt_iff_toInt_lt, Int32.le_iff_toInt_le, ← Int32.toInt_inj, hk_t0, hk_t1, hk_t2, hk_t3, hk_t4, hk_t5, hk_t6, hk_t7, hk_t8, hk_t9, hk_t10, hk_t11, hk_t12, hk_t13, hk_t14, hk_t15, hk_t16, hk_t17, hk_t18, hk_t20, hk_t32, hk_tm1, hk_t256, hk_t1500, hk_t4096, hk_t2000, hk_t3000, hk_t512, hk_t1024, true_and, and_true, false_and, and_false, true_or, or_true, false_or, or_false, not_true_eq_false, not_false_eq_true] at cc_1 cc_38 cc_75 cc_76 cc_88 cc_100 ⊢; omega) dX10_setShape_47
      · refine lv_aload_n hx hb dX10_setShape_17 rfl (lv_at hl 0 rfl) ?_
        refine lv_iload_n hx hb dX10_setShape_18 rfl (lv_at hl 2 rfl) ?_
        refine hk_put (ci := 13) (C := RX10) (T := TX10) (N := 10) (ty := .int) (v := .int v) hx hb hts iX10 tyX10 tyX10_ok nmX10 hown hw 1 rfl rfl 4 (by decide) (hts _ (List.mem_of_getElem? (i := 8) rfl)) rfl (by decide +kernel) rfl rfl (Nat.le_of_ble_eq_true rfl) dX10_setShape_19 (ws' := xw cI cJ ad (upd g 7 v) lg ar bk) rfl (fun H locs hw => ?_)
        refine lv_iconst (v := 1) hx hb dX10_setShape_22 (by decide) ?_
        exact hk_zret (u := (upd g 7 v)) hx hb hr rfl hlocks (hw) (by simp only [Int32.lt_iff_toInt_lt, Int32.le_iff_toInt_le, ← Int32.toInt_inj, hk_t0, hk_t1, hk_t2, hk_t3, hk_t4, hk_t5, hk_t6, hk_t7, hk_t8, hk_t9, hk_t10, hk_t11, hk_t12, hk_t13, hk_t14, hk_t15, hk_t16, hk_t17, hk_t18, hk_t20, hk_t32, hk_tm1, hk_t256, hk_t1500, hk_t4096, hk_t2000, hk_t3000, hk_t512, hk_t1024, true_and, and_true, false_and, and_false, true_or, or_true, false_or, or_false, not_true_eq_false, not_false_eq_true] at cc_1 cc_38 cc_75 ⊢; omega) dX10_setShape_23

def ww_ct_property : List Cond := Cond.code yX11_property cX11_property 4 (some .int) :: ([Cond.fieldLink RX11 16 "LzmaChains" "settings" "LLzmaChains$Settings;", Cond.methodLink RX11 93 yX10_setShape, Cond.instanceMethod yX10_setShape, Cond.selects RX10 yX10_setShape yX10_setShape, Cond.initialized RX10, Cond.code yX10_setShape cX10_setShape 3 (some .boolean), Cond.fieldLink RX10 39 "LzmaChains$Settings" "mark" "I", Cond.methodLink RX10 33 yX0_isKind, Cond.static yX0_isKind, Cond.initialized RX0, Cond.code yX0_isKind cX0_isKind 1 (some .boolean), Cond.fieldLink RX10 30 "LzmaChains$Settings" "check" "I", Cond.fieldLink RX10 27 "LzmaChains$Settings" "block" "I", Cond.fieldLink RX10 24 "LzmaChains$Settings" "chunk" "I", Cond.fieldLink RX11 9 "LzmaChains" "form" "I", Cond.methodLink RX11 89 yX10_setCoding, Cond.instanceMethod yX10_setCoding, Cond.selects RX10 yX10_setCoding yX10_setCoding, Cond.code yX10_setCoding cX10_setCoding 4 (some .boolean), Cond.fieldLink RX10 21 "LzmaChains$Settings" "dictionary" "I", Cond.fieldLink RX10 18 "LzmaChains$Settings" "pb" "I", Cond.fieldLink RX10 9 "LzmaChains$Settings" "lc" "I", Cond.fieldLink RX10 15 "LzmaChains$Settings" "lp" "I"] ++ (wsX110 ++ (wsX100 ++ ([]))))
set_option maxRecDepth 20000 in
theorem gw_ct_property_0 : GoodIn ww_ct_property (wsV RX11 93 RX10 yX10_setShape ww_cx_setShape) := goodIn_r _ [2, 3, 4, 5, 6, 7, 8, 9, 10, 11, 12, 13, 14, 35, 36, 37, 38, 39, 40, 41, 42, 43, 44] rfl (by decide +kernel)
set_option maxRecDepth 20000 in
theorem gw_ct_property_1 : GoodIn ww_ct_property (wsV RX11 89 RX10 yX10_setCoding ww_cx_setCoding) := goodIn_r _ [16, 17, 18, 5, 19, 20, 21, 22, 23, 35, 36, 37, 38, 39, 40, 41, 42, 43, 44] rfl (by decide +kernel)
set_option maxHeartbeats 4000000 in
set_option maxRecDepth 100000 in
/-- property on a new object -/
theorem ct_property (l : Launch) (D : va_G) (cI cJ : ClassId) (ad : Nat → Nat) (fm : Int32) (ar : Nat → Nat → Int32) (bk : Nat → Int64) (sz : Nat) (wt v : Int32) : Met l yX11_property ww_ct_property { frames := 2, cells := 0, slots := 0, locals := 42 } (va_Pc [.ref (ad 0), .int wt, .int v] (hk_B D [(cI, .int), (cJ, .long)] sz (xw cI cJ ad (xf_g fm) xf_l ar bk))) (va_Qi (fun (r : Int32) (u : (Nat → Int32) × (Nat → Int64) × (Nat → Nat → Int32) × (Nat → Int64)) => r = hk_qf fm wt v) (fun u : (Nat → Int32) × (Nat → Int64) × (Nat → Nat → Int32) × (Nat → Int64) => hk_E D [(cI, .int), (cJ, .long)] (va_A (xw cI cJ ad (xf_g fm) xf_l ar bk) sz) (xw cI cJ ad u.1 u.2.1 u.2.2.1 u.2.2.2)) (va_A (xw cI cJ ad (xf_g fm) xf_l ar bk) sz)) 0 0 (va_A (xw cI cJ ad (xf_g fm) xf_l ar bk) sz) := by
  refine hk_met (cc := cX11_property) (maxL := 4) (ret := (some .int)) (by decide) rfl (Nat.le_of_ble_eq_true rfl) ?_
  intro p e s m below meth c ls hx hb hr hml hown hts hlocks hin hA hw hl
  have iX11 : ∀ w ∈ wsX110, w ∈ ww_ct_property := fun _ h => List.mem_cons_of_mem _ (List.mem_append_right _ (List.mem_append_left _ h))
  have iX10 : ∀ w ∈ wsX100, w ∈ ww_ct_property := fun _ h => List.mem_cons_of_mem _ (List.mem_append_right _ (List.mem_append_right _ (List.mem_append_left _ h)))
  have hl : lv_has ls 4 [(0, .ref (ad 0)), (1, .int wt), (2, .int v)] := hl
  refine lv_iload_n hx hb dX11_property_0 rfl (lv_at hl 1 rfl) ?_
  refine lv_iconst (v := 4) hx hb dX11_property_1 (by decide) ?_
  refine lv_icmp_ge (tgt := 30) hx hb dX11_property_2 (by decide) (fun cc_1 => ?_) (fun cc_1 => ?_)
  · refine lv_aload_n hx hb dX11_property_30 rfl (lv_at hl 0 rfl) ?_
    refine hk_get (ci := 14) (C := RX11) (T := TX11) (N := 11) (v := .ref (ad 1)) hx hb hts iX11 hown hw 0 rfl rfl 1 (by decide) (hts _ (List.mem_of_getElem? (i := 1) rfl)) rfl dX11_property_31 ?_
    refine lv_iload_n hx hb dX11_property_34 rfl (lv_at hl 1 rfl) ?_
    refine lv_iload_n hx hb dX11_property_35 rfl (lv_at hl 2 rfl) ?_
    refine hk_Vi (As := [.int wt, .int v]) (rest := []) ⟨hx, hb, hml, hown, hts⟩ hw hA (cx_setShape l D cI cJ ad (xf_g fm) xf_l ar bk _ wt v) (cwV 2 hts gw_ct_property_0 rfl rfl rfl (by decide +kernel) ⟨Nat.le_of_ble_eq_true rfl, Nat.le_of_ble_eq_true rfl⟩) 1 (ci := 13) (T := TX10) (N := 10) rfl rfl rfl hl.1 rfl (Nat.le_of_ble_eq_true rfl) dX11_property_36 ⟨Nat.le_of_ble_eq_true rfl, Nat.le_of_ble_eq_true rfl⟩ (fun rr_2 uu_3 H locs hp_4 hw => ?_)
    have hw : hk_W D [(cI, .int), (cJ, .long)] _ s _ _ (xw cI cJ ad uu_3 xf_l ar bk) := hw
    refine lv_istore_n (lv' := [(3, .int rr_2), (0, .ref (ad 0)), (1, .int wt), (2, .int v)]) hx hb dX11_property_39 rfl hl (by decide) rfl (fun ls hl => ?_)
    refine lv_iload_n hx hb dX11_property_40 rfl (lv_at hl 0 rfl) ?_
    refine lv_if_eq (tgt := 48) hx hb dX11_property_41 (by decide) (fun cc_5 => ?_) (fun cc_5 => ?_)
    · refine lv_iconst (v := 0) hx hb dX11_property_48 (by decide) ?_
      exact hk_iret (u := (uu_3, xf_l, ar, bk)) hx hb hr hlocks (hw) (by rcases hp_4 with ⟨h1, h2⟩ | ⟨h1, h2⟩ <;> simp only [Int32.lt_iff_toInt_lt, Int32.le_iff_toInt_le, ← Int32.toInt_inj, hk_t0, hk_t1, hk_t2, hk_t3, hk_t4, hk_t5, hk_t6, hk_t7, hk_t8, hk_t9, hk_t10, hk_t11, hk_t12, hk_t13, hk_t14, hk_t15, hk_t16, hk_t17, hk_t18, hk_t20, hk_t32, hk_tm1, hk_t256, hk_t1500, hk_t4096, hk_t2000, hk_t3000, hk_t512, hk_t1024, true_and, and_true, false_and, and_false, true_or, or_true, false_or, or_false, not_true_eq_false, not_false_eq_true] at cc_1 cc_5 h1 h2 <;> unfold hk_qf <;> (repeat' split) <;> first | rfl | (exfalso; omega)) dX11_property_49
    · refine lv_iconst (v := 1) hx hb dX11_property_44 (by decide) ?_
      refine lv_goto (tgt := 49) hx hb dX11_property_45 (by decide) ?_
      exact hk_iret (u := (uu_3, xf_l, ar, bk)) hx hb hr hlocks (hw) (by rcases hp_4 with ⟨h1, h2⟩ | ⟨h1, h2⟩ <;> simp only [Int32.lt_iff_toInt_lt, Int32.le_iff_toInt_le, ← Int32.toInt_inj, hk_t0, hk_t1, hk_t2, hk_t3, hk_t4, hk_t5, hk_t6, hk_t7, hk_t8, hk_t9, hk_t10, hk_t11, hk_t12, hk_t13, hk_t14, hk_t15, hk_t16, hk_t17, hk_t18, hk_t20, hk_t32, hk_tm1, hk_t256, hk_t1500, hk_t4096, hk_t2000, hk_t3000, hk_t512, hk_t1024, true_and, and_true, false_and, and_false, true_or, or_true, false_or, or_false, not_true_eq_false, not_false_eq_true] at cc_1 cc_5 h1 h2 <;> unfold hk_qf <;> (repeat' split) <;> first | rfl | (exfalso; omega)) dX11_property_49
  · refine lv_aload_n hx hb dX11_property_5 rfl (lv_at hl 0 rfl) ?_
    refine hk_get (ci := 14) (C := RX11) (T := TX11) (N := 11) (v := .ref (ad 1)) hx hb hts iX11 hown hw 0 rfl rfl 1 (by decide) (hts _ (List.mem_of_getElem? (i := 1) rfl)) rfl dX11_property_6 ?_
    refine lv_iload_n hx hb dX11_property_9 rfl (lv_at hl 1 rfl) ?_
    refine lv_iload_n hx hb dX11_property_10 rfl (lv_at hl 2 rfl) ?_
    refine lv_aload_n hx hb dX11_property_11 rfl (lv_at hl 0 rfl) ?_
    refine hk_get (ci := 14) (C := RX11) (T := TX11) (N := 11) (v := .int fm) hx hb hts iX11 hown hw 0 rfl rfl 0 (by decide) (hts _ (List.mem_of_getElem? (i := 15) rfl)) rfl dX11_property_12 ?_
    refine lv_iconst (v := 2) hx hb dX11_property_15 (by decide) ?_
    refine lv_icmp_ne (tgt := 23) hx hb dX11_property_16 (by decide) (fun cc_6 => ?_) (fun cc_6 => ?_)
    · refine lv_iconst (v := 0) hx hb dX11_property_23 (by decide) ?_
      refine hk_Vi (As := [.int wt, .int v, .int 0]) (rest := []) ⟨hx, hb, hml, hown, hts⟩ hw hA (cx_setCoding l D cI cJ ad (xf_g fm) xf_l ar bk _ wt v 0 rfl rfl) (cwV 3 hts gw_ct_property_1 rfl rfl rfl (by decide +kernel) ⟨Nat.le_of_ble_eq_true rfl, Nat.le_of_ble_eq_true rfl⟩) 1 (ci := 13) (T := TX10) (N := 10) rfl rfl rfl hl.1 rfl (Nat.le_of_ble_eq_true rfl) dX11_property_24 ⟨Nat.le_of_ble_eq_true rfl, Nat.le_of_ble_eq_true rfl⟩ (fun rr_7 uu_8 H locs hp_9 hw => ?_)
      have hw : hk_W D [(cI, .int), (cJ, .long)] _ s _ _ (xw cI cJ ad uu_8 xf_l ar bk) := hw
      refine lv_goto (tgt := 39) hx hb dX11_property_27 (by decide) ?_
      refine lv_istore_n (lv' := [(3, .int rr_7), (0, .ref (ad 0)), (1, .int wt), (2, .int v)]) hx hb dX11_property_39 rfl hl (by decide) rfl (fun ls hl => ?_)
      refine lv_iload_n hx hb dX11_property_40 rfl (lv_at hl 0 rfl) ?_
      refine lv_if_eq (tgt := 48) hx hb dX11_property_41 (by decide) (fun cc_10 => ?_) (fun cc_10 => ?_)
      · refine lv_iconst (v := 0) hx hb dX11_property_48 (by decide) ?_
        exact hk_iret (u := (uu_8, xf_l, ar, bk)) hx hb hr hlocks (hw) (by rcases hp_9 with ⟨h1, h2⟩ | ⟨h1, h2⟩ <;> simp only [Int32.lt_iff_toInt_lt, Int32.le_iff_toInt_le, ← Int32.toInt_inj, hk_t0, hk_t1, hk_t2, hk_t3, hk_t4, hk_t5, hk_t6, hk_t7, hk_t8, hk_t9, hk_t10, hk_t11, hk_t12, hk_t13, hk_t14, hk_t15, hk_t16, hk_t17, hk_t18, hk_t20, hk_t32, hk_tm1, hk_t256, hk_t1500, hk_t4096, hk_t2000, hk_t3000, hk_t512, hk_t1024, true_and, and_true, false_and, and_false, true_or, or_true, false_or, or_false, not_true_eq_false, not_false_eq_true] at cc_1 cc_6 cc_10 h1 h2 <;> unfold hk_qf <;> (repeat' split) <;> first | rfl | (exfalso; omega)) dX11_property_49
      · refine lv_iconst (v := 1) hx hb dX11_property_44 (by decide) ?_
        refine lv_goto (tgt := 49) hx hb dX11_property_45 (by decide) ?_
        exact hk_iret (u := (uu_8, xf_l, ar, bk)) hx hb hr hlocks (hw) (by rcases hp_9 with ⟨h1, h2⟩ | ⟨h1, h2⟩ <;> simp only [Int32.lt_iff_toInt_lt, Int32.le_iff_toInt_le, ← Int32.toInt_inj, hk_t0, hk_t1, hk_t2, hk_t3, hk_t4, hk_t5, hk_t6, hk_t7, hk_t8, hk_t9, hk_t10, hk_t11, hk_t12, hk_t13, hk_t14, hk_t15, hk_t16, hk_t17, hk_t18, hk_t20, hk_t32, hk_tm1, hk_t256, hk_t1500, hk_t4096, hk_t2000, hk_t3000, hk_t512, hk_t1024, true_and, and_true, false_and, and_false, true_or, or_true, false_or, or_false, not_true_eq_false, not_false_eq_true] at cc_1 cc_6 cc_10 h1 h2 <;> unfold hk_qf <;> (repeat' split) <;> first | rfl | (exfalso; omega)) dX11_property_49
    · refine lv_iconst (v := 1) hx hb dX11_property_19 (by decide) ?_
      refine lv_goto (tgt := 24) hx hb dX11_property_20 (by decide) ?_
      refine hk_Vi (As := [.int wt, .int v, .int 1]) (rest := []) ⟨hx, hb, hml, hown, hts⟩ hw hA (cx_setCoding l D cI cJ ad (xf_g fm) xf_l ar bk _ wt v 1 rfl rfl) (cwV 3 hts gw_ct_property_1 rfl rfl rfl (by decide +kernel) ⟨Nat.le_of_ble_eq_true rfl, Nat.le_of_ble_eq_true rfl⟩) 1 (ci := 13) (T := TX10) (N := 10) rfl rfl rfl hl.1 rfl (Nat.le_of_ble_eq_true rfl) dX11_property_24 ⟨Nat.le_of_ble_eq_true rfl, Nat.le_of_ble_eq_true rfl⟩ (fun rr_11 uu_12 H locs hp_13 hw => ?_)
      have hw : hk_W D [(cI, .int), (cJ, .long)] _ s _ _ (xw cI cJ ad uu_12 xf_l ar bk) := hw
      refine lv_goto (tgt := 39) hx hb dX11_property_27 (by decide) ?_
      refine lv_istore_n (lv' := [(3, .int rr_11), (0, .ref (ad 0)), (1, .int wt), (2, .int v)]) hx hb dX11_property_39 rfl hl (by decide) rfl (fun ls hl => ?_)
      refine lv_iload_n hx hb dX11_property_40 rfl (lv_at hl 0 rfl) ?_
      refine lv_if_eq (tgt := 48) hx hb dX11_property_41 (by decide) (fun cc_14 => ?_) (fun cc_14 => ?_)
      · refine lv_iconst (v := 0) hx hb dX11_property_48 (by decide) ?_
        exact hk_iret (u := (uu_12, xf_l, ar, bk)) hx hb hr hlocks (hw) (by rcases hp_13 with ⟨h1, h2⟩ | ⟨h1, h2⟩ <;> simp only [Int32.lt_iff_toInt_lt, Int32.le_iff_toInt_le, ← Int32.toInt_inj, hk_t0, hk_t1, hk_t2, hk_t3, hk_t4, hk_t5, hk_t6, hk_t7, hk_t8, hk_t9, hk_t10, hk_t11, hk_t12, hk_t13, hk_t14, hk_t15, hk_t16, hk_t17, hk_t18, hk_t20, hk_t32, hk_tm1, hk_t256, hk_t1500, hk_t4096, hk_t2000, hk_t3000, hk_t512, hk_t1024, true_and, and_true, false_and, and_false, true_or, or_true, false_or, or_false, not_true_eq_false, not_false_eq_true] at cc_1 cc_6 cc_14 h1 h2 <;> unfold hk_qf <;> (repeat' split) <;> first | rfl | (exfalso; omega)) dX11_property_49
      · refine lv_iconst (v := 1) hx hb dX11_property_44 (by decide) ?_
        refine lv_goto (tgt := 49) hx hb dX11_property_45 (by decide) ?_
        exact hk_iret (u := (uu_12, xf_l, ar, bk)) hx hb hr hlocks (hw) (by rcases hp_13 with ⟨h1, h2⟩ | ⟨h1, h2⟩ <;> simp only [Int32.lt_iff_toInt_lt, Int32.le_iff_toInt_le, ← Int32.toInt_inj, hk_t0, hk_t1, hk_t2, hk_t3, hk_t4, hk_t5, hk_t6, hk_t7, hk_t8, hk_t9, hk_t10, hk_t11, hk_t12, hk_t13, hk_t14, hk_t15, hk_t16, hk_t17, hk_t18, hk_t20, hk_t32, hk_tm1, hk_t256, hk_t1500, hk_t4096, hk_t2000, hk_t3000, hk_t512, hk_t1024, true_and, and_true, false_and, and_false, true_or, or_true, false_or, or_false, not_true_eq_false, not_false_eq_true] at cc_1 cc_6 cc_14 h1 h2 <;> unfold hk_qf <;> (repeat' split) <;> first | rfl | (exfalso; omega)) dX11_property_49

def ww_cx_stepPart : List Cond := Cond.code yX4_stepPart cX4_stepPart 3 (some .int) :: ([Cond.fieldLink RX4 18 "LzmaChains$Ledger" "steps" "I"] ++ (wsX40 ++ ([])))
set_option maxHeartbeats 4000000 in
set_option maxRecDepth 100000 in
/-- Ledger.stepPart, there is none -/
theorem cx_stepPart (l : Launch) (D : va_G) (cI cJ : ClassId) (ad : Nat → Nat) (g : Nat → Int32) (lg : Nat → Int64) (ar : Nat → Nat → Int32) (bk : Nat → Int64) (sz : Nat) (k v : Int32) (h25 : g 25 = 0) : Met l yX4_stepPart ww_cx_stepPart { frames := 0, cells := 0, slots := 0, locals := 0 } (va_Pc [.ref (ad 15), .int k, .int v] (hk_B D [(cI, .int), (cJ, .long)] sz (xw cI cJ ad g lg ar bk))) (va_Qi (fun (r : Int32) (u : Unit) => r = -1) (fun u : Unit => hk_E D [(cI, .int), (cJ, .long)] (va_A (xw cI cJ ad g lg ar bk) sz) (xw cI cJ ad g lg ar bk)) (va_A (xw cI cJ ad g lg ar bk) sz)) 0 0 (va_A (xw cI cJ ad g lg ar bk) sz) := by
  refine hk_met (cc := cX4_stepPart) (maxL := 3) (ret := (some .int)) (by decide) rfl (Nat.le_of_ble_eq_true rfl) ?_
  intro p e s m below meth c ls hx hb hr hml hown hts hlocks hin hA hw hl
  have iX4 : ∀ w ∈ wsX40, w ∈ ww_cx_stepPart := fun _ h => List.mem_cons_of_mem _ (List.mem_append_right _ (List.mem_append_left _ h))
  have hl : lv_has ls 3 [(0, .ref (ad 15)), (1, .int k), (2, .int v)] := hl
  refine lv_iload_n hx hb dX4_stepPart_0 rfl (lv_at hl 1 rfl) ?_
  refine lv_if_lt (tgt := 28) hx hb dX4_stepPart_1 (by decide) (fun cc_1 => ?_) (fun cc_1 => ?_)
  · refine lv_iconst (v := (-1)) hx hb dX4_stepPart_28 (by decide) ?_
    exact hk_iret (u := ()) hx hb hr hlocks (hw) (rfl) dX4_stepPart_29
  · refine lv_iload_n hx hb dX4_stepPart_4 rfl (lv_at hl 1 rfl) ?_
    refine lv_aload_n hx hb dX4_stepPart_5 rfl (lv_at hl 0 rfl) ?_
    refine hk_get (ci := 7) (C := RX4) (T := TX4) (N := 4) (v := .int 0) hx hb hts iX4 hown hw 15 rfl rfl 2 (by decide) (hts _ (List.mem_of_getElem? (i := 1) rfl)) (congrArg (fun z => some (Value.int z)) h25) dX4_stepPart_6 ?_
    refine lv_icmp_ge (tgt := 28) hx hb dX4_stepPart_9 (by decide) (fun _ => ?_) (fun cc_2 => absurd (by simp only [Int32.lt_iff_toInt_lt, Int32.le_iff_toInt_le, hk_t0] at *; omega) cc_2)
    refine lv_iconst (v := (-1)) hx hb dX4_stepPart_28 (by decide) ?_
    exact hk_iret (u := ()) hx hb hr hlocks (hw) (rfl) dX4_stepPart_29

def ww_cx_blockPart : List Cond := Cond.code yX4_blockPart cX4_blockPart 3 (some .int) :: ([Cond.fieldLink RX4 22 "LzmaChains$Ledger" "blocks" "I"] ++ (wsX40 ++ ([])))
set_option maxHeartbeats 4000000 in
set_option maxRecDepth 100000 in
/-- Ledger.blockPart, there is none -/
theorem cx_blockPart (l : Launch) (D : va_G) (cI cJ : ClassId) (ad : Nat → Nat) (g : Nat → Int32) (lg : Nat → Int64) (ar : Nat → Nat → Int32) (bk : Nat → Int64) (sz : Nat) (k v : Int32) (h26 : g 26 = 0) : Met l yX4_blockPart ww_cx_blockPart { frames := 0, cells := 0, slots := 0, locals := 0 } (va_Pc [.ref (ad 15), .int k, .int v] (hk_B D [(cI, .int), (cJ, .long)] sz (xw cI cJ ad g lg ar bk))) (va_Qi (fun (r : Int32) (u : Unit) => r = -1) (fun u : Unit => hk_E D [(cI, .int), (cJ, .long)] (va_A (xw cI cJ ad g lg ar bk) sz) (xw cI cJ ad g lg ar bk)) (va_A (xw cI cJ ad g lg ar bk) sz)) 0 0 (va_A (xw cI cJ ad g lg ar bk) sz) := by
  refine hk_met (cc := cX4_blockPart) (maxL := 3) (ret := (some .int)) (by decide) rfl (Nat.le_of_ble_eq_true rfl) ?_
  intro p e s m below meth c ls hx hb hr hml hown hts hlocks hin hA hw hl
  have iX4 : ∀ w ∈ wsX40, w ∈ ww_cx_blockPart := fun _ h => List.mem_cons_of_mem _ (List.mem_append_right _ (List.mem_append_left _ h))
  have hl : lv_has ls 3 [(0, .ref (ad 15)), (1, .int k), (2, .int v)] := hl
  refine lv_iload_n hx hb dX4_blockPart_0 rfl (lv_at hl 1 rfl) ?_
  refine lv_if_lt (tgt := 28) hx hb dX4_blockPart_1 (by decide) (fun cc_1 => ?_) (fun cc_1 => ?_)
  · refine lv_iconst (v := (-1)) hx hb dX4_blockPart_28 (by decide) ?_
    exact hk_iret (u := ()) hx hb hr hlocks (hw) (rfl) dX4_blockPart_29
  · refine lv_iload_n hx hb dX4_blockPart_4 rfl (lv_at hl 1 rfl) ?_
    refine lv_aload_n hx hb dX4_blockPart_5 rfl (lv_at hl 0 rfl) ?_
    refine hk_get (ci := 7) (C := RX4) (T := TX4) (N := 4) (v := .int 0) hx hb hts iX4 hown hw 15 rfl rfl 3 (by decide) (hts _ (List.mem_of_getElem? (i := 1) rfl)) (congrArg (fun z => some (Value.int z)) h26) dX4_blockPart_6 ?_
    refine lv_icmp_ge (tgt := 28) hx hb dX4_blockPart_9 (by decide) (fun _ => ?_) (fun cc_2 => absurd (by simp only [Int32.lt_iff_toInt_lt, Int32.le_iff_toInt_le, hk_t0] at *; omega) cc_2)
    refine lv_iconst (v := (-1)) hx hb dX4_blockPart_28 (by decide) ?_
    exact hk_iret (u := ()) hx hb hr hlocks (hw) (rfl) dX4_blockPart_29

def ww_ct_step : List Cond := Cond.code yX11_step cX11_step 3 (some .int) :: ([Cond.fieldLink RX11 61 "LzmaChains" "ledger" "LLzmaChains$Ledger;", Cond.methodLink RX11 226 yX4_stepPart, Cond.instanceMethod yX4_stepPart, Cond.selects RX4 yX4_stepPart yX4_stepPart, Cond.initialized RX4, Cond.code yX4_stepPart cX4_stepPart 3 (some .int), Cond.fieldLink RX4 18 "LzmaChains$Ledger" "steps" "I", Cond.fieldLink RX11 223 "LzmaChains$Ledger" "steps" "I"] ++ (wsX110 ++ (wsX40 ++ ([]))))
set_option maxRecDepth 20000 in
theorem gw_ct_step_0 : GoodIn ww_ct_step (wsV RX11 226 RX4 yX4_stepPart ww_cx_stepPart) := goodIn_r _ [2, 3, 4, 5, 6, 7, 20, 21, 22, 23] rfl (by decide +kernel)
set_option maxHeartbeats 4000000 in
set_option maxRecDepth 100000 in
/-- step on a new object -/
theorem ct_step (l : Launch) (D : va_G) (cI cJ : ClassId) (ad : Nat → Nat) (fm : Int32) (ar : Nat → Nat → Int32) (bk : Nat → Int64) (sz : Nat) (k v : Int32) : Met l yX11_step ww_ct_step { frames := 1, cells := 0, slots := 0, locals := 22 } (va_Pc [.ref (ad 0), .int k, .int v] (hk_B D [(cI, .int), (cJ, .long)] sz (xw cI cJ ad (xf_g fm) xf_l ar bk))) (va_Qi (fun (r : Int32) (u : (Nat → Int32) × (Nat → Int64) × (Nat → Nat → Int32) × (Nat → Int64)) => (r.toInt = 0 ∧ k.toInt = -1 ∧ v.toInt = 0) ∨ (r.toInt = -1 ∧ ¬ (k.toInt = -1 ∧ v.toInt = 0))) (fun u : (Nat → Int32) × (Nat → Int64) × (Nat → Nat → Int32) × (Nat → Int64) => hk_E D [(cI, .int), (cJ, .long)] (va_A (xw cI cJ ad (xf_g fm) xf_l ar bk) sz) (xw cI cJ ad u.1 u.2.1 u.2.2.1 u.2.2.2)) (va_A (xw cI cJ ad (xf_g fm) xf_l ar bk) sz)) 0 0 (va_A (xw cI cJ ad (xf_g fm) xf_l ar bk) sz) := by
  refine hk_met (cc := cX11_step) (maxL := 3) (ret := (some .int)) (by decide) rfl (Nat.le_of_ble_eq_true rfl) ?_
  intro p e s m below meth c ls hx hb hr hml hown hts hlocks hin hA hw hl
  have iX11 : ∀ w ∈ wsX110, w ∈ ww_ct_step := fun _ h => List.mem_cons_of_mem _ (List.mem_append_right _ (List.mem_append_left _ h))
  have iX4 : ∀ w ∈ wsX40, w ∈ ww_ct_step := fun _ h => List.mem_cons_of_mem _ (List.mem_append_right _ (List.mem_append_right _ (List.mem_append_left _ h)))
  have hl : lv_has ls 3 [(0, .ref (ad 0)), (1, .int k), (2, .int v)] := hl
  refine lv_iload_n hx hb dX11_step_0 rfl (lv_at hl 1 rfl) ?_
  refine lv_iconst (v := (-1)) hx hb dX11_step_1 (by decide) ?_
  refine lv_icmp_ne (tgt := 17) hx hb dX11_step_2 (by decide) (fun cc_1 => ?_) (fun cc_1 => ?_)
  · refine lv_aload_n hx hb dX11_step_17 rfl (lv_at hl 0 rfl) ?_
    refine hk_get (ci := 14) (C := RX11) (T := TX11) (N := 11) (v := .ref (ad 15)) hx hb hts iX11 hown hw 0 rfl rfl 6 (by decide) (hts _ (List.mem_of_getElem? (i := 1) rfl)) rfl dX11_step_18 ?_
    refine lv_iload_n hx hb dX11_step_21 rfl (lv_at hl 1 rfl) ?_
    refine lv_iload_n hx hb dX11_step_22 rfl (lv_at hl 2 rfl) ?_
    refine hk_Vi (As := [.int k, .int v]) (rest := []) ⟨hx, hb, hml, hown, hts⟩ hw hA (cx_stepPart l D cI cJ ad (xf_g fm) xf_l ar bk _ k v rfl) (cwV 2 hts gw_ct_step_0 rfl rfl rfl (by decide +kernel) ⟨Nat.le_of_ble_eq_true rfl, Nat.le_of_ble_eq_true rfl⟩) 15 (ci := 7) (T := TX4) (N := 4) rfl rfl rfl hl.1 rfl (Nat.le_of_ble_eq_true rfl) dX11_step_23 ⟨Nat.le_of_ble_eq_true rfl, Nat.le_of_ble_eq_true rfl⟩ (fun rr_2 uu_3 H locs hp_4 hw => ?_)
    subst hp_4
    have hw : hk_W D [(cI, .int), (cJ, .long)] _ s _ _ (xw cI cJ ad (xf_g fm) xf_l ar bk) := hw
    exact hk_iret (u := ((xf_g fm), xf_l, ar, bk)) hx hb hr hlocks (hw) (by simp only [Int32.lt_iff_toInt_lt, Int32.le_iff_toInt_le, ← Int32.toInt_inj, hk_t0, hk_t1, hk_t2, hk_t3, hk_t4, hk_t5, hk_t6, hk_t7, hk_t8, hk_t9, hk_t10, hk_t11, hk_t12, hk_t13, hk_t14, hk_t15, hk_t16, hk_t17, hk_t18, hk_t20, hk_t32, hk_tm1, hk_t256, hk_t1500, hk_t4096, hk_t2000, hk_t3000, hk_t512, hk_t1024, true_and, and_true, false_and, and_false, true_or, or_true, false_or, or_false, not_true_eq_false, not_false_eq_true] at cc_1 ⊢; omega) dX11_step_26
  · refine lv_iload_n hx hb dX11_step_5 rfl (lv_at hl 2 rfl) ?_
    refine lv_if_ne (tgt := 17) hx hb dX11_step_6 (by decide) (fun cc_5 => ?_) (fun cc_5 => ?_)
    · refine lv_aload_n hx hb dX11_step_17 rfl (lv_at hl 0 rfl) ?_
      refine hk_get (ci := 14) (C := RX11) (T := TX11) (N := 11) (v := .ref (ad 15)) hx hb hts iX11 hown hw 0 rfl rfl 6 (by decide) (hts _ (List.mem_of_getElem? (i := 1) rfl)) rfl dX11_step_18 ?_
      refine lv_iload_n hx hb dX11_step_21 rfl (lv_at hl 1 rfl) ?_
      refine lv_iload_n hx hb dX11_step_22 rfl (lv_at hl 2 rfl) ?_
      refine hk_Vi (As := [.int k, .int v]) (rest := []) ⟨hx, hb, hml, hown, hts⟩ hw hA (cx_stepPart l D cI cJ ad (xf_g fm) xf_l ar bk _ k v rfl) (cwV 2 hts gw_ct_step_0 rfl rfl rfl (by decide +kernel) ⟨Nat.le_of_ble_eq_true rfl, Nat.le_of_ble_eq_true rfl⟩) 15 (ci := 7) (T := TX4) (N := 4) rfl rfl rfl hl.1 rfl (Nat.le_of_ble_eq_true rfl) dX11_step_23 ⟨Nat.le_of_ble_eq_true rfl, Nat.le_of_ble_eq_true rfl⟩ (fun rr_6 uu_7 H locs hp_8 hw => ?_)
      subst hp_8
      have hw : hk_W D [(cI, .int), (cJ, .long)] _ s _ _ (xw cI cJ ad (xf_g fm) xf_l ar bk) := hw
      exact hk_iret (u := ((xf_g fm), xf_l, ar, bk)) hx hb hr hlocks (hw) (by simp only [Int32.lt_iff_toInt_lt, Int32.le_iff_toInt_le, ← Int32.toInt_inj, hk_t0, hk_t1, hk_t2, hk_t3, hk_t4, hk_t5, hk_t6, hk_t7, hk_t8, hk_t9, hk_t10, hk_t11, hk_t12, hk_t13, hk_t14, hk_t15, hk_t16, hk_t17, hk_t18, hk_t20, hk_t32, hk_tm1, hk_t256, hk_t1500, hk_t4096, hk_t2000, hk_t3000, hk_t512, hk_t1024, true_and, and_true, false_and, and_false, true_or, or_true, false_or, or_false, not_true_eq_false, not_false_eq_true] at cc_1 cc_5 ⊢; omega) dX11_step_26
    · refine lv_aload_n hx hb dX11_step_9 rfl (lv_at hl 0 rfl) ?_
      refine hk_get (ci := 14) (C := RX11) (T := TX11) (N := 11) (v := .ref (ad 15)) hx hb hts iX11 hown hw 0 rfl rfl 6 (by decide) (hts _ (List.mem_of_getElem? (i := 1) rfl)) rfl dX11_step_10 ?_
      refine hk_get (ci := 7) (C := RX4) (T := TX4) (N := 4) (v := .int 0) hx hb hts iX4 hown hw 15 rfl rfl 2 (by decide) (hts _ (List.mem_of_getElem? (i := 8) rfl)) rfl dX11_step_13 ?_
      exact hk_iret (u := ((xf_g fm), xf_l, ar, bk)) hx hb hr hlocks (hw) (by simp only [Int32.lt_iff_toInt_lt, Int32.le_iff_toInt_le, ← Int32.toInt_inj, hk_t0, hk_t1, hk_t2, hk_t3, hk_t4, hk_t5, hk_t6, hk_t7, hk_t8, hk_t9, hk_t10, hk_t11, hk_t12, hk_t13, hk_t14, hk_t15, hk_t16, hk_t17, hk_t18, hk_t20, hk_t32, hk_tm1, hk_t256, hk_t1500, hk_t4096, hk_t2000, hk_t3000, hk_t512, hk_t1024, true_and, and_true, false_and, and_false, true_or, or_true, false_or, or_false, not_true_eq_false, not_false_eq_true] at cc_1 cc_5 ⊢; omega) dX11_step_16

def ww_ct_block : List Cond := Cond.code yX11_block cX11_block 3 (some .int) :: ([Cond.fieldLink RX11 61 "LzmaChains" "ledger" "LLzmaChains$Ledger;", Cond.methodLink RX11 232 yX4_blockPart, Cond.instanceMethod yX4_blockPart, Cond.selects RX4 yX4_blockPart yX4_blockPart, Cond.initialized RX4, Cond.code yX4_blockPart cX4_blockPart 3 (some .int), Cond.fieldLink RX4 22 "LzmaChains$Ledger" "blocks" "I", Cond.fieldLink RX11 229 "LzmaChains$Ledger" "blocks" "I"] ++ (wsX110 ++ (wsX40 ++ ([]))))
set_option maxRecDepth 20000 in
theorem gw_ct_block_0 : GoodIn ww_ct_block (wsV RX11 232 RX4 yX4_blockPart ww_cx_blockPart) := goodIn_r _ [2, 3, 4, 5, 6, 7, 20, 21, 22, 23] rfl (by decide +kernel)
set_option maxHeartbeats 4000000 in
set_option maxRecDepth 100000 in
/-- block on a new object -/
theorem ct_block (l : Launch) (D : va_G) (cI cJ : ClassId) (ad : Nat → Nat) (fm : Int32) (ar : Nat → Nat → Int32) (bk : Nat → Int64) (sz : Nat) (k v : Int32) : Met l yX11_block ww_ct_block { frames := 1, cells := 0, slots := 0, locals := 22 } (va_Pc [.ref (ad 0), .int k, .int v] (hk_B D [(cI, .int), (cJ, .long)] sz (xw cI cJ ad (xf_g fm) xf_l ar bk))) (va_Qi (fun (r : Int32) (u : (Nat → Int32) × (Nat → Int64) × (Nat → Nat → Int32) × (Nat → Int64)) => (r.toInt = 0 ∧ k.toInt = -1 ∧ v.toInt = 0) ∨ (r.toInt = -1 ∧ ¬ (k.toInt = -1 ∧ v.toInt = 0))) (fun u : (Nat → Int32) × (Nat → Int64) × (Nat → Nat → Int32) × (Nat → Int64) => hk_E D [(cI, .int), (cJ, .long)] (va_A (xw cI cJ ad (xf_g fm) xf_l ar bk) sz) (xw cI cJ ad u.1 u.2.1 u.2.2.1 u.2.2.2)) (va_A (xw cI cJ ad (xf_g fm) xf_l ar bk) sz)) 0 0 (va_A (xw cI cJ ad (xf_g fm) xf_l ar bk) sz) := by
  refine hk_met (cc := cX11_block) (maxL := 3) (ret := (some .int)) (by decide) rfl (Nat.le_of_ble_eq_true rfl) ?_
  intro p e s m below meth c ls hx hb hr hml hown hts hlocks hin hA hw hl
  have iX11 : ∀ w ∈ wsX110, w ∈ ww_ct_block := fun _ h => List.mem_cons_of_mem _ (List.mem_append_right _ (List.mem_append_left _ h))
  have iX4 : ∀ w ∈ wsX40, w ∈ ww_ct_block := fun _ h => List.mem_cons_of_mem _ (List.mem_append_right _ (List.mem_append_right _ (List.mem_append_left _ h)))
  have hl : lv_has ls 3 [(0, .ref (ad 0)), (1, .int k), (2, .int v)] := hl
  refine lv_iload_n hx hb dX11_block_0 rfl (lv_at hl 1 rfl) ?_
  refine lv_iconst (v := (-1)) hx hb dX11_block_1 (by decide) ?_
  refine lv_icmp_ne (tgt := 17) hx hb dX11_block_2 (by decide) (fun cc_1 => ?_) (fun cc_1 => ?_)
  · refine lv_aload_n hx hb dX11_block_17 rfl (lv_at hl 0 rfl) ?_
    refine hk_get (ci := 14) (C := RX11) (T := TX11) (N := 11) (v := .ref (ad 15)) hx hb hts iX11 hown hw 0 rfl rfl 6 (by decide) (hts _ (List.mem_of_getElem? (i := 1) rfl)) rfl dX11_block_18 ?_
    refine lv_iload_n hx hb dX11_block_21 rfl (lv_at hl 1 rfl) ?_
    refine lv_iload_n hx hb dX11_block_22 rfl (lv_at hl 2 rfl) ?_
    refine hk_Vi (As := [.int k, .int v]) (rest := []) ⟨hx, hb, hml, hown, hts⟩ hw hA (cx_blockPart l D cI cJ ad (xf_g fm) xf_l ar bk _ k v rfl) (cwV 2 hts gw_ct_block_0 rfl rfl rfl (by decide +kernel) ⟨Nat.le_of_ble_eq_true rfl, Nat.le_of_ble_eq_true rfl⟩) 15 (ci := 7) (T := TX4) (N := 4) rfl rfl rfl hl.1 rfl (Nat.le_of_ble_eq_true rfl) dX11_block_23 ⟨Nat.le_of_ble_eq_true rfl, Nat.le_of_ble_eq_true rfl⟩ (fun rr_2 uu_3 H locs hp_4 hw => ?_)
    subst hp_4
    have hw : hk_W D [(cI, .int), (cJ, .long)] _ s _ _ (xw cI cJ ad (xf_g fm) xf_l ar bk) := hw
    exact hk_iret (u := ((xf_g fm), xf_l, ar, bk)) hx hb hr hlocks (hw) (by simp only [Int32.lt_iff_toInt_lt, Int32.le_iff_toInt_le, ← Int32.toInt_inj, hk_t0, hk_t1, hk_t2, hk_t3, hk_t4, hk_t5, hk_t6, hk_t7, hk_t8, hk_t9, hk_t10, hk_t11, hk_t12, hk_t13, hk_t14, hk_t15, hk_t16, hk_t17, hk_t18, hk_t20, hk_t32, hk_tm1, hk_t256, hk_t1500, hk_t4096, hk_t2000, hk_t3000, hk_t512, hk_t1024, true_and, and_true, false_and, and_false, true_or, or_true, false_or, or_false, not_true_eq_false, not_false_eq_true] at cc_1 ⊢; omega) dX11_block_26
  · refine lv_iload_n hx hb dX11_block_5 rfl (lv_at hl 2 rfl) ?_
    refine lv_if_ne (tgt := 17) hx hb dX11_block_6 (by decide) (fun cc_5 => ?_) (fun cc_5 => ?_)
    · refine lv_aload_n hx hb dX11_block_17 rfl (lv_at hl 0 rfl) ?_
      refine hk_get (ci := 14) (C := RX11) (T := TX11) (N := 11) (v := .ref (ad 15)) hx hb hts iX11 hown hw 0 rfl rfl 6 (by decide) (hts _ (List.mem_of_getElem? (i := 1) rfl)) rfl dX11_block_18 ?_
      refine lv_iload_n hx hb dX11_block_21 rfl (lv_at hl 1 rfl) ?_
      refine lv_iload_n hx hb dX11_block_22 rfl (lv_at hl 2 rfl) ?_
      refine hk_Vi (As := [.int k, .int v]) (rest := []) ⟨hx, hb, hml, hown, hts⟩ hw hA (cx_blockPart l D cI cJ ad (xf_g fm) xf_l ar bk _ k v rfl) (cwV 2 hts gw_ct_block_0 rfl rfl rfl (by decide +kernel) ⟨Nat.le_of_ble_eq_true rfl, Nat.le_of_ble_eq_true rfl⟩) 15 (ci := 7) (T := TX4) (N := 4) rfl rfl rfl hl.1 rfl (Nat.le_of_ble_eq_true rfl) dX11_block_23 ⟨Nat.le_of_ble_eq_true rfl, Nat.le_of_ble_eq_true rfl⟩ (fun rr_6 uu_7 H locs hp_8 hw => ?_)
      subst hp_8
      have hw : hk_W D [(cI, .int), (cJ, .long)] _ s _ _ (xw cI cJ ad (xf_g fm) xf_l ar bk) := hw
      exact hk_iret (u := ((xf_g fm), xf_l, ar, bk)) hx hb hr hlocks (hw) (by simp only [Int32.lt_iff_toInt_lt, Int32.le_iff_toInt_le, ← Int32.toInt_inj, hk_t0, hk_t1, hk_t2, hk_t3, hk_t4, hk_t5, hk_t6, hk_t7, hk_t8, hk_t9, hk_t10, hk_t11, hk_t12, hk_t13, hk_t14, hk_t15, hk_t16, hk_t17, hk_t18, hk_t20, hk_t32, hk_tm1, hk_t256, hk_t1500, hk_t4096, hk_t2000, hk_t3000, hk_t512, hk_t1024, true_and, and_true, false_and, and_false, true_or, or_true, false_or, or_false, not_true_eq_false, not_false_eq_true] at cc_1 cc_5 ⊢; omega) dX11_block_26
    · refine lv_aload_n hx hb dX11_block_9 rfl (lv_at hl 0 rfl) ?_
      refine hk_get (ci := 14) (C := RX11) (T := TX11) (N := 11) (v := .ref (ad 15)) hx hb hts iX11 hown hw 0 rfl rfl 6 (by decide) (hts _ (List.mem_of_getElem? (i := 1) rfl)) rfl dX11_block_10 ?_
      refine hk_get (ci := 7) (C := RX4) (T := TX4) (N := 4) (v := .int 0) hx hb hts iX4 hown hw 15 rfl rfl 3 (by decide) (hts _ (List.mem_of_getElem? (i := 8) rfl)) rfl dX11_block_13 ?_
      exact hk_iret (u := ((xf_g fm), xf_l, ar, bk)) hx hb hr hlocks (hw) (by simp only [Int32.lt_iff_toInt_lt, Int32.le_iff_toInt_le, ← Int32.toInt_inj, hk_t0, hk_t1, hk_t2, hk_t3, hk_t4, hk_t5, hk_t6, hk_t7, hk_t8, hk_t9, hk_t10, hk_t11, hk_t12, hk_t13, hk_t14, hk_t15, hk_t16, hk_t17, hk_t18, hk_t20, hk_t32, hk_tm1, hk_t256, hk_t1500, hk_t4096, hk_t2000, hk_t3000, hk_t512, hk_t1024, true_and, and_true, false_and, and_false, true_or, or_true, false_or, or_false, not_true_eq_false, not_false_eq_true] at cc_1 cc_5 ⊢; omega) dX11_block_16

def ww_ct_pass : List Cond := Cond.code yX11_pass cX11_pass 2 (some .int) :: ([Cond.fieldLink RX11 29 "LzmaChains" "output" "LLzmaChains$Row;", Cond.fieldLink RX11 100 "LzmaChains$Row" "size" "I", Cond.fieldLink RX11 25 "LzmaChains" "input" "LLzmaChains$Row;"] ++ (wsX110 ++ (wsX90 ++ ([]))))
set_option maxHeartbeats 4000000 in
set_option maxRecDepth 100000 in
/-- pass on a new object -/
theorem ct_pass (l : Launch) (D : va_G) (cI cJ : ClassId) (ad : Nat → Nat) (fm : Int32) (ar : Nat → Nat → Int32) (bk : Nat → Int64) (sz : Nat)  : Met l yX11_pass ww_ct_pass { frames := 0, cells := 0, slots := 0, locals := 0 } (va_Pc [.ref (ad 0)] (hk_B D [(cI, .int), (cJ, .long)] sz (xw cI cJ ad (xf_g fm) xf_l ar bk))) (va_Qi (fun (r : Int32) (u : (Nat → Int32) × (Nat → Int64) × (Nat → Nat → Int32) × (Nat → Int64)) => r = 0) (fun u : (Nat → Int32) × (Nat → Int64) × (Nat → Nat → Int32) × (Nat → Int64) => hk_E D [(cI, .int), (cJ, .long)] (va_A (xw cI cJ ad (xf_g fm) xf_l ar bk) sz) (xw cI cJ ad u.1 u.2.1 u.2.2.1 u.2.2.2)) (va_A (xw cI cJ ad (xf_g fm) xf_l ar bk) sz)) 0 0 (va_A (xw cI cJ ad (xf_g fm) xf_l ar bk) sz) := by
  refine hk_met (cc := cX11_pass) (maxL := 2) (ret := (some .int)) (by decide) rfl (Nat.le_of_ble_eq_true rfl) ?_
  intro p e s m below meth c ls hx hb hr hml hown hts hlocks hin hA hw hl
  have iX11 : ∀ w ∈ wsX110, w ∈ ww_ct_pass := fun _ h => List.mem_cons_of_mem _ (List.mem_append_right _ (List.mem_append_left _ h))
  have iX9 : ∀ w ∈ wsX90, w ∈ ww_ct_pass := fun _ h => List.mem_cons_of_mem _ (List.mem_append_right _ (List.mem_append_right _ (List.mem_append_left _ h)))
  have hl : lv_has ls 2 [(0, .ref (ad 0))] := hl
  refine lv_aload_n hx hb dX11_pass_0 rfl (lv_at hl 0 rfl) ?_
  refine hk_get (ci := 14) (C := RX11) (T := TX11) (N := 11) (v := .ref (ad 4)) hx hb hts iX11 hown hw 0 rfl rfl 3 (by decide) (hts _ (List.mem_of_getElem? (i := 1) rfl)) rfl dX11_pass_1 ?_
  refine hk_get (ci := 12) (C := RX9) (T := TX9) (N := 2) (v := .int 0) hx hb hts iX9 hown hw 4 rfl rfl 1 (by decide) (hts _ (List.mem_of_getElem? (i := 2) rfl)) rfl dX11_pass_4 ?_
  refine lv_sipush (v := 1500) hx hb dX11_pass_7 (by decide) ?_
  refine lv_icmp_le (tgt := 16) hx hb dX11_pass_10 (by decide) (fun _ => ?_) (fun cc_1 => absurd (by decide) cc_1)
  refine lv_aload_n hx hb dX11_pass_16 rfl (lv_at hl 0 rfl) ?_
  refine hk_get (ci := 14) (C := RX11) (T := TX11) (N := 11) (v := .ref (ad 2)) hx hb hts iX11 hown hw 0 rfl rfl 2 (by decide) (hts _ (List.mem_of_getElem? (i := 3) rfl)) rfl dX11_pass_17 ?_
  refine lv_iconst (v := 0) hx hb dX11_pass_20 (by decide) ?_
  refine hk_put (ci := 12) (C := RX9) (T := TX9) (N := 2) (ty := .int) (v := .int 0) hx hb hts iX9 tyX9 tyX9_ok nmX9 hown hw 2 rfl rfl 1 (by decide) (hts _ (List.mem_of_getElem? (i := 2) rfl)) rfl (by decide +kernel) rfl rfl (Nat.le_of_ble_eq_true rfl) dX11_pass_21 (ws' := xw cI cJ ad (upd (xf_g fm) 13 0) xf_l ar bk) rfl (fun H locs hw => ?_)
  refine lv_iconst (v := 0) hx hb dX11_pass_24 (by decide) ?_
  refine lv_istore_n (lv' := [(1, .int 0), (0, .ref (ad 0))]) hx hb dX11_pass_25 rfl hl (by decide) rfl (fun ls hl => ?_)
  refine lv_iload_n hx hb dX11_pass_26 rfl (lv_at hl 0 rfl) ?_
  refine lv_aload_n hx hb dX11_pass_27 rfl (lv_at hl 1 rfl) ?_
  refine hk_get (ci := 14) (C := RX11) (T := TX11) (N := 11) (v := .ref (ad 4)) hx hb hts iX11 hown hw 0 rfl rfl 3 (by decide) (hts _ (List.mem_of_getElem? (i := 1) rfl)) rfl dX11_pass_28 ?_
  refine hk_get (ci := 12) (C := RX9) (T := TX9) (N := 2) (v := .int 0) hx hb hts iX9 hown hw 4 rfl rfl 1 (by decide) (hts _ (List.mem_of_getElem? (i := 2) rfl)) rfl dX11_pass_31 ?_
  refine lv_icmp_ge (tgt := 58) hx hb dX11_pass_34 (by decide) (fun _ => ?_) (fun cc_2 => absurd (by decide) cc_2)
  refine lv_aload_n hx hb dX11_pass_58 rfl (lv_at hl 1 rfl) ?_
  refine hk_get (ci := 14) (C := RX11) (T := TX11) (N := 11) (v := .ref (ad 2)) hx hb hts iX11 hown hw 0 rfl rfl 2 (by decide) (hts _ (List.mem_of_getElem? (i := 3) rfl)) rfl dX11_pass_59 ?_
  refine hk_get (ci := 12) (C := RX9) (T := TX9) (N := 2) (v := .int 0) hx hb hts iX9 hown hw 2 rfl rfl 1 (by decide) (hts _ (List.mem_of_getElem? (i := 2) rfl)) rfl dX11_pass_62 ?_
  exact hk_iret (u := ((upd (xf_g fm) 13 0), xf_l, ar, bk)) hx hb hr hlocks (hw) (rfl) dX11_pass_65

def ww_cx_delta : List Cond := Cond.code yX9_delta cX9_delta 9 none :: ([] ++ ([]))
set_option maxHeartbeats 4000000 in
set_option maxRecDepth 100000 in
/-- Row.delta of nothing -/
theorem cx_delta (l : Launch) (D : va_G) (cI cJ : ClassId) (ad : Nat → Nat) (g : Nat → Int32) (lg : Nat → Int64) (ar : Nat → Nat → Int32) (bk : Nat → Int64) (sz : Nat) (v bc : Int32) (hv : 1 ≤ v.toInt) (hv2 : v.toInt ≤ 256) (h14 : g 14 = 0) : Met l yX9_delta ww_cx_delta { frames := 0, cells := 0, slots := 0, locals := 0 } (va_Pc [.ref (ad 4), .int 0, .int 0, .int v, .int bc] (hk_B D [(cI, .int), (cJ, .long)] sz (xw cI cJ ad g lg ar bk))) (va_Qv (fun u : Unit => True) (fun u : Unit => hk_E D [(cI, .int), (cJ, .long)] (va_A (xw cI cJ ad g lg ar bk) sz) (xw cI cJ ad g lg ar bk)) (va_A (xw cI cJ ad g lg ar bk) sz)) 0 0 (va_A (xw cI cJ ad g lg ar bk) sz) := by
  refine hk_met (cc := cX9_delta) (maxL := 9) (ret := none) (by decide) rfl (Nat.le_of_ble_eq_true rfl) ?_
  intro p e s m below meth c ls hx hb hr hml hown hts hlocks hin hA hw hl
  have hl : lv_has ls 9 [(0, .ref (ad 4)), (1, .int 0), (2, .int 0), (3, .int v), (4, .int bc)] := hl
  refine lv_iload_n hx hb dX9_delta_0 rfl (lv_at hl 2 rfl) ?_
  refine lv_iload_n hx hb dX9_delta_1 rfl (lv_at hl 1 rfl) ?_
  refine lv_isub hx hb dX9_delta_2 ?_
  refine hk_topi 0 (by decide +kernel) ?_
  refine lv_iload_n hx hb dX9_delta_3 rfl (lv_at hl 3 rfl) ?_
  refine lv_isub hx hb dX9_delta_4 ?_
  refine lv_istore (lv' := [(5, .int (0 - v)), (0, .ref (ad 4)), (1, .int 0), (2, .int 0), (3, .int v), (4, .int bc)]) hx hb dX9_delta_5 hl (by decide) rfl (fun ls hl => ?_)
  refine lv_iconst (v := 0) hx hb dX9_delta_7 (by decide) ?_
  refine lv_istore (lv' := [(6, .int 0), (5, .int (0 - v)), (0, .ref (ad 4)), (1, .int 0), (2, .int 0), (3, .int v), (4, .int bc)]) hx hb dX9_delta_8 hl (by decide) rfl (fun ls hl => ?_)
  refine lv_iload hx hb dX9_delta_10 (lv_at hl 0 rfl) ?_
  refine lv_iload hx hb dX9_delta_12 (lv_at hl 1 rfl) ?_
  refine lv_icmp_ge (tgt := 87) hx hb dX9_delta_14 (by decide) (fun _ => ?_) (fun cc_1 => absurd (hk_negle hv hv2) cc_1)
  exact hk_vret (u := ()) hx hb hr hlocks (hw) (trivial) dX9_delta_87

def ww_cx_branch : List Cond := Cond.code yX9_branch cX9_branch 8 none :: ([] ++ ([]))
set_option maxHeartbeats 4000000 in
set_option maxRecDepth 100000 in
/-- Row.branch of nothing -/
theorem cx_branch (l : Launch) (D : va_G) (cI cJ : ClassId) (ad : Nat → Nat) (g : Nat → Int32) (lg : Nat → Int64) (ar : Nat → Nat → Int32) (bk : Nat → Int64) (sz : Nat) (bc : Int32) (h14 : g 14 = 0) : Met l yX9_branch ww_cx_branch { frames := 0, cells := 0, slots := 0, locals := 0 } (va_Pc [.ref (ad 4), .int 0, .int 0, .int bc] (hk_B D [(cI, .int), (cJ, .long)] sz (xw cI cJ ad g lg ar bk))) (va_Qv (fun u : Unit => True) (fun u : Unit => hk_E D [(cI, .int), (cJ, .long)] (va_A (xw cI cJ ad g lg ar bk) sz) (xw cI cJ ad g lg ar bk)) (va_A (xw cI cJ ad g lg ar bk) sz)) 0 0 (va_A (xw cI cJ ad g lg ar bk) sz) := by
  refine hk_met (cc := cX9_branch) (maxL := 8) (ret := none) (by decide) rfl (Nat.le_of_ble_eq_true rfl) ?_
  intro p e s m below meth c ls hx hb hr hml hown hts hlocks hin hA hw hl
  have hl : lv_has ls 8 [(0, .ref (ad 4)), (1, .int 0), (2, .int 0), (3, .int bc)] := hl
  refine lv_iload_n hx hb dX9_branch_0 rfl (lv_at hl 1 rfl) ?_
  refine lv_istore (lv' := [(4, .int 0), (0, .ref (ad 4)), (1, .int 0), (2, .int 0), (3, .int bc)]) hx hb dX9_branch_1 hl (by decide) rfl (fun ls hl => ?_)
  refine lv_iload hx hb dX9_branch_3 (lv_at hl 0 rfl) ?_
  refine lv_iconst (v := 3) hx hb dX9_branch_5 (by decide) ?_
  refine lv_iadd hx hb dX9_branch_6 ?_
  refine hk_topi 3 (by decide +kernel) ?_
  refine lv_iload_n hx hb dX9_branch_7 rfl (lv_at hl 3 rfl) ?_
  refine lv_icmp_ge (tgt := 129) hx hb dX9_branch_8 (by decide) (fun _ => ?_) (fun cc_1 => absurd (by decide) cc_1)
  exact hk_vret (u := ()) hx hb hr hlocks (hw) (trivial) dX9_branch_129

def ww_ct_turn : List Cond := Cond.code yX11_turn cX11_turn 4 (some .int) :: ([Cond.fieldLink RX11 29 "LzmaChains" "output" "LLzmaChains$Row;", Cond.fieldLink RX11 100 "LzmaChains$Row" "size" "I", Cond.methodLink RX11 254 yX9_branch, Cond.instanceMethod yX9_branch, Cond.selects RX9 yX9_branch yX9_branch, Cond.initialized RX9, Cond.code yX9_branch cX9_branch 8 none, Cond.methodLink RX11 250 yX9_delta, Cond.instanceMethod yX9_delta, Cond.selects RX9 yX9_delta yX9_delta, Cond.code yX9_delta cX9_delta 9 none] ++ (wsX110 ++ (wsX90 ++ ([]))))
set_option maxRecDepth 20000 in
theorem gw_ct_turn_0 : GoodIn ww_ct_turn (wsV RX11 254 RX9 yX9_branch ww_cx_branch) := goodIn_r _ [3, 4, 5, 6, 7] rfl (by decide +kernel)
set_option maxRecDepth 20000 in
theorem gw_ct_turn_1 : GoodIn ww_ct_turn (wsV RX11 250 RX9 yX9_delta ww_cx_delta) := goodIn_r _ [8, 9, 10, 6, 11] rfl (by decide +kernel)
set_option maxHeartbeats 4000000 in
set_option maxRecDepth 100000 in
/-- turn on a new object -/
theorem ct_turn (l : Launch) (D : va_G) (cI cJ : ClassId) (ad : Nat → Nat) (fm : Int32) (ar : Nat → Nat → Int32) (bk : Nat → Int64) (sz : Nat) (k v bc : Int32) : Met l yX11_turn ww_ct_turn { frames := 1, cells := 0, slots := 0, locals := 28 } (va_Pc [.ref (ad 0), .int k, .int v, .int bc] (hk_B D [(cI, .int), (cJ, .long)] sz (xw cI cJ ad (xf_g fm) xf_l ar bk))) (va_Qi (fun (r : Int32) (u : (Nat → Int32) × (Nat → Int64) × (Nat → Nat → Int32) × (Nat → Int64)) => (r.toInt = 0 ∧ (k.toInt = 0 ∧ 1 ≤ v.toInt ∧ v.toInt ≤ 256 ∨ k.toInt = 1)) ∨ (r.toInt = -1 ∧ ¬ (k.toInt = 0 ∧ 1 ≤ v.toInt ∧ v.toInt ≤ 256 ∨ k.toInt = 1))) (fun u : (Nat → Int32) × (Nat → Int64) × (Nat → Nat → Int32) × (Nat → Int64) => hk_E D [(cI, .int), (cJ, .long)] (va_A (xw cI cJ ad (xf_g fm) xf_l ar bk) sz) (xw cI cJ ad u.1 u.2.1 u.2.2.1 u.2.2.2)) (va_A (xw cI cJ ad (xf_g fm) xf_l ar bk) sz)) 0 0 (va_A (xw cI cJ ad (xf_g fm) xf_l ar bk) sz) := by
  refine hk_met (cc := cX11_turn) (maxL := 4) (ret := (some .int)) (by decide) rfl (Nat.le_of_ble_eq_true rfl) ?_
  intro p e s m below meth c ls hx hb hr hml hown hts hlocks hin hA hw hl
  have iX11 : ∀ w ∈ wsX110, w ∈ ww_ct_turn := fun _ h => List.mem_cons_of_mem _ (List.mem_append_right _ (List.mem_append_left _ h))
  have iX9 : ∀ w ∈ wsX90, w ∈ ww_ct_turn := fun _ h => List.mem_cons_of_mem _ (List.mem_append_right _ (List.mem_append_right _ (List.mem_append_left _ h)))
  have hl : lv_has ls 4 [(0, .ref (ad 0)), (1, .int k), (2, .int v), (3, .int bc)] := hl
  refine lv_iload_n hx hb dX11_turn_0 rfl (lv_at hl 1 rfl) ?_
  refine lv_if_ne (tgt := 41) hx hb dX11_turn_1 (by decide) (fun cc_1 => ?_) (fun cc_1 => ?_)
  · refine lv_iload_n hx hb dX11_turn_41 rfl (lv_at hl 1 rfl) ?_
    refine lv_iconst (v := 1) hx hb dX11_turn_42 (by decide) ?_
    refine lv_icmp_ne (tgt := 70) hx hb dX11_turn_43 (by decide) (fun cc_2 => ?_) (fun cc_2 => ?_)
    · refine lv_iconst (v := (-1)) hx hb dX11_turn_70 (by decide) ?_
      exact hk_iret (u := ((xf_g fm), xf_l, ar, bk)) hx hb hr hlocks (hw) (by simp only [Int32.lt_iff_toInt_lt, Int32.le_iff_toInt_le, ← Int32.toInt_inj, hk_t0, hk_t1, hk_t2, hk_t3, hk_t4, hk_t5, hk_t6, hk_t7, hk_t8, hk_t9, hk_t10, hk_t11, hk_t12, hk_t13, hk_t14, hk_t15, hk_t16, hk_t17, hk_t18, hk_t20, hk_t32, hk_tm1, hk_t256, hk_t1500, hk_t4096, hk_t2000, hk_t3000, hk_t512, hk_t1024, true_and, and_true, false_and, and_false, true_or, or_true, false_or, or_false, not_true_eq_false, not_false_eq_true] at cc_1 cc_2 ⊢; omega) dX11_turn_71
    · refine lv_aload_n hx hb dX11_turn_46 rfl (lv_at hl 0 rfl) ?_
      refine hk_get (ci := 14) (C := RX11) (T := TX11) (N := 11) (v := .ref (ad 4)) hx hb hts iX11 hown hw 0 rfl rfl 3 (by decide) (hts _ (List.mem_of_getElem? (i := 1) rfl)) rfl dX11_turn_47 ?_
      refine lv_iconst (v := 0) hx hb dX11_turn_50 (by decide) ?_
      refine lv_aload_n hx hb dX11_turn_51 rfl (lv_at hl 0 rfl) ?_
      refine hk_get (ci := 14) (C := RX11) (T := TX11) (N := 11) (v := .ref (ad 4)) hx hb hts iX11 hown hw 0 rfl rfl 3 (by decide) (hts _ (List.mem_of_getElem? (i := 1) rfl)) rfl dX11_turn_52 ?_
      refine hk_get (ci := 12) (C := RX9) (T := TX9) (N := 2) (v := .int 0) hx hb hts iX9 hown hw 4 rfl rfl 1 (by decide) (hts _ (List.mem_of_getElem? (i := 2) rfl)) rfl dX11_turn_55 ?_
      refine lv_iload_n hx hb dX11_turn_58 rfl (lv_at hl 3 rfl) ?_
      refine hk_Vv (As := [.int 0, .int 0, .int bc]) (rest := []) ⟨hx, hb, hml, hown, hts⟩ hw hA (cx_branch l D cI cJ ad (xf_g fm) xf_l ar bk _ bc rfl) (cwV 3 hts gw_ct_turn_0 rfl rfl rfl (by decide +kernel) ⟨Nat.le_of_ble_eq_true rfl, Nat.le_of_ble_eq_true rfl⟩) 4 (ci := 12) (T := TX9) (N := 2) rfl rfl rfl hl.1 rfl (Nat.le_of_ble_eq_true rfl) dX11_turn_59 ⟨Nat.le_of_ble_eq_true rfl, Nat.le_of_ble_eq_true rfl⟩ (fun uu_4 H locs hp_5 hw => ?_)
      have hw : hk_W D [(cI, .int), (cJ, .long)] _ s _ _ (xw cI cJ ad (xf_g fm) xf_l ar bk) := hw
      refine lv_aload_n hx hb dX11_turn_62 rfl (lv_at hl 0 rfl) ?_
      refine hk_get (ci := 14) (C := RX11) (T := TX11) (N := 11) (v := .ref (ad 4)) hx hb hts iX11 hown hw 0 rfl rfl 3 (by decide) (hts _ (List.mem_of_getElem? (i := 1) rfl)) rfl dX11_turn_63 ?_
      refine hk_get (ci := 12) (C := RX9) (T := TX9) (N := 2) (v := .int 0) hx hb hts iX9 hown hw 4 rfl rfl 1 (by decide) (hts _ (List.mem_of_getElem? (i := 2) rfl)) rfl dX11_turn_66 ?_
      exact hk_iret (u := ((xf_g fm), xf_l, ar, bk)) hx hb hr hlocks (hw) (by simp only [Int32.lt_iff_toInt_lt, Int32.le_iff_toInt_le, ← Int32.toInt_inj, hk_t0, hk_t1, hk_t2, hk_t3, hk_t4, hk_t5, hk_t6, hk_t7, hk_t8, hk_t9, hk_t10, hk_t11, hk_t12, hk_t13, hk_t14, hk_t15, hk_t16, hk_t17, hk_t18, hk_t20, hk_t32, hk_tm1, hk_t256, hk_t1500, hk_t4096, hk_t2000, hk_t3000, hk_t512, hk_t1024, true_and, and_true, false_and, and_false, true_or, or_true, false_or, or_false, not_true_eq_false, not_false_eq_true] at cc_1 cc_2 ⊢; omega) dX11_turn_69
  · refine lv_iload_n hx hb dX11_turn_4 rfl (lv_at hl 2 rfl) ?_
    refine lv_iconst (v := 1) hx hb dX11_turn_5 (by decide) ?_
    refine lv_icmp_lt (tgt := 41) hx hb dX11_turn_6 (by decide) (fun cc_6 => ?_) (fun cc_6 => ?_)
    · refine lv_iload_n hx hb dX11_turn_41 rfl (lv_at hl 1 rfl) ?_
      refine lv_iconst (v := 1) hx hb dX11_turn_42 (by decide) ?_
      refine lv_icmp_ne (tgt := 70) hx hb dX11_turn_43 (by decide) (fun cc_7 => ?_) (fun cc_7 => ?_)
      · refine lv_iconst (v := (-1)) hx hb dX11_turn_70 (by decide) ?_
        exact hk_iret (u := ((xf_g fm), xf_l, ar, bk)) hx hb hr hlocks (hw) (by simp only [Int32.lt_iff_toInt_lt, Int32.le_iff_toInt_le, ← Int32.toInt_inj, hk_t0, hk_t1, hk_t2, hk_t3, hk_t4, hk_t5, hk_t6, hk_t7, hk_t8, hk_t9, hk_t10, hk_t11, hk_t12, hk_t13, hk_t14, hk_t15, hk_t16, hk_t17, hk_t18, hk_t20, hk_t32, hk_tm1, hk_t256, hk_t1500, hk_t4096, hk_t2000, hk_t3000, hk_t512, hk_t1024, true_and, and_true, false_and, and_false, true_or, or_true, false_or, or_false, not_true_eq_false, not_false_eq_true] at cc_1 cc_6 cc_7 ⊢; omega) dX11_turn_71
      · refine lv_aload_n hx hb dX11_turn_46 rfl (lv_at hl 0 rfl) ?_
        refine hk_get (ci := 14) (C := RX11) (T := TX11) (N := 11) (v := .ref (ad 4)) hx hb hts iX11 hown hw 0 rfl rfl 3 (by decide) (hts _ (List.mem_of_getElem? (i := 1) rfl)) rfl dX11_turn_47 ?_
        refine lv_iconst (v := 0) hx hb dX11_turn_50 (by decide) ?_
        refine lv_aload_n hx hb dX11_turn_51 rfl (lv_at hl 0 rfl) ?_
        refine hk_get (ci := 14) (C := RX11) (T := TX11) (N := 11) (v := .ref (ad 4)) hx hb hts iX11 hown hw 0 rfl rfl 3 (by decide) (hts _ (List.mem_of_getElem? (i := 1) rfl)) rfl dX11_turn_52 ?_
        refine hk_get (ci := 12) (C := RX9) (T := TX9) (N := 2) (v := .int 0) hx hb hts iX9 hown hw 4 rfl rfl 1 (by decide) (hts _ (List.mem_of_getElem? (i := 2) rfl)) rfl dX11_turn_55 ?_
        refine lv_iload_n hx hb dX11_turn_58 rfl (lv_at hl 3 rfl) ?_
        refine hk_Vv (As := [.int 0, .int 0, .int bc]) (rest := []) ⟨hx, hb, hml, hown, hts⟩ hw hA (cx_branch l D cI cJ ad (xf_g fm) xf_l ar bk _ bc rfl) (cwV 3 hts gw_ct_turn_0 rfl rfl rfl (by decide +kernel) ⟨Nat.le_of_ble_eq_true rfl, Nat.le_of_ble_eq_true rfl⟩) 4 (ci := 12) (T := TX9) (N := 2) rfl rfl rfl hl.1 rfl (Nat.le_of_ble_eq_true rfl) dX11_turn_59 ⟨Nat.le_of_ble_eq_true rfl, Nat.le_of_ble_eq_true rfl⟩ (fun uu_9 H locs hp_10 hw => ?_)
        have hw : hk_W D [(cI, .int), (cJ, .long)] _ s _ _ (xw cI cJ ad (xf_g fm) xf_l ar bk) := hw
        refine lv_aload_n hx hb dX11_turn_62 rfl (lv_at hl 0 rfl) ?_
        refine hk_get (ci := 14) (C := RX11) (T := TX11) (N := 11) (v := .ref (ad 4)) hx hb hts iX11 hown hw 0 rfl rfl 3 (by decide) (hts _ (List.mem_of_getElem? (i := 1) rfl)) rfl dX11_turn_63 ?_
        refine hk_get (ci := 12) (C := RX9) (T := TX9) (N := 2) (v := .int 0) hx hb hts iX9 hown hw 4 rfl rfl 1 (by decide) (hts _ (List.mem_of_getElem? (i := 2) rfl)) rfl dX11_turn_66 ?_
        exact hk_iret (u := ((xf_g fm), xf_l, ar, bk)) hx hb hr hlocks (hw) (by simp only [Int32.lt_iff_toInt_lt, Int32.le_iff_toInt_le, ← Int32.toInt_inj, hk_t0, hk_t1, hk_t2, hk_t3, hk_t4, hk_t5, hk_t6, hk_t7, hk_t8, hk_t9, hk_t10, hk_t11, hk_t12, hk_t13, hk_t14, hk_t15, hk_t16, hk_t17, hk_t18, hk_t20, hk_t32, hk_tm1, hk_t256, hk_t1500, hk_t4096, hk_t2000, hk_t3000, hk_t512, hk_t1024, true_and, and_true, false_and, and_false, true_or, or_true, false_or, or_false, not_true_eq_false, not_false_eq_true] at cc_1 cc_6 cc_7 ⊢; omega) dX11_turn_69
    · refine lv_iload_n hx hb dX11_turn_9 rfl (lv_at hl 2 rfl) ?_
      refine lv_sipush (v := 256) hx hb dX11_turn_10 (by decide) ?_
      refine lv_icmp_gt (tgt := 41) hx hb dX11_turn_13 (by decide) (fun cc_11 => ?_) (fun cc_11 => ?_)
      · refine lv_iload_n hx hb dX11_turn_41 rfl (lv_at hl 1 rfl) ?_
        refine lv_iconst (v := 1) hx hb dX11_turn_42 (by decide) ?_
        refine lv_icmp_ne (tgt := 70) hx hb dX11_turn_43 (by decide) (fun cc_12 => ?_) (fun cc_12 => ?_)
        · refine lv_iconst (v := (-1)) hx hb dX11_turn_70 (by decide) ?_
          exact hk_iret (u := ((xf_g fm), xf_l, ar, bk)) hx hb hr hlocks (hw) (by simp only [Int32.lt_iff_toInt_lt, Int32.le_iff_toInt_le, ← Int32.toInt_inj, hk_t0, hk_t1, hk_t2, hk_t3, hk_t4, hk_t5, hk_t6, hk_t7, hk_t8, hk_t9, hk_t10, hk_t11, hk_t12, hk_t13, hk_t14, hk_t15, hk_t16, hk_t17, hk_t18, hk_t20, hk_t32, hk_tm1, hk_t256, hk_t1500, hk_t4096, hk_t2000, hk_t3000, hk_t512, hk_t1024, true_and, and_true, false_and, and_false, true_or, or_true, false_or, or_false, not_true_eq_false, not_false_eq_true] at cc_1 cc_6 cc_11 cc_12 ⊢; omega) dX11_turn_71
        · refine lv_aload_n hx hb dX11_turn_46 rfl (lv_at hl 0 rfl) ?_
          refine hk_get (ci := 14) (C := RX11) (T := TX11) (N := 11) (v := .ref (ad 4)) hx hb hts iX11 hown hw 0 rfl rfl 3 (by decide) (hts _ (List.mem_of_getElem? (i := 1) rfl)) rfl dX11_turn_47 ?_
          refine lv_iconst (v := 0) hx hb dX11_turn_50 (by decide) ?_
          refine lv_aload_n hx hb dX11_turn_51 rfl (lv_at hl 0 rfl) ?_
          refine hk_get (ci := 14) (C := RX11) (T := TX11) (N := 11) (v := .ref (ad 4)) hx hb hts iX11 hown hw 0 rfl rfl 3 (by decide) (hts _ (List.mem_of_getElem? (i := 1) rfl)) rfl dX11_turn_52 ?_
          refine hk_get (ci := 12) (C := RX9) (T := TX9) (N := 2) (v := .int 0) hx hb hts iX9 hown hw 4 rfl rfl 1 (by decide) (hts _ (List.mem_of_getElem? (i := 2) rfl)) rfl dX11_turn_55 ?_
          refine lv_iload_n hx hb dX11_turn_58 rfl (lv_at hl 3 rfl) ?_
          refine hk_Vv (As := [.int 0, .int 0, .int bc]) (rest := []) ⟨hx, hb, hml, hown, hts⟩ hw hA (cx_branch l D cI cJ ad (xf_g fm) xf_l ar bk _ bc rfl) (cwV 3 hts gw_ct_turn_0 rfl rfl rfl (by decide +kernel) ⟨Nat.le_of_ble_eq_true rfl, Nat.le_of_ble_eq_true rfl⟩) 4 (ci := 12) (T := TX9) (N := 2) rfl rfl rfl hl.1 rfl (Nat.le_of_ble_eq_true rfl) dX11_turn_59 ⟨Nat.le_of_ble_eq_true rfl, Nat.le_of_ble_eq_true rfl⟩ (fun uu_14 H locs hp_15 hw => ?_)
          have hw : hk_W D [(cI, .int), (cJ, .long)] _ s _ _ (xw cI cJ ad (xf_g fm) xf_l ar bk) := hw
          refine lv_aload_n hx hb dX11_turn_62 rfl (lv_at hl 0 rfl) ?_
          refine hk_get (ci := 14) (C := RX11) (T := TX11) (N := 11) (v := .ref (ad 4)) hx hb hts iX11 hown hw 0 rfl rfl 3 (by decide) (hts _ (List.mem_of_getElem? (i := 1) rfl)) rfl dX11_turn_63 ?_
          refine hk_get (ci := 12) (C := RX9) (T := TX9) (N := 2) (v := .int 0) hx hb hts iX9 hown hw 4 rfl rfl 1 (by decide) (hts _ (List.mem_of_getElem? (i := 2) rfl)) rfl dX11_turn_66 ?_
          exact hk_iret (u := ((xf_g fm), xf_l, ar, bk)) hx hb hr hlocks (hw) (by simp only [Int32.lt_iff_toInt_lt, Int32.le_iff_toInt_le, ← Int32.toInt_inj, hk_t0, hk_t1, hk_t2, hk_t3, hk_t4, hk_t5, hk_t6, hk_t7, hk_t8, hk_t9, hk_t10, hk_t11, hk_t12, hk_t13, hk_t14, hk_t15, hk_t16, hk_t17, hk_t18, hk_t20, hk_t32, hk_tm1, hk_t256, hk_t1500, hk_t4096, hk_t2000, hk_t3000, hk_t512, hk_t1024, true_and, and_true, false_and, and_false, true_or, or_true, false_or, or_false, not_true_eq_false, not_false_eq_true] at cc_1 cc_6 cc_11 cc_12 ⊢; omega) dX11_turn_69
      · refine lv_aload_n hx hb dX11_turn_16 rfl (lv_at hl 0 rfl) ?_
        refine hk_get (ci := 14) (C := RX11) (T := TX11) (N := 11) (v := .ref (ad 4)) hx hb hts iX11 hown hw 0 rfl rfl 3 (by decide) (hts _ (List.mem_of_getElem? (i := 1) rfl)) rfl dX11_turn_17 ?_
        refine lv_iconst (v := 0) hx hb dX11_turn_20 (by decide) ?_
        refine lv_aload_n hx hb dX11_turn_21 rfl (lv_at hl 0 rfl) ?_
        refine hk_get (ci := 14) (C := RX11) (T := TX11) (N := 11) (v := .ref (ad 4)) hx hb hts iX11 hown hw 0 rfl rfl 3 (by decide) (hts _ (List.mem_of_getElem? (i := 1) rfl)) rfl dX11_turn_22 ?_
        refine hk_get (ci := 12) (C := RX9) (T := TX9) (N := 2) (v := .int 0) hx hb hts iX9 hown hw 4 rfl rfl 1 (by decide) (hts _ (List.mem_of_getElem? (i := 2) rfl)) rfl dX11_turn_25 ?_
        refine lv_iload_n hx hb dX11_turn_28 rfl (lv_at hl 2 rfl) ?_
        refine lv_iload_n hx hb dX11_turn_29 rfl (lv_at hl 3 rfl) ?_
        refine hk_Vv (As := [.int 0, .int 0, .int v, .int bc]) (rest := []) ⟨hx, hb, hml, hown, hts⟩ hw hA (cx_delta l D cI cJ ad (xf_g fm) xf_l ar bk _ v bc (by simp only [Int32.lt_iff_toInt_lt, Int32.le_iff_toInt_le, ← Int32.toInt_inj, hk_t0, hk_t1, hk_t2, hk_t3, hk_t4, hk_t5, hk_t6, hk_t7, hk_t8, hk_t9, hk_t10, hk_t11, hk_t12, hk_t13, hk_t14, hk_t15, hk_t16, hk_t17, hk_t18, hk_t20, hk_t32, hk_tm1, hk_t256, hk_t1500, hk_t4096, hk_t2000, hk_t3000, hk_t512, hk_t1024, true_and, and_true, false_and, and_false, true_or, or_true, false_or, or_false, not_true_eq_false, not_false_eq_true] at *; omega) (by simp only [Int32.lt_iff_toInt_lt, Int32.le_iff_toInt_le, ← Int32.toInt_inj, hk_t0, hk_t1, hk_t2, hk_t3, hk_t4, hk_t5, hk_t6, hk_t7, hk_t8, hk_t9, hk_t10, hk_t11, hk_t12, hk_t13, hk_t14, hk_t15, hk_t16, hk_t17, hk_t18, hk_t20, hk_t32, hk_tm1, hk_t256, hk_t1500, hk_t4096, hk_t2000, hk_t3000, hk_t512, hk_t1024, true_and, and_true, false_and, and_false, true_or, or_true, false_or, or_false, not_true_eq_false, not_false_eq_true] at *; omega) rfl) (cwV 4 hts gw_ct_turn_1 rfl rfl rfl (by decide +kernel) ⟨Nat.le_of_ble_eq_true rfl, Nat.le_of_ble_eq_true rfl⟩) 4 (ci := 12) (T := TX9) (N := 2) rfl rfl rfl hl.1 rfl (Nat.le_of_ble_eq_true rfl) dX11_turn_30 ⟨Nat.le_of_ble_eq_true rfl, Nat.le_of_ble_eq_true rfl⟩ (fun uu_17 H locs hp_18 hw => ?_)
        have hw : hk_W D [(cI, .int), (cJ, .long)] _ s _ _ (xw cI cJ ad (xf_g fm) xf_l ar bk) := hw
        refine lv_aload_n hx hb dX11_turn_33 rfl (lv_at hl 0 rfl) ?_
        refine hk_get (ci := 14) (C := RX11) (T := TX11) (N := 11) (v := .ref (ad 4)) hx hb hts iX11 hown hw 0 rfl rfl 3 (by decide) (hts _ (List.mem_of_getElem? (i := 1) rfl)) rfl dX11_turn_34 ?_
        refine hk_get (ci := 12) (C := RX9) (T := TX9) (N := 2) (v := .int 0) hx hb hts iX9 hown hw 4 rfl rfl 1 (by decide) (hts _ (List.mem_of_getElem? (i := 2) rfl)) rfl dX11_turn_37 ?_
        exact hk_iret (u := ((xf_g fm), xf_l, ar, bk)) hx hb hr hlocks (hw) (by simp only [Int32.lt_iff_toInt_lt, Int32.le_iff_toInt_le, ← Int32.toInt_inj, hk_t0, hk_t1, hk_t2, hk_t3, hk_t4, hk_t5, hk_t6, hk_t7, hk_t8, hk_t9, hk_t10, hk_t11, hk_t12, hk_t13, hk_t14, hk_t15, hk_t16, hk_t17, hk_t18, hk_t20, hk_t32, hk_tm1, hk_t256, hk_t1500, hk_t4096, hk_t2000, hk_t3000, hk_t512, hk_t1024, true_and, and_true, false_and, and_false, true_or, or_true, false_or, or_false, not_true_eq_false, not_false_eq_true] at cc_1 cc_6 cc_11 ⊢; omega) dX11_turn_40
