def ww_cx_low1_4 : List Cond := Cond.code yX9_putLow cX9_putLow 5 none :: ([Cond.methodLink RX9 21 yX9_put, Cond.instanceMethod yX9_put, Cond.selects RX9 yX9_put yX9_put, Cond.initialized RX9, Cond.code yX9_put cX9_put 2 none, Cond.fieldLink RX9 13 "LzmaChains$Row" "size" "I", Cond.methodLink RX9 17 yX9_set, Cond.instanceMethod yX9_set, Cond.selects RX9 yX9_set yX9_set, Cond.code yX9_set cX9_set 3 none, Cond.fieldLink RX9 7 "LzmaChains$Row" "data" "[I"] ++ (wsX90 ++ ([])))
set_option maxRecDepth 20000 in
theorem gw_cx_low1_4_0 : GoodIn ww_cx_low1_4 (wsV RX9 21 RX9 yX9_put ww_cx_out_put) := goodIn_r _ [1, 2, 3, 4, 5, 6, 7, 8, 9, 4, 10, 11, 12, 13] rfl (by decide +kernel)
set_option maxHeartbeats 4000000 in
set_option maxRecDepth 100000 in
/-- Row.putLow of 4 bytes, OUT has 1 -/
theorem cx_low1_4 (l : Launch) (D : va_G) (cI cJ : ClassId) (ad : Nat → Nat) (g : Nat → Int32) (lg : Nat → Int64) (ar : Nat → Nat → Int32) (bk : Nat → Int64) (sz : Nat) (x : Int64) (h14 : g 14 = 1) : Met l yX9_putLow ww_cx_low1_4 { frames := 2, cells := 0, slots := 0, locals := 43 } (va_Pc [.ref (ad 4), .long x, .int 4] (hk_B D [(cI, .int), (cJ, .long)] sz (xw cI cJ ad g lg ar bk))) (va_Qv (fun u : (Nat → Int32) => True) (fun u : (Nat → Int32) => hk_E D [(cI, .int), (cJ, .long)] (va_A (xw cI cJ ad g lg ar bk) sz) (xw cI cJ ad (upd g 14 5) lg (va_up ar 1 u) bk)) (va_A (xw cI cJ ad g lg ar bk) sz)) 0 0 (va_A (xw cI cJ ad g lg ar bk) sz) := by
  refine hk_met (cc := cX9_putLow) (maxL := 5) (ret := none) (by decide) rfl (Nat.le_of_ble_eq_true rfl) ?_
  intro p e s m below meth c ls hx hb hr hml hown hts hlocks hin hA hw hl
  have iX9 : ∀ w ∈ wsX90, w ∈ ww_cx_low1_4 := fun _ h => List.mem_cons_of_mem _ (List.mem_append_right _ (List.mem_append_left _ h))
  have hl : lv_has ls 5 [(0, .ref (ad 4)), (1, .long x), (3, .int 4)] := hl
  refine lv_iconst (v := 0) hx hb dX9_putLow_0 (by decide) ?_
  refine lv_istore (lv' := [(4, .int 0), (0, .ref (ad 4)), (1, .long x), (3, .int 4)]) hx hb dX9_putLow_1 hl (by decide) rfl (fun ls hl => ?_)
  refine lv_iload hx hb dX9_putLow_3 (lv_at hl 0 rfl) ?_
  refine lv_iload_n hx hb dX9_putLow_5 rfl (lv_at hl 3 rfl) ?_
  refine lv_icmp_ge (tgt := 27) hx hb dX9_putLow_6 (by decide) (fun cc_1 => absurd cc_1 (by decide)) (fun _ => ?_)
  refine lv_aload_n hx hb dX9_putLow_9 rfl (lv_at hl 1 rfl) ?_
  refine lv_lload_n hx hb dX9_putLow_10 rfl (lv_at hl 2 rfl) ?_
  refine lv_bipush (v := 8) hx hb dX9_putLow_11 (by decide) ?_
  refine lv_iload hx hb dX9_putLow_13 (lv_at hl 0 rfl) ?_
  refine lv_imul hx hb dX9_putLow_15 ?_
  refine hk_topi 0 (by decide +kernel) ?_
  refine lv_lushr (v := ((x : Int64).toUInt64 >>> ((0 : Int32).toInt64.toUInt64 &&& Int64.toUInt64 63)).toInt64) hx hb dX9_putLow_16 rfl ?_
  refine lv_l2i (v := (((x : Int64).toUInt64 >>> ((0 : Int32).toInt64.toUInt64 &&& Int64.toUInt64 63)).toInt64 : Int64).toInt32) hx hb dX9_putLow_17 rfl ?_
  refine hk_Vv (As := [.int ((((x : Int64).toUInt64 >>> ((0 : Int32).toInt64.toUInt64 &&& Int64.toUInt64 63)).toInt64 : Int64).toInt32)]) (rest := []) ⟨hx, hb, hml, hown, hts⟩ hw hA (cx_out_put l D cI cJ ad g lg ar bk _ ((((x : Int64).toUInt64 >>> ((0 : Int32).toInt64.toUInt64 &&& Int64.toUInt64 63)).toInt64 : Int64).toInt32) 1 2 h14 (by decide)) (cwV 1 hts gw_cx_low1_4_0 rfl rfl rfl (by decide +kernel) ⟨Nat.le_of_ble_eq_true rfl, Nat.le_of_ble_eq_true rfl⟩) 4 (ci := 12) (T := TX9) (N := 2) rfl rfl rfl hl.1 rfl (Nat.le_of_ble_eq_true rfl) dX9_putLow_18 ⟨Nat.le_of_ble_eq_true rfl, Nat.le_of_ble_eq_true rfl⟩ (fun uu_3 H locs hp_4 hw => ?_)
  have hw : hk_W D [(cI, .int), (cJ, .long)] _ s _ _ (xw cI cJ ad (upd g 14 2) lg (va_up ar 1 uu_3) bk) := hw
  refine lv_iinc (v := 1) (lv' := [(4, .int 1), (0, .ref (ad 4)), (1, .long x), (3, .int 4)]) hx hb dX9_putLow_21 hl (k := 0) rfl rfl (by decide) rfl (fun ls hl => ?_)
  refine lv_goto (tgt := 3) hx hb dX9_putLow_24 (by decide) ?_
  refine lv_iload hx hb dX9_putLow_3 (lv_at hl 0 rfl) ?_
  refine lv_iload_n hx hb dX9_putLow_5 rfl (lv_at hl 3 rfl) ?_
  refine lv_icmp_ge (tgt := 27) hx hb dX9_putLow_6 (by decide) (fun cc_5 => absurd cc_5 (by decide)) (fun _ => ?_)
  refine lv_aload_n hx hb dX9_putLow_9 rfl (lv_at hl 1 rfl) ?_
  refine lv_lload_n hx hb dX9_putLow_10 rfl (lv_at hl 2 rfl) ?_
  refine lv_bipush (v := 8) hx hb dX9_putLow_11 (by decide) ?_
  refine lv_iload hx hb dX9_putLow_13 (lv_at hl 0 rfl) ?_
  refine lv_imul hx hb dX9_putLow_15 ?_
  refine hk_topi 8 (by decide +kernel) ?_
  refine lv_lushr (v := ((x : Int64).toUInt64 >>> ((8 : Int32).toInt64.toUInt64 &&& Int64.toUInt64 63)).toInt64) hx hb dX9_putLow_16 rfl ?_
  refine lv_l2i (v := (((x : Int64).toUInt64 >>> ((8 : Int32).toInt64.toUInt64 &&& Int64.toUInt64 63)).toInt64 : Int64).toInt32) hx hb dX9_putLow_17 rfl ?_
  refine hk_Vv (As := [.int ((((x : Int64).toUInt64 >>> ((8 : Int32).toInt64.toUInt64 &&& Int64.toUInt64 63)).toInt64 : Int64).toInt32)]) (rest := []) ⟨hx, hb, hml, hown, hts⟩ hw hA (cx_out_put l D cI cJ ad (upd g 14 2) lg (va_up ar 1 uu_3) bk _ ((((x : Int64).toUInt64 >>> ((8 : Int32).toInt64.toUInt64 &&& Int64.toUInt64 63)).toInt64 : Int64).toInt32) 2 3 rfl (by decide)) (cwV 1 hts gw_cx_low1_4_0 rfl rfl rfl (by decide +kernel) ⟨Nat.le_of_ble_eq_true rfl, Nat.le_of_ble_eq_true rfl⟩) 4 (ci := 12) (T := TX9) (N := 2) rfl rfl rfl hl.1 rfl (Nat.le_of_ble_eq_true rfl) dX9_putLow_18 ⟨Nat.le_of_ble_eq_true rfl, Nat.le_of_ble_eq_true rfl⟩ (fun uu_7 H locs hp_8 hw => ?_)
  have hw : hk_W D [(cI, .int), (cJ, .long)] _ s _ _ (xw cI cJ ad (upd g 14 3) lg (va_up ar 1 uu_7) bk) := hw
  refine lv_iinc (v := 2) (lv' := [(4, .int 2), (0, .ref (ad 4)), (1, .long x), (3, .int 4)]) hx hb dX9_putLow_21 hl (k := 0) rfl rfl (by decide) rfl (fun ls hl => ?_)
  refine lv_goto (tgt := 3) hx hb dX9_putLow_24 (by decide) ?_
  refine lv_iload hx hb dX9_putLow_3 (lv_at hl 0 rfl) ?_
  refine lv_iload_n hx hb dX9_putLow_5 rfl (lv_at hl 3 rfl) ?_
  refine lv_icmp_ge (tgt := 27) hx hb dX9_putLow_6 (by decide) (fun cc_9 => absurd cc_9 (by decide)) (fun _ => ?_)
  refine lv_aload_n hx hb dX9_putLow_9 rfl (lv_at hl 1 rfl) ?_
  refine lv_lload_n hx hb dX9_putLow_10 rfl (lv_at hl 2 rfl) ?_
  refine lv_bipush (v := 8) hx hb dX9_putLow_11 (by decide) ?_
  refine lv_iload hx hb dX9_putLow_13 (lv_at hl 0 rfl) ?_
  refine lv_imul hx hb dX9_putLow_15 ?_
  refine hk_topi 16 (by decide +kernel) ?_
  refine lv_lushr (v := ((x : Int64).toUInt64 >>> ((16 : Int32).toInt64.toUInt64 &&& Int64.toUInt64 63)).toInt64) hx hb dX9_putLow_16 rfl ?_
  refine lv_l2i (v := (((x : Int64).toUInt64 >>> ((16 : Int32).toInt64.toUInt64 &&& Int64.toUInt64 63)).toInt64 : Int64).toInt32) hx hb dX9_putLow_17 rfl ?_
  refine hk_Vv (As := [.int ((((x : Int64).toUInt64 >>> ((16 : Int32).toInt64.toUInt64 &&& Int64.toUInt64 63)).toInt64 : Int64).toInt32)]) (rest := []) ⟨hx, hb, hml, hown, hts⟩ hw hA (cx_out_put l D cI cJ ad (upd g 14 3) lg (va_up ar 1 uu_7) bk _ ((((x : Int64).toUInt64 >>> ((16 : Int32).toInt64.toUInt64 &&& Int64.toUInt64 63)).toInt64 : Int64).toInt32) 3 4 rfl (by decide)) (cwV 1 hts gw_cx_low1_4_0 rfl rfl rfl (by decide +kernel) ⟨Nat.le_of_ble_eq_true rfl, Nat.le_of_ble_eq_true rfl⟩) 4 (ci := 12) (T := TX9) (N := 2) rfl rfl rfl hl.1 rfl (Nat.le_of_ble_eq_true rfl) dX9_putLow_18 ⟨Nat.le_of_ble_eq_true rfl, Nat.le_of_ble_eq_true rfl⟩ (fun uu_11 H locs hp_12 hw => ?_)
  have hw : hk_W D [(cI, .int), (cJ, .long)] _ s _ _ (xw cI cJ ad (upd g 14 4) lg (va_up ar 1 uu_11) bk) := hw
  refine lv_iinc (v := 3) (lv' := [(4, .int 3), (0, .ref (ad 4)), (1, .long x), (3, .int 4)]) hx hb dX9_putLow_21 hl (k := 0) rfl rfl (by decide) rfl (fun ls hl => ?_)
  refine lv_goto (tgt := 3) hx hb dX9_putLow_24 (by decide) ?_
  refine lv_iload hx hb dX9_putLow_3 (lv_at hl 0 rfl) ?_
  refine lv_iload_n hx hb dX9_putLow_5 rfl (lv_at hl 3 rfl) ?_
  refine lv_icmp_ge (tgt := 27) hx hb dX9_putLow_6 (by decide) (fun cc_13 => absurd cc_13 (by decide)) (fun _ => ?_)
  refine lv_aload_n hx hb dX9_putLow_9 rfl (lv_at hl 1 rfl) ?_
  refine lv_lload_n hx hb dX9_putLow_10 rfl (lv_at hl 2 rfl) ?_
  refine lv_bipush (v := 8) hx hb dX9_putLow_11 (by decide) ?_
  refine lv_iload hx hb dX9_putLow_13 (lv_at hl 0 rfl) ?_
  refine lv_imul hx hb dX9_putLow_15 ?_
  refine hk_topi 24 (by decide +kernel) ?_
  refine lv_lushr (v := ((x : Int64).toUInt64 >>> ((24 : Int32).toInt64.toUInt64 &&& Int64.toUInt64 63)).toInt64) hx hb dX9_putLow_16 rfl ?_
  refine lv_l2i (v := (((x : Int64).toUInt64 >>> ((24 : Int32).toInt64.toUInt64 &&& Int64.toUInt64 63)).toInt64 : Int64).toInt32) hx hb dX9_putLow_17 rfl ?_
  refine hk_Vv (As := [.int ((((x : Int64).toUInt64 >>> ((24 : Int32).toInt64.toUInt64 &&& Int64.toUInt64 63)).toInt64 : Int64).toInt32)]) (rest := []) ⟨hx, hb, hml, hown, hts⟩ hw hA (cx_out_put l D cI cJ ad (upd g 14 4) lg (va_up ar 1 uu_11) bk _ ((((x : Int64).toUInt64 >>> ((24 : Int32).toInt64.toUInt64 &&& Int64.toUInt64 63)).toInt64 : Int64).toInt32) 4 5 rfl (by decide)) (cwV 1 hts gw_cx_low1_4_0 rfl rfl rfl (by decide +kernel) ⟨Nat.le_of_ble_eq_true rfl, Nat.le_of_ble_eq_true rfl⟩) 4 (ci := 12) (T := TX9) (N := 2) rfl rfl rfl hl.1 rfl (Nat.le_of_ble_eq_true rfl) dX9_putLow_18 ⟨Nat.le_of_ble_eq_true rfl, Nat.le_of_ble_eq_true rfl⟩ (fun uu_15 H locs hp_16 hw => ?_)
  have hw : hk_W D [(cI, .int), (cJ, .long)] _ s _ _ (xw cI cJ ad (upd g 14 5) lg (va_up ar 1 uu_15) bk) := hw
  refine lv_iinc (v := 4) (lv' := [(4, .int 4), (0, .ref (ad 4)), (1, .long x), (3, .int 4)]) hx hb dX9_putLow_21 hl (k := 0) rfl rfl (by decide) rfl (fun ls hl => ?_)
  refine lv_goto (tgt := 3) hx hb dX9_putLow_24 (by decide) ?_
  refine lv_iload hx hb dX9_putLow_3 (lv_at hl 0 rfl) ?_
  refine lv_iload_n hx hb dX9_putLow_5 rfl (lv_at hl 3 rfl) ?_
  refine lv_icmp_ge (tgt := 27) hx hb dX9_putLow_6 (by decide) (fun _ => ?_) (fun cc_17 => absurd (by decide) cc_17)
  exact hk_vret (u := uu_15) hx hb hr hlocks (hw) (trivial) dX9_putLow_27

def ww_cx_low5_8 : List Cond := Cond.code yX9_putLow cX9_putLow 5 none :: ([Cond.methodLink RX9 21 yX9_put, Cond.instanceMethod yX9_put, Cond.selects RX9 yX9_put yX9_put, Cond.initialized RX9, Cond.code yX9_put cX9_put 2 none, Cond.fieldLink RX9 13 "LzmaChains$Row" "size" "I", Cond.methodLink RX9 17 yX9_set, Cond.instanceMethod yX9_set, Cond.selects RX9 yX9_set yX9_set, Cond.code yX9_set cX9_set 3 none, Cond.fieldLink RX9 7 "LzmaChains$Row" "data" "[I"] ++ (wsX90 ++ ([])))
set_option maxRecDepth 20000 in
theorem gw_cx_low5_8_0 : GoodIn ww_cx_low5_8 (wsV RX9 21 RX9 yX9_put ww_cx_out_put) := goodIn_r _ [1, 2, 3, 4, 5, 6, 7, 8, 9, 4, 10, 11, 12, 13] rfl (by decide +kernel)
set_option maxHeartbeats 4000000 in
set_option maxRecDepth 100000 in
/-- Row.putLow of 8 bytes, OUT has 5 -/
theorem cx_low5_8 (l : Launch) (D : va_G) (cI cJ : ClassId) (ad : Nat → Nat) (g : Nat → Int32) (lg : Nat → Int64) (ar : Nat → Nat → Int32) (bk : Nat → Int64) (sz : Nat) (x : Int64) (h14 : g 14 = 5) : Met l yX9_putLow ww_cx_low5_8 { frames := 2, cells := 0, slots := 0, locals := 43 } (va_Pc [.ref (ad 4), .long x, .int 8] (hk_B D [(cI, .int), (cJ, .long)] sz (xw cI cJ ad g lg ar bk))) (va_Qv (fun u : (Nat → Int32) => True) (fun u : (Nat → Int32) => hk_E D [(cI, .int), (cJ, .long)] (va_A (xw cI cJ ad g lg ar bk) sz) (xw cI cJ ad (upd g 14 13) lg (va_up ar 1 u) bk)) (va_A (xw cI cJ ad g lg ar bk) sz)) 0 0 (va_A (xw cI cJ ad g lg ar bk) sz) := by
  refine hk_met (cc := cX9_putLow) (maxL := 5) (ret := none) (by decide) rfl (Nat.le_of_ble_eq_true rfl) ?_
  intro p e s m below meth c ls hx hb hr hml hown hts hlocks hin hA hw hl
  have iX9 : ∀ w ∈ wsX90, w ∈ ww_cx_low5_8 := fun _ h => List.mem_cons_of_mem _ (List.mem_append_right _ (List.mem_append_left _ h))
  have hl : lv_has ls 5 [(0, .ref (ad 4)), (1, .long x), (3, .int 8)] := hl
  refine lv_iconst (v := 0) hx hb dX9_putLow_0 (by decide) ?_
  refine lv_istore (lv' := [(4, .int 0), (0, .ref (ad 4)), (1, .long x), (3, .int 8)]) hx hb dX9_putLow_1 hl (by decide) rfl (fun ls hl => ?_)
  refine lv_iload hx hb dX9_putLow_3 (lv_at hl 0 rfl) ?_
  refine lv_iload_n hx hb dX9_putLow_5 rfl (lv_at hl 3 rfl) ?_
  refine lv_icmp_ge (tgt := 27) hx hb dX9_putLow_6 (by decide) (fun cc_1 => absurd cc_1 (by decide)) (fun _ => ?_)
  refine lv_aload_n hx hb dX9_putLow_9 rfl (lv_at hl 1 rfl) ?_
  refine lv_lload_n hx hb dX9_putLow_10 rfl (lv_at hl 2 rfl) ?_
  refine lv_bipush (v := 8) hx hb dX9_putLow_11 (by decide) ?_
  refine lv_iload hx hb dX9_putLow_13 (lv_at hl 0 rfl) ?_
  refine lv_imul hx hb dX9_putLow_15 ?_
  refine hk_topi 0 (by decide +kernel) ?_
  refine lv_lushr (v := ((x : Int64).toUInt64 >>> ((0 : Int32).toInt64.toUInt64 &&& Int64.toUInt64 63)).toInt64) hx hb dX9_putLow_16 rfl ?_
  refine lv_l2i (v := (((x : Int64).toUInt64 >>> ((0 : Int32).toInt64.toUInt64 &&& Int64.toUInt64 63)).toInt64 : Int64).toInt32) hx hb dX9_putLow_17 rfl ?_
  refine hk_Vv (As := [.int ((((x : Int64).toUInt64 >>> ((0 : Int32).toInt64.toUInt64 &&& Int64.toUInt64 63)).toInt64 : Int64).toInt32)]) (rest := []) ⟨hx, hb, hml, hown, hts⟩ hw hA (cx_out_put l D cI cJ ad g lg ar bk _ ((((x : Int64).toUInt64 >>> ((0 : Int32).toInt64.toUInt64 &&& Int64.toUInt64 63)).toInt64 : Int64).toInt32) 5 6 h14 (by decide)) (cwV 1 hts gw_cx_low5_8_0 rfl rfl rfl (by decide +kernel) ⟨Nat.le_of_ble_eq_true rfl, Nat.le_of_ble_eq_true rfl⟩) 4 (ci := 12) (T := TX9) (N := 2) rfl rfl rfl hl.1 rfl (Nat.le_of_ble_eq_true rfl) dX9_putLow_18 ⟨Nat.le_of_ble_eq_true rfl, Nat.le_of_ble_eq_true rfl⟩ (fun uu_3 H locs hp_4 hw => ?_)
  have hw : hk_W D [(cI, .int), (cJ, .long)] _ s _ _ (xw cI cJ ad (upd g 14 6) lg (va_up ar 1 uu_3) bk) := hw
  refine lv_iinc (v := 1) (lv' := [(4, .int 1), (0, .ref (ad 4)), (1, .long x), (3, .int 8)]) hx hb dX9_putLow_21 hl (k := 0) rfl rfl (by decide) rfl (fun ls hl => ?_)
  refine lv_goto (tgt := 3) hx hb dX9_putLow_24 (by decide) ?_
  refine lv_iload hx hb dX9_putLow_3 (lv_at hl 0 rfl) ?_
  refine lv_iload_n hx hb dX9_putLow_5 rfl (lv_at hl 3 rfl) ?_
  refine lv_icmp_ge (tgt := 27) hx hb dX9_putLow_6 (by decide) (fun cc_5 => absurd cc_5 (by decide)) (fun _ => ?_)
  refine lv_aload_n hx hb dX9_putLow_9 rfl (lv_at hl 1 rfl) ?_
  refine lv_lload_n hx hb dX9_putLow_10 rfl (lv_at hl 2 rfl) ?_
  refine lv_bipush (v := 8) hx hb dX9_putLow_11 (by decide) ?_
  refine lv_iload hx hb dX9_putLow_13 (lv_at hl 0 rfl) ?_
  refine lv_imul hx hb dX9_putLow_15 ?_
  refine hk_topi 8 (by decide +kernel) ?_
  refine lv_lushr (v := ((x : Int64).toUInt64 >>> ((8 : Int32).toInt64.toUInt64 &&& Int64.toUInt64 63)).toInt64) hx hb dX9_putLow_16 rfl ?_
  refine lv_l2i (v := (((x : Int64).toUInt64 >>> ((8 : Int32).toInt64.toUInt64 &&& Int64.toUInt64 63)).toInt64 : Int64).toInt32) hx hb dX9_putLow_17 rfl ?_
  refine hk_Vv (As := [.int ((((x : Int64).toUInt64 >>> ((8 : Int32).toInt64.toUInt64 &&& Int64.toUInt64 63)).toInt64 : Int64).toInt32)]) (rest := []) ⟨hx, hb, hml, hown, hts⟩ hw hA (cx_out_put l D cI cJ ad (upd g 14 6) lg (va_up ar 1 uu_3) bk _ ((((x : Int64).toUInt64 >>> ((8 : Int32).toInt64.toUInt64 &&& Int64.toUInt64 63)).toInt64 : Int64).toInt32) 6 7 rfl (by decide)) (cwV 1 hts gw_cx_low5_8_0 rfl rfl rfl (by decide +kernel) ⟨Nat.le_of_ble_eq_true rfl, Nat.le_of_ble_eq_true rfl⟩) 4 (ci := 12) (T := TX9) (N := 2) rfl rfl rfl hl.1 rfl (Nat.le_of_ble_eq_true rfl) dX9_putLow_18 ⟨Nat.le_of_ble_eq_true rfl, Nat.le_of_ble_eq_true rfl⟩ (fun uu_7 H locs hp_8 hw => ?_)
  have hw : hk_W D [(cI, .int), (cJ, .long)] _ s _ _ (xw cI cJ ad (upd g 14 7) lg (va_up ar 1 uu_7) bk) := hw
  refine lv_iinc (v := 2) (lv' := [(4, .int 2), (0, .ref (ad 4)), (1, .long x), (3, .int 8)]) hx hb dX9_putLow_21 hl (k := 0) rfl rfl (by decide) rfl (fun ls hl => ?_)
  refine lv_goto (tgt := 3) hx hb dX9_putLow_24 (by decide) ?_
  refine lv_iload hx hb dX9_putLow_3 (lv_at hl 0 rfl) ?_
  refine lv_iload_n hx hb dX9_putLow_5 rfl (lv_at hl 3 rfl) ?_
  refine lv_icmp_ge (tgt := 27) hx hb dX9_putLow_6 (by decide) (fun cc_9 => absurd cc_9 (by decide)) (fun _ => ?_)
  refine lv_aload_n hx hb dX9_putLow_9 rfl (lv_at hl 1 rfl) ?_
  refine lv_lload_n hx hb dX9_putLow_10 rfl (lv_at hl 2 rfl) ?_
  refine lv_bipush (v := 8) hx hb dX9_putLow_11 (by decide) ?_
  refine lv_iload hx hb dX9_putLow_13 (lv_at hl 0 rfl) ?_
  refine lv_imul hx hb dX9_putLow_15 ?_
  refine hk_topi 16 (by decide +kernel) ?_
  refine lv_lushr (v := ((x : Int64).toUInt64 >>> ((16 : Int32).toInt64.toUInt64 &&& Int64.toUInt64 63)).toInt64) hx hb dX9_putLow_16 rfl ?_
  refine lv_l2i (v := (((x : Int64).toUInt64 >>> ((16 : Int32).toInt64.toUInt64 &&& Int64.toUInt64 63)).toInt64 : Int64).toInt32) hx hb dX9_putLow_17 rfl ?_
  refine hk_Vv (As := [.int ((((x : Int64).toUInt64 >>> ((16 : Int32).toInt64.toUInt64 &&& Int64.toUInt64 63)).toInt64 : Int64).toInt32)]) (rest := []) ⟨hx, hb, hml, hown, hts⟩ hw hA (cx_out_put l D cI cJ ad (upd g 14 7) lg (va_up ar 1 uu_7) bk _ ((((x : Int64).toUInt64 >>> ((16 : Int32).toInt64.toUInt64 &&& Int64.toUInt64 63)).toInt64 : Int64).toInt32) 7 8 rfl (by decide)) (cwV 1 hts gw_cx_low5_8_0 rfl rfl rfl (by decide +kernel) ⟨Nat.le_of_ble_eq_true rfl, Nat.le_of_ble_eq_true rfl⟩) 4 (ci := 12) (T := TX9) (N := 2) rfl rfl rfl hl.1 rfl (Nat.le_of_ble_eq_true rfl) dX9_putLow_18 ⟨Nat.le_of_ble_eq_true rfl, Nat.le_of_ble_eq_true rfl⟩ (fun uu_11 H locs hp_12 hw => ?_)
  have hw : hk_W D [(cI, .int), (cJ, .long)] _ s _ _ (xw cI cJ ad (upd g 14 8) lg (va_up ar 1 uu_11) bk) := hw
  refine lv_iinc (v := 3) (lv' := [(4, .int 3), (0, .ref (ad 4)), (1, .long x), (3, .int 8)]) hx hb dX9_putLow_21 hl (k := 0) rfl rfl (by decide) rfl (fun ls hl => ?_)
  refine lv_goto (tgt := 3) hx hb dX9_putLow_24 (by decide) ?_
  refine lv_iload hx hb dX9_putLow_3 (lv_at hl 0 rfl) ?_
  refine lv_iload_n hx hb dX9_putLow_5 rfl (lv_at hl 3 rfl) ?_
  refine lv_icmp_ge (tgt := 27) hx hb dX9_putLow_6 (by decide) (fun cc_13 => absurd cc_13 (by decide)) (fun _ => ?_)
  refine lv_aload_n hx hb dX9_putLow_9 rfl (lv_at hl 1 rfl) ?_
  refine lv_lload_n hx hb dX9_putLow_10 rfl (lv_at hl 2 rfl) ?_
  refine lv_bipush (v := 8) hx hb dX9_putLow_11 (by decide) ?_
  refine lv_iload hx hb dX9_putLow_13 (lv_at hl 0 rfl) ?_
  refine lv_imul hx hb dX9_putLow_15 ?_
  refine hk_topi 24 (by decide +kernel) ?_
  refine lv_lushr (v := ((x : Int64).toUInt64 >>> ((24 : Int32).toInt64.toUInt64 &&& Int64.toUInt64 63)).toInt64) hx hb dX9_putLow_16 rfl ?_
  refine lv_l2i (v := (((x : Int64).toUInt64 >>> ((24 : Int32).toInt64.toUInt64 &&& Int64.toUInt64 63)).toInt64 : Int64).toInt32) hx hb dX9_putLow_17 rfl ?_
  refine hk_Vv (As := [.int ((((x : Int64).toUInt64 >>> ((24 : Int32).toInt64.toUInt64 &&& Int64.toUInt64 63)).toInt64 : Int64).toInt32)]) (rest := []) ⟨hx, hb, hml, hown, hts⟩ hw hA (cx_out_put l D cI cJ ad (upd g 14 8) lg (va_up ar 1 uu_11) bk _ ((((x : Int64).toUInt64 >>> ((24 : Int32).toInt64.toUInt64 &&& Int64.toUInt64 63)).toInt64 : Int64).toInt32) 8 9 rfl (by decide)) (cwV 1 hts gw_cx_low5_8_0 rfl rfl rfl (by decide +kernel) ⟨Nat.le_of_ble_eq_true rfl, Nat.le_of_ble_eq_true rfl⟩) 4 (ci := 12) (T := TX9) (N := 2) rfl rfl rfl hl.1 rfl (Nat.le_of_ble_eq_true rfl) dX9_putLow_18 ⟨Nat.le_of_ble_eq_true rfl, Nat.le_of_ble_eq_true rfl⟩ (fun uu_15 H locs hp_16 hw => ?_)
  have hw : hk_W D [(cI, .int), (cJ, .long)] _ s _ _ (xw cI cJ ad (upd g 14 9) lg (va_up ar 1 uu_15) bk) := hw
  refine lv_iinc (v := 4) (lv' := [(4, .int 4), (0, .ref (ad 4)), (1, .long x), (3, .int 8)]) hx hb dX9_putLow_21 hl (k := 0) rfl rfl (by decide) rfl (fun ls hl => ?_)
  refine lv_goto (tgt := 3) hx hb dX9_putLow_24 (by decide) ?_
  refine lv_iload hx hb dX9_putLow_3 (lv_at hl 0 rfl) ?_
  refine lv_iload_n hx hb dX9_putLow_5 rfl (lv_at hl 3 rfl) ?_
  refine lv_icmp_ge (tgt := 27) hx hb dX9_putLow_6 (by decide) (fun cc_17 => absurd cc_17 (by decide)) (fun _ => ?_)
  refine lv_aload_n hx hb dX9_putLow_9 rfl (lv_at hl 1 rfl) ?_
  refine lv_lload_n hx hb dX9_putLow_10 rfl (lv_at hl 2 rfl) ?_
  refine lv_bipush (v := 8) hx hb dX9_putLow_11 (by decide) ?_
  refine lv_iload hx hb dX9_putLow_13 (lv_at hl 0 rfl) ?_
  refine lv_imul hx hb dX9_putLow_15 ?_
  refine hk_topi 32 (by decide +kernel) ?_
  refine lv_lushr (v := ((x : Int64).toUInt64 >>> ((32 : Int32).toInt64.toUInt64 &&& Int64.toUInt64 63)).toInt64) hx hb dX9_putLow_16 rfl ?_
  refine lv_l2i (v := (((x : Int64).toUInt64 >>> ((32 : Int32).toInt64.toUInt64 &&& Int64.toUInt64 63)).toInt64 : Int64).toInt32) hx hb dX9_putLow_17 rfl ?_
  refine hk_Vv (As := [.int ((((x : Int64).toUInt64 >>> ((32 : Int32).toInt64.toUInt64 &&& Int64.toUInt64 63)).toInt64 : Int64).toInt32)]) (rest := []) ⟨hx, hb, hml, hown, hts⟩ hw hA (cx_out_put l D cI cJ ad (upd g 14 9) lg (va_up ar 1 uu_15) bk _ ((((x : Int64).toUInt64 >>> ((32 : Int32).toInt64.toUInt64 &&& Int64.toUInt64 63)).toInt64 : Int64).toInt32) 9 10 rfl (by decide)) (cwV 1 hts gw_cx_low5_8_0 rfl rfl rfl (by decide +kernel) ⟨Nat.le_of_ble_eq_true rfl, Nat.le_of_ble_eq_true rfl⟩) 4 (ci := 12) (T := TX9) (N := 2) rfl rfl rfl hl.1 rfl (Nat.le_of_ble_eq_true rfl) dX9_putLow_18 ⟨Nat.le_of_ble_eq_true rfl, Nat.le_of_ble_eq_true rfl⟩ (fun uu_19 H locs hp_20 hw => ?_)
  have hw : hk_W D [(cI, .int), (cJ, .long)] _ s _ _ (xw cI cJ ad (upd g 14 10) lg (va_up ar 1 uu_19) bk) := hw
  refine lv_iinc (v := 5) (lv' := [(4, .int 5), (0, .ref (ad 4)), (1, .long x), (3, .int 8)]) hx hb dX9_putLow_21 hl (k := 0) rfl rfl (by decide) rfl (fun ls hl => ?_)
  refine lv_goto (tgt := 3) hx hb dX9_putLow_24 (by decide) ?_
  refine lv_iload hx hb dX9_putLow_3 (lv_at hl 0 rfl) ?_
  refine lv_iload_n hx hb dX9_putLow_5 rfl (lv_at hl 3 rfl) ?_
  refine lv_icmp_ge (tgt := 27) hx hb dX9_putLow_6 (by decide) (fun cc_21 => absurd cc_21 (by decide)) (fun _ => ?_)
  refine lv_aload_n hx hb dX9_putLow_9 rfl (lv_at hl 1 rfl) ?_
  refine lv_lload_n hx hb dX9_putLow_10 rfl (lv_at hl 2 rfl) ?_
  refine lv_bipush (v := 8) hx hb dX9_putLow_11 (by decide) ?_
  refine lv_iload hx hb dX9_putLow_13 (lv_at hl 0 rfl) ?_
  refine lv_imul hx hb dX9_putLow_15 ?_
  refine hk_topi 40 (by decide +kernel) ?_
  refine lv_lushr (v := ((x : Int64).toUInt64 >>> ((40 : Int32).toInt64.toUInt64 &&& Int64.toUInt64 63)).toInt64) hx hb dX9_putLow_16 rfl ?_
  refine lv_l2i (v := (((x : Int64).toUInt64 >>> ((40 : Int32).toInt64.toUInt64 &&& Int64.toUInt64 63)).toInt64 : Int64).toInt32) hx hb dX9_putLow_17 rfl ?_
  refine hk_Vv (As := [.int ((((x : Int64).toUInt64 >>> ((40 : Int32).toInt64.toUInt64 &&& Int64.toUInt64 63)).toInt64 : Int64).toInt32)]) (rest := []) ⟨hx, hb, hml, hown, hts⟩ hw hA (cx_out_put l D cI cJ ad (upd g 14 10) lg (va_up ar 1 uu_19) bk _ ((((x : Int64).toUInt64 >>> ((40 : Int32).toInt64.toUInt64 &&& Int64.toUInt64 63)).toInt64 : Int64).toInt32) 10 11 rfl (by decide)) (cwV 1 hts gw_cx_low5_8_0 rfl rfl rfl (by decide +kernel) ⟨Nat.le_of_ble_eq_true rfl, Nat.le_of_ble_eq_true rfl⟩) 4 (ci := 12) (T := TX9) (N := 2) rfl rfl rfl hl.1 rfl (Nat.le_of_ble_eq_true rfl) dX9_putLow_18 ⟨Nat.le_of_ble_eq_true rfl, Nat.le_of_ble_eq_true rfl⟩ (fun uu_23 H locs hp_24 hw => ?_)
  have hw : hk_W D [(cI, .int), (cJ, .long)] _ s _ _ (xw cI cJ ad (upd g 14 11) lg (va_up ar 1 uu_23) bk) := hw
  refine lv_iinc (v := 6) (lv' := [(4, .int 6), (0, .ref (ad 4)), (1, .long x), (3, .int 8)]) hx hb dX9_putLow_21 hl (k := 0) rfl rfl (by decide) rfl (fun ls hl => ?_)
  refine lv_goto (tgt := 3) hx hb dX9_putLow_24 (by decide) ?_
  refine lv_iload hx hb dX9_putLow_3 (lv_at hl 0 rfl) ?_
  refine lv_iload_n hx hb dX9_putLow_5 rfl (lv_at hl 3 rfl) ?_
  refine lv_icmp_ge (tgt := 27) hx hb dX9_putLow_6 (by decide) (fun cc_25 => absurd cc_25 (by decide)) (fun _ => ?_)
  refine lv_aload_n hx hb dX9_putLow_9 rfl (lv_at hl 1 rfl) ?_
  refine lv_lload_n hx hb dX9_putLow_10 rfl (lv_at hl 2 rfl) ?_
  refine lv_bipush (v := 8) hx hb dX9_putLow_11 (by decide) ?_
  refine lv_iload hx hb dX9_putLow_13 (lv_at hl 0 rfl) ?_
  refine lv_imul hx hb dX9_putLow_15 ?_
  refine hk_topi 48 (by decide +kernel) ?_
  refine lv_lushr (v := ((x : Int64).toUInt64 >>> ((48 : Int32).toInt64.toUInt64 &&& Int64.toUInt64 63)).toInt64) hx hb dX9_putLow_16 rfl ?_
  refine lv_l2i (v := (((x : Int64).toUInt64 >>> ((48 : Int32).toInt64.toUInt64 &&& Int64.toUInt64 63)).toInt64 : Int64).toInt32) hx hb dX9_putLow_17 rfl ?_
  refine hk_Vv (As := [.int ((((x : Int64).toUInt64 >>> ((48 : Int32).toInt64.toUInt64 &&& Int64.toUInt64 63)).toInt64 : Int64).toInt32)]) (rest := []) ⟨hx, hb, hml, hown, hts⟩ hw hA (cx_out_put l D cI cJ ad (upd g 14 11) lg (va_up ar 1 uu_23) bk _ ((((x : Int64).toUInt64 >>> ((48 : Int32).toInt64.toUInt64 &&& Int64.toUInt64 63)).toInt64 : Int64).toInt32) 11 12 rfl (by decide)) (cwV 1 hts gw_cx_low5_8_0 rfl rfl rfl (by decide +kernel) ⟨Nat.le_of_ble_eq_true rfl, Nat.le_of_ble_eq_true rfl⟩) 4 (ci := 12) (T := TX9) (N := 2) rfl rfl rfl hl.1 rfl (Nat.le_of_ble_eq_true rfl) dX9_putLow_18 ⟨Nat.le_of_ble_eq_true rfl, Nat.le_of_ble_eq_true rfl⟩ (fun uu_27 H locs hp_28 hw => ?_)
  have hw : hk_W D [(cI, .int), (cJ, .long)] _ s _ _ (xw cI cJ ad (upd g 14 12) lg (va_up ar 1 uu_27) bk) := hw
  refine lv_iinc (v := 7) (lv' := [(4, .int 7), (0, .ref (ad 4)), (1, .long x), (3, .int 8)]) hx hb dX9_putLow_21 hl (k := 0) rfl rfl (by decide) rfl (fun ls hl => ?_)
  refine lv_goto (tgt := 3) hx hb dX9_putLow_24 (by decide) ?_
  refine lv_iload hx hb dX9_putLow_3 (lv_at hl 0 rfl) ?_
  refine lv_iload_n hx hb dX9_putLow_5 rfl (lv_at hl 3 rfl) ?_
  refine lv_icmp_ge (tgt := 27) hx hb dX9_putLow_6 (by decide) (fun cc_29 => absurd cc_29 (by decide)) (fun _ => ?_)
  refine lv_aload_n hx hb dX9_putLow_9 rfl (lv_at hl 1 rfl) ?_
  refine lv_lload_n hx hb dX9_putLow_10 rfl (lv_at hl 2 rfl) ?_
  refine lv_bipush (v := 8) hx hb dX9_putLow_11 (by decide) ?_
  refine lv_iload hx hb dX9_putLow_13 (lv_at hl 0 rfl) ?_
  refine lv_imul hx hb dX9_putLow_15 ?_
  refine hk_topi 56 (by decide +kernel) ?_
  refine lv_lushr (v := ((x : Int64).toUInt64 >>> ((56 : Int32).toInt64.toUInt64 &&& Int64.toUInt64 63)).toInt64) hx hb dX9_putLow_16 rfl ?_
  refine lv_l2i (v := (((x : Int64).toUInt64 >>> ((56 : Int32).toInt64.toUInt64 &&& Int64.toUInt64 63)).toInt64 : Int64).toInt32) hx hb dX9_putLow_17 rfl ?_
  refine hk_Vv (As := [.int ((((x : Int64).toUInt64 >>> ((56 : Int32).toInt64.toUInt64 &&& Int64.toUInt64 63)).toInt64 : Int64).toInt32)]) (rest := []) ⟨hx, hb, hml, hown, hts⟩ hw hA (cx_out_put l D cI cJ ad (upd g 14 12) lg (va_up ar 1 uu_27) bk _ ((((x : Int64).toUInt64 >>> ((56 : Int32).toInt64.toUInt64 &&& Int64.toUInt64 63)).toInt64 : Int64).toInt32) 12 13 rfl (by decide)) (cwV 1 hts gw_cx_low5_8_0 rfl rfl rfl (by decide +kernel) ⟨Nat.le_of_ble_eq_true rfl, Nat.le_of_ble_eq_true rfl⟩) 4 (ci := 12) (T := TX9) (N := 2) rfl rfl rfl hl.1 rfl (Nat.le_of_ble_eq_true rfl) dX9_putLow_18 ⟨Nat.le_of_ble_eq_true rfl, Nat.le_of_ble_eq_true rfl⟩ (fun uu_31 H locs hp_32 hw => ?_)
  have hw : hk_W D [(cI, .int), (cJ, .long)] _ s _ _ (xw cI cJ ad (upd g 14 13) lg (va_up ar 1 uu_31) bk) := hw
  refine lv_iinc (v := 8) (lv' := [(4, .int 8), (0, .ref (ad 4)), (1, .long x), (3, .int 8)]) hx hb dX9_putLow_21 hl (k := 0) rfl rfl (by decide) rfl (fun ls hl => ?_)
  refine lv_goto (tgt := 3) hx hb dX9_putLow_24 (by decide) ?_
  refine lv_iload hx hb dX9_putLow_3 (lv_at hl 0 rfl) ?_
  refine lv_iload_n hx hb dX9_putLow_5 rfl (lv_at hl 3 rfl) ?_
  refine lv_icmp_ge (tgt := 27) hx hb dX9_putLow_6 (by decide) (fun _ => ?_) (fun cc_33 => absurd (by decide) cc_33)
  exact hk_vret (u := uu_31) hx hb hr hlocks (hw) (trivial) dX9_putLow_27

def ww_cx_low8_4 : List Cond := Cond.code yX9_putLow cX9_putLow 5 none :: ([Cond.methodLink RX9 21 yX9_put, Cond.instanceMethod yX9_put, Cond.selects RX9 yX9_put yX9_put, Cond.initialized RX9, Cond.code yX9_put cX9_put 2 none, Cond.fieldLink RX9 13 "LzmaChains$Row" "size" "I", Cond.methodLink RX9 17 yX9_set, Cond.instanceMethod yX9_set, Cond.selects RX9 yX9_set yX9_set, Cond.code yX9_set cX9_set 3 none, Cond.fieldLink RX9 7 "LzmaChains$Row" "data" "[I"] ++ (wsX90 ++ ([])))
set_option maxRecDepth 20000 in
theorem gw_cx_low8_4_0 : GoodIn ww_cx_low8_4 (wsV RX9 21 RX9 yX9_put ww_cx_out_put) := goodIn_r _ [1, 2, 3, 4, 5, 6, 7, 8, 9, 4, 10, 11, 12, 13] rfl (by decide +kernel)
set_option maxHeartbeats 4000000 in
set_option maxRecDepth 100000 in
/-- Row.putLow of 4 bytes, OUT has 8 -/
theorem cx_low8_4 (l : Launch) (D : va_G) (cI cJ : ClassId) (ad : Nat → Nat) (g : Nat → Int32) (lg : Nat → Int64) (ar : Nat → Nat → Int32) (bk : Nat → Int64) (sz : Nat) (x : Int64) (h14 : g 14 = 8) : Met l yX9_putLow ww_cx_low8_4 { frames := 2, cells := 0, slots := 0, locals := 43 } (va_Pc [.ref (ad 4), .long x, .int 4] (hk_B D [(cI, .int), (cJ, .long)] sz (xw cI cJ ad g lg ar bk))) (va_Qv (fun u : (Nat → Int32) => True) (fun u : (Nat → Int32) => hk_E D [(cI, .int), (cJ, .long)] (va_A (xw cI cJ ad g lg ar bk) sz) (xw cI cJ ad (upd g 14 12) lg (va_up ar 1 u) bk)) (va_A (xw cI cJ ad g lg ar bk) sz)) 0 0 (va_A (xw cI cJ ad g lg ar bk) sz) := by
  refine hk_met (cc := cX9_putLow) (maxL := 5) (ret := none) (by decide) rfl (Nat.le_of_ble_eq_true rfl) ?_
  intro p e s m below meth c ls hx hb hr hml hown hts hlocks hin hA hw hl
  have iX9 : ∀ w ∈ wsX90, w ∈ ww_cx_low8_4 := fun _ h => List.mem_cons_of_mem _ (List.mem_append_right _ (List.mem_append_left _ h))
  have hl : lv_has ls 5 [(0, .ref (ad 4)), (1, .long x), (3, .int 4)] := hl
  refine lv_iconst (v := 0) hx hb dX9_putLow_0 (by decide) ?_
  refine lv_istore (lv' := [(4, .int 0), (0, .ref (ad 4)), (1, .long x), (3, .int 4)]) hx hb dX9_putLow_1 hl (by decide) rfl (fun ls hl => ?_)
  refine lv_iload hx hb dX9_putLow_3 (lv_at hl 0 rfl) ?_
  refine lv_iload_n hx hb dX9_putLow_5 rfl (lv_at hl 3 rfl) ?_
  refine lv_icmp_ge (tgt := 27) hx hb dX9_putLow_6 (by decide) (fun cc_1 => absurd cc_1 (by decide)) (fun _ => ?_)
  refine lv_aload_n hx hb dX9_putLow_9 rfl (lv_at hl 1 rfl) ?_
  refine lv_lload_n hx hb dX9_putLow_10 rfl (lv_at hl 2 rfl) ?_
  refine lv_bipush (v := 8) hx hb dX9_putLow_11 (by decide) ?_
  refine lv_iload hx hb dX9_putLow_13 (lv_at hl 0 rfl) ?_
  refine lv_imul hx hb dX9_putLow_15 ?_
  refine hk_topi 0 (by decide +kernel) ?_
  refine lv_lushr (v := ((x : Int64).toUInt64 >>> ((0 : Int32).toInt64.toUInt64 &&& Int64.toUInt64 63)).toInt64) hx hb dX9_putLow_16 rfl ?_
  refine lv_l2i (v := (((x : Int64).toUInt64 >>> ((0 : Int32).toInt64.toUInt64 &&& Int64.toUInt64 63)).toInt64 : Int64).toInt32) hx hb dX9_putLow_17 rfl ?_
  refine hk_Vv (As := [.int ((((x : Int64).toUInt64 >>> ((0 : Int32).toInt64.toUInt64 &&& Int64.toUInt64 63)).toInt64 : Int64).toInt32)]) (rest := []) ⟨hx, hb, hml, hown, hts⟩ hw hA (cx_out_put l D cI cJ ad g lg ar bk _ ((((x : Int64).toUInt64 >>> ((0 : Int32).toInt64.toUInt64 &&& Int64.toUInt64 63)).toInt64 : Int64).toInt32) 8 9 h14 (by decide)) (cwV 1 hts gw_cx_low8_4_0 rfl rfl rfl (by decide +kernel) ⟨Nat.le_of_ble_eq_true rfl, Nat.le_of_ble_eq_true rfl⟩) 4 (ci := 12) (T := TX9) (N := 2) rfl rfl rfl hl.1 rfl (Nat.le_of_ble_eq_true rfl) dX9_putLow_18 ⟨Nat.le_of_ble_eq_true rfl, Nat.le_of_ble_eq_true rfl⟩ (fun uu_3 H locs hp_4 hw => ?_)
  have hw : hk_W D [(cI, .int), (cJ, .long)] _ s _ _ (xw cI cJ ad (upd g 14 9) lg (va_up ar 1 uu_3) bk) := hw
  refine lv_iinc (v := 1) (lv' := [(4, .int 1), (0, .ref (ad 4)), (1, .long x), (3, .int 4)]) hx hb dX9_putLow_21 hl (k := 0) rfl rfl (by decide) rfl (fun ls hl => ?_)
  refine lv_goto (tgt := 3) hx hb dX9_putLow_24 (by decide) ?_
  refine lv_iload hx hb dX9_putLow_3 (lv_at hl 0 rfl) ?_
  refine lv_iload_n hx hb dX9_putLow_5 rfl (lv_at hl 3 rfl) ?_
  refine lv_icmp_ge (tgt := 27) hx hb dX9_putLow_6 (by decide) (fun cc_5 => absurd cc_5 (by decide)) (fun _ => ?_)
  refine lv_aload_n hx hb dX9_putLow_9 rfl (lv_at hl 1 rfl) ?_
  refine lv_lload_n hx hb dX9_putLow_10 rfl (lv_at hl 2 rfl) ?_
  refine lv_bipush (v := 8) hx hb dX9_putLow_11 (by decide) ?_
  refine lv_iload hx hb dX9_putLow_13 (lv_at hl 0 rfl) ?_
  refine lv_imul hx hb dX9_putLow_15 ?_
  refine hk_topi 8 (by decide +kernel) ?_
  refine lv_lushr (v := ((x : Int64).toUInt64 >>> ((8 : Int32).toInt64.toUInt64 &&& Int64.toUInt64 63)).toInt64) hx hb dX9_putLow_16 rfl ?_
  refine lv_l2i (v := (((x : Int64).toUInt64 >>> ((8 : Int32).toInt64.toUInt64 &&& Int64.toUInt64 63)).toInt64 : Int64).toInt32) hx hb dX9_putLow_17 rfl ?_
  refine hk_Vv (As := [.int ((((x : Int64).toUInt64 >>> ((8 : Int32).toInt64.toUInt64 &&& Int64.toUInt64 63)).toInt64 : Int64).toInt32)]) (rest := []) ⟨hx, hb, hml, hown, hts⟩ hw hA (cx_out_put l D cI cJ ad (upd g 14 9) lg (va_up ar 1 uu_3) bk _ ((((x : Int64).toUInt64 >>> ((8 : Int32).toInt64.toUInt64 &&& Int64.toUInt64 63)).toInt64 : Int64).toInt32) 9 10 rfl (by decide)) (cwV 1 hts gw_cx_low8_4_0 rfl rfl rfl (by decide +kernel) ⟨Nat.le_of_ble_eq_true rfl, Nat.le_of_ble_eq_true rfl⟩) 4 (ci := 12) (T := TX9) (N := 2) rfl rfl rfl hl.1 rfl (Nat.le_of_ble_eq_true rfl) dX9_putLow_18 ⟨Nat.le_of_ble_eq_true rfl, Nat.le_of_ble_eq_true rfl⟩ (fun uu_7 H locs hp_8 hw => ?_)
  have hw : hk_W D [(cI, .int), (cJ, .long)] _ s _ _ (xw cI cJ ad (upd g 14 10) lg (va_up ar 1 uu_7) bk) := hw
  refine lv_iinc (v := 2) (lv' := [(4, .int 2), (0, .ref (ad 4)), (1, .long x), (3, .int 4)]) hx hb dX9_putLow_21 hl (k := 0) rfl rfl (by decide) rfl (fun ls hl => ?_)
  refine lv_goto (tgt := 3) hx hb dX9_putLow_24 (by decide) ?_
  refine lv_iload hx hb dX9_putLow_3 (lv_at hl 0 rfl) ?_
  refine lv_iload_n hx hb dX9_putLow_5 rfl (lv_at hl 3 rfl) ?_
  refine lv_icmp_ge (tgt := 27) hx hb dX9_putLow_6 (by decide) (fun cc_9 => absurd cc_9 (by decide)) (fun _ => ?_)
  refine lv_aload_n hx hb dX9_putLow_9 rfl (lv_at hl 1 rfl) ?_
  refine lv_lload_n hx hb dX9_putLow_10 rfl (lv_at hl 2 rfl) ?_
  refine lv_bipush (v := 8) hx hb dX9_putLow_11 (by decide) ?_
  refine lv_iload hx hb dX9_putLow_13 (lv_at hl 0 rfl) ?_
  refine lv_imul hx hb dX9_putLow_15 ?_
  refine hk_topi 16 (by decide +kernel) ?_
  refine lv_lushr (v := ((x : Int64).toUInt64 >>> ((16 : Int32).toInt64.toUInt64 &&& Int64.toUInt64 63)).toInt64) hx hb dX9_putLow_16 rfl ?_
  refine lv_l2i (v := (((x : Int64).toUInt64 >>> ((16 : Int32).toInt64.toUInt64 &&& Int64.toUInt64 63)).toInt64 : Int64).toInt32) hx hb dX9_putLow_17 rfl ?_
  refine hk_Vv (As := [.int ((((x : Int64).toUInt64 >>> ((16 : Int32).toInt64.toUInt64 &&& Int64.toUInt64 63)).toInt64 : Int64).toInt32)]) (rest := []) ⟨hx, hb, hml, hown, hts⟩ hw hA (cx_out_put l D cI cJ ad (upd g 14 10) lg (va_up ar 1 uu_7) bk _ ((((x : Int64).toUInt64 >>> ((16 : Int32).toInt64.toUInt64 &&& Int64.toUInt64 63)).toInt64 : Int64).toInt32) 10 11 rfl (by decide)) (cwV 1 hts gw_cx_low8_4_0 rfl rfl rfl (by decide +kernel) ⟨Nat.le_of_ble_eq_true rfl, Nat.le_of_ble_eq_true rfl⟩) 4 (ci := 12) (T := TX9) (N := 2) rfl rfl rfl hl.1 rfl (Nat.le_of_ble_eq_true rfl) dX9_putLow_18 ⟨Nat.le_of_ble_eq_true rfl, Nat.le_of_ble_eq_true rfl⟩ (fun uu_11 H locs hp_12 hw => ?_)
  have hw : hk_W D [(cI, .int), (cJ, .long)] _ s _ _ (xw cI cJ ad (upd g 14 11) lg (va_up ar 1 uu_11) bk) := hw
  refine lv_iinc (v := 3) (lv' := [(4, .int 3), (0, .ref (ad 4)), (1, .long x), (3, .int 4)]) hx hb dX9_putLow_21 hl (k := 0) rfl rfl (by decide) rfl (fun ls hl => ?_)
  refine lv_goto (tgt := 3) hx hb dX9_putLow_24 (by decide) ?_
  refine lv_iload hx hb dX9_putLow_3 (lv_at hl 0 rfl) ?_
  refine lv_iload_n hx hb dX9_putLow_5 rfl (lv_at hl 3 rfl) ?_
  refine lv_icmp_ge (tgt := 27) hx hb dX9_putLow_6 (by decide) (fun cc_13 => absurd cc_13 (by decide)) (fun _ => ?_)
  refine lv_aload_n hx hb dX9_putLow_9 rfl (lv_at hl 1 rfl) ?_
  refine lv_lload_n hx hb dX9_putLow_10 rfl (lv_at hl 2 rfl) ?_
  refine lv_bipush (v := 8) hx hb dX9_putLow_11 (by decide) ?_
  refine lv_iload hx hb dX9_putLow_13 (lv_at hl 0 rfl) ?_
  refine lv_imul hx hb dX9_putLow_15 ?_
  refine hk_topi 24 (by decide +kernel) ?_
  refine lv_lushr (v := ((x : Int64).toUInt64 >>> ((24 : Int32).toInt64.toUInt64 &&& Int64.toUInt64 63)).toInt64) hx hb dX9_putLow_16 rfl ?_
  refine lv_l2i (v := (((x : Int64).toUInt64 >>> ((24 : Int32).toInt64.toUInt64 &&& Int64.toUInt64 63)).toInt64 : Int64).toInt32) hx hb dX9_putLow_17 rfl ?_
  refine hk_Vv (As := [.int ((((x : Int64).toUInt64 >>> ((24 : Int32).toInt64.toUInt64 &&& Int64.toUInt64 63)).toInt64 : Int64).toInt32)]) (rest := []) ⟨hx, hb, hml, hown, hts⟩ hw hA (cx_out_put l D cI cJ ad (upd g 14 11) lg (va_up ar 1 uu_11) bk _ ((((x : Int64).toUInt64 >>> ((24 : Int32).toInt64.toUInt64 &&& Int64.toUInt64 63)).toInt64 : Int64).toInt32) 11 12 rfl (by decide)) (cwV 1 hts gw_cx_low8_4_0 rfl rfl rfl (by decide +kernel) ⟨Nat.le_of_ble_eq_true rfl, Nat.le_of_ble_eq_true rfl⟩) 4 (ci := 12) (T := TX9) (N := 2) rfl rfl rfl hl.1 rfl (Nat.le_of_ble_eq_true rfl) dX9_putLow_18 ⟨Nat.le_of_ble_eq_true rfl, Nat.le_of_ble_eq_true rfl⟩ (fun uu_15 H locs hp_16 hw => ?_)
  have hw : hk_W D [(cI, .int), (cJ, .long)] _ s _ _ (xw cI cJ ad (upd g 14 12) lg (va_up ar 1 uu_15) bk) := hw
  refine lv_iinc (v := 4) (lv' := [(4, .int 4), (0, .ref (ad 4)), (1, .long x), (3, .int 4)]) hx hb dX9_putLow_21 hl (k := 0) rfl rfl (by decide) rfl (fun ls hl => ?_)
  refine lv_goto (tgt := 3) hx hb dX9_putLow_24 (by decide) ?_
  refine lv_iload hx hb dX9_putLow_3 (lv_at hl 0 rfl) ?_
  refine lv_iload_n hx hb dX9_putLow_5 rfl (lv_at hl 3 rfl) ?_
  refine lv_icmp_ge (tgt := 27) hx hb dX9_putLow_6 (by decide) (fun _ => ?_) (fun cc_17 => absurd (by decide) cc_17)
  exact hk_vret (u := uu_15) hx hb hr hlocks (hw) (trivial) dX9_putLow_27

def ww_cx_low16_4 : List Cond := Cond.code yX9_putLow cX9_putLow 5 none :: ([Cond.methodLink RX9 21 yX9_put, Cond.instanceMethod yX9_put, Cond.selects RX9 yX9_put yX9_put, Cond.initialized RX9, Cond.code yX9_put cX9_put 2 none, Cond.fieldLink RX9 13 "LzmaChains$Row" "size" "I", Cond.methodLink RX9 17 yX9_set, Cond.instanceMethod yX9_set, Cond.selects RX9 yX9_set yX9_set, Cond.code yX9_set cX9_set 3 none, Cond.fieldLink RX9 7 "LzmaChains$Row" "data" "[I"] ++ (wsX90 ++ ([])))
set_option maxRecDepth 20000 in
theorem gw_cx_low16_4_0 : GoodIn ww_cx_low16_4 (wsV RX9 21 RX9 yX9_put ww_cx_out_put) := goodIn_r _ [1, 2, 3, 4, 5, 6, 7, 8, 9, 4, 10, 11, 12, 13] rfl (by decide +kernel)
set_option maxHeartbeats 4000000 in
set_option maxRecDepth 100000 in
/-- Row.putLow of 4 bytes, OUT has 16 -/
theorem cx_low16_4 (l : Launch) (D : va_G) (cI cJ : ClassId) (ad : Nat → Nat) (g : Nat → Int32) (lg : Nat → Int64) (ar : Nat → Nat → Int32) (bk : Nat → Int64) (sz : Nat) (x : Int64) (h14 : g 14 = 16) : Met l yX9_putLow ww_cx_low16_4 { frames := 2, cells := 0, slots := 0, locals := 43 } (va_Pc [.ref (ad 4), .long x, .int 4] (hk_B D [(cI, .int), (cJ, .long)] sz (xw cI cJ ad g lg ar bk))) (va_Qv (fun u : (Nat → Int32) => True) (fun u : (Nat → Int32) => hk_E D [(cI, .int), (cJ, .long)] (va_A (xw cI cJ ad g lg ar bk) sz) (xw cI cJ ad (upd g 14 20) lg (va_up ar 1 u) bk)) (va_A (xw cI cJ ad g lg ar bk) sz)) 0 0 (va_A (xw cI cJ ad g lg ar bk) sz) := by
  refine hk_met (cc := cX9_putLow) (maxL := 5) (ret := none) (by decide) rfl (Nat.le_of_ble_eq_true rfl) ?_
  intro p e s m below meth c ls hx hb hr hml hown hts hlocks hin hA hw hl
  have iX9 : ∀ w ∈ wsX90, w ∈ ww_cx_low16_4 := fun _ h => List.mem_cons_of_mem _ (List.mem_append_right _ (List.mem_append_left _ h))
  have hl : lv_has ls 5 [(0, .ref (ad 4)), (1, .long x), (3, .int 4)] := hl
  refine lv_iconst (v := 0) hx hb dX9_putLow_0 (by decide) ?_
  refine lv_istore (lv' := [(4, .int 0), (0, .ref (ad 4)), (1, .long x), (3, .int 4)]) hx hb dX9_putLow_1 hl (by decide) rfl (fun ls hl => ?_)
  refine lv_iload hx hb dX9_putLow_3 (lv_at hl 0 rfl) ?_
  refine lv_iload_n hx hb dX9_putLow_5 rfl (lv_at hl 3 rfl) ?_
  refine lv_icmp_ge (tgt := 27) hx hb dX9_putLow_6 (by decide) (fun cc_1 => absurd cc_1 (by decide)) (fun _ => ?_)
  refine lv_aload_n hx hb dX9_putLow_9 rfl (lv_at hl 1 rfl) ?_
  refine lv_lload_n hx hb dX9_putLow_10 rfl (lv_at hl 2 rfl) ?_
  refine lv_bipush (v := 8) hx hb dX9_putLow_11 (by decide) ?_
  refine lv_iload hx hb dX9_putLow_13 (lv_at hl 0 rfl) ?_
  refine lv_imul hx hb dX9_putLow_15 ?_
  refine hk_topi 0 (by decide +kernel) ?_
  refine lv_lushr (v := ((x : Int64).toUInt64 >>> ((0 : Int32).toInt64.toUInt64 &&& Int64.toUInt64 63)).toInt64) hx hb dX9_putLow_16 rfl ?_
  refine lv_l2i (v := (((x : Int64).toUInt64 >>> ((0 : Int32).toInt64.toUInt64 &&& Int64.toUInt64 63)).toInt64 : Int64).toInt32) hx hb dX9_putLow_17 rfl ?_
  refine hk_Vv (As := [.int ((((x : Int64).toUInt64 >>> ((0 : Int32).toInt64.toUInt64 &&& Int64.toUInt64 63)).toInt64 : Int64).toInt32)]) (rest := []) ⟨hx, hb, hml, hown, hts⟩ hw hA (cx_out_put l D cI cJ ad g lg ar bk _ ((((x : Int64).toUInt64 >>> ((0 : Int32).toInt64.toUInt64 &&& Int64.toUInt64 63)).toInt64 : Int64).toInt32) 16 17 h14 (by decide)) (cwV 1 hts gw_cx_low16_4_0 rfl rfl rfl (by decide +kernel) ⟨Nat.le_of_ble_eq_true rfl, Nat.le_of_ble_eq_true rfl⟩) 4 (ci := 12) (T := TX9) (N := 2) rfl rfl rfl hl.1 rfl (Nat.le_of_ble_eq_true rfl) dX9_putLow_18 ⟨Nat.le_of_ble_eq_true rfl, Nat.le_of_ble_eq_true rfl⟩ (fun uu_3 H locs hp_4 hw => ?_)
  have hw : hk_W D [(cI, .int), (cJ, .long)] _ s _ _ (xw cI cJ ad (upd g 14 17) lg (va_up ar 1 uu_3) bk) := hw
  refine lv_iinc (v := 1) (lv' := [(4, .int 1), (0, .ref (ad 4)), (1, .long x), (3, .int 4)]) hx hb dX9_putLow_21 hl (k := 0) rfl rfl (by decide) rfl (fun ls hl => ?_)
  refine lv_goto (tgt := 3) hx hb dX9_putLow_24 (by decide) ?_
  refine lv_iload hx hb dX9_putLow_3 (lv_at hl 0 rfl) ?_
  refine lv_iload_n hx hb dX9_putLow_5 rfl (lv_at hl 3 rfl) ?_
  refine lv_icmp_ge (tgt := 27) hx hb dX9_putLow_6 (by decide) (fun cc_5 => absurd cc_5 (by decide)) (fun _ => ?_)
  refine lv_aload_n hx hb dX9_putLow_9 rfl (lv_at hl 1 rfl) ?_
  refine lv_lload_n hx hb dX9_putLow_10 rfl (lv_at hl 2 rfl) ?_
  refine lv_bipush (v := 8) hx hb dX9_putLow_11 (by decide) ?_
  refine lv_iload hx hb dX9_putLow_13 (lv_at hl 0 rfl) ?_
  refine lv_imul hx hb dX9_putLow_15 ?_
  refine hk_topi 8 (by decide +kernel) ?_
  refine lv_lushr (v := ((x : Int64).toUInt64 >>> ((8 : Int32).toInt64.toUInt64 &&& Int64.toUInt64 63)).toInt64) hx hb dX9_putLow_16 rfl ?_
  refine lv_l2i (v := (((x : Int64).toUInt64 >>> ((8 : Int32).toInt64.toUInt64 &&& Int64.toUInt64 63)).toInt64 : Int64).toInt32) hx hb dX9_putLow_17 rfl ?_
  refine hk_Vv (As := [.int ((((x : Int64).toUInt64 >>> ((8 : Int32).toInt64.toUInt64 &&& Int64.toUInt64 63)).toInt64 : Int64).toInt32)]) (rest := []) ⟨hx, hb, hml, hown, hts⟩ hw hA (cx_out_put l D cI cJ ad (upd g 14 17) lg (va_up ar 1 uu_3) bk _ ((((x : Int64).toUInt64 >>> ((8 : Int32).toInt64.toUInt64 &&& Int64.toUInt64 63)).toInt64 : Int64).toInt32) 17 18 rfl (by decide)) (cwV 1 hts gw_cx_low16_4_0 rfl rfl rfl (by decide +kernel) ⟨Nat.le_of_ble_eq_true rfl, Nat.le_of_ble_eq_true rfl⟩) 4 (ci := 12) (T := TX9) (N := 2) rfl rfl rfl hl.1 rfl (Nat.le_of_ble_eq_true rfl) dX9_putLow_18 ⟨Nat.le_of_ble_eq_true rfl, Nat.le_of_ble_eq_true rfl⟩ (fun uu_7 H locs hp_8 hw => ?_)
  have hw : hk_W D [(cI, .int), (cJ, .long)] _ s _ _ (xw cI cJ ad (upd g 14 18) lg (va_up ar 1 uu_7) bk) := hw
  refine lv_iinc (v := 2) (lv' := [(4, .int 2), (0, .ref (ad 4)), (1, .long x), (3, .int 4)]) hx hb dX9_putLow_21 hl (k := 0) rfl rfl (by decide) rfl (fun ls hl => ?_)
  refine lv_goto (tgt := 3) hx hb dX9_putLow_24 (by decide) ?_
  refine lv_iload hx hb dX9_putLow_3 (lv_at hl 0 rfl) ?_
  refine lv_iload_n hx hb dX9_putLow_5 rfl (lv_at hl 3 rfl) ?_
  refine lv_icmp_ge (tgt := 27) hx hb dX9_putLow_6 (by decide) (fun cc_9 => absurd cc_9 (by decide)) (fun _ => ?_)
  refine lv_aload_n hx hb dX9_putLow_9 rfl (lv_at hl 1 rfl) ?_
  refine lv_lload_n hx hb dX9_putLow_10 rfl (lv_at hl 2 rfl) ?_
  refine lv_bipush (v := 8) hx hb dX9_putLow_11 (by decide) ?_
  refine lv_iload hx hb dX9_putLow_13 (lv_at hl 0 rfl) ?_
  refine lv_imul hx hb dX9_putLow_15 ?_
  refine hk_topi 16 (by decide +kernel) ?_
  refine lv_lushr (v := ((x : Int64).toUInt64 >>> ((16 : Int32).toInt64.toUInt64 &&& Int64.toUInt64 63)).toInt64) hx hb dX9_putLow_16 rfl ?_
  refine lv_l2i (v := (((x : Int64).toUInt64 >>> ((16 : Int32).toInt64.toUInt64 &&& Int64.toUInt64 63)).toInt64 : Int64).toInt32) hx hb dX9_putLow_17 rfl ?_
  refine hk_Vv (As := [.int ((((x : Int64).toUInt64 >>> ((16 : Int32).toInt64.toUInt64 &&& Int64.toUInt64 63)).toInt64 : Int64).toInt32)]) (rest := []) ⟨hx, hb, hml, hown, hts⟩ hw hA (cx_out_put l D cI cJ ad (upd g 14 18) lg (va_up ar 1 uu_7) bk _ ((((x : Int64).toUInt64 >>> ((16 : Int32).toInt64.toUInt64 &&& Int64.toUInt64 63)).toInt64 : Int64).toInt32) 18 19 rfl (by decide)) (cwV 1 hts gw_cx_low16_4_0 rfl rfl rfl (by decide +kernel) ⟨Nat.le_of_ble_eq_true rfl, Nat.le_of_ble_eq_true rfl⟩) 4 (ci := 12) (T := TX9) (N := 2) rfl rfl rfl hl.1 rfl (Nat.le_of_ble_eq_true rfl) dX9_putLow_18 ⟨Nat.le_of_ble_eq_true rfl, Nat.le_of_ble_eq_true rfl⟩ (fun uu_11 H locs hp_12 hw => ?_)
  have hw : hk_W D [(cI, .int), (cJ, .long)] _ s _ _ (xw cI cJ ad (upd g 14 19) lg (va_up ar 1 uu_11) bk) := hw
  refine lv_iinc (v := 3) (lv' := [(4, .int 3), (0, .ref (ad 4)), (1, .long x), (3, .int 4)]) hx hb dX9_putLow_21 hl (k := 0) rfl rfl (by decide) rfl (fun ls hl => ?_)
  refine lv_goto (tgt := 3) hx hb dX9_putLow_24 (by decide) ?_
  refine lv_iload hx hb dX9_putLow_3 (lv_at hl 0 rfl) ?_
  refine lv_iload_n hx hb dX9_putLow_5 rfl (lv_at hl 3 rfl) ?_
  refine lv_icmp_ge (tgt := 27) hx hb dX9_putLow_6 (by decide) (fun cc_13 => absurd cc_13 (by decide)) (fun _ => ?_)
  refine lv_aload_n hx hb dX9_putLow_9 rfl (lv_at hl 1 rfl) ?_
  refine lv_lload_n hx hb dX9_putLow_10 rfl (lv_at hl 2 rfl) ?_
  refine lv_bipush (v := 8) hx hb dX9_putLow_11 (by decide) ?_
  refine lv_iload hx hb dX9_putLow_13 (lv_at hl 0 rfl) ?_
  refine lv_imul hx hb dX9_putLow_15 ?_
  refine hk_topi 24 (by decide +kernel) ?_
  refine lv_lushr (v := ((x : Int64).toUInt64 >>> ((24 : Int32).toInt64.toUInt64 &&& Int64.toUInt64 63)).toInt64) hx hb dX9_putLow_16 rfl ?_
  refine lv_l2i (v := (((x : Int64).toUInt64 >>> ((24 : Int32).toInt64.toUInt64 &&& Int64.toUInt64 63)).toInt64 : Int64).toInt32) hx hb dX9_putLow_17 rfl ?_
  refine hk_Vv (As := [.int ((((x : Int64).toUInt64 >>> ((24 : Int32).toInt64.toUInt64 &&& Int64.toUInt64 63)).toInt64 : Int64).toInt32)]) (rest := []) ⟨hx, hb, hml, hown, hts⟩ hw hA (cx_out_put l D cI cJ ad (upd g 14 19) lg (va_up ar 1 uu_11) bk _ ((((x : Int64).toUInt64 >>> ((24 : Int32).toInt64.toUInt64 &&& Int64.toUInt64 63)).toInt64 : Int64).toInt32) 19 20 rfl (by decide)) (cwV 1 hts gw_cx_low16_4_0 rfl rfl rfl (by decide +kernel) ⟨Nat.le_of_ble_eq_true rfl, Nat.le_of_ble_eq_true rfl⟩) 4 (ci := 12) (T := TX9) (N := 2) rfl rfl rfl hl.1 rfl (Nat.le_of_ble_eq_true rfl) dX9_putLow_18 ⟨Nat.le_of_ble_eq_true rfl, Nat.le_of_ble_eq_true rfl⟩ (fun uu_15 H locs hp_16 hw => ?_)
  have hw : hk_W D [(cI, .int), (cJ, .long)] _ s _ _ (xw cI cJ ad (upd g 14 20) lg (va_up ar 1 uu_15) bk) := hw
  refine lv_iinc (v := 4) (lv' := [(4, .int 4), (0, .ref (ad 4)), (1, .long x), (3, .int 4)]) hx hb dX9_putLow_21 hl (k := 0) rfl rfl (by decide) rfl (fun ls hl => ?_)
  refine lv_goto (tgt := 3) hx hb dX9_putLow_24 (by decide) ?_
  refine lv_iload hx hb dX9_putLow_3 (lv_at hl 0 rfl) ?_
  refine lv_iload_n hx hb dX9_putLow_5 rfl (lv_at hl 3 rfl) ?_
  refine lv_icmp_ge (tgt := 27) hx hb dX9_putLow_6 (by decide) (fun _ => ?_) (fun cc_17 => absurd (by decide) cc_17)
  exact hk_vret (u := uu_15) hx hb hr hlocks (hw) (trivial) dX9_putLow_27

def ww_cx_low20_4 : List Cond := Cond.code yX9_putLow cX9_putLow 5 none :: ([Cond.methodLink RX9 21 yX9_put, Cond.instanceMethod yX9_put, Cond.selects RX9 yX9_put yX9_put, Cond.initialized RX9, Cond.code yX9_put cX9_put 2 none, Cond.fieldLink RX9 13 "LzmaChains$Row" "size" "I", Cond.methodLink RX9 17 yX9_set, Cond.instanceMethod yX9_set, Cond.selects RX9 yX9_set yX9_set, Cond.code yX9_set cX9_set 3 none, Cond.fieldLink RX9 7 "LzmaChains$Row" "data" "[I"] ++ (wsX90 ++ ([])))
set_option maxRecDepth 20000 in
theorem gw_cx_low20_4_0 : GoodIn ww_cx_low20_4 (wsV RX9 21 RX9 yX9_put ww_cx_out_put) := goodIn_r _ [1, 2, 3, 4, 5, 6, 7, 8, 9, 4, 10, 11, 12, 13] rfl (by decide +kernel)
set_option maxHeartbeats 4000000 in
set_option maxRecDepth 100000 in
/-- Row.putLow of 4 bytes, OUT has 20 -/
theorem cx_low20_4 (l : Launch) (D : va_G) (cI cJ : ClassId) (ad : Nat → Nat) (g : Nat → Int32) (lg : Nat → Int64) (ar : Nat → Nat → Int32) (bk : Nat → Int64) (sz : Nat) (x : Int64) (h14 : g 14 = 20) : Met l yX9_putLow ww_cx_low20_4 { frames := 2, cells := 0, slots := 0, locals := 43 } (va_Pc [.ref (ad 4), .long x, .int 4] (hk_B D [(cI, .int), (cJ, .long)] sz (xw cI cJ ad g lg ar bk))) (va_Qv (fun u : (Nat → Int32) => True) (fun u : (Nat → Int32) => hk_E D [(cI, .int), (cJ, .long)] (va_A (xw cI cJ ad g lg ar bk) sz) (xw cI cJ ad (upd g 14 24) lg (va_up ar 1 u) bk)) (va_A (xw cI cJ ad g lg ar bk) sz)) 0 0 (va_A (xw cI cJ ad g lg ar bk) sz) := by
  refine hk_met (cc := cX9_putLow) (maxL := 5) (ret := none) (by decide) rfl (Nat.le_of_ble_eq_true rfl) ?_
  intro p e s m below meth c ls hx hb hr hml hown hts hlocks hin hA hw hl
  have iX9 : ∀ w ∈ wsX90, w ∈ ww_cx_low20_4 := fun _ h => List.mem_cons_of_mem _ (List.mem_append_right _ (List.mem_append_left _ h))
  have hl : lv_has ls 5 [(0, .ref (ad 4)), (1, .long x), (3, .int 4)] := hl
  refine lv_iconst (v := 0) hx hb dX9_putLow_0 (by decide) ?_
  refine lv_istore (lv' := [(4, .int 0), (0, .ref (ad 4)), (1, .long x), (3, .int 4)]) hx hb dX9_putLow_1 hl (by decide) rfl (fun ls hl => ?_)
  refine lv_iload hx hb dX9_putLow_3 (lv_at hl 0 rfl) ?_
  refine lv_iload_n hx hb dX9_putLow_5 rfl (lv_at hl 3 rfl) ?_
  refine lv_icmp_ge (tgt := 27) hx hb dX9_putLow_6 (by decide) (fun cc_1 => absurd cc_1 (by decide)) (fun _ => ?_)
  refine lv_aload_n hx hb dX9_putLow_9 rfl (lv_at hl 1 rfl) ?_
  refine lv_lload_n hx hb dX9_putLow_10 rfl (lv_at hl 2 rfl) ?_
  refine lv_bipush (v := 8) hx hb dX9_putLow_11 (by decide) ?_
  refine lv_iload hx hb dX9_putLow_13 (lv_at hl 0 rfl) ?_
  refine lv_imul hx hb dX9_putLow_15 ?_
  refine hk_topi 0 (by decide +kernel) ?_
  refine lv_lushr (v := ((x : Int64).toUInt64 >>> ((0 : Int32).toInt64.toUInt64 &&& Int64.toUInt64 63)).toInt64) hx hb dX9_putLow_16 rfl ?_
  refine lv_l2i (v := (((x : Int64).toUInt64 >>> ((0 : Int32).toInt64.toUInt64 &&& Int64.toUInt64 63)).toInt64 : Int64).toInt32) hx hb dX9_putLow_17 rfl ?_
  refine hk_Vv (As := [.int ((((x : Int64).toUInt64 >>> ((0 : Int32).toInt64.toUInt64 &&& Int64.toUInt64 63)).toInt64 : Int64).toInt32)]) (rest := []) ⟨hx, hb, hml, hown, hts⟩ hw hA (cx_out_put l D cI cJ ad g lg ar bk _ ((((x : Int64).toUInt64 >>> ((0 : Int32).toInt64.toUInt64 &&& Int64.toUInt64 63)).toInt64 : Int64).toInt32) 20 21 h14 (by decide)) (cwV 1 hts gw_cx_low20_4_0 rfl rfl rfl (by decide +kernel) ⟨Nat.le_of_ble_eq_true rfl, Nat.le_of_ble_eq_true rfl⟩) 4 (ci := 12) (T := TX9) (N := 2) rfl rfl rfl hl.1 rfl (Nat.le_of_ble_eq_true rfl) dX9_putLow_18 ⟨Nat.le_of_ble_eq_true rfl, Nat.le_of_ble_eq_true rfl⟩ (fun uu_3 H locs hp_4 hw => ?_)
  have hw : hk_W D [(cI, .int), (cJ, .long)] _ s _ _ (xw cI cJ ad (upd g 14 21) lg (va_up ar 1 uu_3) bk) := hw
  refine lv_iinc (v := 1) (lv' := [(4, .int 1), (0, .ref (ad 4)), (1, .long x), (3, .int 4)]) hx hb dX9_putLow_21 hl (k := 0) rfl rfl (by decide) rfl (fun ls hl => ?_)
  refine lv_goto (tgt := 3) hx hb dX9_putLow_24 (by decide) ?_
  refine lv_iload hx hb dX9_putLow_3 (lv_at hl 0 rfl) ?_
  refine lv_iload_n hx hb dX9_putLow_5 rfl (lv_at hl 3 rfl) ?_
  refine lv_icmp_ge (tgt := 27) hx hb dX9_putLow_6 (by decide) (fun cc_5 => absurd cc_5 (by decide)) (fun _ => ?_)
  refine lv_aload_n hx hb dX9_putLow_9 rfl (lv_at hl 1 rfl) ?_
  refine lv_lload_n hx hb dX9_putLow_10 rfl (lv_at hl 2 rfl) ?_
  refine lv_bipush (v := 8) hx hb dX9_putLow_11 (by decide) ?_
  refine lv_iload hx hb dX9_putLow_13 (lv_at hl 0 rfl) ?_
  refine lv_imul hx hb dX9_putLow_15 ?_
  refine hk_topi 8 (by decide +kernel) ?_
  refine lv_lushr (v := ((x : Int64).toUInt64 >>> ((8 : Int32).toInt64.toUInt64 &&& Int64.toUInt64 63)).toInt64) hx hb dX9_putLow_16 rfl ?_
  refine lv_l2i (v := (((x : Int64).toUInt64 >>> ((8 : Int32).toInt64.toUInt64 &&& Int64.toUInt64 63)).toInt64 : Int64).toInt32) hx hb dX9_putLow_17 rfl ?_
  refine hk_Vv (As := [.int ((((x : Int64).toUInt64 >>> ((8 : Int32).toInt64.toUInt64 &&& Int64.toUInt64 63)).toInt64 : Int64).toInt32)]) (rest := []) ⟨hx, hb, hml, hown, hts⟩ hw hA (cx_out_put l D cI cJ ad (upd g 14 21) lg (va_up ar 1 uu_3) bk _ ((((x : Int64).toUInt64 >>> ((8 : Int32).toInt64.toUInt64 &&& Int64.toUInt64 63)).toInt64 : Int64).toInt32) 21 22 rfl (by decide)) (cwV 1 hts gw_cx_low20_4_0 rfl rfl rfl (by decide +kernel) ⟨Nat.le_of_ble_eq_true rfl, Nat.le_of_ble_eq_true rfl⟩) 4 (ci := 12) (T := TX9) (N := 2) rfl rfl rfl hl.1 rfl (Nat.le_of_ble_eq_true rfl) dX9_putLow_18 ⟨Nat.le_of_ble_eq_true rfl, Nat.le_of_ble_eq_true rfl⟩ (fun uu_7 H locs hp_8 hw => ?_)
  have hw : hk_W D [(cI, .int), (cJ, .long)] _ s _ _ (xw cI cJ ad (upd g 14 22) lg (va_up ar 1 uu_7) bk) := hw
  refine lv_iinc (v := 2) (lv' := [(4, .int 2), (0, .ref (ad 4)), (1, .long x), (3, .int 4)]) hx hb dX9_putLow_21 hl (k := 0) rfl rfl (by decide) rfl (fun ls hl => ?_)
  refine lv_goto (tgt := 3) hx hb dX9_putLow_24 (by decide) ?_
  refine lv_iload hx hb dX9_putLow_3 (lv_at hl 0 rfl) ?_
  refine lv_iload_n hx hb dX9_putLow_5 rfl (lv_at hl 3 rfl) ?_
  refine lv_icmp_ge (tgt := 27) hx hb dX9_putLow_6 (by decide) (fun cc_9 => absurd cc_9 (by decide)) (fun _ => ?_)
  refine lv_aload_n hx hb dX9_putLow_9 rfl (lv_at hl 1 rfl) ?_
  refine lv_lload_n hx hb dX9_putLow_10 rfl (lv_at hl 2 rfl) ?_
  refine lv_bipush (v := 8) hx hb dX9_putLow_11 (by decide) ?_
  refine lv_iload hx hb dX9_putLow_13 (lv_at hl 0 rfl) ?_
  refine lv_imul hx hb dX9_putLow_15 ?_
  refine hk_topi 16 (by decide +kernel) ?_
  refine lv_lushr (v := ((x : Int64).toUInt64 >>> ((16 : Int32).toInt64.toUInt64 &&& Int64.toUInt64 63)).toInt64) hx hb dX9_putLow_16 rfl ?_
  refine lv_l2i (v := (((x : Int64).toUInt64 >>> ((16 : Int32).toInt64.toUInt64 &&& Int64.toUInt64 63)).toInt64 : Int64).toInt32) hx hb dX9_putLow_17 rfl ?_
  refine hk_Vv (As := [.int ((((x : Int64).toUInt64 >>> ((16 : Int32).toInt64.toUInt64 &&& Int64.toUInt64 63)).toInt64 : Int64).toInt32)]) (rest := []) ⟨hx, hb, hml, hown, hts⟩ hw hA (cx_out_put l D cI cJ ad (upd g 14 22) lg (va_up ar 1 uu_7) bk _ ((((x : Int64).toUInt64 >>> ((16 : Int32).toInt64.toUInt64 &&& Int64.toUInt64 63)).toInt64 : Int64).toInt32) 22 23 rfl (by decide)) (cwV 1 hts gw_cx_low20_4_0 rfl rfl rfl (by decide +kernel) ⟨Nat.le_of_ble_eq_true rfl, Nat.le_of_ble_eq_true rfl⟩) 4 (ci := 12) (T := TX9) (N := 2) rfl rfl rfl hl.1 rfl (Nat.le_of_ble_eq_true rfl) dX9_putLow_18 ⟨Nat.le_of_ble_eq_true rfl, Nat.le_of_ble_eq_true rfl⟩ (fun uu_11 H locs hp_12 hw => ?_)
  have hw : hk_W D [(cI, .int), (cJ, .long)] _ s _ _ (xw cI cJ ad (upd g 14 23) lg (va_up ar 1 uu_11) bk) := hw
  refine lv_iinc (v := 3) (lv' := [(4, .int 3), (0, .ref (ad 4)), (1, .long x), (3, .int 4)]) hx hb dX9_putLow_21 hl (k := 0) rfl rfl (by decide) rfl (fun ls hl => ?_)
  refine lv_goto (tgt := 3) hx hb dX9_putLow_24 (by decide) ?_
  refine lv_iload hx hb dX9_putLow_3 (lv_at hl 0 rfl) ?_
  refine lv_iload_n hx hb dX9_putLow_5 rfl (lv_at hl 3 rfl) ?_
  refine lv_icmp_ge (tgt := 27) hx hb dX9_putLow_6 (by decide) (fun cc_13 => absurd cc_13 (by decide)) (fun _ => ?_)
  refine lv_aload_n hx hb dX9_putLow_9 rfl (lv_at hl 1 rfl) ?_
  refine lv_lload_n hx hb dX9_putLow_10 rfl (lv_at hl 2 rfl) ?_
  refine lv_bipush (v := 8) hx hb dX9_putLow_11 (by decide) ?_
  refine lv_iload hx hb dX9_putLow_13 (lv_at hl 0 rfl) ?_
  refine lv_imul hx hb dX9_putLow_15 ?_
  refine hk_topi 24 (by decide +kernel) ?_
  refine lv_lushr (v := ((x : Int64).toUInt64 >>> ((24 : Int32).toInt64.toUInt64 &&& Int64.toUInt64 63)).toInt64) hx hb dX9_putLow_16 rfl ?_
  refine lv_l2i (v := (((x : Int64).toUInt64 >>> ((24 : Int32).toInt64.toUInt64 &&& Int64.toUInt64 63)).toInt64 : Int64).toInt32) hx hb dX9_putLow_17 rfl ?_
  refine hk_Vv (As := [.int ((((x : Int64).toUInt64 >>> ((24 : Int32).toInt64.toUInt64 &&& Int64.toUInt64 63)).toInt64 : Int64).toInt32)]) (rest := []) ⟨hx, hb, hml, hown, hts⟩ hw hA (cx_out_put l D cI cJ ad (upd g 14 23) lg (va_up ar 1 uu_11) bk _ ((((x : Int64).toUInt64 >>> ((24 : Int32).toInt64.toUInt64 &&& Int64.toUInt64 63)).toInt64 : Int64).toInt32) 23 24 rfl (by decide)) (cwV 1 hts gw_cx_low20_4_0 rfl rfl rfl (by decide +kernel) ⟨Nat.le_of_ble_eq_true rfl, Nat.le_of_ble_eq_true rfl⟩) 4 (ci := 12) (T := TX9) (N := 2) rfl rfl rfl hl.1 rfl (Nat.le_of_ble_eq_true rfl) dX9_putLow_18 ⟨Nat.le_of_ble_eq_true rfl, Nat.le_of_ble_eq_true rfl⟩ (fun uu_15 H locs hp_16 hw => ?_)
  have hw : hk_W D [(cI, .int), (cJ, .long)] _ s _ _ (xw cI cJ ad (upd g 14 24) lg (va_up ar 1 uu_15) bk) := hw
  refine lv_iinc (v := 4) (lv' := [(4, .int 4), (0, .ref (ad 4)), (1, .long x), (3, .int 4)]) hx hb dX9_putLow_21 hl (k := 0) rfl rfl (by decide) rfl (fun ls hl => ?_)
  refine lv_goto (tgt := 3) hx hb dX9_putLow_24 (by decide) ?_
  refine lv_iload hx hb dX9_putLow_3 (lv_at hl 0 rfl) ?_
  refine lv_iload_n hx hb dX9_putLow_5 rfl (lv_at hl 3 rfl) ?_
  refine lv_icmp_ge (tgt := 27) hx hb dX9_putLow_6 (by decide) (fun _ => ?_) (fun cc_17 => absurd (by decide) cc_17)
  exact hk_vret (u := uu_15) hx hb hr hlocks (hw) (trivial) dX9_putLow_27

def ww_cx_low24_4 : List Cond := Cond.code yX9_putLow cX9_putLow 5 none :: ([Cond.methodLink RX9 21 yX9_put, Cond.instanceMethod yX9_put, Cond.selects RX9 yX9_put yX9_put, Cond.initialized RX9, Cond.code yX9_put cX9_put 2 none, Cond.fieldLink RX9 13 "LzmaChains$Row" "size" "I", Cond.methodLink RX9 17 yX9_set, Cond.instanceMethod yX9_set, Cond.selects RX9 yX9_set yX9_set, Cond.code yX9_set cX9_set 3 none, Cond.fieldLink RX9 7 "LzmaChains$Row" "data" "[I"] ++ (wsX90 ++ ([])))
set_option maxRecDepth 20000 in
theorem gw_cx_low24_4_0 : GoodIn ww_cx_low24_4 (wsV RX9 21 RX9 yX9_put ww_cx_out_put) := goodIn_r _ [1, 2, 3, 4, 5, 6, 7, 8, 9, 4, 10, 11, 12, 13] rfl (by decide +kernel)
set_option maxHeartbeats 4000000 in
set_option maxRecDepth 100000 in
/-- Row.putLow of 4 bytes, OUT has 24 -/
theorem cx_low24_4 (l : Launch) (D : va_G) (cI cJ : ClassId) (ad : Nat → Nat) (g : Nat → Int32) (lg : Nat → Int64) (ar : Nat → Nat → Int32) (bk : Nat → Int64) (sz : Nat) (x : Int64) (h14 : g 14 = 24) : Met l yX9_putLow ww_cx_low24_4 { frames := 2, cells := 0, slots := 0, locals := 43 } (va_Pc [.ref (ad 4), .long x, .int 4] (hk_B D [(cI, .int), (cJ, .long)] sz (xw cI cJ ad g lg ar bk))) (va_Qv (fun u : (Nat → Int32) => True) (fun u : (Nat → Int32) => hk_E D [(cI, .int), (cJ, .long)] (va_A (xw cI cJ ad g lg ar bk) sz) (xw cI cJ ad (upd g 14 28) lg (va_up ar 1 u) bk)) (va_A (xw cI cJ ad g lg ar bk) sz)) 0 0 (va_A (xw cI cJ ad g lg ar bk) sz) := by
  refine hk_met (cc := cX9_putLow) (maxL := 5) (ret := none) (by decide) rfl (Nat.le_of_ble_eq_true rfl) ?_
  intro p e s m below meth c ls hx hb hr hml hown hts hlocks hin hA hw hl
  have iX9 : ∀ w ∈ wsX90, w ∈ ww_cx_low24_4 := fun _ h => List.mem_cons_of_mem _ (List.mem_append_right _ (List.mem_append_left _ h))
  have hl : lv_has ls 5 [(0, .ref (ad 4)), (1, .long x), (3, .int 4)] := hl
  refine lv_iconst (v := 0) hx hb dX9_putLow_0 (by decide) ?_
  refine lv_istore (lv' := [(4, .int 0), (0, .ref (ad 4)), (1, .long x), (3, .int 4)]) hx hb dX9_putLow_1 hl (by decide) rfl (fun ls hl => ?_)
  refine lv_iload hx hb dX9_putLow_3 (lv_at hl 0 rfl) ?_
  refine lv_iload_n hx hb dX9_putLow_5 rfl (lv_at hl 3 rfl) ?_
  refine lv_icmp_ge (tgt := 27) hx hb dX9_putLow_6 (by decide) (fun cc_1 => absurd cc_1 (by decide)) (fun _ => ?_)
  refine lv_aload_n hx hb dX9_putLow_9 rfl (lv_at hl 1 rfl) ?_
  refine lv_lload_n hx hb dX9_putLow_10 rfl (lv_at hl 2 rfl) ?_
  refine lv_bipush (v := 8) hx hb dX9_putLow_11 (by decide) ?_
  refine lv_iload hx hb dX9_putLow_13 (lv_at hl 0 rfl) ?_
  refine lv_imul hx hb dX9_putLow_15 ?_
  refine hk_topi 0 (by decide +kernel) ?_
  refine lv_lushr (v := ((x : Int64).toUInt64 >>> ((0 : Int32).toInt64.toUInt64 &&& Int64.toUInt64 63)).toInt64) hx hb dX9_putLow_16 rfl ?_
  refine lv_l2i (v := (((x : Int64).toUInt64 >>> ((0 : Int32).toInt64.toUInt64 &&& Int64.toUInt64 63)).toInt64 : Int64).toInt32) hx hb dX9_putLow_17 rfl ?_
  refine hk_Vv (As := [.int ((((x : Int64).toUInt64 >>> ((0 : Int32).toInt64.toUInt64 &&& Int64.toUInt64 63)).toInt64 : Int64).toInt32)]) (rest := []) ⟨hx, hb, hml, hown, hts⟩ hw hA (cx_out_put l D cI cJ ad g lg ar bk _ ((((x : Int64).toUInt64 >>> ((0 : Int32).toInt64.toUInt64 &&& Int64.toUInt64 63)).toInt64 : Int64).toInt32) 24 25 h14 (by decide)) (cwV 1 hts gw_cx_low24_4_0 rfl rfl rfl (by decide +kernel) ⟨Nat.le_of_ble_eq_true rfl, Nat.le_of_ble_eq_true rfl⟩) 4 (ci := 12) (T := TX9) (N := 2) rfl rfl rfl hl.1 rfl (Nat.le_of_ble_eq_true rfl) dX9_putLow_18 ⟨Nat.le_of_ble_eq_true rfl, Nat.le_of_ble_eq_true rfl⟩ (fun uu_3 H locs hp_4 hw => ?_)
  have hw : hk_W D [(cI, .int), (cJ, .long)] _ s _ _ (xw cI cJ ad (upd g 14 25) lg (va_up ar 1 uu_3) bk) := hw
  refine lv_iinc (v := 1) (lv' := [(4, .int 1), (0, .ref (ad 4)), (1, .long x), (3, .int 4)]) hx hb dX9_putLow_21 hl (k := 0) rfl rfl (by decide) rfl (fun ls hl => ?_)
  refine lv_goto (tgt := 3) hx hb dX9_putLow_24 (by decide) ?_
  refine lv_iload hx hb dX9_putLow_3 (lv_at hl 0 rfl) ?_
  refine lv_iload_n hx hb dX9_putLow_5 rfl (lv_at hl 3 rfl) ?_
  refine lv_icmp_ge (tgt := 27) hx hb dX9_putLow_6 (by decide) (fun cc_5 => absurd cc_5 (by decide)) (fun _ => ?_)
  refine lv_aload_n hx hb dX9_putLow_9 rfl (lv_at hl 1 rfl) ?_
  refine lv_lload_n hx hb dX9_putLow_10 rfl (lv_at hl 2 rfl) ?_
  refine lv_bipush (v := 8) hx hb dX9_putLow_11 (by decide) ?_
  refine lv_iload hx hb dX9_putLow_13 (lv_at hl 0 rfl) ?_
  refine lv_imul hx hb dX9_putLow_15 ?_
  refine hk_topi 8 (by decide +kernel) ?_
  refine lv_lushr (v := ((x : Int64).toUInt64 >>> ((8 : Int32).toInt64.toUInt64 &&& Int64.toUInt64 63)).toInt64) hx hb dX9_putLow_16 rfl ?_
  refine lv_l2i (v := (((x : Int64).toUInt64 >>> ((8 : Int32).toInt64.toUInt64 &&& Int64.toUInt64 63)).toInt64 : Int64).toInt32) hx hb dX9_putLow_17 rfl ?_
  refine hk_Vv (As := [.int ((((x : Int64).toUInt64 >>> ((8 : Int32).toInt64.toUInt64 &&& Int64.toUInt64 63)).toInt64 : Int64).toInt32)]) (rest := []) ⟨hx, hb, hml, hown, hts⟩ hw hA (cx_out_put l D cI cJ ad (upd g 14 25) lg (va_up ar 1 uu_3) bk _ ((((x : Int64).toUInt64 >>> ((8 : Int32).toInt64.toUInt64 &&& Int64.toUInt64 63)).toInt64 : Int64).toInt32) 25 26 rfl (by decide)) (cwV 1 hts gw_cx_low24_4_0 rfl rfl rfl (by decide +kernel) ⟨Nat.le_of_ble_eq_true rfl, Nat.le_of_ble_eq_true rfl⟩) 4 (ci := 12) (T := TX9) (N := 2) rfl rfl rfl hl.1 rfl (Nat.le_of_ble_eq_true rfl) dX9_putLow_18 ⟨Nat.le_of_ble_eq_true rfl, Nat.le_of_ble_eq_true rfl⟩ (fun uu_7 H locs hp_8 hw => ?_)
  have hw : hk_W D [(cI, .int), (cJ, .long)] _ s _ _ (xw cI cJ ad (upd g 14 26) lg (va_up ar 1 uu_7) bk) := hw
  refine lv_iinc (v := 2) (lv' := [(4, .int 2), (0, .ref (ad 4)), (1, .long x), (3, .int 4)]) hx hb dX9_putLow_21 hl (k := 0) rfl rfl (by decide) rfl (fun ls hl => ?_)
  refine lv_goto (tgt := 3) hx hb dX9_putLow_24 (by decide) ?_
  refine lv_iload hx hb dX9_putLow_3 (lv_at hl 0 rfl) ?_
  refine lv_iload_n hx hb dX9_putLow_5 rfl (lv_at hl 3 rfl) ?_
  refine lv_icmp_ge (tgt := 27) hx hb dX9_putLow_6 (by decide) (fun cc_9 => absurd cc_9 (by decide)) (fun _ => ?_)
  refine lv_aload_n hx hb dX9_putLow_9 rfl (lv_at hl 1 rfl) ?_
  refine lv_lload_n hx hb dX9_putLow_10 rfl (lv_at hl 2 rfl) ?_
  refine lv_bipush (v := 8) hx hb dX9_putLow_11 (by decide) ?_
  refine lv_iload hx hb dX9_putLow_13 (lv_at hl 0 rfl) ?_
  refine lv_imul hx hb dX9_putLow_15 ?_
  refine hk_topi 16 (by decide +kernel) ?_
  refine lv_lushr (v := ((x : Int64).toUInt64 >>> ((16 : Int32).toInt64.toUInt64 &&& Int64.toUInt64 63)).toInt64) hx hb dX9_putLow_16 rfl ?_
  refine lv_l2i (v := (((x : Int64).toUInt64 >>> ((16 : Int32).toInt64.toUInt64 &&& Int64.toUInt64 63)).toInt64 : Int64).toInt32) hx hb dX9_putLow_17 rfl ?_
  refine hk_Vv (As := [.int ((((x : Int64).toUInt64 >>> ((16 : Int32).toInt64.toUInt64 &&& Int64.toUInt64 63)).toInt64 : Int64).toInt32)]) (rest := []) ⟨hx, hb, hml, hown, hts⟩ hw hA (cx_out_put l D cI cJ ad (upd g 14 26) lg (va_up ar 1 uu_7) bk _ ((((x : Int64).toUInt64 >>> ((16 : Int32).toInt64.toUInt64 &&& Int64.toUInt64 63)).toInt64 : Int64).toInt32) 26 27 rfl (by decide)) (cwV 1 hts gw_cx_low24_4_0 rfl rfl rfl (by decide +kernel) ⟨Nat.le_of_ble_eq_true rfl, Nat.le_of_ble_eq_true rfl⟩) 4 (ci := 12) (T := TX9) (N := 2) rfl rfl rfl hl.1 rfl (Nat.le_of_ble_eq_true rfl) dX9_putLow_18 ⟨Nat.le_of_ble_eq_true rfl, Nat.le_of_ble_eq_true rfl⟩ (fun uu_11 H locs hp_12 hw => ?_)
  have hw : hk_W D [(cI, .int), (cJ, .long)] _ s _ _ (xw cI cJ ad (upd g 14 27) lg (va_up ar 1 uu_11) bk) := hw
  refine lv_iinc (v := 3) (lv' := [(4, .int 3), (0, .ref (ad 4)), (1, .long x), (3, .int 4)]) hx hb dX9_putLow_21 hl (k := 0) rfl rfl (by decide) rfl (fun ls hl => ?_)
  refine lv_goto (tgt := 3) hx hb dX9_putLow_24 (by decide) ?_
  refine lv_iload hx hb dX9_putLow_3 (lv_at hl 0 rfl) ?_
  refine lv_iload_n hx hb dX9_putLow_5 rfl (lv_at hl 3 rfl) ?_
  refine lv_icmp_ge (tgt := 27) hx hb dX9_putLow_6 (by decide) (fun cc_13 => absurd cc_13 (by decide)) (fun _ => ?_)
  refine lv_aload_n hx hb dX9_putLow_9 rfl (lv_at hl 1 rfl) ?_
  refine lv_lload_n hx hb dX9_putLow_10 rfl (lv_at hl 2 rfl) ?_
  refine lv_bipush (v := 8) hx hb dX9_putLow_11 (by decide) ?_
  refine lv_iload hx hb dX9_putLow_13 (lv_at hl 0 rfl) ?_
  refine lv_imul hx hb dX9_putLow_15 ?_
  refine hk_topi 24 (by decide +kernel) ?_
  refine lv_lushr (v := ((x : Int64).toUInt64 >>> ((24 : Int32).toInt64.toUInt64 &&& Int64.toUInt64 63)).toInt64) hx hb dX9_putLow_16 rfl ?_
  refine lv_l2i (v := (((x : Int64).toUInt64 >>> ((24 : Int32).toInt64.toUInt64 &&& Int64.toUInt64 63)).toInt64 : Int64).toInt32) hx hb dX9_putLow_17 rfl ?_
  refine hk_Vv (As := [.int ((((x : Int64).toUInt64 >>> ((24 : Int32).toInt64.toUInt64 &&& Int64.toUInt64 63)).toInt64 : Int64).toInt32)]) (rest := []) ⟨hx, hb, hml, hown, hts⟩ hw hA (cx_out_put l D cI cJ ad (upd g 14 27) lg (va_up ar 1 uu_11) bk _ ((((x : Int64).toUInt64 >>> ((24 : Int32).toInt64.toUInt64 &&& Int64.toUInt64 63)).toInt64 : Int64).toInt32) 27 28 rfl (by decide)) (cwV 1 hts gw_cx_low24_4_0 rfl rfl rfl (by decide +kernel) ⟨Nat.le_of_ble_eq_true rfl, Nat.le_of_ble_eq_true rfl⟩) 4 (ci := 12) (T := TX9) (N := 2) rfl rfl rfl hl.1 rfl (Nat.le_of_ble_eq_true rfl) dX9_putLow_18 ⟨Nat.le_of_ble_eq_true rfl, Nat.le_of_ble_eq_true rfl⟩ (fun uu_15 H locs hp_16 hw => ?_)
  have hw : hk_W D [(cI, .int), (cJ, .long)] _ s _ _ (xw cI cJ ad (upd g 14 28) lg (va_up ar 1 uu_15) bk) := hw
  refine lv_iinc (v := 4) (lv' := [(4, .int 4), (0, .ref (ad 4)), (1, .long x), (3, .int 4)]) hx hb dX9_putLow_21 hl (k := 0) rfl rfl (by decide) rfl (fun ls hl => ?_)
  refine lv_goto (tgt := 3) hx hb dX9_putLow_24 (by decide) ?_
  refine lv_iload hx hb dX9_putLow_3 (lv_at hl 0 rfl) ?_
  refine lv_iload_n hx hb dX9_putLow_5 rfl (lv_at hl 3 rfl) ?_
  refine lv_icmp_ge (tgt := 27) hx hb dX9_putLow_6 (by decide) (fun _ => ?_) (fun cc_17 => absurd (by decide) cc_17)
  exact hk_vret (u := uu_15) hx hb hr hlocks (hw) (trivial) dX9_putLow_27

def ww_cx_high0 : List Cond := Cond.code yX9_putHigh cX9_putHigh 5 none :: ([Cond.methodLink RX9 21 yX9_put, Cond.instanceMethod yX9_put, Cond.selects RX9 yX9_put yX9_put, Cond.initialized RX9, Cond.code yX9_put cX9_put 2 none, Cond.fieldLink RX9 13 "LzmaChains$Row" "size" "I", Cond.methodLink RX9 17 yX9_set, Cond.instanceMethod yX9_set, Cond.selects RX9 yX9_set yX9_set, Cond.code yX9_set cX9_set 3 none, Cond.fieldLink RX9 7 "LzmaChains$Row" "data" "[I"] ++ (wsX90 ++ ([])))
set_option maxRecDepth 20000 in
theorem gw_cx_high0_0 : GoodIn ww_cx_high0 (wsV RX9 21 RX9 yX9_put ww_cx_in_put) := goodIn_r _ [1, 2, 3, 4, 5, 6, 7, 8, 9, 4, 10, 11, 12, 13] rfl (by decide +kernel)
set_option maxHeartbeats 4000000 in
set_option maxRecDepth 100000 in
/-- Row.putHigh of 4 bytes, the input has 0 -/
theorem cx_high0 (l : Launch) (D : va_G) (cI cJ : ClassId) (ad : Nat → Nat) (g : Nat → Int32) (lg : Nat → Int64) (ar : Nat → Nat → Int32) (bk : Nat → Int64) (sz : Nat) (x : Int64) (h13 : g 13 = 0) : Met l yX9_putHigh ww_cx_high0 { frames := 2, cells := 0, slots := 0, locals := 43 } (va_Pc [.ref (ad 2), .long x, .int 4] (hk_B D [(cI, .int), (cJ, .long)] sz (xw cI cJ ad g lg ar bk))) (va_Qv (fun u : (Nat → Int32) => True) (fun u : (Nat → Int32) => hk_E D [(cI, .int), (cJ, .long)] (va_A (xw cI cJ ad g lg ar bk) sz) (xw cI cJ ad (upd g 13 4) lg (va_up ar 0 u) bk)) (va_A (xw cI cJ ad g lg ar bk) sz)) 0 0 (va_A (xw cI cJ ad g lg ar bk) sz) := by
  refine hk_met (cc := cX9_putHigh) (maxL := 5) (ret := none) (by decide) rfl (Nat.le_of_ble_eq_true rfl) ?_
  intro p e s m below meth c ls hx hb hr hml hown hts hlocks hin hA hw hl
  have iX9 : ∀ w ∈ wsX90, w ∈ ww_cx_high0 := fun _ h => List.mem_cons_of_mem _ (List.mem_append_right _ (List.mem_append_left _ h))
  have hl : lv_has ls 5 [(0, .ref (ad 2)), (1, .long x), (3, .int 4)] := hl
  refine lv_iload_n hx hb dX9_putHigh_0 rfl (lv_at hl 2 rfl) ?_
  refine lv_iconst (v := 1) hx hb dX9_putHigh_1 (by decide) ?_
  refine lv_isub hx hb dX9_putHigh_2 ?_
  refine hk_topi 3 (by decide +kernel) ?_
  refine lv_istore (lv' := [(4, .int 3), (0, .ref (ad 2)), (1, .long x), (3, .int 4)]) hx hb dX9_putHigh_3 hl (by decide) rfl (fun ls hl => ?_)
  refine lv_iload hx hb dX9_putHigh_5 (lv_at hl 0 rfl) ?_
  refine lv_if_lt (tgt := 28) hx hb dX9_putHigh_7 (by decide) (fun cc_1 => absurd cc_1 (by decide)) (fun _ => ?_)
  refine lv_aload_n hx hb dX9_putHigh_10 rfl (lv_at hl 1 rfl) ?_
  refine lv_lload_n hx hb dX9_putHigh_11 rfl (lv_at hl 2 rfl) ?_
  refine lv_bipush (v := 8) hx hb dX9_putHigh_12 (by decide) ?_
  refine lv_iload hx hb dX9_putHigh_14 (lv_at hl 0 rfl) ?_
  refine lv_imul hx hb dX9_putHigh_16 ?_
  refine hk_topi 24 (by decide +kernel) ?_
  refine lv_lushr (v := ((x : Int64).toUInt64 >>> ((24 : Int32).toInt64.toUInt64 &&& Int64.toUInt64 63)).toInt64) hx hb dX9_putHigh_17 rfl ?_
  refine lv_l2i (v := (((x : Int64).toUInt64 >>> ((24 : Int32).toInt64.toUInt64 &&& Int64.toUInt64 63)).toInt64 : Int64).toInt32) hx hb dX9_putHigh_18 rfl ?_
  refine hk_Vv (As := [.int ((((x : Int64).toUInt64 >>> ((24 : Int32).toInt64.toUInt64 &&& Int64.toUInt64 63)).toInt64 : Int64).toInt32)]) (rest := []) ⟨hx, hb, hml, hown, hts⟩ hw hA (cx_in_put l D cI cJ ad g lg ar bk _ ((((x : Int64).toUInt64 >>> ((24 : Int32).toInt64.toUInt64 &&& Int64.toUInt64 63)).toInt64 : Int64).toInt32) 0 1 h13 (by decide)) (cwV 1 hts gw_cx_high0_0 rfl rfl rfl (by decide +kernel) ⟨Nat.le_of_ble_eq_true rfl, Nat.le_of_ble_eq_true rfl⟩) 2 (ci := 12) (T := TX9) (N := 2) rfl rfl rfl hl.1 rfl (Nat.le_of_ble_eq_true rfl) dX9_putHigh_19 ⟨Nat.le_of_ble_eq_true rfl, Nat.le_of_ble_eq_true rfl⟩ (fun uu_3 H locs hp_4 hw => ?_)
  have hw : hk_W D [(cI, .int), (cJ, .long)] _ s _ _ (xw cI cJ ad (upd g 13 1) lg (va_up ar 0 uu_3) bk) := hw
  refine lv_iinc (v := 2) (lv' := [(4, .int 2), (0, .ref (ad 2)), (1, .long x), (3, .int 4)]) hx hb dX9_putHigh_22 hl (k := 0) rfl rfl (by decide) rfl (fun ls hl => ?_)
  refine lv_goto (tgt := 5) hx hb dX9_putHigh_25 (by decide) ?_
  refine lv_iload hx hb dX9_putHigh_5 (lv_at hl 0 rfl) ?_
  refine lv_if_lt (tgt := 28) hx hb dX9_putHigh_7 (by decide) (fun cc_5 => absurd cc_5 (by decide)) (fun _ => ?_)
  refine lv_aload_n hx hb dX9_putHigh_10 rfl (lv_at hl 1 rfl) ?_
  refine lv_lload_n hx hb dX9_putHigh_11 rfl (lv_at hl 2 rfl) ?_
  refine lv_bipush (v := 8) hx hb dX9_putHigh_12 (by decide) ?_
  refine lv_iload hx hb dX9_putHigh_14 (lv_at hl 0 rfl) ?_
  refine lv_imul hx hb dX9_putHigh_16 ?_
  refine hk_topi 16 (by decide +kernel) ?_
  refine lv_lushr (v := ((x : Int64).toUInt64 >>> ((16 : Int32).toInt64.toUInt64 &&& Int64.toUInt64 63)).toInt64) hx hb dX9_putHigh_17 rfl ?_
  refine lv_l2i (v := (((x : Int64).toUInt64 >>> ((16 : Int32).toInt64.toUInt64 &&& Int64.toUInt64 63)).toInt64 : Int64).toInt32) hx hb dX9_putHigh_18 rfl ?_
  refine hk_Vv (As := [.int ((((x : Int64).toUInt64 >>> ((16 : Int32).toInt64.toUInt64 &&& Int64.toUInt64 63)).toInt64 : Int64).toInt32)]) (rest := []) ⟨hx, hb, hml, hown, hts⟩ hw hA (cx_in_put l D cI cJ ad (upd g 13 1) lg (va_up ar 0 uu_3) bk _ ((((x : Int64).toUInt64 >>> ((16 : Int32).toInt64.toUInt64 &&& Int64.toUInt64 63)).toInt64 : Int64).toInt32) 1 2 rfl (by decide)) (cwV 1 hts gw_cx_high0_0 rfl rfl rfl (by decide +kernel) ⟨Nat.le_of_ble_eq_true rfl, Nat.le_of_ble_eq_true rfl⟩) 2 (ci := 12) (T := TX9) (N := 2) rfl rfl rfl hl.1 rfl (Nat.le_of_ble_eq_true rfl) dX9_putHigh_19 ⟨Nat.le_of_ble_eq_true rfl, Nat.le_of_ble_eq_true rfl⟩ (fun uu_7 H locs hp_8 hw => ?_)
  have hw : hk_W D [(cI, .int), (cJ, .long)] _ s _ _ (xw cI cJ ad (upd g 13 2) lg (va_up ar 0 uu_7) bk) := hw
  refine lv_iinc (v := 1) (lv' := [(4, .int 1), (0, .ref (ad 2)), (1, .long x), (3, .int 4)]) hx hb dX9_putHigh_22 hl (k := 0) rfl rfl (by decide) rfl (fun ls hl => ?_)
  refine lv_goto (tgt := 5) hx hb dX9_putHigh_25 (by decide) ?_
  refine lv_iload hx hb dX9_putHigh_5 (lv_at hl 0 rfl) ?_
  refine lv_if_lt (tgt := 28) hx hb dX9_putHigh_7 (by decide) (fun cc_9 => absurd cc_9 (by decide)) (fun _ => ?_)
  refine lv_aload_n hx hb dX9_putHigh_10 rfl (lv_at hl 1 rfl) ?_
  refine lv_lload_n hx hb dX9_putHigh_11 rfl (lv_at hl 2 rfl) ?_
  refine lv_bipush (v := 8) hx hb dX9_putHigh_12 (by decide) ?_
  refine lv_iload hx hb dX9_putHigh_14 (lv_at hl 0 rfl) ?_
  refine lv_imul hx hb dX9_putHigh_16 ?_
  refine hk_topi 8 (by decide +kernel) ?_
  refine lv_lushr (v := ((x : Int64).toUInt64 >>> ((8 : Int32).toInt64.toUInt64 &&& Int64.toUInt64 63)).toInt64) hx hb dX9_putHigh_17 rfl ?_
  refine lv_l2i (v := (((x : Int64).toUInt64 >>> ((8 : Int32).toInt64.toUInt64 &&& Int64.toUInt64 63)).toInt64 : Int64).toInt32) hx hb dX9_putHigh_18 rfl ?_
  refine hk_Vv (As := [.int ((((x : Int64).toUInt64 >>> ((8 : Int32).toInt64.toUInt64 &&& Int64.toUInt64 63)).toInt64 : Int64).toInt32)]) (rest := []) ⟨hx, hb, hml, hown, hts⟩ hw hA (cx_in_put l D cI cJ ad (upd g 13 2) lg (va_up ar 0 uu_7) bk _ ((((x : Int64).toUInt64 >>> ((8 : Int32).toInt64.toUInt64 &&& Int64.toUInt64 63)).toInt64 : Int64).toInt32) 2 3 rfl (by decide)) (cwV 1 hts gw_cx_high0_0 rfl rfl rfl (by decide +kernel) ⟨Nat.le_of_ble_eq_true rfl, Nat.le_of_ble_eq_true rfl⟩) 2 (ci := 12) (T := TX9) (N := 2) rfl rfl rfl hl.1 rfl (Nat.le_of_ble_eq_true rfl) dX9_putHigh_19 ⟨Nat.le_of_ble_eq_true rfl, Nat.le_of_ble_eq_true rfl⟩ (fun uu_11 H locs hp_12 hw => ?_)
  have hw : hk_W D [(cI, .int), (cJ, .long)] _ s _ _ (xw cI cJ ad (upd g 13 3) lg (va_up ar 0 uu_11) bk) := hw
  refine lv_iinc (v := 0) (lv' := [(4, .int 0), (0, .ref (ad 2)), (1, .long x), (3, .int 4)]) hx hb dX9_putHigh_22 hl (k := 0) rfl rfl (by decide) rfl (fun ls hl => ?_)
  refine lv_goto (tgt := 5) hx hb dX9_putHigh_25 (by decide) ?_
  refine lv_iload hx hb dX9_putHigh_5 (lv_at hl 0 rfl) ?_
  refine lv_if_lt (tgt := 28) hx hb dX9_putHigh_7 (by decide) (fun cc_13 => absurd cc_13 (by decide)) (fun _ => ?_)
  refine lv_aload_n hx hb dX9_putHigh_10 rfl (lv_at hl 1 rfl) ?_
  refine lv_lload_n hx hb dX9_putHigh_11 rfl (lv_at hl 2 rfl) ?_
  refine lv_bipush (v := 8) hx hb dX9_putHigh_12 (by decide) ?_
  refine lv_iload hx hb dX9_putHigh_14 (lv_at hl 0 rfl) ?_
  refine lv_imul hx hb dX9_putHigh_16 ?_
  refine hk_topi 0 (by decide +kernel) ?_
  refine lv_lushr (v := ((x : Int64).toUInt64 >>> ((0 : Int32).toInt64.toUInt64 &&& Int64.toUInt64 63)).toInt64) hx hb dX9_putHigh_17 rfl ?_
  refine lv_l2i (v := (((x : Int64).toUInt64 >>> ((0 : Int32).toInt64.toUInt64 &&& Int64.toUInt64 63)).toInt64 : Int64).toInt32) hx hb dX9_putHigh_18 rfl ?_
  refine hk_Vv (As := [.int ((((x : Int64).toUInt64 >>> ((0 : Int32).toInt64.toUInt64 &&& Int64.toUInt64 63)).toInt64 : Int64).toInt32)]) (rest := []) ⟨hx, hb, hml, hown, hts⟩ hw hA (cx_in_put l D cI cJ ad (upd g 13 3) lg (va_up ar 0 uu_11) bk _ ((((x : Int64).toUInt64 >>> ((0 : Int32).toInt64.toUInt64 &&& Int64.toUInt64 63)).toInt64 : Int64).toInt32) 3 4 rfl (by decide)) (cwV 1 hts gw_cx_high0_0 rfl rfl rfl (by decide +kernel) ⟨Nat.le_of_ble_eq_true rfl, Nat.le_of_ble_eq_true rfl⟩) 2 (ci := 12) (T := TX9) (N := 2) rfl rfl rfl hl.1 rfl (Nat.le_of_ble_eq_true rfl) dX9_putHigh_19 ⟨Nat.le_of_ble_eq_true rfl, Nat.le_of_ble_eq_true rfl⟩ (fun uu_15 H locs hp_16 hw => ?_)
  have hw : hk_W D [(cI, .int), (cJ, .long)] _ s _ _ (xw cI cJ ad (upd g 13 4) lg (va_up ar 0 uu_15) bk) := hw
  refine lv_iinc (v := (-1)) (lv' := [(4, .int (-1)), (0, .ref (ad 2)), (1, .long x), (3, .int 4)]) hx hb dX9_putHigh_22 hl (k := 0) rfl rfl (by decide) rfl (fun ls hl => ?_)
  refine lv_goto (tgt := 5) hx hb dX9_putHigh_25 (by decide) ?_
  refine lv_iload hx hb dX9_putHigh_5 (lv_at hl 0 rfl) ?_
  refine lv_if_lt (tgt := 28) hx hb dX9_putHigh_7 (by decide) (fun _ => ?_) (fun cc_17 => absurd (by decide) cc_17)
  exact hk_vret (u := uu_15) hx hb hr hlocks (hw) (trivial) dX9_putHigh_28

def ww_cx_high4 : List Cond := Cond.code yX9_putHigh cX9_putHigh 5 none :: ([Cond.methodLink RX9 21 yX9_put, Cond.instanceMethod yX9_put, Cond.selects RX9 yX9_put yX9_put, Cond.initialized RX9, Cond.code yX9_put cX9_put 2 none, Cond.fieldLink RX9 13 "LzmaChains$Row" "size" "I", Cond.methodLink RX9 17 yX9_set, Cond.instanceMethod yX9_set, Cond.selects RX9 yX9_set yX9_set, Cond.code yX9_set cX9_set 3 none, Cond.fieldLink RX9 7 "LzmaChains$Row" "data" "[I"] ++ (wsX90 ++ ([])))
set_option maxRecDepth 20000 in
theorem gw_cx_high4_0 : GoodIn ww_cx_high4 (wsV RX9 21 RX9 yX9_put ww_cx_in_put) := goodIn_r _ [1, 2, 3, 4, 5, 6, 7, 8, 9, 4, 10, 11, 12, 13] rfl (by decide +kernel)
set_option maxHeartbeats 4000000 in
set_option maxRecDepth 100000 in
/-- Row.putHigh of 4 bytes, the input has 4 -/
theorem cx_high4 (l : Launch) (D : va_G) (cI cJ : ClassId) (ad : Nat → Nat) (g : Nat → Int32) (lg : Nat → Int64) (ar : Nat → Nat → Int32) (bk : Nat → Int64) (sz : Nat) (x : Int64) (h13 : g 13 = 4) : Met l yX9_putHigh ww_cx_high4 { frames := 2, cells := 0, slots := 0, locals := 43 } (va_Pc [.ref (ad 2), .long x, .int 4] (hk_B D [(cI, .int), (cJ, .long)] sz (xw cI cJ ad g lg ar bk))) (va_Qv (fun u : (Nat → Int32) => True) (fun u : (Nat → Int32) => hk_E D [(cI, .int), (cJ, .long)] (va_A (xw cI cJ ad g lg ar bk) sz) (xw cI cJ ad (upd g 13 8) lg (va_up ar 0 u) bk)) (va_A (xw cI cJ ad g lg ar bk) sz)) 0 0 (va_A (xw cI cJ ad g lg ar bk) sz) := by
  refine hk_met (cc := cX9_putHigh) (maxL := 5) (ret := none) (by decide) rfl (Nat.le_of_ble_eq_true rfl) ?_
  intro p e s m below meth c ls hx hb hr hml hown hts hlocks hin hA hw hl
  have iX9 : ∀ w ∈ wsX90, w ∈ ww_cx_high4 := fun _ h => List.mem_cons_of_mem _ (List.mem_append_right _ (List.mem_append_left _ h))
  have hl : lv_has ls 5 [(0, .ref (ad 2)), (1, .long x), (3, .int 4)] := hl
  refine lv_iload_n hx hb dX9_putHigh_0 rfl (lv_at hl 2 rfl) ?_
  refine lv_iconst (v := 1) hx hb dX9_putHigh_1 (by decide) ?_
  refine lv_isub hx hb dX9_putHigh_2 ?_
  refine hk_topi 3 (by decide +kernel) ?_
  refine lv_istore (lv' := [(4, .int 3), (0, .ref (ad 2)), (1, .long x), (3, .int 4)]) hx hb dX9_putHigh_3 hl (by decide) rfl (fun ls hl => ?_)
  refine lv_iload hx hb dX9_putHigh_5 (lv_at hl 0 rfl) ?_
  refine lv_if_lt (tgt := 28) hx hb dX9_putHigh_7 (by decide) (fun cc_1 => absurd cc_1 (by decide)) (fun _ => ?_)
  refine lv_aload_n hx hb dX9_putHigh_10 rfl (lv_at hl 1 rfl) ?_
  refine lv_lload_n hx hb dX9_putHigh_11 rfl (lv_at hl 2 rfl) ?_
  refine lv_bipush (v := 8) hx hb dX9_putHigh_12 (by decide) ?_
  refine lv_iload hx hb dX9_putHigh_14 (lv_at hl 0 rfl) ?_
  refine lv_imul hx hb dX9_putHigh_16 ?_
  refine hk_topi 24 (by decide +kernel) ?_
  refine lv_lushr (v := ((x : Int64).toUInt64 >>> ((24 : Int32).toInt64.toUInt64 &&& Int64.toUInt64 63)).toInt64) hx hb dX9_putHigh_17 rfl ?_
  refine lv_l2i (v := (((x : Int64).toUInt64 >>> ((24 : Int32).toInt64.toUInt64 &&& Int64.toUInt64 63)).toInt64 : Int64).toInt32) hx hb dX9_putHigh_18 rfl ?_
  refine hk_Vv (As := [.int ((((x : Int64).toUInt64 >>> ((24 : Int32).toInt64.toUInt64 &&& Int64.toUInt64 63)).toInt64 : Int64).toInt32)]) (rest := []) ⟨hx, hb, hml, hown, hts⟩ hw hA (cx_in_put l D cI cJ ad g lg ar bk _ ((((x : Int64).toUInt64 >>> ((24 : Int32).toInt64.toUInt64 &&& Int64.toUInt64 63)).toInt64 : Int64).toInt32) 4 5 h13 (by decide)) (cwV 1 hts gw_cx_high4_0 rfl rfl rfl (by decide +kernel) ⟨Nat.le_of_ble_eq_true rfl, Nat.le_of_ble_eq_true rfl⟩) 2 (ci := 12) (T := TX9) (N := 2) rfl rfl rfl hl.1 rfl (Nat.le_of_ble_eq_true rfl) dX9_putHigh_19 ⟨Nat.le_of_ble_eq_true rfl, Nat.le_of_ble_eq_true rfl⟩ (fun uu_3 H locs hp_4 hw => ?_)
  have hw : hk_W D [(cI, .int), (cJ, .long)] _ s _ _ (xw cI cJ ad (upd g 13 5) lg (va_up ar 0 uu_3) bk) := hw
  refine lv_iinc (v := 2) (lv' := [(4, .int 2), (0, .ref (ad 2)), (1, .long x), (3, .int 4)]) hx hb dX9_putHigh_22 hl (k := 0) rfl rfl (by decide) rfl (fun ls hl => ?_)
  refine lv_goto (tgt := 5) hx hb dX9_putHigh_25 (by decide) ?_
  refine lv_iload hx hb dX9_putHigh_5 (lv_at hl 0 rfl) ?_
  refine lv_if_lt (tgt := 28) hx hb dX9_putHigh_7 (by decide) (fun cc_5 => absurd cc_5 (by decide)) (fun _ => ?_)
  refine lv_aload_n hx hb dX9_putHigh_10 rfl (lv_at hl 1 rfl) ?_
  refine lv_lload_n hx hb dX9_putHigh_11 rfl (lv_at hl 2 rfl) ?_
  refine lv_bipush (v := 8) hx hb dX9_putHigh_12 (by decide) ?_
  refine lv_iload hx hb dX9_putHigh_14 (lv_at hl 0 rfl) ?_
  refine lv_imul hx hb dX9_putHigh_16 ?_
  refine hk_topi 16 (by decide +kernel) ?_
  refine lv_lushr (v := ((x : Int64).toUInt64 >>> ((16 : Int32).toInt64.toUInt64 &&& Int64.toUInt64 63)).toInt64) hx hb dX9_putHigh_17 rfl ?_
  refine lv_l2i (v := (((x : Int64).toUInt64 >>> ((16 : Int32).toInt64.toUInt64 &&& Int64.toUInt64 63)).toInt64 : Int64).toInt32) hx hb dX9_putHigh_18 rfl ?_
  refine hk_Vv (As := [.int ((((x : Int64).toUInt64 >>> ((16 : Int32).toInt64.toUInt64 &&& Int64.toUInt64 63)).toInt64 : Int64).toInt32)]) (rest := []) ⟨hx, hb, hml, hown, hts⟩ hw hA (cx_in_put l D cI cJ ad (upd g 13 5) lg (va_up ar 0 uu_3) bk _ ((((x : Int64).toUInt64 >>> ((16 : Int32).toInt64.toUInt64 &&& Int64.toUInt64 63)).toInt64 : Int64).toInt32) 5 6 rfl (by decide)) (cwV 1 hts gw_cx_high4_0 rfl rfl rfl (by decide +kernel) ⟨Nat.le_of_ble_eq_true rfl, Nat.le_of_ble_eq_true rfl⟩) 2 (ci := 12) (T := TX9) (N := 2) rfl rfl rfl hl.1 rfl (Nat.le_of_ble_eq_true rfl) dX9_putHigh_19 ⟨Nat.le_of_ble_eq_true rfl, Nat.le_of_ble_eq_true rfl⟩ (fun uu_7 H locs hp_8 hw => ?_)
  have hw : hk_W D [(cI, .int), (cJ, .long)] _ s _ _ (xw cI cJ ad (upd g 13 6) lg (va_up ar 0 uu_7) bk) := hw
  refine lv_iinc (v := 1) (lv' := [(4, .int 1), (0, .ref (ad 2)), (1, .long x), (3, .int 4)]) hx hb dX9_putHigh_22 hl (k := 0) rfl rfl (by decide) rfl (fun ls hl => ?_)
  refine lv_goto (tgt := 5) hx hb dX9_putHigh_25 (by decide) ?_
  refine lv_iload hx hb dX9_putHigh_5 (lv_at hl 0 rfl) ?_
  refine lv_if_lt (tgt := 28) hx hb dX9_putHigh_7 (by decide) (fun cc_9 => absurd cc_9 (by decide)) (fun _ => ?_)
  refine lv_aload_n hx hb dX9_putHigh_10 rfl (lv_at hl 1 rfl) ?_
  refine lv_lload_n hx hb dX9_putHigh_11 rfl (lv_at hl 2 rfl) ?_
  refine lv_bipush (v := 8) hx hb dX9_putHigh_12 (by decide) ?_
  refine lv_iload hx hb dX9_putHigh_14 (lv_at hl 0 rfl) ?_
  refine lv_imul hx hb dX9_putHigh_16 ?_
  refine hk_topi 8 (by decide +kernel) ?_
  refine lv_lushr (v := ((x : Int64).toUInt64 >>> ((8 : Int32).toInt64.toUInt64 &&& Int64.toUInt64 63)).toInt64) hx hb dX9_putHigh_17 rfl ?_
  refine lv_l2i (v := (((x : Int64).toUInt64 >>> ((8 : Int32).toInt64.toUInt64 &&& Int64.toUInt64 63)).toInt64 : Int64).toInt32) hx hb dX9_putHigh_18 rfl ?_
  refine hk_Vv (As := [.int ((((x : Int64).toUInt64 >>> ((8 : Int32).toInt64.toUInt64 &&& Int64.toUInt64 63)).toInt64 : Int64).toInt32)]) (rest := []) ⟨hx, hb, hml, hown, hts⟩ hw hA (cx_in_put l D cI cJ ad (upd g 13 6) lg (va_up ar 0 uu_7) bk _ ((((x : Int64).toUInt64 >>> ((8 : Int32).toInt64.toUInt64 &&& Int64.toUInt64 63)).toInt64 : Int64).toInt32) 6 7 rfl (by decide)) (cwV 1 hts gw_cx_high4_0 rfl rfl rfl (by decide +kernel) ⟨Nat.le_of_ble_eq_true rfl, Nat.le_of_ble_eq_true rfl⟩) 2 (ci := 12) (T := TX9) (N := 2) rfl rfl rfl hl.1 rfl (Nat.le_of_ble_eq_true rfl) dX9_putHigh_19 ⟨Nat.le_of_ble_eq_true rfl, Nat.le_of_ble_eq_true rfl⟩ (fun uu_11 H locs hp_12 hw => ?_)
  have hw : hk_W D [(cI, .int), (cJ, .long)] _ s _ _ (xw cI cJ ad (upd g 13 7) lg (va_up ar 0 uu_11) bk) := hw
  refine lv_iinc (v := 0) (lv' := [(4, .int 0), (0, .ref (ad 2)), (1, .long x), (3, .int 4)]) hx hb dX9_putHigh_22 hl (k := 0) rfl rfl (by decide) rfl (fun ls hl => ?_)
  refine lv_goto (tgt := 5) hx hb dX9_putHigh_25 (by decide) ?_
  refine lv_iload hx hb dX9_putHigh_5 (lv_at hl 0 rfl) ?_
  refine lv_if_lt (tgt := 28) hx hb dX9_putHigh_7 (by decide) (fun cc_13 => absurd cc_13 (by decide)) (fun _ => ?_)
  refine lv_aload_n hx hb dX9_putHigh_10 rfl (lv_at hl 1 rfl) ?_
  refine lv_lload_n hx hb dX9_putHigh_11 rfl (lv_at hl 2 rfl) ?_
  refine lv_bipush (v := 8) hx hb dX9_putHigh_12 (by decide) ?_
  refine lv_iload hx hb dX9_putHigh_14 (lv_at hl 0 rfl) ?_
  refine lv_imul hx hb dX9_putHigh_16 ?_
  refine hk_topi 0 (by decide +kernel) ?_
  refine lv_lushr (v := ((x : Int64).toUInt64 >>> ((0 : Int32).toInt64.toUInt64 &&& Int64.toUInt64 63)).toInt64) hx hb dX9_putHigh_17 rfl ?_
  refine lv_l2i (v := (((x : Int64).toUInt64 >>> ((0 : Int32).toInt64.toUInt64 &&& Int64.toUInt64 63)).toInt64 : Int64).toInt32) hx hb dX9_putHigh_18 rfl ?_
  refine hk_Vv (As := [.int ((((x : Int64).toUInt64 >>> ((0 : Int32).toInt64.toUInt64 &&& Int64.toUInt64 63)).toInt64 : Int64).toInt32)]) (rest := []) ⟨hx, hb, hml, hown, hts⟩ hw hA (cx_in_put l D cI cJ ad (upd g 13 7) lg (va_up ar 0 uu_11) bk _ ((((x : Int64).toUInt64 >>> ((0 : Int32).toInt64.toUInt64 &&& Int64.toUInt64 63)).toInt64 : Int64).toInt32) 7 8 rfl (by decide)) (cwV 1 hts gw_cx_high4_0 rfl rfl rfl (by decide +kernel) ⟨Nat.le_of_ble_eq_true rfl, Nat.le_of_ble_eq_true rfl⟩) 2 (ci := 12) (T := TX9) (N := 2) rfl rfl rfl hl.1 rfl (Nat.le_of_ble_eq_true rfl) dX9_putHigh_19 ⟨Nat.le_of_ble_eq_true rfl, Nat.le_of_ble_eq_true rfl⟩ (fun uu_15 H locs hp_16 hw => ?_)
  have hw : hk_W D [(cI, .int), (cJ, .long)] _ s _ _ (xw cI cJ ad (upd g 13 8) lg (va_up ar 0 uu_15) bk) := hw
  refine lv_iinc (v := (-1)) (lv' := [(4, .int (-1)), (0, .ref (ad 2)), (1, .long x), (3, .int 4)]) hx hb dX9_putHigh_22 hl (k := 0) rfl rfl (by decide) rfl (fun ls hl => ?_)
  refine lv_goto (tgt := 5) hx hb dX9_putHigh_25 (by decide) ?_
  refine lv_iload hx hb dX9_putHigh_5 (lv_at hl 0 rfl) ?_
  refine lv_if_lt (tgt := 28) hx hb dX9_putHigh_7 (by decide) (fun _ => ?_) (fun cc_17 => absurd (by decide) cc_17)
  exact hk_vret (u := uu_15) hx hb hr hlocks (hw) (trivial) dX9_putHigh_28

def ww_cx_high8 : List Cond := Cond.code yX9_putHigh cX9_putHigh 5 none :: ([Cond.methodLink RX9 21 yX9_put, Cond.instanceMethod yX9_put, Cond.selects RX9 yX9_put yX9_put, Cond.initialized RX9, Cond.code yX9_put cX9_put 2 none, Cond.fieldLink RX9 13 "LzmaChains$Row" "size" "I", Cond.methodLink RX9 17 yX9_set, Cond.instanceMethod yX9_set, Cond.selects RX9 yX9_set yX9_set, Cond.code yX9_set cX9_set 3 none, Cond.fieldLink RX9 7 "LzmaChains$Row" "data" "[I"] ++ (wsX90 ++ ([])))
set_option maxRecDepth 20000 in
theorem gw_cx_high8_0 : GoodIn ww_cx_high8 (wsV RX9 21 RX9 yX9_put ww_cx_in_put) := goodIn_r _ [1, 2, 3, 4, 5, 6, 7, 8, 9, 4, 10, 11, 12, 13] rfl (by decide +kernel)
set_option maxHeartbeats 4000000 in
set_option maxRecDepth 100000 in
/-- Row.putHigh of 4 bytes, the input has 8 -/
theorem cx_high8 (l : Launch) (D : va_G) (cI cJ : ClassId) (ad : Nat → Nat) (g : Nat → Int32) (lg : Nat → Int64) (ar : Nat → Nat → Int32) (bk : Nat → Int64) (sz : Nat) (x : Int64) (h13 : g 13 = 8) : Met l yX9_putHigh ww_cx_high8 { frames := 2, cells := 0, slots := 0, locals := 43 } (va_Pc [.ref (ad 2), .long x, .int 4] (hk_B D [(cI, .int), (cJ, .long)] sz (xw cI cJ ad g lg ar bk))) (va_Qv (fun u : (Nat → Int32) => True) (fun u : (Nat → Int32) => hk_E D [(cI, .int), (cJ, .long)] (va_A (xw cI cJ ad g lg ar bk) sz) (xw cI cJ ad (upd g 13 12) lg (va_up ar 0 u) bk)) (va_A (xw cI cJ ad g lg ar bk) sz)) 0 0 (va_A (xw cI cJ ad g lg ar bk) sz) := by
  refine hk_met (cc := cX9_putHigh) (maxL := 5) (ret := none) (by decide) rfl (Nat.le_of_ble_eq_true rfl) ?_
  intro p e s m below meth c ls hx hb hr hml hown hts hlocks hin hA hw hl
  have iX9 : ∀ w ∈ wsX90, w ∈ ww_cx_high8 := fun _ h => List.mem_cons_of_mem _ (List.mem_append_right _ (List.mem_append_left _ h))
  have hl : lv_has ls 5 [(0, .ref (ad 2)), (1, .long x), (3, .int 4)] := hl
  refine lv_iload_n hx hb dX9_putHigh_0 rfl (lv_at hl 2 rfl) ?_
  refine lv_iconst (v := 1) hx hb dX9_putHigh_1 (by decide) ?_
  refine lv_isub hx hb dX9_putHigh_2 ?_
  refine hk_topi 3 (by decide +kernel) ?_
  refine lv_istore (lv' := [(4, .int 3), (0, .ref (ad 2)), (1, .long x), (3, .int 4)]) hx hb dX9_putHigh_3 hl (by decide) rfl (fun ls hl => ?_)
  refine lv_iload hx hb dX9_putHigh_5 (lv_at hl 0 rfl) ?_
  refine lv_if_lt (tgt := 28) hx hb dX9_putHigh_7 (by decide) (fun cc_1 => absurd cc_1 (by decide)) (fun _ => ?_)
  refine lv_aload_n hx hb dX9_putHigh_10 rfl (lv_at hl 1 rfl) ?_
  refine lv_lload_n hx hb dX9_putHigh_11 rfl (lv_at hl 2 rfl) ?_
  refine lv_bipush (v := 8) hx hb dX9_putHigh_12 (by decide) ?_
  refine lv_iload hx hb dX9_putHigh_14 (lv_at hl 0 rfl) ?_
  refine lv_imul hx hb dX9_putHigh_16 ?_
  refine hk_topi 24 (by decide +kernel) ?_
  refine lv_lushr (v := ((x : Int64).toUInt64 >>> ((24 : Int32).toInt64.toUInt64 &&& Int64.toUInt64 63)).toInt64) hx hb dX9_putHigh_17 rfl ?_
  refine lv_l2i (v := (((x : Int64).toUInt64 >>> ((24 : Int32).toInt64.toUInt64 &&& Int64.toUInt64 63)).toInt64 : Int64).toInt32) hx hb dX9_putHigh_18 rfl ?_
  refine hk_Vv (As := [.int ((((x : Int64).toUInt64 >>> ((24 : Int32).toInt64.toUInt64 &&& Int64.toUInt64 63)).toInt64 : Int64).toInt32)]) (rest := []) ⟨hx, hb, hml, hown, hts⟩ hw hA (cx_in_put l D cI cJ ad g lg ar bk _ ((((x : Int64).toUInt64 >>> ((24 : Int32).toInt64.toUInt64 &&& Int64.toUInt64 63)).toInt64 : Int64).toInt32) 8 9 h13 (by decide)) (cwV 1 hts gw_cx_high8_0 rfl rfl rfl (by decide +kernel) ⟨Nat.le_of_ble_eq_true rfl, Nat.le_of_ble_eq_true rfl⟩) 2 (ci := 12) (T := TX9) (N := 2) rfl rfl rfl hl.1 rfl (Nat.le_of_ble_eq_true rfl) dX9_putHigh_19 ⟨Nat.le_of_ble_eq_true rfl, Nat.le_of_ble_eq_true rfl⟩ (fun uu_3 H locs hp_4 hw => ?_)
  have hw : hk_W D [(cI, .int), (cJ, .long)] _ s _ _ (xw cI cJ ad (upd g 13 9) lg (va_up ar 0 uu_3) bk) := hw
  refine lv_iinc (v := 2) (lv' := [(4, .int 2), (0, .ref (ad 2)), (1, .long x), (3, .int 4)]) hx hb dX9_putHigh_22 hl (k := 0) rfl rfl (by decide) rfl (fun ls hl => ?_)
  refine lv_goto (tgt := 5) hx hb dX9_putHigh_25 (by decide) ?_
  refine lv_iload hx hb dX9_putHigh_5 (lv_at hl 0 rfl) ?_
  refine lv_if_lt (tgt := 28) hx hb dX9_putHigh_7 (by decide) (fun cc_5 => absurd cc_5 (by decide)) (fun _ => ?_)
  refine lv_aload_n hx hb dX9_putHigh_10 rfl (lv_at hl 1 rfl) ?_
  refine lv_lload_n hx hb dX9_putHigh_11 rfl (lv_at hl 2 rfl) ?_
  refine lv_bipush (v := 8) hx hb dX9_putHigh_12 (by decide) ?_
  refine lv_iload hx hb dX9_putHigh_14 (lv_at hl 0 rfl) ?_
  refine lv_imul hx hb dX9_putHigh_16 ?_
  refine hk_topi 16 (by decide +kernel) ?_
  refine lv_lushr (v := ((x : Int64).toUInt64 >>> ((16 : Int32).toInt64.toUInt64 &&& Int64.toUInt64 63)).toInt64) hx hb dX9_putHigh_17 rfl ?_
  refine lv_l2i (v := (((x : Int64).toUInt64 >>> ((16 : Int32).toInt64.toUInt64 &&& Int64.toUInt64 63)).toInt64 : Int64).toInt32) hx hb dX9_putHigh_18 rfl ?_
  refine hk_Vv (As := [.int ((((x : Int64).toUInt64 >>> ((16 : Int32).toInt64.toUInt64 &&& Int64.toUInt64 63)).toInt64 : Int64).toInt32)]) (rest := []) ⟨hx, hb, hml, hown, hts⟩ hw hA (cx_in_put l D cI cJ ad (upd g 13 9) lg (va_up ar 0 uu_3) bk _ ((((x : Int64).toUInt64 >>> ((16 : Int32).toInt64.toUInt64 &&& Int64.toUInt64 63)).toInt64 : Int64).toInt32) 9 10 rfl (by decide)) (cwV 1 hts gw_cx_high8_0 rfl rfl rfl (by decide +kernel) ⟨Nat.le_of_ble_eq_true rfl, Nat.le_of_ble_eq_true rfl⟩) 2 (ci := 12) (T := TX9) (N := 2) rfl rfl rfl hl.1 rfl (Nat.le_of_ble_eq_true rfl) dX9_putHigh_19 ⟨Nat.le_of_ble_eq_true rfl, Nat.le_of_ble_eq_true rfl⟩ (fun uu_7 H locs hp_8 hw => ?_)
  have hw : hk_W D [(cI, .int), (cJ, .long)] _ s _ _ (xw cI cJ ad (upd g 13 10) lg (va_up ar 0 uu_7) bk) := hw
  refine lv_iinc (v := 1) (lv' := [(4, .int 1), (0, .ref (ad 2)), (1, .long x), (3, .int 4)]) hx hb dX9_putHigh_22 hl (k := 0) rfl rfl (by decide) rfl (fun ls hl => ?_)
  refine lv_goto (tgt := 5) hx hb dX9_putHigh_25 (by decide) ?_
  refine lv_iload hx hb dX9_putHigh_5 (lv_at hl 0 rfl) ?_
  refine lv_if_lt (tgt := 28) hx hb dX9_putHigh_7 (by decide) (fun cc_9 => absurd cc_9 (by decide)) (fun _ => ?_)
  refine lv_aload_n hx hb dX9_putHigh_10 rfl (lv_at hl 1 rfl) ?_
  refine lv_lload_n hx hb dX9_putHigh_11 rfl (lv_at hl 2 rfl) ?_
  refine lv_bipush (v := 8) hx hb dX9_putHigh_12 (by decide) ?_
  refine lv_iload hx hb dX9_putHigh_14 (lv_at hl 0 rfl) ?_
  refine lv_imul hx hb dX9_putHigh_16 ?_
  refine hk_topi 8 (by decide +kernel) ?_
  refine lv_lushr (v := ((x : Int64).toUInt64 >>> ((8 : Int32).toInt64.toUInt64 &&& Int64.toUInt64 63)).toInt64) hx hb dX9_putHigh_17 rfl ?_
  refine lv_l2i (v := (((x : Int64).toUInt64 >>> ((8 : Int32).toInt64.toUInt64 &&& Int64.toUInt64 63)).toInt64 : Int64).toInt32) hx hb dX9_putHigh_18 rfl ?_
  refine hk_Vv (As := [.int ((((x : Int64).toUInt64 >>> ((8 : Int32).toInt64.toUInt64 &&& Int64.toUInt64 63)).toInt64 : Int64).toInt32)]) (rest := []) ⟨hx, hb, hml, hown, hts⟩ hw hA (cx_in_put l D cI cJ ad (upd g 13 10) lg (va_up ar 0 uu_7) bk _ ((((x : Int64).toUInt64 >>> ((8 : Int32).toInt64.toUInt64 &&& Int64.toUInt64 63)).toInt64 : Int64).toInt32) 10 11 rfl (by decide)) (cwV 1 hts gw_cx_high8_0 rfl rfl rfl (by decide +kernel) ⟨Nat.le_of_ble_eq_true rfl, Nat.le_of_ble_eq_true rfl⟩) 2 (ci := 12) (T := TX9) (N := 2) rfl rfl rfl hl.1 rfl (Nat.le_of_ble_eq_true rfl) dX9_putHigh_19 ⟨Nat.le_of_ble_eq_true rfl, Nat.le_of_ble_eq_true rfl⟩ (fun uu_11 H locs hp_12 hw => ?_)
  have hw : hk_W D [(cI, .int), (cJ, .long)] _ s _ _ (xw cI cJ ad (upd g 13 11) lg (va_up ar 0 uu_11) bk) := hw
  refine lv_iinc (v := 0) (lv' := [(4, .int 0), (0, .ref (ad 2)), (1, .long x), (3, .int 4)]) hx hb dX9_putHigh_22 hl (k := 0) rfl rfl (by decide) rfl (fun ls hl => ?_)
  refine lv_goto (tgt := 5) hx hb dX9_putHigh_25 (by decide) ?_
  refine lv_iload hx hb dX9_putHigh_5 (lv_at hl 0 rfl) ?_
  refine lv_if_lt (tgt := 28) hx hb dX9_putHigh_7 (by decide) (fun cc_13 => absurd cc_13 (by decide)) (fun _ => ?_)
  refine lv_aload_n hx hb dX9_putHigh_10 rfl (lv_at hl 1 rfl) ?_
  refine lv_lload_n hx hb dX9_putHigh_11 rfl (lv_at hl 2 rfl) ?_
  refine lv_bipush (v := 8) hx hb dX9_putHigh_12 (by decide) ?_
  refine lv_iload hx hb dX9_putHigh_14 (lv_at hl 0 rfl) ?_
  refine lv_imul hx hb dX9_putHigh_16 ?_
  refine hk_topi 0 (by decide +kernel) ?_
  refine lv_lushr (v := ((x : Int64).toUInt64 >>> ((0 : Int32).toInt64.toUInt64 &&& Int64.toUInt64 63)).toInt64) hx hb dX9_putHigh_17 rfl ?_
  refine lv_l2i (v := (((x : Int64).toUInt64 >>> ((0 : Int32).toInt64.toUInt64 &&& Int64.toUInt64 63)).toInt64 : Int64).toInt32) hx hb dX9_putHigh_18 rfl ?_
  refine hk_Vv (As := [.int ((((x : Int64).toUInt64 >>> ((0 : Int32).toInt64.toUInt64 &&& Int64.toUInt64 63)).toInt64 : Int64).toInt32)]) (rest := []) ⟨hx, hb, hml, hown, hts⟩ hw hA (cx_in_put l D cI cJ ad (upd g 13 11) lg (va_up ar 0 uu_11) bk _ ((((x : Int64).toUInt64 >>> ((0 : Int32).toInt64.toUInt64 &&& Int64.toUInt64 63)).toInt64 : Int64).toInt32) 11 12 rfl (by decide)) (cwV 1 hts gw_cx_high8_0 rfl rfl rfl (by decide +kernel) ⟨Nat.le_of_ble_eq_true rfl, Nat.le_of_ble_eq_true rfl⟩) 2 (ci := 12) (T := TX9) (N := 2) rfl rfl rfl hl.1 rfl (Nat.le_of_ble_eq_true rfl) dX9_putHigh_19 ⟨Nat.le_of_ble_eq_true rfl, Nat.le_of_ble_eq_true rfl⟩ (fun uu_15 H locs hp_16 hw => ?_)
  have hw : hk_W D [(cI, .int), (cJ, .long)] _ s _ _ (xw cI cJ ad (upd g 13 12) lg (va_up ar 0 uu_15) bk) := hw
  refine lv_iinc (v := (-1)) (lv' := [(4, .int (-1)), (0, .ref (ad 2)), (1, .long x), (3, .int 4)]) hx hb dX9_putHigh_22 hl (k := 0) rfl rfl (by decide) rfl (fun ls hl => ?_)
  refine lv_goto (tgt := 5) hx hb dX9_putHigh_25 (by decide) ?_
  refine lv_iload hx hb dX9_putHigh_5 (lv_at hl 0 rfl) ?_
  refine lv_if_lt (tgt := 28) hx hb dX9_putHigh_7 (by decide) (fun _ => ?_) (fun cc_17 => absurd (by decide) cc_17)
  exact hk_vret (u := uu_15) hx hb hr hlocks (hw) (trivial) dX9_putHigh_28

def ww_cx_high12 : List Cond := Cond.code yX9_putHigh cX9_putHigh 5 none :: ([Cond.methodLink RX9 21 yX9_put, Cond.instanceMethod yX9_put, Cond.selects RX9 yX9_put yX9_put, Cond.initialized RX9, Cond.code yX9_put cX9_put 2 none, Cond.fieldLink RX9 13 "LzmaChains$Row" "size" "I", Cond.methodLink RX9 17 yX9_set, Cond.instanceMethod yX9_set, Cond.selects RX9 yX9_set yX9_set, Cond.code yX9_set cX9_set 3 none, Cond.fieldLink RX9 7 "LzmaChains$Row" "data" "[I"] ++ (wsX90 ++ ([])))
set_option maxRecDepth 20000 in
theorem gw_cx_high12_0 : GoodIn ww_cx_high12 (wsV RX9 21 RX9 yX9_put ww_cx_in_put) := goodIn_r _ [1, 2, 3, 4, 5, 6, 7, 8, 9, 4, 10, 11, 12, 13] rfl (by decide +kernel)
set_option maxHeartbeats 4000000 in
set_option maxRecDepth 100000 in
/-- Row.putHigh of 4 bytes, the input has 12 -/
theorem cx_high12 (l : Launch) (D : va_G) (cI cJ : ClassId) (ad : Nat → Nat) (g : Nat → Int32) (lg : Nat → Int64) (ar : Nat → Nat → Int32) (bk : Nat → Int64) (sz : Nat) (x : Int64) (h13 : g 13 = 12) : Met l yX9_putHigh ww_cx_high12 { frames := 2, cells := 0, slots := 0, locals := 43 } (va_Pc [.ref (ad 2), .long x, .int 4] (hk_B D [(cI, .int), (cJ, .long)] sz (xw cI cJ ad g lg ar bk))) (va_Qv (fun u : (Nat → Int32) => True) (fun u : (Nat → Int32) => hk_E D [(cI, .int), (cJ, .long)] (va_A (xw cI cJ ad g lg ar bk) sz) (xw cI cJ ad (upd g 13 16) lg (va_up ar 0 u) bk)) (va_A (xw cI cJ ad g lg ar bk) sz)) 0 0 (va_A (xw cI cJ ad g lg ar bk) sz) := by
  refine hk_met (cc := cX9_putHigh) (maxL := 5) (ret := none) (by decide) rfl (Nat.le_of_ble_eq_true rfl) ?_
  intro p e s m below meth c ls hx hb hr hml hown hts hlocks hin hA hw hl
  have iX9 : ∀ w ∈ wsX90, w ∈ ww_cx_high12 := fun _ h => List.mem_cons_of_mem _ (List.mem_append_right _ (List.mem_append_left _ h))
  have hl : lv_has ls 5 [(0, .ref (ad 2)), (1, .long x), (3, .int 4)] := hl
  refine lv_iload_n hx hb dX9_putHigh_0 rfl (lv_at hl 2 rfl) ?_
  refine lv_iconst (v := 1) hx hb dX9_putHigh_1 (by decide) ?_
  refine lv_isub hx hb dX9_putHigh_2 ?_
  refine hk_topi 3 (by decide +kernel) ?_
  refine lv_istore (lv' := [(4, .int 3), (0, .ref (ad 2)), (1, .long x), (3, .int 4)]) hx hb dX9_putHigh_3 hl (by decide) rfl (fun ls hl => ?_)
  refine lv_iload hx hb dX9_putHigh_5 (lv_at hl 0 rfl) ?_
  refine lv_if_lt (tgt := 28) hx hb dX9_putHigh_7 (by decide) (fun cc_1 => absurd cc_1 (by decide)) (fun _ => ?_)
  refine lv_aload_n hx hb dX9_putHigh_10 rfl (lv_at hl 1 rfl) ?_
  refine lv_lload_n hx hb dX9_putHigh_11 rfl (lv_at hl 2 rfl) ?_
  refine lv_bipush (v := 8) hx hb dX9_putHigh_12 (by decide) ?_
  refine lv_iload hx hb dX9_putHigh_14 (lv_at hl 0 rfl) ?_
  refine lv_imul hx hb dX9_putHigh_16 ?_
  refine hk_topi 24 (by decide +kernel) ?_
  refine lv_lushr (v := ((x : Int64).toUInt64 >>> ((24 : Int32).toInt64.toUInt64 &&& Int64.toUInt64 63)).toInt64) hx hb dX9_putHigh_17 rfl ?_
  refine lv_l2i (v := (((x : Int64).toUInt64 >>> ((24 : Int32).toInt64.toUInt64 &&& Int64.toUInt64 63)).toInt64 : Int64).toInt32) hx hb dX9_putHigh_18 rfl ?_
  refine hk_Vv (As := [.int ((((x : Int64).toUInt64 >>> ((24 : Int32).toInt64.toUInt64 &&& Int64.toUInt64 63)).toInt64 : Int64).toInt32)]) (rest := []) ⟨hx, hb, hml, hown, hts⟩ hw hA (cx_in_put l D cI cJ ad g lg ar bk _ ((((x : Int64).toUInt64 >>> ((24 : Int32).toInt64.toUInt64 &&& Int64.toUInt64 63)).toInt64 : Int64).toInt32) 12 13 h13 (by decide)) (cwV 1 hts gw_cx_high12_0 rfl rfl rfl (by decide +kernel) ⟨Nat.le_of_ble_eq_true rfl, Nat.le_of_ble_eq_true rfl⟩) 2 (ci := 12) (T := TX9) (N := 2) rfl rfl rfl hl.1 rfl (Nat.le_of_ble_eq_true rfl) dX9_putHigh_19 ⟨Nat.le_of_ble_eq_true rfl, Nat.le_of_ble_eq_true rfl⟩ (fun uu_3 H locs hp_4 hw => ?_)
  have hw : hk_W D [(cI, .int), (cJ, .long)] _ s _ _ (xw cI cJ ad (upd g 13 13) lg (va_up ar 0 uu_3) bk) := hw
  refine lv_iinc (v := 2) (lv' := [(4, .int 2), (0, .ref (ad 2)), (1, .long x), (3, .int 4)]) hx hb dX9_putHigh_22 hl (k := 0) rfl rfl (by decide) rfl (fun ls hl => ?_)
  refine lv_goto (tgt := 5) hx hb dX9_putHigh_25 (by decide) ?_
  refine lv_iload hx hb dX9_putHigh_5 (lv_at hl 0 rfl) ?_
  refine lv_if_lt (tgt := 28) hx hb dX9_putHigh_7 (by decide) (fun cc_5 => absurd cc_5 (by decide)) (fun _ => ?_)
  refine lv_aload_n hx hb dX9_putHigh_10 rfl (lv_at hl 1 rfl) ?_
  refine lv_lload_n hx hb dX9_putHigh_11 rfl (lv_at hl 2 rfl) ?_
  refine lv_bipush (v := 8) hx hb dX9_putHigh_12 (by decide) ?_
  refine lv_iload hx hb dX9_putHigh_14 (lv_at hl 0 rfl) ?_
  refine lv_imul hx hb dX9_putHigh_16 ?_
  refine hk_topi 16 (by decide +kernel) ?_
  refine lv_lushr (v := ((x : Int64).toUInt64 >>> ((16 : Int32).toInt64.toUInt64 &&& Int64.toUInt64 63)).toInt64) hx hb dX9_putHigh_17 rfl ?_
  refine lv_l2i (v := (((x : Int64).toUInt64 >>> ((16 : Int32).toInt64.toUInt64 &&& Int64.toUInt64 63)).toInt64 : Int64).toInt32) hx hb dX9_putHigh_18 rfl ?_
  refine hk_Vv (As := [.int ((((x : Int64).toUInt64 >>> ((16 : Int32).toInt64.toUInt64 &&& Int64.toUInt64 63)).toInt64 : Int64).toInt32)]) (rest := []) ⟨hx, hb, hml, hown, hts⟩ hw hA (cx_in_put l D cI cJ ad (upd g 13 13) lg (va_up ar 0 uu_3) bk _ ((((x : Int64).toUInt64 >>> ((16 : Int32).toInt64.toUInt64 &&& Int64.toUInt64 63)).toInt64 : Int64).toInt32) 13 14 rfl (by decide)) (cwV 1 hts gw_cx_high12_0 rfl rfl rfl (by decide +kernel) ⟨Nat.le_of_ble_eq_true rfl, Nat.le_of_ble_eq_true rfl⟩) 2 (ci := 12) (T := TX9) (N := 2) rfl rfl rfl hl.1 rfl (Nat.le_of_ble_eq_true rfl) dX9_putHigh_19 ⟨Nat.le_of_ble_eq_true rfl, Nat.le_of_ble_eq_true rfl⟩ (fun uu_7 H locs hp_8 hw => ?_)
  have hw : hk_W D [(cI, .int), (cJ, .long)] _ s _ _ (xw cI cJ ad (upd g 13 14) lg (va_up ar 0 uu_7) bk) := hw
  refine lv_iinc (v := 1) (lv' := [(4, .int 1), (0, .ref (ad 2)), (1, .long x), (3, .int 4)]) hx hb dX9_putHigh_22 hl (k := 0) rfl rfl (by decide) rfl (fun ls hl => ?_)
  refine lv_goto (tgt := 5) hx hb dX9_putHigh_25 (by decide) ?_
  refine lv_iload hx hb dX9_putHigh_5 (lv_at hl 0 rfl) ?_
  refine lv_if_lt (tgt := 28) hx hb dX9_putHigh_7 (by decide) (fun cc_9 => absurd cc_9 (by decide)) (fun _ => ?_)
  refine lv_aload_n hx hb dX9_putHigh_10 rfl (lv_at hl 1 rfl) ?_
  refine lv_lload_n hx hb dX9_putHigh_11 rfl (lv_at hl 2 rfl) ?_
  refine lv_bipush (v := 8) hx hb dX9_putHigh_12 (by decide) ?_
  refine lv_iload hx hb dX9_putHigh_14 (lv_at hl 0 rfl) ?_
  refine lv_imul hx hb dX9_putHigh_16 ?_
  refine hk_topi 8 (by decide +kernel) ?_
  refine lv_lushr (v := ((x : Int64).toUInt64 >>> ((8 : Int32).toInt64.toUInt64 &&& Int64.toUInt64 63)).toInt64) hx hb dX9_putHigh_17 rfl ?_
  refine lv_l2i (v := (((x : Int64).toUInt64 >>> ((8 : Int32).toInt64.toUInt64 &&& Int64.toUInt64 63)).toInt64 : Int64).toInt32) hx hb dX9_putHigh_18 rfl ?_
  refine hk_Vv (As := [.int ((((x : Int64).toUInt64 >>> ((8 : Int32).toInt64.toUInt64 &&& Int64.toUInt64 63)).toInt64 : Int64).toInt32)]) (rest := []) ⟨hx, hb, hml, hown, hts⟩ hw hA (cx_in_put l D cI cJ ad (upd g 13 14) lg (va_up ar 0 uu_7) bk _ ((((x : Int64).toUInt64 >>> ((8 : Int32).toInt64.toUInt64 &&& Int64.toUInt64 63)).toInt64 : Int64).toInt32) 14 15 rfl (by decide)) (cwV 1 hts gw_cx_high12_0 rfl rfl rfl (by decide +kernel) ⟨Nat.le_of_ble_eq_true rfl, Nat.le_of_ble_eq_true rfl⟩) 2 (ci := 12) (T := TX9) (N := 2) rfl rfl rfl hl.1 rfl (Nat.le_of_ble_eq_true rfl) dX9_putHigh_19 ⟨Nat.le_of_ble_eq_true rfl, Nat.le_of_ble_eq_true rfl⟩ (fun uu_11 H locs hp_12 hw => ?_)
  have hw : hk_W D [(cI, .int), (cJ, .long)] _ s _ _ (xw cI cJ ad (upd g 13 15) lg (va_up ar 0 uu_11) bk) := hw
  refine lv_iinc (v := 0) (lv' := [(4, .int 0), (0, .ref (ad 2)), (1, .long x), (3, .int 4)]) hx hb dX9_putHigh_22 hl (k := 0) rfl rfl (by decide) rfl (fun ls hl => ?_)
  refine lv_goto (tgt := 5) hx hb dX9_putHigh_25 (by decide) ?_
  refine lv_iload hx hb dX9_putHigh_5 (lv_at hl 0 rfl) ?_
  refine lv_if_lt (tgt := 28) hx hb dX9_putHigh_7 (by decide) (fun cc_13 => absurd cc_13 (by decide)) (fun _ => ?_)
  refine lv_aload_n hx hb dX9_putHigh_10 rfl (lv_at hl 1 rfl) ?_
  refine lv_lload_n hx hb dX9_putHigh_11 rfl (lv_at hl 2 rfl) ?_
  refine lv_bipush (v := 8) hx hb dX9_putHigh_12 (by decide) ?_
  refine lv_iload hx hb dX9_putHigh_14 (lv_at hl 0 rfl) ?_
  refine lv_imul hx hb dX9_putHigh_16 ?_
  refine hk_topi 0 (by decide +kernel) ?_
  refine lv_lushr (v := ((x : Int64).toUInt64 >>> ((0 : Int32).toInt64.toUInt64 &&& Int64.toUInt64 63)).toInt64) hx hb dX9_putHigh_17 rfl ?_
  refine lv_l2i (v := (((x : Int64).toUInt64 >>> ((0 : Int32).toInt64.toUInt64 &&& Int64.toUInt64 63)).toInt64 : Int64).toInt32) hx hb dX9_putHigh_18 rfl ?_
  refine hk_Vv (As := [.int ((((x : Int64).toUInt64 >>> ((0 : Int32).toInt64.toUInt64 &&& Int64.toUInt64 63)).toInt64 : Int64).toInt32)]) (rest := []) ⟨hx, hb, hml, hown, hts⟩ hw hA (cx_in_put l D cI cJ ad (upd g 13 15) lg (va_up ar 0 uu_11) bk _ ((((x : Int64).toUInt64 >>> ((0 : Int32).toInt64.toUInt64 &&& Int64.toUInt64 63)).toInt64 : Int64).toInt32) 15 16 rfl (by decide)) (cwV 1 hts gw_cx_high12_0 rfl rfl rfl (by decide +kernel) ⟨Nat.le_of_ble_eq_true rfl, Nat.le_of_ble_eq_true rfl⟩) 2 (ci := 12) (T := TX9) (N := 2) rfl rfl rfl hl.1 rfl (Nat.le_of_ble_eq_true rfl) dX9_putHigh_19 ⟨Nat.le_of_ble_eq_true rfl, Nat.le_of_ble_eq_true rfl⟩ (fun uu_15 H locs hp_16 hw => ?_)
  have hw : hk_W D [(cI, .int), (cJ, .long)] _ s _ _ (xw cI cJ ad (upd g 13 16) lg (va_up ar 0 uu_15) bk) := hw
  refine lv_iinc (v := (-1)) (lv' := [(4, .int (-1)), (0, .ref (ad 2)), (1, .long x), (3, .int 4)]) hx hb dX9_putHigh_22 hl (k := 0) rfl rfl (by decide) rfl (fun ls hl => ?_)
  refine lv_goto (tgt := 5) hx hb dX9_putHigh_25 (by decide) ?_
  refine lv_iload hx hb dX9_putHigh_5 (lv_at hl 0 rfl) ?_
  refine lv_if_lt (tgt := 28) hx hb dX9_putHigh_7 (by decide) (fun _ => ?_) (fun cc_17 => absurd (by decide) cc_17)
  exact hk_vret (u := uu_15) hx hb hr hlocks (hw) (trivial) dX9_putHigh_28

def ww_cx_high16 : List Cond := Cond.code yX9_putHigh cX9_putHigh 5 none :: ([Cond.methodLink RX9 21 yX9_put, Cond.instanceMethod yX9_put, Cond.selects RX9 yX9_put yX9_put, Cond.initialized RX9, Cond.code yX9_put cX9_put 2 none, Cond.fieldLink RX9 13 "LzmaChains$Row" "size" "I", Cond.methodLink RX9 17 yX9_set, Cond.instanceMethod yX9_set, Cond.selects RX9 yX9_set yX9_set, Cond.code yX9_set cX9_set 3 none, Cond.fieldLink RX9 7 "LzmaChains$Row" "data" "[I"] ++ (wsX90 ++ ([])))
set_option maxRecDepth 20000 in
theorem gw_cx_high16_0 : GoodIn ww_cx_high16 (wsV RX9 21 RX9 yX9_put ww_cx_in_put) := goodIn_r _ [1, 2, 3, 4, 5, 6, 7, 8, 9, 4, 10, 11, 12, 13] rfl (by decide +kernel)
set_option maxHeartbeats 4000000 in
set_option maxRecDepth 100000 in
/-- Row.putHigh of 4 bytes, the input has 16 -/
theorem cx_high16 (l : Launch) (D : va_G) (cI cJ : ClassId) (ad : Nat → Nat) (g : Nat → Int32) (lg : Nat → Int64) (ar : Nat → Nat → Int32) (bk : Nat → Int64) (sz : Nat) (x : Int64) (h13 : g 13 = 16) : Met l yX9_putHigh ww_cx_high16 { frames := 2, cells := 0, slots := 0, locals := 43 } (va_Pc [.ref (ad 2), .long x, .int 4] (hk_B D [(cI, .int), (cJ, .long)] sz (xw cI cJ ad g lg ar bk))) (va_Qv (fun u : (Nat → Int32) => True) (fun u : (Nat → Int32) => hk_E D [(cI, .int), (cJ, .long)] (va_A (xw cI cJ ad g lg ar bk) sz) (xw cI cJ ad (upd g 13 20) lg (va_up ar 0 u) bk)) (va_A (xw cI cJ ad g lg ar bk) sz)) 0 0 (va_A (xw cI cJ ad g lg ar bk) sz) := by
  refine hk_met (cc := cX9_putHigh) (maxL := 5) (ret := none) (by decide) rfl (Nat.le_of_ble_eq_true rfl) ?_
  intro p e s m below meth c ls hx hb hr hml hown hts hlocks hin hA hw hl
  have iX9 : ∀ w ∈ wsX90, w ∈ ww_cx_high16 := fun _ h => List.mem_cons_of_mem _ (List.mem_append_right _ (List.mem_append_left _ h))
  have hl : lv_has ls 5 [(0, .ref (ad 2)), (1, .long x), (3, .int 4)] := hl
  refine lv_iload_n hx hb dX9_putHigh_0 rfl (lv_at hl 2 rfl) ?_
  refine lv_iconst (v := 1) hx hb dX9_putHigh_1 (by decide) ?_
  refine lv_isub hx hb dX9_putHigh_2 ?_
  refine hk_topi 3 (by decide +kernel) ?_
  refine lv_istore (lv' := [(4, .int 3), (0, .ref (ad 2)), (1, .long x), (3, .int 4)]) hx hb dX9_putHigh_3 hl (by decide) rfl (fun ls hl => ?_)
  refine lv_iload hx hb dX9_putHigh_5 (lv_at hl 0 rfl) ?_
  refine lv_if_lt (tgt := 28) hx hb dX9_putHigh_7 (by decide) (fun cc_1 => absurd cc_1 (by decide)) (fun _ => ?_)
  refine lv_aload_n hx hb dX9_putHigh_10 rfl (lv_at hl 1 rfl) ?_
  refine lv_lload_n hx hb dX9_putHigh_11 rfl (lv_at hl 2 rfl) ?_
  refine lv_bipush (v := 8) hx hb dX9_putHigh_12 (by decide) ?_
  refine lv_iload hx hb dX9_putHigh_14 (lv_at hl 0 rfl) ?_
  refine lv_imul hx hb dX9_putHigh_16 ?_
  refine hk_topi 24 (by decide +kernel) ?_
  refine lv_lushr (v := ((x : Int64).toUInt64 >>> ((24 : Int32).toInt64.toUInt64 &&& Int64.toUInt64 63)).toInt64) hx hb dX9_putHigh_17 rfl ?_
  refine lv_l2i (v := (((x : Int64).toUInt64 >>> ((24 : Int32).toInt64.toUInt64 &&& Int64.toUInt64 63)).toInt64 : Int64).toInt32) hx hb dX9_putHigh_18 rfl ?_
  refine hk_Vv (As := [.int ((((x : Int64).toUInt64 >>> ((24 : Int32).toInt64.toUInt64 &&& Int64.toUInt64 63)).toInt64 : Int64).toInt32)]) (rest := []) ⟨hx, hb, hml, hown, hts⟩ hw hA (cx_in_put l D cI cJ ad g lg ar bk _ ((((x : Int64).toUInt64 >>> ((24 : Int32).toInt64.toUInt64 &&& Int64.toUInt64 63)).toInt64 : Int64).toInt32) 16 17 h13 (by decide)) (cwV 1 hts gw_cx_high16_0 rfl rfl rfl (by decide +kernel) ⟨Nat.le_of_ble_eq_true rfl, Nat.le_of_ble_eq_true rfl⟩) 2 (ci := 12) (T := TX9) (N := 2) rfl rfl rfl hl.1 rfl (Nat.le_of_ble_eq_true rfl) dX9_putHigh_19 ⟨Nat.le_of_ble_eq_true rfl, Nat.le_of_ble_eq_true rfl⟩ (fun uu_3 H locs hp_4 hw => ?_)
  have hw : hk_W D [(cI, .int), (cJ, .long)] _ s _ _ (xw cI cJ ad (upd g 13 17) lg (va_up ar 0 uu_3) bk) := hw
  refine lv_iinc (v := 2) (lv' := [(4, .int 2), (0, .ref (ad 2)), (1, .long x), (3, .int 4)]) hx hb dX9_putHigh_22 hl (k := 0) rfl rfl (by decide) rfl (fun ls hl => ?_)
  refine lv_goto (tgt := 5) hx hb dX9_putHigh_25 (by decide) ?_
  refine lv_iload hx hb dX9_putHigh_5 (lv_at hl 0 rfl) ?_
  refine lv_if_lt (tgt := 28) hx hb dX9_putHigh_7 (by decide) (fun cc_5 => absurd cc_5 (by decide)) (fun _ => ?_)
  refine lv_aload_n hx hb dX9_putHigh_10 rfl (lv_at hl 1 rfl) ?_
  refine lv_lload_n hx hb dX9_putHigh_11 rfl (lv_at hl 2 rfl) ?_
  refine lv_bipush (v := 8) hx hb dX9_putHigh_12 (by decide) ?_
  refine lv_iload hx hb dX9_putHigh_14 (lv_at hl 0 rfl) ?_
  refine lv_imul hx hb dX9_putHigh_16 ?_
  refine hk_topi 16 (by decide +kernel) ?_
  refine lv_lushr (v := ((x : Int64).toUInt64 >>> ((16 : Int32).toInt64.toUInt64 &&& Int64.toUInt64 63)).toInt64) hx hb dX9_putHigh_17 rfl ?_
  refine lv_l2i (v := (((x : Int64).toUInt64 >>> ((16 : Int32).toInt64.toUInt64 &&& Int64.toUInt64 63)).toInt64 : Int64).toInt32) hx hb dX9_putHigh_18 rfl ?_
  refine hk_Vv (As := [.int ((((x : Int64).toUInt64 >>> ((16 : Int32).toInt64.toUInt64 &&& Int64.toUInt64 63)).toInt64 : Int64).toInt32)]) (rest := []) ⟨hx, hb, hml, hown, hts⟩ hw hA (cx_in_put l D cI cJ ad (upd g 13 17) lg (va_up ar 0 uu_3) bk _ ((((x : Int64).toUInt64 >>> ((16 : Int32).toInt64.toUInt64 &&& Int64.toUInt64 63)).toInt64 : Int64).toInt32) 17 18 rfl (by decide)) (cwV 1 hts gw_cx_high16_0 rfl rfl rfl (by decide +kernel) ⟨Nat.le_of_ble_eq_true rfl, Nat.le_of_ble_eq_true rfl⟩) 2 (ci := 12) (T := TX9) (N := 2) rfl rfl rfl hl.1 rfl (Nat.le_of_ble_eq_true rfl) dX9_putHigh_19 ⟨Nat.le_of_ble_eq_true rfl, Nat.le_of_ble_eq_true rfl⟩ (fun uu_7 H locs hp_8 hw => ?_)
  have hw : hk_W D [(cI, .int), (cJ, .long)] _ s _ _ (xw cI cJ ad (upd g 13 18) lg (va_up ar 0 uu_7) bk) := hw
  refine lv_iinc (v := 1) (lv' := [(4, .int 1), (0, .ref (ad 2)), (1, .long x), (3, .int 4)]) hx hb dX9_putHigh_22 hl (k := 0) rfl rfl (by decide) rfl (fun ls hl => ?_)
  refine lv_goto (tgt := 5) hx hb dX9_putHigh_25 (by decide) ?_
  refine lv_iload hx hb dX9_putHigh_5 (lv_at hl 0 rfl) ?_
  refine lv_if_lt (tgt := 28) hx hb dX9_putHigh_7 (by decide) (fun cc_9 => absurd cc_9 (by decide)) (fun _ => ?_)
  refine lv_aload_n hx hb dX9_putHigh_10 rfl (lv_at hl 1 rfl) ?_
  refine lv_lload_n hx hb dX9_putHigh_11 rfl (lv_at hl 2 rfl) ?_
  refine lv_bipush (v := 8) hx hb dX9_putHigh_12 (by decide) ?_
  refine lv_iload hx hb dX9_putHigh_14 (lv_at hl 0 rfl) ?_
  refine lv_imul hx hb dX9_putHigh_16 ?_
  refine hk_topi 8 (by decide +kernel) ?_
  refine lv_lushr (v := ((x : Int64).toUInt64 >>> ((8 : Int32).toInt64.toUInt64 &&& Int64.toUInt64 63)).toInt64) hx hb dX9_putHigh_17 rfl ?_
  refine lv_l2i (v := (((x : Int64).toUInt64 >>> ((8 : Int32).toInt64.toUInt64 &&& Int64.toUInt64 63)).toInt64 : Int64).toInt32) hx hb dX9_putHigh_18 rfl ?_
  refine hk_Vv (As := [.int ((((x : Int64).toUInt64 >>> ((8 : Int32).toInt64.toUInt64 &&& Int64.toUInt64 63)).toInt64 : Int64).toInt32)]) (rest := []) ⟨hx, hb, hml, hown, hts⟩ hw hA (cx_in_put l D cI cJ ad (upd g 13 18) lg (va_up ar 0 uu_7) bk _ ((((x : Int64).toUInt64 >>> ((8 : Int32).toInt64.toUInt64 &&& Int64.toUInt64 63)).toInt64 : Int64).toInt32) 18 19 rfl (by decide)) (cwV 1 hts gw_cx_high16_0 rfl rfl rfl (by decide +kernel) ⟨Nat.le_of_ble_eq_true rfl, Nat.le_of_ble_eq_true rfl⟩) 2 (ci := 12) (T := TX9) (N := 2) rfl rfl rfl hl.1 rfl (Nat.le_of_ble_eq_true rfl) dX9_putHigh_19 ⟨Nat.le_of_ble_eq_true rfl, Nat.le_of_ble_eq_true rfl⟩ (fun uu_11 H locs hp_12 hw => ?_)
  have hw : hk_W D [(cI, .int), (cJ, .long)] _ s _ _ (xw cI cJ ad (upd g 13 19) lg (va_up ar 0 uu_11) bk) := hw
  refine lv_iinc (v := 0) (lv' := [(4, .int 0), (0, .ref (ad 2)), (1, .long x), (3, .int 4)]) hx hb dX9_putHigh_22 hl (k := 0) rfl rfl (by decide) rfl (fun ls hl => ?_)
  refine lv_goto (tgt := 5) hx hb dX9_putHigh_25 (by decide) ?_
  refine lv_iload hx hb dX9_putHigh_5 (lv_at hl 0 rfl) ?_
  refine lv_if_lt (tgt := 28) hx hb dX9_putHigh_7 (by decide) (fun cc_13 => absurd cc_13 (by decide)) (fun _ => ?_)
  refine lv_aload_n hx hb dX9_putHigh_10 rfl (lv_at hl 1 rfl) ?_
  refine lv_lload_n hx hb dX9_putHigh_11 rfl (lv_at hl 2 rfl) ?_
  refine lv_bipush (v := 8) hx hb dX9_putHigh_12 (by decide) ?_
  refine lv_iload hx hb dX9_putHigh_14 (lv_at hl 0 rfl) ?_
  refine lv_imul hx hb dX9_putHigh_16 ?_
  refine hk_topi 0 (by decide +kernel) ?_
  refine lv_lushr (v := ((x : Int64).toUInt64 >>> ((0 : Int32).toInt64.toUInt64 &&& Int64.toUInt64 63)).toInt64) hx hb dX9_putHigh_17 rfl ?_
  refine lv_l2i (v := (((x : Int64).toUInt64 >>> ((0 : Int32).toInt64.toUInt64 &&& Int64.toUInt64 63)).toInt64 : Int64).toInt32) hx hb dX9_putHigh_18 rfl ?_
  refine hk_Vv (As := [.int ((((x : Int64).toUInt64 >>> ((0 : Int32).toInt64.toUInt64 &&& Int64.toUInt64 63)).toInt64 : Int64).toInt32)]) (rest := []) ⟨hx, hb, hml, hown, hts⟩ hw hA (cx_in_put l D cI cJ ad (upd g 13 19) lg (va_up ar 0 uu_11) bk _ ((((x : Int64).toUInt64 >>> ((0 : Int32).toInt64.toUInt64 &&& Int64.toUInt64 63)).toInt64 : Int64).toInt32) 19 20 rfl (by decide)) (cwV 1 hts gw_cx_high16_0 rfl rfl rfl (by decide +kernel) ⟨Nat.le_of_ble_eq_true rfl, Nat.le_of_ble_eq_true rfl⟩) 2 (ci := 12) (T := TX9) (N := 2) rfl rfl rfl hl.1 rfl (Nat.le_of_ble_eq_true rfl) dX9_putHigh_19 ⟨Nat.le_of_ble_eq_true rfl, Nat.le_of_ble_eq_true rfl⟩ (fun uu_15 H locs hp_16 hw => ?_)
  have hw : hk_W D [(cI, .int), (cJ, .long)] _ s _ _ (xw cI cJ ad (upd g 13 20) lg (va_up ar 0 uu_15) bk) := hw
  refine lv_iinc (v := (-1)) (lv' := [(4, .int (-1)), (0, .ref (ad 2)), (1, .long x), (3, .int 4)]) hx hb dX9_putHigh_22 hl (k := 0) rfl rfl (by decide) rfl (fun ls hl => ?_)
  refine lv_goto (tgt := 5) hx hb dX9_putHigh_25 (by decide) ?_
  refine lv_iload hx hb dX9_putHigh_5 (lv_at hl 0 rfl) ?_
  refine lv_if_lt (tgt := 28) hx hb dX9_putHigh_7 (by decide) (fun _ => ?_) (fun cc_17 => absurd (by decide) cc_17)
  exact hk_vret (u := uu_15) hx hb hr hlocks (hw) (trivial) dX9_putHigh_28

def ww_ct_feed : List Cond := Cond.code yX11_feed cX11_feed 6 (some .int) :: ([Cond.fieldLink RX11 25 "LzmaChains" "input" "LLzmaChains$Row;", Cond.fieldLink RX11 100 "LzmaChains$Row" "size" "I", Cond.methodLink RX11 103 yX9_putHigh, Cond.instanceMethod yX9_putHigh, Cond.selects RX9 yX9_putHigh yX9_putHigh, Cond.initialized RX9, Cond.code yX9_putHigh cX9_putHigh 5 none, Cond.methodLink RX9 21 yX9_put, Cond.instanceMethod yX9_put, Cond.selects RX9 yX9_put yX9_put, Cond.code yX9_put cX9_put 2 none, Cond.fieldLink RX9 13 "LzmaChains$Row" "size" "I", Cond.methodLink RX9 17 yX9_set, Cond.instanceMethod yX9_set, Cond.selects RX9 yX9_set yX9_set, Cond.code yX9_set cX9_set 3 none, Cond.fieldLink RX9 7 "LzmaChains$Row" "data" "[I"] ++ (wsX110 ++ (wsX90 ++ ([]))))
set_option maxRecDepth 20000 in
theorem gw_ct_feed_0 : GoodIn ww_ct_feed (wsV RX11 103 RX9 yX9_putHigh ww_cx_high0) := goodIn_r _ [3, 4, 5, 6, 7, 8, 9, 10, 6, 11, 12, 13, 14, 15, 16, 17, 29, 30] rfl (by decide +kernel)
set_option maxRecDepth 20000 in
theorem gw_ct_feed_1 : GoodIn ww_ct_feed (wsV RX11 103 RX9 yX9_putHigh ww_cx_high4) := goodIn_r _ [3, 4, 5, 6, 7, 8, 9, 10, 6, 11, 12, 13, 14, 15, 16, 17, 29, 30] rfl (by decide +kernel)
set_option maxRecDepth 20000 in
theorem gw_ct_feed_2 : GoodIn ww_ct_feed (wsV RX11 103 RX9 yX9_putHigh ww_cx_high8) := goodIn_r _ [3, 4, 5, 6, 7, 8, 9, 10, 6, 11, 12, 13, 14, 15, 16, 17, 29, 30] rfl (by decide +kernel)
set_option maxRecDepth 20000 in
theorem gw_ct_feed_3 : GoodIn ww_ct_feed (wsV RX11 103 RX9 yX9_putHigh ww_cx_high12) := goodIn_r _ [3, 4, 5, 6, 7, 8, 9, 10, 6, 11, 12, 13, 14, 15, 16, 17, 29, 30] rfl (by decide +kernel)
set_option maxRecDepth 20000 in
theorem gw_ct_feed_4 : GoodIn ww_ct_feed (wsV RX11 103 RX9 yX9_putHigh ww_cx_high16) := goodIn_r _ [3, 4, 5, 6, 7, 8, 9, 10, 6, 11, 12, 13, 14, 15, 16, 17, 29, 30] rfl (by decide +kernel)
set_option maxHeartbeats 4000000 in
set_option maxRecDepth 100000 in
/-- feed on a new object -/
theorem ct_feed (l : Launch) (D : va_G) (cI cJ : ClassId) (ad : Nat → Nat) (fm : Int32) (ar : Nat → Nat → Int32) (bk : Nat → Int64) (sz : Nat) (a1 a2 a3 a4 a5 : Int32) : Met l yX11_feed ww_ct_feed { frames := 3, cells := 0, slots := 0, locals := 67 } (va_Pc [.ref (ad 0), .int a1, .int a2, .int a3, .int a4, .int a5] (hk_B D [(cI, .int), (cJ, .long)] sz (xw cI cJ ad (xf_g fm) xf_l ar bk))) (va_Qi (fun (r : Int32) (u : (Nat → Int32) × (Nat → Int64) × (Nat → Nat → Int32) × (Nat → Int64)) => r = 20) (fun u : (Nat → Int32) × (Nat → Int64) × (Nat → Nat → Int32) × (Nat → Int64) => hk_E D [(cI, .int), (cJ, .long)] (va_A (xw cI cJ ad (xf_g fm) xf_l ar bk) sz) (xw cI cJ ad u.1 u.2.1 u.2.2.1 u.2.2.2)) (va_A (xw cI cJ ad (xf_g fm) xf_l ar bk) sz)) 0 0 (va_A (xw cI cJ ad (xf_g fm) xf_l ar bk) sz) := by
  refine hk_met (cc := cX11_feed) (maxL := 6) (ret := (some .int)) (by decide) rfl (Nat.le_of_ble_eq_true rfl) ?_
  intro p e s m below meth c ls hx hb hr hml hown hts hlocks hin hA hw hl
  have iX11 : ∀ w ∈ wsX110, w ∈ ww_ct_feed := fun _ h => List.mem_cons_of_mem _ (List.mem_append_right _ (List.mem_append_left _ h))
  have iX9 : ∀ w ∈ wsX90, w ∈ ww_ct_feed := fun _ h => List.mem_cons_of_mem _ (List.mem_append_right _ (List.mem_append_right _ (List.mem_append_left _ h)))
  have hl : lv_has ls 6 [(0, .ref (ad 0)), (1, .int a1), (2, .int a2), (3, .int a3), (4, .int a4), (5, .int a5)] := hl
  refine lv_aload_n hx hb dX11_feed_0 rfl (lv_at hl 0 rfl) ?_
  refine hk_get (ci := 14) (C := RX11) (T := TX11) (N := 11) (v := .ref (ad 2)) hx hb hts iX11 hown hw 0 rfl rfl 2 (by decide) (hts _ (List.mem_of_getElem? (i := 1) rfl)) rfl dX11_feed_1 ?_
  refine hk_get (ci := 12) (C := RX9) (T := TX9) (N := 2) (v := .int 0) hx hb hts iX9 hown hw 2 rfl rfl 1 (by decide) (hts _ (List.mem_of_getElem? (i := 2) rfl)) rfl dX11_feed_4 ?_
  refine lv_sipush (v := 1480) hx hb dX11_feed_7 (by decide) ?_
  refine lv_icmp_le (tgt := 16) hx hb dX11_feed_10 (by decide) (fun _ => ?_) (fun cc_1 => absurd (by decide) cc_1)
  refine lv_aload_n hx hb dX11_feed_16 rfl (lv_at hl 0 rfl) ?_
  refine hk_get (ci := 14) (C := RX11) (T := TX11) (N := 11) (v := .ref (ad 2)) hx hb hts iX11 hown hw 0 rfl rfl 2 (by decide) (hts _ (List.mem_of_getElem? (i := 1) rfl)) rfl dX11_feed_17 ?_
  refine lv_iload_n hx hb dX11_feed_20 rfl (lv_at hl 1 rfl) ?_
  refine lv_i2l (v := (a1 : Int32).toInt64) hx hb dX11_feed_21 rfl ?_
  refine lv_iconst (v := 4) hx hb dX11_feed_22 (by decide) ?_
  refine hk_Vv (As := [.long ((a1 : Int32).toInt64), .int 4]) (rest := []) ⟨hx, hb, hml, hown, hts⟩ hw hA (cx_high0 l D cI cJ ad (xf_g fm) xf_l ar bk _ ((a1 : Int32).toInt64) rfl) (cwV 2 hts gw_ct_feed_0 rfl rfl rfl (by decide +kernel) ⟨Nat.le_of_ble_eq_true rfl, Nat.le_of_ble_eq_true rfl⟩) 2 (ci := 12) (T := TX9) (N := 2) rfl rfl rfl hl.1 rfl (Nat.le_of_ble_eq_true rfl) dX11_feed_23 ⟨Nat.le_of_ble_eq_true rfl, Nat.le_of_ble_eq_true rfl⟩ (fun uu_3 H locs hp_4 hw => ?_)
  have hw : hk_W D [(cI, .int), (cJ, .long)] _ s _ _ (xw cI cJ ad (upd (xf_g fm) 13 4) xf_l (va_up ar 0 uu_3) bk) := hw
  refine lv_aload_n hx hb dX11_feed_26 rfl (lv_at hl 0 rfl) ?_
  refine hk_get (ci := 14) (C := RX11) (T := TX11) (N := 11) (v := .ref (ad 2)) hx hb hts iX11 hown hw 0 rfl rfl 2 (by decide) (hts _ (List.mem_of_getElem? (i := 1) rfl)) rfl dX11_feed_27 ?_
  refine lv_iload_n hx hb dX11_feed_30 rfl (lv_at hl 2 rfl) ?_
  refine lv_i2l (v := (a2 : Int32).toInt64) hx hb dX11_feed_31 rfl ?_
  refine lv_iconst (v := 4) hx hb dX11_feed_32 (by decide) ?_
  refine hk_Vv (As := [.long ((a2 : Int32).toInt64), .int 4]) (rest := []) ⟨hx, hb, hml, hown, hts⟩ hw hA (cx_high4 l D cI cJ ad (upd (xf_g fm) 13 4) xf_l (va_up ar 0 uu_3) bk _ ((a2 : Int32).toInt64) rfl) (cwV 2 hts gw_ct_feed_1 rfl rfl rfl (by decide +kernel) ⟨Nat.le_of_ble_eq_true rfl, Nat.le_of_ble_eq_true rfl⟩) 2 (ci := 12) (T := TX9) (N := 2) rfl rfl rfl hl.1 rfl (Nat.le_of_ble_eq_true rfl) dX11_feed_33 ⟨Nat.le_of_ble_eq_true rfl, Nat.le_of_ble_eq_true rfl⟩ (fun uu_6 H locs hp_7 hw => ?_)
  have hw : hk_W D [(cI, .int), (cJ, .long)] _ s _ _ (xw cI cJ ad (upd (xf_g fm) 13 8) xf_l (va_up ar 0 uu_6) bk) := hw
  refine lv_aload_n hx hb dX11_feed_36 rfl (lv_at hl 0 rfl) ?_
  refine hk_get (ci := 14) (C := RX11) (T := TX11) (N := 11) (v := .ref (ad 2)) hx hb hts iX11 hown hw 0 rfl rfl 2 (by decide) (hts _ (List.mem_of_getElem? (i := 1) rfl)) rfl dX11_feed_37 ?_
  refine lv_iload_n hx hb dX11_feed_40 rfl (lv_at hl 3 rfl) ?_
  refine lv_i2l (v := (a3 : Int32).toInt64) hx hb dX11_feed_41 rfl ?_
  refine lv_iconst (v := 4) hx hb dX11_feed_42 (by decide) ?_
  refine hk_Vv (As := [.long ((a3 : Int32).toInt64), .int 4]) (rest := []) ⟨hx, hb, hml, hown, hts⟩ hw hA (cx_high8 l D cI cJ ad (upd (xf_g fm) 13 8) xf_l (va_up ar 0 uu_6) bk _ ((a3 : Int32).toInt64) rfl) (cwV 2 hts gw_ct_feed_2 rfl rfl rfl (by decide +kernel) ⟨Nat.le_of_ble_eq_true rfl, Nat.le_of_ble_eq_true rfl⟩) 2 (ci := 12) (T := TX9) (N := 2) rfl rfl rfl hl.1 rfl (Nat.le_of_ble_eq_true rfl) dX11_feed_43 ⟨Nat.le_of_ble_eq_true rfl, Nat.le_of_ble_eq_true rfl⟩ (fun uu_9 H locs hp_10 hw => ?_)
  have hw : hk_W D [(cI, .int), (cJ, .long)] _ s _ _ (xw cI cJ ad (upd (xf_g fm) 13 12) xf_l (va_up ar 0 uu_9) bk) := hw
  refine lv_aload_n hx hb dX11_feed_46 rfl (lv_at hl 0 rfl) ?_
  refine hk_get (ci := 14) (C := RX11) (T := TX11) (N := 11) (v := .ref (ad 2)) hx hb hts iX11 hown hw 0 rfl rfl 2 (by decide) (hts _ (List.mem_of_getElem? (i := 1) rfl)) rfl dX11_feed_47 ?_
  refine lv_iload hx hb dX11_feed_50 (lv_at hl 4 rfl) ?_
  refine lv_i2l (v := (a4 : Int32).toInt64) hx hb dX11_feed_52 rfl ?_
  refine lv_iconst (v := 4) hx hb dX11_feed_53 (by decide) ?_
  refine hk_Vv (As := [.long ((a4 : Int32).toInt64), .int 4]) (rest := []) ⟨hx, hb, hml, hown, hts⟩ hw hA (cx_high12 l D cI cJ ad (upd (xf_g fm) 13 12) xf_l (va_up ar 0 uu_9) bk _ ((a4 : Int32).toInt64) rfl) (cwV 2 hts gw_ct_feed_3 rfl rfl rfl (by decide +kernel) ⟨Nat.le_of_ble_eq_true rfl, Nat.le_of_ble_eq_true rfl⟩) 2 (ci := 12) (T := TX9) (N := 2) rfl rfl rfl hl.1 rfl (Nat.le_of_ble_eq_true rfl) dX11_feed_54 ⟨Nat.le_of_ble_eq_true rfl, Nat.le_of_ble_eq_true rfl⟩ (fun uu_12 H locs hp_13 hw => ?_)
  have hw : hk_W D [(cI, .int), (cJ, .long)] _ s _ _ (xw cI cJ ad (upd (xf_g fm) 13 16) xf_l (va_up ar 0 uu_12) bk) := hw
  refine lv_aload_n hx hb dX11_feed_57 rfl (lv_at hl 0 rfl) ?_
  refine hk_get (ci := 14) (C := RX11) (T := TX11) (N := 11) (v := .ref (ad 2)) hx hb hts iX11 hown hw 0 rfl rfl 2 (by decide) (hts _ (List.mem_of_getElem? (i := 1) rfl)) rfl dX11_feed_58 ?_
  refine lv_iload hx hb dX11_feed_61 (lv_at hl 5 rfl) ?_
  refine lv_i2l (v := (a5 : Int32).toInt64) hx hb dX11_feed_63 rfl ?_
  refine lv_iconst (v := 4) hx hb dX11_feed_64 (by decide) ?_
  refine hk_Vv (As := [.long ((a5 : Int32).toInt64), .int 4]) (rest := []) ⟨hx, hb, hml, hown, hts⟩ hw hA (cx_high16 l D cI cJ ad (upd (xf_g fm) 13 16) xf_l (va_up ar 0 uu_12) bk _ ((a5 : Int32).toInt64) rfl) (cwV 2 hts gw_ct_feed_4 rfl rfl rfl (by decide +kernel) ⟨Nat.le_of_ble_eq_true rfl, Nat.le_of_ble_eq_true rfl⟩) 2 (ci := 12) (T := TX9) (N := 2) rfl rfl rfl hl.1 rfl (Nat.le_of_ble_eq_true rfl) dX11_feed_65 ⟨Nat.le_of_ble_eq_true rfl, Nat.le_of_ble_eq_true rfl⟩ (fun uu_15 H locs hp_16 hw => ?_)
  have hw : hk_W D [(cI, .int), (cJ, .long)] _ s _ _ (xw cI cJ ad (upd (xf_g fm) 13 20) xf_l (va_up ar 0 uu_15) bk) := hw
  refine lv_aload_n hx hb dX11_feed_68 rfl (lv_at hl 0 rfl) ?_
  refine hk_get (ci := 14) (C := RX11) (T := TX11) (N := 11) (v := .ref (ad 2)) hx hb hts iX11 hown hw 0 rfl rfl 2 (by decide) (hts _ (List.mem_of_getElem? (i := 1) rfl)) rfl dX11_feed_69 ?_
  refine hk_get (ci := 12) (C := RX9) (T := TX9) (N := 2) (v := .int 20) hx hb hts iX9 hown hw 2 rfl rfl 1 (by decide) (hts _ (List.mem_of_getElem? (i := 2) rfl)) rfl dX11_feed_72 ?_
  exact hk_iret (u := ((upd (xf_g fm) 13 20), xf_l, (va_up ar 0 uu_15), bk)) hx hb hr hlocks (hw) (rfl) dX11_feed_75
