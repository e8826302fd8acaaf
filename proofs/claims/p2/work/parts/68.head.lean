/-! 68.head -/
theorem ob444 (v0 : Int) (v1 : Int) (v2 : Int) (h0 : 0 ≤ v0) (h1 : 2147483648 - v0 ≤ v1 + 1) (h2 : v0 < v2) (h3 : -2147483648 ≤ v0 ∧ v0 ≤ 2147483647) (h4 : v2 = 9) : -2147483648 ≤ v0 * 7 ∧ v0 * 7 ≤ 2147483647 := by omega
theorem ob445 (v0 : Int) (v1 : Int) (v2 : Int) (v3 : Int) (v4 : Int) (h0 : 0 ≤ v0) (h1 : 2147483648 - v0 ≤ v2 + 1) (h2 : v0 < v3) (h3 : v4 = v0 * 7) (h4 : -2147483648 ≤ v0 ∧ v0 ≤ 2147483647) (h5 : v1 = 1) (h6 : v3 = 9) (h7 : -2147483648 ≤ v4 ∧ v4 ≤ 2147483647) : -2147483648 ≤ v0 + v1 ∧ v0 + v1 ≤ 2147483647 := by omega
theorem ob446 (v0 : Int) (v1 : Int) (v2 : Int) (v3 : Int) (v4 : Int) (v5 : Int) (h0 : 2147483648 - v2 ≤ v1 + 1) (h1 : v0 = v2 + v3) (h2 : 0 ≤ v2) (h3 : v2 < v4) (h4 : v5 = v2 * 7) (h5 : -2147483648 ≤ v0 ∧ v0 ≤ 2147483647) (h6 : -2147483648 ≤ v2 ∧ v2 ≤ 2147483647) (h7 : v3 = 1) (h8 : v4 = 9) (h9 : -2147483648 ≤ v5 ∧ v5 ≤ 2147483647) : 2147483648 - v0 ≤ v1 := by omega
theorem ob447 (v0 : Int) (v1 : Int) (v2 : Int) (v3 : Int) (v4 : Int) (v5 : Int) (h0 : v0 = v1 + v2) (h1 : 0 ≤ v1) (h2 : 2147483648 - v1 ≤ v3 + 1) (h3 : v1 < v4) (h4 : v5 = v1 * 7) (h5 : -2147483648 ≤ v0 ∧ v0 ≤ 2147483647) (h6 : -2147483648 ≤ v1 ∧ v1 ≤ 2147483647) (h7 : v2 = 1) (h8 : v4 = 9) (h9 : -2147483648 ≤ v5 ∧ v5 ≤ 2147483647) : 0 ≤ v0 := by omega
theorem ob448 (v0 : Int) (v1 : Int) (v2 : Int) (v3 : Int) (v4 : Int) (h0 : v1 = v2) (h1 : v2 = v3 % 2) (h2 : v3 ≤ v4) (h3 : v3 ≠ v4) (h4 : v0 = 2) (h5 : -9223372036854775808 ≤ v1 ∧ v1 ≤ 9223372036854775807) (h6 : -2147483648 ≤ v2 ∧ v2 ≤ 2147483647) (h7 : -2147483648 ≤ v3 ∧ v3 ≤ 2147483647) (h8 : v4 = 40) : -9223372036854775808 ≤ v0 + v1 ∧ v0 + v1 ≤ 9223372036854775807 := by omega
theorem ob449 (v0 : Int) (v1 : Int) (v2 : Int) (h0 : v0 = v2 % 4) (h1 : -2147483648 ≤ v0 ∧ v0 ≤ 2147483647) (h2 : v1 = 1) (h3 : -2147483648 ≤ v2 ∧ v2 ≤ 2147483647) : -2147483648 ≤ v0 + v1 ∧ v0 + v1 ≤ 2147483647 := by omega
theorem ob450 (v0 : Int) (h0 : 0 ≤ v0 ∧ v0 ≤ 3) (h1 : -2147483648 ≤ v0 ∧ v0 ≤ 2147483647) : 0 ≤ v0 ∧ v0 < (4 : Nat) := by omega
theorem ob451 (v0 : Int) (v1 : Int) (v2 : Int) (v3 : Int) (v4 : Int) (v5 : Int) (h0 : v2 = v0) (h1 : v3 < v0) (h2 : 0 ≤ v3) (h3 : 2147483648 - v3 ≤ v4 + 1) (h4 : v5 = v3 % 4) (h5 : -2147483648 ≤ v0 ∧ v0 ≤ 2147483647) (h6 : v1 = 1) (h7 : -2147483648 ≤ v2 ∧ v2 ≤ 2147483647) (h8 : -2147483648 ≤ v3 ∧ v3 ≤ 2147483647) (h9 : -2147483648 ≤ v5 ∧ v5 ≤ 2147483647) : -2147483648 ≤ v0 - v1 ∧ v0 - v1 ≤ 2147483647 := by omega
theorem ob452 (v0 : Int) (v1 : Int) (v2 : Int) (v3 : Int) (v4 : Int) (v5 : Int) (v6 : Int) (h0 : v0 = v1 % 4) (h1 : 0 ≤ v1) (h2 : 2147483648 - v1 ≤ v2 + 1) (h3 : v1 < v3) (h4 : v4 = v3) (h5 : v5 = v3 - v6) (h6 : -2147483648 ≤ v0 ∧ v0 ≤ 2147483647) (h7 : -2147483648 ≤ v1 ∧ v1 ≤ 2147483647) (h8 : -2147483648 ≤ v3 ∧ v3 ≤ 2147483647) (h9 : -2147483648 ≤ v4 ∧ v4 ≤ 2147483647) (h10 : -2147483648 ≤ v5 ∧ v5 ≤ 2147483647) (h11 : v6 = 1) : 0 ≤ v0 ∧ v0 ≤ 3 := by omega
theorem ob453 (v0 : Int) (v1 : Int) (v2 : Int) (v3 : Int) (v4 : Int) (v5 : Int) (v6 : Int) (h0 : 0 ≤ v0) (h1 : 2147483648 - v0 ≤ v2 + 1) (h2 : v0 < v3) (h3 : v4 = v0 % 4) (h4 : v5 = v3 - v1) (h5 : v6 = v3) (h6 : -2147483648 ≤ v0 ∧ v0 ≤ 2147483647) (h7 : v1 = 1) (h8 : -2147483648 ≤ v3 ∧ v3 ≤ 2147483647) (h9 : -2147483648 ≤ v4 ∧ v4 ≤ 2147483647) (h10 : -2147483648 ≤ v5 ∧ v5 ≤ 2147483647) (h11 : -2147483648 ≤ v6 ∧ v6 ≤ 2147483647) : -2147483648 ≤ v0 + v1 ∧ v0 + v1 ≤ 2147483647 := by omega
theorem ob454 (v0 : Int) (v1 : Int) (v2 : Int) (v3 : Int) (v4 : Int) (v5 : Int) (v6 : Int) (v7 : Int) (h0 : 2147483648 - v2 ≤ v1 + 1) (h1 : v0 = v2 + v3) (h2 : 0 ≤ v2) (h3 : v2 < v4) (h4 : v5 = v2 % 4) (h5 : v6 = v4 - v3) (h6 : v7 = v4) (h7 : -2147483648 ≤ v0 ∧ v0 ≤ 2147483647) (h8 : -2147483648 ≤ v2 ∧ v2 ≤ 2147483647) (h9 : v3 = 1) (h10 : -2147483648 ≤ v4 ∧ v4 ≤ 2147483647) (h11 : -2147483648 ≤ v5 ∧ v5 ≤ 2147483647) (h12 : -2147483648 ≤ v6 ∧ v6 ≤ 2147483647) (h13 : -2147483648 ≤ v7 ∧ v7 ≤ 2147483647) : 2147483648 - v0 ≤ v1 := by omega
theorem ob455 (v0 : Int) (v1 : Int) (v2 : Int) (v3 : Int) (v4 : Int) (v5 : Int) (v6 : Int) (v7 : Int) (h0 : v0 = v1 + v2) (h1 : 0 ≤ v1) (h2 : 2147483648 - v1 ≤ v3 + 1) (h3 : v1 < v4) (h4 : v5 = v1 % 4) (h5 : v6 = v4 - v2) (h6 : v7 = v4) (h7 : -2147483648 ≤ v0 ∧ v0 ≤ 2147483647) (h8 : -2147483648 ≤ v1 ∧ v1 ≤ 2147483647) (h9 : v2 = 1) (h10 : -2147483648 ≤ v4 ∧ v4 ≤ 2147483647) (h11 : -2147483648 ≤ v5 ∧ v5 ≤ 2147483647) (h12 : -2147483648 ≤ v6 ∧ v6 ≤ 2147483647) (h13 : -2147483648 ≤ v7 ∧ v7 ≤ 2147483647) : 0 ≤ v0 := by omega
theorem ob456 (v0 : Int) (v1 : Int) (v2 : Int) (v3 : Int) (v4 : Int) (v5 : Int) (v6 : Int) (h0 : v1 = v2 - v0) (h1 : v3 = v2) (h2 : v4 < v2) (h3 : v4 = v1) (h4 : 0 ≤ v4) (h5 : 2147483648 - v4 ≤ v5 + 1) (h6 : v6 = v4 % 4) (h7 : v0 = 1) (h8 : -2147483648 ≤ v1 ∧ v1 ≤ 2147483647) (h9 : -2147483648 ≤ v2 ∧ v2 ≤ 2147483647) (h10 : -2147483648 ≤ v3 ∧ v3 ≤ 2147483647) (h11 : -2147483648 ≤ v4 ∧ v4 ≤ 2147483647) (h12 : -2147483648 ≤ v6 ∧ v6 ≤ 2147483647) : 0 ≤ v0 ∧ v0 ≤ 1 := by omega
theorem ob457 (v0 : Int) (v1 : Int) (v2 : Int) (v3 : Int) (v4 : Int) (v5 : Int) (v6 : Int) (v7 : Int) (v8 : Int) (v9 : Int) (h0 : 2147483648 - v0 ≤ v2 + 1) (h1 : v0 < v3) (h2 : v3 = (v4 - v5 + 2147483648) % 4294967296 - 2147483648) (h3 : v4 = (v6 + v7 + 2147483648) % 4294967296 - 2147483648) (h4 : v8 = v6) (h5 : v9 = v7) (h6 : -2147483648 ≤ v0 ∧ v0 ≤ 2147483647) (h7 : v1 = 1) (h8 : -2147483648 ≤ v3 ∧ v3 ≤ 2147483647) (h9 : -2147483648 ≤ v4 ∧ v4 ≤ 2147483647) (h10 : v5 = 4) (h11 : -2147483648 ≤ v6 ∧ v6 ≤ 2147483647) (h12 : -2147483648 ≤ v7 ∧ v7 ≤ 2147483647) (h13 : -2147483648 ≤ v8 ∧ v8 ≤ 2147483647) (h14 : -2147483648 ≤ v9 ∧ v9 ≤ 2147483647) : -2147483648 ≤ v0 + v1 ∧ v0 + v1 ≤ 2147483647 := by omega
theorem ob458 (v0 : Int) (v1 : Int) (v2 : Int) (v3 : Int) (v4 : Int) (v5 : Int) (v6 : Int) (v7 : Int) (v8 : Int) (v9 : Int) (v10 : Int) (h0 : 2147483648 - v2 ≤ v1 + 1) (h1 : v0 = v2 + v3) (h2 : v2 < v4) (h3 : v4 = (v5 - v6 + 2147483648) % 4294967296 - 2147483648) (h4 : v5 = (v7 + v8 + 2147483648) % 4294967296 - 2147483648) (h5 : v9 = v7) (h6 : v10 = v8) (h7 : -2147483648 ≤ v0 ∧ v0 ≤ 2147483647) (h8 : -2147483648 ≤ v2 ∧ v2 ≤ 2147483647) (h9 : v3 = 1) (h10 : -2147483648 ≤ v4 ∧ v4 ≤ 2147483647) (h11 : -2147483648 ≤ v5 ∧ v5 ≤ 2147483647) (h12 : v6 = 4) (h13 : -2147483648 ≤ v7 ∧ v7 ≤ 2147483647) (h14 : -2147483648 ≤ v8 ∧ v8 ≤ 2147483647) (h15 : -2147483648 ≤ v9 ∧ v9 ≤ 2147483647) (h16 : -2147483648 ≤ v10 ∧ v10 ≤ 2147483647) : 2147483648 - v0 ≤ v1 := by omega
set_option maxHeartbeats 4000000 in
set_option maxRecDepth 100000 in
/-- X3_nextOfHead on (26,) -/
theorem jx_X3_nextOfHead (l : Launch) (hlt : l.stackTraces = false) (D : va_G) (t3 : Nat × Nat × Nat) (cI cJ : ClassId) (ad : Nat → Nat) (g : Nat → Int32) (lg : Nat → Int64) (ar : Nat → Nat → Int32) (bk : Nat → Int64) (sz : Nat) (hi_a0rg : hk_rg 0 255 (ar 0)) : JMi l yX3_nextOfHead (Cond.code yX3_nextOfHead cX3_nextOfHead 1 (some .int) :: wwX) { frames := 7, cells := 1, slots := 6, locals := 102 } t3 D xw cI cJ ad [.ref (ad 26)] (xw cI cJ ad g lg ar bk) sz 1 6 (fun (r : Int32) g' lg' ar' bk' => hk_fr [15, 17] g g' ∧ lg = lg' ∧ ar = ar' ∧ bk = bk') (fun g' lg' ar' bk' => hk_fr [15, 17] g g' ∧ lg = lg' ∧ ar = ar' ∧ bk = bk') := by
  refine jx_meti (cc := cX3_nextOfHead) (maxL := 1) (ret := (some .int)) rfl (by decide) rfl (Nat.le_of_ble_eq_true rfl) ?_
  intro p e s m args below meth c ls Q A hx hb hml hown hts hA hZ hw hl hQ kr kt
  have hq : ∀ w ∈ wwX, w.before args s = true := fun w h => hts w (List.mem_cons_of_mem _ h)
  have hl : lv_has ls 1 [(0, .ref (ad 26))] := hl
  refine lv_aload_n hx hb dX3_nextOfHead_0 rfl (lv_at hl 0 rfl) ?_
  refine hk_get (ci := 6) (C := RX3) (T := TX3) (N := 9) (v := .ref (ad 6)) hx hb hts (fun _ h => List.mem_cons_of_mem _ (wwXc_wsX30 _ h)) hown hw 26 rfl rfl 0 (by decide) (hq _ wX_295) rfl dX3_nextOfHead_1 ?_
  refine hk_get (ci := 11) (C := RX8) (T := TX8) (N := 4) (v := .int (g 15)) hx hb hts (fun _ h => List.mem_cons_of_mem _ (wwXc_wsX80 _ h)) hown hw 6 rfl rfl 1 (by decide) (hq _ wX_296) rfl dX3_nextOfHead_4 ?_
  refine lv_aload_n hx hb dX3_nextOfHead_7 rfl (lv_at hl 0 rfl) ?_
  refine hk_get (ci := 6) (C := RX3) (T := TX3) (N := 9) (v := .int (g 51)) hx hb hts (fun _ h => List.mem_cons_of_mem _ (wwXc_wsX30 _ h)) hown hw 26 rfl rfl 4 (by decide) (hq _ wX_297) rfl dX3_nextOfHead_8 ?_
  refine lv_aload_n hx hb dX3_nextOfHead_11 rfl (lv_at hl 0 rfl) ?_
  refine hk_get (ci := 6) (C := RX3) (T := TX3) (N := 9) (v := .int (g 52)) hx hb hts (fun _ h => List.mem_cons_of_mem _ (wwXc_wsX30 _ h)) hown hw 26 rfl rfl 5 (by decide) (hq _ wX_298) rfl dX3_nextOfHead_12 ?_
  refine lv_iadd hx hb dX3_nextOfHead_15 (jx_nm fun z1 hz1 => ?_)
  refine lv_iconst (v := 4) hx hb dX3_nextOfHead_16 (by decide) ?_
  refine lv_isub hx hb dX3_nextOfHead_17 (jx_nm fun z2 hz2 => ?_)
  refine lv_icmp_lt (tgt := 30) hx hb dX3_nextOfHead_18 (by decide) (fun cc3 => ?_) (fun cc3 => ?_)
  · refine lv_aload_n hx hb dX3_nextOfHead_30 rfl (lv_at hl 0 rfl) ?_
    refine hk_get (ci := 6) (C := RX3) (T := TX3) (N := 9) (v := .ref (ad 6)) hx hb hts (fun _ h => List.mem_cons_of_mem _ (wwXc_wsX30 _ h)) hown hw 26 rfl rfl 0 (by decide) (hq _ wX_295) rfl dX3_nextOfHead_31 ?_
    refine jx_Vi (As := []) (rest := []) ⟨hx, hb, hml, hown, hts⟩ hZ hw hA (jx_X8_next l hlt D t3 cI cJ ad g lg ar bk _ hi_a0rg) (cwV 0 hts (jx_gV wwX_good wX_300 wX_250 wX_251 wX_252 wX_253) rfl rfl rfl (by decide +kernel) ⟨Nat.le_of_ble_eq_true rfl, Nat.le_of_ble_eq_true rfl⟩) 6 (ci := 11) (T := TX8) (N := 4) rfl rfl rfl hl.1 rfl (Nat.le_of_ble_eq_true rfl) dX3_nextOfHead_34 ⟨Nat.le_of_ble_eq_true rfl, Nat.le_of_ble_eq_true rfl⟩ (fun u4 u5 u6 u7 H locs ce q hp hw h1 h2 h3 => by obtain ⟨ht0, rfl, rfl, rfl⟩ := hp; exact kt _ _ _ _ _ _ _ _ _ _ _ ⟨ht0, rfl, rfl, rfl⟩ hw h1 h2 h3) (fun r8 g9 l10 a11 b12 H locs hp13 hw => ?_)
    obtain ⟨h14, rfl, rfl, rfl, h18⟩ := hp13
    exact kr r8 g9 lg ar bk _ _ _ _ ⟨h14, rfl, rfl, rfl⟩ hw dX3_nextOfHead_37
  · refine lv_aload_n hx hb dX3_nextOfHead_21 rfl (lv_at hl 0 rfl) ?_
    refine hk_get (ci := 6) (C := RX3) (T := TX3) (N := 9) (v := .ref (ad 6)) hx hb hts (fun _ h => List.mem_cons_of_mem _ (wwXc_wsX30 _ h)) hown hw 26 rfl rfl 0 (by decide) (hq _ wX_295) rfl dX3_nextOfHead_22 ?_
    refine lv_bipush (v := 8) hx hb dX3_nextOfHead_25 (by decide) ?_
    refine jx_Vv (As := [.int 8]) (rest := []) ⟨hx, hb, hml, hown, hts⟩ hZ hw hA (jx_X8_fail l hlt D t3 cI cJ ad g lg ar bk _ 8) (cwV 1 hts (jx_gV wwX_good wX_299 wX_255 wX_256 wX_252 wX_257) rfl rfl rfl (by decide +kernel) ⟨Nat.le_of_ble_eq_true rfl, Nat.le_of_ble_eq_true rfl⟩) 6 (ci := 11) (T := TX8) (N := 4) rfl rfl rfl hl.1 rfl (Nat.le_of_ble_eq_true rfl) dX3_nextOfHead_27 ⟨Nat.le_of_ble_eq_true rfl, Nat.le_of_ble_eq_true rfl⟩ (fun u19 u20 u21 u22 H locs ce q hp hw h1 h2 h3 => by obtain ⟨ht0, rfl, rfl, rfl⟩ := hp; exact kt _ _ _ _ _ _ _ _ _ _ _ ⟨(hk_frT hk_fr0 (by decide) ht0), rfl, rfl, rfl⟩ hw h1 h2 h3) (fun g24 l25 a26 b27 H locs hp28 hw => ?_)
    obtain ⟨h29, rfl, rfl, rfl, h33⟩ := hp28
    exact False.elim h33

set_option maxHeartbeats 4000000 in
set_option maxRecDepth 100000 in
/-- X3_readNumber on (26,) -/
theorem jx_X3_readNumber (l : Launch) (hlt : l.stackTraces = false) (D : va_G) (t3 : Nat × Nat × Nat) (cI cJ : ClassId) (ad : Nat → Nat) (g : Nat → Int32) (lg : Nat → Int64) (ar : Nat → Nat → Int32) (bk : Nat → Int64) (sz : Nat) (hi_a0rg : hk_rg 0 255 (ar 0)) : JMl l yX3_readNumber (Cond.code yX3_readNumber cX3_readNumber 5 (some .long) :: wwX) { frames := 8, cells := 1, slots := 6, locals := 122 } t3 D xw cI cJ ad [.ref (ad 26)] (xw cI cJ ad g lg ar bk) sz 1 6 (fun (r : Int64) g' lg' ar' bk' => hk_fr [15, 17] g g' ∧ lg = lg' ∧ ar = ar' ∧ bk = bk') (fun g' lg' ar' bk' => hk_fr [15, 17] g g' ∧ lg = lg' ∧ ar = ar' ∧ bk = bk') := by
  refine jx_metl (cc := cX3_readNumber) (maxL := 5) (ret := (some .long)) rfl (by decide) rfl (Nat.le_of_ble_eq_true rfl) ?_
  intro p e s m args below meth c ls Q A hx hb hml hown hts hA hZ hw hl hQ kr kt
  have hq : ∀ w ∈ wwX, w.before args s = true := fun w h => hts w (List.mem_cons_of_mem _ h)
  have hl : lv_has ls 5 [(0, .ref (ad 26))] := hl
  refine lv_lconst (v := 0) hx hb dX3_readNumber_0 (by decide) ?_
  refine lv_lstore_n (lv' := [(1, .long 0), (0, .ref (ad 26))]) hx hb dX3_readNumber_1 rfl hl (by decide) rfl (fun ls hl => ?_)
  refine lv_iconst (v := 0) hx hb dX3_readNumber_2 (by decide) ?_
  refine lv_istore_n (lv' := [(3, .int 0), (1, .long 0), (0, .ref (ad 26))]) hx hb dX3_readNumber_3 rfl hl (by decide) rfl (fun ls hl => ?_)
  have B1 : ∀ (k5 : Nat) (x2 : Int64) (x3 : Int32) (g4 : Nat → Int32) (ls : Array Slot) (H : Heap) (locs : List Loc), (2147483648 - (x3).toInt ≤ (k5 : Int)) → (0 ≤ (x3).toInt) → (hk_fr [15, 17] g g4) → hk_W D (jT cI cJ) A s H locs (xw cI cJ ad g4 lg ar bk) → lv_has ls 5 [(0, .ref (ad 26)), (1, .long x2), (3, .int x3)] → W p l e { frames := 8, cells := 1, slots := 6, locals := 122 } s m args below meth c H locs 0 0 Q (F0 m 4 ls []) := by
    intro k5
    induction k5 with
    | zero =>
      intro x2 x3 g4 ls H locs hrk_B1 hf_B1_0 hfr_g4 hw hl
      exact False.elim (hk_no0 (0 * (x3).toInt) (ob5 ((x3).toInt) hf_B1_0 hrk_B1 (hE_rng (x3))) (by simp))
    | succ k5 ih_B1 =>
      intro x2 x3 g4 ls H locs hrk_B1 hf_B1_0 hfr_g4 hw hl
      have hrk_B1 := hk_rk hrk_B1
      refine lv_iload_n hx hb dX3_readNumber_4 rfl (lv_at hl 2 rfl) ?_
      refine lv_bipush (v := 9) hx hb dX3_readNumber_5 (by decide) ?_
      refine lv_icmp_ge (tgt := 64) hx hb dX3_readNumber_7 (by decide) (fun cc6 => ?_) (fun cc6 => ?_)
      · refine lv_aload_n hx hb dX3_readNumber_64 rfl (lv_at hl 0 rfl) ?_
        refine hk_get (ci := 6) (C := RX3) (T := TX3) (N := 9) (v := .ref (ad 6)) hx hb hts (fun _ h => List.mem_cons_of_mem _ (wwXc_wsX30 _ h)) hown hw 26 rfl rfl 0 (by decide) (hq _ wX_295) rfl dX3_readNumber_65 ?_
        refine lv_bipush (v := 8) hx hb dX3_readNumber_68 (by decide) ?_
        refine jx_Vv (As := [.int 8]) (rest := []) ⟨hx, hb, hml, hown, hts⟩ hZ hw hA (jx_X8_fail l hlt D t3 cI cJ ad g4 lg ar bk _ 8) (cwV 1 hts (jx_gV wwX_good wX_299 wX_255 wX_256 wX_252 wX_257) rfl rfl rfl (by decide +kernel) ⟨Nat.le_of_ble_eq_true rfl, Nat.le_of_ble_eq_true rfl⟩) 6 (ci := 11) (T := TX8) (N := 4) rfl rfl rfl hl.1 rfl (Nat.le_of_ble_eq_true rfl) dX3_readNumber_70 ⟨Nat.le_of_ble_eq_true rfl, Nat.le_of_ble_eq_true rfl⟩ (fun u7 u8 u9 u10 H locs ce q hp hw h1 h2 h3 => by obtain ⟨ht0, rfl, rfl, rfl⟩ := hp; exact kt _ _ _ _ _ _ _ _ _ _ _ ⟨(hk_frT hfr_g4 (by decide) ht0), rfl, rfl, rfl⟩ hw h1 h2 h3) (fun g12 l13 a14 b15 H locs hp16 hw => ?_)
        obtain ⟨h17, rfl, rfl, rfl, h21⟩ := hp16
        exact False.elim h21
      · refine lv_aload_n hx hb dX3_readNumber_10 rfl (lv_at hl 0 rfl) ?_
        refine jx_Vi (As := []) (rest := []) ⟨hx, hb, hml, hown, hts⟩ hZ hw hA (jx_X3_nextOfHead l hlt D t3 cI cJ ad g4 lg ar bk _ hi_a0rg) (cwV 0 hts (jx_gV wwX_good wX_314 wX_315 wX_316 wX_307 wX_317) rfl rfl rfl (by decide +kernel) ⟨Nat.le_of_ble_eq_true rfl, Nat.le_of_ble_eq_true rfl⟩) 26 (ci := 6) (T := TX3) (N := 9) rfl rfl rfl hl.1 rfl (Nat.le_of_ble_eq_true rfl) dX3_readNumber_11 ⟨Nat.le_of_ble_eq_true rfl, Nat.le_of_ble_eq_true rfl⟩ (fun u22 u23 u24 u25 H locs ce q hp hw h1 h2 h3 => by obtain ⟨ht0, rfl, rfl, rfl⟩ := hp; exact kt _ _ _ _ _ _ _ _ _ _ _ ⟨(hk_frT hfr_g4 (by decide) ht0), rfl, rfl, rfl⟩ hw h1 h2 h3) (fun r26 g27 l28 a29 b30 H locs hp31 hw => ?_)
        obtain ⟨h32, rfl, rfl, rfl⟩ := hp31
        refine lv_istore (lv' := [(4, .int r26), (0, .ref (ad 26)), (1, .long x2), (3, .int x3)]) hx hb dX3_readNumber_14 hl (by decide) rfl (fun ls hl => ?_)
        refine lv_lload_n hx hb dX3_readNumber_16 rfl (lv_at hl 2 rfl) ?_
        refine lv_iload hx hb dX3_readNumber_17 (lv_at hl 0 rfl) ?_
        refine lv_bipush (v := 127) hx hb dX3_readNumber_19 (by decide) ?_
        refine lv_iand hx hb dX3_readNumber_21 (jx_nm fun z36 hz36 => ?_)
        refine lv_i2l hx hb dX3_readNumber_22 rfl (jx_nl fun z37 hz37 => ?_)
        refine lv_bipush (v := 7) hx hb dX3_readNumber_23 (by decide) ?_
        refine lv_iload_n hx hb dX3_readNumber_25 rfl (lv_at hl 3 rfl) ?_
        refine lv_imul hx hb dX3_readNumber_26 (jx_nm fun z38 hz38 => ?_)
        have xz38 : (z38).toInt = (x3).toInt * 7 := (hE_imp (hE_mul' 7 hz38 (by decide)) (ob444 ((x3).toInt) (k5 : Int) (((9 : Int32)).toInt) hf_B1_0 hrk_B1 (hE_nle cc6) (hE_rng (x3)) (by decide)))
        refine lv_lshl hx hb dX3_readNumber_27 rfl (jx_nl fun z39 hz39 => ?_)
        refine lv_lor hx hb dX3_readNumber_28 (jx_nl fun z40 hz40 => ?_)
        refine lv_lstore_n (lv' := [(1, .long z40), (4, .int r26), (0, .ref (ad 26)), (3, .int x3)]) hx hb dX3_readNumber_29 rfl hl (by decide) rfl (fun ls hl => ?_)
        refine lv_iload hx hb dX3_readNumber_30 (lv_at hl 1 rfl) ?_
        have B41 : ∀  (ls : Array Slot) (H : Heap) (locs : List Loc), hk_W D (jT cI cJ) A s H locs (xw cI cJ ad g27 lg ar bk) → lv_has ls 5 [(0, .ref (ad 26)), (1, .long z40), (3, .int x3), (4, .int r26)] → W p l e { frames := 8, cells := 1, slots := 6, locals := 122 } s m args below meth c H locs 0 0 Q (F0 m 48 ls []) := by
          intro ls H locs hw hl
          refine lv_iload hx hb dX3_readNumber_48 (lv_at hl 3 rfl) ?_
          refine lv_sipush (v := 128) hx hb dX3_readNumber_50 (by decide) ?_
          refine lv_icmp_ge (tgt := 58) hx hb dX3_readNumber_53 (by decide) (fun cc42 => ?_) (fun cc42 => ?_)
          · obtain ⟨z43, hz43⟩ : ∃ z : Int32, x3 + 1 = z := ⟨_, rfl⟩
            refine lv_iinc (v := z43) (lv' := [(3, .int z43), (0, .ref (ad 26)), (1, .long z40), (4, .int r26)]) hx hb dX3_readNumber_58 hl (k := 2) rfl hz43 (by decide) rfl (fun ls hl => ?_)
            have xz43 : (z43).toInt = (x3).toInt + ((1 : Int32)).toInt := (hE_imp (hE_add hz43) (ob445 ((x3).toInt) (((1 : Int32)).toInt) (k5 : Int) (((9 : Int32)).toInt) ((z38).toInt) hf_B1_0 hrk_B1 (hE_nle cc6) xz38 (hE_rng (x3)) (by decide) (by decide) (hE_rng (z38))))
            refine lv_goto (tgt := 4) hx hb dX3_readNumber_61 (by decide) ?_
            exact ih_B1 z40 z43 g27 ls _ _ (ob446 ((z43).toInt) (k5 : Int) ((x3).toInt) (((1 : Int32)).toInt) (((9 : Int32)).toInt) ((z38).toInt) hrk_B1 xz43 hf_B1_0 (hE_nle cc6) xz38 (hE_rng (z43)) (hE_rng (x3)) (by decide) (by decide) (hE_rng (z38))) (ob447 ((z43).toInt) ((x3).toInt) (((1 : Int32)).toInt) (k5 : Int) (((9 : Int32)).toInt) ((z38).toInt) xz43 hf_B1_0 hrk_B1 (hE_nle cc6) xz38 (hE_rng (z43)) (hE_rng (x3)) (by decide) (by decide) (hE_rng (z38))) (hk_frT hfr_g4 (by decide) h32) hw (lv_sub hl [1, 2, 0] rfl)
          · refine lv_lload_n hx hb dX3_readNumber_56 rfl (lv_at hl 1 rfl) ?_
            exact kr z40 g27 lg ar bk _ _ _ _ ⟨(hk_frT hfr_g4 (by decide) h32), rfl, rfl, rfl⟩ hw dX3_readNumber_57
        refine lv_if_ne (tgt := 48) hx hb dX3_readNumber_32 (by decide) (fun cc44 => ?_) (fun cc44 => ?_)
        · exact B41 ls _ _ hw (lv_sub hl [2, 0, 3, 1] rfl)
        · refine lv_iload_n hx hb dX3_readNumber_35 rfl (lv_at hl 3 rfl) ?_
          refine lv_if_le (tgt := 48) hx hb dX3_readNumber_36 (by decide) (fun cc45 => ?_) (fun cc45 => ?_)
          · exact B41 ls _ _ hw (lv_sub hl [2, 0, 3, 1] rfl)
          · refine lv_aload_n hx hb dX3_readNumber_39 rfl (lv_at hl 2 rfl) ?_
            refine hk_get (ci := 6) (C := RX3) (T := TX3) (N := 9) (v := .ref (ad 6)) hx hb hts (fun _ h => List.mem_cons_of_mem _ (wwXc_wsX30 _ h)) hown hw 26 rfl rfl 0 (by decide) (hq _ wX_295) rfl dX3_readNumber_40 ?_
            refine lv_bipush (v := 8) hx hb dX3_readNumber_43 (by decide) ?_
            refine jx_Vv (As := [.int 8]) (rest := []) ⟨hx, hb, hml, hown, hts⟩ hZ hw hA (jx_X8_fail l hlt D t3 cI cJ ad g27 lg ar bk _ 8) (cwV 1 hts (jx_gV wwX_good wX_299 wX_255 wX_256 wX_252 wX_257) rfl rfl rfl (by decide +kernel) ⟨Nat.le_of_ble_eq_true rfl, Nat.le_of_ble_eq_true rfl⟩) 6 (ci := 11) (T := TX8) (N := 4) rfl rfl rfl hl.1 rfl (Nat.le_of_ble_eq_true rfl) dX3_readNumber_45 ⟨Nat.le_of_ble_eq_true rfl, Nat.le_of_ble_eq_true rfl⟩ (fun u46 u47 u48 u49 H locs ce q hp hw h1 h2 h3 => by obtain ⟨ht0, rfl, rfl, rfl⟩ := hp; exact kt _ _ _ _ _ _ _ _ _ _ _ ⟨(hk_frT (hk_frT hfr_g4 (by decide) h32) (by decide) ht0), rfl, rfl, rfl⟩ hw h1 h2 h3) (fun g51 l52 a53 b54 H locs hp55 hw => ?_)
            obtain ⟨h56, rfl, rfl, rfl, h60⟩ := hp55
            exact False.elim h60
  exact B1 (2147483648 - ((0 : Int32)).toInt).toNat 0 0 g ls _ _ (Int.self_le_toNat _) (ob9 (((0 : Int32)).toInt) (by decide)) hk_fr0 hw (lv_sub hl [2, 1, 0] rfl)

set_option maxHeartbeats 4000000 in
set_option maxRecDepth 100000 in
/-- X3_readDictionary on (26,) -/
theorem jx_X3_readDictionary (l : Launch) (hlt : l.stackTraces = false) (D : va_G) (t3 : Nat × Nat × Nat) (cI cJ : ClassId) (ad : Nat → Nat) (g : Nat → Int32) (lg : Nat → Int64) (ar : Nat → Nat → Int32) (bk : Nat → Int64) (sz : Nat) (y1 : Int32) : JMv l yX3_readDictionary (Cond.code yX3_readDictionary cX3_readDictionary 2 none :: wwX) { frames := 7, cells := 1, slots := 6, locals := 102 } t3 D xw cI cJ ad [.ref (ad 26), .int y1] (xw cI cJ ad g lg ar bk) sz 1 6 (fun g' lg' ar' bk' => hk_fr [17] g g' ∧ hk_fr [7] lg lg' ∧ ar = ar' ∧ bk = bk') (fun g' lg' ar' bk' => hk_fr [17] g g' ∧ hk_fr [7] lg lg' ∧ ar = ar' ∧ bk = bk') := by
  refine jx_metv (cc := cX3_readDictionary) (maxL := 2) (ret := none) rfl (by decide) rfl (Nat.le_of_ble_eq_true rfl) ?_
  intro p e s m args below meth c ls Q A hx hb hml hown hts hA hZ hw hl hQ kr kt
  have hq : ∀ w ∈ wwX, w.before args s = true := fun w h => hts w (List.mem_cons_of_mem _ h)
  have hl : lv_has ls 2 [(0, .ref (ad 26)), (1, .int y1)] := hl
  refine lv_iload_n hx hb dX3_readDictionary_0 rfl (lv_at hl 1 rfl) ?_
  refine lv_bipush (v := 40) hx hb dX3_readDictionary_1 (by decide) ?_
  refine lv_icmp_le (tgt := 15) hx hb dX3_readDictionary_3 (by decide) (fun cc1 => ?_) (fun cc1 => ?_)
  · refine lv_aload_n hx hb dX3_readDictionary_15 rfl (lv_at hl 0 rfl) ?_
    refine lv_iload_n hx hb dX3_readDictionary_16 rfl (lv_at hl 1 rfl) ?_
    refine lv_bipush (v := 40) hx hb dX3_readDictionary_17 (by decide) ?_
    have B2 : ∀  (x3 : Int64) (ls : Array Slot) (H : Heap) (locs : List Loc), hk_W D (jT cI cJ) A s H locs (xw cI cJ ad g lg ar bk) → lv_has ls 2 [] → W p l e { frames := 7, cells := 1, slots := 6, locals := 102 } s m args below meth c H locs 0 0 Q (F0 m 43 ls [.long x3, .ref (ad 26)]) := by
      intro x3 ls H locs hw hl
      refine jx_putl xw (g := g) (lg := lg) (ar := ar) (bk := bk) (x := x3) 7 (ci := 6) (C := RX3) (T := TX3) (N := 9) (ty := .long) hx hb hts (fun _ h => List.mem_cons_of_mem _ (wwXc_wsX30 _ h)) tyX3 tyX3_ok nmX3 hown hw 26 rfl rfl 8 (by decide) (hq _ wX_303) rfl (by decide +kernel) rfl rfl (Nat.le_of_ble_eq_true rfl) dX3_readDictionary_43 rfl (fun H locs l4 h_l4 hw => ?_)
      exact kr g l4 ar bk _ _ _ _ ⟨hk_fr0, (hk_frL hk_fr0 (by decide) h_l4), rfl, rfl⟩ hw dX3_readDictionary_46
    refine lv_icmp_ne (tgt := 28) hx hb dX3_readDictionary_19 (by decide) (fun cc5 => ?_) (fun cc5 => ?_)
    · refine lv_ldc2 (v := 2) hx hb hown (hq _ wX_302) dX3_readDictionary_28 ?_
      refine lv_iload_n hx hb dX3_readDictionary_31 rfl (lv_at hl 1 rfl) ?_
      refine lv_iconst (v := 1) hx hb dX3_readDictionary_32 (by decide) ?_
      refine lv_iand hx hb dX3_readDictionary_33 (jx_nm fun z6 hz6 => ?_)
      refine lv_i2l hx hb dX3_readDictionary_34 rfl (jx_nl fun z7 hz7 => ?_)
      refine lv_ladd hx hb dX3_readDictionary_35 (jx_nl fun z8 hz8 => ?_)
      have xz8 : (z8).toInt = ((2 : Int64)).toInt + (z7).toInt := (hE_impL (hE_addL hz8) (ob448 (((2 : Int64)).toInt) ((z7).toInt) ((z6).toInt) ((y1).toInt) (((40 : Int32)).toInt) (hE_i2l hz7) (hE_and 1 2 hz6 (by decide) (by decide) (by decide)) (hE_le cc1) (hE_ne cc5) (by decide) (hE_rngL (z7)) (hE_rng (z6)) (hE_rng (y1)) (by decide)))
      refine lv_iload_n hx hb dX3_readDictionary_36 rfl (lv_at hl 1 rfl) ?_
      refine lv_iconst (v := 2) hx hb dX3_readDictionary_37 (by decide) ?_
      refine lv_idiv hx hb dX3_readDictionary_38 (by decide) (jx_nm fun z9 hz9 => ?_)
      refine lv_bipush (v := 11) hx hb dX3_readDictionary_39 (by decide) ?_
      refine lv_iadd hx hb dX3_readDictionary_41 (jx_nm fun z10 hz10 => ?_)
      refine lv_lshl hx hb dX3_readDictionary_42 rfl (jx_nl fun z11 hz11 => ?_)
      exact B2 z11 ls _ _ hw (lv_sub hl [] rfl)
    · refine lv_ldc2 (v := 4294967295) hx hb hown (hq _ wX_301) dX3_readDictionary_22 ?_
      refine lv_goto (tgt := 43) hx hb dX3_readDictionary_25 (by decide) ?_
      exact B2 4294967295 ls _ _ hw (lv_sub hl [] rfl)
  · refine lv_aload_n hx hb dX3_readDictionary_6 rfl (lv_at hl 0 rfl) ?_
    refine hk_get (ci := 6) (C := RX3) (T := TX3) (N := 9) (v := .ref (ad 6)) hx hb hts (fun _ h => List.mem_cons_of_mem _ (wwXc_wsX30 _ h)) hown hw 26 rfl rfl 0 (by decide) (hq _ wX_295) rfl dX3_readDictionary_7 ?_
    refine lv_bipush (v := 8) hx hb dX3_readDictionary_10 (by decide) ?_
    refine jx_Vv (As := [.int 8]) (rest := []) ⟨hx, hb, hml, hown, hts⟩ hZ hw hA (jx_X8_fail l hlt D t3 cI cJ ad g lg ar bk _ 8) (cwV 1 hts (jx_gV wwX_good wX_299 wX_255 wX_256 wX_252 wX_257) rfl rfl rfl (by decide +kernel) ⟨Nat.le_of_ble_eq_true rfl, Nat.le_of_ble_eq_true rfl⟩) 6 (ci := 11) (T := TX8) (N := 4) rfl rfl rfl hl.1 rfl (Nat.le_of_ble_eq_true rfl) dX3_readDictionary_12 ⟨Nat.le_of_ble_eq_true rfl, Nat.le_of_ble_eq_true rfl⟩ (fun u12 u13 u14 u15 H locs ce q hp hw h1 h2 h3 => by obtain ⟨ht0, rfl, rfl, rfl⟩ := hp; exact kt _ _ _ _ _ _ _ _ _ _ _ ⟨ht0, hk_fr0, rfl, rfl⟩ hw h1 h2 h3) (fun g17 l18 a19 b20 H locs hp21 hw => ?_)
    obtain ⟨h22, rfl, rfl, rfl, h26⟩ := hp21
    exact False.elim h26

set_option maxHeartbeats 4000000 in
set_option maxRecDepth 100000 in
/-- X3_readSizes on (26,) -/
theorem jx_X3_readSizes (l : Launch) (hlt : l.stackTraces = false) (D : va_G) (t3 : Nat × Nat × Nat) (cI cJ : ClassId) (ad : Nat → Nat) (g : Nat → Int32) (lg : Nat → Int64) (ar : Nat → Nat → Int32) (bk : Nat → Int64) (sz : Nat) (hi_a0rg : hk_rg 0 255 (ar 0)) : JMv l yX3_readSizes (Cond.code yX3_readSizes cX3_readSizes 2 none :: wwX) { frames := 9, cells := 1, slots := 6, locals := 146 } t3 D xw cI cJ ad [.ref (ad 26)] (xw cI cJ ad g lg ar bk) sz 1 6 (fun g' lg' ar' bk' => hk_fr [15, 17, 50] g g' ∧ hk_fr [5, 6] lg lg' ∧ ar = ar' ∧ bk = bk') (fun g' lg' ar' bk' => hk_fr [15, 17, 50] g g' ∧ hk_fr [5, 6] lg lg' ∧ ar = ar' ∧ bk = bk') := by
  refine jx_metv (cc := cX3_readSizes) (maxL := 2) (ret := none) rfl (by decide) rfl (Nat.le_of_ble_eq_true rfl) ?_
  intro p e s m args below meth c ls Q A hx hb hml hown hts hA hZ hw hl hQ kr kt
  have hq : ∀ w ∈ wwX, w.before args s = true := fun w h => hts w (List.mem_cons_of_mem _ h)
  have hl : lv_has ls 2 [(0, .ref (ad 26))] := hl
  refine lv_aload_n hx hb dX3_readSizes_0 rfl (lv_at hl 0 rfl) ?_
  refine jx_Vi (As := []) (rest := []) ⟨hx, hb, hml, hown, hts⟩ hZ hw hA (jx_X3_nextOfHead l hlt D t3 cI cJ ad g lg ar bk _ hi_a0rg) (cwV 0 hts (jx_gV wwX_good wX_314 wX_315 wX_316 wX_307 wX_317) rfl rfl rfl (by decide +kernel) ⟨Nat.le_of_ble_eq_true rfl, Nat.le_of_ble_eq_true rfl⟩) 26 (ci := 6) (T := TX3) (N := 9) rfl rfl rfl hl.1 rfl (Nat.le_of_ble_eq_true rfl) dX3_readSizes_1 ⟨Nat.le_of_ble_eq_true rfl, Nat.le_of_ble_eq_true rfl⟩ (fun u1 u2 u3 u4 H locs ce q hp hw h1 h2 h3 => by obtain ⟨ht0, rfl, rfl, rfl⟩ := hp; exact kt _ _ _ _ _ _ _ _ _ _ _ ⟨(hk_frT hk_fr0 (by decide) ht0), hk_fr0, rfl, rfl⟩ hw h1 h2 h3) (fun r5 g6 l7 a8 b9 H locs hp10 hw => ?_)
  obtain ⟨h11, rfl, rfl, rfl⟩ := hp10
  refine lv_istore_n (lv' := [(1, .int r5), (0, .ref (ad 26))]) hx hb dX3_readSizes_4 rfl hl (by decide) rfl (fun ls hl => ?_)
  refine lv_iload_n hx hb dX3_readSizes_5 rfl (lv_at hl 0 rfl) ?_
  refine lv_bipush (v := 60) hx hb dX3_readSizes_6 (by decide) ?_
  refine lv_iand hx hb dX3_readSizes_8 (jx_nm fun z15 hz15 => ?_)
  refine lv_if_eq (tgt := 21) hx hb dX3_readSizes_9 (by decide) (fun cc16 => ?_) (fun cc16 => ?_)
  · refine lv_aload_n hx hb dX3_readSizes_21 rfl (lv_at hl 1 rfl) ?_
    refine lv_iload_n hx hb dX3_readSizes_22 rfl (lv_at hl 0 rfl) ?_
    refine lv_iconst (v := 3) hx hb dX3_readSizes_23 (by decide) ?_
    refine lv_iand hx hb dX3_readSizes_24 (jx_nm fun z17 hz17 => ?_)
    refine lv_iconst (v := 1) hx hb dX3_readSizes_25 (by decide) ?_
    refine lv_iadd hx hb dX3_readSizes_26 (jx_nm fun z18 hz18 => ?_)
    have xz18 : (z18).toInt = (z17).toInt + ((1 : Int32)).toInt := (hE_imp (hE_add hz18) (ob449 ((z17).toInt) (((1 : Int32)).toInt) ((r5).toInt) (hE_and 2 4 hz17 (by decide) (by decide) (by decide)) (hE_rng (z17)) (by decide) (hE_rng (r5))))
    refine jx_putg xw (g := g6) (lg := lg) (ar := ar) (bk := bk) (x := z18) 50 (ci := 6) (C := RX3) (T := TX3) (N := 9) (ty := .int) hx hb hts (fun _ h => List.mem_cons_of_mem _ (wwXc_wsX30 _ h)) tyX3 tyX3_ok nmX3 hown hw 26 rfl rfl 3 (by decide) (hq _ wX_322) rfl (by decide +kernel) rfl rfl (Nat.le_of_ble_eq_true rfl) dX3_readSizes_27 rfl (fun H locs g19 h_g19 hw => ?_)
    refine lv_aload_n hx hb dX3_readSizes_30 rfl (lv_at hl 1 rfl) ?_
    refine lv_iload_n hx hb dX3_readSizes_31 rfl (lv_at hl 0 rfl) ?_
    refine lv_bipush (v := 64) hx hb dX3_readSizes_32 (by decide) ?_
    refine lv_iand hx hb dX3_readSizes_34 (jx_nm fun z20 hz20 => ?_)
    have B21 : ∀  (x22 : Int64) (g23 : Nat → Int32) (ls : Array Slot) (H : Heap) (locs : List Loc), (hk_fr [15, 17] g19 g23) → hk_W D (jT cI cJ) A s H locs (xw cI cJ ad g23 lg ar bk) → lv_has ls 2 [(0, .ref (ad 26)), (1, .int r5)] → W p l e { frames := 9, cells := 1, slots := 6, locals := 146 } s m args below meth c H locs 0 0 Q (F0 m 48 ls [.long x22, .ref (ad 26)]) := by
      intro x22 g23 ls H locs hfr_g23 hw hl
      refine jx_putl xw (g := g23) (lg := lg) (ar := ar) (bk := bk) (x := x22) 5 (ci := 6) (C := RX3) (T := TX3) (N := 9) (ty := .long) hx hb hts (fun _ h => List.mem_cons_of_mem _ (wwXc_wsX30 _ h)) tyX3 tyX3_ok nmX3 hown hw 26 rfl rfl 6 (by decide) (hq _ wX_334) rfl (by decide +kernel) rfl rfl (Nat.le_of_ble_eq_true rfl) dX3_readSizes_48 rfl (fun H locs l24 h_l24 hw => ?_)
      refine lv_aload_n hx hb dX3_readSizes_51 rfl (lv_at hl 0 rfl) ?_
      refine lv_iload_n hx hb dX3_readSizes_52 rfl (lv_at hl 1 rfl) ?_
      refine lv_sipush (v := 128) hx hb dX3_readSizes_53 (by decide) ?_
      refine lv_iand hx hb dX3_readSizes_56 (jx_nm fun z25 hz25 => ?_)
      have B26 : ∀  (x27 : Int64) (g28 : Nat → Int32) (ls : Array Slot) (H : Heap) (locs : List Loc), (hk_fr [15, 17] g23 g28) → hk_W D (jT cI cJ) A s H locs (xw cI cJ ad g28 l24 ar bk) → lv_has ls 2 [] → W p l e { frames := 9, cells := 1, slots := 6, locals := 146 } s m args below meth c H locs 0 0 Q (F0 m 70 ls [.long x27, .ref (ad 26)]) := by
        intro x27 g28 ls H locs hfr_g28 hw hl
        refine jx_putl xw (g := g28) (lg := l24) (ar := ar) (bk := bk) (x := x27) 6 (ci := 6) (C := RX3) (T := TX3) (N := 9) (ty := .long) hx hb hts (fun _ h => List.mem_cons_of_mem _ (wwXc_wsX30 _ h)) tyX3 tyX3_ok nmX3 hown hw 26 rfl rfl 7 (by decide) (hq _ wX_335) rfl (by decide +kernel) rfl rfl (Nat.le_of_ble_eq_true rfl) dX3_readSizes_70 rfl (fun H locs l29 h_l29 hw => ?_)
        exact kr g28 l29 ar bk _ _ _ _ ⟨(hk_frT (hk_frT (hk_frG (hk_frT hk_fr0 (by decide) h11) (by decide) h_g19) (by decide) hfr_g23) (by decide) hfr_g28), (hk_frL (hk_frL hk_fr0 (by decide) h_l24) (by decide) h_l29), rfl, rfl⟩ hw dX3_readSizes_73
      refine lv_if_eq (tgt := 67) hx hb dX3_readSizes_57 (by decide) (fun cc30 => ?_) (fun cc30 => ?_)
      · refine lv_ldc2 (v := (-1)) hx hb hown (hq _ wX_333) dX3_readSizes_67 ?_
        exact B26 (-1) g23 ls _ _ hk_fr0 hw (lv_sub hl [] rfl)
      · refine lv_aload_n hx hb dX3_readSizes_60 rfl (lv_at hl 0 rfl) ?_
        refine jx_Vl (As := []) (rest := [.ref (ad 26)]) ⟨hx, hb, hml, hown, hts⟩ hZ hw hA (jx_X3_readNumber l hlt D t3 cI cJ ad g23 l24 ar bk _ hi_a0rg) (cwV 0 hts (jx_gV wwX_good wX_304 wX_305 wX_306 wX_307 wX_308) rfl rfl rfl (by decide +kernel) ⟨Nat.le_of_ble_eq_true rfl, Nat.le_of_ble_eq_true rfl⟩) 26 (ci := 6) (T := TX3) (N := 9) rfl rfl rfl hl.1 rfl (Nat.le_of_ble_eq_true rfl) dX3_readSizes_61 ⟨Nat.le_of_ble_eq_true rfl, Nat.le_of_ble_eq_true rfl⟩ (fun u31 u32 u33 u34 H locs ce q hp hw h1 h2 h3 => by obtain ⟨ht0, rfl, rfl, rfl⟩ := hp; exact kt _ _ _ _ _ _ _ _ _ _ _ ⟨(hk_frT (hk_frT (hk_frG (hk_frT hk_fr0 (by decide) h11) (by decide) h_g19) (by decide) hfr_g23) (by decide) ht0), (hk_frL hk_fr0 (by decide) h_l24), rfl, rfl⟩ hw h1 h2 h3) (fun r35 g36 l37 a38 b39 H locs hp40 hw => ?_)
        obtain ⟨h41, rfl, rfl, rfl⟩ := hp40
        refine lv_goto (tgt := 70) hx hb dX3_readSizes_64 (by decide) ?_
        exact B26 r35 g36 ls _ _ h41 hw (lv_sub hl [] rfl)
    refine lv_if_eq (tgt := 45) hx hb dX3_readSizes_35 (by decide) (fun cc45 => ?_) (fun cc45 => ?_)
    · refine lv_ldc2 (v := (-1)) hx hb hown (hq _ wX_333) dX3_readSizes_45 ?_
      exact B21 (-1) g19 ls _ _ hk_fr0 hw (lv_sub hl [1, 0] rfl)
    · refine lv_aload_n hx hb dX3_readSizes_38 rfl (lv_at hl 1 rfl) ?_
      refine jx_Vl (As := []) (rest := [.ref (ad 26)]) ⟨hx, hb, hml, hown, hts⟩ hZ hw hA (jx_X3_readNumber l hlt D t3 cI cJ ad g19 lg ar bk _ hi_a0rg) (cwV 0 hts (jx_gV wwX_good wX_304 wX_305 wX_306 wX_307 wX_308) rfl rfl rfl (by decide +kernel) ⟨Nat.le_of_ble_eq_true rfl, Nat.le_of_ble_eq_true rfl⟩) 26 (ci := 6) (T := TX3) (N := 9) rfl rfl rfl hl.1 rfl (Nat.le_of_ble_eq_true rfl) dX3_readSizes_39 ⟨Nat.le_of_ble_eq_true rfl, Nat.le_of_ble_eq_true rfl⟩ (fun u46 u47 u48 u49 H locs ce q hp hw h1 h2 h3 => by obtain ⟨ht0, rfl, rfl, rfl⟩ := hp; exact kt _ _ _ _ _ _ _ _ _ _ _ ⟨(hk_frT (hk_frG (hk_frT hk_fr0 (by decide) h11) (by decide) h_g19) (by decide) ht0), hk_fr0, rfl, rfl⟩ hw h1 h2 h3) (fun r50 g51 l52 a53 b54 H locs hp55 hw => ?_)
      obtain ⟨h56, rfl, rfl, rfl⟩ := hp55
      refine lv_goto (tgt := 48) hx hb dX3_readSizes_42 (by decide) ?_
      exact B21 r50 g51 ls _ _ h56 hw (lv_sub hl [1, 0] rfl)
  · refine lv_aload_n hx hb dX3_readSizes_12 rfl (lv_at hl 1 rfl) ?_
    refine hk_get (ci := 6) (C := RX3) (T := TX3) (N := 9) (v := .ref (ad 6)) hx hb hts (fun _ h => List.mem_cons_of_mem _ (wwXc_wsX30 _ h)) hown hw 26 rfl rfl 0 (by decide) (hq _ wX_295) rfl dX3_readSizes_13 ?_
    refine lv_bipush (v := 8) hx hb dX3_readSizes_16 (by decide) ?_
    refine jx_Vv (As := [.int 8]) (rest := []) ⟨hx, hb, hml, hown, hts⟩ hZ hw hA (jx_X8_fail l hlt D t3 cI cJ ad g6 lg ar bk _ 8) (cwV 1 hts (jx_gV wwX_good wX_299 wX_255 wX_256 wX_252 wX_257) rfl rfl rfl (by decide +kernel) ⟨Nat.le_of_ble_eq_true rfl, Nat.le_of_ble_eq_true rfl⟩) 6 (ci := 11) (T := TX8) (N := 4) rfl rfl rfl hl.1 rfl (Nat.le_of_ble_eq_true rfl) dX3_readSizes_18 ⟨Nat.le_of_ble_eq_true rfl, Nat.le_of_ble_eq_true rfl⟩ (fun u60 u61 u62 u63 H locs ce q hp hw h1 h2 h3 => by obtain ⟨ht0, rfl, rfl, rfl⟩ := hp; exact kt _ _ _ _ _ _ _ _ _ _ _ ⟨(hk_frT (hk_frT hk_fr0 (by decide) h11) (by decide) ht0), hk_fr0, rfl, rfl⟩ hw h1 h2 h3) (fun g65 l66 a67 b68 H locs hp69 hw => ?_)
    obtain ⟨h70, rfl, rfl, rfl, h74⟩ := hp69
    exact False.elim h74

set_option maxHeartbeats 4000000 in
set_option maxRecDepth 100000 in
/-- X3_readFilter on (26,) -/
theorem jx_X3_readFilter (l : Launch) (hlt : l.stackTraces = false) (D : va_G) (t3 : Nat × Nat × Nat) (cI cJ : ClassId) (ad : Nat → Nat) (g : Nat → Int32) (lg : Nat → Int64) (ar : Nat → Nat → Int32) (bk : Nat → Int64) (sz : Nat) (y1 : Int32) (y2 : Int32) (hr0 : 0 ≤ (y1).toInt ∧ (y1).toInt ≤ 3) (hi_a0rg : hk_rg 0 255 (ar 0)) : JMv l yX3_readFilter (Cond.code yX3_readFilter cX3_readFilter 6 none :: wwX) { frames := 9, cells := 1, slots := 6, locals := 146 } t3 D xw cI cJ ad [.ref (ad 26), .int y1, .int y2] (xw cI cJ ad g lg ar bk) sz 1 6 (fun g' lg' ar' bk' => hk_fr [15, 17] g g' ∧ hk_fr [7] lg lg' ∧ hk_fr [13, 14] ar ar' ∧ bk = bk') (fun g' lg' ar' bk' => hk_fr [15, 17] g g' ∧ hk_fr [7] lg lg' ∧ hk_fr [13, 14] ar ar' ∧ bk = bk') := by
  refine jx_metv (cc := cX3_readFilter) (maxL := 6) (ret := none) rfl (by decide) rfl (Nat.le_of_ble_eq_true rfl) ?_
  intro p e s m args below meth c ls Q A hx hb hml hown hts hA hZ hw hl hQ kr kt
  have hq : ∀ w ∈ wwX, w.before args s = true := fun w h => hts w (List.mem_cons_of_mem _ h)
  have hl : lv_has ls 6 [(0, .ref (ad 26)), (1, .int y1), (2, .int y2)] := hl
  refine lv_aload_n hx hb dX3_readFilter_0 rfl (lv_at hl 0 rfl) ?_
  refine jx_Vl (As := []) (rest := []) ⟨hx, hb, hml, hown, hts⟩ hZ hw hA (jx_X3_readNumber l hlt D t3 cI cJ ad g lg ar bk _ hi_a0rg) (cwV 0 hts (jx_gV wwX_good wX_304 wX_305 wX_306 wX_307 wX_308) rfl rfl rfl (by decide +kernel) ⟨Nat.le_of_ble_eq_true rfl, Nat.le_of_ble_eq_true rfl⟩) 26 (ci := 6) (T := TX3) (N := 9) rfl rfl rfl hl.1 rfl (Nat.le_of_ble_eq_true rfl) dX3_readFilter_1 ⟨Nat.le_of_ble_eq_true rfl, Nat.le_of_ble_eq_true rfl⟩ (fun u1 u2 u3 u4 H locs ce q hp hw h1 h2 h3 => by obtain ⟨ht0, rfl, rfl, rfl⟩ := hp; exact kt _ _ _ _ _ _ _ _ _ _ _ ⟨ht0, hk_fr0, hk_fr0, rfl⟩ hw h1 h2 h3) (fun r5 g6 l7 a8 b9 H locs hp10 hw => ?_)
  obtain ⟨h11, rfl, rfl, rfl⟩ := hp10
  refine lv_lstore_n (lv' := [(3, .long r5), (0, .ref (ad 26)), (1, .int y1), (2, .int y2)]) hx hb dX3_readFilter_4 rfl hl (by decide) rfl (fun ls hl => ?_)
  refine lv_iload_n hx hb dX3_readFilter_5 rfl (lv_at hl 3 rfl) ?_
  have B15 : ∀  (ls : Array Slot) (H : Heap) (locs : List Loc), hk_W D (jT cI cJ) A s H locs (xw cI cJ ad g6 lg ar bk) → lv_has ls 6 [(0, .ref (ad 26)), (1, .int y1), (2, .int y2), (3, .long r5)] → W p l e { frames := 9, cells := 1, slots := 6, locals := 146 } s m args below meth c H locs 0 0 Q (F0 m 45 ls []) := by
    intro ls H locs hw hl
    refine lv_lload_n hx hb dX3_readFilter_45 rfl (lv_at hl 3 rfl) ?_
    refine lv_ldc2 (v := 7) hx hb hown (hq _ wX_311) dX3_readFilter_46 ?_
    have B16 : ∀  (x17 : Int32) (ls : Array Slot) (H : Heap) (locs : List Loc), (0 ≤ (x17).toInt ∧ (x17).toInt ≤ 1) → hk_W D (jT cI cJ) A s H locs (xw cI cJ ad g6 lg ar bk) → lv_has ls 6 [(0, .ref (ad 26)), (1, .int y1), (2, .int y2), (3, .long r5)] → W p l e { frames := 9, cells := 1, slots := 6, locals := 146 } s m args below meth c H locs 0 0 Q (F0 m 58 ls [.int x17]) := by
      intro x17 ls H locs hf_B16_0 hw hl
      refine lv_istore (lv' := [(5, .int x17), (0, .ref (ad 26)), (1, .int y1), (2, .int y2), (3, .long r5)]) hx hb dX3_readFilter_58 hl (by decide) rfl (fun ls hl => ?_)
      refine lv_aload_n hx hb dX3_readFilter_60 rfl (lv_at hl 1 rfl) ?_
      refine jx_Vl (As := []) (rest := []) ⟨hx, hb, hml, hown, hts⟩ hZ hw hA (jx_X3_readNumber l hlt D t3 cI cJ ad g6 lg ar bk _ hi_a0rg) (cwV 0 hts (jx_gV wwX_good wX_304 wX_305 wX_306 wX_307 wX_308) rfl rfl rfl (by decide +kernel) ⟨Nat.le_of_ble_eq_true rfl, Nat.le_of_ble_eq_true rfl⟩) 26 (ci := 6) (T := TX3) (N := 9) rfl rfl rfl hl.1 rfl (Nat.le_of_ble_eq_true rfl) dX3_readFilter_61 ⟨Nat.le_of_ble_eq_true rfl, Nat.le_of_ble_eq_true rfl⟩ (fun u18 u19 u20 u21 H locs ce q hp hw h1 h2 h3 => by obtain ⟨ht0, rfl, rfl, rfl⟩ := hp; exact kt _ _ _ _ _ _ _ _ _ _ _ ⟨(hk_frT h11 (by decide) ht0), hk_fr0, hk_fr0, rfl⟩ hw h1 h2 h3) (fun r22 g23 l24 a25 b26 H locs hp27 hw => ?_)
      obtain ⟨h28, rfl, rfl, rfl⟩ := hp27
      refine lv_iload hx hb dX3_readFilter_64 (lv_at hl 0 rfl) ?_
      refine lv_i2l hx hb dX3_readFilter_66 rfl (jx_nl fun z32 hz32 => ?_)
      refine hk_lcmp_eq (tgt := 80) hx hb dX3_readFilter_67 dX3_readFilter_68 (by decide) (fun cc33 => ?_) (fun cc33 => ?_)
      · refine lv_aload_n hx hb dX3_readFilter_80 rfl (lv_at hl 1 rfl) ?_
        refine hk_get (ci := 6) (C := RX3) (T := TX3) (N := 9) (v := .ref (ad 27)) hx hb hts (fun _ h => List.mem_cons_of_mem _ (wwXc_wsX30 _ h)) hown hw 26 rfl rfl 1 (by decide) (hq _ wX_312) rfl dX3_readFilter_81 ?_
        refine lv_iload_n hx hb dX3_readFilter_84 rfl (lv_at hl 2 rfl) ?_
        refine lv_lload_n hx hb dX3_readFilter_85 rfl (lv_at hl 4 rfl) ?_
        refine lv_l2i hx hb dX3_readFilter_86 rfl (jx_nm fun z34 hz34 => ?_)
        refine jx_iast xw (g := g23) (lg := lg) (ar := ar) (bk := bk) 13 hx hb hw 27 0 rfl rfl (hE_in (n := 4) (ob450 ((y1).toInt) hr0 (hE_rng (y1)))) dX3_readFilter_87 rfl (fun H locs a35 h_a35 hw => ?_)
        refine lv_aload_n hx hb dX3_readFilter_88 rfl (lv_at hl 1 rfl) ?_
        refine hk_get (ci := 6) (C := RX3) (T := TX3) (N := 9) (v := .ref (ad 28)) hx hb hts (fun _ h => List.mem_cons_of_mem _ (wwXc_wsX30 _ h)) hown hw 26 rfl rfl 2 (by decide) (hq _ wX_313) rfl dX3_readFilter_89 ?_
        refine lv_iload_n hx hb dX3_readFilter_92 rfl (lv_at hl 2 rfl) ?_
        refine lv_iload hx hb dX3_readFilter_93 (lv_at hl 0 rfl) ?_
        have B36 : ∀  (x37 : Int32) (g38 : Nat → Int32) (ls : Array Slot) (H : Heap) (locs : List Loc), (hk_fr [15, 17] g23 g38) → hk_W D (jT cI cJ) A s H locs (xw cI cJ ad g38 lg a35 bk) → lv_has ls 6 [(0, .ref (ad 26)), (1, .int y1), (2, .int y2)] → W p l e { frames := 9, cells := 1, slots := 6, locals := 146 } s m args below meth c H locs 0 0 Q (F0 m 106 ls [.int x37, .int y1, .ref (ad 28)]) := by
          intro x37 g38 ls H locs hfr_g38 hw hl
          refine jx_iast xw (g := g38) (lg := lg) (ar := a35) (bk := bk) 14 hx hb hw 28 0 rfl rfl (hE_in (n := 4) (ob450 ((y1).toInt) hr0 (hE_rng (y1)))) dX3_readFilter_106 rfl (fun H locs a39 h_a39 hw => ?_)
          have hr40 : hk_rg 0 255 (a39 0) := (hk_pE (P := hk_rg 0 255) (hk_pE (P := hk_rg 0 255) hi_a0rg (hk_upaN h_a35 0 rfl)) (hk_upaN h_a39 0 rfl))
          refine lv_iload_n hx hb dX3_readFilter_107 rfl (lv_at hl 2 rfl) ?_
          refine lv_if_eq (tgt := 121) hx hb dX3_readFilter_108 (by decide) (fun cc41 => ?_) (fun cc41 => ?_)
          · exact kr g38 lg a39 bk _ _ _ _ ⟨(hk_frT (hk_frT h11 (by decide) h28) (by decide) hfr_g38), hk_fr0, (hk_frA (hk_frA hk_fr0 (by decide) h_a35) (by decide) h_a39), rfl⟩ hw dX3_readFilter_121
          · refine lv_aload_n hx hb dX3_readFilter_111 rfl (lv_at hl 0 rfl) ?_
            refine lv_aload_n hx hb dX3_readFilter_112 rfl (lv_at hl 0 rfl) ?_
            refine hk_get (ci := 6) (C := RX3) (T := TX3) (N := 9) (v := .ref (ad 28)) hx hb hts (fun _ h => List.mem_cons_of_mem _ (wwXc_wsX30 _ h)) hown hw 26 rfl rfl 2 (by decide) (hq _ wX_313) rfl dX3_readFilter_113 ?_
            refine lv_iload_n hx hb dX3_readFilter_116 rfl (lv_at hl 1 rfl) ?_
            refine jx_iald hx hb hw 28 0 rfl rfl (hE_in (n := 4) (ob450 ((y1).toInt) hr0 (hE_rng (y1)))) dX3_readFilter_117 (fun z42 hz42 => ?_)
            refine jx_Vv (As := [.int z42]) (rest := []) ⟨hx, hb, hml, hown, hts⟩ hZ hw hA (jx_X3_readDictionary l hlt D t3 cI cJ ad g38 lg a39 bk _ z42) (cwV 1 hts (jx_gV wwX_good wX_318 wX_319 wX_320 wX_307 wX_321) rfl rfl rfl (by decide +kernel) ⟨Nat.le_of_ble_eq_true rfl, Nat.le_of_ble_eq_true rfl⟩) 26 (ci := 6) (T := TX3) (N := 9) rfl rfl rfl hl.1 rfl (Nat.le_of_ble_eq_true rfl) dX3_readFilter_118 ⟨Nat.le_of_ble_eq_true rfl, Nat.le_of_ble_eq_true rfl⟩ (fun u43 u44 u45 u46 H locs ce q hp hw h1 h2 h3 => by obtain ⟨ht0, ht1, rfl, rfl⟩ := hp; exact kt _ _ _ _ _ _ _ _ _ _ _ ⟨(hk_frT (hk_frT (hk_frT h11 (by decide) h28) (by decide) hfr_g38) (by decide) ht0), ht1, (hk_frA (hk_frA hk_fr0 (by decide) h_a35) (by decide) h_a39), rfl⟩ hw h1 h2 h3) (fun g48 l49 a50 b51 H locs hp52 hw => ?_)
            obtain ⟨h53, h54, rfl, rfl⟩ := hp52
            exact kr g48 l49 a39 bk _ _ _ _ ⟨(hk_frT (hk_frT (hk_frT h11 (by decide) h28) (by decide) hfr_g38) (by decide) h53), h54, (hk_frA (hk_frA hk_fr0 (by decide) h_a35) (by decide) h_a39), rfl⟩ hw dX3_readFilter_121
        refine lv_if_le (tgt := 105) hx hb dX3_readFilter_95 (by decide) (fun cc57 => ?_) (fun cc57 => ?_)
        · refine lv_iconst (v := 0) hx hb dX3_readFilter_105 (by decide) ?_
          exact B36 0 g23 ls _ _ hk_fr0 hw (lv_sub hl [1, 2, 3] rfl)
        · refine lv_aload_n hx hb dX3_readFilter_98 rfl (lv_at hl 1 rfl) ?_
          refine jx_Vi (As := []) (rest := [.int y1, .ref (ad 28)]) ⟨hx, hb, hml, hown, hts⟩ hZ hw hA (jx_X3_nextOfHead l hlt D t3 cI cJ ad g23 lg a35 bk _ (hk_pE (P := hk_rg 0 255) hi_a0rg (hk_upaN h_a35 0 rfl))) (cwV 0 hts (jx_gV wwX_good wX_314 wX_315 wX_316 wX_307 wX_317) rfl rfl rfl (by decide +kernel) ⟨Nat.le_of_ble_eq_true rfl, Nat.le_of_ble_eq_true rfl⟩) 26 (ci := 6) (T := TX3) (N := 9) rfl rfl rfl hl.1 rfl (Nat.le_of_ble_eq_true rfl) dX3_readFilter_99 ⟨Nat.le_of_ble_eq_true rfl, Nat.le_of_ble_eq_true rfl⟩ (fun u58 u59 u60 u61 H locs ce q hp hw h1 h2 h3 => by obtain ⟨ht0, rfl, rfl, rfl⟩ := hp; exact kt _ _ _ _ _ _ _ _ _ _ _ ⟨(hk_frT (hk_frT h11 (by decide) h28) (by decide) ht0), hk_fr0, (hk_frA hk_fr0 (by decide) h_a35), rfl⟩ hw h1 h2 h3) (fun r62 g63 l64 a65 b66 H locs hp67 hw => ?_)
          obtain ⟨h68, rfl, rfl, rfl⟩ := hp67
          refine lv_goto (tgt := 106) hx hb dX3_readFilter_102 (by decide) ?_
          exact B36 r62 g63 ls _ _ h68 hw (lv_sub hl [1, 2, 3] rfl)
      · refine lv_aload_n hx hb dX3_readFilter_71 rfl (lv_at hl 1 rfl) ?_
        refine hk_get (ci := 6) (C := RX3) (T := TX3) (N := 9) (v := .ref (ad 6)) hx hb hts (fun _ h => List.mem_cons_of_mem _ (wwXc_wsX30 _ h)) hown hw 26 rfl rfl 0 (by decide) (hq _ wX_295) rfl dX3_readFilter_72 ?_
        refine lv_bipush (v := 8) hx hb dX3_readFilter_75 (by decide) ?_
        refine jx_Vv (As := [.int 8]) (rest := []) ⟨hx, hb, hml, hown, hts⟩ hZ hw hA (jx_X8_fail l hlt D t3 cI cJ ad g23 lg ar bk _ 8) (cwV 1 hts (jx_gV wwX_good wX_299 wX_255 wX_256 wX_252 wX_257) rfl rfl rfl (by decide +kernel) ⟨Nat.le_of_ble_eq_true rfl, Nat.le_of_ble_eq_true rfl⟩) 6 (ci := 11) (T := TX8) (N := 4) rfl rfl rfl hl.1 rfl (Nat.le_of_ble_eq_true rfl) dX3_readFilter_77 ⟨Nat.le_of_ble_eq_true rfl, Nat.le_of_ble_eq_true rfl⟩ (fun u72 u73 u74 u75 H locs ce q hp hw h1 h2 h3 => by obtain ⟨ht0, rfl, rfl, rfl⟩ := hp; exact kt _ _ _ _ _ _ _ _ _ _ _ ⟨(hk_frT (hk_frT h11 (by decide) h28) (by decide) ht0), hk_fr0, hk_fr0, rfl⟩ hw h1 h2 h3) (fun g77 l78 a79 b80 H locs hp81 hw => ?_)
        obtain ⟨h82, rfl, rfl, rfl, h86⟩ := hp81
        exact False.elim h86
    refine hk_lcmp_ne (tgt := 57) hx hb dX3_readFilter_49 dX3_readFilter_50 (by decide) (fun cc87 => ?_) (fun cc87 => ?_)
    · refine lv_iconst (v := 1) hx hb dX3_readFilter_57 (by decide) ?_
      exact B16 1 ls _ _ (ob49 (((1 : Int32)).toInt) (by decide)) hw (lv_sub hl [0, 1, 2, 3] rfl)
    · refine lv_iconst (v := 0) hx hb dX3_readFilter_53 (by decide) ?_
      refine lv_goto (tgt := 58) hx hb dX3_readFilter_54 (by decide) ?_
      exact B16 0 ls _ _ (ob48 (((0 : Int32)).toInt) (by decide)) hw (lv_sub hl [0, 1, 2, 3] rfl)
  have B88 : ∀  (ls : Array Slot) (H : Heap) (locs : List Loc), hk_W D (jT cI cJ) A s H locs (xw cI cJ ad g6 lg ar bk) → lv_has ls 6 [(0, .ref (ad 26))] → W p l e { frames := 9, cells := 1, slots := 6, locals := 146 } s m args below meth c H locs 0 0 Q (F0 m 36 ls []) := by
    intro ls H locs hw hl
    refine lv_aload_n hx hb dX3_readFilter_36 rfl (lv_at hl 0 rfl) ?_
    refine hk_get (ci := 6) (C := RX3) (T := TX3) (N := 9) (v := .ref (ad 6)) hx hb hts (fun _ h => List.mem_cons_of_mem _ (wwXc_wsX30 _ h)) hown hw 26 rfl rfl 0 (by decide) (hq _ wX_295) rfl dX3_readFilter_37 ?_
    refine lv_bipush (v := 8) hx hb dX3_readFilter_40 (by decide) ?_
    refine jx_Vv (As := [.int 8]) (rest := []) ⟨hx, hb, hml, hown, hts⟩ hZ hw hA (jx_X8_fail l hlt D t3 cI cJ ad g6 lg ar bk _ 8) (cwV 1 hts (jx_gV wwX_good wX_299 wX_255 wX_256 wX_252 wX_257) rfl rfl rfl (by decide +kernel) ⟨Nat.le_of_ble_eq_true rfl, Nat.le_of_ble_eq_true rfl⟩) 6 (ci := 11) (T := TX8) (N := 4) rfl rfl rfl hl.1 rfl (Nat.le_of_ble_eq_true rfl) dX3_readFilter_42 ⟨Nat.le_of_ble_eq_true rfl, Nat.le_of_ble_eq_true rfl⟩ (fun u89 u90 u91 u92 H locs ce q hp hw h1 h2 h3 => by obtain ⟨ht0, rfl, rfl, rfl⟩ := hp; exact kt _ _ _ _ _ _ _ _ _ _ _ ⟨(hk_frT h11 (by decide) ht0), hk_fr0, hk_fr0, rfl⟩ hw h1 h2 h3) (fun g94 l95 a96 b97 H locs hp98 hw => ?_)
    obtain ⟨h99, rfl, rfl, rfl, h103⟩ := hp98
    exact False.elim h103
  refine lv_if_eq (tgt := 20) hx hb dX3_readFilter_6 (by decide) (fun cc104 => ?_) (fun cc104 => ?_)
  · refine lv_lload_n hx hb dX3_readFilter_20 rfl (lv_at hl 0 rfl) ?_
    refine lv_ldc2 (v := 3) hx hb hown (hq _ wX_310) dX3_readFilter_21 ?_
    refine hk_lcmp_eq (tgt := 45) hx hb dX3_readFilter_24 dX3_readFilter_25 (by decide) (fun cc105 => ?_) (fun cc105 => ?_)
    · exact B15 ls _ _ hw (lv_sub hl [1, 2, 3, 0] rfl)
    · refine lv_lload_n hx hb dX3_readFilter_28 rfl (lv_at hl 0 rfl) ?_
      refine lv_ldc2 (v := 7) hx hb hown (hq _ wX_311) dX3_readFilter_29 ?_
      refine hk_lcmp_eq (tgt := 45) hx hb dX3_readFilter_32 dX3_readFilter_33 (by decide) (fun cc106 => ?_) (fun cc106 => ?_)
      · exact B15 ls _ _ hw (lv_sub hl [1, 2, 3, 0] rfl)
      · exact B88 ls _ _ hw (lv_sub hl [1] rfl)
  · refine lv_lload_n hx hb dX3_readFilter_9 rfl (lv_at hl 0 rfl) ?_
    refine lv_ldc2 (v := 33) hx hb hown (hq _ wX_309) dX3_readFilter_10 ?_
    refine hk_lcmp_eq (tgt := 45) hx hb dX3_readFilter_13 dX3_readFilter_14 (by decide) (fun cc107 => ?_) (fun cc107 => ?_)
    · exact B15 ls _ _ hw (lv_sub hl [1, 2, 3, 0] rfl)
    · refine lv_goto (tgt := 36) hx hb dX3_readFilter_17 (by decide) ?_
      exact B88 ls _ _ hw (lv_sub hl [1] rfl)

set_option maxHeartbeats 4000000 in
set_option maxRecDepth 100000 in
/-- X3_readFilters on (26,) -/
theorem jx_X3_readFilters (l : Launch) (hlt : l.stackTraces = false) (D : va_G) (t3 : Nat × Nat × Nat) (cI cJ : ClassId) (ad : Nat → Nat) (g : Nat → Int32) (lg : Nat → Int64) (ar : Nat → Nat → Int32) (bk : Nat → Int64) (sz : Nat) (hi_a0rg : hk_rg 0 255 (ar 0)) : JMv l yX3_readFilters (Cond.code yX3_readFilters cX3_readFilters 2 none :: wwX) { frames := 10, cells := 1, slots := 6, locals := 171 } t3 D xw cI cJ ad [.ref (ad 26)] (xw cI cJ ad g lg ar bk) sz 1 6 (fun g' lg' ar' bk' => hk_fr [15, 17] g g' ∧ hk_fr [7] lg lg' ∧ hk_fr [13, 14] ar ar' ∧ bk = bk') (fun g' lg' ar' bk' => hk_fr [15, 17] g g' ∧ hk_fr [7] lg lg' ∧ hk_fr [13, 14] ar ar' ∧ bk = bk') := by
  refine jx_metv (cc := cX3_readFilters) (maxL := 2) (ret := none) rfl (by decide) rfl (Nat.le_of_ble_eq_true rfl) ?_
  intro p e s m args below meth c ls Q A hx hb hml hown hts hA hZ hw hl hQ kr kt
  have hq : ∀ w ∈ wwX, w.before args s = true := fun w h => hts w (List.mem_cons_of_mem _ h)
  have hl : lv_has ls 2 [(0, .ref (ad 26))] := hl
  refine lv_iconst (v := 0) hx hb dX3_readFilters_0 (by decide) ?_
  refine lv_istore_n (lv' := [(1, .int 0), (0, .ref (ad 26))]) hx hb dX3_readFilters_1 rfl hl (by decide) rfl (fun ls hl => ?_)
  have B1 : ∀ (k6 : Nat) (x2 : Int32) (g3 : Nat → Int32) (l4 : Nat → Int64) (a5 : Nat → Nat → Int32) (ls : Array Slot) (H : Heap) (locs : List Loc), (2147483648 - (x2).toInt ≤ (k6 : Int)) → (0 ≤ (x2).toInt) → (hk_fr [15, 17] g g3) → (hk_fr [7] lg l4) → (hk_fr [13, 14] ar a5) → hk_W D (jT cI cJ) A s H locs (xw cI cJ ad g3 l4 a5 bk) → lv_has ls 2 [(0, .ref (ad 26)), (1, .int x2)] → W p l e { frames := 10, cells := 1, slots := 6, locals := 171 } s m args below meth c H locs 0 0 Q (F0 m 2 ls []) := by
    intro k6
    induction k6 with
    | zero =>
      intro x2 g3 l4 a5 ls H locs hrk_B1 hf_B1_0 hfr_g3 hfr_l4 hfr_a5 hw hl
      exact False.elim (hk_no0 (0 * (x2).toInt) (ob5 ((x2).toInt) hf_B1_0 hrk_B1 (hE_rng (x2))) (by simp))
    | succ k6 ih_B1 =>
      intro x2 g3 l4 a5 ls H locs hrk_B1 hf_B1_0 hfr_g3 hfr_l4 hfr_a5 hw hl
      have hrk_B1 := hk_rk hrk_B1
      refine lv_iload_n hx hb dX3_readFilters_2 rfl (lv_at hl 1 rfl) ?_
      refine lv_aload_n hx hb dX3_readFilters_3 rfl (lv_at hl 0 rfl) ?_
      have e_g3_50 : g3 50 = (g 50) := (hfr_g3 50 rfl)
      refine hk_get (ci := 6) (C := RX3) (T := TX3) (N := 9) (v := .int (g 50)) hx hb hts (fun _ h => List.mem_cons_of_mem _ (wwXc_wsX30 _ h)) hown hw 26 rfl rfl 3 (by decide) (hq _ wX_322) (congrArg (fun z => some (Value.int z)) e_g3_50) dX3_readFilters_4 ?_
      refine lv_icmp_ge (tgt := 38) hx hb dX3_readFilters_7 (by decide) (fun cc7 => ?_) (fun cc7 => ?_)
      · exact kr g3 l4 a5 bk _ _ _ _ ⟨hfr_g3, hfr_l4, hfr_a5, rfl⟩ hw dX3_readFilters_38
      · refine lv_aload_n hx hb dX3_readFilters_10 rfl (lv_at hl 0 rfl) ?_
        refine lv_iload_n hx hb dX3_readFilters_11 rfl (lv_at hl 1 rfl) ?_
        refine lv_iconst (v := 3) hx hb dX3_readFilters_12 (by decide) ?_
        refine lv_iand hx hb dX3_readFilters_13 (jx_nm fun z8 hz8 => ?_)
        refine lv_iload_n hx hb dX3_readFilters_14 rfl (lv_at hl 1 rfl) ?_
        refine lv_aload_n hx hb dX3_readFilters_15 rfl (lv_at hl 0 rfl) ?_
        refine hk_get (ci := 6) (C := RX3) (T := TX3) (N := 9) (v := .int (g 50)) hx hb hts (fun _ h => List.mem_cons_of_mem _ (wwXc_wsX30 _ h)) hown hw 26 rfl rfl 3 (by decide) (hq _ wX_322) (congrArg (fun z => some (Value.int z)) e_g3_50) dX3_readFilters_16 ?_
        refine lv_iconst (v := 1) hx hb dX3_readFilters_19 (by decide) ?_
        refine lv_isub hx hb dX3_readFilters_20 (jx_nm fun z9 hz9 => ?_)
        have xz9 : (z9).toInt = (g 50).toInt - ((1 : Int32)).toInt := (hE_imp (hE_sub hz9) (ob451 ((g 50).toInt) (((1 : Int32)).toInt) ((g3 50).toInt) ((x2).toInt) (k6 : Int) ((z8).toInt) (congrArg Int32.toInt e_g3_50) (hE_nle cc7) hf_B1_0 hrk_B1 (hE_and 2 4 hz8 (by decide) (by decide) (by decide)) (hE_rng (g 50)) (by decide) (hE_rng (g3 50)) (hE_rng (x2)) (hE_rng (z8))))
        have B10 : ∀  (x11 : Int32) (ls : Array Slot) (H : Heap) (locs : List Loc), (0 ≤ (x11).toInt ∧ (x11).toInt ≤ 1) → hk_W D (jT cI cJ) A s H locs (xw cI cJ ad g3 l4 a5 bk) → lv_has ls 2 [(0, .ref (ad 26)), (1, .int x2)] → W p l e { frames := 10, cells := 1, slots := 6, locals := 171 } s m args below meth c H locs 0 0 Q (F0 m 29 ls [.int x11, .int z8, .ref (ad 26)]) := by
          intro x11 ls H locs hf_B10_0 hw hl
          refine jx_Vv (As := [.int z8, .int x11]) (rest := []) ⟨hx, hb, hml, hown, hts⟩ hZ hw hA (jx_X3_readFilter l hlt D t3 cI cJ ad g3 l4 a5 bk _ z8 x11 (ob452 ((z8).toInt) ((x2).toInt) (k6 : Int) ((g 50).toInt) ((g3 50).toInt) ((z9).toInt) (((1 : Int32)).toInt) (hE_and 2 4 hz8 (by decide) (by decide) (by decide)) hf_B1_0 hrk_B1 (hE_nle cc7) (congrArg Int32.toInt e_g3_50) xz9 (hE_rng (z8)) (hE_rng (x2)) (hE_rng (g 50)) (hE_rng (g3 50)) (hE_rng (z9)) (by decide)) (hk_pE (P := hk_rg 0 255) hi_a0rg (hfr_a5 0 rfl))) (cwV 2 hts (jx_gV wwX_good wX_323 wX_324 wX_325 wX_307 wX_326) rfl rfl rfl (by decide +kernel) ⟨Nat.le_of_ble_eq_true rfl, Nat.le_of_ble_eq_true rfl⟩) 26 (ci := 6) (T := TX3) (N := 9) rfl rfl rfl hl.1 rfl (Nat.le_of_ble_eq_true rfl) dX3_readFilters_29 ⟨Nat.le_of_ble_eq_true rfl, Nat.le_of_ble_eq_true rfl⟩ (fun u12 u13 u14 u15 H locs ce q hp hw h1 h2 h3 => by obtain ⟨ht0, ht1, ht2, rfl⟩ := hp; exact kt _ _ _ _ _ _ _ _ _ _ _ ⟨(hk_frT hfr_g3 (by decide) ht0), (hk_frT hfr_l4 (by decide) ht1), (hk_frT hfr_a5 (by decide) ht2), rfl⟩ hw h1 h2 h3) (fun g17 l18 a19 b20 H locs hp21 hw => ?_)
          obtain ⟨h22, h23, h24, rfl⟩ := hp21
          have hr26 : hk_rg 0 255 (a19 0) := (hk_pE (P := hk_rg 0 255) (hk_pE (P := hk_rg 0 255) hi_a0rg (hfr_a5 0 rfl)) (h24 0 rfl))
          obtain ⟨z27, hz27⟩ : ∃ z : Int32, x2 + 1 = z := ⟨_, rfl⟩
          refine lv_iinc (v := z27) (lv' := [(1, .int z27), (0, .ref (ad 26))]) hx hb dX3_readFilters_32 hl (k := 1) rfl hz27 (by decide) rfl (fun ls hl => ?_)
          have xz27 : (z27).toInt = (x2).toInt + ((1 : Int32)).toInt := (hE_imp (hE_add hz27) (ob453 ((x2).toInt) (((1 : Int32)).toInt) (k6 : Int) ((g 50).toInt) ((z8).toInt) ((z9).toInt) ((g3 50).toInt) hf_B1_0 hrk_B1 (hE_nle cc7) (hE_and 2 4 hz8 (by decide) (by decide) (by decide)) xz9 (congrArg Int32.toInt e_g3_50) (hE_rng (x2)) (by decide) (hE_rng (g 50)) (hE_rng (z8)) (hE_rng (z9)) (hE_rng (g3 50))))
          refine lv_goto (tgt := 2) hx hb dX3_readFilters_35 (by decide) ?_
          exact ih_B1 z27 g17 l18 a19 ls _ _ (ob454 ((z27).toInt) (k6 : Int) ((x2).toInt) (((1 : Int32)).toInt) ((g 50).toInt) ((z8).toInt) ((z9).toInt) ((g3 50).toInt) hrk_B1 xz27 hf_B1_0 (hE_nle cc7) (hE_and 2 4 hz8 (by decide) (by decide) (by decide)) xz9 (congrArg Int32.toInt e_g3_50) (hE_rng (z27)) (hE_rng (x2)) (by decide) (hE_rng (g 50)) (hE_rng (z8)) (hE_rng (z9)) (hE_rng (g3 50))) (ob455 ((z27).toInt) ((x2).toInt) (((1 : Int32)).toInt) (k6 : Int) ((g 50).toInt) ((z8).toInt) ((z9).toInt) ((g3 50).toInt) xz27 hf_B1_0 hrk_B1 (hE_nle cc7) (hE_and 2 4 hz8 (by decide) (by decide) (by decide)) xz9 (congrArg Int32.toInt e_g3_50) (hE_rng (z27)) (hE_rng (x2)) (by decide) (hE_rng (g 50)) (hE_rng (z8)) (hE_rng (z9)) (hE_rng (g3 50))) (hk_frT hfr_g3 (by decide) h22) (hk_frT hfr_l4 (by decide) h23) (hk_frT hfr_a5 (by decide) h24) hw (lv_sub hl [1, 0] rfl)
        refine lv_icmp_ne (tgt := 28) hx hb dX3_readFilters_21 (by decide) (fun cc28 => ?_) (fun cc28 => ?_)
        · refine lv_iconst (v := 0) hx hb dX3_readFilters_28 (by decide) ?_
          exact B10 0 ls _ _ (ob48 (((0 : Int32)).toInt) (by decide)) hw (lv_sub hl [0, 1] rfl)
        · refine lv_iconst (v := 1) hx hb dX3_readFilters_24 (by decide) ?_
          refine lv_goto (tgt := 29) hx hb dX3_readFilters_25 (by decide) ?_
          exact B10 1 ls _ _ (ob456 (((1 : Int32)).toInt) ((z9).toInt) ((g 50).toInt) ((g3 50).toInt) ((x2).toInt) (k6 : Int) ((z8).toInt) xz9 (congrArg Int32.toInt e_g3_50) (hE_nle cc7) (hE_eq cc28) hf_B1_0 hrk_B1 (hE_and 2 4 hz8 (by decide) (by decide) (by decide)) (by decide) (hE_rng (z9)) (hE_rng (g 50)) (hE_rng (g3 50)) (hE_rng (x2)) (hE_rng (z8))) hw (lv_sub hl [0, 1] rfl)
  exact B1 (2147483648 - ((0 : Int32)).toInt).toNat 0 g lg ar ls _ _ (Int.self_le_toNat _) (ob9 (((0 : Int32)).toInt) (by decide)) hk_fr0 hk_fr0 hk_fr0 hw (lv_sub hl [1, 0] rfl)

set_option maxHeartbeats 4000000 in
set_option maxRecDepth 100000 in
/-- X3_readRest on (26,) -/
theorem jx_X3_readRest (l : Launch) (hlt : l.stackTraces = false) (D : va_G) (t3 : Nat × Nat × Nat) (cI cJ : ClassId) (ad : Nat → Nat) (g : Nat → Int32) (lg : Nat → Int64) (ar : Nat → Nat → Int32) (bk : Nat → Int64) (sz : Nat) (hi_a0rg : hk_rg 0 255 (ar 0)) : JMv l yX3_readRest (Cond.code yX3_readRest cX3_readRest 2 none :: wwX) { frames := 8, cells := 1, slots := 6, locals := 126 } t3 D xw cI cJ ad [.ref (ad 26)] (xw cI cJ ad g lg ar bk) sz 1 6 (fun g' lg' ar' bk' => hk_fr [15, 17] g g' ∧ lg = lg' ∧ ar = ar' ∧ bk = bk') (fun g' lg' ar' bk' => hk_fr [15, 17] g g' ∧ lg = lg' ∧ ar = ar' ∧ bk = bk') := by
  refine jx_metv (cc := cX3_readRest) (maxL := 2) (ret := none) rfl (by decide) rfl (Nat.le_of_ble_eq_true rfl) ?_
  intro p e s m args below meth c ls Q A hx hb hml hown hts hA hZ hw hl hQ kr kt
  have hq : ∀ w ∈ wwX, w.before args s = true := fun w h => hts w (List.mem_cons_of_mem _ h)
  have hl : lv_has ls 2 [(0, .ref (ad 26))] := hl
  refine lv_aload_n hx hb dX3_readRest_0 rfl (lv_at hl 0 rfl) ?_
  refine hk_get (ci := 6) (C := RX3) (T := TX3) (N := 9) (v := .ref (ad 6)) hx hb hts (fun _ h => List.mem_cons_of_mem _ (wwXc_wsX30 _ h)) hown hw 26 rfl rfl 0 (by decide) (hq _ wX_295) rfl dX3_readRest_1 ?_
  refine hk_get (ci := 11) (C := RX8) (T := TX8) (N := 4) (v := .int (g 15)) hx hb hts (fun _ h => List.mem_cons_of_mem _ (wwXc_wsX80 _ h)) hown hw 6 rfl rfl 1 (by decide) (hq _ wX_296) rfl dX3_readRest_4 ?_
  refine lv_istore_n (lv' := [(1, .int (g 15)), (0, .ref (ad 26))]) hx hb dX3_readRest_7 rfl hl (by decide) rfl (fun ls hl => ?_)
  have B1 : ∀ (k4 : Nat) (x2 : Int32) (g3 : Nat → Int32) (ls : Array Slot) (H : Heap) (locs : List Loc), (2147483648 - (x2).toInt ≤ (k4 : Int)) → (hk_fr [15, 17] g g3) → hk_W D (jT cI cJ) A s H locs (xw cI cJ ad g3 lg ar bk) → lv_has ls 2 [(0, .ref (ad 26)), (1, .int x2)] → W p l e { frames := 8, cells := 1, slots := 6, locals := 126 } s m args below meth c H locs 0 0 Q (F0 m 8 ls []) := by
    intro k4
    induction k4 with
    | zero =>
      intro x2 g3 ls H locs hrk_B1 hfr_g3 hw hl
      exact False.elim (hk_no0 (0 * (x2).toInt) (ob389 ((x2).toInt) hrk_B1 (hE_rng (x2))) (by simp))
    | succ k4 ih_B1 =>
      intro x2 g3 ls H locs hrk_B1 hfr_g3 hw hl
      have hrk_B1 := hk_rk hrk_B1
      refine lv_iload_n hx hb dX3_readRest_8 rfl (lv_at hl 1 rfl) ?_
      refine lv_aload_n hx hb dX3_readRest_9 rfl (lv_at hl 0 rfl) ?_
      have e_g3_51 : g3 51 = (g 51) := (hfr_g3 51 rfl)
      refine hk_get (ci := 6) (C := RX3) (T := TX3) (N := 9) (v := .int (g 51)) hx hb hts (fun _ h => List.mem_cons_of_mem _ (wwXc_wsX30 _ h)) hown hw 26 rfl rfl 4 (by decide) (hq _ wX_297) (congrArg (fun z => some (Value.int z)) e_g3_51) dX3_readRest_10 ?_
      refine lv_aload_n hx hb dX3_readRest_13 rfl (lv_at hl 0 rfl) ?_
      have e_g3_52 : g3 52 = (g 52) := (hfr_g3 52 rfl)
      refine hk_get (ci := 6) (C := RX3) (T := TX3) (N := 9) (v := .int (g 52)) hx hb hts (fun _ h => List.mem_cons_of_mem _ (wwXc_wsX30 _ h)) hown hw 26 rfl rfl 5 (by decide) (hq _ wX_298) (congrArg (fun z => some (Value.int z)) e_g3_52) dX3_readRest_14 ?_
      refine lv_iadd hx hb dX3_readRest_17 (jx_nm fun z5 hz5 => ?_)
      refine lv_iconst (v := 4) hx hb dX3_readRest_18 (by decide) ?_
      refine lv_isub hx hb dX3_readRest_19 (jx_nm fun z6 hz6 => ?_)
      refine lv_icmp_ge (tgt := 48) hx hb dX3_readRest_20 (by decide) (fun cc7 => ?_) (fun cc7 => ?_)
      · refine lv_aload_n hx hb dX3_readRest_48 rfl (lv_at hl 0 rfl) ?_
        refine hk_get (ci := 6) (C := RX3) (T := TX3) (N := 9) (v := .ref (ad 6)) hx hb hts (fun _ h => List.mem_cons_of_mem _ (wwXc_wsX30 _ h)) hown hw 26 rfl rfl 0 (by decide) (hq _ wX_295) rfl dX3_readRest_49 ?_
        refine hk_get (ci := 11) (C := RX8) (T := TX8) (N := 4) (v := .ref (ad 2)) hx hb hts (fun _ h => List.mem_cons_of_mem _ (wwXc_wsX80 _ h)) hown hw 6 rfl rfl 0 (by decide) (hq _ wX_327) rfl dX3_readRest_52 ?_
        refine lv_aload_n hx hb dX3_readRest_55 rfl (lv_at hl 0 rfl) ?_
        refine hk_get (ci := 6) (C := RX3) (T := TX3) (N := 9) (v := .int (g 51)) hx hb hts (fun _ h => List.mem_cons_of_mem _ (wwXc_wsX30 _ h)) hown hw 26 rfl rfl 4 (by decide) (hq _ wX_297) (congrArg (fun z => some (Value.int z)) e_g3_51) dX3_readRest_56 ?_
        refine lv_aload_n hx hb dX3_readRest_59 rfl (lv_at hl 0 rfl) ?_
        refine hk_get (ci := 6) (C := RX3) (T := TX3) (N := 9) (v := .ref (ad 6)) hx hb hts (fun _ h => List.mem_cons_of_mem _ (wwXc_wsX30 _ h)) hown hw 26 rfl rfl 0 (by decide) (hq _ wX_295) rfl dX3_readRest_60 ?_
        refine hk_get (ci := 11) (C := RX8) (T := TX8) (N := 4) (v := .int (g3 15)) hx hb hts (fun _ h => List.mem_cons_of_mem _ (wwXc_wsX80 _ h)) hown hw 6 rfl rfl 1 (by decide) (hq _ wX_296) rfl dX3_readRest_63 ?_
        refine jx_Si (As := [.ref (ad 2), .int (g 51), .int (g3 15)]) (rest := []) ⟨hx, hb, hml, hown, hts⟩ hZ hw hA (jx_X0_crc32_2 l hlt D t3 cI cJ ad g3 lg ar bk _ (g 51) (g3 15)) (va_cwS 3 hts (jx_gS wwX_good wX_328 wX_11 wX_12 wX_13) rfl rfl rfl (by decide +kernel) ⟨Nat.le_of_ble_eq_true rfl, Nat.le_of_ble_eq_true rfl⟩) rfl hl.1 rfl (Nat.le_of_ble_eq_true rfl) dX3_readRest_66 ⟨Nat.le_of_ble_eq_true rfl, Nat.le_of_ble_eq_true rfl⟩ (fun _ _ _ _ _ _ _ _ hp _ _ _ _ => hp.elim) (fun r12 g13 l14 a15 b16 H locs hp17 hw => ?_)
        obtain ⟨rfl, rfl, rfl, rfl⟩ := hp17
        refine lv_istore_n (lv' := [(1, .int r12), (0, .ref (ad 26))]) hx hb dX3_readRest_69 rfl hl (by decide) rfl (fun ls hl => ?_)
        refine lv_aload_n hx hb dX3_readRest_70 rfl (lv_at hl 1 rfl) ?_
        refine hk_get (ci := 6) (C := RX3) (T := TX3) (N := 9) (v := .ref (ad 6)) hx hb hts (fun _ h => List.mem_cons_of_mem _ (wwXc_wsX30 _ h)) hown hw 26 rfl rfl 0 (by decide) (hq _ wX_295) rfl dX3_readRest_71 ?_
        refine lv_iconst (v := 4) hx hb dX3_readRest_74 (by decide) ?_
        refine jx_Vl (As := [.int 4]) (rest := []) ⟨hx, hb, hml, hown, hts⟩ hZ hw hA (jx_X8_low l hlt D t3 cI cJ ad g3 lg ar bk _ 4 hi_a0rg) (cwV 1 hts (jx_gV wwX_good wX_329 wX_330 wX_331 wX_252 wX_332) rfl rfl rfl (by decide +kernel) ⟨Nat.le_of_ble_eq_true rfl, Nat.le_of_ble_eq_true rfl⟩) 6 (ci := 11) (T := TX8) (N := 4) rfl rfl rfl hl.1 rfl (Nat.le_of_ble_eq_true rfl) dX3_readRest_75 ⟨Nat.le_of_ble_eq_true rfl, Nat.le_of_ble_eq_true rfl⟩ (fun u22 u23 u24 u25 H locs ce q hp hw h1 h2 h3 => by obtain ⟨ht0, rfl, rfl, rfl⟩ := hp; exact kt _ _ _ _ _ _ _ _ _ _ _ ⟨(hk_frT hfr_g3 (by decide) ht0), rfl, rfl, rfl⟩ hw h1 h2 h3) (fun r26 g27 l28 a29 b30 H locs hp31 hw => ?_)
        obtain ⟨h32, rfl, rfl, rfl⟩ := hp31
        refine lv_l2i hx hb dX3_readRest_78 rfl (jx_nm fun z36 hz36 => ?_)
        refine lv_iload_n hx hb dX3_readRest_79 rfl (lv_at hl 0 rfl) ?_
        refine lv_icmp_eq (tgt := 92) hx hb dX3_readRest_80 (by decide) (fun cc37 => ?_) (fun cc37 => ?_)
        · exact kr g27 lg ar bk _ _ _ _ ⟨(hk_frT hfr_g3 (by decide) h32), rfl, rfl, rfl⟩ hw dX3_readRest_92
        · refine lv_aload_n hx hb dX3_readRest_83 rfl (lv_at hl 1 rfl) ?_
          refine hk_get (ci := 6) (C := RX3) (T := TX3) (N := 9) (v := .ref (ad 6)) hx hb hts (fun _ h => List.mem_cons_of_mem _ (wwXc_wsX30 _ h)) hown hw 26 rfl rfl 0 (by decide) (hq _ wX_295) rfl dX3_readRest_84 ?_
          refine lv_bipush (v := 9) hx hb dX3_readRest_87 (by decide) ?_
          refine jx_Vv (As := [.int 9]) (rest := []) ⟨hx, hb, hml, hown, hts⟩ hZ hw hA (jx_X8_fail l hlt D t3 cI cJ ad g27 lg ar bk _ 9) (cwV 1 hts (jx_gV wwX_good wX_299 wX_255 wX_256 wX_252 wX_257) rfl rfl rfl (by decide +kernel) ⟨Nat.le_of_ble_eq_true rfl, Nat.le_of_ble_eq_true rfl⟩) 6 (ci := 11) (T := TX8) (N := 4) rfl rfl rfl hl.1 rfl (Nat.le_of_ble_eq_true rfl) dX3_readRest_89 ⟨Nat.le_of_ble_eq_true rfl, Nat.le_of_ble_eq_true rfl⟩ (fun u38 u39 u40 u41 H locs ce q hp hw h1 h2 h3 => by obtain ⟨ht0, rfl, rfl, rfl⟩ := hp; exact kt _ _ _ _ _ _ _ _ _ _ _ ⟨(hk_frT (hk_frT hfr_g3 (by decide) h32) (by decide) ht0), rfl, rfl, rfl⟩ hw h1 h2 h3) (fun g43 l44 a45 b46 H locs hp47 hw => ?_)
          obtain ⟨h48, rfl, rfl, rfl, h52⟩ := hp47
          exact False.elim h52
      · refine lv_aload_n hx hb dX3_readRest_23 rfl (lv_at hl 0 rfl) ?_
        refine hk_get (ci := 6) (C := RX3) (T := TX3) (N := 9) (v := .ref (ad 6)) hx hb hts (fun _ h => List.mem_cons_of_mem _ (wwXc_wsX30 _ h)) hown hw 26 rfl rfl 0 (by decide) (hq _ wX_295) rfl dX3_readRest_24 ?_
        refine jx_Vi (As := []) (rest := []) ⟨hx, hb, hml, hown, hts⟩ hZ hw hA (jx_X8_next l hlt D t3 cI cJ ad g3 lg ar bk _ hi_a0rg) (cwV 0 hts (jx_gV wwX_good wX_300 wX_250 wX_251 wX_252 wX_253) rfl rfl rfl (by decide +kernel) ⟨Nat.le_of_ble_eq_true rfl, Nat.le_of_ble_eq_true rfl⟩) 6 (ci := 11) (T := TX8) (N := 4) rfl rfl rfl hl.1 rfl (Nat.le_of_ble_eq_true rfl) dX3_readRest_27 ⟨Nat.le_of_ble_eq_true rfl, Nat.le_of_ble_eq_true rfl⟩ (fun u53 u54 u55 u56 H locs ce q hp hw h1 h2 h3 => by obtain ⟨ht0, rfl, rfl, rfl⟩ := hp; exact kt _ _ _ _ _ _ _ _ _ _ _ ⟨(hk_frT hfr_g3 (by decide) ht0), rfl, rfl, rfl⟩ hw h1 h2 h3) (fun r57 g58 l59 a60 b61 H locs hp62 hw => ?_)
        obtain ⟨h63, rfl, rfl, rfl, h67⟩ := hp62
        refine lv_if_eq (tgt := 42) hx hb dX3_readRest_30 (by decide) (fun cc68 => ?_) (fun cc68 => ?_)
        · obtain ⟨z69, hz69⟩ : ∃ z : Int32, x2 + 1 = z := ⟨_, rfl⟩
          refine lv_iinc (v := z69) (lv' := [(1, .int z69), (0, .ref (ad 26))]) hx hb dX3_readRest_42 hl (k := 1) rfl hz69 (by decide) rfl (fun ls hl => ?_)
          have xz69 : (z69).toInt = (x2).toInt + ((1 : Int32)).toInt := (hE_imp (hE_add hz69) (ob457 ((x2).toInt) (((1 : Int32)).toInt) (k4 : Int) ((z6).toInt) ((z5).toInt) (((4 : Int32)).toInt) ((g 51).toInt) ((g 52).toInt) ((g3 51).toInt) ((g3 52).toInt) hrk_B1 (hE_nle cc7) (hE_sub hz6) (hE_add hz5) (congrArg Int32.toInt e_g3_51) (congrArg Int32.toInt e_g3_52) (hE_rng (x2)) (by decide) (hE_rng (z6)) (hE_rng (z5)) (by decide) (hE_rng (g 51)) (hE_rng (g 52)) (hE_rng (g3 51)) (hE_rng (g3 52))))
          refine lv_goto (tgt := 8) hx hb dX3_readRest_45 (by decide) ?_
          exact ih_B1 z69 g58 ls _ _ (ob458 ((z69).toInt) (k4 : Int) ((x2).toInt) (((1 : Int32)).toInt) ((z6).toInt) ((z5).toInt) (((4 : Int32)).toInt) ((g 51).toInt) ((g 52).toInt) ((g3 51).toInt) ((g3 52).toInt) hrk_B1 xz69 (hE_nle cc7) (hE_sub hz6) (hE_add hz5) (congrArg Int32.toInt e_g3_51) (congrArg Int32.toInt e_g3_52) (hE_rng (z69)) (hE_rng (x2)) (by decide) (hE_rng (z6)) (hE_rng (z5)) (by decide) (hE_rng (g 51)) (hE_rng (g 52)) (hE_rng (g3 51)) (hE_rng (g3 52))) (hk_frT hfr_g3 (by decide) h63) hw (lv_sub hl [1, 0] rfl)
        · refine lv_aload_n hx hb dX3_readRest_33 rfl (lv_at hl 0 rfl) ?_
          refine hk_get (ci := 6) (C := RX3) (T := TX3) (N := 9) (v := .ref (ad 6)) hx hb hts (fun _ h => List.mem_cons_of_mem _ (wwXc_wsX30 _ h)) hown hw 26 rfl rfl 0 (by decide) (hq _ wX_295) rfl dX3_readRest_34 ?_
          refine lv_bipush (v := 8) hx hb dX3_readRest_37 (by decide) ?_
          refine jx_Vv (As := [.int 8]) (rest := []) ⟨hx, hb, hml, hown, hts⟩ hZ hw hA (jx_X8_fail l hlt D t3 cI cJ ad g58 lg ar bk _ 8) (cwV 1 hts (jx_gV wwX_good wX_299 wX_255 wX_256 wX_252 wX_257) rfl rfl rfl (by decide +kernel) ⟨Nat.le_of_ble_eq_true rfl, Nat.le_of_ble_eq_true rfl⟩) 6 (ci := 11) (T := TX8) (N := 4) rfl rfl rfl hl.1 rfl (Nat.le_of_ble_eq_true rfl) dX3_readRest_39 ⟨Nat.le_of_ble_eq_true rfl, Nat.le_of_ble_eq_true rfl⟩ (fun u70 u71 u72 u73 H locs ce q hp hw h1 h2 h3 => by obtain ⟨ht0, rfl, rfl, rfl⟩ := hp; exact kt _ _ _ _ _ _ _ _ _ _ _ ⟨(hk_frT (hk_frT hfr_g3 (by decide) h63) (by decide) ht0), rfl, rfl, rfl⟩ hw h1 h2 h3) (fun g75 l76 a77 b78 H locs hp79 hw => ?_)
          obtain ⟨h80, rfl, rfl, rfl, h84⟩ := hp79
          exact False.elim h84
  exact B1 (2147483648 - (g 15).toInt).toNat (g 15) g ls _ _ (Int.self_le_toNat _) hk_fr0 hw (lv_sub hl [1, 0] rfl)
