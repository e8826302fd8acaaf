/-! 61.read -/
theorem ob41 (v0 : Int) (v1 : Int) (v2 : Int) (v3 : Int) (h0 : v1 ≤ v0) (h1 : v0 < v2) (h2 : v0 < v3) (h3 : -2147483648 ≤ v0 ∧ v0 ≤ 2147483647) (h4 : v1 = 0) (h5 : -2147483648 ≤ v2 ∧ v2 ≤ 2147483647) (h6 : v3 = 1500) : 0 ≤ v0 ∧ v0 < (1500 : Nat) := by omega
theorem ob42 (v0 : Int) (v1 : Int) (v2 : Int) (v3 : Int) (v4 : Int) (h0 : v2 ≤ v0) (h1 : v0 < v3) (h2 : v0 < v4) (h3 : -2147483648 ≤ v0 ∧ v0 ≤ 2147483647) (h4 : v1 = 1) (h5 : v2 = 0) (h6 : -2147483648 ≤ v3 ∧ v3 ≤ 2147483647) (h7 : v4 = 1500) : -2147483648 ≤ v0 + v1 ∧ v0 + v1 ≤ 2147483647 := by omega
theorem ob43 (v0 : Int) (h0 : 0 ≤ v0 ∧ v0 ≤ 255) (h1 : -2147483648 ≤ v0 ∧ v0 ≤ 2147483647) : 0 ≤ v0 ∧ v0 ≤ 255 := by omega
set_option maxHeartbeats 4000000 in
set_option maxRecDepth 100000 in
/-- X8_begin on (6,) -/
theorem jx_X8_begin (l : Launch) (hlt : l.stackTraces = false) (D : va_G) (t3 : Nat × Nat × Nat) (cI cJ : ClassId) (ad : Nat → Nat) (g : Nat → Int32) (lg : Nat → Int64) (ar : Nat → Nat → Int32) (bk : Nat → Int64) (sz : Nat) : JMv l yX8_begin (Cond.code yX8_begin cX8_begin 1 none :: wwX) { frames := 0, cells := 1, slots := 6, locals := 0 } t3 D xw cI cJ ad [.ref (ad 6)] (xw cI cJ ad g lg ar bk) sz 1 6 (fun g' lg' ar' bk' => hk_fr [15, 16, 17] g g' ∧ lg = lg' ∧ ar = ar' ∧ bk = bk') (fun g' lg' ar' bk' => False) := by
  refine jx_metv (cc := cX8_begin) (maxL := 1) (ret := none) rfl (by decide) rfl (Nat.le_of_ble_eq_true rfl) ?_
  intro p e s m args below meth c ls Q A hx hb hml hown hts hA hZ hw hl hQ kr kt
  have hq : ∀ w ∈ wwX, w.before args s = true := fun w h => hts w (List.mem_cons_of_mem _ h)
  have hl : lv_has ls 1 [(0, .ref (ad 6))] := hl
  refine lv_aload_n hx hb dX8_begin_0 rfl (lv_at hl 0 rfl) ?_
  refine lv_iconst (v := 0) hx hb dX8_begin_1 (by decide) ?_
  refine jx_putg xw (g := g) (lg := lg) (ar := ar) (bk := bk) (x := 0) 15 (ci := 11) (C := RX8) (T := TX8) (N := 4) (ty := .int) hx hb hts (fun _ h => List.mem_cons_of_mem _ (wwXc_wsX80 _ h)) tyX8 tyX8_ok nmX8 hown hw 6 rfl rfl 1 (by decide) (hq _ wX_688) rfl (by decide +kernel) rfl rfl (Nat.le_of_ble_eq_true rfl) dX8_begin_2 rfl (fun H locs g1 h_g1 hw => ?_)
  refine lv_aload_n hx hb dX8_begin_5 rfl (lv_at hl 0 rfl) ?_
  refine lv_aload_n hx hb dX8_begin_6 rfl (lv_at hl 0 rfl) ?_
  refine hk_get (ci := 11) (C := RX8) (T := TX8) (N := 4) (v := .ref (ad 2)) hx hb hts (fun _ h => List.mem_cons_of_mem _ (wwXc_wsX80 _ h)) hown hw 6 rfl rfl 0 (by decide) (hq _ wX_689) rfl dX8_begin_7 ?_
  have e_g1_13 : g1 13 = (g 13) := (hk_upgN h_g1 13 rfl)
  refine hk_get (ci := 12) (C := RX9) (T := TX9) (N := 2) (v := .int (g 13)) hx hb hts (fun _ h => List.mem_cons_of_mem _ (wwXc_wsX90 _ h)) hown hw 2 rfl rfl 1 (by decide) (hq _ wX_690) (congrArg (fun z => some (Value.int z)) e_g1_13) dX8_begin_10 ?_
  refine jx_putg xw (g := g1) (lg := lg) (ar := ar) (bk := bk) (x := (g 13)) 16 (ci := 11) (C := RX8) (T := TX8) (N := 4) (ty := .int) hx hb hts (fun _ h => List.mem_cons_of_mem _ (wwXc_wsX80 _ h)) tyX8 tyX8_ok nmX8 hown hw 6 rfl rfl 2 (by decide) (hq _ wX_691) rfl (by decide +kernel) rfl rfl (Nat.le_of_ble_eq_true rfl) dX8_begin_13 rfl (fun H locs g2 h_g2 hw => ?_)
  refine lv_aload_n hx hb dX8_begin_16 rfl (lv_at hl 0 rfl) ?_
  refine lv_iconst (v := 0) hx hb dX8_begin_17 (by decide) ?_
  refine jx_putg xw (g := g2) (lg := lg) (ar := ar) (bk := bk) (x := 0) 17 (ci := 11) (C := RX8) (T := TX8) (N := 4) (ty := .int) hx hb hts (fun _ h => List.mem_cons_of_mem _ (wwXc_wsX80 _ h)) tyX8 tyX8_ok nmX8 hown hw 6 rfl rfl 3 (by decide) (hq _ wX_692) rfl (by decide +kernel) rfl rfl (Nat.le_of_ble_eq_true rfl) dX8_begin_18 rfl (fun H locs g3 h_g3 hw => ?_)
  exact kr g3 lg ar bk _ _ _ _ ⟨(hk_frG (hk_frG (hk_frG hk_fr0 (by decide) h_g1) (by decide) h_g2) (by decide) h_g3), rfl, rfl, rfl⟩ hw dX8_begin_21

set_option maxHeartbeats 4000000 in
set_option maxRecDepth 100000 in
/-- X8_next on (6,) -/
theorem jx_X8_next (l : Launch) (hlt : l.stackTraces = false) (D : va_G) (t3 : Nat × Nat × Nat) (cI cJ : ClassId) (ad : Nat → Nat) (g : Nat → Int32) (lg : Nat → Int64) (ar : Nat → Nat → Int32) (bk : Nat → Int64) (sz : Nat) (hi_a0rg : hk_rg 0 255 (ar 0)) : JMi l yX8_next (Cond.code yX8_next cX8_next 2 (some .int) :: wwX) { frames := 6, cells := 1, slots := 6, locals := 81 } t3 D xw cI cJ ad [.ref (ad 6)] (xw cI cJ ad g lg ar bk) sz 1 6 (fun (r : Int32) g' lg' ar' bk' => hk_fr [15, 17] g g' ∧ lg = lg' ∧ ar = ar' ∧ bk = bk' ∧ (0 ≤ (r).toInt ∧ (r).toInt ≤ 255)) (fun g' lg' ar' bk' => hk_fr [15, 17] g g' ∧ lg = lg' ∧ ar = ar' ∧ bk = bk') := by
  refine jx_meti (cc := cX8_next) (maxL := 2) (ret := (some .int)) rfl (by decide) rfl (Nat.le_of_ble_eq_true rfl) ?_
  intro p e s m args below meth c ls Q A hx hb hml hown hts hA hZ hw hl hQ kr kt
  have hq : ∀ w ∈ wwX, w.before args s = true := fun w h => hts w (List.mem_cons_of_mem _ h)
  have hl : lv_has ls 2 [(0, .ref (ad 6))] := hl
  refine lv_aload_n hx hb dX8_next_0 rfl (lv_at hl 0 rfl) ?_
  refine hk_get (ci := 11) (C := RX8) (T := TX8) (N := 4) (v := .int (g 15)) hx hb hts (fun _ h => List.mem_cons_of_mem _ (wwXc_wsX80 _ h)) hown hw 6 rfl rfl 1 (by decide) (hq _ wX_688) rfl dX8_next_1 ?_
  have B1 : ∀  (ls : Array Slot) (H : Heap) (locs : List Loc), hk_W D (jT cI cJ) A s H locs (xw cI cJ ad g lg ar bk) → lv_has ls 2 [(0, .ref (ad 6))] → W p l e { frames := 6, cells := 1, slots := 6, locals := 81 } s m args below meth c H locs 0 0 Q (F0 m 33 ls []) := by
    intro ls H locs hw hl
    refine lv_aload_n hx hb dX8_next_33 rfl (lv_at hl 0 rfl) ?_
    refine lv_iconst (v := 1) hx hb dX8_next_34 (by decide) ?_
    refine jx_putg xw (g := g) (lg := lg) (ar := ar) (bk := bk) (x := 1) 17 (ci := 11) (C := RX8) (T := TX8) (N := 4) (ty := .int) hx hb hts (fun _ h => List.mem_cons_of_mem _ (wwXc_wsX80 _ h)) tyX8 tyX8_ok nmX8 hown hw 6 rfl rfl 3 (by decide) (hq _ wX_692) rfl (by decide +kernel) rfl rfl (Nat.le_of_ble_eq_true rfl) dX8_next_35 rfl (fun H locs g2 h_g2 hw => ?_)
    obtain ⟨hlocks, hno, hA9, hQ9⟩ := hQ
    subst hQ9
    subst hA9
    exact hk_ythrow (S := jS) (u := (g2, lg, ar, bk)) (names := ["java/lang/RuntimeException", "java/lang/Exception"]) hx hb hlt hown (by decide +kernel) (by decide +kernel) (hq _ wX_693) (hq _ wX_694) (fun w h => hq w (wwXc_t0 w h)) xb_8b xb_8o hZ hw ⟨(hk_frG hk_fr0 (by decide) h_g2), rfl, rfl, rfl⟩ hno (by rw [hml]; exact hl.1) dX8_next_38 dX8_next_41 dX8_next_42 dX8_next_45 (Nat.le_of_ble_eq_true rfl) (Nat.le_of_ble_eq_true rfl) (Nat.le_of_ble_eq_true rfl) (Nat.le_of_ble_eq_true rfl) hlocks (Nat.le_of_ble_eq_true rfl) (Nat.le_of_ble_eq_true rfl)
  refine lv_if_lt (tgt := 33) hx hb dX8_next_4 (by decide) (fun cc3 => ?_) (fun cc3 => ?_)
  · exact B1 ls _ _ hw (lv_sub hl [0] rfl)
  · refine lv_aload_n hx hb dX8_next_7 rfl (lv_at hl 0 rfl) ?_
    refine hk_get (ci := 11) (C := RX8) (T := TX8) (N := 4) (v := .int (g 15)) hx hb hts (fun _ h => List.mem_cons_of_mem _ (wwXc_wsX80 _ h)) hown hw 6 rfl rfl 1 (by decide) (hq _ wX_688) rfl dX8_next_8 ?_
    refine lv_aload_n hx hb dX8_next_11 rfl (lv_at hl 0 rfl) ?_
    refine hk_get (ci := 11) (C := RX8) (T := TX8) (N := 4) (v := .int (g 16)) hx hb hts (fun _ h => List.mem_cons_of_mem _ (wwXc_wsX80 _ h)) hown hw 6 rfl rfl 2 (by decide) (hq _ wX_691) rfl dX8_next_12 ?_
    refine lv_icmp_ge (tgt := 33) hx hb dX8_next_15 (by decide) (fun cc4 => ?_) (fun cc4 => ?_)
    · exact B1 ls _ _ hw (lv_sub hl [0] rfl)
    · refine lv_aload_n hx hb dX8_next_18 rfl (lv_at hl 0 rfl) ?_
      refine hk_get (ci := 11) (C := RX8) (T := TX8) (N := 4) (v := .int (g 15)) hx hb hts (fun _ h => List.mem_cons_of_mem _ (wwXc_wsX80 _ h)) hown hw 6 rfl rfl 1 (by decide) (hq _ wX_688) rfl dX8_next_19 ?_
      refine lv_aload_n hx hb dX8_next_22 rfl (lv_at hl 0 rfl) ?_
      refine hk_get (ci := 11) (C := RX8) (T := TX8) (N := 4) (v := .ref (ad 2)) hx hb hts (fun _ h => List.mem_cons_of_mem _ (wwXc_wsX80 _ h)) hown hw 6 rfl rfl 0 (by decide) (hq _ wX_689) rfl dX8_next_23 ?_
      refine hk_get (ci := 12) (C := RX9) (T := TX9) (N := 2) (v := .ref (ad 3)) hx hb hts (fun _ h => List.mem_cons_of_mem _ (wwXc_wsX90 _ h)) hown hw 2 rfl rfl 0 (by decide) (hq _ wX_696) rfl dX8_next_26 ?_
      refine hk_alen (v := 1500) hx hb hw 3 0 rfl rfl rfl dX8_next_29 ?_
      refine lv_icmp_lt (tgt := 46) hx hb dX8_next_30 (by decide) (fun cc5 => ?_) (fun cc5 => ?_)
      · refine lv_aload_n hx hb dX8_next_46 rfl (lv_at hl 0 rfl) ?_
        refine hk_get (ci := 11) (C := RX8) (T := TX8) (N := 4) (v := .ref (ad 2)) hx hb hts (fun _ h => List.mem_cons_of_mem _ (wwXc_wsX80 _ h)) hown hw 6 rfl rfl 0 (by decide) (hq _ wX_689) rfl dX8_next_47 ?_
        refine hk_get (ci := 12) (C := RX9) (T := TX9) (N := 2) (v := .ref (ad 3)) hx hb hts (fun _ h => List.mem_cons_of_mem _ (wwXc_wsX90 _ h)) hown hw 2 rfl rfl 0 (by decide) (hq _ wX_696) rfl dX8_next_50 ?_
        refine lv_aload_n hx hb dX8_next_53 rfl (lv_at hl 0 rfl) ?_
        refine hk_get (ci := 11) (C := RX8) (T := TX8) (N := 4) (v := .int (g 15)) hx hb hts (fun _ h => List.mem_cons_of_mem _ (wwXc_wsX80 _ h)) hown hw 6 rfl rfl 1 (by decide) (hq _ wX_688) rfl dX8_next_54 ?_
        refine jx_iald hx hb hw 3 0 rfl rfl (hE_in (n := 1500) (ob41 ((g 15).toInt) (((0 : Int32)).toInt) ((g 16).toInt) (((1500 : Int32)).toInt) (hE_nlt cc3) (hE_nle cc4) (hE_lt cc5) (hE_rng (g 15)) (by decide) (hE_rng (g 16)) (by decide))) dX8_next_57 (fun z6 hz6 => ?_)
        refine lv_istore_n (lv' := [(1, .int z6), (0, .ref (ad 6))]) hx hb dX8_next_58 rfl hl (by decide) rfl (fun ls hl => ?_)
        refine lv_aload_n hx hb dX8_next_59 rfl (lv_at hl 1 rfl) ?_
        refine lv_dup hx hb dX8_next_60 rfl ?_
        refine hk_get (ci := 11) (C := RX8) (T := TX8) (N := 4) (v := .int (g 15)) hx hb hts (fun _ h => List.mem_cons_of_mem _ (wwXc_wsX80 _ h)) hown hw 6 rfl rfl 1 (by decide) (hq _ wX_688) rfl dX8_next_61 ?_
        refine lv_iconst (v := 1) hx hb dX8_next_64 (by decide) ?_
        refine lv_iadd hx hb dX8_next_65 (jx_nm fun z7 hz7 => ?_)
        have xz7 : (z7).toInt = (g 15).toInt + ((1 : Int32)).toInt := (hE_imp (hE_add hz7) (ob42 ((g 15).toInt) (((1 : Int32)).toInt) (((0 : Int32)).toInt) ((g 16).toInt) (((1500 : Int32)).toInt) (hE_nlt cc3) (hE_nle cc4) (hE_lt cc5) (hE_rng (g 15)) (by decide) (by decide) (hE_rng (g 16)) (by decide)))
        refine jx_putg xw (g := g) (lg := lg) (ar := ar) (bk := bk) (x := z7) 15 (ci := 11) (C := RX8) (T := TX8) (N := 4) (ty := .int) hx hb hts (fun _ h => List.mem_cons_of_mem _ (wwXc_wsX80 _ h)) tyX8 tyX8_ok nmX8 hown hw 6 rfl rfl 1 (by decide) (hq _ wX_688) rfl (by decide +kernel) rfl rfl (Nat.le_of_ble_eq_true rfl) dX8_next_66 rfl (fun H locs g8 h_g8 hw => ?_)
        refine lv_iload_n hx hb dX8_next_69 rfl (lv_at hl 0 rfl) ?_
        exact kr z6 g8 lg ar bk _ _ _ _ ⟨(hk_frG hk_fr0 (by decide) h_g8), rfl, rfl, rfl, (ob43 ((z6).toInt) (hk_rgV hi_a0rg hz6) (hE_rng (z6)))⟩ hw dX8_next_70
      · exact B1 ls _ _ hw (lv_sub hl [0] rfl)

set_option maxHeartbeats 4000000 in
set_option maxRecDepth 100000 in
/-- X8_fail on (6,) -/
theorem jx_X8_fail (l : Launch) (hlt : l.stackTraces = false) (D : va_G) (t3 : Nat × Nat × Nat) (cI cJ : ClassId) (ad : Nat → Nat) (g : Nat → Int32) (lg : Nat → Int64) (ar : Nat → Nat → Int32) (bk : Nat → Int64) (sz : Nat) (y1 : Int32) : JMv l yX8_fail (Cond.code yX8_fail cX8_fail 2 none :: wwX) { frames := 6, cells := 1, slots := 6, locals := 81 } t3 D xw cI cJ ad [.ref (ad 6), .int y1] (xw cI cJ ad g lg ar bk) sz 1 6 (fun g' lg' ar' bk' => hk_fr [17] g g' ∧ lg = lg' ∧ ar = ar' ∧ bk = bk' ∧ (False)) (fun g' lg' ar' bk' => hk_fr [17] g g' ∧ lg = lg' ∧ ar = ar' ∧ bk = bk') := by
  refine jx_metv (cc := cX8_fail) (maxL := 2) (ret := none) rfl (by decide) rfl (Nat.le_of_ble_eq_true rfl) ?_
  intro p e s m args below meth c ls Q A hx hb hml hown hts hA hZ hw hl hQ kr kt
  have hq : ∀ w ∈ wwX, w.before args s = true := fun w h => hts w (List.mem_cons_of_mem _ h)
  have hl : lv_has ls 2 [(0, .ref (ad 6)), (1, .int y1)] := hl
  refine lv_aload_n hx hb dX8_fail_0 rfl (lv_at hl 0 rfl) ?_
  refine lv_iload_n hx hb dX8_fail_1 rfl (lv_at hl 1 rfl) ?_
  refine jx_putg xw (g := g) (lg := lg) (ar := ar) (bk := bk) (x := y1) 17 (ci := 11) (C := RX8) (T := TX8) (N := 4) (ty := .int) hx hb hts (fun _ h => List.mem_cons_of_mem _ (wwXc_wsX80 _ h)) tyX8 tyX8_ok nmX8 hown hw 6 rfl rfl 3 (by decide) (hq _ wX_692) rfl (by decide +kernel) rfl rfl (Nat.le_of_ble_eq_true rfl) dX8_fail_2 rfl (fun H locs g1 h_g1 hw => ?_)
  obtain ⟨hlocks, hno, hA9, hQ9⟩ := hQ
  subst hQ9
  subst hA9
  exact hk_ythrow (S := jS) (u := (g1, lg, ar, bk)) (names := ["java/lang/RuntimeException", "java/lang/Exception"]) hx hb hlt hown (by decide +kernel) (by decide +kernel) (hq _ wX_693) (hq _ wX_694) (fun w h => hq w (wwXc_t0 w h)) xb_8b xb_8o hZ hw ⟨(hk_frG hk_fr0 (by decide) h_g1), rfl, rfl, rfl⟩ hno (by rw [hml]; exact hl.1) dX8_fail_5 dX8_fail_8 dX8_fail_9 dX8_fail_12 (Nat.le_of_ble_eq_true rfl) (Nat.le_of_ble_eq_true rfl) (Nat.le_of_ble_eq_true rfl) (Nat.le_of_ble_eq_true rfl) hlocks (Nat.le_of_ble_eq_true rfl) (Nat.le_of_ble_eq_true rfl)

set_option maxHeartbeats 4000000 in
set_option maxRecDepth 100000 in
/-- X8_low on (6,) -/
theorem jx_X8_low (l : Launch) (hlt : l.stackTraces = false) (D : va_G) (t3 : Nat × Nat × Nat) (cI cJ : ClassId) (ad : Nat → Nat) (g : Nat → Int32) (lg : Nat → Int64) (ar : Nat → Nat → Int32) (bk : Nat → Int64) (sz : Nat) (y1 : Int32) (hi_a0rg : hk_rg 0 255 (ar 0)) : JMl l yX8_low (Cond.code yX8_low cX8_low 5 (some .long) :: wwX) { frames := 7, cells := 1, slots := 6, locals := 102 } t3 D xw cI cJ ad [.ref (ad 6), .int y1] (xw cI cJ ad g lg ar bk) sz 1 6 (fun (r : Int64) g' lg' ar' bk' => hk_fr [15, 17] g g' ∧ lg = lg' ∧ ar = ar' ∧ bk = bk') (fun g' lg' ar' bk' => hk_fr [15, 17] g g' ∧ lg = lg' ∧ ar = ar' ∧ bk = bk') := by
  refine jx_metl (cc := cX8_low) (maxL := 5) (ret := (some .long)) rfl (by decide) rfl (Nat.le_of_ble_eq_true rfl) ?_
  intro p e s m args below meth c ls Q A hx hb hml hown hts hA hZ hw hl hQ kr kt
  have hq : ∀ w ∈ wwX, w.before args s = true := fun w h => hts w (List.mem_cons_of_mem _ h)
  have hl : lv_has ls 5 [(0, .ref (ad 6)), (1, .int y1)] := hl
  refine lv_lconst (v := 0) hx hb dX8_low_0 (by decide) ?_
  refine lv_lstore_n (lv' := [(2, .long 0), (0, .ref (ad 6)), (1, .int y1)]) hx hb dX8_low_1 rfl hl (by decide) rfl (fun ls hl => ?_)
  refine lv_iconst (v := 0) hx hb dX8_low_2 (by decide) ?_
  refine lv_istore (lv' := [(4, .int 0), (2, .long 0), (0, .ref (ad 6)), (1, .int y1)]) hx hb dX8_low_3 hl (by decide) rfl (fun ls hl => ?_)
  have B1 : ∀ (k5 : Nat) (x2 : Int64) (x3 : Int32) (g4 : Nat → Int32) (ls : Array Slot) (H : Heap) (locs : List Loc), (2147483648 - (x3).toInt ≤ (k5 : Int)) → (0 ≤ (x3).toInt) → (hk_fr [15, 17] g g4) → hk_W D (jT cI cJ) A s H locs (xw cI cJ ad g4 lg ar bk) → lv_has ls 5 [(0, .ref (ad 6)), (1, .int y1), (2, .long x2), (4, .int x3)] → W p l e { frames := 7, cells := 1, slots := 6, locals := 102 } s m args below meth c H locs 0 0 Q (F0 m 5 ls []) := by
    intro k5
    induction k5 with
    | zero =>
      intro x2 x3 g4 ls H locs hrk_B1 hf_B1_0 hfr_g4 hw hl
      exact False.elim (hk_no0 (0 * (x3).toInt) (ob5 ((x3).toInt) hf_B1_0 hrk_B1 (hE_rng (x3))) (by simp))
    | succ k5 ih_B1 =>
      intro x2 x3 g4 ls H locs hrk_B1 hf_B1_0 hfr_g4 hw hl
      have hrk_B1 := hk_rk hrk_B1
      refine lv_iload hx hb dX8_low_5 (lv_at hl 3 rfl) ?_
      refine lv_iload_n hx hb dX8_low_7 rfl (lv_at hl 1 rfl) ?_
      refine lv_icmp_ge (tgt := 31) hx hb dX8_low_8 (by decide) (fun cc6 => ?_) (fun cc6 => ?_)
      · refine lv_lload_n hx hb dX8_low_31 rfl (lv_at hl 2 rfl) ?_
        exact kr x2 g4 lg ar bk _ _ _ _ ⟨hfr_g4, rfl, rfl, rfl⟩ hw dX8_low_32
      · refine lv_lload_n hx hb dX8_low_11 rfl (lv_at hl 2 rfl) ?_
        refine lv_aload_n hx hb dX8_low_12 rfl (lv_at hl 0 rfl) ?_
        refine jx_Vi (As := []) (rest := [.long x2]) ⟨hx, hb, hml, hown, hts⟩ hZ hw hA (jx_X8_next l hlt D t3 cI cJ ad g4 lg ar bk _ hi_a0rg) (cwV 0 hts (jx_gV wwX_good wX_695 wX_250 wX_251 wX_252 wX_253) rfl rfl rfl (by decide +kernel) ⟨Nat.le_of_ble_eq_true rfl, Nat.le_of_ble_eq_true rfl⟩) 6 (ci := 11) (T := TX8) (N := 4) rfl rfl rfl hl.1 rfl (Nat.le_of_ble_eq_true rfl) dX8_low_13 ⟨Nat.le_of_ble_eq_true rfl, Nat.le_of_ble_eq_true rfl⟩ (fun u7 u8 u9 u10 H locs ce q hp hw h1 h2 h3 => by obtain ⟨ht0, rfl, rfl, rfl⟩ := hp; exact kt _ _ _ _ _ _ _ _ _ _ _ ⟨(hk_frT hfr_g4 (by decide) ht0), rfl, rfl, rfl⟩ hw h1 h2 h3) (fun r11 g12 l13 a14 b15 H locs hp16 hw => ?_)
        obtain ⟨h17, rfl, rfl, rfl, h21⟩ := hp16
        refine lv_i2l hx hb dX8_low_16 rfl (jx_nl fun z22 hz22 => ?_)
        refine lv_bipush (v := 8) hx hb dX8_low_17 (by decide) ?_
        refine lv_iload hx hb dX8_low_19 (lv_at hl 3 rfl) ?_
        refine lv_imul hx hb dX8_low_21 (jx_nm fun z23 hz23 => ?_)
        refine lv_lshl hx hb dX8_low_22 rfl (jx_nl fun z24 hz24 => ?_)
        refine lv_lor hx hb dX8_low_23 (jx_nl fun z25 hz25 => ?_)
        refine lv_lstore_n (lv' := [(2, .long z25), (0, .ref (ad 6)), (1, .int y1), (4, .int x3)]) hx hb dX8_low_24 rfl hl (by decide) rfl (fun ls hl => ?_)
        obtain ⟨z26, hz26⟩ : ∃ z : Int32, x3 + 1 = z := ⟨_, rfl⟩
        refine lv_iinc (v := z26) (lv' := [(4, .int z26), (2, .long z25), (0, .ref (ad 6)), (1, .int y1)]) hx hb dX8_low_25 hl (k := 3) rfl hz26 (by decide) rfl (fun ls hl => ?_)
        have xz26 : (z26).toInt = (x3).toInt + ((1 : Int32)).toInt := (hE_imp (hE_add hz26) (ob6 ((x3).toInt) (((1 : Int32)).toInt) (k5 : Int) ((y1).toInt) hf_B1_0 hrk_B1 (hE_nle cc6) (hE_rng (x3)) (by decide) (hE_rng (y1))))
        refine lv_goto (tgt := 5) hx hb dX8_low_28 (by decide) ?_
        exact ih_B1 z25 z26 g12 ls _ _ (ob7 ((z26).toInt) (k5 : Int) ((x3).toInt) (((1 : Int32)).toInt) ((y1).toInt) hrk_B1 xz26 hf_B1_0 (hE_nle cc6) (hE_rng (z26)) (hE_rng (x3)) (by decide) (hE_rng (y1))) (ob8 ((z26).toInt) ((x3).toInt) (((1 : Int32)).toInt) (k5 : Int) ((y1).toInt) xz26 hf_B1_0 hrk_B1 (hE_nle cc6) (hE_rng (z26)) (hE_rng (x3)) (by decide) (hE_rng (y1))) (hk_frT hfr_g4 (by decide) h17) hw (lv_sub hl [2, 3, 1, 0] rfl)
  exact B1 (2147483648 - ((0 : Int32)).toInt).toNat 0 0 g ls _ _ (Int.self_le_toNat _) (ob9 (((0 : Int32)).toInt) (by decide)) hk_fr0 hw (lv_sub hl [2, 3, 1, 0] rfl)

set_option maxHeartbeats 4000000 in
set_option maxRecDepth 100000 in
/-- X8_high on (6,) -/
theorem jx_X8_high (l : Launch) (hlt : l.stackTraces = false) (D : va_G) (t3 : Nat × Nat × Nat) (cI cJ : ClassId) (ad : Nat → Nat) (g : Nat → Int32) (lg : Nat → Int64) (ar : Nat → Nat → Int32) (bk : Nat → Int64) (sz : Nat) (y1 : Int32) (hi_a0rg : hk_rg 0 255 (ar 0)) : JMi l yX8_high (Cond.code yX8_high cX8_high 4 (some .int) :: wwX) { frames := 7, cells := 1, slots := 6, locals := 102 } t3 D xw cI cJ ad [.ref (ad 6), .int y1] (xw cI cJ ad g lg ar bk) sz 1 6 (fun (r : Int32) g' lg' ar' bk' => hk_fr [15, 17] g g' ∧ lg = lg' ∧ ar = ar' ∧ bk = bk') (fun g' lg' ar' bk' => hk_fr [15, 17] g g' ∧ lg = lg' ∧ ar = ar' ∧ bk = bk') := by
  refine jx_meti (cc := cX8_high) (maxL := 4) (ret := (some .int)) rfl (by decide) rfl (Nat.le_of_ble_eq_true rfl) ?_
  intro p e s m args below meth c ls Q A hx hb hml hown hts hA hZ hw hl hQ kr kt
  have hq : ∀ w ∈ wwX, w.before args s = true := fun w h => hts w (List.mem_cons_of_mem _ h)
  have hl : lv_has ls 4 [(0, .ref (ad 6)), (1, .int y1)] := hl
  refine lv_iconst (v := 0) hx hb dX8_high_0 (by decide) ?_
  refine lv_istore_n (lv' := [(2, .int 0), (0, .ref (ad 6)), (1, .int y1)]) hx hb dX8_high_1 rfl hl (by decide) rfl (fun ls hl => ?_)
  refine lv_iconst (v := 0) hx hb dX8_high_2 (by decide) ?_
  refine lv_istore_n (lv' := [(3, .int 0), (2, .int 0), (0, .ref (ad 6)), (1, .int y1)]) hx hb dX8_high_3 rfl hl (by decide) rfl (fun ls hl => ?_)
  have B1 : ∀ (k5 : Nat) (x2 : Int32) (x3 : Int32) (g4 : Nat → Int32) (ls : Array Slot) (H : Heap) (locs : List Loc), (2147483648 - (x3).toInt ≤ (k5 : Int)) → (0 ≤ (x3).toInt) → (hk_fr [15, 17] g g4) → hk_W D (jT cI cJ) A s H locs (xw cI cJ ad g4 lg ar bk) → lv_has ls 4 [(0, .ref (ad 6)), (1, .int y1), (2, .int x2), (3, .int x3)] → W p l e { frames := 7, cells := 1, slots := 6, locals := 102 } s m args below meth c H locs 0 0 Q (F0 m 4 ls []) := by
    intro k5
    induction k5 with
    | zero =>
      intro x2 x3 g4 ls H locs hrk_B1 hf_B1_0 hfr_g4 hw hl
      exact False.elim (hk_no0 (0 * (x3).toInt) (ob5 ((x3).toInt) hf_B1_0 hrk_B1 (hE_rng (x3))) (by simp))
    | succ k5 ih_B1 =>
      intro x2 x3 g4 ls H locs hrk_B1 hf_B1_0 hfr_g4 hw hl
      have hrk_B1 := hk_rk hrk_B1
      refine lv_iload_n hx hb dX8_high_4 rfl (lv_at hl 3 rfl) ?_
      refine lv_iload_n hx hb dX8_high_5 rfl (lv_at hl 1 rfl) ?_
      refine lv_icmp_ge (tgt := 25) hx hb dX8_high_6 (by decide) (fun cc6 => ?_) (fun cc6 => ?_)
      · refine lv_iload_n hx hb dX8_high_25 rfl (lv_at hl 2 rfl) ?_
        exact kr x2 g4 lg ar bk _ _ _ _ ⟨hfr_g4, rfl, rfl, rfl⟩ hw dX8_high_26
      · refine lv_iload_n hx hb dX8_high_9 rfl (lv_at hl 2 rfl) ?_
        refine lv_bipush (v := 8) hx hb dX8_high_10 (by decide) ?_
        refine lv_ishl hx hb dX8_high_12 (jx_nm fun z7 hz7 => ?_)
        refine lv_aload_n hx hb dX8_high_13 rfl (lv_at hl 0 rfl) ?_
        refine jx_Vi (As := []) (rest := [.int z7]) ⟨hx, hb, hml, hown, hts⟩ hZ hw hA (jx_X8_next l hlt D t3 cI cJ ad g4 lg ar bk _ hi_a0rg) (cwV 0 hts (jx_gV wwX_good wX_695 wX_250 wX_251 wX_252 wX_253) rfl rfl rfl (by decide +kernel) ⟨Nat.le_of_ble_eq_true rfl, Nat.le_of_ble_eq_true rfl⟩) 6 (ci := 11) (T := TX8) (N := 4) rfl rfl rfl hl.1 rfl (Nat.le_of_ble_eq_true rfl) dX8_high_14 ⟨Nat.le_of_ble_eq_true rfl, Nat.le_of_ble_eq_true rfl⟩ (fun u8 u9 u10 u11 H locs ce q hp hw h1 h2 h3 => by obtain ⟨ht0, rfl, rfl, rfl⟩ := hp; exact kt _ _ _ _ _ _ _ _ _ _ _ ⟨(hk_frT hfr_g4 (by decide) ht0), rfl, rfl, rfl⟩ hw h1 h2 h3) (fun r12 g13 l14 a15 b16 H locs hp17 hw => ?_)
        obtain ⟨h18, rfl, rfl, rfl, h22⟩ := hp17
        refine lv_ior hx hb dX8_high_17 (jx_nm fun z23 hz23 => ?_)
        refine lv_istore_n (lv' := [(2, .int z23), (0, .ref (ad 6)), (1, .int y1), (3, .int x3)]) hx hb dX8_high_18 rfl hl (by decide) rfl (fun ls hl => ?_)
        obtain ⟨z24, hz24⟩ : ∃ z : Int32, x3 + 1 = z := ⟨_, rfl⟩
        refine lv_iinc (v := z24) (lv' := [(3, .int z24), (2, .int z23), (0, .ref (ad 6)), (1, .int y1)]) hx hb dX8_high_19 hl (k := 3) rfl hz24 (by decide) rfl (fun ls hl => ?_)
        have xz24 : (z24).toInt = (x3).toInt + ((1 : Int32)).toInt := (hE_imp (hE_add hz24) (ob6 ((x3).toInt) (((1 : Int32)).toInt) (k5 : Int) ((y1).toInt) hf_B1_0 hrk_B1 (hE_nle cc6) (hE_rng (x3)) (by decide) (hE_rng (y1))))
        refine lv_goto (tgt := 4) hx hb dX8_high_22 (by decide) ?_
        exact ih_B1 z23 z24 g13 ls _ _ (ob7 ((z24).toInt) (k5 : Int) ((x3).toInt) (((1 : Int32)).toInt) ((y1).toInt) hrk_B1 xz24 hf_B1_0 (hE_nle cc6) (hE_rng (z24)) (hE_rng (x3)) (by decide) (hE_rng (y1))) (ob8 ((z24).toInt) ((x3).toInt) (((1 : Int32)).toInt) (k5 : Int) ((y1).toInt) xz24 hf_B1_0 hrk_B1 (hE_nle cc6) (hE_rng (z24)) (hE_rng (x3)) (by decide) (hE_rng (y1))) (hk_frT hfr_g4 (by decide) h18) hw (lv_sub hl [2, 3, 1, 0] rfl)
  exact B1 (2147483648 - ((0 : Int32)).toInt).toNat 0 0 g ls _ _ (Int.self_le_toNat _) (ob9 (((0 : Int32)).toInt) (by decide)) hk_fr0 hw (lv_sub hl [2, 3, 1, 0] rfl)

set_option maxHeartbeats 4000000 in
set_option maxRecDepth 100000 in
/-- X10_propertyByte on (1,) -/
theorem jx_X10_propertyByte (l : Launch) (hlt : l.stackTraces = false) (D : va_G) (t3 : Nat × Nat × Nat) (cI cJ : ClassId) (ad : Nat → Nat) (g : Nat → Int32) (lg : Nat → Int64) (ar : Nat → Nat → Int32) (bk : Nat → Int64) (sz : Nat) : JMi l yX10_propertyByte (Cond.code yX10_propertyByte cX10_propertyByte 1 (some .int) :: wwX) { frames := 0, cells := 1, slots := 6, locals := 0 } t3 D xw cI cJ ad [.ref (ad 1)] (xw cI cJ ad g lg ar bk) sz 1 6 (fun (r : Int32) g' lg' ar' bk' => g = g' ∧ lg = lg' ∧ ar = ar' ∧ bk = bk') (fun g' lg' ar' bk' => False) := by
  refine jx_meti (cc := cX10_propertyByte) (maxL := 1) (ret := (some .int)) rfl (by decide) rfl (Nat.le_of_ble_eq_true rfl) ?_
  intro p e s m args below meth c ls Q A hx hb hml hown hts hA hZ hw hl hQ kr kt
  have hq : ∀ w ∈ wwX, w.before args s = true := fun w h => hts w (List.mem_cons_of_mem _ h)
  have hl : lv_has ls 1 [(0, .ref (ad 1))] := hl
  refine lv_aload_n hx hb dX10_propertyByte_0 rfl (lv_at hl 0 rfl) ?_
  refine hk_get (ci := 13) (C := RX10) (T := TX10) (N := 10) (v := .int (g 5)) hx hb hts (fun _ h => List.mem_cons_of_mem _ (wwXc_wsX100 _ h)) hown hw 1 rfl rfl 2 (by decide) (hq _ wX_51) rfl dX10_propertyByte_1 ?_
  refine lv_iconst (v := 5) hx hb dX10_propertyByte_4 (by decide) ?_
  refine lv_imul hx hb dX10_propertyByte_5 (jx_nm fun z1 hz1 => ?_)
  refine lv_aload_n hx hb dX10_propertyByte_6 rfl (lv_at hl 0 rfl) ?_
  refine hk_get (ci := 13) (C := RX10) (T := TX10) (N := 10) (v := .int (g 4)) hx hb hts (fun _ h => List.mem_cons_of_mem _ (wwXc_wsX100 _ h)) hown hw 1 rfl rfl 1 (by decide) (hq _ wX_52) rfl dX10_propertyByte_7 ?_
  refine lv_iadd hx hb dX10_propertyByte_10 (jx_nm fun z2 hz2 => ?_)
  refine lv_bipush (v := 9) hx hb dX10_propertyByte_11 (by decide) ?_
  refine lv_imul hx hb dX10_propertyByte_13 (jx_nm fun z3 hz3 => ?_)
  refine lv_aload_n hx hb dX10_propertyByte_14 rfl (lv_at hl 0 rfl) ?_
  refine hk_get (ci := 13) (C := RX10) (T := TX10) (N := 10) (v := .int (g 3)) hx hb hts (fun _ h => List.mem_cons_of_mem _ (wwXc_wsX100 _ h)) hown hw 1 rfl rfl 0 (by decide) (hq _ wX_53) rfl dX10_propertyByte_15 ?_
  refine lv_iadd hx hb dX10_propertyByte_18 (jx_nm fun z4 hz4 => ?_)
  exact kr z4 g lg ar bk _ _ _ _ ⟨rfl, rfl, rfl, rfl⟩ hw dX10_propertyByte_19
