/-! filter, with its answer: X -/
theorem ox1 (v0 : Int) (v1 : Int) (v2 : Int) (v3 : Int) (h0 : v0 ≠ v2) (h1 : v0 ≠ v3) (h2 : v2 = 0) (h3 : v3 = 1) : ((v0 = 0 ∧ 0 ≤ v1 ∧ v1 ≤ 256 ∨ v0 = 1 ∧ 0 ≤ v1 ∧ v1 ≤ 1) ∧ v2 = 1) ∨ (¬ (v0 = 0 ∧ 0 ≤ v1 ∧ v1 ≤ 256 ∨ v0 = 1 ∧ 0 ≤ v1 ∧ v1 ≤ 1) ∧ v2 = 0) := by omega
theorem ox2 (v0 : Int) (v1 : Int) (v2 : Int) (v3 : Int) (h0 : v0 = v2) (h1 : v1 = v3) (h2 : v2 = 1) (h3 : v3 = 0) : ((v0 = 0 ∧ 0 ≤ v1 ∧ v1 ≤ 256 ∨ v0 = 1 ∧ 0 ≤ v1 ∧ v1 ≤ 1) ∧ v2 = 1) ∨ (¬ (v0 = 0 ∧ 0 ≤ v1 ∧ v1 ≤ 256 ∨ v0 = 1 ∧ 0 ≤ v1 ∧ v1 ≤ 1) ∧ v2 = 0) := by omega
theorem ox3 (v0 : Int) (v1 : Int) (v2 : Int) (v3 : Int) (h0 : v0 = v3) (h1 : v1 ≠ v2) (h2 : v1 ≠ v3) (h3 : v2 = 0) (h4 : v3 = 1) : ((v0 = 0 ∧ 0 ≤ v1 ∧ v1 ≤ 256 ∨ v0 = 1 ∧ 0 ≤ v1 ∧ v1 ≤ 1) ∧ v2 = 1) ∨ (¬ (v0 = 0 ∧ 0 ≤ v1 ∧ v1 ≤ 256 ∨ v0 = 1 ∧ 0 ≤ v1 ∧ v1 ≤ 1) ∧ v2 = 0) := by omega
theorem ox4 (v0 : Int) (v1 : Int) (v2 : Int) (h0 : v0 = v2) (h1 : v1 = v2) (h2 : v2 = 1) : ((v0 = 0 ∧ 0 ≤ v1 ∧ v1 ≤ 256 ∨ v0 = 1 ∧ 0 ≤ v1 ∧ v1 ≤ 1) ∧ v2 = 1) ∨ (¬ (v0 = 0 ∧ 0 ≤ v1 ∧ v1 ≤ 256 ∨ v0 = 1 ∧ 0 ≤ v1 ∧ v1 ≤ 1) ∧ v2 = 0) := by omega
theorem ox5 (v0 : Int) (v1 : Int) (v2 : Int) (h0 : v1 < v2) (h1 : v2 = 0) : ((v0 = 0 ∧ 0 ≤ v1 ∧ v1 ≤ 256 ∨ v0 = 1 ∧ 0 ≤ v1 ∧ v1 ≤ 1) ∧ v2 = 1) ∨ (¬ (v0 = 0 ∧ 0 ≤ v1 ∧ v1 ≤ 256 ∨ v0 = 1 ∧ 0 ≤ v1 ∧ v1 ≤ 1) ∧ v2 = 0) := by omega
theorem ox6 (v0 : Int) (v1 : Int) (v2 : Int) (v3 : Int) (h0 : v0 = v3) (h1 : v1 < v3) (h2 : v0 = v2) (h3 : v1 = v3) (h4 : v2 = 1) (h5 : v3 = 0) : ((v0 = 0 ∧ 0 ≤ v1 ∧ v1 ≤ 256 ∨ v0 = 1 ∧ 0 ≤ v1 ∧ v1 ≤ 1) ∧ v2 = 1) ∨ (¬ (v0 = 0 ∧ 0 ≤ v1 ∧ v1 ≤ 256 ∨ v0 = 1 ∧ 0 ≤ v1 ∧ v1 ≤ 1) ∧ v2 = 0) := by omega
theorem ox7 (v0 : Int) (v1 : Int) (v2 : Int) (v3 : Int) (h0 : v0 = v2) (h1 : v0 = v3) (h2 : v2 = 0) (h3 : v3 = 1) : ((v0 = 0 ∧ 0 ≤ v1 ∧ v1 ≤ 256 ∨ v0 = 1 ∧ 0 ≤ v1 ∧ v1 ≤ 1) ∧ v2 = 1) ∨ (¬ (v0 = 0 ∧ 0 ≤ v1 ∧ v1 ≤ 256 ∨ v0 = 1 ∧ 0 ≤ v1 ∧ v1 ≤ 1) ∧ v2 = 0) := by omega
theorem ox8 (v0 : Int) (v1 : Int) (v2 : Int) (v3 : Int) (h0 : v1 < v3) (h1 : v1 = v2) (h2 : v2 = 1) (h3 : v3 = 0) : ((v0 = 0 ∧ 0 ≤ v1 ∧ v1 ≤ 256 ∨ v0 = 1 ∧ 0 ≤ v1 ∧ v1 ≤ 1) ∧ v2 = 1) ∨ (¬ (v0 = 0 ∧ 0 ≤ v1 ∧ v1 ≤ 256 ∨ v0 = 1 ∧ 0 ≤ v1 ∧ v1 ≤ 1) ∧ v2 = 0) := by omega
theorem ox9 (v0 : Int) (v1 : Int) (v2 : Int) (v3 : Int) (h0 : v0 = v2) (h1 : v3 < v1) (h2 : v2 = 0) (h3 : v3 = 256) : ((v0 = 0 ∧ 0 ≤ v1 ∧ v1 ≤ 256 ∨ v0 = 1 ∧ 0 ≤ v1 ∧ v1 ≤ 1) ∧ v2 = 1) ∨ (¬ (v0 = 0 ∧ 0 ≤ v1 ∧ v1 ≤ 256 ∨ v0 = 1 ∧ 0 ≤ v1 ∧ v1 ≤ 1) ∧ v2 = 0) := by omega
theorem ox10 (v0 : Int) (v1 : Int) (v2 : Int) (v3 : Int) (v4 : Int) (h0 : v3 < v1) (h1 : v1 = v4) (h2 : v4 = 0) (h3 : v3 = 256) : ((v0 = 0 ∧ 0 ≤ v1 ∧ v1 ≤ 256 ∨ v0 = 1 ∧ 0 ≤ v1 ∧ v1 ≤ 1) ∧ v2 = 1) ∨ (¬ (v0 = 0 ∧ 0 ≤ v1 ∧ v1 ≤ 256 ∨ v0 = 1 ∧ 0 ≤ v1 ∧ v1 ≤ 1) ∧ v2 = 0) := by omega
theorem ox11 (v0 : Int) (v1 : Int) (v2 : Int) (v3 : Int) (v4 : Int) (h0 : v0 = v3) (h1 : v4 < v1) (h2 : v0 = v2) (h3 : v1 = v2) (h4 : v3 = 0) (h5 : v4 = 256) : ((v0 = 0 ∧ 0 ≤ v1 ∧ v1 ≤ 256 ∨ v0 = 1 ∧ 0 ≤ v1 ∧ v1 ≤ 1) ∧ v2 = 1) ∨ (¬ (v0 = 0 ∧ 0 ≤ v1 ∧ v1 ≤ 256 ∨ v0 = 1 ∧ 0 ≤ v1 ∧ v1 ≤ 1) ∧ v2 = 0) := by omega
theorem ox12 (v0 : Int) (v1 : Int) (v2 : Int) (v3 : Int) (v4 : Int) (h0 : v0 = v3) (h1 : v3 ≤ v1) (h2 : v1 ≤ v4) (h3 : v2 = 1) (h4 : v3 = 0) (h5 : v4 = 256) : ((v0 = 0 ∧ 0 ≤ v1 ∧ v1 ≤ 256 ∨ v0 = 1 ∧ 0 ≤ v1 ∧ v1 ≤ 1) ∧ v2 = 1) ∨ (¬ (v0 = 0 ∧ 0 ≤ v1 ∧ v1 ≤ 256 ∨ v0 = 1 ∧ 0 ≤ v1 ∧ v1 ≤ 1) ∧ v2 = 0) := by omega
theorem ox13 (v0 : Int) (v1 : Int) (v2 : Int) (v3 : Int) (h0 : ((v0 = 0 ∧ 0 ≤ v1 ∧ v1 ≤ 256 ∨ v0 = 1 ∧ 0 ≤ v1 ∧ v1 ≤ 1) ∧ v3 = 1) ∨ (¬ (v0 = 0 ∧ 0 ≤ v1 ∧ v1 ≤ 256 ∨ v0 = 1 ∧ 0 ≤ v1 ∧ v1 ≤ 1) ∧ v3 = 0)) (h1 : v3 = v2) (h2 : v2 = 0) : ((v0 = 0 ∧ 0 ≤ v1 ∧ v1 ≤ 256 ∨ v0 = 1 ∧ 0 ≤ v1 ∧ v1 ≤ 1) ∧ v2 = 1) ∨ (¬ (v0 = 0 ∧ 0 ≤ v1 ∧ v1 ≤ 256 ∨ v0 = 1 ∧ 0 ≤ v1 ∧ v1 ≤ 1) ∧ v2 = 0) := by omega
theorem ox14 (v0 : Int) (v1 : Int) (v2 : Int) (v3 : Int) (v4 : Int) (h0 : ((v0 = 0 ∧ 0 ≤ v1 ∧ v1 ≤ 256 ∨ v0 = 1 ∧ 0 ≤ v1 ∧ v1 ≤ 1) ∧ v3 = 1) ∨ (¬ (v0 = 0 ∧ 0 ≤ v1 ∧ v1 ≤ 256 ∨ v0 = 1 ∧ 0 ≤ v1 ∧ v1 ≤ 1) ∧ v3 = 0)) (h1 : v3 ≠ v4) (h2 : v2 = 1) (h3 : v4 = 0) : ((v0 = 0 ∧ 0 ≤ v1 ∧ v1 ≤ 256 ∨ v0 = 1 ∧ 0 ≤ v1 ∧ v1 ≤ 1) ∧ v2 = 1) ∨ (¬ (v0 = 0 ∧ 0 ≤ v1 ∧ v1 ≤ 256 ∨ v0 = 1 ∧ 0 ≤ v1 ∧ v1 ≤ 1) ∧ v2 = 0) := by omega
set_option maxHeartbeats 4000000 in
set_option maxRecDepth 100000 in
/-- X10_setFilter on (1,) -/
theorem jo_X10_setFilter (l : Launch) (hlt : l.stackTraces = false) (D : va_G) (t3 : Nat × Nat × Nat) (cI cJ : ClassId) (ad : Nat → Nat) (g : Nat → Int32) (lg : Nat → Int64) (ar : Nat → Nat → Int32) (bk : Nat → Int64) (sz : Nat) (y1 : Int32) (y2 : Int32) : JMi l yX10_setFilter (Cond.code yX10_setFilter cX10_setFilter 3 (some .boolean) :: wwX) { frames := 0, cells := 1, slots := 6, locals := 0 } t3 D xw cI cJ ad [.ref (ad 1), .int y1, .int y2] (xw cI cJ ad g lg ar bk) sz 1 6 (fun (r : Int32) g' lg' ar' bk' => hk_fr [11, 12] g g' ∧ lg = lg' ∧ ar = ar' ∧ bk = bk' ∧ ((((y1).toInt = 0 ∧ 0 ≤ (y2).toInt ∧ (y2).toInt ≤ 256 ∨ (y1).toInt = 1 ∧ 0 ≤ (y2).toInt ∧ (y2).toInt ≤ 1) ∧ (r).toInt = 1) ∨ (¬ ((y1).toInt = 0 ∧ 0 ≤ (y2).toInt ∧ (y2).toInt ≤ 256 ∨ (y1).toInt = 1 ∧ 0 ≤ (y2).toInt ∧ (y2).toInt ≤ 1) ∧ (r).toInt = 0))) (fun g' lg' ar' bk' => False) := by
  refine jx_metz (cc := cX10_setFilter) (maxL := 3) (ret := (some .boolean)) rfl (by decide) rfl (Nat.le_of_ble_eq_true rfl) ?_
  intro p e s m args below meth c ls Q A hx hb hml hown hts hA hZ hw hl hQ kr kt
  have hq : ∀ w ∈ wwX, w.before args s = true := fun w h => hts w (List.mem_cons_of_mem _ h)
  have hl : lv_has ls 3 [(0, .ref (ad 1)), (1, .int y1), (2, .int y2)] := hl
  refine lv_iload_n hx hb dX10_setFilter_0 rfl (lv_at hl 1 rfl) ?_
  refine lv_if_ne (tgt := 22) hx hb dX10_setFilter_1 (by decide) (fun cc1 => ?_) (fun cc1 => ?_)
  · refine lv_iload_n hx hb dX10_setFilter_22 rfl (lv_at hl 1 rfl) ?_
    refine lv_iconst (v := 1) hx hb dX10_setFilter_23 (by decide) ?_
    refine lv_icmp_ne (tgt := 43) hx hb dX10_setFilter_24 (by decide) (fun cc2 => ?_) (fun cc2 => ?_)
    · refine lv_iconst (v := 0) hx hb dX10_setFilter_43 (by decide) ?_
      exact kr 0 g lg ar bk _ _ _ _ rfl ⟨hk_fr0, rfl, rfl, rfl, (ox1 ((y1).toInt) ((y2).toInt) (((0 : Int32)).toInt) (((1 : Int32)).toInt) (hE_ne cc1) (hE_ne cc2) (by decide) (by decide))⟩ hw dX10_setFilter_44
    · refine lv_iload_n hx hb dX10_setFilter_27 rfl (lv_at hl 2 rfl) ?_
      refine lv_if_eq (tgt := 36) hx hb dX10_setFilter_28 (by decide) (fun cc3 => ?_) (fun cc3 => ?_)
      · refine lv_aload_n hx hb dX10_setFilter_36 rfl (lv_at hl 0 rfl) ?_
        refine lv_iload_n hx hb dX10_setFilter_37 rfl (lv_at hl 2 rfl) ?_
        refine jx_putg xw (cI := cI) (cJ := cJ) (ad := ad) (g := g) (lg := lg) (ar := ar) (bk := bk) (x := y2) 12 (ci := 13) (C := RX10) (T := TX10) (N := 10) (ty := .int) hx hb hts (fun _ h => List.mem_cons_of_mem _ (wwXc_wsX100 _ h)) tyX10 tyX10_ok nmX10 hown hw 1 rfl rfl 9 (by decide) (hq _ wX_56) rfl (by decide +kernel) rfl rfl (Nat.le_of_ble_eq_true rfl) dX10_setFilter_38 rfl (fun H locs g4 h_g4 hw => ?_)
        refine lv_iconst (v := 1) hx hb dX10_setFilter_41 (by decide) ?_
        exact kr 1 g4 lg ar bk _ _ _ _ rfl ⟨(hk_frG hk_fr0 (by decide) h_g4), rfl, rfl, rfl, (ox2 ((y1).toInt) ((y2).toInt) (((1 : Int32)).toInt) (((0 : Int32)).toInt) (hE_eq cc2) (hE_eq cc3) (by decide) (by decide))⟩ hw dX10_setFilter_42
      · refine lv_iload_n hx hb dX10_setFilter_31 rfl (lv_at hl 2 rfl) ?_
        refine lv_iconst (v := 1) hx hb dX10_setFilter_32 (by decide) ?_
        refine lv_icmp_ne (tgt := 43) hx hb dX10_setFilter_33 (by decide) (fun cc5 => ?_) (fun cc5 => ?_)
        · refine lv_iconst (v := 0) hx hb dX10_setFilter_43 (by decide) ?_
          exact kr 0 g lg ar bk _ _ _ _ rfl ⟨hk_fr0, rfl, rfl, rfl, (ox3 ((y1).toInt) ((y2).toInt) (((0 : Int32)).toInt) (((1 : Int32)).toInt) (hE_eq cc2) (hE_ne cc3) (hE_ne cc5) (by decide) (by decide))⟩ hw dX10_setFilter_44
        · refine lv_aload_n hx hb dX10_setFilter_36 rfl (lv_at hl 0 rfl) ?_
          refine lv_iload_n hx hb dX10_setFilter_37 rfl (lv_at hl 2 rfl) ?_
          refine jx_putg xw (cI := cI) (cJ := cJ) (ad := ad) (g := g) (lg := lg) (ar := ar) (bk := bk) (x := y2) 12 (ci := 13) (C := RX10) (T := TX10) (N := 10) (ty := .int) hx hb hts (fun _ h => List.mem_cons_of_mem _ (wwXc_wsX100 _ h)) tyX10 tyX10_ok nmX10 hown hw 1 rfl rfl 9 (by decide) (hq _ wX_56) rfl (by decide +kernel) rfl rfl (Nat.le_of_ble_eq_true rfl) dX10_setFilter_38 rfl (fun H locs g6 h_g6 hw => ?_)
          refine lv_iconst (v := 1) hx hb dX10_setFilter_41 (by decide) ?_
          exact kr 1 g6 lg ar bk _ _ _ _ rfl ⟨(hk_frG hk_fr0 (by decide) h_g6), rfl, rfl, rfl, (ox4 ((y1).toInt) ((y2).toInt) (((1 : Int32)).toInt) (hE_eq cc2) (hE_eq cc5) (by decide))⟩ hw dX10_setFilter_42
  · refine lv_iload_n hx hb dX10_setFilter_4 rfl (lv_at hl 2 rfl) ?_
    refine lv_if_lt (tgt := 22) hx hb dX10_setFilter_5 (by decide) (fun cc7 => ?_) (fun cc7 => ?_)
    · refine lv_iload_n hx hb dX10_setFilter_22 rfl (lv_at hl 1 rfl) ?_
      refine lv_iconst (v := 1) hx hb dX10_setFilter_23 (by decide) ?_
      refine lv_icmp_ne (tgt := 43) hx hb dX10_setFilter_24 (by decide) (fun cc8 => ?_) (fun cc8 => ?_)
      · refine lv_iconst (v := 0) hx hb dX10_setFilter_43 (by decide) ?_
        exact kr 0 g lg ar bk _ _ _ _ rfl ⟨hk_fr0, rfl, rfl, rfl, (ox5 ((y1).toInt) ((y2).toInt) (((0 : Int32)).toInt) (hE_lt cc7) (by decide))⟩ hw dX10_setFilter_44
      · refine lv_iload_n hx hb dX10_setFilter_27 rfl (lv_at hl 2 rfl) ?_
        refine lv_if_eq (tgt := 36) hx hb dX10_setFilter_28 (by decide) (fun cc9 => ?_) (fun cc9 => ?_)
        · refine lv_aload_n hx hb dX10_setFilter_36 rfl (lv_at hl 0 rfl) ?_
          refine lv_iload_n hx hb dX10_setFilter_37 rfl (lv_at hl 2 rfl) ?_
          refine jx_putg xw (cI := cI) (cJ := cJ) (ad := ad) (g := g) (lg := lg) (ar := ar) (bk := bk) (x := y2) 12 (ci := 13) (C := RX10) (T := TX10) (N := 10) (ty := .int) hx hb hts (fun _ h => List.mem_cons_of_mem _ (wwXc_wsX100 _ h)) tyX10 tyX10_ok nmX10 hown hw 1 rfl rfl 9 (by decide) (hq _ wX_56) rfl (by decide +kernel) rfl rfl (Nat.le_of_ble_eq_true rfl) dX10_setFilter_38 rfl (fun H locs g10 h_g10 hw => ?_)
          refine lv_iconst (v := 1) hx hb dX10_setFilter_41 (by decide) ?_
          exact kr 1 g10 lg ar bk _ _ _ _ rfl ⟨(hk_frG hk_fr0 (by decide) h_g10), rfl, rfl, rfl, (ox6 ((y1).toInt) ((y2).toInt) (((1 : Int32)).toInt) (((0 : Int32)).toInt) (hE_eq cc1) (hE_lt cc7) (hE_eq cc8) (hE_eq cc9) (by decide) (by decide))⟩ hw dX10_setFilter_42
        · refine lv_iload_n hx hb dX10_setFilter_31 rfl (lv_at hl 2 rfl) ?_
          refine lv_iconst (v := 1) hx hb dX10_setFilter_32 (by decide) ?_
          refine lv_icmp_ne (tgt := 43) hx hb dX10_setFilter_33 (by decide) (fun cc11 => ?_) (fun cc11 => ?_)
          · refine lv_iconst (v := 0) hx hb dX10_setFilter_43 (by decide) ?_
            exact kr 0 g lg ar bk _ _ _ _ rfl ⟨hk_fr0, rfl, rfl, rfl, (ox7 ((y1).toInt) ((y2).toInt) (((0 : Int32)).toInt) (((1 : Int32)).toInt) (hE_eq cc1) (hE_eq cc8) (by decide) (by decide))⟩ hw dX10_setFilter_44
          · refine lv_aload_n hx hb dX10_setFilter_36 rfl (lv_at hl 0 rfl) ?_
            refine lv_iload_n hx hb dX10_setFilter_37 rfl (lv_at hl 2 rfl) ?_
            refine jx_putg xw (cI := cI) (cJ := cJ) (ad := ad) (g := g) (lg := lg) (ar := ar) (bk := bk) (x := y2) 12 (ci := 13) (C := RX10) (T := TX10) (N := 10) (ty := .int) hx hb hts (fun _ h => List.mem_cons_of_mem _ (wwXc_wsX100 _ h)) tyX10 tyX10_ok nmX10 hown hw 1 rfl rfl 9 (by decide) (hq _ wX_56) rfl (by decide +kernel) rfl rfl (Nat.le_of_ble_eq_true rfl) dX10_setFilter_38 rfl (fun H locs g12 h_g12 hw => ?_)
            refine lv_iconst (v := 1) hx hb dX10_setFilter_41 (by decide) ?_
            exact kr 1 g12 lg ar bk _ _ _ _ rfl ⟨(hk_frG hk_fr0 (by decide) h_g12), rfl, rfl, rfl, (ox8 ((y1).toInt) ((y2).toInt) (((1 : Int32)).toInt) (((0 : Int32)).toInt) (hE_lt cc7) (hE_eq cc11) (by decide) (by decide))⟩ hw dX10_setFilter_42
    · refine lv_iload_n hx hb dX10_setFilter_8 rfl (lv_at hl 2 rfl) ?_
      refine lv_sipush (v := 256) hx hb dX10_setFilter_9 (by decide) ?_
      refine lv_icmp_gt (tgt := 22) hx hb dX10_setFilter_12 (by decide) (fun cc13 => ?_) (fun cc13 => ?_)
      · refine lv_iload_n hx hb dX10_setFilter_22 rfl (lv_at hl 1 rfl) ?_
        refine lv_iconst (v := 1) hx hb dX10_setFilter_23 (by decide) ?_
        refine lv_icmp_ne (tgt := 43) hx hb dX10_setFilter_24 (by decide) (fun cc14 => ?_) (fun cc14 => ?_)
        · refine lv_iconst (v := 0) hx hb dX10_setFilter_43 (by decide) ?_
          exact kr 0 g lg ar bk _ _ _ _ rfl ⟨hk_fr0, rfl, rfl, rfl, (ox9 ((y1).toInt) ((y2).toInt) (((0 : Int32)).toInt) (((256 : Int32)).toInt) (hE_eq cc1) (hE_lt cc13) (by decide) (by decide))⟩ hw dX10_setFilter_44
        · refine lv_iload_n hx hb dX10_setFilter_27 rfl (lv_at hl 2 rfl) ?_
          refine lv_if_eq (tgt := 36) hx hb dX10_setFilter_28 (by decide) (fun cc15 => ?_) (fun cc15 => ?_)
          · refine lv_aload_n hx hb dX10_setFilter_36 rfl (lv_at hl 0 rfl) ?_
            refine lv_iload_n hx hb dX10_setFilter_37 rfl (lv_at hl 2 rfl) ?_
            refine jx_putg xw (cI := cI) (cJ := cJ) (ad := ad) (g := g) (lg := lg) (ar := ar) (bk := bk) (x := y2) 12 (ci := 13) (C := RX10) (T := TX10) (N := 10) (ty := .int) hx hb hts (fun _ h => List.mem_cons_of_mem _ (wwXc_wsX100 _ h)) tyX10 tyX10_ok nmX10 hown hw 1 rfl rfl 9 (by decide) (hq _ wX_56) rfl (by decide +kernel) rfl rfl (Nat.le_of_ble_eq_true rfl) dX10_setFilter_38 rfl (fun H locs g16 h_g16 hw => ?_)
            refine lv_iconst (v := 1) hx hb dX10_setFilter_41 (by decide) ?_
            exact kr 1 g16 lg ar bk _ _ _ _ rfl ⟨(hk_frG hk_fr0 (by decide) h_g16), rfl, rfl, rfl, (ox10 ((y1).toInt) ((y2).toInt) (((1 : Int32)).toInt) (((256 : Int32)).toInt) (((0 : Int32)).toInt) (hE_lt cc13) (hE_eq cc15) (by decide) (by decide))⟩ hw dX10_setFilter_42
          · refine lv_iload_n hx hb dX10_setFilter_31 rfl (lv_at hl 2 rfl) ?_
            refine lv_iconst (v := 1) hx hb dX10_setFilter_32 (by decide) ?_
            refine lv_icmp_ne (tgt := 43) hx hb dX10_setFilter_33 (by decide) (fun cc17 => ?_) (fun cc17 => ?_)
            · refine lv_iconst (v := 0) hx hb dX10_setFilter_43 (by decide) ?_
              exact kr 0 g lg ar bk _ _ _ _ rfl ⟨hk_fr0, rfl, rfl, rfl, (ox7 ((y1).toInt) ((y2).toInt) (((0 : Int32)).toInt) (((1 : Int32)).toInt) (hE_eq cc1) (hE_eq cc14) (by decide) (by decide))⟩ hw dX10_setFilter_44
            · refine lv_aload_n hx hb dX10_setFilter_36 rfl (lv_at hl 0 rfl) ?_
              refine lv_iload_n hx hb dX10_setFilter_37 rfl (lv_at hl 2 rfl) ?_
              refine jx_putg xw (cI := cI) (cJ := cJ) (ad := ad) (g := g) (lg := lg) (ar := ar) (bk := bk) (x := y2) 12 (ci := 13) (C := RX10) (T := TX10) (N := 10) (ty := .int) hx hb hts (fun _ h => List.mem_cons_of_mem _ (wwXc_wsX100 _ h)) tyX10 tyX10_ok nmX10 hown hw 1 rfl rfl 9 (by decide) (hq _ wX_56) rfl (by decide +kernel) rfl rfl (Nat.le_of_ble_eq_true rfl) dX10_setFilter_38 rfl (fun H locs g18 h_g18 hw => ?_)
              refine lv_iconst (v := 1) hx hb dX10_setFilter_41 (by decide) ?_
              exact kr 1 g18 lg ar bk _ _ _ _ rfl ⟨(hk_frG hk_fr0 (by decide) h_g18), rfl, rfl, rfl, (ox11 ((y1).toInt) ((y2).toInt) (((1 : Int32)).toInt) (((0 : Int32)).toInt) (((256 : Int32)).toInt) (hE_eq cc1) (hE_lt cc13) (hE_eq cc14) (hE_eq cc17) (by decide) (by decide))⟩ hw dX10_setFilter_42
      · refine lv_aload_n hx hb dX10_setFilter_15 rfl (lv_at hl 0 rfl) ?_
        refine lv_iload_n hx hb dX10_setFilter_16 rfl (lv_at hl 2 rfl) ?_
        refine jx_putg xw (cI := cI) (cJ := cJ) (ad := ad) (g := g) (lg := lg) (ar := ar) (bk := bk) (x := y2) 11 (ci := 13) (C := RX10) (T := TX10) (N := 10) (ty := .int) hx hb hts (fun _ h => List.mem_cons_of_mem _ (wwXc_wsX100 _ h)) tyX10 tyX10_ok nmX10 hown hw 1 rfl rfl 8 (by decide) (hq _ wX_55) rfl (by decide +kernel) rfl rfl (Nat.le_of_ble_eq_true rfl) dX10_setFilter_17 rfl (fun H locs g19 h_g19 hw => ?_)
        refine lv_iconst (v := 1) hx hb dX10_setFilter_20 (by decide) ?_
        exact kr 1 g19 lg ar bk _ _ _ _ rfl ⟨(hk_frG hk_fr0 (by decide) h_g19), rfl, rfl, rfl, (ox12 ((y1).toInt) ((y2).toInt) (((1 : Int32)).toInt) (((0 : Int32)).toInt) (((256 : Int32)).toInt) (hE_eq cc1) (hE_nlt cc7) (hE_nlt cc13) (by decide) (by decide) (by decide))⟩ hw dX10_setFilter_21

set_option maxHeartbeats 4000000 in
set_option maxRecDepth 100000 in
/-- X11_filter on (0,) -/
theorem jo_X11_filter (l : Launch) (hlt : l.stackTraces = false) (D : va_G) (t3 : Nat × Nat × Nat) (cI cJ : ClassId) (ad : Nat → Nat) (g : Nat → Int32) (lg : Nat → Int64) (ar : Nat → Nat → Int32) (bk : Nat → Int64) (sz : Nat) (y1 : Int32) (y2 : Int32) : JMi l yX11_filter (Cond.code yX11_filter cX11_filter 3 (some .int) :: wwX) { frames := 1, cells := 1, slots := 6, locals := 22 } t3 D xw cI cJ ad [.ref (ad 0), .int y1, .int y2] (xw cI cJ ad g lg ar bk) sz 1 6 (fun (r : Int32) g' lg' ar' bk' => hk_fr [11, 12] g g' ∧ lg = lg' ∧ ar = ar' ∧ bk = bk' ∧ ((((y1).toInt = 0 ∧ 0 ≤ (y2).toInt ∧ (y2).toInt ≤ 256 ∨ (y1).toInt = 1 ∧ 0 ≤ (y2).toInt ∧ (y2).toInt ≤ 1) ∧ (r).toInt = 1) ∨ (¬ ((y1).toInt = 0 ∧ 0 ≤ (y2).toInt ∧ (y2).toInt ≤ 256 ∨ (y1).toInt = 1 ∧ 0 ≤ (y2).toInt ∧ (y2).toInt ≤ 1) ∧ (r).toInt = 0))) (fun g' lg' ar' bk' => False) := by
  refine jx_meti (cc := cX11_filter) (maxL := 3) (ret := (some .int)) rfl (by decide) rfl (Nat.le_of_ble_eq_true rfl) ?_
  intro p e s m args below meth c ls Q A hx hb hml hown hts hA hZ hw hl hQ kr kt
  have hq : ∀ w ∈ wwX, w.before args s = true := fun w h => hts w (List.mem_cons_of_mem _ h)
  have hl : lv_has ls 3 [(0, .ref (ad 0)), (1, .int y1), (2, .int y2)] := hl
  refine lv_aload_n hx hb dX11_filter_0 rfl (lv_at hl 0 rfl) ?_
  refine hk_get (ci := 14) (C := RX11) (T := TX11) (N := 11) (v := .ref (ad 1)) hx hb hts (fun _ h => List.mem_cons_of_mem _ (wwXc_wsX110 _ h)) hown hw 0 rfl rfl 1 (by decide) (hq _ wX_88) rfl dX11_filter_1 ?_
  refine lv_iload_n hx hb dX11_filter_4 rfl (lv_at hl 1 rfl) ?_
  refine lv_iload_n hx hb dX11_filter_5 rfl (lv_at hl 2 rfl) ?_
  refine jx_Vi (As := [.int y1, .int y2]) (rest := []) ⟨hx, hb, hml, hown, hts⟩ hZ hw hA (jo_X10_setFilter l hlt D t3 cI cJ ad g lg ar bk _ y1 y2) (cwV 2 hts (jx_gV wwX_good wX_89 wX_90 wX_91 wX_92 wX_93) rfl rfl rfl (by decide +kernel) ⟨Nat.le_of_ble_eq_true rfl, Nat.le_of_ble_eq_true rfl⟩) 1 (ci := 13) (T := TX10) (N := 10) rfl rfl rfl hl.1 rfl (Nat.le_of_ble_eq_true rfl) dX11_filter_6 ⟨Nat.le_of_ble_eq_true rfl, Nat.le_of_ble_eq_true rfl⟩ (fun _ _ _ _ _ _ _ _ hp _ _ _ _ => hp.elim) (fun r5 g6 l7 a8 b9 H locs hp10 hw => ?_)
  obtain ⟨h11, rfl, rfl, rfl, h15⟩ := hp10
  refine lv_if_eq (tgt := 16) hx hb dX11_filter_9 (by decide) (fun cc16 => ?_) (fun cc16 => ?_)
  · refine lv_iconst (v := 0) hx hb dX11_filter_16 (by decide) ?_
    exact kr 0 g6 lg ar bk _ _ _ _ ⟨h11, rfl, rfl, rfl, (ox13 ((y1).toInt) ((y2).toInt) (((0 : Int32)).toInt) ((r5).toInt) h15 (hE_eq cc16) (by decide))⟩ hw dX11_filter_17
  · refine lv_iconst (v := 1) hx hb dX11_filter_12 (by decide) ?_
    refine lv_goto (tgt := 17) hx hb dX11_filter_13 (by decide) ?_
    exact kr 1 g6 lg ar bk _ _ _ _ ⟨h11, rfl, rfl, rfl, (ox14 ((y1).toInt) ((y2).toInt) (((1 : Int32)).toInt) ((r5).toInt) (((0 : Int32)).toInt) h15 (hE_ne cc16) (by decide) (by decide))⟩ hw dX11_filter_17
/-! filter, with its answer: M -/
theorem oy1 (v0 : Int) (v1 : Int) (v2 : Int) (v3 : Int) (h0 : v0 ≠ v2) (h1 : v0 ≠ v3) (h2 : v2 = 0) (h3 : v3 = 1) : ((v0 = 0 ∧ 0 ≤ v1 ∧ v1 ≤ 256 ∨ v0 = 1 ∧ 0 ≤ v1 ∧ v1 ≤ 1) ∧ v2 = 1) ∨ (¬ (v0 = 0 ∧ 0 ≤ v1 ∧ v1 ≤ 256 ∨ v0 = 1 ∧ 0 ≤ v1 ∧ v1 ≤ 1) ∧ v2 = 0) := by omega
theorem oy2 (v0 : Int) (v1 : Int) (h0 : v0 = v1) (h1 : 0 ≤ v1 ∧ v1 ≤ 256) : 0 ≤ v0 ∧ v0 ≤ 256 := by omega
theorem oy3 (v0 : Int) (v1 : Int) (v2 : Int) (v3 : Int) (h0 : v0 = v3) (h1 : v1 < v2) (h2 : v2 = 0) (h3 : v3 = 1) : ((v0 = 0 ∧ 0 ≤ v1 ∧ v1 ≤ 256 ∨ v0 = 1 ∧ 0 ≤ v1 ∧ v1 ≤ 1) ∧ v2 = 1) ∨ (¬ (v0 = 0 ∧ 0 ≤ v1 ∧ v1 ≤ 256 ∨ v0 = 1 ∧ 0 ≤ v1 ∧ v1 ≤ 1) ∧ v2 = 0) := by omega
theorem oy4 (v0 : Int) (v1 : Int) (v2 : Int) (v3 : Int) (h0 : v0 = v3) (h1 : v3 < v1) (h2 : v2 = 0) (h3 : v3 = 1) : ((v0 = 0 ∧ 0 ≤ v1 ∧ v1 ≤ 256 ∨ v0 = 1 ∧ 0 ≤ v1 ∧ v1 ≤ 1) ∧ v2 = 1) ∨ (¬ (v0 = 0 ∧ 0 ≤ v1 ∧ v1 ≤ 256 ∨ v0 = 1 ∧ 0 ≤ v1 ∧ v1 ≤ 1) ∧ v2 = 0) := by omega
theorem oy5 (v0 : Int) (v1 : Int) (v2 : Int) (v3 : Int) (h0 : v0 = v2) (h1 : v3 ≤ v1) (h2 : v1 ≤ v2) (h3 : v2 = 1) (h4 : v3 = 0) : ((v0 = 0 ∧ 0 ≤ v1 ∧ v1 ≤ 256 ∨ v0 = 1 ∧ 0 ≤ v1 ∧ v1 ≤ 1) ∧ v2 = 1) ∨ (¬ (v0 = 0 ∧ 0 ≤ v1 ∧ v1 ≤ 256 ∨ v0 = 1 ∧ 0 ≤ v1 ∧ v1 ≤ 1) ∧ v2 = 0) := by omega
theorem oy6 (v0 : Int) (v1 : Int) (v2 : Int) (h0 : v1 < v2) (h1 : v2 = 0) : ((v0 = 0 ∧ 0 ≤ v1 ∧ v1 ≤ 256 ∨ v0 = 1 ∧ 0 ≤ v1 ∧ v1 ≤ 1) ∧ v2 = 1) ∨ (¬ (v0 = 0 ∧ 0 ≤ v1 ∧ v1 ≤ 256 ∨ v0 = 1 ∧ 0 ≤ v1 ∧ v1 ≤ 1) ∧ v2 = 0) := by omega
theorem oy7 (v0 : Int) (v1 : Int) (v2 : Int) (v3 : Int) (h0 : v0 = v2) (h1 : v0 = v3) (h2 : v2 = 0) (h3 : v3 = 1) : ((v0 = 0 ∧ 0 ≤ v1 ∧ v1 ≤ 256 ∨ v0 = 1 ∧ 0 ≤ v1 ∧ v1 ≤ 1) ∧ v2 = 1) ∨ (¬ (v0 = 0 ∧ 0 ≤ v1 ∧ v1 ≤ 256 ∨ v0 = 1 ∧ 0 ≤ v1 ∧ v1 ≤ 1) ∧ v2 = 0) := by omega
theorem oy8 (v0 : Int) (v1 : Int) (v2 : Int) (v3 : Int) (h0 : v1 < v2) (h1 : v3 < v1) (h2 : v2 = 0) (h3 : v3 = 1) : ((v0 = 0 ∧ 0 ≤ v1 ∧ v1 ≤ 256 ∨ v0 = 1 ∧ 0 ≤ v1 ∧ v1 ≤ 1) ∧ v2 = 1) ∨ (¬ (v0 = 0 ∧ 0 ≤ v1 ∧ v1 ≤ 256 ∨ v0 = 1 ∧ 0 ≤ v1 ∧ v1 ≤ 1) ∧ v2 = 0) := by omega
theorem oy9 (v0 : Int) (v1 : Int) (v2 : Int) (v3 : Int) (h0 : v0 = v3) (h1 : v1 < v3) (h2 : v0 = v2) (h3 : v3 ≤ v1) (h4 : v2 = 1) (h5 : v3 = 0) : ((v0 = 0 ∧ 0 ≤ v1 ∧ v1 ≤ 256 ∨ v0 = 1 ∧ 0 ≤ v1 ∧ v1 ≤ 1) ∧ v2 = 1) ∨ (¬ (v0 = 0 ∧ 0 ≤ v1 ∧ v1 ≤ 256 ∨ v0 = 1 ∧ 0 ≤ v1 ∧ v1 ≤ 1) ∧ v2 = 0) := by omega
theorem oy10 (v0 : Int) (v1 : Int) (v2 : Int) (v3 : Int) (h0 : v0 = v2) (h1 : v3 < v1) (h2 : v2 = 0) (h3 : v3 = 256) : ((v0 = 0 ∧ 0 ≤ v1 ∧ v1 ≤ 256 ∨ v0 = 1 ∧ 0 ≤ v1 ∧ v1 ≤ 1) ∧ v2 = 1) ∨ (¬ (v0 = 0 ∧ 0 ≤ v1 ∧ v1 ≤ 256 ∨ v0 = 1 ∧ 0 ≤ v1 ∧ v1 ≤ 1) ∧ v2 = 0) := by omega
theorem oy11 (v0 : Int) (v1 : Int) (v2 : Int) (v3 : Int) (h0 : v3 < v1) (h1 : v1 < v2) (h2 : v2 = 0) (h3 : v3 = 256) : ((v0 = 0 ∧ 0 ≤ v1 ∧ v1 ≤ 256 ∨ v0 = 1 ∧ 0 ≤ v1 ∧ v1 ≤ 1) ∧ v2 = 1) ∨ (¬ (v0 = 0 ∧ 0 ≤ v1 ∧ v1 ≤ 256 ∨ v0 = 1 ∧ 0 ≤ v1 ∧ v1 ≤ 1) ∧ v2 = 0) := by omega
theorem oy12 (v0 : Int) (v1 : Int) (v2 : Int) (v3 : Int) (v4 : Int) (h0 : v0 = v3) (h1 : v4 < v1) (h2 : v0 = v2) (h3 : v1 ≤ v2) (h4 : v3 = 0) (h5 : v4 = 256) : ((v0 = 0 ∧ 0 ≤ v1 ∧ v1 ≤ 256 ∨ v0 = 1 ∧ 0 ≤ v1 ∧ v1 ≤ 1) ∧ v2 = 1) ∨ (¬ (v0 = 0 ∧ 0 ≤ v1 ∧ v1 ≤ 256 ∨ v0 = 1 ∧ 0 ≤ v1 ∧ v1 ≤ 1) ∧ v2 = 0) := by omega
theorem oy13 (v0 : Int) (v1 : Int) (v2 : Int) (v3 : Int) (v4 : Int) (h0 : v0 = v3) (h1 : v3 ≤ v1) (h2 : v1 ≤ v4) (h3 : v2 = 1) (h4 : v3 = 0) (h5 : v4 = 256) : ((v0 = 0 ∧ 0 ≤ v1 ∧ v1 ≤ 256 ∨ v0 = 1 ∧ 0 ≤ v1 ∧ v1 ≤ 1) ∧ v2 = 1) ∨ (¬ (v0 = 0 ∧ 0 ≤ v1 ∧ v1 ≤ 256 ∨ v0 = 1 ∧ 0 ≤ v1 ∧ v1 ≤ 1) ∧ v2 = 0) := by omega
theorem oy14 (v0 : Int) (v1 : Int) (v2 : Int) (v3 : Int) (h0 : v0 = v1) (h1 : v2 ≤ v1) (h2 : v1 ≤ v3) (h3 : v2 = 0) (h4 : v3 = 256) : 0 ≤ v0 ∧ v0 ≤ 256 := by omega
set_option maxHeartbeats 4000000 in
set_option maxRecDepth 100000 in
/-- X12_filter on (0,) -/
theorem jo_X12_filter (l : Launch) (hlt : l.stackTraces = false) (D : va_G) (t3 : Nat × Nat × Nat) (cI cJ : ClassId) (ad : Nat → Nat) (g : Nat → Int32) (lg : Nat → Int64) (ar : Nat → Nat → Int32) (bk : Nat → Int64) (sz : Nat) (y1 : Int32) (y2 : Int32) (hi_g10 : 0 ≤ (g 10).toInt ∧ (g 10).toInt ≤ 256) : JMi l yX12_filter (Cond.code yX12_filter cX12_filter 3 (some .int) :: wwM) { frames := 0, cells := 0, slots := 0, locals := 0 } t3 D mw cI cJ ad [.ref (ad 0), .int y1, .int y2] (mw cI cJ ad g lg ar bk) sz 0 0 (fun (r : Int32) g' lg' ar' bk' => hk_fr [1, 10, 11] g g' ∧ lg = lg' ∧ ar = ar' ∧ bk = bk' ∧ ((((y1).toInt = 0 ∧ 0 ≤ (y2).toInt ∧ (y2).toInt ≤ 256 ∨ (y1).toInt = 1 ∧ 0 ≤ (y2).toInt ∧ (y2).toInt ≤ 1) ∧ (r).toInt = 1) ∨ (¬ ((y1).toInt = 0 ∧ 0 ≤ (y2).toInt ∧ (y2).toInt ≤ 256 ∨ (y1).toInt = 1 ∧ 0 ≤ (y2).toInt ∧ (y2).toInt ≤ 1) ∧ (r).toInt = 0)) ∧ (0 ≤ (g' 10).toInt ∧ (g' 10).toInt ≤ 256)) (fun g' lg' ar' bk' => False) := by
  refine jx_meti (cc := cX12_filter) (maxL := 3) (ret := (some .int)) rfl (by decide) rfl (Nat.le_of_ble_eq_true rfl) ?_
  intro p e s m args below meth c ls Q A hx hb hml hown hts hA hZ hw hl hQ kr kt
  have hq : ∀ w ∈ wwM, w.before args s = true := fun w h => hts w (List.mem_cons_of_mem _ h)
  have hl : lv_has ls 3 [(0, .ref (ad 0)), (1, .int y1), (2, .int y2)] := hl
  refine lv_aload_n hx hb dX12_filter_0 rfl (lv_at hl 0 rfl) ?_
  refine lv_iconst (v := 0) hx hb dX12_filter_1 (by decide) ?_
  refine jx_putg mw (cI := cI) (cJ := cJ) (ad := ad) (g := g) (lg := lg) (ar := ar) (bk := bk) (x := 0) 1 (ci := 15) (C := RX12) (T := TX12) (N := 92) (ty := .int) hx hb hts (fun _ h => List.mem_cons_of_mem _ (wwMc_wsX120 _ h)) tyX12 tyX12_ok nmX12 hown hw 0 rfl rfl 1 (by decide) (hq _ wM_103) rfl (by decide +kernel) rfl rfl (Nat.le_of_ble_eq_true rfl) dX12_filter_2 rfl (fun H locs g1 h_g1 hw => ?_)
  refine lv_iload_n hx hb dX12_filter_5 rfl (lv_at hl 1 rfl) ?_
  refine lv_if_ne (tgt := 27) hx hb dX12_filter_6 (by decide) (fun cc2 => ?_) (fun cc2 => ?_)
  · refine lv_iload_n hx hb dX12_filter_27 rfl (lv_at hl 1 rfl) ?_
    refine lv_iconst (v := 1) hx hb dX12_filter_28 (by decide) ?_
    refine lv_icmp_ne (tgt := 48) hx hb dX12_filter_29 (by decide) (fun cc3 => ?_) (fun cc3 => ?_)
    · refine lv_iconst (v := 0) hx hb dX12_filter_48 (by decide) ?_
      have e_g1_10 : g1 10 = (g 10) := (hk_upgN h_g1 10 rfl)
      exact kr 0 g1 lg ar bk _ _ _ _ ⟨(hk_frG hk_fr0 (by decide) h_g1), rfl, rfl, rfl, (oy1 ((y1).toInt) ((y2).toInt) (((0 : Int32)).toInt) (((1 : Int32)).toInt) (hE_ne cc2) (hE_ne cc3) (by decide) (by decide)), (oy2 ((g1 10).toInt) ((g 10).toInt) (congrArg Int32.toInt e_g1_10) hi_g10)⟩ hw dX12_filter_49
    · refine lv_iload_n hx hb dX12_filter_32 rfl (lv_at hl 2 rfl) ?_
      refine lv_if_lt (tgt := 48) hx hb dX12_filter_33 (by decide) (fun cc4 => ?_) (fun cc4 => ?_)
      · refine lv_iconst (v := 0) hx hb dX12_filter_48 (by decide) ?_
        have e_g1_10 : g1 10 = (g 10) := (hk_upgN h_g1 10 rfl)
        exact kr 0 g1 lg ar bk _ _ _ _ ⟨(hk_frG hk_fr0 (by decide) h_g1), rfl, rfl, rfl, (oy3 ((y1).toInt) ((y2).toInt) (((0 : Int32)).toInt) (((1 : Int32)).toInt) (hE_eq cc3) (hE_lt cc4) (by decide) (by decide)), (oy2 ((g1 10).toInt) ((g 10).toInt) (congrArg Int32.toInt e_g1_10) hi_g10)⟩ hw dX12_filter_49
      · refine lv_iload_n hx hb dX12_filter_36 rfl (lv_at hl 2 rfl) ?_
        refine lv_iconst (v := 1) hx hb dX12_filter_37 (by decide) ?_
        refine lv_icmp_gt (tgt := 48) hx hb dX12_filter_38 (by decide) (fun cc5 => ?_) (fun cc5 => ?_)
        · refine lv_iconst (v := 0) hx hb dX12_filter_48 (by decide) ?_
          have e_g1_10 : g1 10 = (g 10) := (hk_upgN h_g1 10 rfl)
          exact kr 0 g1 lg ar bk _ _ _ _ ⟨(hk_frG hk_fr0 (by decide) h_g1), rfl, rfl, rfl, (oy4 ((y1).toInt) ((y2).toInt) (((0 : Int32)).toInt) (((1 : Int32)).toInt) (hE_eq cc3) (hE_lt cc5) (by decide) (by decide)), (oy2 ((g1 10).toInt) ((g 10).toInt) (congrArg Int32.toInt e_g1_10) hi_g10)⟩ hw dX12_filter_49
        · refine lv_aload_n hx hb dX12_filter_41 rfl (lv_at hl 0 rfl) ?_
          refine lv_iload_n hx hb dX12_filter_42 rfl (lv_at hl 2 rfl) ?_
          refine jx_putg mw (cI := cI) (cJ := cJ) (ad := ad) (g := g1) (lg := lg) (ar := ar) (bk := bk) (x := y2) 11 (ci := 15) (C := RX12) (T := TX12) (N := 92) (ty := .int) hx hb hts (fun _ h => List.mem_cons_of_mem _ (wwMc_wsX120 _ h)) tyX12 tyX12_ok nmX12 hown hw 0 rfl rfl 11 (by decide) (hq _ wM_205) rfl (by decide +kernel) rfl rfl (Nat.le_of_ble_eq_true rfl) dX12_filter_43 rfl (fun H locs g6 h_g6 hw => ?_)
          refine lv_iconst (v := 1) hx hb dX12_filter_46 (by decide) ?_
          have e_g6_10 : g6 10 = (g 10) := ((hk_upgN h_g6 10 rfl)).trans (hk_upgN h_g1 10 rfl)
          exact kr 1 g6 lg ar bk _ _ _ _ ⟨(hk_frG (hk_frG hk_fr0 (by decide) h_g1) (by decide) h_g6), rfl, rfl, rfl, (oy5 ((y1).toInt) ((y2).toInt) (((1 : Int32)).toInt) (((0 : Int32)).toInt) (hE_eq cc3) (hE_nlt cc4) (hE_nlt cc5) (by decide) (by decide)), (oy2 ((g6 10).toInt) ((g 10).toInt) (congrArg Int32.toInt e_g6_10) hi_g10)⟩ hw dX12_filter_47
  · refine lv_iload_n hx hb dX12_filter_9 rfl (lv_at hl 2 rfl) ?_
    refine lv_if_lt (tgt := 27) hx hb dX12_filter_10 (by decide) (fun cc7 => ?_) (fun cc7 => ?_)
    · refine lv_iload_n hx hb dX12_filter_27 rfl (lv_at hl 1 rfl) ?_
      refine lv_iconst (v := 1) hx hb dX12_filter_28 (by decide) ?_
      refine lv_icmp_ne (tgt := 48) hx hb dX12_filter_29 (by decide) (fun cc8 => ?_) (fun cc8 => ?_)
      · refine lv_iconst (v := 0) hx hb dX12_filter_48 (by decide) ?_
        have e_g1_10 : g1 10 = (g 10) := (hk_upgN h_g1 10 rfl)
        exact kr 0 g1 lg ar bk _ _ _ _ ⟨(hk_frG hk_fr0 (by decide) h_g1), rfl, rfl, rfl, (oy6 ((y1).toInt) ((y2).toInt) (((0 : Int32)).toInt) (hE_lt cc7) (by decide)), (oy2 ((g1 10).toInt) ((g 10).toInt) (congrArg Int32.toInt e_g1_10) hi_g10)⟩ hw dX12_filter_49
      · refine lv_iload_n hx hb dX12_filter_32 rfl (lv_at hl 2 rfl) ?_
        refine lv_if_lt (tgt := 48) hx hb dX12_filter_33 (by decide) (fun cc9 => ?_) (fun cc9 => ?_)
        · refine lv_iconst (v := 0) hx hb dX12_filter_48 (by decide) ?_
          have e_g1_10 : g1 10 = (g 10) := (hk_upgN h_g1 10 rfl)
          exact kr 0 g1 lg ar bk _ _ _ _ ⟨(hk_frG hk_fr0 (by decide) h_g1), rfl, rfl, rfl, (oy7 ((y1).toInt) ((y2).toInt) (((0 : Int32)).toInt) (((1 : Int32)).toInt) (hE_eq cc2) (hE_eq cc8) (by decide) (by decide)), (oy2 ((g1 10).toInt) ((g 10).toInt) (congrArg Int32.toInt e_g1_10) hi_g10)⟩ hw dX12_filter_49
        · refine lv_iload_n hx hb dX12_filter_36 rfl (lv_at hl 2 rfl) ?_
          refine lv_iconst (v := 1) hx hb dX12_filter_37 (by decide) ?_
          refine lv_icmp_gt (tgt := 48) hx hb dX12_filter_38 (by decide) (fun cc10 => ?_) (fun cc10 => ?_)
          · refine lv_iconst (v := 0) hx hb dX12_filter_48 (by decide) ?_
            have e_g1_10 : g1 10 = (g 10) := (hk_upgN h_g1 10 rfl)
            exact kr 0 g1 lg ar bk _ _ _ _ ⟨(hk_frG hk_fr0 (by decide) h_g1), rfl, rfl, rfl, (oy8 ((y1).toInt) ((y2).toInt) (((0 : Int32)).toInt) (((1 : Int32)).toInt) (hE_lt cc7) (hE_lt cc10) (by decide) (by decide)), (oy2 ((g1 10).toInt) ((g 10).toInt) (congrArg Int32.toInt e_g1_10) hi_g10)⟩ hw dX12_filter_49
          · refine lv_aload_n hx hb dX12_filter_41 rfl (lv_at hl 0 rfl) ?_
            refine lv_iload_n hx hb dX12_filter_42 rfl (lv_at hl 2 rfl) ?_
            refine jx_putg mw (cI := cI) (cJ := cJ) (ad := ad) (g := g1) (lg := lg) (ar := ar) (bk := bk) (x := y2) 11 (ci := 15) (C := RX12) (T := TX12) (N := 92) (ty := .int) hx hb hts (fun _ h => List.mem_cons_of_mem _ (wwMc_wsX120 _ h)) tyX12 tyX12_ok nmX12 hown hw 0 rfl rfl 11 (by decide) (hq _ wM_205) rfl (by decide +kernel) rfl rfl (Nat.le_of_ble_eq_true rfl) dX12_filter_43 rfl (fun H locs g11 h_g11 hw => ?_)
            refine lv_iconst (v := 1) hx hb dX12_filter_46 (by decide) ?_
            have e_g11_10 : g11 10 = (g 10) := ((hk_upgN h_g11 10 rfl)).trans (hk_upgN h_g1 10 rfl)
            exact kr 1 g11 lg ar bk _ _ _ _ ⟨(hk_frG (hk_frG hk_fr0 (by decide) h_g1) (by decide) h_g11), rfl, rfl, rfl, (oy9 ((y1).toInt) ((y2).toInt) (((1 : Int32)).toInt) (((0 : Int32)).toInt) (hE_eq cc2) (hE_lt cc7) (hE_eq cc8) (hE_nlt cc9) (by decide) (by decide)), (oy2 ((g11 10).toInt) ((g 10).toInt) (congrArg Int32.toInt e_g11_10) hi_g10)⟩ hw dX12_filter_47
    · refine lv_iload_n hx hb dX12_filter_13 rfl (lv_at hl 2 rfl) ?_
      refine lv_sipush (v := 256) hx hb dX12_filter_14 (by decide) ?_
      refine lv_icmp_gt (tgt := 27) hx hb dX12_filter_17 (by decide) (fun cc12 => ?_) (fun cc12 => ?_)
      · refine lv_iload_n hx hb dX12_filter_27 rfl (lv_at hl 1 rfl) ?_
        refine lv_iconst (v := 1) hx hb dX12_filter_28 (by decide) ?_
        refine lv_icmp_ne (tgt := 48) hx hb dX12_filter_29 (by decide) (fun cc13 => ?_) (fun cc13 => ?_)
        · refine lv_iconst (v := 0) hx hb dX12_filter_48 (by decide) ?_
          have e_g1_10 : g1 10 = (g 10) := (hk_upgN h_g1 10 rfl)
          exact kr 0 g1 lg ar bk _ _ _ _ ⟨(hk_frG hk_fr0 (by decide) h_g1), rfl, rfl, rfl, (oy10 ((y1).toInt) ((y2).toInt) (((0 : Int32)).toInt) (((256 : Int32)).toInt) (hE_eq cc2) (hE_lt cc12) (by decide) (by decide)), (oy2 ((g1 10).toInt) ((g 10).toInt) (congrArg Int32.toInt e_g1_10) hi_g10)⟩ hw dX12_filter_49
        · refine lv_iload_n hx hb dX12_filter_32 rfl (lv_at hl 2 rfl) ?_
          refine lv_if_lt (tgt := 48) hx hb dX12_filter_33 (by decide) (fun cc14 => ?_) (fun cc14 => ?_)
          · refine lv_iconst (v := 0) hx hb dX12_filter_48 (by decide) ?_
            have e_g1_10 : g1 10 = (g 10) := (hk_upgN h_g1 10 rfl)
            exact kr 0 g1 lg ar bk _ _ _ _ ⟨(hk_frG hk_fr0 (by decide) h_g1), rfl, rfl, rfl, (oy11 ((y1).toInt) ((y2).toInt) (((0 : Int32)).toInt) (((256 : Int32)).toInt) (hE_lt cc12) (hE_lt cc14) (by decide) (by decide)), (oy2 ((g1 10).toInt) ((g 10).toInt) (congrArg Int32.toInt e_g1_10) hi_g10)⟩ hw dX12_filter_49
          · refine lv_iload_n hx hb dX12_filter_36 rfl (lv_at hl 2 rfl) ?_
            refine lv_iconst (v := 1) hx hb dX12_filter_37 (by decide) ?_
            refine lv_icmp_gt (tgt := 48) hx hb dX12_filter_38 (by decide) (fun cc15 => ?_) (fun cc15 => ?_)
            · refine lv_iconst (v := 0) hx hb dX12_filter_48 (by decide) ?_
              have e_g1_10 : g1 10 = (g 10) := (hk_upgN h_g1 10 rfl)
              exact kr 0 g1 lg ar bk _ _ _ _ ⟨(hk_frG hk_fr0 (by decide) h_g1), rfl, rfl, rfl, (oy7 ((y1).toInt) ((y2).toInt) (((0 : Int32)).toInt) (((1 : Int32)).toInt) (hE_eq cc2) (hE_eq cc13) (by decide) (by decide)), (oy2 ((g1 10).toInt) ((g 10).toInt) (congrArg Int32.toInt e_g1_10) hi_g10)⟩ hw dX12_filter_49
            · refine lv_aload_n hx hb dX12_filter_41 rfl (lv_at hl 0 rfl) ?_
              refine lv_iload_n hx hb dX12_filter_42 rfl (lv_at hl 2 rfl) ?_
              refine jx_putg mw (cI := cI) (cJ := cJ) (ad := ad) (g := g1) (lg := lg) (ar := ar) (bk := bk) (x := y2) 11 (ci := 15) (C := RX12) (T := TX12) (N := 92) (ty := .int) hx hb hts (fun _ h => List.mem_cons_of_mem _ (wwMc_wsX120 _ h)) tyX12 tyX12_ok nmX12 hown hw 0 rfl rfl 11 (by decide) (hq _ wM_205) rfl (by decide +kernel) rfl rfl (Nat.le_of_ble_eq_true rfl) dX12_filter_43 rfl (fun H locs g16 h_g16 hw => ?_)
              refine lv_iconst (v := 1) hx hb dX12_filter_46 (by decide) ?_
              have e_g16_10 : g16 10 = (g 10) := ((hk_upgN h_g16 10 rfl)).trans (hk_upgN h_g1 10 rfl)
              exact kr 1 g16 lg ar bk _ _ _ _ ⟨(hk_frG (hk_frG hk_fr0 (by decide) h_g1) (by decide) h_g16), rfl, rfl, rfl, (oy12 ((y1).toInt) ((y2).toInt) (((1 : Int32)).toInt) (((0 : Int32)).toInt) (((256 : Int32)).toInt) (hE_eq cc2) (hE_lt cc12) (hE_eq cc13) (hE_nlt cc15) (by decide) (by decide)), (oy2 ((g16 10).toInt) ((g 10).toInt) (congrArg Int32.toInt e_g16_10) hi_g10)⟩ hw dX12_filter_47
      · refine lv_aload_n hx hb dX12_filter_20 rfl (lv_at hl 0 rfl) ?_
        refine lv_iload_n hx hb dX12_filter_21 rfl (lv_at hl 2 rfl) ?_
        refine jx_putg mw (cI := cI) (cJ := cJ) (ad := ad) (g := g1) (lg := lg) (ar := ar) (bk := bk) (x := y2) 10 (ci := 15) (C := RX12) (T := TX12) (N := 92) (ty := .int) hx hb hts (fun _ h => List.mem_cons_of_mem _ (wwMc_wsX120 _ h)) tyX12 tyX12_ok nmX12 hown hw 0 rfl rfl 10 (by decide) (hq _ wM_204) rfl (by decide +kernel) rfl rfl (Nat.le_of_ble_eq_true rfl) dX12_filter_22 rfl (fun H locs g17 h_g17 hw => ?_)
        refine lv_iconst (v := 1) hx hb dX12_filter_25 (by decide) ?_
        have e_g17_10 : g17 10 = y2 := (hk_upgS h_g17)
        exact kr 1 g17 lg ar bk _ _ _ _ ⟨(hk_frG (hk_frG hk_fr0 (by decide) h_g1) (by decide) h_g17), rfl, rfl, rfl, (oy13 ((y1).toInt) ((y2).toInt) (((1 : Int32)).toInt) (((0 : Int32)).toInt) (((256 : Int32)).toInt) (hE_eq cc2) (hE_nlt cc7) (hE_nlt cc12) (by decide) (by decide) (by decide)), (oy14 ((g17 10).toInt) ((y2).toInt) (((0 : Int32)).toInt) (((256 : Int32)).toInt) (congrArg Int32.toInt e_g17_10) (hE_nlt cc7) (hE_nlt cc12) (by decide) (by decide))⟩ hw dX12_filter_26
