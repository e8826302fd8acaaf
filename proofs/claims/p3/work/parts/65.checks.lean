/-! 65.checks -/
theorem ob147 (v0 : Int) (v1 : Int) (v2 : Int) (h0 : v0 = v1 % 8) (h1 : v1 = v2 / 4) (h2 : -2147483648 ≤ v0 ∧ v0 ≤ 2147483647) (h3 : -2147483648 ≤ v1 ∧ v1 ≤ 2147483647) (h4 : -2147483648 ≤ v2 ∧ v2 ≤ 2147483647) : 0 ≤ v0 ∧ v0 < (8 : Nat) := by omega
theorem ob148 (v0 : Int) (v1 : Int) (v2 : Int) (v3 : Int) (v4 : Int) (h0 : v0 = (v1 - v2 + 2147483648) % 4294967296 - 2147483648) (h1 : v1 ≤ 7) (h2 : v1 + 2147483649 ≤ v3 + 1) (h3 : v4 < v1) (h4 : -2147483648 ≤ v0 ∧ v0 ≤ 2147483647) (h5 : -2147483648 ≤ v1 ∧ v1 ≤ 2147483647) (h6 : v2 = 1) (h7 : v4 = 0) : 0 ≤ v0 ∧ v0 < (8 : Nat) := by omega
theorem ob149 (v0 : Int) (v1 : Int) (v2 : Int) (v3 : Int) (v4 : Int) (h0 : v0 ≤ 7) (h1 : v0 + 2147483649 ≤ v1 + 1) (h2 : v2 < v0) (h3 : v3 = (v0 - v4 + 2147483648) % 4294967296 - 2147483648) (h4 : -2147483648 ≤ v0 ∧ v0 ≤ 2147483647) (h5 : v2 = 0) (h6 : -2147483648 ≤ v3 ∧ v3 ≤ 2147483647) (h7 : v4 = 1) : 0 ≤ v0 ∧ v0 < (8 : Nat) := by omega
theorem ob150 (v0 : Int) (v1 : Int) (v2 : Int) (v3 : Int) (v4 : Int) (v5 : Int) (v6 : Int) (h0 : v2 + 2147483649 ≤ v1 + 1) (h1 : v0 = (v2 + v3 + 2147483648) % 4294967296 - 2147483648) (h2 : v2 ≤ 7) (h3 : v4 < v2) (h4 : v5 = (v2 - v6 + 2147483648) % 4294967296 - 2147483648) (h5 : -2147483648 ≤ v0 ∧ v0 ≤ 2147483647) (h6 : -2147483648 ≤ v2 ∧ v2 ≤ 2147483647) (h7 : v3 = (-1)) (h8 : v4 = 0) (h9 : -2147483648 ≤ v5 ∧ v5 ≤ 2147483647) (h10 : v6 = 1) : v0 + 2147483649 ≤ v1 := by omega
theorem ob151 (v0 : Int) (v1 : Int) (v2 : Int) (v3 : Int) (v4 : Int) (v5 : Int) (v6 : Int) (h0 : v0 = (v1 + v2 + 2147483648) % 4294967296 - 2147483648) (h1 : v1 ≤ 7) (h2 : v1 + 2147483649 ≤ v3 + 1) (h3 : v4 < v1) (h4 : v5 = (v1 - v6 + 2147483648) % 4294967296 - 2147483648) (h5 : -2147483648 ≤ v0 ∧ v0 ≤ 2147483647) (h6 : -2147483648 ≤ v1 ∧ v1 ≤ 2147483647) (h7 : v2 = (-1)) (h8 : v4 = 0) (h9 : -2147483648 ≤ v5 ∧ v5 ≤ 2147483647) (h10 : v6 = 1) : v0 ≤ 7 := by omega
theorem ob152 (v0 : Int) (h0 : 16 ≤ v0) (h1 : 2147483648 - v0 ≤ 0) (h2 : -2147483648 ≤ v0 ∧ v0 ≤ 2147483647) : (0 * v0) ≤ -1 := by omega
theorem ob153 (v0 : Int) (v1 : Int) (v2 : Int) (h0 : 0 ≤ v0) (h1 : 2147483648 - v0 ≤ v1 + 1) (h2 : v0 < v2) (h3 : -2147483648 ≤ v0 ∧ v0 ≤ 2147483647) (h4 : v2 = 8) : 0 ≤ v0 ∧ v0 < (8 : Nat) := by omega
theorem ob154 (v0 : Int) (v1 : Int) (v2 : Int) (v3 : Int) (v4 : Int) (h0 : 2147483648 - v2 ≤ v1 + 1) (h1 : v0 = (v2 + v3 + 2147483648) % 4294967296 - 2147483648) (h2 : 0 ≤ v2) (h3 : v2 < v4) (h4 : -2147483648 ≤ v0 ∧ v0 ≤ 2147483647) (h5 : -2147483648 ≤ v2 ∧ v2 ≤ 2147483647) (h6 : v3 = 1) (h7 : v4 = 8) : 2147483648 - v0 ≤ v1 := by omega
theorem ob155 (v0 : Int) (v1 : Int) (v2 : Int) (v3 : Int) (v4 : Int) (h0 : v0 = (v1 + v2 + 2147483648) % 4294967296 - 2147483648) (h1 : 0 ≤ v1) (h2 : 2147483648 - v1 ≤ v3 + 1) (h3 : v1 < v4) (h4 : -2147483648 ≤ v0 ∧ v0 ≤ 2147483647) (h5 : -2147483648 ≤ v1 ∧ v1 ≤ 2147483647) (h6 : v2 = 1) (h7 : v4 = 8) : 0 ≤ v0 := by omega
theorem ob156 (v0 : Int) (v1 : Int) (v2 : Int) (v3 : Int) (v4 : Int) (h0 : 0 ≤ v0) (h1 : 2147483648 - v0 ≤ v1 + 1) (h2 : v0 < v2) (h3 : v2 ≤ v3) (h4 : 16 ≤ v3) (h5 : 2147483648 - v3 ≤ v4 + 1) (h6 : -2147483648 ≤ v0 ∧ v0 ≤ 2147483647) (h7 : v2 = 64) (h8 : -2147483648 ≤ v3 ∧ v3 ≤ 2147483647) : 0 ≤ v0 ∧ v0 < (64 : Nat) := by omega
theorem ob157 (v0 : Int) (v1 : Int) (v2 : Int) (v3 : Int) (v4 : Int) (v5 : Int) (v6 : Int) (h0 : 2147483648 - v2 ≤ v1 + 1) (h1 : v0 = (v2 + v3 + 2147483648) % 4294967296 - 2147483648) (h2 : 0 ≤ v2) (h3 : v2 < v4) (h4 : v4 ≤ v5) (h5 : 16 ≤ v5) (h6 : 2147483648 - v5 ≤ v6 + 1) (h7 : -2147483648 ≤ v0 ∧ v0 ≤ 2147483647) (h8 : -2147483648 ≤ v2 ∧ v2 ≤ 2147483647) (h9 : v3 = 1) (h10 : v4 = 64) (h11 : -2147483648 ≤ v5 ∧ v5 ≤ 2147483647) : 2147483648 - v0 ≤ v1 := by omega
theorem ob158 (v0 : Int) (v1 : Int) (v2 : Int) (v3 : Int) (v4 : Int) (v5 : Int) (v6 : Int) (h0 : v0 = (v1 + v2 + 2147483648) % 4294967296 - 2147483648) (h1 : 0 ≤ v1) (h2 : 2147483648 - v1 ≤ v3 + 1) (h3 : v1 < v4) (h4 : v4 ≤ v5) (h5 : 16 ≤ v5) (h6 : 2147483648 - v5 ≤ v6 + 1) (h7 : -2147483648 ≤ v0 ∧ v0 ≤ 2147483647) (h8 : -2147483648 ≤ v1 ∧ v1 ≤ 2147483647) (h9 : v2 = 1) (h10 : v4 = 64) (h11 : -2147483648 ≤ v5 ∧ v5 ≤ 2147483647) : 0 ≤ v0 := by omega
theorem ob159 (v0 : Int) (v1 : Int) (v2 : Int) (v3 : Int) (v4 : Int) (h0 : v0 = (v1 - v2 + 2147483648) % 4294967296 - 2147483648) (h1 : 16 ≤ v1) (h2 : 2147483648 - v1 ≤ v3 + 1) (h3 : v1 < v4) (h4 : -2147483648 ≤ v0 ∧ v0 ≤ 2147483647) (h5 : -2147483648 ≤ v1 ∧ v1 ≤ 2147483647) (h6 : v2 = 15) (h7 : v4 = 64) : 0 ≤ v0 ∧ v0 < (64 : Nat) := by omega
theorem ob160 (v0 : Int) (v1 : Int) (v2 : Int) (v3 : Int) (v4 : Int) (v5 : Int) (v6 : Int) (h0 : v0 = (v1 - v2 + 2147483648) % 4294967296 - 2147483648) (h1 : 16 ≤ v1) (h2 : 2147483648 - v1 ≤ v3 + 1) (h3 : v1 < v4) (h4 : v5 = (v1 - v6 + 2147483648) % 4294967296 - 2147483648) (h5 : -2147483648 ≤ v0 ∧ v0 ≤ 2147483647) (h6 : -2147483648 ≤ v1 ∧ v1 ≤ 2147483647) (h7 : v2 = 2) (h8 : v4 = 64) (h9 : -2147483648 ≤ v5 ∧ v5 ≤ 2147483647) (h10 : v6 = 15) : 0 ≤ v0 ∧ v0 < (64 : Nat) := by omega
theorem ob161 (v0 : Int) (v1 : Int) (v2 : Int) (v3 : Int) (v4 : Int) (v5 : Int) (v6 : Int) (v7 : Int) (v8 : Int) (h0 : v0 = (v1 - v2 + 2147483648) % 4294967296 - 2147483648) (h1 : 16 ≤ v1) (h2 : 2147483648 - v1 ≤ v3 + 1) (h3 : v1 < v4) (h4 : v5 = (v1 - v6 + 2147483648) % 4294967296 - 2147483648) (h5 : v7 = (v1 - v8 + 2147483648) % 4294967296 - 2147483648) (h6 : -2147483648 ≤ v0 ∧ v0 ≤ 2147483647) (h7 : -2147483648 ≤ v1 ∧ v1 ≤ 2147483647) (h8 : v2 = 16) (h9 : v4 = 64) (h10 : -2147483648 ≤ v5 ∧ v5 ≤ 2147483647) (h11 : v6 = 15) (h12 : -2147483648 ≤ v7 ∧ v7 ≤ 2147483647) (h13 : v8 = 2) : 0 ≤ v0 ∧ v0 < (64 : Nat) := by omega
theorem ob162 (v0 : Int) (v1 : Int) (v2 : Int) (v3 : Int) (v4 : Int) (v5 : Int) (v6 : Int) (v7 : Int) (v8 : Int) (v9 : Int) (v10 : Int) (h0 : v0 = (v1 - v2 + 2147483648) % 4294967296 - 2147483648) (h1 : 16 ≤ v1) (h2 : 2147483648 - v1 ≤ v3 + 1) (h3 : v1 < v4) (h4 : v5 = (v1 - v6 + 2147483648) % 4294967296 - 2147483648) (h5 : v7 = (v1 - v8 + 2147483648) % 4294967296 - 2147483648) (h6 : v9 = (v1 - v10 + 2147483648) % 4294967296 - 2147483648) (h7 : -2147483648 ≤ v0 ∧ v0 ≤ 2147483647) (h8 : -2147483648 ≤ v1 ∧ v1 ≤ 2147483647) (h9 : v2 = 7) (h10 : v4 = 64) (h11 : -2147483648 ≤ v5 ∧ v5 ≤ 2147483647) (h12 : v6 = 15) (h13 : -2147483648 ≤ v7 ∧ v7 ≤ 2147483647) (h14 : v8 = 2) (h15 : -2147483648 ≤ v9 ∧ v9 ≤ 2147483647) (h16 : v10 = 16) : 0 ≤ v0 ∧ v0 < (64 : Nat) := by omega
theorem ob163 (v0 : Int) (v1 : Int) (v2 : Int) (v3 : Int) (v4 : Int) (v5 : Int) (v6 : Int) (v7 : Int) (v8 : Int) (v9 : Int) (v10 : Int) (h0 : 16 ≤ v0) (h1 : 2147483648 - v0 ≤ v1 + 1) (h2 : v0 < v2) (h3 : v3 = (v0 - v4 + 2147483648) % 4294967296 - 2147483648) (h4 : v5 = (v0 - v6 + 2147483648) % 4294967296 - 2147483648) (h5 : v7 = (v0 - v8 + 2147483648) % 4294967296 - 2147483648) (h6 : v9 = (v0 - v10 + 2147483648) % 4294967296 - 2147483648) (h7 : -2147483648 ≤ v0 ∧ v0 ≤ 2147483647) (h8 : v2 = 64) (h9 : -2147483648 ≤ v3 ∧ v3 ≤ 2147483647) (h10 : v4 = 15) (h11 : -2147483648 ≤ v5 ∧ v5 ≤ 2147483647) (h12 : v6 = 2) (h13 : -2147483648 ≤ v7 ∧ v7 ≤ 2147483647) (h14 : v8 = 16) (h15 : -2147483648 ≤ v9 ∧ v9 ≤ 2147483647) (h16 : v10 = 7) : 0 ≤ v0 ∧ v0 < (64 : Nat) := by omega
theorem ob164 (v0 : Int) (v1 : Int) (v2 : Int) (v3 : Int) (v4 : Int) (v5 : Int) (v6 : Int) (v7 : Int) (v8 : Int) (v9 : Int) (v10 : Int) (v11 : Int) (v12 : Int) (h0 : 2147483648 - v2 ≤ v1 + 1) (h1 : v0 = (v2 + v3 + 2147483648) % 4294967296 - 2147483648) (h2 : 16 ≤ v2) (h3 : v2 < v4) (h4 : v5 = (v2 - v6 + 2147483648) % 4294967296 - 2147483648) (h5 : v7 = (v2 - v8 + 2147483648) % 4294967296 - 2147483648) (h6 : v9 = (v2 - v10 + 2147483648) % 4294967296 - 2147483648) (h7 : v11 = (v2 - v12 + 2147483648) % 4294967296 - 2147483648) (h8 : -2147483648 ≤ v0 ∧ v0 ≤ 2147483647) (h9 : -2147483648 ≤ v2 ∧ v2 ≤ 2147483647) (h10 : v3 = 1) (h11 : v4 = 64) (h12 : -2147483648 ≤ v5 ∧ v5 ≤ 2147483647) (h13 : v6 = 15) (h14 : -2147483648 ≤ v7 ∧ v7 ≤ 2147483647) (h15 : v8 = 2) (h16 : -2147483648 ≤ v9 ∧ v9 ≤ 2147483647) (h17 : v10 = 16) (h18 : -2147483648 ≤ v11 ∧ v11 ≤ 2147483647) (h19 : v12 = 7) : 2147483648 - v0 ≤ v1 := by omega
theorem ob165 (v0 : Int) (v1 : Int) (v2 : Int) (v3 : Int) (v4 : Int) (v5 : Int) (v6 : Int) (v7 : Int) (v8 : Int) (v9 : Int) (v10 : Int) (v11 : Int) (v12 : Int) (h0 : v0 = (v1 + v2 + 2147483648) % 4294967296 - 2147483648) (h1 : 16 ≤ v1) (h2 : 2147483648 - v1 ≤ v3 + 1) (h3 : v1 < v4) (h4 : v5 = (v1 - v6 + 2147483648) % 4294967296 - 2147483648) (h5 : v7 = (v1 - v8 + 2147483648) % 4294967296 - 2147483648) (h6 : v9 = (v1 - v10 + 2147483648) % 4294967296 - 2147483648) (h7 : v11 = (v1 - v12 + 2147483648) % 4294967296 - 2147483648) (h8 : -2147483648 ≤ v0 ∧ v0 ≤ 2147483647) (h9 : -2147483648 ≤ v1 ∧ v1 ≤ 2147483647) (h10 : v2 = 1) (h11 : v4 = 64) (h12 : -2147483648 ≤ v5 ∧ v5 ≤ 2147483647) (h13 : v6 = 15) (h14 : -2147483648 ≤ v7 ∧ v7 ≤ 2147483647) (h15 : v8 = 2) (h16 : -2147483648 ≤ v9 ∧ v9 ≤ 2147483647) (h17 : v10 = 16) (h18 : -2147483648 ≤ v11 ∧ v11 ≤ 2147483647) (h19 : v12 = 7) : 16 ≤ v0 := by omega
theorem ob166 (v0 : Int) (h0 : v0 = 16) : 16 ≤ v0 := by omega
set_option maxHeartbeats 4000000 in
set_option maxRecDepth 100000 in
/-- X0_byteOf on (11,) -/
theorem jx_X0_byteOf (l : Launch) (hlt : l.stackTraces = false) (D : va_G) (t3 : Nat × Nat × Nat) (cI cJ : ClassId) (ad : Nat → Nat) (g : Nat → Int32) (lg : Nat → Int64) (ar : Nat → Nat → Int32) (bk : Nat → Int64) (sz : Nat) (y1 : Int32) (y2 : Int32) : JMi l yX0_byteOf (Cond.code yX0_byteOf cX0_byteOf 5 (some .int) :: wwX) { frames := 0, cells := 1, slots := 6, locals := 0 } t3 D xw cI cJ ad [.ref (ad 11), .int y1, .int y2] (xw cI cJ ad g lg ar bk) sz 1 6 (fun (r : Int32) g' lg' ar' bk' => hk_fr [] g g' ∧ hk_fr [] lg lg' ∧ hk_fr [] ar ar') (fun g' lg' ar' bk' => False) := by
  refine jx_meti (cc := cX0_byteOf) (maxL := 5) (ret := (some .int)) rfl (by decide) rfl (Nat.le_of_ble_eq_true rfl) ?_
  intro p e s m args below meth c ls Q A hx hb hml hown hts hA hZ hw hl hQ kr kt
  have hq : ∀ w ∈ wwX, w.before args s = true := fun w h => hts w (List.mem_cons_of_mem _ h)
  have hl : lv_has ls 5 [(0, .ref (ad 11)), (1, .int y1), (2, .int y2)] := hl
  refine lv_aload_n hx hb dX0_byteOf_0 rfl (lv_at hl 0 rfl) ?_
  refine hk_get (ci := 3) (C := RX0) (T := TX0) (N := 3) (v := .ref (ad 12)) hx hb hts (fun _ h => List.mem_cons_of_mem _ (wwXc_wsX00 _ h)) hown hw 11 rfl rfl 0 (by decide) (hq _ wX_9) rfl dX0_byteOf_1 ?_
  refine lv_iload_n hx hb dX0_byteOf_4 rfl (lv_at hl 2 rfl) ?_
  refine lv_iconst (v := 2) hx hb dX0_byteOf_5 (by decide) ?_
  refine lv_ishr hx hb dX0_byteOf_6 (jx_nm fun z1 hz1 => ?_)
  refine lv_bipush (v := 7) hx hb dX0_byteOf_7 (by decide) ?_
  refine lv_iand hx hb dX0_byteOf_9 (jx_nm fun z2 hz2 => ?_)
  refine jx_iald hx hb hw 12 0 rfl rfl (hE_in (n := 8) (ob147 ((z2).toInt) ((z1).toInt) ((y2).toInt) (hE_and 3 8 hz2 (by decide) (by decide) (by decide)) (hE_shr 2 4 hz1 (by decide) (by decide) (by decide)) (hE_rng (z2)) (hE_rng (z1)) (hE_rng (y2)))) dX0_byteOf_10 (fun z3 hz3 => ?_)
  refine lv_istore_n (lv' := [(3, .int z3), (0, .ref (ad 11)), (1, .int y1), (2, .int y2)]) hx hb dX0_byteOf_11 rfl hl (by decide) rfl (fun ls hl => ?_)
  refine lv_iload_n hx hb dX0_byteOf_12 rfl (lv_at hl 3 rfl) ?_
  refine lv_iconst (v := 3) hx hb dX0_byteOf_13 (by decide) ?_
  refine lv_iand hx hb dX0_byteOf_14 (jx_nm fun z4 hz4 => ?_)
  refine lv_istore (lv' := [(4, .int z4), (3, .int z3), (0, .ref (ad 11)), (1, .int y1), (2, .int y2)]) hx hb dX0_byteOf_15 hl (by decide) rfl (fun ls hl => ?_)
  refine lv_iload_n hx hb dX0_byteOf_17 rfl (lv_at hl 1 rfl) ?_
  refine lv_bipush (v := 8) hx hb dX0_byteOf_18 (by decide) ?_
  refine lv_iload_n hx hb dX0_byteOf_20 rfl (lv_at hl 3 rfl) ?_
  refine lv_bipush (v := 10) hx hb dX0_byteOf_21 (by decide) ?_
  refine lv_icmp_ne (tgt := 33) hx hb dX0_byteOf_23 (by decide) (fun cc5 => ?_) (fun cc5 => ?_)
  · refine lv_iload hx hb dX0_byteOf_33 (lv_at hl 0 rfl) ?_
    refine lv_imul hx hb dX0_byteOf_35 (jx_nm fun z6 hz6 => ?_)
    refine lv_iushr hx hb dX0_byteOf_36 rfl (jx_nm fun z7 hz7 => ?_)
    refine lv_sipush (v := 255) hx hb dX0_byteOf_37 (by decide) ?_
    refine lv_iand hx hb dX0_byteOf_40 (jx_nm fun z8 hz8 => ?_)
    exact kr z8 g lg ar bk _ _ _ _ ⟨hk_fr0, hk_fr0, hk_fr0⟩ hw dX0_byteOf_41
  · refine lv_iconst (v := 3) hx hb dX0_byteOf_26 (by decide) ?_
    refine lv_iload hx hb dX0_byteOf_27 (lv_at hl 0 rfl) ?_
    refine lv_isub hx hb dX0_byteOf_29 (jx_nm fun z9 hz9 => ?_)
    refine lv_goto (tgt := 35) hx hb dX0_byteOf_30 (by decide) ?_
    refine lv_imul hx hb dX0_byteOf_35 (jx_nm fun z10 hz10 => ?_)
    refine lv_iushr hx hb dX0_byteOf_36 rfl (jx_nm fun z11 hz11 => ?_)
    refine lv_sipush (v := 255) hx hb dX0_byteOf_37 (by decide) ?_
    refine lv_iand hx hb dX0_byteOf_40 (jx_nm fun z12 hz12 => ?_)
    exact kr z12 g lg ar bk _ _ _ _ ⟨hk_fr0, hk_fr0, hk_fr0⟩ hw dX0_byteOf_41

set_option maxHeartbeats 4000000 in
set_option maxRecDepth 100000 in
/-- J6_rotateRight_7cf53 -/
theorem jx_J6_rotateRight_7cf53 (l : Launch) (hlt : l.stackTraces = false) (D : va_G) (t3 : Nat × Nat × Nat) (cI cJ : ClassId) (ad : Nat → Nat) (g : Nat → Int32) (lg : Nat → Int64) (ar : Nat → Nat → Int32) (bk : Nat → Int64) (sz : Nat) (y0 : Int32) (y1 : Int32) : JMi l yJ6_rotateRight_7cf53 (Cond.code yJ6_rotateRight_7cf53 cJ6_rotateRight_7cf53 2 (some .int) :: wwX) { frames := 0, cells := 1, slots := 6, locals := 0 } t3 D xw cI cJ ad [.int y0, .int y1] (xw cI cJ ad g lg ar bk) sz 1 6 (fun (r : Int32) g' lg' ar' bk' => hk_fr [] g g' ∧ hk_fr [] lg lg' ∧ hk_fr [] ar ar') (fun g' lg' ar' bk' => False) := by
  refine jx_meti (cc := cJ6_rotateRight_7cf53) (maxL := 2) (ret := (some .int)) rfl (by decide) rfl (Nat.le_of_ble_eq_true rfl) ?_
  intro p e s m args below meth c ls Q A hx hb hml hown hts hA hZ hw hl hQ kr kt
  have hq : ∀ w ∈ wwX, w.before args s = true := fun w h => hts w (List.mem_cons_of_mem _ h)
  have hl : lv_has ls 2 [(0, .int y0), (1, .int y1)] := hl
  refine lv_iload_n hx hb dJ6_rotateRight_7cf53_0 rfl (lv_at hl 0 rfl) ?_
  refine lv_iload_n hx hb dJ6_rotateRight_7cf53_1 rfl (lv_at hl 1 rfl) ?_
  refine lv_iushr hx hb dJ6_rotateRight_7cf53_2 rfl (jx_nm fun z1 hz1 => ?_)
  refine lv_iload_n hx hb dJ6_rotateRight_7cf53_3 rfl (lv_at hl 0 rfl) ?_
  refine lv_iload_n hx hb dJ6_rotateRight_7cf53_4 rfl (lv_at hl 1 rfl) ?_
  refine lv_ineg hx hb dJ6_rotateRight_7cf53_5 (jx_nm fun z2 hz2 => ?_)
  refine lv_ishl hx hb dJ6_rotateRight_7cf53_6 (jx_nm fun z3 hz3 => ?_)
  refine lv_ior hx hb dJ6_rotateRight_7cf53_7 (jx_nm fun z4 hz4 => ?_)
  exact kr z4 g lg ar bk _ _ _ _ ⟨hk_fr0, hk_fr0, hk_fr0⟩ hw dJ6_rotateRight_7cf53_8

set_option maxHeartbeats 4000000 in
set_option maxRecDepth 100000 in
/-- X0_mixRound on (11,) -/
theorem jx_X0_mixRound (l : Launch) (hlt : l.stackTraces = false) (D : va_G) (t3 : Nat × Nat × Nat) (cI cJ : ClassId) (ad : Nat → Nat) (g : Nat → Int32) (lg : Nat → Int64) (ar : Nat → Nat → Int32) (bk : Nat → Int64) (sz : Nat) (y1 : Int32) : JMv l yX0_mixRound (Cond.code yX0_mixRound cX0_mixRound 10 none :: wwX) { frames := 1, cells := 1, slots := 6, locals := 21 } t3 D xw cI cJ ad [.ref (ad 11), .int y1] (xw cI cJ ad g lg ar bk) sz 1 6 (fun g' lg' ar' bk' => hk_fr [] g g' ∧ hk_fr [] lg lg' ∧ hk_fr [4] ar ar') (fun g' lg' ar' bk' => False) := by
  refine jx_metv (cc := cX0_mixRound) (maxL := 10) (ret := none) rfl (by decide) rfl (Nat.le_of_ble_eq_true rfl) ?_
  intro p e s m args below meth c ls Q A hx hb hml hown hts hA hZ hw hl hQ kr kt
  have hq : ∀ w ∈ wwX, w.before args s = true := fun w h => hts w (List.mem_cons_of_mem _ h)
  have hl : lv_has ls 10 [(0, .ref (ad 11)), (1, .int y1)] := hl
  refine lv_aload_n hx hb dX0_mixRound_0 rfl (lv_at hl 0 rfl) ?_
  refine hk_get (ci := 3) (C := RX0) (T := TX0) (N := 3) (v := .ref (ad 13)) hx hb hts (fun _ h => List.mem_cons_of_mem _ (wwXc_wsX00 _ h)) hown hw 11 rfl rfl 1 (by decide) (hq _ wX_33) rfl dX0_mixRound_1 ?_
  refine lv_iconst (v := 0) hx hb dX0_mixRound_4 (by decide) ?_
  refine jx_iald hx hb hw 13 0 rfl rfl (show ¬ (_ ∨ _) by decide) dX0_mixRound_5 (fun z1 hz1 => ?_)
  refine lv_istore_n (lv' := [(2, .int z1), (0, .ref (ad 11)), (1, .int y1)]) hx hb dX0_mixRound_6 rfl hl (by decide) rfl (fun ls hl => ?_)
  refine lv_aload_n hx hb dX0_mixRound_7 rfl (lv_at hl 1 rfl) ?_
  refine hk_get (ci := 3) (C := RX0) (T := TX0) (N := 3) (v := .ref (ad 13)) hx hb hts (fun _ h => List.mem_cons_of_mem _ (wwXc_wsX00 _ h)) hown hw 11 rfl rfl 1 (by decide) (hq _ wX_33) rfl dX0_mixRound_8 ?_
  refine lv_iconst (v := 4) hx hb dX0_mixRound_11 (by decide) ?_
  refine jx_iald hx hb hw 13 0 rfl rfl (show ¬ (_ ∨ _) by decide) dX0_mixRound_12 (fun z2 hz2 => ?_)
  refine lv_istore_n (lv' := [(3, .int z2), (2, .int z1), (0, .ref (ad 11)), (1, .int y1)]) hx hb dX0_mixRound_13 rfl hl (by decide) rfl (fun ls hl => ?_)
  refine lv_iload_n hx hb dX0_mixRound_14 rfl (lv_at hl 0 rfl) ?_
  refine lv_bipush (v := 6) hx hb dX0_mixRound_15 (by decide) ?_
  refine jx_Si (As := [.int z2, .int 6]) (rest := []) ⟨hx, hb, hml, hown, hts⟩ hZ hw hA (jx_J6_rotateRight_7cf53 l hlt D t3 cI cJ ad g lg ar bk _ z2 6) (va_cwS 2 hts (jx_gS wwX_good wX_30 wX_31 wX_2 wX_32) rfl rfl rfl (by decide +kernel) ⟨Nat.le_of_ble_eq_true rfl, Nat.le_of_ble_eq_true rfl⟩) rfl hl.1 rfl (Nat.le_of_ble_eq_true rfl) dX0_mixRound_17 ⟨Nat.le_of_ble_eq_true rfl, Nat.le_of_ble_eq_true rfl⟩ (fun _ _ _ _ _ _ _ _ hp _ _ _ _ => hp.elim) (fun r7 g8 l9 a10 b11 H locs hp12 hw => ?_)
  obtain ⟨h13, h14, h15⟩ := hp12
  refine lv_iload_n hx hb dX0_mixRound_20 rfl (lv_at hl 0 rfl) ?_
  refine lv_bipush (v := 11) hx hb dX0_mixRound_21 (by decide) ?_
  refine jx_Si (As := [.int z2, .int 11]) (rest := [.int r7]) ⟨hx, hb, hml, hown, hts⟩ hZ hw hA (jx_J6_rotateRight_7cf53 l hlt D t3 cI cJ ad g8 l9 a10 b11 _ z2 11) (va_cwS 2 hts (jx_gS wwX_good wX_30 wX_31 wX_2 wX_32) rfl rfl rfl (by decide +kernel) ⟨Nat.le_of_ble_eq_true rfl, Nat.le_of_ble_eq_true rfl⟩) rfl hl.1 rfl (Nat.le_of_ble_eq_true rfl) dX0_mixRound_23 ⟨Nat.le_of_ble_eq_true rfl, Nat.le_of_ble_eq_true rfl⟩ (fun _ _ _ _ _ _ _ _ hp _ _ _ _ => hp.elim) (fun r20 g21 l22 a23 b24 H locs hp25 hw => ?_)
  obtain ⟨h26, h27, h28⟩ := hp25
  refine lv_ixor hx hb dX0_mixRound_26 (jx_nm fun z29 hz29 => ?_)
  refine lv_iload_n hx hb dX0_mixRound_27 rfl (lv_at hl 0 rfl) ?_
  refine lv_bipush (v := 25) hx hb dX0_mixRound_28 (by decide) ?_
  refine jx_Si (As := [.int z2, .int 25]) (rest := [.int z29]) ⟨hx, hb, hml, hown, hts⟩ hZ hw hA (jx_J6_rotateRight_7cf53 l hlt D t3 cI cJ ad g21 l22 a23 b24 _ z2 25) (va_cwS 2 hts (jx_gS wwX_good wX_30 wX_31 wX_2 wX_32) rfl rfl rfl (by decide +kernel) ⟨Nat.le_of_ble_eq_true rfl, Nat.le_of_ble_eq_true rfl⟩) rfl hl.1 rfl (Nat.le_of_ble_eq_true rfl) dX0_mixRound_30 ⟨Nat.le_of_ble_eq_true rfl, Nat.le_of_ble_eq_true rfl⟩ (fun _ _ _ _ _ _ _ _ hp _ _ _ _ => hp.elim) (fun r34 g35 l36 a37 b38 H locs hp39 hw => ?_)
  obtain ⟨h40, h41, h42⟩ := hp39
  refine lv_ixor hx hb dX0_mixRound_33 (jx_nm fun z43 hz43 => ?_)
  refine lv_istore (lv' := [(4, .int z43), (3, .int z2), (2, .int z1), (0, .ref (ad 11)), (1, .int y1)]) hx hb dX0_mixRound_34 hl (by decide) rfl (fun ls hl => ?_)
  refine lv_iload_n hx hb dX0_mixRound_36 rfl (lv_at hl 2 rfl) ?_
  refine lv_iconst (v := 2) hx hb dX0_mixRound_37 (by decide) ?_
  refine jx_Si (As := [.int z1, .int 2]) (rest := []) ⟨hx, hb, hml, hown, hts⟩ hZ hw hA (jx_J6_rotateRight_7cf53 l hlt D t3 cI cJ ad g35 l36 a37 b38 _ z1 2) (va_cwS 2 hts (jx_gS wwX_good wX_30 wX_31 wX_2 wX_32) rfl rfl rfl (by decide +kernel) ⟨Nat.le_of_ble_eq_true rfl, Nat.le_of_ble_eq_true rfl⟩) rfl hl.1 rfl (Nat.le_of_ble_eq_true rfl) dX0_mixRound_38 ⟨Nat.le_of_ble_eq_true rfl, Nat.le_of_ble_eq_true rfl⟩ (fun _ _ _ _ _ _ _ _ hp _ _ _ _ => hp.elim) (fun r48 g49 l50 a51 b52 H locs hp53 hw => ?_)
  obtain ⟨h54, h55, h56⟩ := hp53
  refine lv_iload_n hx hb dX0_mixRound_41 rfl (lv_at hl 2 rfl) ?_
  refine lv_bipush (v := 13) hx hb dX0_mixRound_42 (by decide) ?_
  refine jx_Si (As := [.int z1, .int 13]) (rest := [.int r48]) ⟨hx, hb, hml, hown, hts⟩ hZ hw hA (jx_J6_rotateRight_7cf53 l hlt D t3 cI cJ ad g49 l50 a51 b52 _ z1 13) (va_cwS 2 hts (jx_gS wwX_good wX_30 wX_31 wX_2 wX_32) rfl rfl rfl (by decide +kernel) ⟨Nat.le_of_ble_eq_true rfl, Nat.le_of_ble_eq_true rfl⟩) rfl hl.1 rfl (Nat.le_of_ble_eq_true rfl) dX0_mixRound_44 ⟨Nat.le_of_ble_eq_true rfl, Nat.le_of_ble_eq_true rfl⟩ (fun _ _ _ _ _ _ _ _ hp _ _ _ _ => hp.elim) (fun r61 g62 l63 a64 b65 H locs hp66 hw => ?_)
  obtain ⟨h67, h68, h69⟩ := hp66
  refine lv_ixor hx hb dX0_mixRound_47 (jx_nm fun z70 hz70 => ?_)
  refine lv_iload_n hx hb dX0_mixRound_48 rfl (lv_at hl 2 rfl) ?_
  refine lv_bipush (v := 22) hx hb dX0_mixRound_49 (by decide) ?_
  refine jx_Si (As := [.int z1, .int 22]) (rest := [.int z70]) ⟨hx, hb, hml, hown, hts⟩ hZ hw hA (jx_J6_rotateRight_7cf53 l hlt D t3 cI cJ ad g62 l63 a64 b65 _ z1 22) (va_cwS 2 hts (jx_gS wwX_good wX_30 wX_31 wX_2 wX_32) rfl rfl rfl (by decide +kernel) ⟨Nat.le_of_ble_eq_true rfl, Nat.le_of_ble_eq_true rfl⟩) rfl hl.1 rfl (Nat.le_of_ble_eq_true rfl) dX0_mixRound_51 ⟨Nat.le_of_ble_eq_true rfl, Nat.le_of_ble_eq_true rfl⟩ (fun _ _ _ _ _ _ _ _ hp _ _ _ _ => hp.elim) (fun r75 g76 l77 a78 b79 H locs hp80 hw => ?_)
  obtain ⟨h81, h82, h83⟩ := hp80
  refine lv_ixor hx hb dX0_mixRound_54 (jx_nm fun z84 hz84 => ?_)
  refine lv_istore (lv' := [(5, .int z84), (4, .int z43), (3, .int z2), (2, .int z1), (0, .ref (ad 11)), (1, .int y1)]) hx hb dX0_mixRound_55 hl (by decide) rfl (fun ls hl => ?_)
  refine lv_iload_n hx hb dX0_mixRound_57 rfl (lv_at hl 2 rfl) ?_
  refine lv_aload_n hx hb dX0_mixRound_58 rfl (lv_at hl 4 rfl) ?_
  refine hk_get (ci := 3) (C := RX0) (T := TX0) (N := 3) (v := .ref (ad 13)) hx hb hts (fun _ h => List.mem_cons_of_mem _ (wwXc_wsX00 _ h)) hown hw 11 rfl rfl 1 (by decide) (hq _ wX_33) rfl dX0_mixRound_59 ?_
  refine lv_iconst (v := 5) hx hb dX0_mixRound_62 (by decide) ?_
  refine jx_iald hx hb hw 13 0 rfl rfl (show ¬ (_ ∨ _) by decide) dX0_mixRound_63 (fun z85 hz85 => ?_)
  refine lv_iand hx hb dX0_mixRound_64 (jx_nm fun z86 hz86 => ?_)
  refine lv_iload_n hx hb dX0_mixRound_65 rfl (lv_at hl 2 rfl) ?_
  refine lv_iconst (v := (-1)) hx hb dX0_mixRound_66 (by decide) ?_
  refine lv_ixor hx hb dX0_mixRound_67 (jx_nm fun z87 hz87 => ?_)
  refine lv_aload_n hx hb dX0_mixRound_68 rfl (lv_at hl 4 rfl) ?_
  refine hk_get (ci := 3) (C := RX0) (T := TX0) (N := 3) (v := .ref (ad 13)) hx hb hts (fun _ h => List.mem_cons_of_mem _ (wwXc_wsX00 _ h)) hown hw 11 rfl rfl 1 (by decide) (hq _ wX_33) rfl dX0_mixRound_69 ?_
  refine lv_bipush (v := 6) hx hb dX0_mixRound_72 (by decide) ?_
  refine jx_iald hx hb hw 13 0 rfl rfl (show ¬ (_ ∨ _) by decide) dX0_mixRound_74 (fun z88 hz88 => ?_)
  refine lv_iand hx hb dX0_mixRound_75 (jx_nm fun z89 hz89 => ?_)
  refine lv_ixor hx hb dX0_mixRound_76 (jx_nm fun z90 hz90 => ?_)
  refine lv_istore (lv' := [(6, .int z90), (5, .int z84), (4, .int z43), (3, .int z2), (2, .int z1), (0, .ref (ad 11)), (1, .int y1)]) hx hb dX0_mixRound_77 hl (by decide) rfl (fun ls hl => ?_)
  refine lv_iload_n hx hb dX0_mixRound_79 rfl (lv_at hl 4 rfl) ?_
  refine lv_aload_n hx hb dX0_mixRound_80 rfl (lv_at hl 5 rfl) ?_
  refine hk_get (ci := 3) (C := RX0) (T := TX0) (N := 3) (v := .ref (ad 13)) hx hb hts (fun _ h => List.mem_cons_of_mem _ (wwXc_wsX00 _ h)) hown hw 11 rfl rfl 1 (by decide) (hq _ wX_33) rfl dX0_mixRound_81 ?_
  refine lv_iconst (v := 1) hx hb dX0_mixRound_84 (by decide) ?_
  refine jx_iald hx hb hw 13 0 rfl rfl (show ¬ (_ ∨ _) by decide) dX0_mixRound_85 (fun z91 hz91 => ?_)
  refine lv_iand hx hb dX0_mixRound_86 (jx_nm fun z92 hz92 => ?_)
  refine lv_iload_n hx hb dX0_mixRound_87 rfl (lv_at hl 4 rfl) ?_
  refine lv_aload_n hx hb dX0_mixRound_88 rfl (lv_at hl 5 rfl) ?_
  refine hk_get (ci := 3) (C := RX0) (T := TX0) (N := 3) (v := .ref (ad 13)) hx hb hts (fun _ h => List.mem_cons_of_mem _ (wwXc_wsX00 _ h)) hown hw 11 rfl rfl 1 (by decide) (hq _ wX_33) rfl dX0_mixRound_89 ?_
  refine lv_iconst (v := 2) hx hb dX0_mixRound_92 (by decide) ?_
  refine jx_iald hx hb hw 13 0 rfl rfl (show ¬ (_ ∨ _) by decide) dX0_mixRound_93 (fun z93 hz93 => ?_)
  refine lv_iand hx hb dX0_mixRound_94 (jx_nm fun z94 hz94 => ?_)
  refine lv_ixor hx hb dX0_mixRound_95 (jx_nm fun z95 hz95 => ?_)
  refine lv_aload_n hx hb dX0_mixRound_96 rfl (lv_at hl 5 rfl) ?_
  refine hk_get (ci := 3) (C := RX0) (T := TX0) (N := 3) (v := .ref (ad 13)) hx hb hts (fun _ h => List.mem_cons_of_mem _ (wwXc_wsX00 _ h)) hown hw 11 rfl rfl 1 (by decide) (hq _ wX_33) rfl dX0_mixRound_97 ?_
  refine lv_iconst (v := 1) hx hb dX0_mixRound_100 (by decide) ?_
  refine hk_iald (v := z91) hx hb hw 13 0 rfl rfl (show ¬ (_ ∨ _) by decide) dX0_mixRound_101 hz91 ?_
  refine lv_aload_n hx hb dX0_mixRound_102 rfl (lv_at hl 5 rfl) ?_
  refine hk_get (ci := 3) (C := RX0) (T := TX0) (N := 3) (v := .ref (ad 13)) hx hb hts (fun _ h => List.mem_cons_of_mem _ (wwXc_wsX00 _ h)) hown hw 11 rfl rfl 1 (by decide) (hq _ wX_33) rfl dX0_mixRound_103 ?_
  refine lv_iconst (v := 2) hx hb dX0_mixRound_106 (by decide) ?_
  refine hk_iald (v := z93) hx hb hw 13 0 rfl rfl (show ¬ (_ ∨ _) by decide) dX0_mixRound_107 hz93 ?_
  refine lv_iand hx hb dX0_mixRound_108 (jx_nm fun z98 hz98 => ?_)
  refine lv_ixor hx hb dX0_mixRound_109 (jx_nm fun z99 hz99 => ?_)
  refine lv_istore (lv' := [(7, .int z99), (6, .int z90), (5, .int z84), (4, .int z43), (3, .int z2), (2, .int z1), (0, .ref (ad 11)), (1, .int y1)]) hx hb dX0_mixRound_110 hl (by decide) rfl (fun ls hl => ?_)
  refine lv_aload_n hx hb dX0_mixRound_112 rfl (lv_at hl 6 rfl) ?_
  refine hk_get (ci := 3) (C := RX0) (T := TX0) (N := 3) (v := .ref (ad 13)) hx hb hts (fun _ h => List.mem_cons_of_mem _ (wwXc_wsX00 _ h)) hown hw 11 rfl rfl 1 (by decide) (hq _ wX_33) rfl dX0_mixRound_113 ?_
  refine lv_bipush (v := 7) hx hb dX0_mixRound_116 (by decide) ?_
  refine jx_iald hx hb hw 13 0 rfl rfl (show ¬ (_ ∨ _) by decide) dX0_mixRound_118 (fun z100 hz100 => ?_)
  refine lv_iload hx hb dX0_mixRound_119 (lv_at hl 3 rfl) ?_
  refine lv_iadd hx hb dX0_mixRound_121 (jx_nm fun z101 hz101 => ?_)
  refine lv_iload hx hb dX0_mixRound_122 (lv_at hl 1 rfl) ?_
  refine lv_iadd hx hb dX0_mixRound_124 (jx_nm fun z102 hz102 => ?_)
  refine lv_iload_n hx hb dX0_mixRound_125 rfl (lv_at hl 7 rfl) ?_
  refine lv_iadd hx hb dX0_mixRound_126 (jx_nm fun z103 hz103 => ?_)
  refine lv_istore (lv' := [(8, .int z103), (7, .int z99), (6, .int z90), (5, .int z84), (4, .int z43), (3, .int z2), (2, .int z1), (0, .ref (ad 11)), (1, .int y1)]) hx hb dX0_mixRound_127 hl (by decide) rfl (fun ls hl => ?_)
  refine lv_bipush (v := 7) hx hb dX0_mixRound_129 (by decide) ?_
  refine lv_istore (lv' := [(9, .int 7), (8, .int z103), (7, .int z99), (6, .int z90), (5, .int z84), (4, .int z43), (3, .int z2), (2, .int z1), (0, .ref (ad 11)), (1, .int y1)]) hx hb dX0_mixRound_131 hl (by decide) rfl (fun ls hl => ?_)
  have B104 : ∀ (k107 : Nat) (x105 : Int32) (a106 : Nat → Nat → Int32) (ls : Array Slot) (H : Heap) (locs : List Loc), (x105).toInt + 2147483649 ≤ (k107 : Int) → (x105).toInt ≤ 7 → hk_fr [4] a78 a106 → hk_W D (jT cI cJ) A s H locs (xw cI cJ ad g76 l77 a106 b79) → lv_has ls 10 [(0, .ref (ad 11)), (5, .int z84), (7, .int z99), (8, .int z103), (9, .int x105)] → W p l e { frames := 1, cells := 1, slots := 6, locals := 21 } s m args below meth c H locs 0 0 Q (F0 m 133 ls []) := by
    intro k107
    induction k107 with
    | zero =>
      intro x105 a106 ls H locs hrk_B104 hf_B104_0 hfr_a106 hw hl
      exact False.elim (hk_no0 (0 * (x105).toInt) (ob89 ((x105).toInt) hf_B104_0 hrk_B104 (hE_rng (x105))) (by simp))
    | succ k107 ih_B104 =>
      intro x105 a106 ls H locs hrk_B104 hf_B104_0 hfr_a106 hw hl
      have hrk_B104 := hk_rk hrk_B104
      refine lv_iload hx hb dX0_mixRound_133 (lv_at hl 4 rfl) ?_
      refine lv_if_le (tgt := 160) hx hb dX0_mixRound_135 (by decide) (fun cc108 => ?_) (fun cc108 => ?_)
      · refine lv_aload_n hx hb dX0_mixRound_160 rfl (lv_at hl 0 rfl) ?_
        refine hk_get (ci := 3) (C := RX0) (T := TX0) (N := 3) (v := .ref (ad 13)) hx hb hts (fun _ h => List.mem_cons_of_mem _ (wwXc_wsX00 _ h)) hown hw 11 rfl rfl 1 (by decide) (hq _ wX_33) rfl dX0_mixRound_161 ?_
        refine lv_iconst (v := 4) hx hb dX0_mixRound_164 (by decide) ?_
        refine lv_dup2 hx hb dX0_mixRound_165 rfl rfl ?_
        refine jx_iald hx hb hw 13 0 rfl rfl (show ¬ (_ ∨ _) by decide) dX0_mixRound_166 (fun z109 hz109 => ?_)
        refine lv_iload hx hb dX0_mixRound_167 (lv_at hl 3 rfl) ?_
        refine lv_iadd hx hb dX0_mixRound_169 (jx_nm fun z110 hz110 => ?_)
        refine jx_iast xw (g := g76) (lg := l77) (ar := a106) (bk := b79) 4 hx hb hw 13 0 rfl rfl (show ¬ (_ ∨ _) by decide) dX0_mixRound_170 rfl (fun H locs a111 h_a111 hw => ?_)
        refine lv_aload_n hx hb dX0_mixRound_171 rfl (lv_at hl 0 rfl) ?_
        refine hk_get (ci := 3) (C := RX0) (T := TX0) (N := 3) (v := .ref (ad 13)) hx hb hts (fun _ h => List.mem_cons_of_mem _ (wwXc_wsX00 _ h)) hown hw 11 rfl rfl 1 (by decide) (hq _ wX_33) rfl dX0_mixRound_172 ?_
        refine lv_iconst (v := 0) hx hb dX0_mixRound_175 (by decide) ?_
        refine lv_iload hx hb dX0_mixRound_176 (lv_at hl 3 rfl) ?_
        refine lv_iload hx hb dX0_mixRound_178 (lv_at hl 1 rfl) ?_
        refine lv_iadd hx hb dX0_mixRound_180 (jx_nm fun z112 hz112 => ?_)
        refine lv_iload hx hb dX0_mixRound_181 (lv_at hl 2 rfl) ?_
        refine lv_iadd hx hb dX0_mixRound_183 (jx_nm fun z113 hz113 => ?_)
        refine jx_iast xw (g := g76) (lg := l77) (ar := a111) (bk := b79) 4 hx hb hw 13 0 rfl rfl (show ¬ (_ ∨ _) by decide) dX0_mixRound_184 rfl (fun H locs a114 h_a114 hw => ?_)
        exact kr g76 l77 a114 b79 _ _ _ _ ⟨(hk_frT (hk_frT (hk_frT (hk_frT (hk_frT h13 (by decide) h26) (by decide) h40) (by decide) h54) (by decide) h67) (by decide) h81), (hk_frT (hk_frT (hk_frT (hk_frT (hk_frT h14 (by decide) h27) (by decide) h41) (by decide) h55) (by decide) h68) (by decide) h82), (hk_frA (hk_frA (hk_frT (hk_frT (hk_frT (hk_frT (hk_frT (hk_frT (hk_frT hk_fr0 (by decide) h15) (by decide) h28) (by decide) h42) (by decide) h56) (by decide) h69) (by decide) h83) (by decide) hfr_a106) (by decide) h_a111) (by decide) h_a114)⟩ hw dX0_mixRound_185
      · refine lv_aload_n hx hb dX0_mixRound_138 rfl (lv_at hl 0 rfl) ?_
        refine hk_get (ci := 3) (C := RX0) (T := TX0) (N := 3) (v := .ref (ad 13)) hx hb hts (fun _ h => List.mem_cons_of_mem _ (wwXc_wsX00 _ h)) hown hw 11 rfl rfl 1 (by decide) (hq _ wX_33) rfl dX0_mixRound_139 ?_
        refine lv_iload hx hb dX0_mixRound_142 (lv_at hl 4 rfl) ?_
        refine lv_aload_n hx hb dX0_mixRound_144 rfl (lv_at hl 0 rfl) ?_
        refine hk_get (ci := 3) (C := RX0) (T := TX0) (N := 3) (v := .ref (ad 13)) hx hb hts (fun _ h => List.mem_cons_of_mem _ (wwXc_wsX00 _ h)) hown hw 11 rfl rfl 1 (by decide) (hq _ wX_33) rfl dX0_mixRound_145 ?_
        refine lv_iload hx hb dX0_mixRound_148 (lv_at hl 4 rfl) ?_
        refine lv_iconst (v := 1) hx hb dX0_mixRound_150 (by decide) ?_
        refine lv_isub hx hb dX0_mixRound_151 (jx_nm fun z115 hz115 => ?_)
        refine jx_iald hx hb hw 13 0 rfl rfl (hE_in (n := 8) (ob148 ((z115).toInt) ((x105).toInt) (((1 : Int32)).toInt) (k107 : Int) (((0 : Int32)).toInt) (hE_sub hz115) hf_B104_0 hrk_B104 (hE_nle cc108) (hE_rng (z115)) (hE_rng (x105)) (by decide) (by decide))) dX0_mixRound_152 (fun z116 hz116 => ?_)
        refine jx_iast xw (g := g76) (lg := l77) (ar := a106) (bk := b79) 4 hx hb hw 13 0 rfl rfl (hE_in (n := 8) (ob149 ((x105).toInt) (k107 : Int) (((0 : Int32)).toInt) ((z115).toInt) (((1 : Int32)).toInt) hf_B104_0 hrk_B104 (hE_nle cc108) (hE_sub hz115) (hE_rng (x105)) (by decide) (hE_rng (z115)) (by decide))) dX0_mixRound_153 rfl (fun H locs a117 h_a117 hw => ?_)
        obtain ⟨z118, hz118⟩ : ∃ z : Int32, x105 + (-1) = z := ⟨_, rfl⟩
        refine lv_iinc (v := z118) (lv' := [(9, .int z118), (0, .ref (ad 11)), (5, .int z84), (7, .int z99), (8, .int z103)]) hx hb dX0_mixRound_154 hl (k := 4) rfl hz118 (by decide) rfl (fun ls hl => ?_)
        refine lv_goto (tgt := 133) hx hb dX0_mixRound_157 (by decide) ?_
        exact ih_B104 z118 a117 ls _ _ (ob150 ((z118).toInt) (k107 : Int) ((x105).toInt) ((((-1) : Int32)).toInt) (((0 : Int32)).toInt) ((z115).toInt) (((1 : Int32)).toInt) hrk_B104 (hE_add hz118) hf_B104_0 (hE_nle cc108) (hE_sub hz115) (hE_rng (z118)) (hE_rng (x105)) (by decide) (by decide) (hE_rng (z115)) (by decide)) (ob151 ((z118).toInt) ((x105).toInt) ((((-1) : Int32)).toInt) (k107 : Int) (((0 : Int32)).toInt) ((z115).toInt) (((1 : Int32)).toInt) (hE_add hz118) hf_B104_0 hrk_B104 (hE_nle cc108) (hE_sub hz115) (hE_rng (z118)) (hE_rng (x105)) (by decide) (by decide) (hE_rng (z115)) (by decide)) (hk_frA hfr_a106 (by decide) h_a117) hw (lv_sub hl [1, 2, 3, 4, 0] rfl)
  exact B104 (((7 : Int32)).toInt + 2147483649).toNat 7 a78 ls _ _ (Int.self_le_toNat _) (ob94 (((7 : Int32)).toInt) (by decide)) hk_fr0 hw (lv_sub hl [8, 4, 2, 1, 0] rfl)

set_option maxHeartbeats 4000000 in
set_option maxRecDepth 100000 in
/-- X0_mixBlock on (11,) -/
theorem jx_X0_mixBlock (l : Launch) (hlt : l.stackTraces = false) (D : va_G) (t3 : Nat × Nat × Nat) (cI cJ : ClassId) (ad : Nat → Nat) (g : Nat → Int32) (lg : Nat → Int64) (ar : Nat → Nat → Int32) (bk : Nat → Int64) (sz : Nat) : JMv l yX0_mixBlock (Cond.code yX0_mixBlock cX0_mixBlock 6 none :: wwX) { frames := 2, cells := 1, slots := 6, locals := 50 } t3 D xw cI cJ ad [.ref (ad 11)] (xw cI cJ ad g lg ar bk) sz 1 6 (fun g' lg' ar' bk' => hk_fr [] g g' ∧ hk_fr [] lg lg' ∧ hk_fr [3, 4, 5] ar ar') (fun g' lg' ar' bk' => False) := by
  refine jx_metv (cc := cX0_mixBlock) (maxL := 6) (ret := none) rfl (by decide) rfl (Nat.le_of_ble_eq_true rfl) ?_
  intro p e s m args below meth c ls Q A hx hb hml hown hts hA hZ hw hl hQ kr kt
  have hq : ∀ w ∈ wwX, w.before args s = true := fun w h => hts w (List.mem_cons_of_mem _ h)
  have hl : lv_has ls 6 [(0, .ref (ad 11))] := hl
  refine lv_bipush (v := 16) hx hb dX0_mixBlock_0 (by decide) ?_
  refine lv_istore_n (lv' := [(1, .int 16), (0, .ref (ad 11))]) hx hb dX0_mixBlock_2 rfl hl (by decide) rfl (fun ls hl => ?_)
  have B1 : ∀ (k4 : Nat) (x2 : Int32) (a3 : Nat → Nat → Int32) (ls : Array Slot) (H : Heap) (locs : List Loc), 2147483648 - (x2).toInt ≤ (k4 : Int) → 16 ≤ (x2).toInt → hk_fr [5] ar a3 → hk_W D (jT cI cJ) A s H locs (xw cI cJ ad g lg a3 bk) → lv_has ls 6 [(0, .ref (ad 11)), (1, .int x2)] → W p l e { frames := 2, cells := 1, slots := 6, locals := 50 } s m args below meth c H locs 0 0 Q (F0 m 3 ls []) := by
    intro k4
    induction k4 with
    | zero =>
      intro x2 a3 ls H locs hrk_B1 hf_B1_0 hfr_a3 hw hl
      exact False.elim (hk_no0 (0 * (x2).toInt) (ob152 ((x2).toInt) hf_B1_0 hrk_B1 (hE_rng (x2))) (by simp))
    | succ k4 ih_B1 =>
      intro x2 a3 ls H locs hrk_B1 hf_B1_0 hfr_a3 hw hl
      have hrk_B1 := hk_rk hrk_B1
      refine lv_iload_n hx hb dX0_mixBlock_3 rfl (lv_at hl 1 rfl) ?_
      refine lv_bipush (v := 64) hx hb dX0_mixBlock_4 (by decide) ?_
      refine lv_icmp_ge (tgt := 104) hx hb dX0_mixBlock_6 (by decide) (fun cc5 => ?_) (fun cc5 => ?_)
      · refine lv_aload_n hx hb dX0_mixBlock_104 rfl (lv_at hl 0 rfl) ?_
        refine hk_get (ci := 3) (C := RX0) (T := TX0) (N := 3) (v := .ref (ad 12)) hx hb hts (fun _ h => List.mem_cons_of_mem _ (wwXc_wsX00 _ h)) hown hw 11 rfl rfl 0 (by decide) (hq _ wX_9) rfl dX0_mixBlock_105 ?_
        refine lv_iconst (v := 0) hx hb dX0_mixBlock_108 (by decide) ?_
        refine lv_aload_n hx hb dX0_mixBlock_109 rfl (lv_at hl 0 rfl) ?_
        refine hk_get (ci := 3) (C := RX0) (T := TX0) (N := 3) (v := .ref (ad 13)) hx hb hts (fun _ h => List.mem_cons_of_mem _ (wwXc_wsX00 _ h)) hown hw 11 rfl rfl 1 (by decide) (hq _ wX_33) rfl dX0_mixBlock_110 ?_
        refine lv_iconst (v := 0) hx hb dX0_mixBlock_113 (by decide) ?_
        refine lv_bipush (v := 8) hx hb dX0_mixBlock_114 (by decide) ?_
        refine hk_copyi hx hb (by rw [hml]; exact hl.1.symm) hown (hq _ wX_34) (hq _ wX_35) (hq _ wX_36) (hq _ wX_37) hw 12 13 0 rfl rfl rfl (by decide) (by decide) (by decide) (by decide +kernel) (by decide +kernel) (Nat.le_of_ble_eq_true rfl) (by decide +kernel) dX0_mixBlock_116 rfl (fun H locs hw => ?_)
        obtain ⟨a6, h_a6, hw⟩ := jx_nar xw (g := g) (lg := lg) (ar := a3) (bk := bk) 4 hw rfl
        refine lv_iconst (v := 0) hx hb dX0_mixBlock_119 (by decide) ?_
        refine lv_istore_n (lv' := [(1, .int 0), (0, .ref (ad 11))]) hx hb dX0_mixBlock_120 rfl hl (by decide) rfl (fun ls hl => ?_)
        have B7 : ∀ (k10 : Nat) (x8 : Int32) (a9 : Nat → Nat → Int32) (ls : Array Slot) (H : Heap) (locs : List Loc), 2147483648 - (x8).toInt ≤ (k10 : Int) → 0 ≤ (x8).toInt → hk_fr [4] a6 a9 → hk_W D (jT cI cJ) A s H locs (xw cI cJ ad g lg a9 bk) → lv_has ls 6 [(0, .ref (ad 11)), (1, .int x8)] → W p l e { frames := 2, cells := 1, slots := 6, locals := 50 } s m args below meth c H locs 0 0 Q (F0 m 121 ls []) := by
          intro k10
          induction k10 with
          | zero =>
            intro x8 a9 ls H locs hrk_B7 hf_B7_0 hfr_a9 hw hl
            exact False.elim (hk_no0 (0 * (x8).toInt) (ob5 ((x8).toInt) hf_B7_0 hrk_B7 (hE_rng (x8))) (by simp))
          | succ k10 ih_B7 =>
            intro x8 a9 ls H locs hrk_B7 hf_B7_0 hfr_a9 hw hl
            have hrk_B7 := hk_rk hrk_B7
            refine lv_iload_n hx hb dX0_mixBlock_121 rfl (lv_at hl 1 rfl) ?_
            refine lv_bipush (v := 64) hx hb dX0_mixBlock_122 (by decide) ?_
            refine lv_icmp_ge (tgt := 149) hx hb dX0_mixBlock_124 (by decide) (fun cc11 => ?_) (fun cc11 => ?_)
            · refine lv_iconst (v := 0) hx hb dX0_mixBlock_149 (by decide) ?_
              refine lv_istore_n (lv' := [(1, .int 0), (0, .ref (ad 11))]) hx hb dX0_mixBlock_150 rfl hl (by decide) rfl (fun ls hl => ?_)
              have B12 : ∀ (k15 : Nat) (x13 : Int32) (a14 : Nat → Nat → Int32) (ls : Array Slot) (H : Heap) (locs : List Loc), 2147483648 - (x13).toInt ≤ (k15 : Int) → 0 ≤ (x13).toInt → hk_fr [3] a9 a14 → hk_W D (jT cI cJ) A s H locs (xw cI cJ ad g lg a14 bk) → lv_has ls 6 [(0, .ref (ad 11)), (1, .int x13)] → W p l e { frames := 2, cells := 1, slots := 6, locals := 50 } s m args below meth c H locs 0 0 Q (F0 m 151 ls []) := by
                intro k15
                induction k15 with
                | zero =>
                  intro x13 a14 ls H locs hrk_B12 hf_B12_0 hfr_a14 hw hl
                  exact False.elim (hk_no0 (0 * (x13).toInt) (ob5 ((x13).toInt) hf_B12_0 hrk_B12 (hE_rng (x13))) (by simp))
                | succ k15 ih_B12 =>
                  intro x13 a14 ls H locs hrk_B12 hf_B12_0 hfr_a14 hw hl
                  have hrk_B12 := hk_rk hrk_B12
                  refine lv_iload_n hx hb dX0_mixBlock_151 rfl (lv_at hl 1 rfl) ?_
                  refine lv_bipush (v := 8) hx hb dX0_mixBlock_152 (by decide) ?_
                  refine lv_icmp_ge (tgt := 178) hx hb dX0_mixBlock_154 (by decide) (fun cc16 => ?_) (fun cc16 => ?_)
                  · exact kr g lg a14 bk _ _ _ _ ⟨hk_fr0, hk_fr0, (hk_frT (hk_frT (hk_frA (hk_frT hk_fr0 (by decide) hfr_a3) (by decide) h_a6) (by decide) hfr_a9) (by decide) hfr_a14)⟩ hw dX0_mixBlock_178
                  · refine lv_aload_n hx hb dX0_mixBlock_157 rfl (lv_at hl 0 rfl) ?_
                    refine hk_get (ci := 3) (C := RX0) (T := TX0) (N := 3) (v := .ref (ad 12)) hx hb hts (fun _ h => List.mem_cons_of_mem _ (wwXc_wsX00 _ h)) hown hw 11 rfl rfl 0 (by decide) (hq _ wX_9) rfl dX0_mixBlock_158 ?_
                    refine lv_iload_n hx hb dX0_mixBlock_161 rfl (lv_at hl 1 rfl) ?_
                    refine lv_dup2 hx hb dX0_mixBlock_162 rfl rfl ?_
                    refine jx_iald hx hb hw 12 0 rfl rfl (hE_in (n := 8) (ob153 ((x13).toInt) (k15 : Int) (((8 : Int32)).toInt) hf_B12_0 hrk_B12 (hE_nle cc16) (hE_rng (x13)) (by decide))) dX0_mixBlock_163 (fun z17 hz17 => ?_)
                    refine lv_aload_n hx hb dX0_mixBlock_164 rfl (lv_at hl 0 rfl) ?_
                    refine hk_get (ci := 3) (C := RX0) (T := TX0) (N := 3) (v := .ref (ad 13)) hx hb hts (fun _ h => List.mem_cons_of_mem _ (wwXc_wsX00 _ h)) hown hw 11 rfl rfl 1 (by decide) (hq _ wX_33) rfl dX0_mixBlock_165 ?_
                    refine lv_iload_n hx hb dX0_mixBlock_168 rfl (lv_at hl 1 rfl) ?_
                    refine jx_iald hx hb hw 13 0 rfl rfl (hE_in (n := 8) (ob153 ((x13).toInt) (k15 : Int) (((8 : Int32)).toInt) hf_B12_0 hrk_B12 (hE_nle cc16) (hE_rng (x13)) (by decide))) dX0_mixBlock_169 (fun z18 hz18 => ?_)
                    refine lv_iadd hx hb dX0_mixBlock_170 (jx_nm fun z19 hz19 => ?_)
                    refine jx_iast xw (g := g) (lg := lg) (ar := a14) (bk := bk) 3 hx hb hw 12 0 rfl rfl (hE_in (n := 8) (ob153 ((x13).toInt) (k15 : Int) (((8 : Int32)).toInt) hf_B12_0 hrk_B12 (hE_nle cc16) (hE_rng (x13)) (by decide))) dX0_mixBlock_171 rfl (fun H locs a20 h_a20 hw => ?_)
                    obtain ⟨z21, hz21⟩ : ∃ z : Int32, x13 + 1 = z := ⟨_, rfl⟩
                    refine lv_iinc (v := z21) (lv' := [(1, .int z21), (0, .ref (ad 11))]) hx hb dX0_mixBlock_172 hl (k := 1) rfl hz21 (by decide) rfl (fun ls hl => ?_)
                    refine lv_goto (tgt := 151) hx hb dX0_mixBlock_175 (by decide) ?_
                    exact ih_B12 z21 a20 ls _ _ (ob154 ((z21).toInt) (k15 : Int) ((x13).toInt) (((1 : Int32)).toInt) (((8 : Int32)).toInt) hrk_B12 (hE_add hz21) hf_B12_0 (hE_nle cc16) (hE_rng (z21)) (hE_rng (x13)) (by decide) (by decide)) (ob155 ((z21).toInt) ((x13).toInt) (((1 : Int32)).toInt) (k15 : Int) (((8 : Int32)).toInt) (hE_add hz21) hf_B12_0 hrk_B12 (hE_nle cc16) (hE_rng (z21)) (hE_rng (x13)) (by decide) (by decide)) (hk_frA hfr_a14 (by decide) h_a20) hw (lv_sub hl [1, 0] rfl)
              exact B12 (2147483648 - ((0 : Int32)).toInt).toNat 0 a9 ls _ _ (Int.self_le_toNat _) (ob10 (((0 : Int32)).toInt) (by decide)) hk_fr0 hw (lv_sub hl [1, 0] rfl)
            · refine lv_aload_n hx hb dX0_mixBlock_127 rfl (lv_at hl 0 rfl) ?_
              refine hk_gets hx hb hZ.2.2.1 hw hown (hq _ wX_38) dX0_mixBlock_128 ?_
              refine lv_iload_n hx hb dX0_mixBlock_131 rfl (lv_at hl 1 rfl) ?_
              refine jx_ti hx hb hZ.2.2.1 hw (hE_in (n := 64) (ob156 ((x8).toInt) (k10 : Int) (((64 : Int32)).toInt) ((x2).toInt) (k4 : Int) hf_B7_0 hrk_B7 (hE_nle cc11) (hE_le cc5) hf_B1_0 hrk_B1 (hE_rng (x8)) (by decide) (hE_rng (x2)))) dX0_mixBlock_132 (fun z22 hz22 => ?_)
              refine lv_aload_n hx hb dX0_mixBlock_133 rfl (lv_at hl 0 rfl) ?_
              refine hk_get (ci := 3) (C := RX0) (T := TX0) (N := 3) (v := .ref (ad 14)) hx hb hts (fun _ h => List.mem_cons_of_mem _ (wwXc_wsX00 _ h)) hown hw 11 rfl rfl 2 (by decide) (hq _ wX_29) rfl dX0_mixBlock_134 ?_
              refine lv_iload_n hx hb dX0_mixBlock_137 rfl (lv_at hl 1 rfl) ?_
              refine jx_iald hx hb hw 14 0 rfl rfl (hE_in (n := 64) (ob156 ((x8).toInt) (k10 : Int) (((64 : Int32)).toInt) ((x2).toInt) (k4 : Int) hf_B7_0 hrk_B7 (hE_nle cc11) (hE_le cc5) hf_B1_0 hrk_B1 (hE_rng (x8)) (by decide) (hE_rng (x2)))) dX0_mixBlock_138 (fun z23 hz23 => ?_)
              refine lv_iadd hx hb dX0_mixBlock_139 (jx_nm fun z24 hz24 => ?_)
              refine jx_Vv (As := [.int z24]) (rest := []) ⟨hx, hb, hml, hown, hts⟩ hZ hw hA (jx_X0_mixRound l hlt D t3 cI cJ ad g lg a9 bk _ z24) (cwV 1 hts (jx_gV wwX_good wX_39 wX_40 wX_41 wX_12 wX_42) rfl rfl rfl (by decide +kernel) ⟨Nat.le_of_ble_eq_true rfl, Nat.le_of_ble_eq_true rfl⟩) 11 (ci := 3) (T := TX0) (N := 3) rfl rfl rfl hl.1 rfl (Nat.le_of_ble_eq_true rfl) dX0_mixBlock_140 ⟨Nat.le_of_ble_eq_true rfl, Nat.le_of_ble_eq_true rfl⟩ (fun _ _ _ _ _ _ _ _ hp _ _ _ _ => hp.elim) (fun g30 l31 a32 b33 H locs hp34 hw => ?_)
              obtain ⟨h35, h36, h37⟩ := hp34
              obtain ⟨z38, hz38⟩ : ∃ z : Int32, x8 + 1 = z := ⟨_, rfl⟩
              refine lv_iinc (v := z38) (lv' := [(1, .int z38), (0, .ref (ad 11))]) hx hb dX0_mixBlock_143 hl (k := 1) rfl hz38 (by decide) rfl (fun ls hl => ?_)
              refine lv_goto (tgt := 121) hx hb dX0_mixBlock_146 (by decide) ?_
              exact ih_B7 z38 a32 ls _ _ (ob157 ((z38).toInt) (k10 : Int) ((x8).toInt) (((1 : Int32)).toInt) (((64 : Int32)).toInt) ((x2).toInt) (k4 : Int) hrk_B7 (hE_add hz38) hf_B7_0 (hE_nle cc11) (hE_le cc5) hf_B1_0 hrk_B1 (hE_rng (z38)) (hE_rng (x8)) (by decide) (by decide) (hE_rng (x2))) (ob158 ((z38).toInt) ((x8).toInt) (((1 : Int32)).toInt) (k10 : Int) (((64 : Int32)).toInt) ((x2).toInt) (k4 : Int) (hE_add hz38) hf_B7_0 hrk_B7 (hE_nle cc11) (hE_le cc5) hf_B1_0 hrk_B1 (hE_rng (z38)) (hE_rng (x8)) (by decide) (by decide) (hE_rng (x2))) (hk_frT hfr_a9 (by decide) h37) hw (lv_sub hl [1, 0] rfl)
        exact B7 (2147483648 - ((0 : Int32)).toInt).toNat 0 a6 ls _ _ (Int.self_le_toNat _) (ob10 (((0 : Int32)).toInt) (by decide)) hk_fr0 hw (lv_sub hl [1, 0] rfl)
      · refine lv_aload_n hx hb dX0_mixBlock_9 rfl (lv_at hl 0 rfl) ?_
        refine hk_get (ci := 3) (C := RX0) (T := TX0) (N := 3) (v := .ref (ad 14)) hx hb hts (fun _ h => List.mem_cons_of_mem _ (wwXc_wsX00 _ h)) hown hw 11 rfl rfl 2 (by decide) (hq _ wX_29) rfl dX0_mixBlock_10 ?_
        refine lv_iload_n hx hb dX0_mixBlock_13 rfl (lv_at hl 1 rfl) ?_
        refine lv_bipush (v := 15) hx hb dX0_mixBlock_14 (by decide) ?_
        refine lv_isub hx hb dX0_mixBlock_16 (jx_nm fun z39 hz39 => ?_)
        refine jx_iald hx hb hw 14 0 rfl rfl (hE_in (n := 64) (ob159 ((z39).toInt) ((x2).toInt) (((15 : Int32)).toInt) (k4 : Int) (((64 : Int32)).toInt) (hE_sub hz39) hf_B1_0 hrk_B1 (hE_nle cc5) (hE_rng (z39)) (hE_rng (x2)) (by decide) (by decide))) dX0_mixBlock_17 (fun z40 hz40 => ?_)
        refine lv_istore_n (lv' := [(2, .int z40), (0, .ref (ad 11)), (1, .int x2)]) hx hb dX0_mixBlock_18 rfl hl (by decide) rfl (fun ls hl => ?_)
        refine lv_aload_n hx hb dX0_mixBlock_19 rfl (lv_at hl 1 rfl) ?_
        refine hk_get (ci := 3) (C := RX0) (T := TX0) (N := 3) (v := .ref (ad 14)) hx hb hts (fun _ h => List.mem_cons_of_mem _ (wwXc_wsX00 _ h)) hown hw 11 rfl rfl 2 (by decide) (hq _ wX_29) rfl dX0_mixBlock_20 ?_
        refine lv_iload_n hx hb dX0_mixBlock_23 rfl (lv_at hl 2 rfl) ?_
        refine lv_iconst (v := 2) hx hb dX0_mixBlock_24 (by decide) ?_
        refine lv_isub hx hb dX0_mixBlock_25 (jx_nm fun z41 hz41 => ?_)
        refine jx_iald hx hb hw 14 0 rfl rfl (hE_in (n := 64) (ob160 ((z41).toInt) ((x2).toInt) (((2 : Int32)).toInt) (k4 : Int) (((64 : Int32)).toInt) ((z39).toInt) (((15 : Int32)).toInt) (hE_sub hz41) hf_B1_0 hrk_B1 (hE_nle cc5) (hE_sub hz39) (hE_rng (z41)) (hE_rng (x2)) (by decide) (by decide) (hE_rng (z39)) (by decide))) dX0_mixBlock_26 (fun z42 hz42 => ?_)
        refine lv_istore_n (lv' := [(3, .int z42), (2, .int z40), (0, .ref (ad 11)), (1, .int x2)]) hx hb dX0_mixBlock_27 rfl hl (by decide) rfl (fun ls hl => ?_)
        refine lv_iload_n hx hb dX0_mixBlock_28 rfl (lv_at hl 1 rfl) ?_
        refine lv_bipush (v := 7) hx hb dX0_mixBlock_29 (by decide) ?_
        refine jx_Si (As := [.int z40, .int 7]) (rest := []) ⟨hx, hb, hml, hown, hts⟩ hZ hw hA (jx_J6_rotateRight_7cf53 l hlt D t3 cI cJ ad g lg a3 bk _ z40 7) (va_cwS 2 hts (jx_gS wwX_good wX_30 wX_31 wX_2 wX_32) rfl rfl rfl (by decide +kernel) ⟨Nat.le_of_ble_eq_true rfl, Nat.le_of_ble_eq_true rfl⟩) rfl hl.1 rfl (Nat.le_of_ble_eq_true rfl) dX0_mixBlock_31 ⟨Nat.le_of_ble_eq_true rfl, Nat.le_of_ble_eq_true rfl⟩ (fun _ _ _ _ _ _ _ _ hp _ _ _ _ => hp.elim) (fun r47 g48 l49 a50 b51 H locs hp52 hw => ?_)
        obtain ⟨h53, h54, h55⟩ := hp52
        refine lv_iload_n hx hb dX0_mixBlock_34 rfl (lv_at hl 1 rfl) ?_
        refine lv_bipush (v := 18) hx hb dX0_mixBlock_35 (by decide) ?_
        refine jx_Si (As := [.int z40, .int 18]) (rest := [.int r47]) ⟨hx, hb, hml, hown, hts⟩ hZ hw hA (jx_J6_rotateRight_7cf53 l hlt D t3 cI cJ ad g48 l49 a50 b51 _ z40 18) (va_cwS 2 hts (jx_gS wwX_good wX_30 wX_31 wX_2 wX_32) rfl rfl rfl (by decide +kernel) ⟨Nat.le_of_ble_eq_true rfl, Nat.le_of_ble_eq_true rfl⟩) rfl hl.1 rfl (Nat.le_of_ble_eq_true rfl) dX0_mixBlock_37 ⟨Nat.le_of_ble_eq_true rfl, Nat.le_of_ble_eq_true rfl⟩ (fun _ _ _ _ _ _ _ _ hp _ _ _ _ => hp.elim) (fun r60 g61 l62 a63 b64 H locs hp65 hw => ?_)
        obtain ⟨h66, h67, h68⟩ := hp65
        refine lv_ixor hx hb dX0_mixBlock_40 (jx_nm fun z69 hz69 => ?_)
        refine lv_iload_n hx hb dX0_mixBlock_41 rfl (lv_at hl 1 rfl) ?_
        refine lv_iconst (v := 3) hx hb dX0_mixBlock_42 (by decide) ?_
        refine lv_iushr hx hb dX0_mixBlock_43 rfl (jx_nm fun z70 hz70 => ?_)
        refine lv_ixor hx hb dX0_mixBlock_44 (jx_nm fun z71 hz71 => ?_)
        refine lv_istore (lv' := [(4, .int z71), (3, .int z42), (2, .int z40), (0, .ref (ad 11)), (1, .int x2)]) hx hb dX0_mixBlock_45 hl (by decide) rfl (fun ls hl => ?_)
        refine lv_iload_n hx hb dX0_mixBlock_47 rfl (lv_at hl 1 rfl) ?_
        refine lv_bipush (v := 17) hx hb dX0_mixBlock_48 (by decide) ?_
        refine jx_Si (As := [.int z42, .int 17]) (rest := []) ⟨hx, hb, hml, hown, hts⟩ hZ hw hA (jx_J6_rotateRight_7cf53 l hlt D t3 cI cJ ad g61 l62 a63 b64 _ z42 17) (va_cwS 2 hts (jx_gS wwX_good wX_30 wX_31 wX_2 wX_32) rfl rfl rfl (by decide +kernel) ⟨Nat.le_of_ble_eq_true rfl, Nat.le_of_ble_eq_true rfl⟩) rfl hl.1 rfl (Nat.le_of_ble_eq_true rfl) dX0_mixBlock_50 ⟨Nat.le_of_ble_eq_true rfl, Nat.le_of_ble_eq_true rfl⟩ (fun _ _ _ _ _ _ _ _ hp _ _ _ _ => hp.elim) (fun r76 g77 l78 a79 b80 H locs hp81 hw => ?_)
        obtain ⟨h82, h83, h84⟩ := hp81
        refine lv_iload_n hx hb dX0_mixBlock_53 rfl (lv_at hl 1 rfl) ?_
        refine lv_bipush (v := 19) hx hb dX0_mixBlock_54 (by decide) ?_
        refine jx_Si (As := [.int z42, .int 19]) (rest := [.int r76]) ⟨hx, hb, hml, hown, hts⟩ hZ hw hA (jx_J6_rotateRight_7cf53 l hlt D t3 cI cJ ad g77 l78 a79 b80 _ z42 19) (va_cwS 2 hts (jx_gS wwX_good wX_30 wX_31 wX_2 wX_32) rfl rfl rfl (by decide +kernel) ⟨Nat.le_of_ble_eq_true rfl, Nat.le_of_ble_eq_true rfl⟩) rfl hl.1 rfl (Nat.le_of_ble_eq_true rfl) dX0_mixBlock_56 ⟨Nat.le_of_ble_eq_true rfl, Nat.le_of_ble_eq_true rfl⟩ (fun _ _ _ _ _ _ _ _ hp _ _ _ _ => hp.elim) (fun r89 g90 l91 a92 b93 H locs hp94 hw => ?_)
        obtain ⟨h95, h96, h97⟩ := hp94
        refine lv_ixor hx hb dX0_mixBlock_59 (jx_nm fun z98 hz98 => ?_)
        refine lv_iload_n hx hb dX0_mixBlock_60 rfl (lv_at hl 1 rfl) ?_
        refine lv_bipush (v := 10) hx hb dX0_mixBlock_61 (by decide) ?_
        refine lv_iushr hx hb dX0_mixBlock_63 rfl (jx_nm fun z99 hz99 => ?_)
        refine lv_ixor hx hb dX0_mixBlock_64 (jx_nm fun z100 hz100 => ?_)
        refine lv_istore (lv' := [(5, .int z100), (4, .int z71), (3, .int z42), (2, .int z40), (0, .ref (ad 11)), (1, .int x2)]) hx hb dX0_mixBlock_65 hl (by decide) rfl (fun ls hl => ?_)
        refine lv_aload_n hx hb dX0_mixBlock_67 rfl (lv_at hl 4 rfl) ?_
        refine hk_get (ci := 3) (C := RX0) (T := TX0) (N := 3) (v := .ref (ad 14)) hx hb hts (fun _ h => List.mem_cons_of_mem _ (wwXc_wsX00 _ h)) hown hw 11 rfl rfl 2 (by decide) (hq _ wX_29) rfl dX0_mixBlock_68 ?_
        refine lv_iload_n hx hb dX0_mixBlock_71 rfl (lv_at hl 5 rfl) ?_
        refine lv_aload_n hx hb dX0_mixBlock_72 rfl (lv_at hl 4 rfl) ?_
        refine hk_get (ci := 3) (C := RX0) (T := TX0) (N := 3) (v := .ref (ad 14)) hx hb hts (fun _ h => List.mem_cons_of_mem _ (wwXc_wsX00 _ h)) hown hw 11 rfl rfl 2 (by decide) (hq _ wX_29) rfl dX0_mixBlock_73 ?_
        refine lv_iload_n hx hb dX0_mixBlock_76 rfl (lv_at hl 5 rfl) ?_
        refine lv_bipush (v := 16) hx hb dX0_mixBlock_77 (by decide) ?_
        refine lv_isub hx hb dX0_mixBlock_79 (jx_nm fun z101 hz101 => ?_)
        refine jx_iald hx hb hw 14 0 rfl rfl (hE_in (n := 64) (ob161 ((z101).toInt) ((x2).toInt) (((16 : Int32)).toInt) (k4 : Int) (((64 : Int32)).toInt) ((z39).toInt) (((15 : Int32)).toInt) ((z41).toInt) (((2 : Int32)).toInt) (hE_sub hz101) hf_B1_0 hrk_B1 (hE_nle cc5) (hE_sub hz39) (hE_sub hz41) (hE_rng (z101)) (hE_rng (x2)) (by decide) (by decide) (hE_rng (z39)) (by decide) (hE_rng (z41)) (by decide))) dX0_mixBlock_80 (fun z102 hz102 => ?_)
        refine lv_iload hx hb dX0_mixBlock_81 (lv_at hl 1 rfl) ?_
        refine lv_iadd hx hb dX0_mixBlock_83 (jx_nm fun z103 hz103 => ?_)
        refine lv_aload_n hx hb dX0_mixBlock_84 rfl (lv_at hl 4 rfl) ?_
        refine hk_get (ci := 3) (C := RX0) (T := TX0) (N := 3) (v := .ref (ad 14)) hx hb hts (fun _ h => List.mem_cons_of_mem _ (wwXc_wsX00 _ h)) hown hw 11 rfl rfl 2 (by decide) (hq _ wX_29) rfl dX0_mixBlock_85 ?_
        refine lv_iload_n hx hb dX0_mixBlock_88 rfl (lv_at hl 5 rfl) ?_
        refine lv_bipush (v := 7) hx hb dX0_mixBlock_89 (by decide) ?_
        refine lv_isub hx hb dX0_mixBlock_91 (jx_nm fun z104 hz104 => ?_)
        refine jx_iald hx hb hw 14 0 rfl rfl (hE_in (n := 64) (ob162 ((z104).toInt) ((x2).toInt) (((7 : Int32)).toInt) (k4 : Int) (((64 : Int32)).toInt) ((z39).toInt) (((15 : Int32)).toInt) ((z41).toInt) (((2 : Int32)).toInt) ((z101).toInt) (((16 : Int32)).toInt) (hE_sub hz104) hf_B1_0 hrk_B1 (hE_nle cc5) (hE_sub hz39) (hE_sub hz41) (hE_sub hz101) (hE_rng (z104)) (hE_rng (x2)) (by decide) (by decide) (hE_rng (z39)) (by decide) (hE_rng (z41)) (by decide) (hE_rng (z101)) (by decide))) dX0_mixBlock_92 (fun z105 hz105 => ?_)
        refine lv_iadd hx hb dX0_mixBlock_93 (jx_nm fun z106 hz106 => ?_)
        refine lv_iload hx hb dX0_mixBlock_94 (lv_at hl 0 rfl) ?_
        refine lv_iadd hx hb dX0_mixBlock_96 (jx_nm fun z107 hz107 => ?_)
        refine jx_iast xw (g := g90) (lg := l91) (ar := a92) (bk := b93) 5 hx hb hw 14 0 rfl rfl (hE_in (n := 64) (ob163 ((x2).toInt) (k4 : Int) (((64 : Int32)).toInt) ((z39).toInt) (((15 : Int32)).toInt) ((z41).toInt) (((2 : Int32)).toInt) ((z101).toInt) (((16 : Int32)).toInt) ((z104).toInt) (((7 : Int32)).toInt) hf_B1_0 hrk_B1 (hE_nle cc5) (hE_sub hz39) (hE_sub hz41) (hE_sub hz101) (hE_sub hz104) (hE_rng (x2)) (by decide) (hE_rng (z39)) (by decide) (hE_rng (z41)) (by decide) (hE_rng (z101)) (by decide) (hE_rng (z104)) (by decide))) dX0_mixBlock_97 rfl (fun H locs a108 h_a108 hw => ?_)
        obtain ⟨z109, hz109⟩ : ∃ z : Int32, x2 + 1 = z := ⟨_, rfl⟩
        refine lv_iinc (v := z109) (lv' := [(1, .int z109), (5, .int z100), (4, .int z71), (3, .int z42), (2, .int z40), (0, .ref (ad 11))]) hx hb dX0_mixBlock_98 hl (k := 5) rfl hz109 (by decide) rfl (fun ls hl => ?_)
        refine lv_goto (tgt := 3) hx hb dX0_mixBlock_101 (by decide) ?_
        exact ih_B1 z109 a108 ls _ _ (ob164 ((z109).toInt) (k4 : Int) ((x2).toInt) (((1 : Int32)).toInt) (((64 : Int32)).toInt) ((z39).toInt) (((15 : Int32)).toInt) ((z41).toInt) (((2 : Int32)).toInt) ((z101).toInt) (((16 : Int32)).toInt) ((z104).toInt) (((7 : Int32)).toInt) hrk_B1 (hE_add hz109) hf_B1_0 (hE_nle cc5) (hE_sub hz39) (hE_sub hz41) (hE_sub hz101) (hE_sub hz104) (hE_rng (z109)) (hE_rng (x2)) (by decide) (by decide) (hE_rng (z39)) (by decide) (hE_rng (z41)) (by decide) (hE_rng (z101)) (by decide) (hE_rng (z104)) (by decide)) (ob165 ((z109).toInt) ((x2).toInt) (((1 : Int32)).toInt) (k4 : Int) (((64 : Int32)).toInt) ((z39).toInt) (((15 : Int32)).toInt) ((z41).toInt) (((2 : Int32)).toInt) ((z101).toInt) (((16 : Int32)).toInt) ((z104).toInt) (((7 : Int32)).toInt) (hE_add hz109) hf_B1_0 hrk_B1 (hE_nle cc5) (hE_sub hz39) (hE_sub hz41) (hE_sub hz101) (hE_sub hz104) (hE_rng (z109)) (hE_rng (x2)) (by decide) (by decide) (hE_rng (z39)) (by decide) (hE_rng (z41)) (by decide) (hE_rng (z101)) (by decide) (hE_rng (z104)) (by decide)) (hk_frA (hk_frT (hk_frT (hk_frT (hk_frT hfr_a3 (by decide) h55) (by decide) h68) (by decide) h84) (by decide) h97) (by decide) h_a108) hw (lv_sub hl [5, 0] rfl)
  exact B1 (2147483648 - ((16 : Int32)).toInt).toNat 16 ar ls _ _ (Int.self_le_toNat _) (ob166 (((16 : Int32)).toInt) (by decide)) hk_fr0 hw (lv_sub hl [1, 0] rfl)
