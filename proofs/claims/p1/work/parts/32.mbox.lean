def ww_cn_begin32 : List Cond := Cond.code yX12_begin32 cX12_begin32 1 none :: ([Cond.fieldLink RX12 132 "LzmaChainsModel" "sum32" "I"] ++ (wsX120 ++ ([])))
set_option maxHeartbeats 4000000 in
set_option maxRecDepth 100000 in
/-- the reference: begin32 -/
theorem cn_begin32 (l : Launch) (D : va_G) (cI cJ : ClassId) (ad : Nat → Nat) (g : Nat → Int32) (lg : Nat → Int64) (ar : Nat → Nat → Int32) (bk : Nat → Int64) (sz : Nat)  : Met l yX12_begin32 ww_cn_begin32 { frames := 0, cells := 0, slots := 0, locals := 0 } (va_Pc [.ref (ad 0)] (hk_B D [(cI, .int), (cJ, .long)] sz (mw cI cJ ad g lg ar bk))) (va_Qv (fun u : Unit => True) (fun u : Unit => hk_E D [(cI, .int), (cJ, .long)] (va_A (mw cI cJ ad g lg ar bk) sz) (mw cI cJ ad (upd g 14 (-1)) lg ar bk)) (va_A (mw cI cJ ad g lg ar bk) sz)) 0 0 (va_A (mw cI cJ ad g lg ar bk) sz) := by
  refine hk_met (cc := cX12_begin32) (maxL := 1) (ret := none) (by decide) rfl (Nat.le_of_ble_eq_true rfl) ?_
  intro p e s m below meth c ls hx hb hr hml hown hts hlocks hin hA hw hl
  have iX12 : ∀ w ∈ wsX120, w ∈ ww_cn_begin32 := fun _ h => List.mem_cons_of_mem _ (List.mem_append_right _ (List.mem_append_left _ h))
  have hl : lv_has ls 1 [(0, .ref (ad 0))] := hl
  refine lv_aload_n hx hb dX12_begin32_0 rfl (lv_at hl 0 rfl) ?_
  refine lv_iconst (v := (-1)) hx hb dX12_begin32_1 (by decide) ?_
  refine hk_put (ci := 15) (C := RX12) (T := TX12) (N := 92) (ty := .int) (v := .int (-1)) hx hb hts iX12 tyX12 tyX12_ok nmX12 hown hw 0 rfl rfl 17 (by decide) (hts _ (List.mem_of_getElem? (i := 1) rfl)) rfl (by decide +kernel) rfl rfl (Nat.le_of_ble_eq_true rfl) dX12_begin32_2 (ws' := mw cI cJ ad (upd g 14 (-1)) lg ar bk) rfl (fun H locs hw => ?_)
  exact hk_vret (u := ()) hx hb hr hlocks (hw) (trivial) dX12_begin32_5

def ww_cn_add32 : List Cond := Cond.code yX12_add32 cX12_add32 2 none :: ([Cond.fieldLink RX12 132 "LzmaChainsModel" "sum32" "I", Cond.fieldLink RX12 35 "LzmaChainsModel" "table32" "[I"] ++ (wsX120 ++ ([])))
set_option maxHeartbeats 4000000 in
set_option maxRecDepth 100000 in
/-- the reference: add32 -/
theorem cn_add32 (l : Launch) (D : va_G) (cI cJ : ClassId) (ad : Nat → Nat) (g : Nat → Int32) (lg : Nat → Int64) (ar : Nat → Nat → Int32) (bk : Nat → Int64) (sz : Nat) (b : Int32) : Met l yX12_add32 ww_cn_add32 { frames := 0, cells := 0, slots := 0, locals := 0 } (va_Pc [.ref (ad 0), .int b] (hk_B D [(cI, .int), (cJ, .long)] sz (mw cI cJ ad g lg ar bk))) (va_Qv (fun u : Int32 => True) (fun u : Int32 => hk_E D [(cI, .int), (cJ, .long)] (va_A (mw cI cJ ad g lg ar bk) sz) (mw cI cJ ad (upd g 14 u) lg ar bk)) (va_A (mw cI cJ ad g lg ar bk) sz)) 0 0 (va_A (mw cI cJ ad g lg ar bk) sz) := by
  refine hk_met (cc := cX12_add32) (maxL := 2) (ret := none) (by decide) rfl (Nat.le_of_ble_eq_true rfl) ?_
  intro p e s m below meth c ls hx hb hr hml hown hts hlocks hin hA hw hl
  have iX12 : ∀ w ∈ wsX120, w ∈ ww_cn_add32 := fun _ h => List.mem_cons_of_mem _ (List.mem_append_right _ (List.mem_append_left _ h))
  have hl : lv_has ls 2 [(0, .ref (ad 0)), (1, .int b)] := hl
  refine lv_aload_n hx hb dX12_add32_0 rfl (lv_at hl 0 rfl) ?_
  refine lv_aload_n hx hb dX12_add32_1 rfl (lv_at hl 0 rfl) ?_
  refine hk_get (ci := 15) (C := RX12) (T := TX12) (N := 92) (v := .int (g 14)) hx hb hts iX12 hown hw 0 rfl rfl 17 (by decide) (hts _ (List.mem_of_getElem? (i := 1) rfl)) rfl dX12_add32_2 ?_
  refine lv_bipush (v := 8) hx hb dX12_add32_5 (by decide) ?_
  refine lv_iushr (v := (((g 14) : Int32).toUInt32 >>> ((8 : Int32).toUInt32 &&& Int32.toUInt32 31)).toInt32) hx hb dX12_add32_7 rfl ?_
  refine lv_aload_n hx hb dX12_add32_8 rfl (lv_at hl 0 rfl) ?_
  refine hk_get (ci := 15) (C := RX12) (T := TX12) (N := 92) (v := .ref (ad 3)) hx hb hts iX12 hown hw 0 rfl rfl 16 (by decide) (hts _ (List.mem_of_getElem? (i := 2) rfl)) rfl dX12_add32_9 ?_
  refine lv_aload_n hx hb dX12_add32_12 rfl (lv_at hl 0 rfl) ?_
  refine hk_get (ci := 15) (C := RX12) (T := TX12) (N := 92) (v := .int (g 14)) hx hb hts iX12 hown hw 0 rfl rfl 17 (by decide) (hts _ (List.mem_of_getElem? (i := 1) rfl)) rfl dX12_add32_13 ?_
  refine lv_iload_n hx hb dX12_add32_16 rfl (lv_at hl 1 rfl) ?_
  refine lv_ixor hx hb dX12_add32_17 ?_
  refine lv_sipush (v := 255) hx hb dX12_add32_18 (by decide) ?_
  refine lv_iand hx hb dX12_add32_21 ?_
  refine hk_iald (v := ((ar 2) ((((g 14) ^^^ b) &&& 255)).toNatClampNeg)) hx hb hw 3 0 rfl rfl (pk_andIn _ (m := 255) 8 (by decide) (by decide)) dX12_add32_22 rfl ?_
  refine lv_ixor hx hb dX12_add32_23 ?_
  refine hk_put (ci := 15) (C := RX12) (T := TX12) (N := 92) (ty := .int) (v := .int ((((g 14) : Int32).toUInt32 >>> ((8 : Int32).toUInt32 &&& Int32.toUInt32 31)).toInt32 ^^^ ((ar 2) ((((g 14) ^^^ b) &&& 255)).toNatClampNeg))) hx hb hts iX12 tyX12 tyX12_ok nmX12 hown hw 0 rfl rfl 17 (by decide) (hts _ (List.mem_of_getElem? (i := 1) rfl)) rfl (by decide +kernel) rfl rfl (Nat.le_of_ble_eq_true rfl) dX12_add32_24 (ws' := mw cI cJ ad (upd g 14 ((((g 14) : Int32).toUInt32 >>> ((8 : Int32).toUInt32 &&& Int32.toUInt32 31)).toInt32 ^^^ ((ar 2) ((((g 14) ^^^ b) &&& 255)).toNatClampNeg))) lg ar bk) rfl (fun H locs hw => ?_)
  exact hk_vret (u := ((((g 14) : Int32).toUInt32 >>> ((8 : Int32).toUInt32 &&& Int32.toUInt32 31)).toInt32 ^^^ ((ar 2) ((((g 14) ^^^ b) &&& 255)).toNatClampNeg))) hx hb hr hlocks (hw) (trivial) dX12_add32_27

def ww_cn_end32 : List Cond := Cond.code yX12_end32 cX12_end32 1 (some .int) :: ([Cond.fieldLink RX12 132 "LzmaChainsModel" "sum32" "I"] ++ (wsX120 ++ ([])))
set_option maxHeartbeats 4000000 in
set_option maxRecDepth 100000 in
/-- the reference: end32: some number -/
theorem cn_end32 (l : Launch) (D : va_G) (cI cJ : ClassId) (ad : Nat → Nat) (g : Nat → Int32) (lg : Nat → Int64) (ar : Nat → Nat → Int32) (bk : Nat → Int64) (sz : Nat)  : Met l yX12_end32 ww_cn_end32 { frames := 0, cells := 0, slots := 0, locals := 0 } (va_Pc [.ref (ad 0)] (hk_B D [(cI, .int), (cJ, .long)] sz (mw cI cJ ad g lg ar bk))) (va_Qi (fun (r : Int32) (u : Unit) => True) (fun u : Unit => hk_E D [(cI, .int), (cJ, .long)] (va_A (mw cI cJ ad g lg ar bk) sz) (mw cI cJ ad g lg ar bk)) (va_A (mw cI cJ ad g lg ar bk) sz)) 0 0 (va_A (mw cI cJ ad g lg ar bk) sz) := by
  refine hk_met (cc := cX12_end32) (maxL := 1) (ret := (some .int)) (by decide) rfl (Nat.le_of_ble_eq_true rfl) ?_
  intro p e s m below meth c ls hx hb hr hml hown hts hlocks hin hA hw hl
  have iX12 : ∀ w ∈ wsX120, w ∈ ww_cn_end32 := fun _ h => List.mem_cons_of_mem _ (List.mem_append_right _ (List.mem_append_left _ h))
  have hl : lv_has ls 1 [(0, .ref (ad 0))] := hl
  refine lv_aload_n hx hb dX12_end32_0 rfl (lv_at hl 0 rfl) ?_
  refine hk_get (ci := 15) (C := RX12) (T := TX12) (N := 92) (v := .int (g 14)) hx hb hts iX12 hown hw 0 rfl rfl 17 (by decide) (hts _ (List.mem_of_getElem? (i := 1) rfl)) rfl dX12_end32_1 ?_
  refine lv_iconst (v := (-1)) hx hb dX12_end32_4 (by decide) ?_
  refine lv_ixor hx hb dX12_end32_5 ?_
  exact hk_iret (u := ()) hx hb hr hlocks (hw) (trivial) dX12_end32_6

def ww_cn_check32 : List Cond := Cond.code yX12_check32 cX12_check32 4 (some .int) :: ([Cond.methodLink RX12 174 yX12_begin32, Cond.instanceMethod yX12_begin32, Cond.selects RX12 yX12_begin32 yX12_begin32, Cond.initialized RX12, Cond.code yX12_begin32 cX12_begin32 1 none, Cond.fieldLink RX12 132 "LzmaChainsModel" "sum32" "I", Cond.methodLink RX12 195 yX12_end32, Cond.instanceMethod yX12_end32, Cond.selects RX12 yX12_end32 yX12_end32, Cond.code yX12_end32 cX12_end32 1 (some .int), Cond.fieldLink RX12 98 "LzmaChainsModel" "row" "[I", Cond.methodLink RX12 182 yX12_add32, Cond.instanceMethod yX12_add32, Cond.selects RX12 yX12_add32 yX12_add32, Cond.code yX12_add32 cX12_add32 2 none, Cond.fieldLink RX12 35 "LzmaChainsModel" "table32" "[I"] ++ (wsX120 ++ ([])))
set_option maxRecDepth 20000 in
theorem gw_cn_check32_0 : GoodIn ww_cn_check32 (wsV RX12 174 RX12 yX12_begin32 ww_cn_begin32) := goodIn_r _ [1, 2, 3, 4, 5, 6, 17, 18, 19, 20, 21, 22, 23, 24, 25, 26, 27, 28, 29, 30, 31, 32, 33, 34, 35, 36, 37, 38, 39, 40, 41, 42, 43, 44, 45, 46, 47, 48, 49, 50, 51, 52, 53, 54, 55, 56, 57, 58, 59, 60, 61, 62, 63, 64, 65, 66, 67, 68, 69, 70, 71, 72, 73, 74, 75, 76, 77, 78, 79, 80, 81, 82, 83, 84, 85, 86, 87, 88, 89, 90, 91, 92, 93, 94, 95, 96, 97, 98, 99, 100, 101, 102, 103, 104, 105, 106, 107, 108] rfl (by decide +kernel)
set_option maxRecDepth 20000 in
theorem gw_cn_check32_1 : GoodIn ww_cn_check32 (wsV RX12 195 RX12 yX12_end32 ww_cn_end32) := goodIn_r _ [7, 8, 9, 4, 10, 6, 17, 18, 19, 20, 21, 22, 23, 24, 25, 26, 27, 28, 29, 30, 31, 32, 33, 34, 35, 36, 37, 38, 39, 40, 41, 42, 43, 44, 45, 46, 47, 48, 49, 50, 51, 52, 53, 54, 55, 56, 57, 58, 59, 60, 61, 62, 63, 64, 65, 66, 67, 68, 69, 70, 71, 72, 73, 74, 75, 76, 77, 78, 79, 80, 81, 82, 83, 84, 85, 86, 87, 88, 89, 90, 91, 92, 93, 94, 95, 96, 97, 98, 99, 100, 101, 102, 103, 104, 105, 106, 107, 108] rfl (by decide +kernel)
set_option maxRecDepth 20000 in
theorem gw_cn_check32_2 : GoodIn ww_cn_check32 (wsV RX12 182 RX12 yX12_add32 ww_cn_add32) := goodIn_r _ [12, 13, 14, 4, 15, 6, 16, 17, 18, 19, 20, 21, 22, 23, 24, 25, 26, 27, 28, 29, 30, 31, 32, 33, 34, 35, 36, 37, 38, 39, 40, 41, 42, 43, 44, 45, 46, 47, 48, 49, 50, 51, 52, 53, 54, 55, 56, 57, 58, 59, 60, 61, 62, 63, 64, 65, 66, 67, 68, 69, 70, 71, 72, 73, 74, 75, 76, 77, 78, 79, 80, 81, 82, 83, 84, 85, 86, 87, 88, 89, 90, 91, 92, 93, 94, 95, 96, 97, 98, 99, 100, 101, 102, 103, 104, 105, 106, 107, 108] rfl (by decide +kernel)
set_option maxHeartbeats 4000000 in
set_option maxRecDepth 100000 in
/-- the reference: check32 answers -/
theorem cn_check32 (l : Launch) (D : va_G) (cI cJ : ClassId) (ad : Nat → Nat) (g : Nat → Int32) (lg : Nat → Int64) (ar : Nat → Nat → Int32) (bk : Nat → Int64) (sz : Nat) (a1 a2 : Nat) (h1 : a1 ≤ a2) (h2 : a2 ≤ 20000) : Met l yX12_check32 ww_cn_check32 { frames := 1, cells := 0, slots := 0, locals := 21 } (va_Pc [.ref (ad 0), .int (nI a1), .int (nI a2)] (hk_B D [(cI, .int), (cJ, .long)] sz (mw cI cJ ad g lg ar bk))) (va_Qi (fun (r : Int32) (u : Int32) => True) (fun u : Int32 => hk_E D [(cI, .int), (cJ, .long)] (va_A (mw cI cJ ad g lg ar bk) sz) (mw cI cJ ad (upd g 14 u) lg ar bk)) (va_A (mw cI cJ ad g lg ar bk) sz)) 0 0 (va_A (mw cI cJ ad g lg ar bk) sz) := by
  refine hk_met (cc := cX12_check32) (maxL := 4) (ret := (some .int)) (by decide) rfl (Nat.le_of_ble_eq_true rfl) ?_
  intro p e s m below meth c ls hx hb hr hml hown hts hlocks hin hA hw hl
  have iX12 : ∀ w ∈ wsX120, w ∈ ww_cn_check32 := fun _ h => List.mem_cons_of_mem _ (List.mem_append_right _ (List.mem_append_left _ h))
  have hl : lv_has ls 4 [(0, .ref (ad 0)), (1, .int (nI a1)), (2, .int (nI a2))] := hl
  refine lv_aload_n hx hb dX12_check32_0 rfl (lv_at hl 0 rfl) ?_
  refine hk_Vv (As := []) (rest := []) ⟨hx, hb, hml, hown, hts⟩ hw hA (cn_begin32 l D cI cJ ad g lg ar bk _) (cwV 0 hts gw_cn_check32_0 rfl rfl rfl (by decide +kernel) ⟨Nat.le_of_ble_eq_true rfl, Nat.le_of_ble_eq_true rfl⟩) 0 (ci := 15) (T := TX12) (N := 92) rfl rfl rfl hl.1 rfl (Nat.le_of_ble_eq_true rfl) dX12_check32_1 ⟨Nat.le_of_ble_eq_true rfl, Nat.le_of_ble_eq_true rfl⟩ (fun uu_2 H locs hp_3 hw => ?_)
  have hw : hk_W D [(cI, .int), (cJ, .long)] _ s _ _ (mw cI cJ ad (upd g 14 (-1)) lg ar bk) := hw
  refine lv_iload_n hx hb dX12_check32_4 rfl (lv_at hl 1 rfl) ?_
  refine lv_istore_n (lv' := [(3, .int (nI a1)), (0, .ref (ad 0)), (1, .int (nI a1)), (2, .int (nI a2))]) hx hb dX12_check32_5 rfl hl (by decide) rfl (fun ls hl => ?_)
  have loop_5 : ∀ (ki i : Nat) (jj_4 : Int32) (ls : Array Slot) (H : Heap) (locs : List Loc), i + ki = a2 → hk_W D [(cI, .int), (cJ, .long)] (va_A (mw cI cJ ad g lg ar bk) sz) s H locs (mw cI cJ ad (upd g 14 jj_4) lg ar bk) → lv_has ls 4 [(3, .int (nI i)), (0, .ref (ad 0)), (1, .int (nI a1)), (2, .int (nI a2))] → W p l e { frames := 1, cells := 0, slots := 0, locals := 21 } s m (List.toArray [.ref (ad 0), .int (nI a1), .int (nI a2)]) below meth c H locs 0 0 (MQ below (va_Qi (fun (r : Int32) (u : Int32) => True) (fun u : Int32 => hk_E D [(cI, .int), (cJ, .long)] (va_A (mw cI cJ ad g lg ar bk) sz) (mw cI cJ ad (upd g 14 u) lg ar bk)) (va_A (mw cI cJ ad g lg ar bk) sz)) (List.toArray [.ref (ad 0), .int (nI a1), .int (nI a2)]) s 0 0 (va_A (mw cI cJ ad g lg ar bk) sz)) (F0 m 6 ls []) := by
    intro ki
    induction ki with
    | zero =>
      intro i jj_4 ls H locs hik  hw hl
      refine lv_iload_n hx hb dX12_check32_6 rfl (lv_at hl 0 rfl) ?_
      refine lv_iload_n hx hb dX12_check32_7 rfl (lv_at hl 3 rfl) ?_
      refine lv_icmp_ge (tgt := 27) hx hb dX12_check32_8 (by decide) (fun _ => ?_) (fun cc_6 => absurd (hk_le (a := a2) (b := i) (by omega) (by omega)) cc_6)
      refine lv_aload_n hx hb dX12_check32_27 rfl (lv_at hl 1 rfl) ?_
      refine hk_Vi (As := []) (rest := []) ⟨hx, hb, hml, hown, hts⟩ hw hA (cn_end32 l D cI cJ ad (upd g 14 jj_4) lg ar bk _) (cwV 0 hts gw_cn_check32_1 rfl rfl rfl (by decide +kernel) ⟨Nat.le_of_ble_eq_true rfl, Nat.le_of_ble_eq_true rfl⟩) 0 (ci := 15) (T := TX12) (N := 92) rfl rfl rfl hl.1 rfl (Nat.le_of_ble_eq_true rfl) dX12_check32_28 ⟨Nat.le_of_ble_eq_true rfl, Nat.le_of_ble_eq_true rfl⟩ (fun rr_7 uu_8 H locs hp_9 hw => ?_)
      have hw : hk_W D [(cI, .int), (cJ, .long)] _ s _ _ (mw cI cJ ad (upd g 14 jj_4) lg ar bk) := hw
      exact hk_iret (u := jj_4) hx hb hr hlocks (hw) (trivial) dX12_check32_31
    | succ ki ih =>
      intro i jj_4 ls H locs hik  hw hl
      refine lv_iload_n hx hb dX12_check32_6 rfl (lv_at hl 0 rfl) ?_
      refine lv_iload_n hx hb dX12_check32_7 rfl (lv_at hl 3 rfl) ?_
      refine lv_icmp_ge (tgt := 27) hx hb dX12_check32_8 (by decide) (fun cc_10 => absurd cc_10 (hk_nle (a := i) (b := a2) (by omega) (by omega))) (fun _ => ?_)
      refine lv_aload_n hx hb dX12_check32_11 rfl (lv_at hl 1 rfl) ?_
      refine lv_aload_n hx hb dX12_check32_12 rfl (lv_at hl 1 rfl) ?_
      refine hk_get (ci := 15) (C := RX12) (T := TX12) (N := 92) (v := .ref (ad 23)) hx hb hts iX12 hown hw 0 rfl rfl 68 (by decide) (hts _ (List.mem_of_getElem? (i := 11) rfl)) rfl dX12_check32_13 ?_
      refine lv_iload_n hx hb dX12_check32_16 rfl (lv_at hl 0 rfl) ?_
      refine hk_iald (v := ((ar 22) ((nI i)).toNatClampNeg)) hx hb hw 23 0 rfl rfl (vp_in_nI (by omega) (by omega)) dX12_check32_17 rfl ?_
      refine hk_Vv (As := [.int ((ar 22) ((nI i)).toNatClampNeg)]) (rest := []) ⟨hx, hb, hml, hown, hts⟩ hw hA (cn_add32 l D cI cJ ad (upd g 14 jj_4) lg ar bk _ ((ar 22) ((nI i)).toNatClampNeg)) (cwV 1 hts gw_cn_check32_2 rfl rfl rfl (by decide +kernel) ⟨Nat.le_of_ble_eq_true rfl, Nat.le_of_ble_eq_true rfl⟩) 0 (ci := 15) (T := TX12) (N := 92) rfl rfl rfl hl.1 rfl (Nat.le_of_ble_eq_true rfl) dX12_check32_18 ⟨Nat.le_of_ble_eq_true rfl, Nat.le_of_ble_eq_true rfl⟩ (fun uu_12 H locs hp_13 hw => ?_)
      have hw : hk_W D [(cI, .int), (cJ, .long)] _ s _ _ (mw cI cJ ad (upd g 14 uu_12) lg ar bk) := hw
      refine lv_iinc (v := (nI (i + 1))) (lv' := [(3, .int (nI (i + 1))), (0, .ref (ad 0)), (1, .int (nI a1)), (2, .int (nI a2))]) hx hb dX12_check32_21 hl (k := 0) rfl ((nI_succ i).symm) (by decide) rfl (fun ls hl => ?_)
      refine lv_goto (tgt := 6) hx hb dX12_check32_24 (by decide) ?_
      exact ih (i + 1) uu_12 ls _ _ (by omega)  hw (lv_sub hl [0, 1, 2, 3] rfl)
  exact loop_5 (a2 - a1) a1 (-1) ls _ _ (by omega)  hw (lv_sub hl [0, 1, 2, 3] rfl)

def ww_cn_sum : List Cond := Cond.code yX12_sum cX12_sum 4 (some .int) :: ([Cond.methodLink RX12 174 yX12_begin32, Cond.instanceMethod yX12_begin32, Cond.selects RX12 yX12_begin32 yX12_begin32, Cond.initialized RX12, Cond.code yX12_begin32 cX12_begin32 1 none, Cond.fieldLink RX12 132 "LzmaChainsModel" "sum32" "I", Cond.methodLink RX12 195 yX12_end32, Cond.instanceMethod yX12_end32, Cond.selects RX12 yX12_end32 yX12_end32, Cond.code yX12_end32 cX12_end32 1 (some .int), Cond.fieldLink RX12 28 "LzmaChainsModel" "in" "[I", Cond.methodLink RX12 182 yX12_add32, Cond.instanceMethod yX12_add32, Cond.selects RX12 yX12_add32 yX12_add32, Cond.code yX12_add32 cX12_add32 2 none, Cond.fieldLink RX12 35 "LzmaChainsModel" "table32" "[I"] ++ (wsX120 ++ ([])))
set_option maxRecDepth 20000 in
theorem gw_cn_sum_0 : GoodIn ww_cn_sum (wsV RX12 174 RX12 yX12_begin32 ww_cn_begin32) := goodIn_r _ [1, 2, 3, 4, 5, 6, 17, 18, 19, 20, 21, 22, 23, 24, 25, 26, 27, 28, 29, 30, 31, 32, 33, 34, 35, 36, 37, 38, 39, 40, 41, 42, 43, 44, 45, 46, 47, 48, 49, 50, 51, 52, 53, 54, 55, 56, 57, 58, 59, 60, 61, 62, 63, 64, 65, 66, 67, 68, 69, 70, 71, 72, 73, 74, 75, 76, 77, 78, 79, 80, 81, 82, 83, 84, 85, 86, 87, 88, 89, 90, 91, 92, 93, 94, 95, 96, 97, 98, 99, 100, 101, 102, 103, 104, 105, 106, 107, 108] rfl (by decide +kernel)
set_option maxRecDepth 20000 in
theorem gw_cn_sum_1 : GoodIn ww_cn_sum (wsV RX12 195 RX12 yX12_end32 ww_cn_end32) := goodIn_r _ [7, 8, 9, 4, 10, 6, 17, 18, 19, 20, 21, 22, 23, 24, 25, 26, 27, 28, 29, 30, 31, 32, 33, 34, 35, 36, 37, 38, 39, 40, 41, 42, 43, 44, 45, 46, 47, 48, 49, 50, 51, 52, 53, 54, 55, 56, 57, 58, 59, 60, 61, 62, 63, 64, 65, 66, 67, 68, 69, 70, 71, 72, 73, 74, 75, 76, 77, 78, 79, 80, 81, 82, 83, 84, 85, 86, 87, 88, 89, 90, 91, 92, 93, 94, 95, 96, 97, 98, 99, 100, 101, 102, 103, 104, 105, 106, 107, 108] rfl (by decide +kernel)
set_option maxRecDepth 20000 in
theorem gw_cn_sum_2 : GoodIn ww_cn_sum (wsV RX12 182 RX12 yX12_add32 ww_cn_add32) := goodIn_r _ [12, 13, 14, 4, 15, 6, 16, 17, 18, 19, 20, 21, 22, 23, 24, 25, 26, 27, 28, 29, 30, 31, 32, 33, 34, 35, 36, 37, 38, 39, 40, 41, 42, 43, 44, 45, 46, 47, 48, 49, 50, 51, 52, 53, 54, 55, 56, 57, 58, 59, 60, 61, 62, 63, 64, 65, 66, 67, 68, 69, 70, 71, 72, 73, 74, 75, 76, 77, 78, 79, 80, 81, 82, 83, 84, 85, 86, 87, 88, 89, 90, 91, 92, 93, 94, 95, 96, 97, 98, 99, 100, 101, 102, 103, 104, 105, 106, 107, 108] rfl (by decide +kernel)
set_option maxHeartbeats 4000000 in
set_option maxRecDepth 100000 in
/-- the reference: sum answers -/
theorem cn_sum (l : Launch) (D : va_G) (cI cJ : ClassId) (ad : Nat → Nat) (g : Nat → Int32) (lg : Nat → Int64) (ar : Nat → Nat → Int32) (bk : Nat → Int64) (sz : Nat) (a1 a2 : Nat) (h1 : a1 ≤ a2) (h2 : a2 ≤ 1500) : Met l yX12_sum ww_cn_sum { frames := 1, cells := 0, slots := 0, locals := 21 } (va_Pc [.ref (ad 0), .int (nI a1), .int (nI a2)] (hk_B D [(cI, .int), (cJ, .long)] sz (mw cI cJ ad g lg ar bk))) (va_Qi (fun (r : Int32) (u : Int32) => True) (fun u : Int32 => hk_E D [(cI, .int), (cJ, .long)] (va_A (mw cI cJ ad g lg ar bk) sz) (mw cI cJ ad (upd g 14 u) lg ar bk)) (va_A (mw cI cJ ad g lg ar bk) sz)) 0 0 (va_A (mw cI cJ ad g lg ar bk) sz) := by
  refine hk_met (cc := cX12_sum) (maxL := 4) (ret := (some .int)) (by decide) rfl (Nat.le_of_ble_eq_true rfl) ?_
  intro p e s m below meth c ls hx hb hr hml hown hts hlocks hin hA hw hl
  have iX12 : ∀ w ∈ wsX120, w ∈ ww_cn_sum := fun _ h => List.mem_cons_of_mem _ (List.mem_append_right _ (List.mem_append_left _ h))
  have hl : lv_has ls 4 [(0, .ref (ad 0)), (1, .int (nI a1)), (2, .int (nI a2))] := hl
  refine lv_aload_n hx hb dX12_sum_0 rfl (lv_at hl 0 rfl) ?_
  refine hk_Vv (As := []) (rest := []) ⟨hx, hb, hml, hown, hts⟩ hw hA (cn_begin32 l D cI cJ ad g lg ar bk _) (cwV 0 hts gw_cn_sum_0 rfl rfl rfl (by decide +kernel) ⟨Nat.le_of_ble_eq_true rfl, Nat.le_of_ble_eq_true rfl⟩) 0 (ci := 15) (T := TX12) (N := 92) rfl rfl rfl hl.1 rfl (Nat.le_of_ble_eq_true rfl) dX12_sum_1 ⟨Nat.le_of_ble_eq_true rfl, Nat.le_of_ble_eq_true rfl⟩ (fun uu_2 H locs hp_3 hw => ?_)
  have hw : hk_W D [(cI, .int), (cJ, .long)] _ s _ _ (mw cI cJ ad (upd g 14 (-1)) lg ar bk) := hw
  refine lv_iload_n hx hb dX12_sum_4 rfl (lv_at hl 1 rfl) ?_
  refine lv_istore_n (lv' := [(3, .int (nI a1)), (0, .ref (ad 0)), (1, .int (nI a1)), (2, .int (nI a2))]) hx hb dX12_sum_5 rfl hl (by decide) rfl (fun ls hl => ?_)
  have loop_5 : ∀ (ki i : Nat) (jj_4 : Int32) (ls : Array Slot) (H : Heap) (locs : List Loc), i + ki = a2 → hk_W D [(cI, .int), (cJ, .long)] (va_A (mw cI cJ ad g lg ar bk) sz) s H locs (mw cI cJ ad (upd g 14 jj_4) lg ar bk) → lv_has ls 4 [(3, .int (nI i)), (0, .ref (ad 0)), (1, .int (nI a1)), (2, .int (nI a2))] → W p l e { frames := 1, cells := 0, slots := 0, locals := 21 } s m (List.toArray [.ref (ad 0), .int (nI a1), .int (nI a2)]) below meth c H locs 0 0 (MQ below (va_Qi (fun (r : Int32) (u : Int32) => True) (fun u : Int32 => hk_E D [(cI, .int), (cJ, .long)] (va_A (mw cI cJ ad g lg ar bk) sz) (mw cI cJ ad (upd g 14 u) lg ar bk)) (va_A (mw cI cJ ad g lg ar bk) sz)) (List.toArray [.ref (ad 0), .int (nI a1), .int (nI a2)]) s 0 0 (va_A (mw cI cJ ad g lg ar bk) sz)) (F0 m 6 ls []) := by
    intro ki
    induction ki with
    | zero =>
      intro i jj_4 ls H locs hik  hw hl
      refine lv_iload_n hx hb dX12_sum_6 rfl (lv_at hl 0 rfl) ?_
      refine lv_iload_n hx hb dX12_sum_7 rfl (lv_at hl 3 rfl) ?_
      refine lv_icmp_ge (tgt := 27) hx hb dX12_sum_8 (by decide) (fun _ => ?_) (fun cc_6 => absurd (hk_le (a := a2) (b := i) (by omega) (by omega)) cc_6)
      refine lv_aload_n hx hb dX12_sum_27 rfl (lv_at hl 1 rfl) ?_
      refine hk_Vi (As := []) (rest := []) ⟨hx, hb, hml, hown, hts⟩ hw hA (cn_end32 l D cI cJ ad (upd g 14 jj_4) lg ar bk _) (cwV 0 hts gw_cn_sum_1 rfl rfl rfl (by decide +kernel) ⟨Nat.le_of_ble_eq_true rfl, Nat.le_of_ble_eq_true rfl⟩) 0 (ci := 15) (T := TX12) (N := 92) rfl rfl rfl hl.1 rfl (Nat.le_of_ble_eq_true rfl) dX12_sum_28 ⟨Nat.le_of_ble_eq_true rfl, Nat.le_of_ble_eq_true rfl⟩ (fun rr_7 uu_8 H locs hp_9 hw => ?_)
      have hw : hk_W D [(cI, .int), (cJ, .long)] _ s _ _ (mw cI cJ ad (upd g 14 jj_4) lg ar bk) := hw
      exact hk_iret (u := jj_4) hx hb hr hlocks (hw) (trivial) dX12_sum_31
    | succ ki ih =>
      intro i jj_4 ls H locs hik  hw hl
      refine lv_iload_n hx hb dX12_sum_6 rfl (lv_at hl 0 rfl) ?_
      refine lv_iload_n hx hb dX12_sum_7 rfl (lv_at hl 3 rfl) ?_
      refine lv_icmp_ge (tgt := 27) hx hb dX12_sum_8 (by decide) (fun cc_10 => absurd cc_10 (hk_nle (a := i) (b := a2) (by omega) (by omega))) (fun _ => ?_)
      refine lv_aload_n hx hb dX12_sum_11 rfl (lv_at hl 1 rfl) ?_
      refine lv_aload_n hx hb dX12_sum_12 rfl (lv_at hl 1 rfl) ?_
      refine hk_get (ci := 15) (C := RX12) (T := TX12) (N := 92) (v := .ref (ad 1)) hx hb hts iX12 hown hw 0 rfl rfl 12 (by decide) (hts _ (List.mem_of_getElem? (i := 11) rfl)) rfl dX12_sum_13 ?_
      refine lv_iload_n hx hb dX12_sum_16 rfl (lv_at hl 0 rfl) ?_
      refine hk_iald (v := ((ar 0) ((nI i)).toNatClampNeg)) hx hb hw 1 0 rfl rfl (vp_in_nI (by omega) (by omega)) dX12_sum_17 rfl ?_
      refine hk_Vv (As := [.int ((ar 0) ((nI i)).toNatClampNeg)]) (rest := []) ⟨hx, hb, hml, hown, hts⟩ hw hA (cn_add32 l D cI cJ ad (upd g 14 jj_4) lg ar bk _ ((ar 0) ((nI i)).toNatClampNeg)) (cwV 1 hts gw_cn_sum_2 rfl rfl rfl (by decide +kernel) ⟨Nat.le_of_ble_eq_true rfl, Nat.le_of_ble_eq_true rfl⟩) 0 (ci := 15) (T := TX12) (N := 92) rfl rfl rfl hl.1 rfl (Nat.le_of_ble_eq_true rfl) dX12_sum_18 ⟨Nat.le_of_ble_eq_true rfl, Nat.le_of_ble_eq_true rfl⟩ (fun uu_12 H locs hp_13 hw => ?_)
      have hw : hk_W D [(cI, .int), (cJ, .long)] _ s _ _ (mw cI cJ ad (upd g 14 uu_12) lg ar bk) := hw
      refine lv_iinc (v := (nI (i + 1))) (lv' := [(3, .int (nI (i + 1))), (0, .ref (ad 0)), (1, .int (nI a1)), (2, .int (nI a2))]) hx hb dX12_sum_21 hl (k := 0) rfl ((nI_succ i).symm) (by decide) rfl (fun ls hl => ?_)
      refine lv_goto (tgt := 6) hx hb dX12_sum_24 (by decide) ?_
      exact ih (i + 1) uu_12 ls _ _ (by omega)  hw (lv_sub hl [0, 1, 2, 3] rfl)
  exact loop_5 (a2 - a1) a1 (-1) ls _ _ (by omega)  hw (lv_sub hl [0, 1, 2, 3] rfl)

def ww_cn_magic6 : List Cond := Cond.code yX12_putMagic cX12_putMagic 1 none :: ([Cond.methodLink RX12 394 yX12_put, Cond.instanceMethod yX12_put, Cond.selects RX12 yX12_put yX12_put, Cond.initialized RX12, Cond.code yX12_put cX12_put 2 none, Cond.fieldLink RX12 391 "LzmaChainsModel" "rowSize" "I", Cond.fieldLink RX12 98 "LzmaChainsModel" "row" "[I"] ++ (wsX120 ++ ([])))
set_option maxRecDepth 20000 in
theorem gw_cn_magic6_0 : GoodIn ww_cn_magic6 (wsV RX12 394 RX12 yX12_put ww_cn_put0) := goodIn_r _ [1, 2, 3, 4, 5, 6, 7, 8, 9, 10, 11, 12, 13, 14, 15, 16, 17, 18, 19, 20, 21, 22, 23, 24, 25, 26, 27, 28, 29, 30, 31, 32, 33, 34, 35, 36, 37, 38, 39, 40, 41, 42, 43, 44, 45, 46, 47, 48, 49, 50, 51, 52, 53, 54, 55, 56, 57, 58, 59, 60, 61, 62, 63, 64, 65, 66, 67, 68, 69, 70, 71, 72, 73, 74, 75, 76, 77, 78, 79, 80, 81, 82, 83, 84, 85, 86, 87, 88, 89, 90, 91, 92, 93, 94, 95, 96, 97, 98, 99] rfl (by decide +kernel)
set_option maxRecDepth 20000 in
theorem gw_cn_magic6_1 : GoodIn ww_cn_magic6 (wsV RX12 394 RX12 yX12_put ww_cn_put1) := goodIn_r _ [1, 2, 3, 4, 5, 6, 7, 8, 9, 10, 11, 12, 13, 14, 15, 16, 17, 18, 19, 20, 21, 22, 23, 24, 25, 26, 27, 28, 29, 30, 31, 32, 33, 34, 35, 36, 37, 38, 39, 40, 41, 42, 43, 44, 45, 46, 47, 48, 49, 50, 51, 52, 53, 54, 55, 56, 57, 58, 59, 60, 61, 62, 63, 64, 65, 66, 67, 68, 69, 70, 71, 72, 73, 74, 75, 76, 77, 78, 79, 80, 81, 82, 83, 84, 85, 86, 87, 88, 89, 90, 91, 92, 93, 94, 95, 96, 97, 98, 99] rfl (by decide +kernel)
set_option maxRecDepth 20000 in
theorem gw_cn_magic6_2 : GoodIn ww_cn_magic6 (wsV RX12 394 RX12 yX12_put ww_cn_put2) := goodIn_r _ [1, 2, 3, 4, 5, 6, 7, 8, 9, 10, 11, 12, 13, 14, 15, 16, 17, 18, 19, 20, 21, 22, 23, 24, 25, 26, 27, 28, 29, 30, 31, 32, 33, 34, 35, 36, 37, 38, 39, 40, 41, 42, 43, 44, 45, 46, 47, 48, 49, 50, 51, 52, 53, 54, 55, 56, 57, 58, 59, 60, 61, 62, 63, 64, 65, 66, 67, 68, 69, 70, 71, 72, 73, 74, 75, 76, 77, 78, 79, 80, 81, 82, 83, 84, 85, 86, 87, 88, 89, 90, 91, 92, 93, 94, 95, 96, 97, 98, 99] rfl (by decide +kernel)
set_option maxRecDepth 20000 in
theorem gw_cn_magic6_3 : GoodIn ww_cn_magic6 (wsV RX12 394 RX12 yX12_put ww_cn_put3) := goodIn_r _ [1, 2, 3, 4, 5, 6, 7, 8, 9, 10, 11, 12, 13, 14, 15, 16, 17, 18, 19, 20, 21, 22, 23, 24, 25, 26, 27, 28, 29, 30, 31, 32, 33, 34, 35, 36, 37, 38, 39, 40, 41, 42, 43, 44, 45, 46, 47, 48, 49, 50, 51, 52, 53, 54, 55, 56, 57, 58, 59, 60, 61, 62, 63, 64, 65, 66, 67, 68, 69, 70, 71, 72, 73, 74, 75, 76, 77, 78, 79, 80, 81, 82, 83, 84, 85, 86, 87, 88, 89, 90, 91, 92, 93, 94, 95, 96, 97, 98, 99] rfl (by decide +kernel)
set_option maxRecDepth 20000 in
theorem gw_cn_magic6_4 : GoodIn ww_cn_magic6 (wsV RX12 394 RX12 yX12_put ww_cn_put4) := goodIn_r _ [1, 2, 3, 4, 5, 6, 7, 8, 9, 10, 11, 12, 13, 14, 15, 16, 17, 18, 19, 20, 21, 22, 23, 24, 25, 26, 27, 28, 29, 30, 31, 32, 33, 34, 35, 36, 37, 38, 39, 40, 41, 42, 43, 44, 45, 46, 47, 48, 49, 50, 51, 52, 53, 54, 55, 56, 57, 58, 59, 60, 61, 62, 63, 64, 65, 66, 67, 68, 69, 70, 71, 72, 73, 74, 75, 76, 77, 78, 79, 80, 81, 82, 83, 84, 85, 86, 87, 88, 89, 90, 91, 92, 93, 94, 95, 96, 97, 98, 99] rfl (by decide +kernel)
set_option maxRecDepth 20000 in
theorem gw_cn_magic6_5 : GoodIn ww_cn_magic6 (wsV RX12 394 RX12 yX12_put ww_cn_put5) := goodIn_r _ [1, 2, 3, 4, 5, 6, 7, 8, 9, 10, 11, 12, 13, 14, 15, 16, 17, 18, 19, 20, 21, 22, 23, 24, 25, 26, 27, 28, 29, 30, 31, 32, 33, 34, 35, 36, 37, 38, 39, 40, 41, 42, 43, 44, 45, 46, 47, 48, 49, 50, 51, 52, 53, 54, 55, 56, 57, 58, 59, 60, 61, 62, 63, 64, 65, 66, 67, 68, 69, 70, 71, 72, 73, 74, 75, 76, 77, 78, 79, 80, 81, 82, 83, 84, 85, 86, 87, 88, 89, 90, 91, 92, 93, 94, 95, 96, 97, 98, 99] rfl (by decide +kernel)
set_option maxHeartbeats 4000000 in
set_option maxRecDepth 100000 in
/-- the reference: putMagic -/
theorem cn_magic6 (l : Launch) (D : va_G) (cI cJ : ClassId) (ad : Nat → Nat) (g : Nat → Int32) (lg : Nat → Int64) (ar : Nat → Nat → Int32) (bk : Nat → Int64) (sz : Nat)  (h42 : g 42 = 0) : Met l yX12_putMagic ww_cn_magic6 { frames := 1, cells := 0, slots := 0, locals := 21 } (va_Pc [.ref (ad 0)] (hk_B D [(cI, .int), (cJ, .long)] sz (mw cI cJ ad g lg ar bk))) (va_Qv (fun u : (Nat → Int32) => True) (fun u : (Nat → Int32) => hk_E D [(cI, .int), (cJ, .long)] (va_A (mw cI cJ ad g lg ar bk) sz) (mw cI cJ ad (upd g 42 6) lg (va_up ar 22 u) bk)) (va_A (mw cI cJ ad g lg ar bk) sz)) 0 0 (va_A (mw cI cJ ad g lg ar bk) sz) := by
  refine hk_met (cc := cX12_putMagic) (maxL := 1) (ret := none) (by decide) rfl (Nat.le_of_ble_eq_true rfl) ?_
  intro p e s m below meth c ls hx hb hr hml hown hts hlocks hin hA hw hl
  have iX12 : ∀ w ∈ wsX120, w ∈ ww_cn_magic6 := fun _ h => List.mem_cons_of_mem _ (List.mem_append_right _ (List.mem_append_left _ h))
  have hl : lv_has ls 1 [(0, .ref (ad 0))] := hl
  refine lv_aload_n hx hb dX12_putMagic_0 rfl (lv_at hl 0 rfl) ?_
  refine lv_sipush (v := 253) hx hb dX12_putMagic_1 (by decide) ?_
  refine hk_Vv (As := [.int 253]) (rest := []) ⟨hx, hb, hml, hown, hts⟩ hw hA (cn_put0 l D cI cJ ad g lg ar bk _ 253 h42) (cwV 1 hts gw_cn_magic6_0 rfl rfl rfl (by decide +kernel) ⟨Nat.le_of_ble_eq_true rfl, Nat.le_of_ble_eq_true rfl⟩) 0 (ci := 15) (T := TX12) (N := 92) rfl rfl rfl hl.1 rfl (Nat.le_of_ble_eq_true rfl) dX12_putMagic_4 ⟨Nat.le_of_ble_eq_true rfl, Nat.le_of_ble_eq_true rfl⟩ (fun uu_2 H locs hp_3 hw => ?_)
  have hw : hk_W D [(cI, .int), (cJ, .long)] _ s _ _ (mw cI cJ ad (upd g 42 1) lg (va_up ar 22 uu_2) bk) := hw
  refine lv_aload_n hx hb dX12_putMagic_7 rfl (lv_at hl 0 rfl) ?_
  refine lv_bipush (v := 55) hx hb dX12_putMagic_8 (by decide) ?_
  refine hk_Vv (As := [.int 55]) (rest := []) ⟨hx, hb, hml, hown, hts⟩ hw hA (cn_put1 l D cI cJ ad (upd g 42 1) lg (va_up ar 22 uu_2) bk _ 55 rfl) (cwV 1 hts gw_cn_magic6_1 rfl rfl rfl (by decide +kernel) ⟨Nat.le_of_ble_eq_true rfl, Nat.le_of_ble_eq_true rfl⟩) 0 (ci := 15) (T := TX12) (N := 92) rfl rfl rfl hl.1 rfl (Nat.le_of_ble_eq_true rfl) dX12_putMagic_10 ⟨Nat.le_of_ble_eq_true rfl, Nat.le_of_ble_eq_true rfl⟩ (fun uu_5 H locs hp_6 hw => ?_)
  have hw : hk_W D [(cI, .int), (cJ, .long)] _ s _ _ (mw cI cJ ad (upd g 42 2) lg (va_up ar 22 uu_5) bk) := hw
  refine lv_aload_n hx hb dX12_putMagic_13 rfl (lv_at hl 0 rfl) ?_
  refine lv_bipush (v := 122) hx hb dX12_putMagic_14 (by decide) ?_
  refine hk_Vv (As := [.int 122]) (rest := []) ⟨hx, hb, hml, hown, hts⟩ hw hA (cn_put2 l D cI cJ ad (upd g 42 2) lg (va_up ar 22 uu_5) bk _ 122 rfl) (cwV 1 hts gw_cn_magic6_2 rfl rfl rfl (by decide +kernel) ⟨Nat.le_of_ble_eq_true rfl, Nat.le_of_ble_eq_true rfl⟩) 0 (ci := 15) (T := TX12) (N := 92) rfl rfl rfl hl.1 rfl (Nat.le_of_ble_eq_true rfl) dX12_putMagic_16 ⟨Nat.le_of_ble_eq_true rfl, Nat.le_of_ble_eq_true rfl⟩ (fun uu_8 H locs hp_9 hw => ?_)
  have hw : hk_W D [(cI, .int), (cJ, .long)] _ s _ _ (mw cI cJ ad (upd g 42 3) lg (va_up ar 22 uu_8) bk) := hw
  refine lv_aload_n hx hb dX12_putMagic_19 rfl (lv_at hl 0 rfl) ?_
  refine lv_bipush (v := 88) hx hb dX12_putMagic_20 (by decide) ?_
  refine hk_Vv (As := [.int 88]) (rest := []) ⟨hx, hb, hml, hown, hts⟩ hw hA (cn_put3 l D cI cJ ad (upd g 42 3) lg (va_up ar 22 uu_8) bk _ 88 rfl) (cwV 1 hts gw_cn_magic6_3 rfl rfl rfl (by decide +kernel) ⟨Nat.le_of_ble_eq_true rfl, Nat.le_of_ble_eq_true rfl⟩) 0 (ci := 15) (T := TX12) (N := 92) rfl rfl rfl hl.1 rfl (Nat.le_of_ble_eq_true rfl) dX12_putMagic_22 ⟨Nat.le_of_ble_eq_true rfl, Nat.le_of_ble_eq_true rfl⟩ (fun uu_11 H locs hp_12 hw => ?_)
  have hw : hk_W D [(cI, .int), (cJ, .long)] _ s _ _ (mw cI cJ ad (upd g 42 4) lg (va_up ar 22 uu_11) bk) := hw
  refine lv_aload_n hx hb dX12_putMagic_25 rfl (lv_at hl 0 rfl) ?_
  refine lv_bipush (v := 90) hx hb dX12_putMagic_26 (by decide) ?_
  refine hk_Vv (As := [.int 90]) (rest := []) ⟨hx, hb, hml, hown, hts⟩ hw hA (cn_put4 l D cI cJ ad (upd g 42 4) lg (va_up ar 22 uu_11) bk _ 90 rfl) (cwV 1 hts gw_cn_magic6_4 rfl rfl rfl (by decide +kernel) ⟨Nat.le_of_ble_eq_true rfl, Nat.le_of_ble_eq_true rfl⟩) 0 (ci := 15) (T := TX12) (N := 92) rfl rfl rfl hl.1 rfl (Nat.le_of_ble_eq_true rfl) dX12_putMagic_28 ⟨Nat.le_of_ble_eq_true rfl, Nat.le_of_ble_eq_true rfl⟩ (fun uu_14 H locs hp_15 hw => ?_)
  have hw : hk_W D [(cI, .int), (cJ, .long)] _ s _ _ (mw cI cJ ad (upd g 42 5) lg (va_up ar 22 uu_14) bk) := hw
  refine lv_aload_n hx hb dX12_putMagic_31 rfl (lv_at hl 0 rfl) ?_
  refine lv_iconst (v := 0) hx hb dX12_putMagic_32 (by decide) ?_
  refine hk_Vv (As := [.int 0]) (rest := []) ⟨hx, hb, hml, hown, hts⟩ hw hA (cn_put5 l D cI cJ ad (upd g 42 5) lg (va_up ar 22 uu_14) bk _ 0 rfl) (cwV 1 hts gw_cn_magic6_5 rfl rfl rfl (by decide +kernel) ⟨Nat.le_of_ble_eq_true rfl, Nat.le_of_ble_eq_true rfl⟩) 0 (ci := 15) (T := TX12) (N := 92) rfl rfl rfl hl.1 rfl (Nat.le_of_ble_eq_true rfl) dX12_putMagic_33 ⟨Nat.le_of_ble_eq_true rfl, Nat.le_of_ble_eq_true rfl⟩ (fun uu_17 H locs hp_18 hw => ?_)
  have hw : hk_W D [(cI, .int), (cJ, .long)] _ s _ _ (mw cI cJ ad (upd g 42 6) lg (va_up ar 22 uu_17) bk) := hw
  exact hk_vret (u := uu_17) hx hb hr hlocks (hw) (trivial) dX12_putMagic_36

def ww_cn_putV0 : List Cond := Cond.code yX12_putV cX12_putV 5 none :: ([Cond.constantLong RX12 443 128, Cond.methodLink RX12 394 yX12_put, Cond.instanceMethod yX12_put, Cond.selects RX12 yX12_put yX12_put, Cond.initialized RX12, Cond.code yX12_put cX12_put 2 none, Cond.fieldLink RX12 391 "LzmaChainsModel" "rowSize" "I", Cond.fieldLink RX12 98 "LzmaChainsModel" "row" "[I"] ++ (wsX120 ++ ([])))
set_option maxRecDepth 20000 in
theorem gw_cn_putV0_0 : GoodIn ww_cn_putV0 (wsV RX12 394 RX12 yX12_put ww_cn_put13) := goodIn_r _ [2, 3, 4, 5, 6, 7, 8, 9, 10, 11, 12, 13, 14, 15, 16, 17, 18, 19, 20, 21, 22, 23, 24, 25, 26, 27, 28, 29, 30, 31, 32, 33, 34, 35, 36, 37, 38, 39, 40, 41, 42, 43, 44, 45, 46, 47, 48, 49, 50, 51, 52, 53, 54, 55, 56, 57, 58, 59, 60, 61, 62, 63, 64, 65, 66, 67, 68, 69, 70, 71, 72, 73, 74, 75, 76, 77, 78, 79, 80, 81, 82, 83, 84, 85, 86, 87, 88, 89, 90, 91, 92, 93, 94, 95, 96, 97, 98, 99, 100] rfl (by decide +kernel)
set_option maxHeartbeats 4000000 in
set_option maxRecDepth 100000 in
/-- the reference: putV(0) -/
theorem cn_putV0 (l : Launch) (D : va_G) (cI cJ : ClassId) (ad : Nat → Nat) (g : Nat → Int32) (lg : Nat → Int64) (ar : Nat → Nat → Int32) (bk : Nat → Int64) (sz : Nat)  (h42 : g 42 = 13) : Met l yX12_putV ww_cn_putV0 { frames := 1, cells := 0, slots := 0, locals := 21 } (va_Pc [.ref (ad 0), .long 0] (hk_B D [(cI, .int), (cJ, .long)] sz (mw cI cJ ad g lg ar bk))) (va_Qv (fun u : (Nat → Int32) => True) (fun u : (Nat → Int32) => hk_E D [(cI, .int), (cJ, .long)] (va_A (mw cI cJ ad g lg ar bk) sz) (mw cI cJ ad (upd g 42 14) lg (va_up ar 22 u) bk)) (va_A (mw cI cJ ad g lg ar bk) sz)) 0 0 (va_A (mw cI cJ ad g lg ar bk) sz) := by
  refine hk_met (cc := cX12_putV) (maxL := 5) (ret := none) (by decide) rfl (Nat.le_of_ble_eq_true rfl) ?_
  intro p e s m below meth c ls hx hb hr hml hown hts hlocks hin hA hw hl
  have iX12 : ∀ w ∈ wsX120, w ∈ ww_cn_putV0 := fun _ h => List.mem_cons_of_mem _ (List.mem_append_right _ (List.mem_append_left _ h))
  have hl : lv_has ls 5 [(0, .ref (ad 0)), (1, .long 0)] := hl
  refine lv_lload_n hx hb dX12_putV_0 rfl (lv_at hl 1 rfl) ?_
  refine lv_lstore_n (lv' := [(3, .long 0), (0, .ref (ad 0)), (1, .long 0)]) hx hb dX12_putV_1 rfl hl (by decide) rfl (fun ls hl => ?_)
  refine lv_lload_n hx hb dX12_putV_2 rfl (lv_at hl 0 rfl) ?_
  refine lv_ldc2 (v := 128) hx hb hown (hts _ (List.mem_of_getElem? (i := 1) rfl)) dX12_putV_3 ?_
  refine hk_lcmp_lt (tgt := 31) hx hb dX12_putV_6 dX12_putV_7 (by decide) (fun _ => ?_) (fun cc_1 => absurd (by decide) cc_1)
  refine lv_aload_n hx hb dX12_putV_31 rfl (lv_at hl 1 rfl) ?_
  refine lv_lload_n hx hb dX12_putV_32 rfl (lv_at hl 0 rfl) ?_
  refine lv_l2i (v := (0 : Int64).toInt32) hx hb dX12_putV_33 rfl ?_
  refine hk_topi 0 (by decide +kernel) ?_
  refine hk_Vv (As := [.int 0]) (rest := []) ⟨hx, hb, hml, hown, hts⟩ hw hA (cn_put13 l D cI cJ ad g lg ar bk _ 0 h42) (cwV 1 hts gw_cn_putV0_0 rfl rfl rfl (by decide +kernel) ⟨Nat.le_of_ble_eq_true rfl, Nat.le_of_ble_eq_true rfl⟩) 0 (ci := 15) (T := TX12) (N := 92) rfl rfl rfl hl.1 rfl (Nat.le_of_ble_eq_true rfl) dX12_putV_34 ⟨Nat.le_of_ble_eq_true rfl, Nat.le_of_ble_eq_true rfl⟩ (fun uu_3 H locs hp_4 hw => ?_)
  have hw : hk_W D [(cI, .int), (cJ, .long)] _ s _ _ (mw cI cJ ad (upd g 42 14) lg (va_up ar 22 uu_3) bk) := hw
  exact hk_vret (u := uu_3) hx hb hr hlocks (hw) (trivial) dX12_putV_37

def ww_cn_packBox : List Cond := Cond.code yX12_packBox cX12_packBox 6 none :: ([Cond.methodLink RX12 451 yX12_putMagic, Cond.instanceMethod yX12_putMagic, Cond.selects RX12 yX12_putMagic yX12_putMagic, Cond.initialized RX12, Cond.code yX12_putMagic cX12_putMagic 1 none, Cond.methodLink RX12 394 yX12_put, Cond.instanceMethod yX12_put, Cond.selects RX12 yX12_put yX12_put, Cond.code yX12_put cX12_put 2 none, Cond.fieldLink RX12 391 "LzmaChainsModel" "rowSize" "I", Cond.fieldLink RX12 98 "LzmaChainsModel" "row" "[I", Cond.fieldLink RX12 25 "LzmaChainsModel" "checkKind" "I", Cond.methodLink RX12 445 yX12_check32, Cond.instanceMethod yX12_check32, Cond.selects RX12 yX12_check32 yX12_check32, Cond.code yX12_check32 cX12_check32 4 (some .int), Cond.methodLink RX12 174 yX12_begin32, Cond.instanceMethod yX12_begin32, Cond.selects RX12 yX12_begin32 yX12_begin32, Cond.code yX12_begin32 cX12_begin32 1 none, Cond.fieldLink RX12 132 "LzmaChainsModel" "sum32" "I", Cond.methodLink RX12 195 yX12_end32, Cond.instanceMethod yX12_end32, Cond.selects RX12 yX12_end32 yX12_end32, Cond.code yX12_end32 cX12_end32 1 (some .int), Cond.methodLink RX12 182 yX12_add32, Cond.instanceMethod yX12_add32, Cond.selects RX12 yX12_add32 yX12_add32, Cond.code yX12_add32 cX12_add32 2 none, Cond.fieldLink RX12 35 "LzmaChainsModel" "table32" "[I", Cond.methodLink RX12 400 yX12_putWide, Cond.instanceMethod yX12_putWide, Cond.selects RX12 yX12_putWide yX12_putWide, Cond.code yX12_putWide cX12_putWide 5 none, Cond.fieldLink RX12 126 "LzmaChainsModel" "inSize" "I", Cond.fieldLink RX12 228 "LzmaChainsModel" "blocks" "I", Cond.methodLink RX12 457 yX12_putV, Cond.instanceMethod yX12_putV, Cond.selects RX12 yX12_putV yX12_putV, Cond.code yX12_putV cX12_putV 5 none, Cond.constantLong RX12 443 128] ++ (wsX120 ++ ([])))
set_option maxRecDepth 20000 in
theorem gw_cn_packBox_0 : GoodIn ww_cn_packBox (wsV RX12 451 RX12 yX12_putMagic ww_cn_magic6) := goodIn_r _ [1, 2, 3, 4, 5, 6, 7, 8, 4, 9, 10, 11, 42, 43, 44, 45, 46, 47, 48, 49, 50, 51, 52, 53, 54, 55, 56, 57, 58, 59, 60, 61, 62, 63, 64, 65, 66, 67, 68, 69, 70, 71, 72, 73, 74, 75, 76, 77, 78, 79, 80, 81, 82, 83, 84, 85, 86, 87, 88, 89, 90, 91, 92, 93, 94, 95, 96, 97, 98, 99, 100, 101, 102, 103, 104, 105, 106, 107, 108, 109, 110, 111, 112, 113, 114, 115, 116, 117, 118, 119, 120, 121, 122, 123, 124, 125, 126, 127, 128, 129, 130, 131, 132, 133] rfl (by decide +kernel)
set_option maxRecDepth 20000 in
theorem gw_cn_packBox_1 : GoodIn ww_cn_packBox (wsV RX12 394 RX12 yX12_put ww_cn_put6) := goodIn_r _ [6, 7, 8, 4, 9, 10, 11, 42, 43, 44, 45, 46, 47, 48, 49, 50, 51, 52, 53, 54, 55, 56, 57, 58, 59, 60, 61, 62, 63, 64, 65, 66, 67, 68, 69, 70, 71, 72, 73, 74, 75, 76, 77, 78, 79, 80, 81, 82, 83, 84, 85, 86, 87, 88, 89, 90, 91, 92, 93, 94, 95, 96, 97, 98, 99, 100, 101, 102, 103, 104, 105, 106, 107, 108, 109, 110, 111, 112, 113, 114, 115, 116, 117, 118, 119, 120, 121, 122, 123, 124, 125, 126, 127, 128, 129, 130, 131, 132, 133] rfl (by decide +kernel)
set_option maxRecDepth 20000 in
theorem gw_cn_packBox_2 : GoodIn ww_cn_packBox (wsV RX12 394 RX12 yX12_put ww_cn_put7) := goodIn_r _ [6, 7, 8, 4, 9, 10, 11, 42, 43, 44, 45, 46, 47, 48, 49, 50, 51, 52, 53, 54, 55, 56, 57, 58, 59, 60, 61, 62, 63, 64, 65, 66, 67, 68, 69, 70, 71, 72, 73, 74, 75, 76, 77, 78, 79, 80, 81, 82, 83, 84, 85, 86, 87, 88, 89, 90, 91, 92, 93, 94, 95, 96, 97, 98, 99, 100, 101, 102, 103, 104, 105, 106, 107, 108, 109, 110, 111, 112, 113, 114, 115, 116, 117, 118, 119, 120, 121, 122, 123, 124, 125, 126, 127, 128, 129, 130, 131, 132, 133] rfl (by decide +kernel)
set_option maxRecDepth 20000 in
theorem gw_cn_packBox_3 : GoodIn ww_cn_packBox (wsV RX12 445 RX12 yX12_check32 ww_cn_check32) := goodIn_r _ [13, 14, 15, 4, 16, 17, 18, 19, 4, 20, 21, 22, 23, 24, 25, 11, 26, 27, 28, 29, 30, 42, 43, 44, 45, 46, 47, 48, 49, 50, 51, 52, 53, 54, 55, 56, 57, 58, 59, 60, 61, 62, 63, 64, 65, 66, 67, 68, 69, 70, 71, 72, 73, 74, 75, 76, 77, 78, 79, 80, 81, 82, 83, 84, 85, 86, 87, 88, 89, 90, 91, 92, 93, 94, 95, 96, 97, 98, 99, 100, 101, 102, 103, 104, 105, 106, 107, 108, 109, 110, 111, 112, 113, 114, 115, 116, 117, 118, 119, 120, 121, 122, 123, 124, 125, 126, 127, 128, 129, 130, 131, 132, 133] rfl (by decide +kernel)
set_option maxRecDepth 20000 in
theorem gw_cn_packBox_4 : GoodIn ww_cn_packBox (wsV RX12 400 RX12 yX12_putWide ww_cn_wide8_4) := goodIn_r _ [31, 32, 33, 4, 34, 6, 7, 8, 4, 9, 10, 11, 42, 43, 44, 45, 46, 47, 48, 49, 50, 51, 52, 53, 54, 55, 56, 57, 58, 59, 60, 61, 62, 63, 64, 65, 66, 67, 68, 69, 70, 71, 72, 73, 74, 75, 76, 77, 78, 79, 80, 81, 82, 83, 84, 85, 86, 87, 88, 89, 90, 91, 92, 93, 94, 95, 96, 97, 98, 99, 100, 101, 102, 103, 104, 105, 106, 107, 108, 109, 110, 111, 112, 113, 114, 115, 116, 117, 118, 119, 120, 121, 122, 123, 124, 125, 126, 127, 128, 129, 130, 131, 132, 133] rfl (by decide +kernel)
set_option maxRecDepth 20000 in
theorem gw_cn_packBox_5 : GoodIn ww_cn_packBox (wsV RX12 394 RX12 yX12_put ww_cn_put12) := goodIn_r _ [6, 7, 8, 4, 9, 10, 11, 42, 43, 44, 45, 46, 47, 48, 49, 50, 51, 52, 53, 54, 55, 56, 57, 58, 59, 60, 61, 62, 63, 64, 65, 66, 67, 68, 69, 70, 71, 72, 73, 74, 75, 76, 77, 78, 79, 80, 81, 82, 83, 84, 85, 86, 87, 88, 89, 90, 91, 92, 93, 94, 95, 96, 97, 98, 99, 100, 101, 102, 103, 104, 105, 106, 107, 108, 109, 110, 111, 112, 113, 114, 115, 116, 117, 118, 119, 120, 121, 122, 123, 124, 125, 126, 127, 128, 129, 130, 131, 132, 133] rfl (by decide +kernel)
set_option maxRecDepth 20000 in
theorem gw_cn_packBox_6 : GoodIn ww_cn_packBox (wsV RX12 457 RX12 yX12_putV ww_cn_putV0) := goodIn_r _ [37, 38, 39, 4, 40, 41, 6, 7, 8, 4, 9, 10, 11, 42, 43, 44, 45, 46, 47, 48, 49, 50, 51, 52, 53, 54, 55, 56, 57, 58, 59, 60, 61, 62, 63, 64, 65, 66, 67, 68, 69, 70, 71, 72, 73, 74, 75, 76, 77, 78, 79, 80, 81, 82, 83, 84, 85, 86, 87, 88, 89, 90, 91, 92, 93, 94, 95, 96, 97, 98, 99, 100, 101, 102, 103, 104, 105, 106, 107, 108, 109, 110, 111, 112, 113, 114, 115, 116, 117, 118, 119, 120, 121, 122, 123, 124, 125, 126, 127, 128, 129, 130, 131, 132, 133] rfl (by decide +kernel)
set_option maxRecDepth 20000 in
theorem gw_cn_packBox_7 : GoodIn ww_cn_packBox (wsV RX12 394 RX12 yX12_put ww_cn_put14) := goodIn_r _ [6, 7, 8, 4, 9, 10, 11, 42, 43, 44, 45, 46, 47, 48, 49, 50, 51, 52, 53, 54, 55, 56, 57, 58, 59, 60, 61, 62, 63, 64, 65, 66, 67, 68, 69, 70, 71, 72, 73, 74, 75, 76, 77, 78, 79, 80, 81, 82, 83, 84, 85, 86, 87, 88, 89, 90, 91, 92, 93, 94, 95, 96, 97, 98, 99, 100, 101, 102, 103, 104, 105, 106, 107, 108, 109, 110, 111, 112, 113, 114, 115, 116, 117, 118, 119, 120, 121, 122, 123, 124, 125, 126, 127, 128, 129, 130, 131, 132, 133] rfl (by decide +kernel)
set_option maxRecDepth 20000 in
theorem gw_cn_packBox_8 : GoodIn ww_cn_packBox (wsV RX12 394 RX12 yX12_put ww_cn_put15) := goodIn_r _ [6, 7, 8, 4, 9, 10, 11, 42, 43, 44, 45, 46, 47, 48, 49, 50, 51, 52, 53, 54, 55, 56, 57, 58, 59, 60, 61, 62, 63, 64, 65, 66, 67, 68, 69, 70, 71, 72, 73, 74, 75, 76, 77, 78, 79, 80, 81, 82, 83, 84, 85, 86, 87, 88, 89, 90, 91, 92, 93, 94, 95, 96, 97, 98, 99, 100, 101, 102, 103, 104, 105, 106, 107, 108, 109, 110, 111, 112, 113, 114, 115, 116, 117, 118, 119, 120, 121, 122, 123, 124, 125, 126, 127, 128, 129, 130, 131, 132, 133] rfl (by decide +kernel)
set_option maxRecDepth 20000 in
theorem gw_cn_packBox_9 : GoodIn ww_cn_packBox (wsV RX12 400 RX12 yX12_putWide ww_cn_wide16_4) := goodIn_r _ [31, 32, 33, 4, 34, 6, 7, 8, 4, 9, 10, 11, 42, 43, 44, 45, 46, 47, 48, 49, 50, 51, 52, 53, 54, 55, 56, 57, 58, 59, 60, 61, 62, 63, 64, 65, 66, 67, 68, 69, 70, 71, 72, 73, 74, 75, 76, 77, 78, 79, 80, 81, 82, 83, 84, 85, 86, 87, 88, 89, 90, 91, 92, 93, 94, 95, 96, 97, 98, 99, 100, 101, 102, 103, 104, 105, 106, 107, 108, 109, 110, 111, 112, 113, 114, 115, 116, 117, 118, 119, 120, 121, 122, 123, 124, 125, 126, 127, 128, 129, 130, 131, 132, 133] rfl (by decide +kernel)
set_option maxRecDepth 20000 in
theorem gw_cn_packBox_10 : GoodIn ww_cn_packBox (wsV RX12 400 RX12 yX12_putWide ww_cn_wide20_4) := goodIn_r _ [31, 32, 33, 4, 34, 6, 7, 8, 4, 9, 10, 11, 42, 43, 44, 45, 46, 47, 48, 49, 50, 51, 52, 53, 54, 55, 56, 57, 58, 59, 60, 61, 62, 63, 64, 65, 66, 67, 68, 69, 70, 71, 72, 73, 74, 75, 76, 77, 78, 79, 80, 81, 82, 83, 84, 85, 86, 87, 88, 89, 90, 91, 92, 93, 94, 95, 96, 97, 98, 99, 100, 101, 102, 103, 104, 105, 106, 107, 108, 109, 110, 111, 112, 113, 114, 115, 116, 117, 118, 119, 120, 121, 122, 123, 124, 125, 126, 127, 128, 129, 130, 131, 132, 133] rfl (by decide +kernel)
set_option maxRecDepth 20000 in
theorem gw_cn_packBox_11 : GoodIn ww_cn_packBox (wsV RX12 400 RX12 yX12_putWide ww_cn_wide24_4) := goodIn_r _ [31, 32, 33, 4, 34, 6, 7, 8, 4, 9, 10, 11, 42, 43, 44, 45, 46, 47, 48, 49, 50, 51, 52, 53, 54, 55, 56, 57, 58, 59, 60, 61, 62, 63, 64, 65, 66, 67, 68, 69, 70, 71, 72, 73, 74, 75, 76, 77, 78, 79, 80, 81, 82, 83, 84, 85, 86, 87, 88, 89, 90, 91, 92, 93, 94, 95, 96, 97, 98, 99, 100, 101, 102, 103, 104, 105, 106, 107, 108, 109, 110, 111, 112, 113, 114, 115, 116, 117, 118, 119, 120, 121, 122, 123, 124, 125, 126, 127, 128, 129, 130, 131, 132, 133] rfl (by decide +kernel)
set_option maxRecDepth 20000 in
theorem gw_cn_packBox_12 : GoodIn ww_cn_packBox (wsV RX12 394 RX12 yX12_put ww_cn_put28) := goodIn_r _ [6, 7, 8, 4, 9, 10, 11, 42, 43, 44, 45, 46, 47, 48, 49, 50, 51, 52, 53, 54, 55, 56, 57, 58, 59, 60, 61, 62, 63, 64, 65, 66, 67, 68, 69, 70, 71, 72, 73, 74, 75, 76, 77, 78, 79, 80, 81, 82, 83, 84, 85, 86, 87, 88, 89, 90, 91, 92, 93, 94, 95, 96, 97, 98, 99, 100, 101, 102, 103, 104, 105, 106, 107, 108, 109, 110, 111, 112, 113, 114, 115, 116, 117, 118, 119, 120, 121, 122, 123, 124, 125, 126, 127, 128, 129, 130, 131, 132, 133] rfl (by decide +kernel)
set_option maxRecDepth 20000 in
theorem gw_cn_packBox_13 : GoodIn ww_cn_packBox (wsV RX12 394 RX12 yX12_put ww_cn_put29) := goodIn_r _ [6, 7, 8, 4, 9, 10, 11, 42, 43, 44, 45, 46, 47, 48, 49, 50, 51, 52, 53, 54, 55, 56, 57, 58, 59, 60, 61, 62, 63, 64, 65, 66, 67, 68, 69, 70, 71, 72, 73, 74, 75, 76, 77, 78, 79, 80, 81, 82, 83, 84, 85, 86, 87, 88, 89, 90, 91, 92, 93, 94, 95, 96, 97, 98, 99, 100, 101, 102, 103, 104, 105, 106, 107, 108, 109, 110, 111, 112, 113, 114, 115, 116, 117, 118, 119, 120, 121, 122, 123, 124, 125, 126, 127, 128, 129, 130, 131, 132, 133] rfl (by decide +kernel)
set_option maxRecDepth 20000 in
theorem gw_cn_packBox_14 : GoodIn ww_cn_packBox (wsV RX12 394 RX12 yX12_put ww_cn_put30) := goodIn_r _ [6, 7, 8, 4, 9, 10, 11, 42, 43, 44, 45, 46, 47, 48, 49, 50, 51, 52, 53, 54, 55, 56, 57, 58, 59, 60, 61, 62, 63, 64, 65, 66, 67, 68, 69, 70, 71, 72, 73, 74, 75, 76, 77, 78, 79, 80, 81, 82, 83, 84, 85, 86, 87, 88, 89, 90, 91, 92, 93, 94, 95, 96, 97, 98, 99, 100, 101, 102, 103, 104, 105, 106, 107, 108, 109, 110, 111, 112, 113, 114, 115, 116, 117, 118, 119, 120, 121, 122, 123, 124, 125, 126, 127, 128, 129, 130, 131, 132, 133] rfl (by decide +kernel)
set_option maxRecDepth 20000 in
theorem gw_cn_packBox_15 : GoodIn ww_cn_packBox (wsV RX12 394 RX12 yX12_put ww_cn_put31) := goodIn_r _ [6, 7, 8, 4, 9, 10, 11, 42, 43, 44, 45, 46, 47, 48, 49, 50, 51, 52, 53, 54, 55, 56, 57, 58, 59, 60, 61, 62, 63, 64, 65, 66, 67, 68, 69, 70, 71, 72, 73, 74, 75, 76, 77, 78, 79, 80, 81, 82, 83, 84, 85, 86, 87, 88, 89, 90, 91, 92, 93, 94, 95, 96, 97, 98, 99, 100, 101, 102, 103, 104, 105, 106, 107, 108, 109, 110, 111, 112, 113, 114, 115, 116, 117, 118, 119, 120, 121, 122, 123, 124, 125, 126, 127, 128, 129, 130, 131, 132, 133] rfl (by decide +kernel)
set_option maxHeartbeats 4000000 in
set_option maxRecDepth 100000 in
/-- the reference: packBox of nothing -/
theorem cn_packBox (l : Launch) (D : va_G) (cI cJ : ClassId) (ad : Nat → Nat) (g : Nat → Int32) (lg : Nat → Int64) (ar : Nat → Nat → Int32) (bk : Nat → Int64) (sz : Nat)  (h42 : g 42 = 0) (h12 : g 12 = 0) (h20 : g 20 = 0) : Met l yX12_packBox ww_cn_packBox { frames := 2, cells := 0, slots := 0, locals := 45 } (va_Pc [.ref (ad 0)] (hk_B D [(cI, .int), (cJ, .long)] sz (mw cI cJ ad g lg ar bk))) (va_Qv (fun u : (Nat → Int32) × Int32 => True) (fun u : (Nat → Int32) × Int32 => hk_E D [(cI, .int), (cJ, .long)] (va_A (mw cI cJ ad g lg ar bk) sz) (mw cI cJ ad (upd (upd g 42 32) 14 u.2) lg (va_up ar 22 u.1) bk)) (va_A (mw cI cJ ad g lg ar bk) sz)) 0 0 (va_A (mw cI cJ ad g lg ar bk) sz) := by
  refine hk_met (cc := cX12_packBox) (maxL := 6) (ret := none) (by decide) rfl (Nat.le_of_ble_eq_true rfl) ?_
  intro p e s m below meth c ls hx hb hr hml hown hts hlocks hin hA hw hl
  have iX12 : ∀ w ∈ wsX120, w ∈ ww_cn_packBox := fun _ h => List.mem_cons_of_mem _ (List.mem_append_right _ (List.mem_append_left _ h))
  have hl : lv_has ls 6 [(0, .ref (ad 0))] := hl
  refine lv_aload_n hx hb dX12_packBox_0 rfl (lv_at hl 0 rfl) ?_
  refine hk_Vv (As := []) (rest := []) ⟨hx, hb, hml, hown, hts⟩ hw hA (cn_magic6 l D cI cJ ad g lg ar bk _ h42) (cwV 0 hts gw_cn_packBox_0 rfl rfl rfl (by decide +kernel) ⟨Nat.le_of_ble_eq_true rfl, Nat.le_of_ble_eq_true rfl⟩) 0 (ci := 15) (T := TX12) (N := 92) rfl rfl rfl hl.1 rfl (Nat.le_of_ble_eq_true rfl) dX12_packBox_1 ⟨Nat.le_of_ble_eq_true rfl, Nat.le_of_ble_eq_true rfl⟩ (fun uu_2 H locs hp_3 hw => ?_)
  have hw : hk_W D [(cI, .int), (cJ, .long)] _ s _ _ (mw cI cJ ad (upd g 42 6) lg (va_up ar 22 uu_2) bk) := hw
  refine lv_aload_n hx hb dX12_packBox_4 rfl (lv_at hl 0 rfl) ?_
  refine lv_iconst (v := 0) hx hb dX12_packBox_5 (by decide) ?_
  refine hk_Vv (As := [.int 0]) (rest := []) ⟨hx, hb, hml, hown, hts⟩ hw hA (cn_put6 l D cI cJ ad (upd g 42 6) lg (va_up ar 22 uu_2) bk _ 0 rfl) (cwV 1 hts gw_cn_packBox_1 rfl rfl rfl (by decide +kernel) ⟨Nat.le_of_ble_eq_true rfl, Nat.le_of_ble_eq_true rfl⟩) 0 (ci := 15) (T := TX12) (N := 92) rfl rfl rfl hl.1 rfl (Nat.le_of_ble_eq_true rfl) dX12_packBox_6 ⟨Nat.le_of_ble_eq_true rfl, Nat.le_of_ble_eq_true rfl⟩ (fun uu_5 H locs hp_6 hw => ?_)
  have hw : hk_W D [(cI, .int), (cJ, .long)] _ s _ _ (mw cI cJ ad (upd g 42 7) lg (va_up ar 22 uu_5) bk) := hw
  refine lv_aload_n hx hb dX12_packBox_9 rfl (lv_at hl 0 rfl) ?_
  refine lv_aload_n hx hb dX12_packBox_10 rfl (lv_at hl 0 rfl) ?_
  refine hk_get (ci := 15) (C := RX12) (T := TX12) (N := 92) (v := .int (g 8)) hx hb hts iX12 hown hw 0 rfl rfl 8 (by decide) (hts _ (List.mem_of_getElem? (i := 12) rfl)) rfl dX12_packBox_11 ?_
  refine hk_Vv (As := [.int (g 8)]) (rest := []) ⟨hx, hb, hml, hown, hts⟩ hw hA (cn_put7 l D cI cJ ad (upd g 42 7) lg (va_up ar 22 uu_5) bk _ (g 8) rfl) (cwV 1 hts gw_cn_packBox_2 rfl rfl rfl (by decide +kernel) ⟨Nat.le_of_ble_eq_true rfl, Nat.le_of_ble_eq_true rfl⟩) 0 (ci := 15) (T := TX12) (N := 92) rfl rfl rfl hl.1 rfl (Nat.le_of_ble_eq_true rfl) dX12_packBox_14 ⟨Nat.le_of_ble_eq_true rfl, Nat.le_of_ble_eq_true rfl⟩ (fun uu_8 H locs hp_9 hw => ?_)
  have hw : hk_W D [(cI, .int), (cJ, .long)] _ s _ _ (mw cI cJ ad (upd g 42 8) lg (va_up ar 22 uu_8) bk) := hw
  refine lv_aload_n hx hb dX12_packBox_17 rfl (lv_at hl 0 rfl) ?_
  refine lv_aload_n hx hb dX12_packBox_18 rfl (lv_at hl 0 rfl) ?_
  refine lv_bipush (v := 6) hx hb dX12_packBox_19 (by decide) ?_
  refine lv_bipush (v := 8) hx hb dX12_packBox_21 (by decide) ?_
  refine hk_Vi (As := [.int 6, .int 8]) (rest := [.ref (ad 0)]) ⟨hx, hb, hml, hown, hts⟩ hw hA (cn_check32 l D cI cJ ad (upd g 42 8) lg (va_up ar 22 uu_8) bk _ 6 8 (by decide) (by decide)) (cwV 2 hts gw_cn_packBox_3 rfl rfl rfl (by decide +kernel) ⟨Nat.le_of_ble_eq_true rfl, Nat.le_of_ble_eq_true rfl⟩) 0 (ci := 15) (T := TX12) (N := 92) rfl rfl rfl hl.1 rfl (Nat.le_of_ble_eq_true rfl) dX12_packBox_23 ⟨Nat.le_of_ble_eq_true rfl, Nat.le_of_ble_eq_true rfl⟩ (fun rr_10 uu_11 H locs hp_12 hw => ?_)
  have hw : hk_W D [(cI, .int), (cJ, .long)] _ s _ _ (mw cI cJ ad (upd (upd g 42 8) 14 uu_11) lg (va_up ar 22 uu_8) bk) := hw
  refine lv_i2l (v := (rr_10 : Int32).toInt64) hx hb dX12_packBox_26 rfl ?_
  refine lv_iconst (v := 4) hx hb dX12_packBox_27 (by decide) ?_
  refine hk_Vv (As := [.long ((rr_10 : Int32).toInt64), .int 4]) (rest := []) ⟨hx, hb, hml, hown, hts⟩ hw hA (cn_wide8_4 l D cI cJ ad (upd (upd g 42 8) 14 uu_11) lg (va_up ar 22 uu_8) bk _ ((rr_10 : Int32).toInt64) rfl) (cwV 2 hts gw_cn_packBox_4 rfl rfl rfl (by decide +kernel) ⟨Nat.le_of_ble_eq_true rfl, Nat.le_of_ble_eq_true rfl⟩) 0 (ci := 15) (T := TX12) (N := 92) rfl rfl rfl hl.1 rfl (Nat.le_of_ble_eq_true rfl) dX12_packBox_28 ⟨Nat.le_of_ble_eq_true rfl, Nat.le_of_ble_eq_true rfl⟩ (fun uu_14 H locs hp_15 hw => ?_)
  have hw : hk_W D [(cI, .int), (cJ, .long)] _ s _ _ (mw cI cJ ad (upd (upd g 42 12) 14 uu_11) lg (va_up ar 22 uu_14) bk) := hw
  refine lv_iconst (v := 0) hx hb dX12_packBox_31 (by decide) ?_
  refine lv_istore_n (lv' := [(1, .int 0), (0, .ref (ad 0))]) hx hb dX12_packBox_32 rfl hl (by decide) rfl (fun ls hl => ?_)
  refine lv_iload_n hx hb dX12_packBox_33 rfl (lv_at hl 0 rfl) ?_
  refine lv_aload_n hx hb dX12_packBox_34 rfl (lv_at hl 1 rfl) ?_
  refine hk_get (ci := 15) (C := RX12) (T := TX12) (N := 92) (v := .int 0) hx hb hts iX12 hown hw 0 rfl rfl 13 (by decide) (hts _ (List.mem_of_getElem? (i := 35) rfl)) (congrArg (fun z => some (Value.int z)) h12) dX12_packBox_35 ?_
  refine lv_icmp_ge (tgt := 92) hx hb dX12_packBox_38 (by decide) (fun _ => ?_) (fun cc_16 => absurd (by decide) cc_16)
  refine lv_aload_n hx hb dX12_packBox_92 rfl (lv_at hl 1 rfl) ?_
  refine hk_get (ci := 15) (C := RX12) (T := TX12) (N := 92) (v := .int 12) hx hb hts iX12 hown hw 0 rfl rfl 69 (by decide) (hts _ (List.mem_of_getElem? (i := 10) rfl)) rfl dX12_packBox_93 ?_
  refine lv_sipush (v := 3000) hx hb dX12_packBox_96 (by decide) ?_
  refine lv_icmp_le (tgt := 103) hx hb dX12_packBox_99 (by decide) (fun _ => ?_) (fun cc_17 => absurd (by decide) cc_17)
  refine lv_aload_n hx hb dX12_packBox_103 rfl (lv_at hl 1 rfl) ?_
  refine hk_get (ci := 15) (C := RX12) (T := TX12) (N := 92) (v := .int 12) hx hb hts iX12 hown hw 0 rfl rfl 69 (by decide) (hts _ (List.mem_of_getElem? (i := 10) rfl)) rfl dX12_packBox_104 ?_
  refine lv_istore_n (lv' := [(1, .int 12), (0, .ref (ad 0))]) hx hb dX12_packBox_107 rfl hl (by decide) rfl (fun ls hl => ?_)
  refine lv_aload_n hx hb dX12_packBox_108 rfl (lv_at hl 1 rfl) ?_
  refine lv_iconst (v := 0) hx hb dX12_packBox_109 (by decide) ?_
  refine hk_Vv (As := [.int 0]) (rest := []) ⟨hx, hb, hml, hown, hts⟩ hw hA (cn_put12 l D cI cJ ad (upd (upd g 42 12) 14 uu_11) lg (va_up ar 22 uu_14) bk _ 0 rfl) (cwV 1 hts gw_cn_packBox_5 rfl rfl rfl (by decide +kernel) ⟨Nat.le_of_ble_eq_true rfl, Nat.le_of_ble_eq_true rfl⟩) 0 (ci := 15) (T := TX12) (N := 92) rfl rfl rfl hl.1 rfl (Nat.le_of_ble_eq_true rfl) dX12_packBox_110 ⟨Nat.le_of_ble_eq_true rfl, Nat.le_of_ble_eq_true rfl⟩ (fun uu_19 H locs hp_20 hw => ?_)
  have hw : hk_W D [(cI, .int), (cJ, .long)] _ s _ _ (mw cI cJ ad (upd (upd g 42 13) 14 uu_11) lg (va_up ar 22 uu_19) bk) := hw
  refine lv_aload_n hx hb dX12_packBox_113 rfl (lv_at hl 1 rfl) ?_
  refine lv_aload_n hx hb dX12_packBox_114 rfl (lv_at hl 1 rfl) ?_
  refine hk_get (ci := 15) (C := RX12) (T := TX12) (N := 92) (v := .int 0) hx hb hts iX12 hown hw 0 rfl rfl 33 (by decide) (hts _ (List.mem_of_getElem? (i := 36) rfl)) (congrArg (fun z => some (Value.int z)) h20) dX12_packBox_115 ?_
  refine lv_i2l (v := (0 : Int32).toInt64) hx hb dX12_packBox_118 rfl ?_
  refine hk_topl 0 (by decide +kernel) ?_
  refine hk_Vv (As := [.long 0]) (rest := []) ⟨hx, hb, hml, hown, hts⟩ hw hA (cn_putV0 l D cI cJ ad (upd (upd g 42 13) 14 uu_11) lg (va_up ar 22 uu_19) bk _ rfl) (cwV 1 hts gw_cn_packBox_6 rfl rfl rfl (by decide +kernel) ⟨Nat.le_of_ble_eq_true rfl, Nat.le_of_ble_eq_true rfl⟩) 0 (ci := 15) (T := TX12) (N := 92) rfl rfl rfl hl.1 rfl (Nat.le_of_ble_eq_true rfl) dX12_packBox_119 ⟨Nat.le_of_ble_eq_true rfl, Nat.le_of_ble_eq_true rfl⟩ (fun uu_22 H locs hp_23 hw => ?_)
  have hw : hk_W D [(cI, .int), (cJ, .long)] _ s _ _ (mw cI cJ ad (upd (upd g 42 14) 14 uu_11) lg (va_up ar 22 uu_22) bk) := hw
  refine lv_iconst (v := 0) hx hb dX12_packBox_122 (by decide) ?_
  refine lv_istore_n (lv' := [(2, .int 0), (1, .int 12), (0, .ref (ad 0))]) hx hb dX12_packBox_123 rfl hl (by decide) rfl (fun ls hl => ?_)
  refine lv_iload_n hx hb dX12_packBox_124 rfl (lv_at hl 0 rfl) ?_
  refine lv_aload_n hx hb dX12_packBox_125 rfl (lv_at hl 2 rfl) ?_
  refine hk_get (ci := 15) (C := RX12) (T := TX12) (N := 92) (v := .int 0) hx hb hts iX12 hown hw 0 rfl rfl 33 (by decide) (hts _ (List.mem_of_getElem? (i := 36) rfl)) (congrArg (fun z => some (Value.int z)) h20) dX12_packBox_126 ?_
  refine lv_icmp_ge (tgt := 175) hx hb dX12_packBox_129 (by decide) (fun _ => ?_) (fun cc_24 => absurd (by decide) cc_24)
  refine lv_aload_n hx hb dX12_packBox_175 rfl (lv_at hl 2 rfl) ?_
  refine hk_get (ci := 15) (C := RX12) (T := TX12) (N := 92) (v := .int 14) hx hb hts iX12 hown hw 0 rfl rfl 69 (by decide) (hts _ (List.mem_of_getElem? (i := 10) rfl)) rfl dX12_packBox_176 ?_
  refine lv_iload_n hx hb dX12_packBox_179 rfl (lv_at hl 1 rfl) ?_
  refine lv_isub hx hb dX12_packBox_180 ?_
  refine hk_topi 2 (by decide +kernel) ?_
  refine lv_iconst (v := 4) hx hb dX12_packBox_181 (by decide) ?_
  refine lv_irem hx hb dX12_packBox_182 (by decide) ?_
  refine hk_topi 2 (by decide +kernel) ?_
  refine lv_if_eq (tgt := 194) hx hb dX12_packBox_183 (by decide) (fun cc_25 => absurd cc_25 (by decide)) (fun _ => ?_)
  refine lv_aload_n hx hb dX12_packBox_186 rfl (lv_at hl 2 rfl) ?_
  refine lv_iconst (v := 0) hx hb dX12_packBox_187 (by decide) ?_
  refine hk_Vv (As := [.int 0]) (rest := []) ⟨hx, hb, hml, hown, hts⟩ hw hA (cn_put14 l D cI cJ ad (upd (upd g 42 14) 14 uu_11) lg (va_up ar 22 uu_22) bk _ 0 rfl) (cwV 1 hts gw_cn_packBox_7 rfl rfl rfl (by decide +kernel) ⟨Nat.le_of_ble_eq_true rfl, Nat.le_of_ble_eq_true rfl⟩) 0 (ci := 15) (T := TX12) (N := 92) rfl rfl rfl hl.1 rfl (Nat.le_of_ble_eq_true rfl) dX12_packBox_188 ⟨Nat.le_of_ble_eq_true rfl, Nat.le_of_ble_eq_true rfl⟩ (fun uu_27 H locs hp_28 hw => ?_)
  have hw : hk_W D [(cI, .int), (cJ, .long)] _ s _ _ (mw cI cJ ad (upd (upd g 42 15) 14 uu_11) lg (va_up ar 22 uu_27) bk) := hw
  refine lv_goto (tgt := 175) hx hb dX12_packBox_191 (by decide) ?_
  refine lv_aload_n hx hb dX12_packBox_175 rfl (lv_at hl 2 rfl) ?_
  refine hk_get (ci := 15) (C := RX12) (T := TX12) (N := 92) (v := .int 15) hx hb hts iX12 hown hw 0 rfl rfl 69 (by decide) (hts _ (List.mem_of_getElem? (i := 10) rfl)) rfl dX12_packBox_176 ?_
  refine lv_iload_n hx hb dX12_packBox_179 rfl (lv_at hl 1 rfl) ?_
  refine lv_isub hx hb dX12_packBox_180 ?_
  refine hk_topi 3 (by decide +kernel) ?_
  refine lv_iconst (v := 4) hx hb dX12_packBox_181 (by decide) ?_
  refine lv_irem hx hb dX12_packBox_182 (by decide) ?_
  refine hk_topi 3 (by decide +kernel) ?_
  refine lv_if_eq (tgt := 194) hx hb dX12_packBox_183 (by decide) (fun cc_29 => absurd cc_29 (by decide)) (fun _ => ?_)
  refine lv_aload_n hx hb dX12_packBox_186 rfl (lv_at hl 2 rfl) ?_
  refine lv_iconst (v := 0) hx hb dX12_packBox_187 (by decide) ?_
  refine hk_Vv (As := [.int 0]) (rest := []) ⟨hx, hb, hml, hown, hts⟩ hw hA (cn_put15 l D cI cJ ad (upd (upd g 42 15) 14 uu_11) lg (va_up ar 22 uu_27) bk _ 0 rfl) (cwV 1 hts gw_cn_packBox_8 rfl rfl rfl (by decide +kernel) ⟨Nat.le_of_ble_eq_true rfl, Nat.le_of_ble_eq_true rfl⟩) 0 (ci := 15) (T := TX12) (N := 92) rfl rfl rfl hl.1 rfl (Nat.le_of_ble_eq_true rfl) dX12_packBox_188 ⟨Nat.le_of_ble_eq_true rfl, Nat.le_of_ble_eq_true rfl⟩ (fun uu_31 H locs hp_32 hw => ?_)
  have hw : hk_W D [(cI, .int), (cJ, .long)] _ s _ _ (mw cI cJ ad (upd (upd g 42 16) 14 uu_11) lg (va_up ar 22 uu_31) bk) := hw
  refine lv_goto (tgt := 175) hx hb dX12_packBox_191 (by decide) ?_
  refine lv_aload_n hx hb dX12_packBox_175 rfl (lv_at hl 2 rfl) ?_
  refine hk_get (ci := 15) (C := RX12) (T := TX12) (N := 92) (v := .int 16) hx hb hts iX12 hown hw 0 rfl rfl 69 (by decide) (hts _ (List.mem_of_getElem? (i := 10) rfl)) rfl dX12_packBox_176 ?_
  refine lv_iload_n hx hb dX12_packBox_179 rfl (lv_at hl 1 rfl) ?_
  refine lv_isub hx hb dX12_packBox_180 ?_
  refine hk_topi 4 (by decide +kernel) ?_
  refine lv_iconst (v := 4) hx hb dX12_packBox_181 (by decide) ?_
  refine lv_irem hx hb dX12_packBox_182 (by decide) ?_
  refine hk_topi 0 (by decide +kernel) ?_
  refine lv_if_eq (tgt := 194) hx hb dX12_packBox_183 (by decide) (fun _ => ?_) (fun cc_33 => absurd (by decide) cc_33)
  refine lv_aload_n hx hb dX12_packBox_194 rfl (lv_at hl 2 rfl) ?_
  refine lv_aload_n hx hb dX12_packBox_195 rfl (lv_at hl 2 rfl) ?_
  refine lv_iload_n hx hb dX12_packBox_196 rfl (lv_at hl 1 rfl) ?_
  refine lv_aload_n hx hb dX12_packBox_197 rfl (lv_at hl 2 rfl) ?_
  refine hk_get (ci := 15) (C := RX12) (T := TX12) (N := 92) (v := .int 16) hx hb hts iX12 hown hw 0 rfl rfl 69 (by decide) (hts _ (List.mem_of_getElem? (i := 10) rfl)) rfl dX12_packBox_198 ?_
  refine hk_Vi (As := [.int 12, .int 16]) (rest := [.ref (ad 0)]) ⟨hx, hb, hml, hown, hts⟩ hw hA (cn_check32 l D cI cJ ad (upd (upd g 42 16) 14 uu_11) lg (va_up ar 22 uu_31) bk _ 12 16 (by decide) (by decide)) (cwV 2 hts gw_cn_packBox_3 rfl rfl rfl (by decide +kernel) ⟨Nat.le_of_ble_eq_true rfl, Nat.le_of_ble_eq_true rfl⟩) 0 (ci := 15) (T := TX12) (N := 92) rfl rfl rfl hl.1 rfl (Nat.le_of_ble_eq_true rfl) dX12_packBox_201 ⟨Nat.le_of_ble_eq_true rfl, Nat.le_of_ble_eq_true rfl⟩ (fun rr_34 uu_35 H locs hp_36 hw => ?_)
  have hw : hk_W D [(cI, .int), (cJ, .long)] _ s _ _ (mw cI cJ ad (upd (upd g 42 16) 14 uu_35) lg (va_up ar 22 uu_31) bk) := hw
  refine lv_i2l (v := (rr_34 : Int32).toInt64) hx hb dX12_packBox_204 rfl ?_
  refine lv_iconst (v := 4) hx hb dX12_packBox_205 (by decide) ?_
  refine hk_Vv (As := [.long ((rr_34 : Int32).toInt64), .int 4]) (rest := []) ⟨hx, hb, hml, hown, hts⟩ hw hA (cn_wide16_4 l D cI cJ ad (upd (upd g 42 16) 14 uu_35) lg (va_up ar 22 uu_31) bk _ ((rr_34 : Int32).toInt64) rfl) (cwV 2 hts gw_cn_packBox_9 rfl rfl rfl (by decide +kernel) ⟨Nat.le_of_ble_eq_true rfl, Nat.le_of_ble_eq_true rfl⟩) 0 (ci := 15) (T := TX12) (N := 92) rfl rfl rfl hl.1 rfl (Nat.le_of_ble_eq_true rfl) dX12_packBox_206 ⟨Nat.le_of_ble_eq_true rfl, Nat.le_of_ble_eq_true rfl⟩ (fun uu_38 H locs hp_39 hw => ?_)
  have hw : hk_W D [(cI, .int), (cJ, .long)] _ s _ _ (mw cI cJ ad (upd (upd g 42 20) 14 uu_35) lg (va_up ar 22 uu_38) bk) := hw
  refine lv_aload_n hx hb dX12_packBox_209 rfl (lv_at hl 2 rfl) ?_
  refine hk_get (ci := 15) (C := RX12) (T := TX12) (N := 92) (v := .int 20) hx hb hts iX12 hown hw 0 rfl rfl 69 (by decide) (hts _ (List.mem_of_getElem? (i := 10) rfl)) rfl dX12_packBox_210 ?_
  refine lv_iload_n hx hb dX12_packBox_213 rfl (lv_at hl 1 rfl) ?_
  refine lv_isub hx hb dX12_packBox_214 ?_
  refine hk_topi 8 (by decide +kernel) ?_
  refine lv_istore_n (lv' := [(2, .int 8), (1, .int 12), (0, .ref (ad 0))]) hx hb dX12_packBox_215 rfl hl (by decide) rfl (fun ls hl => ?_)
  refine lv_aload_n hx hb dX12_packBox_216 rfl (lv_at hl 2 rfl) ?_
  refine hk_get (ci := 15) (C := RX12) (T := TX12) (N := 92) (v := .int 20) hx hb hts iX12 hown hw 0 rfl rfl 69 (by decide) (hts _ (List.mem_of_getElem? (i := 10) rfl)) rfl dX12_packBox_217 ?_
  refine lv_istore_n (lv' := [(3, .int 20), (2, .int 8), (1, .int 12), (0, .ref (ad 0))]) hx hb dX12_packBox_220 rfl hl (by decide) rfl (fun ls hl => ?_)
  refine lv_aload_n hx hb dX12_packBox_221 rfl (lv_at hl 3 rfl) ?_
  refine lv_lconst (v := 0) hx hb dX12_packBox_222 (by decide) ?_
  refine lv_iconst (v := 4) hx hb dX12_packBox_223 (by decide) ?_
  refine hk_Vv (As := [.long 0, .int 4]) (rest := []) ⟨hx, hb, hml, hown, hts⟩ hw hA (cn_wide20_4 l D cI cJ ad (upd (upd g 42 20) 14 uu_35) lg (va_up ar 22 uu_38) bk _ 0 rfl) (cwV 2 hts gw_cn_packBox_10 rfl rfl rfl (by decide +kernel) ⟨Nat.le_of_ble_eq_true rfl, Nat.le_of_ble_eq_true rfl⟩) 0 (ci := 15) (T := TX12) (N := 92) rfl rfl rfl hl.1 rfl (Nat.le_of_ble_eq_true rfl) dX12_packBox_224 ⟨Nat.le_of_ble_eq_true rfl, Nat.le_of_ble_eq_true rfl⟩ (fun uu_41 H locs hp_42 hw => ?_)
  have hw : hk_W D [(cI, .int), (cJ, .long)] _ s _ _ (mw cI cJ ad (upd (upd g 42 24) 14 uu_35) lg (va_up ar 22 uu_41) bk) := hw
  refine lv_aload_n hx hb dX12_packBox_227 rfl (lv_at hl 3 rfl) ?_
  refine lv_iload_n hx hb dX12_packBox_228 rfl (lv_at hl 1 rfl) ?_
  refine lv_iconst (v := 4) hx hb dX12_packBox_229 (by decide) ?_
  refine lv_idiv hx hb dX12_packBox_230 (by decide) ?_
  refine hk_topi 2 (by decide +kernel) ?_
  refine lv_iconst (v := 1) hx hb dX12_packBox_231 (by decide) ?_
  refine lv_isub hx hb dX12_packBox_232 ?_
  refine hk_topi 1 (by decide +kernel) ?_
  refine lv_i2l (v := (1 : Int32).toInt64) hx hb dX12_packBox_233 rfl ?_
  refine hk_topl 1 (by decide +kernel) ?_
  refine lv_iconst (v := 4) hx hb dX12_packBox_234 (by decide) ?_
  refine hk_Vv (As := [.long 1, .int 4]) (rest := []) ⟨hx, hb, hml, hown, hts⟩ hw hA (cn_wide24_4 l D cI cJ ad (upd (upd g 42 24) 14 uu_35) lg (va_up ar 22 uu_41) bk _ 1 rfl) (cwV 2 hts gw_cn_packBox_11 rfl rfl rfl (by decide +kernel) ⟨Nat.le_of_ble_eq_true rfl, Nat.le_of_ble_eq_true rfl⟩) 0 (ci := 15) (T := TX12) (N := 92) rfl rfl rfl hl.1 rfl (Nat.le_of_ble_eq_true rfl) dX12_packBox_235 ⟨Nat.le_of_ble_eq_true rfl, Nat.le_of_ble_eq_true rfl⟩ (fun uu_44 H locs hp_45 hw => ?_)
  have hw : hk_W D [(cI, .int), (cJ, .long)] _ s _ _ (mw cI cJ ad (upd (upd g 42 28) 14 uu_35) lg (va_up ar 22 uu_44) bk) := hw
  refine lv_aload_n hx hb dX12_packBox_238 rfl (lv_at hl 3 rfl) ?_
  refine lv_iconst (v := 0) hx hb dX12_packBox_239 (by decide) ?_
  refine hk_Vv (As := [.int 0]) (rest := []) ⟨hx, hb, hml, hown, hts⟩ hw hA (cn_put28 l D cI cJ ad (upd (upd g 42 28) 14 uu_35) lg (va_up ar 22 uu_44) bk _ 0 rfl) (cwV 1 hts gw_cn_packBox_12 rfl rfl rfl (by decide +kernel) ⟨Nat.le_of_ble_eq_true rfl, Nat.le_of_ble_eq_true rfl⟩) 0 (ci := 15) (T := TX12) (N := 92) rfl rfl rfl hl.1 rfl (Nat.le_of_ble_eq_true rfl) dX12_packBox_240 ⟨Nat.le_of_ble_eq_true rfl, Nat.le_of_ble_eq_true rfl⟩ (fun uu_47 H locs hp_48 hw => ?_)
  have hw : hk_W D [(cI, .int), (cJ, .long)] _ s _ _ (mw cI cJ ad (upd (upd g 42 29) 14 uu_35) lg (va_up ar 22 uu_47) bk) := hw
  refine lv_aload_n hx hb dX12_packBox_243 rfl (lv_at hl 3 rfl) ?_
  refine lv_aload_n hx hb dX12_packBox_244 rfl (lv_at hl 3 rfl) ?_
  refine hk_get (ci := 15) (C := RX12) (T := TX12) (N := 92) (v := .int (g 8)) hx hb hts iX12 hown hw 0 rfl rfl 8 (by decide) (hts _ (List.mem_of_getElem? (i := 12) rfl)) rfl dX12_packBox_245 ?_
  refine hk_Vv (As := [.int (g 8)]) (rest := []) ⟨hx, hb, hml, hown, hts⟩ hw hA (cn_put29 l D cI cJ ad (upd (upd g 42 29) 14 uu_35) lg (va_up ar 22 uu_47) bk _ (g 8) rfl) (cwV 1 hts gw_cn_packBox_13 rfl rfl rfl (by decide +kernel) ⟨Nat.le_of_ble_eq_true rfl, Nat.le_of_ble_eq_true rfl⟩) 0 (ci := 15) (T := TX12) (N := 92) rfl rfl rfl hl.1 rfl (Nat.le_of_ble_eq_true rfl) dX12_packBox_248 ⟨Nat.le_of_ble_eq_true rfl, Nat.le_of_ble_eq_true rfl⟩ (fun uu_50 H locs hp_51 hw => ?_)
  have hw : hk_W D [(cI, .int), (cJ, .long)] _ s _ _ (mw cI cJ ad (upd (upd g 42 30) 14 uu_35) lg (va_up ar 22 uu_50) bk) := hw
  refine lv_aload_n hx hb dX12_packBox_251 rfl (lv_at hl 3 rfl) ?_
  refine lv_iload_n hx hb dX12_packBox_252 rfl (lv_at hl 0 rfl) ?_
  refine lv_iconst (v := 4) hx hb dX12_packBox_253 (by decide) ?_
  refine lv_iadd hx hb dX12_packBox_254 ?_
  refine hk_topi 24 (by decide +kernel) ?_
  refine lv_iload_n hx hb dX12_packBox_255 rfl (lv_at hl 0 rfl) ?_
  refine lv_bipush (v := 10) hx hb dX12_packBox_256 (by decide) ?_
  refine lv_iadd hx hb dX12_packBox_258 ?_
  refine hk_topi 30 (by decide +kernel) ?_
  refine hk_Vi (As := [.int 24, .int 30]) (rest := []) ⟨hx, hb, hml, hown, hts⟩ hw hA (cn_check32 l D cI cJ ad (upd (upd g 42 30) 14 uu_35) lg (va_up ar 22 uu_50) bk _ 24 30 (by decide) (by decide)) (cwV 2 hts gw_cn_packBox_3 rfl rfl rfl (by decide +kernel) ⟨Nat.le_of_ble_eq_true rfl, Nat.le_of_ble_eq_true rfl⟩) 0 (ci := 15) (T := TX12) (N := 92) rfl rfl rfl hl.1 rfl (Nat.le_of_ble_eq_true rfl) dX12_packBox_259 ⟨Nat.le_of_ble_eq_true rfl, Nat.le_of_ble_eq_true rfl⟩ (fun rr_52 uu_53 H locs hp_54 hw => ?_)
  have hw : hk_W D [(cI, .int), (cJ, .long)] _ s _ _ (mw cI cJ ad (upd (upd g 42 30) 14 uu_53) lg (va_up ar 22 uu_50) bk) := hw
  refine lv_istore (lv' := [(4, .int rr_52), (3, .int 20), (2, .int 8), (1, .int 12), (0, .ref (ad 0))]) hx hb dX12_packBox_262 hl (by decide) rfl (fun ls hl => ?_)
  refine lv_iconst (v := 0) hx hb dX12_packBox_264 (by decide) ?_
  refine lv_istore (lv' := [(5, .int 0), (4, .int rr_52), (3, .int 20), (2, .int 8), (1, .int 12), (0, .ref (ad 0))]) hx hb dX12_packBox_265 hl (by decide) rfl (fun ls hl => ?_)
  refine lv_iload hx hb dX12_packBox_267 (lv_at hl 0 rfl) ?_
  refine lv_iconst (v := 4) hx hb dX12_packBox_269 (by decide) ?_
  refine lv_icmp_ge (tgt := 300) hx hb dX12_packBox_270 (by decide) (fun cc_55 => absurd cc_55 (by decide)) (fun _ => ?_)
  refine lv_aload_n hx hb dX12_packBox_273 rfl (lv_at hl 5 rfl) ?_
  refine hk_get (ci := 15) (C := RX12) (T := TX12) (N := 92) (v := .ref (ad 23)) hx hb hts iX12 hown hw 0 rfl rfl 68 (by decide) (hts _ (List.mem_of_getElem? (i := 11) rfl)) rfl dX12_packBox_274 ?_
  refine lv_iload_n hx hb dX12_packBox_277 rfl (lv_at hl 2 rfl) ?_
  refine lv_iload hx hb dX12_packBox_278 (lv_at hl 0 rfl) ?_
  refine lv_iadd hx hb dX12_packBox_280 ?_
  refine hk_topi 20 (by decide +kernel) ?_
  refine lv_iload hx hb dX12_packBox_281 (lv_at hl 1 rfl) ?_
  refine lv_bipush (v := 8) hx hb dX12_packBox_283 (by decide) ?_
  refine lv_iload hx hb dX12_packBox_285 (lv_at hl 0 rfl) ?_
  refine lv_imul hx hb dX12_packBox_287 ?_
  refine hk_topi 0 (by decide +kernel) ?_
  refine lv_ishr hx hb dX12_packBox_288 ?_
  refine lv_sipush (v := 255) hx hb dX12_packBox_289 (by decide) ?_
  refine lv_iand hx hb dX12_packBox_292 ?_
  obtain ⟨zz_56, hzz_56⟩ : ∃ z : Int32, (((rr_52 : Int32) >>> ((0 : Int32) &&& 31)) &&& 255) = z := ⟨_, rfl⟩
  refine hk_topi zz_56 hzz_56 ?_
  refine hk_iast hx hb hw 23 0 rfl rfl (show ¬ (_ ∨ _) by decide) dX12_packBox_293 (ws' := mw cI cJ ad (upd (upd g 42 30) 14 uu_53) lg (va_up ar 22 (upd uu_50 20 zz_56)) bk) rfl (fun H locs hw => ?_)
  refine lv_iinc (v := 1) (lv' := [(5, .int 1), (4, .int rr_52), (3, .int 20), (2, .int 8), (1, .int 12), (0, .ref (ad 0))]) hx hb dX12_packBox_294 hl (k := 0) rfl rfl (by decide) rfl (fun ls hl => ?_)
  refine lv_goto (tgt := 267) hx hb dX12_packBox_297 (by decide) ?_
  refine lv_iload hx hb dX12_packBox_267 (lv_at hl 0 rfl) ?_
  refine lv_iconst (v := 4) hx hb dX12_packBox_269 (by decide) ?_
  refine lv_icmp_ge (tgt := 300) hx hb dX12_packBox_270 (by decide) (fun cc_57 => absurd cc_57 (by decide)) (fun _ => ?_)
  refine lv_aload_n hx hb dX12_packBox_273 rfl (lv_at hl 5 rfl) ?_
  refine hk_get (ci := 15) (C := RX12) (T := TX12) (N := 92) (v := .ref (ad 23)) hx hb hts iX12 hown hw 0 rfl rfl 68 (by decide) (hts _ (List.mem_of_getElem? (i := 11) rfl)) rfl dX12_packBox_274 ?_
  refine lv_iload_n hx hb dX12_packBox_277 rfl (lv_at hl 2 rfl) ?_
  refine lv_iload hx hb dX12_packBox_278 (lv_at hl 0 rfl) ?_
  refine lv_iadd hx hb dX12_packBox_280 ?_
  refine hk_topi 21 (by decide +kernel) ?_
  refine lv_iload hx hb dX12_packBox_281 (lv_at hl 1 rfl) ?_
  refine lv_bipush (v := 8) hx hb dX12_packBox_283 (by decide) ?_
  refine lv_iload hx hb dX12_packBox_285 (lv_at hl 0 rfl) ?_
  refine lv_imul hx hb dX12_packBox_287 ?_
  refine hk_topi 8 (by decide +kernel) ?_
  refine lv_ishr hx hb dX12_packBox_288 ?_
  refine lv_sipush (v := 255) hx hb dX12_packBox_289 (by decide) ?_
  refine lv_iand hx hb dX12_packBox_292 ?_
  obtain ⟨zz_58, hzz_58⟩ : ∃ z : Int32, (((rr_52 : Int32) >>> ((8 : Int32) &&& 31)) &&& 255) = z := ⟨_, rfl⟩
  refine hk_topi zz_58 hzz_58 ?_
  refine hk_iast hx hb hw 23 0 rfl rfl (show ¬ (_ ∨ _) by decide) dX12_packBox_293 (ws' := mw cI cJ ad (upd (upd g 42 30) 14 uu_53) lg (va_up ar 22 (upd (upd uu_50 20 zz_56) 21 zz_58)) bk) rfl (fun H locs hw => ?_)
  refine lv_iinc (v := 2) (lv' := [(5, .int 2), (4, .int rr_52), (3, .int 20), (2, .int 8), (1, .int 12), (0, .ref (ad 0))]) hx hb dX12_packBox_294 hl (k := 0) rfl rfl (by decide) rfl (fun ls hl => ?_)
  refine lv_goto (tgt := 267) hx hb dX12_packBox_297 (by decide) ?_
  refine lv_iload hx hb dX12_packBox_267 (lv_at hl 0 rfl) ?_
  refine lv_iconst (v := 4) hx hb dX12_packBox_269 (by decide) ?_
  refine lv_icmp_ge (tgt := 300) hx hb dX12_packBox_270 (by decide) (fun cc_59 => absurd cc_59 (by decide)) (fun _ => ?_)
  refine lv_aload_n hx hb dX12_packBox_273 rfl (lv_at hl 5 rfl) ?_
  refine hk_get (ci := 15) (C := RX12) (T := TX12) (N := 92) (v := .ref (ad 23)) hx hb hts iX12 hown hw 0 rfl rfl 68 (by decide) (hts _ (List.mem_of_getElem? (i := 11) rfl)) rfl dX12_packBox_274 ?_
  refine lv_iload_n hx hb dX12_packBox_277 rfl (lv_at hl 2 rfl) ?_
  refine lv_iload hx hb dX12_packBox_278 (lv_at hl 0 rfl) ?_
  refine lv_iadd hx hb dX12_packBox_280 ?_
  refine hk_topi 22 (by decide +kernel) ?_
  refine lv_iload hx hb dX12_packBox_281 (lv_at hl 1 rfl) ?_
  refine lv_bipush (v := 8) hx hb dX12_packBox_283 (by decide) ?_
  refine lv_iload hx hb dX12_packBox_285 (lv_at hl 0 rfl) ?_
  refine lv_imul hx hb dX12_packBox_287 ?_
  refine hk_topi 16 (by decide +kernel) ?_
  refine lv_ishr hx hb dX12_packBox_288 ?_
  refine lv_sipush (v := 255) hx hb dX12_packBox_289 (by decide) ?_
  refine lv_iand hx hb dX12_packBox_292 ?_
  obtain ⟨zz_60, hzz_60⟩ : ∃ z : Int32, (((rr_52 : Int32) >>> ((16 : Int32) &&& 31)) &&& 255) = z := ⟨_, rfl⟩
  refine hk_topi zz_60 hzz_60 ?_
  refine hk_iast hx hb hw 23 0 rfl rfl (show ¬ (_ ∨ _) by decide) dX12_packBox_293 (ws' := mw cI cJ ad (upd (upd g 42 30) 14 uu_53) lg (va_up ar 22 (upd (upd (upd uu_50 20 zz_56) 21 zz_58) 22 zz_60)) bk) rfl (fun H locs hw => ?_)
  refine lv_iinc (v := 3) (lv' := [(5, .int 3), (4, .int rr_52), (3, .int 20), (2, .int 8), (1, .int 12), (0, .ref (ad 0))]) hx hb dX12_packBox_294 hl (k := 0) rfl rfl (by decide) rfl (fun ls hl => ?_)
  refine lv_goto (tgt := 267) hx hb dX12_packBox_297 (by decide) ?_
  refine lv_iload hx hb dX12_packBox_267 (lv_at hl 0 rfl) ?_
  refine lv_iconst (v := 4) hx hb dX12_packBox_269 (by decide) ?_
  refine lv_icmp_ge (tgt := 300) hx hb dX12_packBox_270 (by decide) (fun cc_61 => absurd cc_61 (by decide)) (fun _ => ?_)
  refine lv_aload_n hx hb dX12_packBox_273 rfl (lv_at hl 5 rfl) ?_
  refine hk_get (ci := 15) (C := RX12) (T := TX12) (N := 92) (v := .ref (ad 23)) hx hb hts iX12 hown hw 0 rfl rfl 68 (by decide) (hts _ (List.mem_of_getElem? (i := 11) rfl)) rfl dX12_packBox_274 ?_
  refine lv_iload_n hx hb dX12_packBox_277 rfl (lv_at hl 2 rfl) ?_
  refine lv_iload hx hb dX12_packBox_278 (lv_at hl 0 rfl) ?_
  refine lv_iadd hx hb dX12_packBox_280 ?_
  refine hk_topi 23 (by decide +kernel) ?_
  refine lv_iload hx hb dX12_packBox_281 (lv_at hl 1 rfl) ?_
  refine lv_bipush (v := 8) hx hb dX12_packBox_283 (by decide) ?_
  refine lv_iload hx hb dX12_packBox_285 (lv_at hl 0 rfl) ?_
  refine lv_imul hx hb dX12_packBox_287 ?_
  refine hk_topi 24 (by decide +kernel) ?_
  refine lv_ishr hx hb dX12_packBox_288 ?_
  refine lv_sipush (v := 255) hx hb dX12_packBox_289 (by decide) ?_
  refine lv_iand hx hb dX12_packBox_292 ?_
  obtain ⟨zz_62, hzz_62⟩ : ∃ z : Int32, (((rr_52 : Int32) >>> ((24 : Int32) &&& 31)) &&& 255) = z := ⟨_, rfl⟩
  refine hk_topi zz_62 hzz_62 ?_
  refine hk_iast hx hb hw 23 0 rfl rfl (show ¬ (_ ∨ _) by decide) dX12_packBox_293 (ws' := mw cI cJ ad (upd (upd g 42 30) 14 uu_53) lg (va_up ar 22 (upd (upd (upd (upd uu_50 20 zz_56) 21 zz_58) 22 zz_60) 23 zz_62)) bk) rfl (fun H locs hw => ?_)
  refine lv_iinc (v := 4) (lv' := [(5, .int 4), (4, .int rr_52), (3, .int 20), (2, .int 8), (1, .int 12), (0, .ref (ad 0))]) hx hb dX12_packBox_294 hl (k := 0) rfl rfl (by decide) rfl (fun ls hl => ?_)
  refine lv_goto (tgt := 267) hx hb dX12_packBox_297 (by decide) ?_
  refine lv_iload hx hb dX12_packBox_267 (lv_at hl 0 rfl) ?_
  refine lv_iconst (v := 4) hx hb dX12_packBox_269 (by decide) ?_
  refine lv_icmp_ge (tgt := 300) hx hb dX12_packBox_270 (by decide) (fun _ => ?_) (fun cc_63 => absurd (by decide) cc_63)
  refine lv_aload_n hx hb dX12_packBox_300 rfl (lv_at hl 5 rfl) ?_
  refine lv_bipush (v := 89) hx hb dX12_packBox_301 (by decide) ?_
  refine hk_Vv (As := [.int 89]) (rest := []) ⟨hx, hb, hml, hown, hts⟩ hw hA (cn_put30 l D cI cJ ad (upd (upd g 42 30) 14 uu_53) lg (va_up ar 22 (upd (upd (upd (upd uu_50 20 zz_56) 21 zz_58) 22 zz_60) 23 zz_62)) bk _ 89 rfl) (cwV 1 hts gw_cn_packBox_14 rfl rfl rfl (by decide +kernel) ⟨Nat.le_of_ble_eq_true rfl, Nat.le_of_ble_eq_true rfl⟩) 0 (ci := 15) (T := TX12) (N := 92) rfl rfl rfl hl.1 rfl (Nat.le_of_ble_eq_true rfl) dX12_packBox_303 ⟨Nat.le_of_ble_eq_true rfl, Nat.le_of_ble_eq_true rfl⟩ (fun uu_65 H locs hp_66 hw => ?_)
  have hw : hk_W D [(cI, .int), (cJ, .long)] _ s _ _ (mw cI cJ ad (upd (upd g 42 31) 14 uu_53) lg (va_up ar 22 uu_65) bk) := hw
  refine lv_aload_n hx hb dX12_packBox_306 rfl (lv_at hl 5 rfl) ?_
  refine lv_bipush (v := 90) hx hb dX12_packBox_307 (by decide) ?_
  refine hk_Vv (As := [.int 90]) (rest := []) ⟨hx, hb, hml, hown, hts⟩ hw hA (cn_put31 l D cI cJ ad (upd (upd g 42 31) 14 uu_53) lg (va_up ar 22 uu_65) bk _ 90 rfl) (cwV 1 hts gw_cn_packBox_15 rfl rfl rfl (by decide +kernel) ⟨Nat.le_of_ble_eq_true rfl, Nat.le_of_ble_eq_true rfl⟩) 0 (ci := 15) (T := TX12) (N := 92) rfl rfl rfl hl.1 rfl (Nat.le_of_ble_eq_true rfl) dX12_packBox_309 ⟨Nat.le_of_ble_eq_true rfl, Nat.le_of_ble_eq_true rfl⟩ (fun uu_68 H locs hp_69 hw => ?_)
  have hw : hk_W D [(cI, .int), (cJ, .long)] _ s _ _ (mw cI cJ ad (upd (upd g 42 32) 14 uu_53) lg (va_up ar 22 uu_68) bk) := hw
  exact hk_vret (u := (uu_68, uu_53)) hx hb hr hlocks (show hk_W D [(cI, .int), (cJ, .long)] _ s _ _ (mw cI cJ ad (upd (upd g 42 32) 14 ((uu_68, uu_53).2)) lg (va_up ar 22 ((uu_68, uu_53).1)) bk) from hw) (trivial) dX12_packBox_312

def ww_cm_pack : List Cond := Cond.code yX12_pack cX12_pack 3 (some .int) :: ([Cond.fieldLink RX12 111 "LzmaChainsModel" "thrown" "I", Cond.fieldLink RX12 360 "LzmaChainsModel" "level" "I", Cond.fieldLink RX12 225 "LzmaChainsModel" "rule" "I", Cond.methodLink RX12 461 yX12_clearTold, Cond.instanceMethod yX12_clearTold, Cond.selects RX12 yX12_clearTold yX12_clearTold, Cond.initialized RX12, Cond.code yX12_clearTold cX12_clearTold 1 none, Cond.fieldLink RX12 222 "LzmaChainsModel" "steps" "I", Cond.fieldLink RX12 228 "LzmaChainsModel" "blocks" "I", Cond.fieldLink RX12 372 "LzmaChainsModel" "stepBase" "I", Cond.fieldLink RX12 129 "LzmaChainsModel" "outSize" "I", Cond.fieldLink RX12 391 "LzmaChainsModel" "rowSize" "I", Cond.methodLink RX12 407 yX12_freshState, Cond.instanceMethod yX12_freshState, Cond.selects RX12 yX12_freshState yX12_freshState, Cond.code yX12_freshState cX12_freshState 2 none, Cond.fieldLink RX12 231 "LzmaChainsModel" "st" "I", Cond.fieldLink RX12 234 "LzmaChainsModel" "back0" "I", Cond.fieldLink RX12 237 "LzmaChainsModel" "back1" "I", Cond.fieldLink RX12 240 "LzmaChainsModel" "back2" "I", Cond.fieldLink RX12 243 "LzmaChainsModel" "back3" "I", Cond.fieldLink RX12 80 "LzmaChainsModel" "chance" "[I", Cond.fieldLink RX12 107 "LzmaChainsModel" "form" "I", Cond.methodLink RX12 467 yX12_packBox, Cond.instanceMethod yX12_packBox, Cond.selects RX12 yX12_packBox yX12_packBox, Cond.code yX12_packBox cX12_packBox 6 none, Cond.methodLink RX12 451 yX12_putMagic, Cond.instanceMethod yX12_putMagic, Cond.selects RX12 yX12_putMagic yX12_putMagic, Cond.code yX12_putMagic cX12_putMagic 1 none, Cond.methodLink RX12 394 yX12_put, Cond.instanceMethod yX12_put, Cond.selects RX12 yX12_put yX12_put, Cond.code yX12_put cX12_put 2 none, Cond.fieldLink RX12 98 "LzmaChainsModel" "row" "[I", Cond.fieldLink RX12 25 "LzmaChainsModel" "checkKind" "I", Cond.methodLink RX12 445 yX12_check32, Cond.instanceMethod yX12_check32, Cond.selects RX12 yX12_check32 yX12_check32, Cond.code yX12_check32 cX12_check32 4 (some .int), Cond.methodLink RX12 174 yX12_begin32, Cond.instanceMethod yX12_begin32, Cond.selects RX12 yX12_begin32 yX12_begin32, Cond.code yX12_begin32 cX12_begin32 1 none, Cond.fieldLink RX12 132 "LzmaChainsModel" "sum32" "I", Cond.methodLink RX12 195 yX12_end32, Cond.instanceMethod yX12_end32, Cond.selects RX12 yX12_end32 yX12_end32, Cond.code yX12_end32 cX12_end32 1 (some .int), Cond.methodLink RX12 182 yX12_add32, Cond.instanceMethod yX12_add32, Cond.selects RX12 yX12_add32 yX12_add32, Cond.code yX12_add32 cX12_add32 2 none, Cond.fieldLink RX12 35 "LzmaChainsModel" "table32" "[I", Cond.methodLink RX12 400 yX12_putWide, Cond.instanceMethod yX12_putWide, Cond.selects RX12 yX12_putWide yX12_putWide, Cond.code yX12_putWide cX12_putWide 5 none, Cond.fieldLink RX12 126 "LzmaChainsModel" "inSize" "I", Cond.methodLink RX12 457 yX12_putV, Cond.instanceMethod yX12_putV, Cond.selects RX12 yX12_putV yX12_putV, Cond.code yX12_putV cX12_putV 5 none, Cond.constantLong RX12 443 128, Cond.fieldLink RX12 77 "LzmaChainsModel" "told" "I", Cond.fieldLink RX12 32 "LzmaChainsModel" "out" "[I", Cond.fieldLink RX12 208 "LzmaChainsModel" "srcSize" "I", Cond.methodLink RX12 448 yX12_packChunks, Cond.instanceMethod yX12_packChunks, Cond.selects RX12 yX12_packChunks yX12_packChunks, Cond.code yX12_packChunks cX12_packChunks 10 none, Cond.methodLink RX12 404 yX12_takeProperties, Cond.instanceMethod yX12_takeProperties, Cond.selects RX12 yX12_takeProperties yX12_takeProperties, Cond.code yX12_takeProperties cX12_takeProperties 1 none, Cond.fieldLink RX12 7 "LzmaChainsModel" "lc" "I", Cond.fieldLink RX12 258 "LzmaChainsModel" "nowLc" "I", Cond.fieldLink RX12 114 "LzmaChainsModel" "lp" "I", Cond.fieldLink RX12 255 "LzmaChainsModel" "nowLp" "I", Cond.fieldLink RX12 13 "LzmaChainsModel" "pb" "I", Cond.fieldLink RX12 252 "LzmaChainsModel" "nowPb" "I", Cond.fieldLink RX12 249 "LzmaChainsModel" "pos" "I", Cond.fieldLink RX12 434 "LzmaChainsModel" "chunkCount" "I", Cond.fieldLink RX12 62 "LzmaChainsModel" "blockAt" "[I", Cond.fieldLink RX12 65 "LzmaChainsModel" "blockHead" "[I", Cond.fieldLink RX12 68 "LzmaChainsModel" "blockPacked" "[I", Cond.fieldLink RX12 71 "LzmaChainsModel" "blockSize" "[I", Cond.fieldLink RX12 74 "LzmaChainsModel" "blockChunks" "[I", Cond.methodLink RX12 464 yX12_packPlain, Cond.instanceMethod yX12_packPlain, Cond.selects RX12 yX12_packPlain yX12_packPlain, Cond.code yX12_packPlain cX12_packPlain 2 none, Cond.methodLink RX12 397 yX12_propertyByte, Cond.instanceMethod yX12_propertyByte, Cond.selects RX12 yX12_propertyByte yX12_propertyByte, Cond.code yX12_propertyByte cX12_propertyByte 1 (some .int), Cond.fieldLink RX12 16 "LzmaChainsModel" "dictionary" "I", Cond.fieldLink RX12 117 "LzmaChainsModel" "mark" "I", Cond.methodLink RX12 410 yX12_beginCoder, Cond.instanceMethod yX12_beginCoder, Cond.selects RX12 yX12_beginCoder yX12_beginCoder, Cond.code yX12_beginCoder cX12_beginCoder 1 none, Cond.fieldLink RX12 261 "LzmaChainsModel" "pkSize" "I", Cond.fieldLink RX12 264 "LzmaChainsModel" "low" "J", Cond.constantLong RX12 267 4294967295, Cond.fieldLink RX12 269 "LzmaChainsModel" "range" "J", Cond.fieldLink RX12 272 "LzmaChainsModel" "held" "I", Cond.fieldLink RX12 275 "LzmaChainsModel" "waits" "I", Cond.methodLink RX12 413 yX12_putPart, Cond.instanceMethod yX12_putPart, Cond.selects RX12 yX12_putPart yX12_putPart, Cond.code yX12_putPart cX12_putPart 5 none, Cond.fieldLink RX12 303 "LzmaChainsModel" "partEnd" "I", Cond.methodLink RX12 363 yX12_plan, Cond.instanceMethod yX12_plan, Cond.selects RX12 yX12_plan yX12_plan, Cond.code yX12_plan cX12_plan 5 none, Cond.fieldLink RX12 89 "LzmaChainsModel" "cost" "[I", Cond.methodLink RX12 416 yX12_endCoder, Cond.instanceMethod yX12_endCoder, Cond.selects RX12 yX12_endCoder yX12_endCoder, Cond.code yX12_endCoder cX12_endCoder 2 none, Cond.methodLink RX12 286 yX12_shift, Cond.instanceMethod yX12_shift, Cond.selects RX12 yX12_shift yX12_shift, Cond.code yX12_shift cX12_shift 3 none, Cond.constantLong RX12 278 4278190080, Cond.constantLong RX12 280 4294967296, Cond.fieldLink RX12 86 "LzmaChainsModel" "pk" "[I", Cond.constantLong RX12 282 16777215] ++ (wsX120 ++ ([])))
set_option maxRecDepth 20000 in
theorem gw_cm_pack_0 : GoodIn ww_cm_pack (wsV RX12 461 RX12 yX12_clearTold ww_cn_clear) := goodIn_r _ [4, 5, 6, 7, 8, 9, 10, 11, 12, 133, 134, 135, 136, 137, 138, 139, 140, 141, 142, 143, 144, 145, 146, 147, 148, 149, 150, 151, 152, 153, 154, 155, 156, 157, 158, 159, 160, 161, 162, 163, 164, 165, 166, 167, 168, 169, 170, 171, 172, 173, 174, 175, 176, 177, 178, 179, 180, 181, 182, 183, 184, 185, 186, 187, 188, 189, 190, 191, 192, 193, 194, 195, 196, 197, 198, 199, 200, 201, 202, 203, 204, 205, 206, 207, 208, 209, 210, 211, 212, 213, 214, 215, 216, 217, 218, 219, 220, 221, 222, 223, 224] rfl (by decide +kernel)
set_option maxRecDepth 20000 in
theorem gw_cm_pack_1 : GoodIn ww_cm_pack (wsV RX12 407 RX12 yX12_freshState ww_cn_fresh) := goodIn_r _ [14, 15, 16, 7, 17, 18, 19, 20, 21, 22, 23, 133, 134, 135, 136, 137, 138, 139, 140, 141, 142, 143, 144, 145, 146, 147, 148, 149, 150, 151, 152, 153, 154, 155, 156, 157, 158, 159, 160, 161, 162, 163, 164, 165, 166, 167, 168, 169, 170, 171, 172, 173, 174, 175, 176, 177, 178, 179, 180, 181, 182, 183, 184, 185, 186, 187, 188, 189, 190, 191, 192, 193, 194, 195, 196, 197, 198, 199, 200, 201, 202, 203, 204, 205, 206, 207, 208, 209, 210, 211, 212, 213, 214, 215, 216, 217, 218, 219, 220, 221, 222, 223, 224] rfl (by decide +kernel)
set_option maxRecDepth 20000 in
theorem gw_cm_pack_2 : GoodIn ww_cm_pack (wsV RX12 467 RX12 yX12_packBox ww_cn_packBox) := goodIn_r _ [25, 26, 27, 7, 28, 29, 30, 31, 7, 32, 33, 34, 35, 36, 13, 37, 38, 39, 40, 41, 42, 43, 44, 45, 46, 47, 48, 49, 50, 51, 52, 53, 54, 55, 56, 57, 58, 59, 60, 61, 10, 62, 63, 64, 65, 66, 133, 134, 135, 136, 137, 138, 139, 140, 141, 142, 143, 144, 145, 146, 147, 148, 149, 150, 151, 152, 153, 154, 155, 156, 157, 158, 159, 160, 161, 162, 163, 164, 165, 166, 167, 168, 169, 170, 171, 172, 173, 174, 175, 176, 177, 178, 179, 180, 181, 182, 183, 184, 185, 186, 187, 188, 189, 190, 191, 192, 193, 194, 195, 196, 197, 198, 199, 200, 201, 202, 203, 204, 205, 206, 207, 208, 209, 210, 211, 212, 213, 214, 215, 216, 217, 218, 219, 220, 221, 222, 223, 224] rfl (by decide +kernel)
set_option maxRecDepth 20000 in
theorem gw_cm_pack_3 : GoodIn ww_cm_pack (wsV RX12 448 RX12 yX12_packChunks ww_cn_packChunks) := goodIn_r _ [70, 71, 72, 7, 73, 74, 75, 76, 7, 77, 78, 79, 80, 81, 82, 83, 14, 15, 16, 17, 18, 19, 20, 21, 22, 23, 84, 85, 69, 33, 34, 35, 36, 13, 37, 133, 134, 135, 136, 137, 138, 139, 140, 141, 142, 143, 144, 145, 146, 147, 148, 149, 150, 151, 152, 153, 154, 155, 156, 157, 158, 159, 160, 161, 162, 163, 164, 165, 166, 167, 168, 169, 170, 171, 172, 173, 174, 175, 176, 177, 178, 179, 180, 181, 182, 183, 184, 185, 186, 187, 188, 189, 190, 191, 192, 193, 194, 195, 196, 197, 198, 199, 200, 201, 202, 203, 204, 205, 206, 207, 208, 209, 210, 211, 212, 213, 214, 215, 216, 217, 218, 219, 220, 221, 222, 223, 224] rfl (by decide +kernel)
set_option maxRecDepth 20000 in
theorem gw_cm_pack_4 : GoodIn ww_cm_pack (wsV RX12 464 RX12 yX12_packPlain ww_cn_packPlain) := goodIn_r _ [91, 92, 93, 7, 94, 95, 96, 97, 7, 98, 82, 80, 78, 33, 34, 35, 36, 13, 37, 99, 57, 58, 59, 60, 100, 61, 69, 11, 74, 75, 76, 77, 79, 81, 83, 14, 15, 16, 17, 18, 19, 20, 21, 22, 23, 84, 101, 102, 103, 104, 105, 106, 107, 108, 109, 110, 111, 112, 113, 114, 115, 2, 116, 117, 118, 119, 120, 121, 122, 123, 124, 125, 126, 127, 128, 129, 130, 131, 132, 133, 134, 135, 136, 137, 138, 139, 140, 141, 142, 143, 144, 145, 146, 147, 148, 149, 150, 151, 152, 153, 154, 155, 156, 157, 158, 159, 160, 161, 162, 163, 164, 165, 166, 167, 168, 169, 170, 171, 172, 173, 174, 175, 176, 177, 178, 179, 180, 181, 182, 183, 184, 185, 186, 187, 188, 189, 190, 191, 192, 193, 194, 195, 196, 197, 198, 199, 200, 201, 202, 203, 204, 205, 206, 207, 208, 209, 210, 211, 212, 213, 214, 215, 216, 217, 218, 219, 220, 221, 222, 223, 224] rfl (by decide +kernel)
set_option maxHeartbeats 4000000 in
set_option maxRecDepth 100000 in
/-- the reference: pack, new -/
theorem cm_pack (l : Launch) (D : va_G) (cI cJ : ClassId) (ad : Nat → Nat) (fm : Int32) (ar : Nat → Nat → Int32) (bk : Nat → Int64) (sz : Nat) (lv : Int32) : Met l yX12_pack ww_cm_pack { frames := 3, cells := 0, slots := 0, locals := 70 } (va_Pc [.ref (ad 0), .int lv] (hk_B D [(cI, .int), (cJ, .long)] sz (mw cI cJ ad (mf_g fm) mf_l ar bk))) (va_Qi (fun (r : Int32) (u : (Nat → Int32) × (Nat → Int64) × (Nat → Nat → Int32) × (Nat → Int64)) => (r.toInt = -1 ∧ ¬ (0 ≤ lv.toInt ∧ lv.toInt ≤ 2)) ∨ ((0 ≤ lv.toInt ∧ lv.toInt ≤ 2) ∧ (r.toInt = 18 ∧ fm.toInt = 0 ∨ r.toInt = 1 ∧ fm.toInt = 1 ∨ r.toInt = 32 ∧ fm.toInt ≠ 0 ∧ fm.toInt ≠ 1))) (fun u : (Nat → Int32) × (Nat → Int64) × (Nat → Nat → Int32) × (Nat → Int64) => hk_E D [(cI, .int), (cJ, .long)] (va_A (mw cI cJ ad (mf_g fm) mf_l ar bk) sz) (mw cI cJ ad u.1 u.2.1 u.2.2.1 u.2.2.2)) (va_A (mw cI cJ ad (mf_g fm) mf_l ar bk) sz)) 0 0 (va_A (mw cI cJ ad (mf_g fm) mf_l ar bk) sz) := by
  refine hk_met (cc := cX12_pack) (maxL := 3) (ret := (some .int)) (by decide) rfl (Nat.le_of_ble_eq_true rfl) ?_
  intro p e s m below meth c ls hx hb hr hml hown hts hlocks hin hA hw hl
  have iX12 : ∀ w ∈ wsX120, w ∈ ww_cm_pack := fun _ h => List.mem_cons_of_mem _ (List.mem_append_right _ (List.mem_append_left _ h))
  have hl : lv_has ls 3 [(0, .ref (ad 0)), (1, .int lv)] := hl
  refine lv_aload_n hx hb dX12_pack_0 rfl (lv_at hl 0 rfl) ?_
  refine lv_iconst (v := 0) hx hb dX12_pack_1 (by decide) ?_
  refine hk_put (ci := 15) (C := RX12) (T := TX12) (N := 92) (ty := .int) (v := .int 0) hx hb hts iX12 tyX12 tyX12_ok nmX12 hown hw 0 rfl rfl 1 (by decide) (hts _ (List.mem_of_getElem? (i := 1) rfl)) rfl (by decide +kernel) rfl rfl (Nat.le_of_ble_eq_true rfl) dX12_pack_2 (ws' := mw cI cJ ad (upd (mf_g fm) 1 0) mf_l ar bk) rfl (fun H locs hw => ?_)
  refine lv_iload_n hx hb dX12_pack_5 rfl (lv_at hl 1 rfl) ?_
  refine lv_if_lt (tgt := 14) hx hb dX12_pack_6 (by decide) (fun cc_1 => ?_) (fun cc_1 => ?_)
  · refine lv_iconst (v := (-1)) hx hb dX12_pack_14 (by decide) ?_
    exact hk_iret (u := ((upd (mf_g fm) 1 0), mf_l, ar, bk)) hx hb hr hlocks (hw) (by simp only [Int32.lt_iff_toInt_lt, Int32.le_iff_toInt_le, ← Int32.toInt_inj, hk_t0, hk_t1, hk_t2, hk_t3, hk_t4, hk_t5, hk_t6, hk_t7, hk_t8, hk_t9, hk_t10, hk_t11, hk_t12, hk_t13, hk_t14, hk_t15, hk_t16, hk_t17, hk_t18, hk_t20, hk_t32, hk_tm1, hk_t256, hk_t1500, hk_t4096, hk_t2000, hk_t3000, hk_t512, hk_t1024, true_and, and_true, false_and, and_false, true_or, or_true, false_or, or_false, not_true_eq_false, not_false_eq_true] at cc_1 ⊢; omega) dX12_pack_15
  · refine lv_iload_n hx hb dX12_pack_9 rfl (lv_at hl 1 rfl) ?_
    refine lv_iconst (v := 2) hx hb dX12_pack_10 (by decide) ?_
    refine lv_icmp_le (tgt := 16) hx hb dX12_pack_11 (by decide) (fun cc_2 => ?_) (fun cc_2 => ?_)
    · refine lv_aload_n hx hb dX12_pack_16 rfl (lv_at hl 0 rfl) ?_
      refine lv_iload_n hx hb dX12_pack_17 rfl (lv_at hl 1 rfl) ?_
      refine hk_put (ci := 15) (C := RX12) (T := TX12) (N := 92) (ty := .int) (v := .int lv) hx hb hts iX12 tyX12 tyX12_ok nmX12 hown hw 0 rfl rfl 67 (by decide) (hts _ (List.mem_of_getElem? (i := 2) rfl)) rfl (by decide +kernel) rfl rfl (Nat.le_of_ble_eq_true rfl) dX12_pack_18 (ws' := mw cI cJ ad (upd (upd (mf_g fm) 1 0) 41 lv) mf_l ar bk) rfl (fun H locs hw => ?_)
      refine lv_aload_n hx hb dX12_pack_21 rfl (lv_at hl 0 rfl) ?_
      refine lv_iconst (v := 0) hx hb dX12_pack_22 (by decide) ?_
      refine hk_put (ci := 15) (C := RX12) (T := TX12) (N := 92) (ty := .int) (v := .int 0) hx hb hts iX12 tyX12 tyX12_ok nmX12 hown hw 0 rfl rfl 40 (by decide) (hts _ (List.mem_of_getElem? (i := 3) rfl)) rfl (by decide +kernel) rfl rfl (Nat.le_of_ble_eq_true rfl) dX12_pack_23 (ws' := mw cI cJ ad (upd (upd (upd (mf_g fm) 1 0) 41 lv) 22 0) mf_l ar bk) rfl (fun H locs hw => ?_)
      refine lv_aload_n hx hb dX12_pack_26 rfl (lv_at hl 0 rfl) ?_
      refine hk_Vv (As := []) (rest := []) ⟨hx, hb, hml, hown, hts⟩ hw hA (cn_clear l D cI cJ ad (upd (upd (upd (mf_g fm) 1 0) 41 lv) 22 0) mf_l ar bk _) (cwV 0 hts gw_cm_pack_0 rfl rfl rfl (by decide +kernel) ⟨Nat.le_of_ble_eq_true rfl, Nat.le_of_ble_eq_true rfl⟩) 0 (ci := 15) (T := TX12) (N := 92) rfl rfl rfl hl.1 rfl (Nat.le_of_ble_eq_true rfl) dX12_pack_27 ⟨Nat.le_of_ble_eq_true rfl, Nat.le_of_ble_eq_true rfl⟩ (fun uu_4 H locs hp_5 hw => ?_)
      have hw : hk_W D [(cI, .int), (cJ, .long)] _ s _ _ (mw cI cJ ad (upd (upd (upd (upd (upd (upd (upd (mf_g fm) 1 0) 41 lv) 22 0) 18 0) 20 0) 19 0) 13 0) mf_l ar bk) := hw
      refine lv_aload_n hx hb dX12_pack_30 rfl (lv_at hl 0 rfl) ?_
      refine lv_iconst (v := 0) hx hb dX12_pack_31 (by decide) ?_
      refine hk_put (ci := 15) (C := RX12) (T := TX12) (N := 92) (ty := .int) (v := .int 0) hx hb hts iX12 tyX12 tyX12_ok nmX12 hown hw 0 rfl rfl 69 (by decide) (hts _ (List.mem_of_getElem? (i := 13) rfl)) rfl (by decide +kernel) rfl rfl (Nat.le_of_ble_eq_true rfl) dX12_pack_32 (ws' := mw cI cJ ad (upd (upd (upd (upd (upd (upd (upd (upd (mf_g fm) 1 0) 41 lv) 22 0) 18 0) 20 0) 19 0) 13 0) 42 0) mf_l ar bk) rfl (fun H locs hw => ?_)
      refine lv_aload_n hx hb dX12_pack_35 rfl (lv_at hl 0 rfl) ?_
      refine hk_Vv (As := []) (rest := []) ⟨hx, hb, hml, hown, hts⟩ hw hA (cn_fresh l D cI cJ ad (upd (upd (upd (upd (upd (upd (upd (upd (mf_g fm) 1 0) 41 lv) 22 0) 18 0) 20 0) 19 0) 13 0) 42 0) mf_l ar bk _) (cwV 0 hts gw_cm_pack_1 rfl rfl rfl (by decide +kernel) ⟨Nat.le_of_ble_eq_true rfl, Nat.le_of_ble_eq_true rfl⟩) 0 (ci := 15) (T := TX12) (N := 92) rfl rfl rfl hl.1 rfl (Nat.le_of_ble_eq_true rfl) dX12_pack_36 ⟨Nat.le_of_ble_eq_true rfl, Nat.le_of_ble_eq_true rfl⟩ (fun uu_7 H locs hp_8 hw => ?_)
      have hw : hk_W D [(cI, .int), (cJ, .long)] _ s _ _ (mw cI cJ ad (upd (upd (upd (upd (upd (upd (upd (upd (upd (upd (upd (upd (upd (mf_g fm) 1 0) 41 lv) 22 0) 18 0) 20 0) 19 0) 13 0) 42 0) 23 0) 24 1) 25 1) 26 1) 27 1) mf_l (va_up ar 16 uu_7) bk) := hw
      obtain ⟨gq_9, hgq_9⟩ : ∃ q : Nat → Int32, q = (upd (upd (upd (upd (upd (upd (upd (upd (upd (upd (upd (upd (upd (mf_g fm) 1 0) 41 lv) 22 0) 18 0) 20 0) 19 0) 13 0) 42 0) 23 0) 24 1) 25 1) 26 1) 27 1) := ⟨_, rfl⟩
      have hgq_9_0 : gq_9 0 = fm := by rw [hgq_9]; rfl
      have hgq_9_1 : gq_9 1 = 0 := by rw [hgq_9]; rfl
      have hgq_9_2 : gq_9 2 = 3 := by rw [hgq_9]; rfl
      have hgq_9_3 : gq_9 3 = 0 := by rw [hgq_9]; rfl
      have hgq_9_4 : gq_9 4 = 2 := by rw [hgq_9]; rfl
      have hgq_9_5 : gq_9 5 = 4096 := by rw [hgq_9]; rfl
      have hgq_9_6 : gq_9 6 = 512 := by rw [hgq_9]; rfl
      have hgq_9_7 : gq_9 7 = 1024 := by rw [hgq_9]; rfl
      have hgq_9_8 : gq_9 8 = 1 := by rw [hgq_9]; rfl
      have hgq_9_9 : gq_9 9 = 0 := by rw [hgq_9]; rfl
      have hgq_9_10 : gq_9 10 = 0 := by rw [hgq_9]; rfl
      have hgq_9_11 : gq_9 11 = 0 := by rw [hgq_9]; rfl
      have hgq_9_12 : gq_9 12 = 0 := by rw [hgq_9]; rfl
      have hgq_9_13 : gq_9 13 = 0 := by rw [hgq_9]; rfl
      have hgq_9_14 : gq_9 14 = 0 := by rw [hgq_9]; rfl
      have hgq_9_15 : gq_9 15 = 0 := by rw [hgq_9]; rfl
      have hgq_9_16 : gq_9 16 = 0 := by rw [hgq_9]; rfl
      have hgq_9_17 : gq_9 17 = 0 := by rw [hgq_9]; rfl
      have hgq_9_18 : gq_9 18 = 0 := by rw [hgq_9]; rfl
      have hgq_9_19 : gq_9 19 = 0 := by rw [hgq_9]; rfl
      have hgq_9_20 : gq_9 20 = 0 := by rw [hgq_9]; rfl
      have hgq_9_21 : gq_9 21 = (-1) := by rw [hgq_9]; rfl
      have hgq_9_22 : gq_9 22 = 0 := by rw [hgq_9]; rfl
      have hgq_9_23 : gq_9 23 = 0 := by rw [hgq_9]; rfl
      have hgq_9_24 : gq_9 24 = 1 := by rw [hgq_9]; rfl
      have hgq_9_25 : gq_9 25 = 1 := by rw [hgq_9]; rfl
      have hgq_9_26 : gq_9 26 = 1 := by rw [hgq_9]; rfl
      have hgq_9_27 : gq_9 27 = 1 := by rw [hgq_9]; rfl
      have hgq_9_28 : gq_9 28 = 0 := by rw [hgq_9]; rfl
      have hgq_9_29 : gq_9 29 = 0 := by rw [hgq_9]; rfl
      have hgq_9_30 : gq_9 30 = 0 := by rw [hgq_9]; rfl
      have hgq_9_31 : gq_9 31 = 0 := by rw [hgq_9]; rfl
      have hgq_9_32 : gq_9 32 = 0 := by rw [hgq_9]; rfl
      have hgq_9_33 : gq_9 33 = 0 := by rw [hgq_9]; rfl
      have hgq_9_34 : gq_9 34 = 0 := by rw [hgq_9]; rfl
      have hgq_9_35 : gq_9 35 = 0 := by rw [hgq_9]; rfl
      have hgq_9_36 : gq_9 36 = 0 := by rw [hgq_9]; rfl
      have hgq_9_37 : gq_9 37 = 0 := by rw [hgq_9]; rfl
      have hgq_9_38 : gq_9 38 = 0 := by rw [hgq_9]; rfl
      have hgq_9_39 : gq_9 39 = 0 := by rw [hgq_9]; rfl
      have hgq_9_40 : gq_9 40 = 0 := by rw [hgq_9]; rfl
      have hgq_9_41 : gq_9 41 = lv := by rw [hgq_9]; rfl
      have hgq_9_42 : gq_9 42 = 0 := by rw [hgq_9]; rfl
      have hgq_9_43 : gq_9 43 = 0 := by rw [hgq_9]; rfl
      have hgq_9_44 : gq_9 44 = 0 := by rw [hgq_9]; rfl
      have hgq_9_45 : gq_9 45 = 0 := by rw [hgq_9]; rfl
      have hgq_9_46 : gq_9 46 = 0 := by rw [hgq_9]; rfl
      have hgq_9_47 : gq_9 47 = 0 := by rw [hgq_9]; rfl
      have hgq_9_48 : gq_9 48 = 0 := by rw [hgq_9]; rfl
      have hgq_9_49 : gq_9 49 = 0 := by rw [hgq_9]; rfl
      have hgq_9_50 : gq_9 50 = 0 := by rw [hgq_9]; rfl
      have hgq_9_51 : gq_9 51 = 0 := by rw [hgq_9]; rfl
      have hgq_9_52 : gq_9 52 = 0 := by rw [hgq_9]; rfl
      have hgq_9_53 : gq_9 53 = 0 := by rw [hgq_9]; rfl
      have hgq_9_54 : gq_9 54 = 0 := by rw [hgq_9]; rfl
      have hgq_9_55 : gq_9 55 = 0 := by rw [hgq_9]; rfl
      have hgq_9_56 : gq_9 56 = 0 := by rw [hgq_9]; rfl
      have hgq_9_57 : gq_9 57 = 0 := by rw [hgq_9]; rfl
      have hgq_9_58 : gq_9 58 = 0 := by rw [hgq_9]; rfl
      rw [← hgq_9] at hw
      refine lv_aload_n hx hb dX12_pack_39 rfl (lv_at hl 0 rfl) ?_
      refine hk_get (ci := 15) (C := RX12) (T := TX12) (N := 92) (v := .int fm) hx hb hts iX12 hown hw 0 rfl rfl 0 (by decide) (hts _ (List.mem_of_getElem? (i := 24) rfl)) (congrArg (fun z => some (Value.int z)) hgq_9_0) dX12_pack_40 ?_
      refine lv_if_ne (tgt := 53) hx hb dX12_pack_43 (by decide) (fun cc_10 => ?_) (fun cc_10 => ?_)
      · refine lv_aload_n hx hb dX12_pack_53 rfl (lv_at hl 0 rfl) ?_
        refine hk_get (ci := 15) (C := RX12) (T := TX12) (N := 92) (v := .int fm) hx hb hts iX12 hown hw 0 rfl rfl 0 (by decide) (hts _ (List.mem_of_getElem? (i := 24) rfl)) (congrArg (fun z => some (Value.int z)) hgq_9_0) dX12_pack_54 ?_
        refine lv_iconst (v := 1) hx hb dX12_pack_57 (by decide) ?_
        refine lv_icmp_ne (tgt := 153) hx hb dX12_pack_58 (by decide) (fun cc_11 => ?_) (fun cc_11 => ?_)
        · refine lv_aload_n hx hb dX12_pack_153 rfl (lv_at hl 0 rfl) ?_
          refine hk_Vv (As := []) (rest := []) ⟨hx, hb, hml, hown, hts⟩ hw hA (cn_packBox l D cI cJ ad gq_9 mf_l (va_up ar 16 uu_7) bk _ hgq_9_42 hgq_9_12 hgq_9_20) (cwV 0 hts gw_cm_pack_2 rfl rfl rfl (by decide +kernel) ⟨Nat.le_of_ble_eq_true rfl, Nat.le_of_ble_eq_true rfl⟩) 0 (ci := 15) (T := TX12) (N := 92) rfl rfl rfl hl.1 rfl (Nat.le_of_ble_eq_true rfl) dX12_pack_154 ⟨Nat.le_of_ble_eq_true rfl, Nat.le_of_ble_eq_true rfl⟩ (fun uu_13 H locs hp_14 hw => ?_)
          have hw : hk_W D [(cI, .int), (cJ, .long)] _ s _ _ (mw cI cJ ad (upd (upd gq_9 42 32) 14 uu_13.2) mf_l (va_up (va_up ar 16 uu_7) 22 uu_13.1) bk) := hw
          refine lv_aload_n hx hb dX12_pack_157 rfl (lv_at hl 0 rfl) ?_
          refine lv_aload_n hx hb dX12_pack_158 rfl (lv_at hl 0 rfl) ?_
          refine hk_get (ci := 15) (C := RX12) (T := TX12) (N := 92) (v := .int 0) hx hb hts iX12 hown hw 0 rfl rfl 43 (by decide) (hts _ (List.mem_of_getElem? (i := 18) rfl)) (congrArg (fun z => some (Value.int z)) hgq_9_23) dX12_pack_159 ?_
          refine hk_put (ci := 15) (C := RX12) (T := TX12) (N := 92) (ty := .int) (v := .int 0) hx hb hts iX12 tyX12 tyX12_ok nmX12 hown hw 0 rfl rfl 39 (by decide) (hts _ (List.mem_of_getElem? (i := 67) rfl)) rfl (by decide +kernel) rfl rfl (Nat.le_of_ble_eq_true rfl) dX12_pack_162 (ws' := mw cI cJ ad (upd (upd (upd gq_9 42 32) 14 uu_13.2) 21 0) mf_l (va_up (va_up ar 16 uu_7) 22 uu_13.1) bk) rfl (fun H locs hw => ?_)
          refine lv_aload_n hx hb dX12_pack_165 rfl (lv_at hl 0 rfl) ?_
          refine lv_iconst (v := 0) hx hb dX12_pack_166 (by decide) ?_
          refine hk_put (ci := 15) (C := RX12) (T := TX12) (N := 92) (ty := .int) (v := .int 0) hx hb hts iX12 tyX12 tyX12_ok nmX12 hown hw 0 rfl rfl 13 (by decide) (hts _ (List.mem_of_getElem? (i := 61) rfl)) rfl (by decide +kernel) rfl rfl (Nat.le_of_ble_eq_true rfl) dX12_pack_167 (ws' := mw cI cJ ad (upd (upd (upd (upd gq_9 42 32) 14 uu_13.2) 21 0) 12 0) mf_l (va_up (va_up ar 16 uu_7) 22 uu_13.1) bk) rfl (fun H locs hw => ?_)
          refine lv_aload_n hx hb dX12_pack_170 rfl (lv_at hl 0 rfl) ?_
          refine hk_get (ci := 15) (C := RX12) (T := TX12) (N := 92) (v := .int 32) hx hb hts iX12 hown hw 0 rfl rfl 69 (by decide) (hts _ (List.mem_of_getElem? (i := 13) rfl)) rfl dX12_pack_171 ?_
          refine lv_sipush (v := 3000) hx hb dX12_pack_174 (by decide) ?_
          refine lv_icmp_le (tgt := 198) hx hb dX12_pack_177 (by decide) (fun _ => ?_) (fun cc_15 => absurd (by decide) cc_15)
          refine lv_aload_n hx hb dX12_pack_198 rfl (lv_at hl 0 rfl) ?_
          refine lv_aload_n hx hb dX12_pack_199 rfl (lv_at hl 0 rfl) ?_
          refine hk_get (ci := 15) (C := RX12) (T := TX12) (N := 92) (v := .int 32) hx hb hts iX12 hown hw 0 rfl rfl 69 (by decide) (hts _ (List.mem_of_getElem? (i := 13) rfl)) rfl dX12_pack_200 ?_
          refine hk_put (ci := 15) (C := RX12) (T := TX12) (N := 92) (ty := .int) (v := .int 32) hx hb hts iX12 tyX12 tyX12_ok nmX12 hown hw 0 rfl rfl 15 (by decide) (hts _ (List.mem_of_getElem? (i := 12) rfl)) rfl (by decide +kernel) rfl rfl (Nat.le_of_ble_eq_true rfl) dX12_pack_203 (ws' := mw cI cJ ad (upd (upd (upd (upd (upd gq_9 42 32) 14 uu_13.2) 21 0) 12 0) 13 32) mf_l (va_up (va_up ar 16 uu_7) 22 uu_13.1) bk) rfl (fun H locs hw => ?_)
          refine lv_iconst (v := 0) hx hb dX12_pack_206 (by decide) ?_
          refine lv_istore_n (lv' := [(2, .int 0), (0, .ref (ad 0)), (1, .int lv)]) hx hb dX12_pack_207 rfl hl (by decide) rfl (fun ls hl => ?_)
          have loop_17 : ∀ (ki i : Nat) (jj_16 : Nat → Int32) (ls : Array Slot) (H : Heap) (locs : List Loc), i + ki = 32 → hk_W D [(cI, .int), (cJ, .long)] (va_A (mw cI cJ ad (mf_g fm) mf_l ar bk) sz) s H locs (mw cI cJ ad (upd (upd (upd (upd (upd gq_9 42 32) 14 uu_13.2) 21 0) 12 0) 13 32) mf_l (va_up (va_up (va_up ar 16 uu_7) 22 uu_13.1) 1 jj_16) bk) → lv_has ls 3 [(2, .int (nI i)), (0, .ref (ad 0)), (1, .int lv)] → W p l e { frames := 3, cells := 0, slots := 0, locals := 70 } s m (List.toArray [.ref (ad 0), .int lv]) below meth c H locs 0 0 (MQ below (va_Qi (fun (r : Int32) (u : (Nat → Int32) × (Nat → Int64) × (Nat → Nat → Int32) × (Nat → Int64)) => (r.toInt = -1 ∧ ¬ (0 ≤ lv.toInt ∧ lv.toInt ≤ 2)) ∨ ((0 ≤ lv.toInt ∧ lv.toInt ≤ 2) ∧ (r.toInt = 18 ∧ fm.toInt = 0 ∨ r.toInt = 1 ∧ fm.toInt = 1 ∨ r.toInt = 32 ∧ fm.toInt ≠ 0 ∧ fm.toInt ≠ 1))) (fun u : (Nat → Int32) × (Nat → Int64) × (Nat → Nat → Int32) × (Nat → Int64) => hk_E D [(cI, .int), (cJ, .long)] (va_A (mw cI cJ ad (mf_g fm) mf_l ar bk) sz) (mw cI cJ ad u.1 u.2.1 u.2.2.1 u.2.2.2)) (va_A (mw cI cJ ad (mf_g fm) mf_l ar bk) sz)) (List.toArray [.ref (ad 0), .int lv]) s 0 0 (va_A (mw cI cJ ad (mf_g fm) mf_l ar bk) sz)) (F0 m 208 ls []) := by
            intro ki
            induction ki with
            | zero =>
              intro i jj_16 ls H locs hik  hw hl
              refine lv_iload_n hx hb dX12_pack_208 rfl (lv_at hl 0 rfl) ?_
              refine lv_aload_n hx hb dX12_pack_209 rfl (lv_at hl 1 rfl) ?_
              refine hk_get (ci := 15) (C := RX12) (T := TX12) (N := 92) (v := .int 32) hx hb hts iX12 hown hw 0 rfl rfl 69 (by decide) (hts _ (List.mem_of_getElem? (i := 13) rfl)) rfl dX12_pack_210 ?_
              refine lv_icmp_ge (tgt := 234) hx hb dX12_pack_213 (by decide) (fun _ => ?_) (fun cc_18 => absurd (hk_le (a := 32) (b := i) (by omega) (by omega)) cc_18)
              refine lv_aload_n hx hb dX12_pack_234 rfl (lv_at hl 1 rfl) ?_
              refine hk_get (ci := 15) (C := RX12) (T := TX12) (N := 92) (v := .int 32) hx hb hts iX12 hown hw 0 rfl rfl 15 (by decide) (hts _ (List.mem_of_getElem? (i := 12) rfl)) rfl dX12_pack_235 ?_
              exact hk_iret (u := ((upd (upd (upd (upd (upd gq_9 42 32) 14 uu_13.2) 21 0) 12 0) 13 32), mf_l, (va_up (va_up (va_up ar 16 uu_7) 22 uu_13.1) 1 jj_16), bk)) hx hb hr hlocks (hw) (by simp only [Int32.lt_iff_toInt_lt, Int32.le_iff_toInt_le, ← Int32.toInt_inj, hk_t0, hk_t1, hk_t2, hk_t3, hk_t4, hk_t5, hk_t6, hk_t7, hk_t8, hk_t9, hk_t10, hk_t11, hk_t12, hk_t13, hk_t14, hk_t15, hk_t16, hk_t17, hk_t18, hk_t20, hk_t32, hk_tm1, hk_t256, hk_t1500, hk_t4096, hk_t2000, hk_t3000, hk_t512, hk_t1024, true_and, and_true, false_and, and_false, true_or, or_true, false_or, or_false, not_true_eq_false, not_false_eq_true] at cc_1 cc_2 cc_10 cc_11 ⊢; omega) dX12_pack_238
            | succ ki ih =>
              intro i jj_16 ls H locs hik  hw hl
              refine lv_iload_n hx hb dX12_pack_208 rfl (lv_at hl 0 rfl) ?_
              refine lv_aload_n hx hb dX12_pack_209 rfl (lv_at hl 1 rfl) ?_
              refine hk_get (ci := 15) (C := RX12) (T := TX12) (N := 92) (v := .int 32) hx hb hts iX12 hown hw 0 rfl rfl 69 (by decide) (hts _ (List.mem_of_getElem? (i := 13) rfl)) rfl dX12_pack_210 ?_
              refine lv_icmp_ge (tgt := 234) hx hb dX12_pack_213 (by decide) (fun cc_19 => absurd cc_19 (hk_nle (a := i) (b := 32) (by omega) (by omega))) (fun _ => ?_)
              refine lv_aload_n hx hb dX12_pack_216 rfl (lv_at hl 1 rfl) ?_
              refine hk_get (ci := 15) (C := RX12) (T := TX12) (N := 92) (v := .ref (ad 2)) hx hb hts iX12 hown hw 0 rfl rfl 14 (by decide) (hts _ (List.mem_of_getElem? (i := 68) rfl)) rfl dX12_pack_217 ?_
              refine lv_iload_n hx hb dX12_pack_220 rfl (lv_at hl 0 rfl) ?_
              refine lv_aload_n hx hb dX12_pack_221 rfl (lv_at hl 1 rfl) ?_
              refine hk_get (ci := 15) (C := RX12) (T := TX12) (N := 92) (v := .ref (ad 23)) hx hb hts iX12 hown hw 0 rfl rfl 68 (by decide) (hts _ (List.mem_of_getElem? (i := 37) rfl)) rfl dX12_pack_222 ?_
              refine lv_iload_n hx hb dX12_pack_225 rfl (lv_at hl 0 rfl) ?_
              refine hk_iald (v := (uu_13.1 ((nI i)).toNatClampNeg)) hx hb hw 23 0 rfl rfl (vp_in_nI (by omega) (by omega)) dX12_pack_226 rfl ?_
              refine hk_iast hx hb hw 2 0 rfl rfl (vp_in_nI (by omega) (by omega)) dX12_pack_227 (ws' := mw cI cJ ad (upd (upd (upd (upd (upd gq_9 42 32) 14 uu_13.2) 21 0) 12 0) 13 32) mf_l (va_up (va_up (va_up (va_up ar 16 uu_7) 22 uu_13.1) 1 jj_16) 1 (upd jj_16 ((nI i)).toNatClampNeg (uu_13.1 ((nI i)).toNatClampNeg))) bk) rfl (fun H locs hw => ?_)
              refine lv_iinc (v := (nI (i + 1))) (lv' := [(2, .int (nI (i + 1))), (0, .ref (ad 0)), (1, .int lv)]) hx hb dX12_pack_228 hl (k := 0) rfl ((nI_succ i).symm) (by decide) rfl (fun ls hl => ?_)
              refine lv_goto (tgt := 208) hx hb dX12_pack_231 (by decide) ?_
              exact ih (i + 1) (upd jj_16 ((nI i)).toNatClampNeg (uu_13.1 ((nI i)).toNatClampNeg)) ls _ _ (by omega)  hw (lv_sub hl [0, 1, 2] rfl)
          exact loop_17 (32 - 0) 0 (ar 1) ls _ _ (by omega)  hw (lv_sub hl [0, 1, 2] rfl)
        · refine lv_aload_n hx hb dX12_pack_61 rfl (lv_at hl 0 rfl) ?_
          refine lv_aload_n hx hb dX12_pack_62 rfl (lv_at hl 0 rfl) ?_
          refine hk_get (ci := 15) (C := RX12) (T := TX12) (N := 92) (v := .int 0) hx hb hts iX12 hown hw 0 rfl rfl 13 (by decide) (hts _ (List.mem_of_getElem? (i := 61) rfl)) (congrArg (fun z => some (Value.int z)) hgq_9_12) dX12_pack_63 ?_
          refine hk_put (ci := 15) (C := RX12) (T := TX12) (N := 92) (ty := .int) (v := .int 0) hx hb hts iX12 tyX12 tyX12_ok nmX12 hown hw 0 rfl rfl 26 (by decide) (hts _ (List.mem_of_getElem? (i := 69) rfl)) rfl (by decide +kernel) rfl rfl (Nat.le_of_ble_eq_true rfl) dX12_pack_66 (ws' := mw cI cJ ad (upd gq_9 17 0) mf_l (va_up ar 16 uu_7) bk) rfl (fun H locs hw => ?_)
          refine lv_iconst (v := 0) hx hb dX12_pack_69 (by decide) ?_
          refine lv_istore_n (lv' := [(2, .int 0), (0, .ref (ad 0)), (1, .int lv)]) hx hb dX12_pack_70 rfl hl (by decide) rfl (fun ls hl => ?_)
          refine lv_iload_n hx hb dX12_pack_71 rfl (lv_at hl 0 rfl) ?_
          refine lv_aload_n hx hb dX12_pack_72 rfl (lv_at hl 1 rfl) ?_
          refine hk_get (ci := 15) (C := RX12) (T := TX12) (N := 92) (v := .int 0) hx hb hts iX12 hown hw 0 rfl rfl 13 (by decide) (hts _ (List.mem_of_getElem? (i := 61) rfl)) (congrArg (fun z => some (Value.int z)) hgq_9_12) dX12_pack_73 ?_
          refine lv_icmp_ge (tgt := 97) hx hb dX12_pack_76 (by decide) (fun _ => ?_) (fun cc_20 => absurd (by decide) cc_20)
          refine lv_aload_n hx hb dX12_pack_97 rfl (lv_at hl 1 rfl) ?_
          refine hk_Vv (As := []) (rest := []) ⟨hx, hb, hml, hown, hts⟩ hw hA (cn_packChunks l D cI cJ ad (upd gq_9 17 0) mf_l (va_up ar 16 uu_7) bk _ hgq_9_42 rfl) (cwV 0 hts gw_cm_pack_3 rfl rfl rfl (by decide +kernel) ⟨Nat.le_of_ble_eq_true rfl, Nat.le_of_ble_eq_true rfl⟩) 0 (ci := 15) (T := TX12) (N := 92) rfl rfl rfl hl.1 rfl (Nat.le_of_ble_eq_true rfl) dX12_pack_98 ⟨Nat.le_of_ble_eq_true rfl, Nat.le_of_ble_eq_true rfl⟩ (fun uu_22 H locs hp_23 hw => ?_)
          have hw : hk_W D [(cI, .int), (cJ, .long)] _ s _ _ (mw cI cJ ad (upd (upd (upd (upd (upd (upd (upd (upd (upd (upd (upd (upd gq_9 17 0) 42 1) 29 ((upd gq_9 17 0) 2)) 30 ((upd gq_9 17 0) 3)) 31 ((upd gq_9 17 0) 4)) 23 0) 24 1) 25 1) 26 1) 27 1) 28 0) 48 0) mf_l (va_up (va_up (va_up ar 16 uu_7) 22 uu_22.1) 16 uu_22.2) bk) := hw
          refine lv_aload_n hx hb dX12_pack_101 rfl (lv_at hl 1 rfl) ?_
          refine hk_get (ci := 15) (C := RX12) (T := TX12) (N := 92) (v := .ref (ad 12)) hx hb hts iX12 hown hw 0 rfl rfl 34 (by decide) (hts _ (List.mem_of_getElem? (i := 86) rfl)) rfl dX12_pack_102 ?_
          refine lv_iconst (v := 0) hx hb dX12_pack_105 (by decide) ?_
          refine lv_iconst (v := 0) hx hb dX12_pack_106 (by decide) ?_
          refine hk_iast hx hb hw 12 0 rfl rfl (show ¬ (_ ∨ _) by decide) dX12_pack_107 (ws' := mw cI cJ ad (upd (upd (upd (upd (upd (upd (upd (upd (upd (upd (upd (upd gq_9 17 0) 42 1) 29 ((upd gq_9 17 0) 2)) 30 ((upd gq_9 17 0) 3)) 31 ((upd gq_9 17 0) 4)) 23 0) 24 1) 25 1) 26 1) 27 1) 28 0) 48 0) mf_l (va_up (va_up (va_up (va_up ar 16 uu_7) 22 uu_22.1) 16 uu_22.2) 11 (upd (ar 11) 0 0)) bk) rfl (fun H locs hw => ?_)
          refine lv_aload_n hx hb dX12_pack_108 rfl (lv_at hl 1 rfl) ?_
          refine hk_get (ci := 15) (C := RX12) (T := TX12) (N := 92) (v := .ref (ad 13)) hx hb hts iX12 hown hw 0 rfl rfl 35 (by decide) (hts _ (List.mem_of_getElem? (i := 87) rfl)) rfl dX12_pack_109 ?_
          refine lv_iconst (v := 0) hx hb dX12_pack_112 (by decide) ?_
          refine lv_iconst (v := 0) hx hb dX12_pack_113 (by decide) ?_
          refine hk_iast hx hb hw 13 0 rfl rfl (show ¬ (_ ∨ _) by decide) dX12_pack_114 (ws' := mw cI cJ ad (upd (upd (upd (upd (upd (upd (upd (upd (upd (upd (upd (upd gq_9 17 0) 42 1) 29 ((upd gq_9 17 0) 2)) 30 ((upd gq_9 17 0) 3)) 31 ((upd gq_9 17 0) 4)) 23 0) 24 1) 25 1) 26 1) 27 1) 28 0) 48 0) mf_l (va_up (va_up (va_up (va_up (va_up ar 16 uu_7) 22 uu_22.1) 16 uu_22.2) 11 (upd (ar 11) 0 0)) 12 (upd (ar 12) 0 0)) bk) rfl (fun H locs hw => ?_)
          refine lv_aload_n hx hb dX12_pack_115 rfl (lv_at hl 1 rfl) ?_
          refine hk_get (ci := 15) (C := RX12) (T := TX12) (N := 92) (v := .ref (ad 14)) hx hb hts iX12 hown hw 0 rfl rfl 36 (by decide) (hts _ (List.mem_of_getElem? (i := 88) rfl)) rfl dX12_pack_116 ?_
          refine lv_iconst (v := 0) hx hb dX12_pack_119 (by decide) ?_
          refine lv_aload_n hx hb dX12_pack_120 rfl (lv_at hl 1 rfl) ?_
          refine hk_get (ci := 15) (C := RX12) (T := TX12) (N := 92) (v := .int 1) hx hb hts iX12 hown hw 0 rfl rfl 69 (by decide) (hts _ (List.mem_of_getElem? (i := 13) rfl)) rfl dX12_pack_121 ?_
          refine hk_iast hx hb hw 14 0 rfl rfl (show ¬ (_ ∨ _) by decide) dX12_pack_124 (ws' := mw cI cJ ad (upd (upd (upd (upd (upd (upd (upd (upd (upd (upd (upd (upd gq_9 17 0) 42 1) 29 ((upd gq_9 17 0) 2)) 30 ((upd gq_9 17 0) 3)) 31 ((upd gq_9 17 0) 4)) 23 0) 24 1) 25 1) 26 1) 27 1) 28 0) 48 0) mf_l (va_up (va_up (va_up (va_up (va_up (va_up ar 16 uu_7) 22 uu_22.1) 16 uu_22.2) 11 (upd (ar 11) 0 0)) 12 (upd (ar 12) 0 0)) 13 (upd (ar 13) 0 1)) bk) rfl (fun H locs hw => ?_)
          refine lv_aload_n hx hb dX12_pack_125 rfl (lv_at hl 1 rfl) ?_
          refine hk_get (ci := 15) (C := RX12) (T := TX12) (N := 92) (v := .ref (ad 15)) hx hb hts iX12 hown hw 0 rfl rfl 37 (by decide) (hts _ (List.mem_of_getElem? (i := 89) rfl)) rfl dX12_pack_126 ?_
          refine lv_iconst (v := 0) hx hb dX12_pack_129 (by decide) ?_
          refine lv_aload_n hx hb dX12_pack_130 rfl (lv_at hl 1 rfl) ?_
          refine hk_get (ci := 15) (C := RX12) (T := TX12) (N := 92) (v := .int 0) hx hb hts iX12 hown hw 0 rfl rfl 13 (by decide) (hts _ (List.mem_of_getElem? (i := 61) rfl)) (congrArg (fun z => some (Value.int z)) hgq_9_12) dX12_pack_131 ?_
          refine hk_iast hx hb hw 15 0 rfl rfl (show ¬ (_ ∨ _) by decide) dX12_pack_134 (ws' := mw cI cJ ad (upd (upd (upd (upd (upd (upd (upd (upd (upd (upd (upd (upd gq_9 17 0) 42 1) 29 ((upd gq_9 17 0) 2)) 30 ((upd gq_9 17 0) 3)) 31 ((upd gq_9 17 0) 4)) 23 0) 24 1) 25 1) 26 1) 27 1) 28 0) 48 0) mf_l (va_up (va_up (va_up (va_up (va_up (va_up (va_up ar 16 uu_7) 22 uu_22.1) 16 uu_22.2) 11 (upd (ar 11) 0 0)) 12 (upd (ar 12) 0 0)) 13 (upd (ar 13) 0 1)) 14 (upd (ar 14) 0 0)) bk) rfl (fun H locs hw => ?_)
          refine lv_aload_n hx hb dX12_pack_135 rfl (lv_at hl 1 rfl) ?_
          refine hk_get (ci := 15) (C := RX12) (T := TX12) (N := 92) (v := .ref (ad 16)) hx hb hts iX12 hown hw 0 rfl rfl 38 (by decide) (hts _ (List.mem_of_getElem? (i := 90) rfl)) rfl dX12_pack_136 ?_
          refine lv_iconst (v := 0) hx hb dX12_pack_139 (by decide) ?_
          refine lv_aload_n hx hb dX12_pack_140 rfl (lv_at hl 1 rfl) ?_
          refine hk_get (ci := 15) (C := RX12) (T := TX12) (N := 92) (v := .int 0) hx hb hts iX12 hown hw 0 rfl rfl 75 (by decide) (hts _ (List.mem_of_getElem? (i := 85) rfl)) rfl dX12_pack_141 ?_
          refine hk_iast hx hb hw 16 0 rfl rfl (show ¬ (_ ∨ _) by decide) dX12_pack_144 (ws' := mw cI cJ ad (upd (upd (upd (upd (upd (upd (upd (upd (upd (upd (upd (upd gq_9 17 0) 42 1) 29 ((upd gq_9 17 0) 2)) 30 ((upd gq_9 17 0) 3)) 31 ((upd gq_9 17 0) 4)) 23 0) 24 1) 25 1) 26 1) 27 1) 28 0) 48 0) mf_l (va_up (va_up (va_up (va_up (va_up (va_up (va_up (va_up ar 16 uu_7) 22 uu_22.1) 16 uu_22.2) 11 (upd (ar 11) 0 0)) 12 (upd (ar 12) 0 0)) 13 (upd (ar 13) 0 1)) 14 (upd (ar 14) 0 0)) 15 (upd (ar 15) 0 0)) bk) rfl (fun H locs hw => ?_)
          refine lv_aload_n hx hb dX12_pack_145 rfl (lv_at hl 1 rfl) ?_
          refine lv_iconst (v := 1) hx hb dX12_pack_146 (by decide) ?_
          refine hk_put (ci := 15) (C := RX12) (T := TX12) (N := 92) (ty := .int) (v := .int 1) hx hb hts iX12 tyX12 tyX12_ok nmX12 hown hw 0 rfl rfl 33 (by decide) (hts _ (List.mem_of_getElem? (i := 10) rfl)) rfl (by decide +kernel) rfl rfl (Nat.le_of_ble_eq_true rfl) dX12_pack_147 (ws' := mw cI cJ ad (upd (upd (upd (upd (upd (upd (upd (upd (upd (upd (upd (upd (upd gq_9 17 0) 42 1) 29 ((upd gq_9 17 0) 2)) 30 ((upd gq_9 17 0) 3)) 31 ((upd gq_9 17 0) 4)) 23 0) 24 1) 25 1) 26 1) 27 1) 28 0) 48 0) 20 1) mf_l (va_up (va_up (va_up (va_up (va_up (va_up (va_up (va_up ar 16 uu_7) 22 uu_22.1) 16 uu_22.2) 11 (upd (ar 11) 0 0)) 12 (upd (ar 12) 0 0)) 13 (upd (ar 13) 0 1)) 14 (upd (ar 14) 0 0)) 15 (upd (ar 15) 0 0)) bk) rfl (fun H locs hw => ?_)
          refine lv_goto (tgt := 157) hx hb dX12_pack_150 (by decide) ?_
          refine lv_aload_n hx hb dX12_pack_157 rfl (lv_at hl 1 rfl) ?_
          refine lv_aload_n hx hb dX12_pack_158 rfl (lv_at hl 1 rfl) ?_
          refine hk_get (ci := 15) (C := RX12) (T := TX12) (N := 92) (v := .int 0) hx hb hts iX12 hown hw 0 rfl rfl 43 (by decide) (hts _ (List.mem_of_getElem? (i := 18) rfl)) rfl dX12_pack_159 ?_
          refine hk_put (ci := 15) (C := RX12) (T := TX12) (N := 92) (ty := .int) (v := .int 0) hx hb hts iX12 tyX12 tyX12_ok nmX12 hown hw 0 rfl rfl 39 (by decide) (hts _ (List.mem_of_getElem? (i := 67) rfl)) rfl (by decide +kernel) rfl rfl (Nat.le_of_ble_eq_true rfl) dX12_pack_162 (ws' := mw cI cJ ad (upd (upd (upd (upd (upd (upd (upd (upd (upd (upd (upd (upd (upd (upd gq_9 17 0) 42 1) 29 ((upd gq_9 17 0) 2)) 30 ((upd gq_9 17 0) 3)) 31 ((upd gq_9 17 0) 4)) 23 0) 24 1) 25 1) 26 1) 27 1) 28 0) 48 0) 20 1) 21 0) mf_l (va_up (va_up (va_up (va_up (va_up (va_up (va_up (va_up ar 16 uu_7) 22 uu_22.1) 16 uu_22.2) 11 (upd (ar 11) 0 0)) 12 (upd (ar 12) 0 0)) 13 (upd (ar 13) 0 1)) 14 (upd (ar 14) 0 0)) 15 (upd (ar 15) 0 0)) bk) rfl (fun H locs hw => ?_)
          refine lv_aload_n hx hb dX12_pack_165 rfl (lv_at hl 1 rfl) ?_
          refine lv_iconst (v := 0) hx hb dX12_pack_166 (by decide) ?_
          refine hk_put (ci := 15) (C := RX12) (T := TX12) (N := 92) (ty := .int) (v := .int 0) hx hb hts iX12 tyX12 tyX12_ok nmX12 hown hw 0 rfl rfl 13 (by decide) (hts _ (List.mem_of_getElem? (i := 61) rfl)) rfl (by decide +kernel) rfl rfl (Nat.le_of_ble_eq_true rfl) dX12_pack_167 (ws' := mw cI cJ ad (upd (upd (upd (upd (upd (upd (upd (upd (upd (upd (upd (upd (upd (upd (upd gq_9 17 0) 42 1) 29 ((upd gq_9 17 0) 2)) 30 ((upd gq_9 17 0) 3)) 31 ((upd gq_9 17 0) 4)) 23 0) 24 1) 25 1) 26 1) 27 1) 28 0) 48 0) 20 1) 21 0) 12 0) mf_l (va_up (va_up (va_up (va_up (va_up (va_up (va_up (va_up ar 16 uu_7) 22 uu_22.1) 16 uu_22.2) 11 (upd (ar 11) 0 0)) 12 (upd (ar 12) 0 0)) 13 (upd (ar 13) 0 1)) 14 (upd (ar 14) 0 0)) 15 (upd (ar 15) 0 0)) bk) rfl (fun H locs hw => ?_)
          refine lv_aload_n hx hb dX12_pack_170 rfl (lv_at hl 1 rfl) ?_
          refine hk_get (ci := 15) (C := RX12) (T := TX12) (N := 92) (v := .int 1) hx hb hts iX12 hown hw 0 rfl rfl 69 (by decide) (hts _ (List.mem_of_getElem? (i := 13) rfl)) rfl dX12_pack_171 ?_
          refine lv_sipush (v := 3000) hx hb dX12_pack_174 (by decide) ?_
          refine lv_icmp_le (tgt := 198) hx hb dX12_pack_177 (by decide) (fun _ => ?_) (fun cc_24 => absurd (by decide) cc_24)
          refine lv_aload_n hx hb dX12_pack_198 rfl (lv_at hl 1 rfl) ?_
          refine lv_aload_n hx hb dX12_pack_199 rfl (lv_at hl 1 rfl) ?_
          refine hk_get (ci := 15) (C := RX12) (T := TX12) (N := 92) (v := .int 1) hx hb hts iX12 hown hw 0 rfl rfl 69 (by decide) (hts _ (List.mem_of_getElem? (i := 13) rfl)) rfl dX12_pack_200 ?_
          refine hk_put (ci := 15) (C := RX12) (T := TX12) (N := 92) (ty := .int) (v := .int 1) hx hb hts iX12 tyX12 tyX12_ok nmX12 hown hw 0 rfl rfl 15 (by decide) (hts _ (List.mem_of_getElem? (i := 12) rfl)) rfl (by decide +kernel) rfl rfl (Nat.le_of_ble_eq_true rfl) dX12_pack_203 (ws' := mw cI cJ ad (upd (upd (upd (upd (upd (upd (upd (upd (upd (upd (upd (upd (upd (upd (upd (upd gq_9 17 0) 42 1) 29 ((upd gq_9 17 0) 2)) 30 ((upd gq_9 17 0) 3)) 31 ((upd gq_9 17 0) 4)) 23 0) 24 1) 25 1) 26 1) 27 1) 28 0) 48 0) 20 1) 21 0) 12 0) 13 1) mf_l (va_up (va_up (va_up (va_up (va_up (va_up (va_up (va_up ar 16 uu_7) 22 uu_22.1) 16 uu_22.2) 11 (upd (ar 11) 0 0)) 12 (upd (ar 12) 0 0)) 13 (upd (ar 13) 0 1)) 14 (upd (ar 14) 0 0)) 15 (upd (ar 15) 0 0)) bk) rfl (fun H locs hw => ?_)
          refine lv_iconst (v := 0) hx hb dX12_pack_206 (by decide) ?_
          refine lv_istore_n (lv' := [(2, .int 0), (0, .ref (ad 0)), (1, .int lv)]) hx hb dX12_pack_207 rfl hl (by decide) rfl (fun ls hl => ?_)
          have loop_26 : ∀ (ki i : Nat) (jj_25 : Nat → Int32) (ls : Array Slot) (H : Heap) (locs : List Loc), i + ki = 1 → hk_W D [(cI, .int), (cJ, .long)] (va_A (mw cI cJ ad (mf_g fm) mf_l ar bk) sz) s H locs (mw cI cJ ad (upd (upd (upd (upd (upd (upd (upd (upd (upd (upd (upd (upd (upd (upd (upd (upd gq_9 17 0) 42 1) 29 ((upd gq_9 17 0) 2)) 30 ((upd gq_9 17 0) 3)) 31 ((upd gq_9 17 0) 4)) 23 0) 24 1) 25 1) 26 1) 27 1) 28 0) 48 0) 20 1) 21 0) 12 0) 13 1) mf_l (va_up (va_up (va_up (va_up (va_up (va_up (va_up (va_up (va_up ar 16 uu_7) 22 uu_22.1) 16 uu_22.2) 11 (upd (ar 11) 0 0)) 12 (upd (ar 12) 0 0)) 13 (upd (ar 13) 0 1)) 14 (upd (ar 14) 0 0)) 15 (upd (ar 15) 0 0)) 1 jj_25) bk) → lv_has ls 3 [(2, .int (nI i)), (0, .ref (ad 0)), (1, .int lv)] → W p l e { frames := 3, cells := 0, slots := 0, locals := 70 } s m (List.toArray [.ref (ad 0), .int lv]) below meth c H locs 0 0 (MQ below (va_Qi (fun (r : Int32) (u : (Nat → Int32) × (Nat → Int64) × (Nat → Nat → Int32) × (Nat → Int64)) => (r.toInt = -1 ∧ ¬ (0 ≤ lv.toInt ∧ lv.toInt ≤ 2)) ∨ ((0 ≤ lv.toInt ∧ lv.toInt ≤ 2) ∧ (r.toInt = 18 ∧ fm.toInt = 0 ∨ r.toInt = 1 ∧ fm.toInt = 1 ∨ r.toInt = 32 ∧ fm.toInt ≠ 0 ∧ fm.toInt ≠ 1))) (fun u : (Nat → Int32) × (Nat → Int64) × (Nat → Nat → Int32) × (Nat → Int64) => hk_E D [(cI, .int), (cJ, .long)] (va_A (mw cI cJ ad (mf_g fm) mf_l ar bk) sz) (mw cI cJ ad u.1 u.2.1 u.2.2.1 u.2.2.2)) (va_A (mw cI cJ ad (mf_g fm) mf_l ar bk) sz)) (List.toArray [.ref (ad 0), .int lv]) s 0 0 (va_A (mw cI cJ ad (mf_g fm) mf_l ar bk) sz)) (F0 m 208 ls []) := by
            intro ki
            induction ki with
            | zero =>
              intro i jj_25 ls H locs hik  hw hl
              refine lv_iload_n hx hb dX12_pack_208 rfl (lv_at hl 0 rfl) ?_
              refine lv_aload_n hx hb dX12_pack_209 rfl (lv_at hl 1 rfl) ?_
              refine hk_get (ci := 15) (C := RX12) (T := TX12) (N := 92) (v := .int 1) hx hb hts iX12 hown hw 0 rfl rfl 69 (by decide) (hts _ (List.mem_of_getElem? (i := 13) rfl)) rfl dX12_pack_210 ?_
              refine lv_icmp_ge (tgt := 234) hx hb dX12_pack_213 (by decide) (fun _ => ?_) (fun cc_27 => absurd (hk_le (a := 1) (b := i) (by omega) (by omega)) cc_27)
              refine lv_aload_n hx hb dX12_pack_234 rfl (lv_at hl 1 rfl) ?_
              refine hk_get (ci := 15) (C := RX12) (T := TX12) (N := 92) (v := .int 1) hx hb hts iX12 hown hw 0 rfl rfl 15 (by decide) (hts _ (List.mem_of_getElem? (i := 12) rfl)) rfl dX12_pack_235 ?_
              exact hk_iret (u := ((upd (upd (upd (upd (upd (upd (upd (upd (upd (upd (upd (upd (upd (upd (upd (upd gq_9 17 0) 42 1) 29 ((upd gq_9 17 0) 2)) 30 ((upd gq_9 17 0) 3)) 31 ((upd gq_9 17 0) 4)) 23 0) 24 1) 25 1) 26 1) 27 1) 28 0) 48 0) 20 1) 21 0) 12 0) 13 1), mf_l, (va_up (va_up (va_up (va_up (va_up (va_up (va_up (va_up (va_up ar 16 uu_7) 22 uu_22.1) 16 uu_22.2) 11 (upd (ar 11) 0 0)) 12 (upd (ar 12) 0 0)) 13 (upd (ar 13) 0 1)) 14 (upd (ar 14) 0 0)) 15 (upd (ar 15) 0 0)) 1 jj_25), bk)) hx hb hr hlocks (hw) (by simp only [Int32.lt_iff_toInt_lt, Int32.le_iff_toInt_le, ← Int32.toInt_inj, hk_t0, hk_t1, hk_t2, hk_t3, hk_t4, hk_t5, hk_t6, hk_t7, hk_t8, hk_t9, hk_t10, hk_t11, hk_t12, hk_t13, hk_t14, hk_t15, hk_t16, hk_t17, hk_t18, hk_t20, hk_t32, hk_tm1, hk_t256, hk_t1500, hk_t4096, hk_t2000, hk_t3000, hk_t512, hk_t1024, true_and, and_true, false_and, and_false, true_or, or_true, false_or, or_false, not_true_eq_false, not_false_eq_true] at cc_1 cc_2 cc_10 cc_11 ⊢; omega) dX12_pack_238
            | succ ki ih =>
              intro i jj_25 ls H locs hik  hw hl
              refine lv_iload_n hx hb dX12_pack_208 rfl (lv_at hl 0 rfl) ?_
              refine lv_aload_n hx hb dX12_pack_209 rfl (lv_at hl 1 rfl) ?_
              refine hk_get (ci := 15) (C := RX12) (T := TX12) (N := 92) (v := .int 1) hx hb hts iX12 hown hw 0 rfl rfl 69 (by decide) (hts _ (List.mem_of_getElem? (i := 13) rfl)) rfl dX12_pack_210 ?_
              refine lv_icmp_ge (tgt := 234) hx hb dX12_pack_213 (by decide) (fun cc_28 => absurd cc_28 (hk_nle (a := i) (b := 1) (by omega) (by omega))) (fun _ => ?_)
              refine lv_aload_n hx hb dX12_pack_216 rfl (lv_at hl 1 rfl) ?_
              refine hk_get (ci := 15) (C := RX12) (T := TX12) (N := 92) (v := .ref (ad 2)) hx hb hts iX12 hown hw 0 rfl rfl 14 (by decide) (hts _ (List.mem_of_getElem? (i := 68) rfl)) rfl dX12_pack_217 ?_
              refine lv_iload_n hx hb dX12_pack_220 rfl (lv_at hl 0 rfl) ?_
              refine lv_aload_n hx hb dX12_pack_221 rfl (lv_at hl 1 rfl) ?_
              refine hk_get (ci := 15) (C := RX12) (T := TX12) (N := 92) (v := .ref (ad 23)) hx hb hts iX12 hown hw 0 rfl rfl 68 (by decide) (hts _ (List.mem_of_getElem? (i := 37) rfl)) rfl dX12_pack_222 ?_
              refine lv_iload_n hx hb dX12_pack_225 rfl (lv_at hl 0 rfl) ?_
              refine hk_iald (v := (uu_22.1 ((nI i)).toNatClampNeg)) hx hb hw 23 0 rfl rfl (vp_in_nI (by omega) (by omega)) dX12_pack_226 rfl ?_
              refine hk_iast hx hb hw 2 0 rfl rfl (vp_in_nI (by omega) (by omega)) dX12_pack_227 (ws' := mw cI cJ ad (upd (upd (upd (upd (upd (upd (upd (upd (upd (upd (upd (upd (upd (upd (upd (upd gq_9 17 0) 42 1) 29 ((upd gq_9 17 0) 2)) 30 ((upd gq_9 17 0) 3)) 31 ((upd gq_9 17 0) 4)) 23 0) 24 1) 25 1) 26 1) 27 1) 28 0) 48 0) 20 1) 21 0) 12 0) 13 1) mf_l (va_up (va_up (va_up (va_up (va_up (va_up (va_up (va_up (va_up (va_up ar 16 uu_7) 22 uu_22.1) 16 uu_22.2) 11 (upd (ar 11) 0 0)) 12 (upd (ar 12) 0 0)) 13 (upd (ar 13) 0 1)) 14 (upd (ar 14) 0 0)) 15 (upd (ar 15) 0 0)) 1 jj_25) 1 (upd jj_25 ((nI i)).toNatClampNeg (uu_22.1 ((nI i)).toNatClampNeg))) bk) rfl (fun H locs hw => ?_)
              refine lv_iinc (v := (nI (i + 1))) (lv' := [(2, .int (nI (i + 1))), (0, .ref (ad 0)), (1, .int lv)]) hx hb dX12_pack_228 hl (k := 0) rfl ((nI_succ i).symm) (by decide) rfl (fun ls hl => ?_)
              refine lv_goto (tgt := 208) hx hb dX12_pack_231 (by decide) ?_
              exact ih (i + 1) (upd jj_25 ((nI i)).toNatClampNeg (uu_22.1 ((nI i)).toNatClampNeg)) ls _ _ (by omega)  hw (lv_sub hl [0, 1, 2] rfl)
          exact loop_26 (1 - 0) 0 (ar 1) ls _ _ (by omega)  hw (lv_sub hl [0, 1, 2] rfl)
      · refine lv_aload_n hx hb dX12_pack_46 rfl (lv_at hl 0 rfl) ?_
        refine hk_Vv (As := []) (rest := []) ⟨hx, hb, hml, hown, hts⟩ hw hA (cn_packPlain l D cI cJ ad gq_9 mf_l (va_up ar 16 uu_7) bk _ hgq_9_42 hgq_9_9 hgq_9_12) (cwV 0 hts gw_cm_pack_4 rfl rfl rfl (by decide +kernel) ⟨Nat.le_of_ble_eq_true rfl, Nat.le_of_ble_eq_true rfl⟩) 0 (ci := 15) (T := TX12) (N := 92) rfl rfl rfl hl.1 rfl (Nat.le_of_ble_eq_true rfl) dX12_pack_47 ⟨Nat.le_of_ble_eq_true rfl, Nat.le_of_ble_eq_true rfl⟩ (fun uu_30 H locs hp_31 hw => ?_)
        have hw : hk_W D [(cI, .int), (cJ, .long)] _ s _ _ (mw cI cJ ad (upd (upd (upd (upd (upd (upd (upd (upd (upd (upd (upd (upd (upd (upd (upd (upd gq_9 42 18) 17 0) 19 0) 29 (gq_9 2)) 30 (gq_9 3)) 31 (gq_9 4)) 23 0) 24 1) 25 1) 26 1) 27 1) 28 0) 32 5) 33 0) 34 1) 35 0) (vp_updL (vp_updL mf_l 2 0) 3 4294967295) (va_up (va_up (va_up (va_up (va_up ar 16 uu_7) 22 uu_30.1) 16 uu_30.2.1) 18 uu_30.2.2.1) 19 uu_30.2.2.2) bk) := hw
        refine lv_goto (tgt := 157) hx hb dX12_pack_50 (by decide) ?_
        refine lv_aload_n hx hb dX12_pack_157 rfl (lv_at hl 0 rfl) ?_
        refine lv_aload_n hx hb dX12_pack_158 rfl (lv_at hl 0 rfl) ?_
        refine hk_get (ci := 15) (C := RX12) (T := TX12) (N := 92) (v := .int 0) hx hb hts iX12 hown hw 0 rfl rfl 43 (by decide) (hts _ (List.mem_of_getElem? (i := 18) rfl)) rfl dX12_pack_159 ?_
        refine hk_put (ci := 15) (C := RX12) (T := TX12) (N := 92) (ty := .int) (v := .int 0) hx hb hts iX12 tyX12 tyX12_ok nmX12 hown hw 0 rfl rfl 39 (by decide) (hts _ (List.mem_of_getElem? (i := 67) rfl)) rfl (by decide +kernel) rfl rfl (Nat.le_of_ble_eq_true rfl) dX12_pack_162 (ws' := mw cI cJ ad (upd (upd (upd (upd (upd (upd (upd (upd (upd (upd (upd (upd (upd (upd (upd (upd (upd gq_9 42 18) 17 0) 19 0) 29 (gq_9 2)) 30 (gq_9 3)) 31 (gq_9 4)) 23 0) 24 1) 25 1) 26 1) 27 1) 28 0) 32 5) 33 0) 34 1) 35 0) 21 0) (vp_updL (vp_updL mf_l 2 0) 3 4294967295) (va_up (va_up (va_up (va_up (va_up ar 16 uu_7) 22 uu_30.1) 16 uu_30.2.1) 18 uu_30.2.2.1) 19 uu_30.2.2.2) bk) rfl (fun H locs hw => ?_)
        refine lv_aload_n hx hb dX12_pack_165 rfl (lv_at hl 0 rfl) ?_
        refine lv_iconst (v := 0) hx hb dX12_pack_166 (by decide) ?_
        refine hk_put (ci := 15) (C := RX12) (T := TX12) (N := 92) (ty := .int) (v := .int 0) hx hb hts iX12 tyX12 tyX12_ok nmX12 hown hw 0 rfl rfl 13 (by decide) (hts _ (List.mem_of_getElem? (i := 61) rfl)) rfl (by decide +kernel) rfl rfl (Nat.le_of_ble_eq_true rfl) dX12_pack_167 (ws' := mw cI cJ ad (upd (upd (upd (upd (upd (upd (upd (upd (upd (upd (upd (upd (upd (upd (upd (upd (upd (upd gq_9 42 18) 17 0) 19 0) 29 (gq_9 2)) 30 (gq_9 3)) 31 (gq_9 4)) 23 0) 24 1) 25 1) 26 1) 27 1) 28 0) 32 5) 33 0) 34 1) 35 0) 21 0) 12 0) (vp_updL (vp_updL mf_l 2 0) 3 4294967295) (va_up (va_up (va_up (va_up (va_up ar 16 uu_7) 22 uu_30.1) 16 uu_30.2.1) 18 uu_30.2.2.1) 19 uu_30.2.2.2) bk) rfl (fun H locs hw => ?_)
        refine lv_aload_n hx hb dX12_pack_170 rfl (lv_at hl 0 rfl) ?_
        refine hk_get (ci := 15) (C := RX12) (T := TX12) (N := 92) (v := .int 18) hx hb hts iX12 hown hw 0 rfl rfl 69 (by decide) (hts _ (List.mem_of_getElem? (i := 13) rfl)) rfl dX12_pack_171 ?_
        refine lv_sipush (v := 3000) hx hb dX12_pack_174 (by decide) ?_
        refine lv_icmp_le (tgt := 198) hx hb dX12_pack_177 (by decide) (fun _ => ?_) (fun cc_32 => absurd (by decide) cc_32)
        refine lv_aload_n hx hb dX12_pack_198 rfl (lv_at hl 0 rfl) ?_
        refine lv_aload_n hx hb dX12_pack_199 rfl (lv_at hl 0 rfl) ?_
        refine hk_get (ci := 15) (C := RX12) (T := TX12) (N := 92) (v := .int 18) hx hb hts iX12 hown hw 0 rfl rfl 69 (by decide) (hts _ (List.mem_of_getElem? (i := 13) rfl)) rfl dX12_pack_200 ?_
        refine hk_put (ci := 15) (C := RX12) (T := TX12) (N := 92) (ty := .int) (v := .int 18) hx hb hts iX12 tyX12 tyX12_ok nmX12 hown hw 0 rfl rfl 15 (by decide) (hts _ (List.mem_of_getElem? (i := 12) rfl)) rfl (by decide +kernel) rfl rfl (Nat.le_of_ble_eq_true rfl) dX12_pack_203 (ws' := mw cI cJ ad (upd (upd (upd (upd (upd (upd (upd (upd (upd (upd (upd (upd (upd (upd (upd (upd (upd (upd (upd gq_9 42 18) 17 0) 19 0) 29 (gq_9 2)) 30 (gq_9 3)) 31 (gq_9 4)) 23 0) 24 1) 25 1) 26 1) 27 1) 28 0) 32 5) 33 0) 34 1) 35 0) 21 0) 12 0) 13 18) (vp_updL (vp_updL mf_l 2 0) 3 4294967295) (va_up (va_up (va_up (va_up (va_up ar 16 uu_7) 22 uu_30.1) 16 uu_30.2.1) 18 uu_30.2.2.1) 19 uu_30.2.2.2) bk) rfl (fun H locs hw => ?_)
        refine lv_iconst (v := 0) hx hb dX12_pack_206 (by decide) ?_
        refine lv_istore_n (lv' := [(2, .int 0), (0, .ref (ad 0)), (1, .int lv)]) hx hb dX12_pack_207 rfl hl (by decide) rfl (fun ls hl => ?_)
        have loop_34 : ∀ (ki i : Nat) (jj_33 : Nat → Int32) (ls : Array Slot) (H : Heap) (locs : List Loc), i + ki = 18 → hk_W D [(cI, .int), (cJ, .long)] (va_A (mw cI cJ ad (mf_g fm) mf_l ar bk) sz) s H locs (mw cI cJ ad (upd (upd (upd (upd (upd (upd (upd (upd (upd (upd (upd (upd (upd (upd (upd (upd (upd (upd (upd gq_9 42 18) 17 0) 19 0) 29 (gq_9 2)) 30 (gq_9 3)) 31 (gq_9 4)) 23 0) 24 1) 25 1) 26 1) 27 1) 28 0) 32 5) 33 0) 34 1) 35 0) 21 0) 12 0) 13 18) (vp_updL (vp_updL mf_l 2 0) 3 4294967295) (va_up (va_up (va_up (va_up (va_up (va_up ar 16 uu_7) 22 uu_30.1) 16 uu_30.2.1) 18 uu_30.2.2.1) 19 uu_30.2.2.2) 1 jj_33) bk) → lv_has ls 3 [(2, .int (nI i)), (0, .ref (ad 0)), (1, .int lv)] → W p l e { frames := 3, cells := 0, slots := 0, locals := 70 } s m (List.toArray [.ref (ad 0), .int lv]) below meth c H locs 0 0 (MQ below (va_Qi (fun (r : Int32) (u : (Nat → Int32) × (Nat → Int64) × (Nat → Nat → Int32) × (Nat → Int64)) => (r.toInt = -1 ∧ ¬ (0 ≤ lv.toInt ∧ lv.toInt ≤ 2)) ∨ ((0 ≤ lv.toInt ∧ lv.toInt ≤ 2) ∧ (r.toInt = 18 ∧ fm.toInt = 0 ∨ r.toInt = 1 ∧ fm.toInt = 1 ∨ r.toInt = 32 ∧ fm.toInt ≠ 0 ∧ fm.toInt ≠ 1))) (fun u : (Nat → Int32) × (Nat → Int64) × (Nat → Nat → Int32) × (Nat → Int64) => hk_E D [(cI, .int), (cJ, .long)] (va_A (mw cI cJ ad (mf_g fm) mf_l ar bk) sz) (mw cI cJ ad u.1 u.2.1 u.2.2.1 u.2.2.2)) (va_A (mw cI cJ ad (mf_g fm) mf_l ar bk) sz)) (List.toArray [.ref (ad 0), .int lv]) s 0 0 (va_A (mw cI cJ ad (mf_g fm) mf_l ar bk) sz)) (F0 m 208 ls []) := by
          intro ki
          induction ki with
          | zero =>
            intro i jj_33 ls H locs hik  hw hl
            refine lv_iload_n hx hb dX12_pack_208 rfl (lv_at hl 0 rfl) ?_
            refine lv_aload_n hx hb dX12_pack_209 rfl (lv_at hl 1 rfl) ?_
            refine hk_get (ci := 15) (C := RX12) (T := TX12) (N := 92) (v := .int 18) hx hb hts iX12 hown hw 0 rfl rfl 69 (by decide) (hts _ (List.mem_of_getElem? (i := 13) rfl)) rfl dX12_pack_210 ?_
            refine lv_icmp_ge (tgt := 234) hx hb dX12_pack_213 (by decide) (fun _ => ?_) (fun cc_35 => absurd (hk_le (a := 18) (b := i) (by omega) (by omega)) cc_35)
            refine lv_aload_n hx hb dX12_pack_234 rfl (lv_at hl 1 rfl) ?_
            refine hk_get (ci := 15) (C := RX12) (T := TX12) (N := 92) (v := .int 18) hx hb hts iX12 hown hw 0 rfl rfl 15 (by decide) (hts _ (List.mem_of_getElem? (i := 12) rfl)) rfl dX12_pack_235 ?_
            exact hk_iret (u := ((upd (upd (upd (upd (upd (upd (upd (upd (upd (upd (upd (upd (upd (upd (upd (upd (upd (upd (upd gq_9 42 18) 17 0) 19 0) 29 (gq_9 2)) 30 (gq_9 3)) 31 (gq_9 4)) 23 0) 24 1) 25 1) 26 1) 27 1) 28 0) 32 5) 33 0) 34 1) 35 0) 21 0) 12 0) 13 18), (vp_updL (vp_updL mf_l 2 0) 3 4294967295), (va_up (va_up (va_up (va_up (va_up (va_up ar 16 uu_7) 22 uu_30.1) 16 uu_30.2.1) 18 uu_30.2.2.1) 19 uu_30.2.2.2) 1 jj_33), bk)) hx hb hr hlocks (hw) (by simp only [Int32.lt_iff_toInt_lt, Int32.le_iff_toInt_le, ← Int32.toInt_inj, hk_t0, hk_t1, hk_t2, hk_t3, hk_t4, hk_t5, hk_t6, hk_t7, hk_t8, hk_t9, hk_t10, hk_t11, hk_t12, hk_t13, hk_t14, hk_t15, hk_t16, hk_t17, hk_t18, hk_t20, hk_t32, hk_tm1, hk_t256, hk_t1500, hk_t4096, hk_t2000, hk_t3000, hk_t512, hk_t1024, true_and, and_true, false_and, and_false, true_or, or_true, false_or, or_false, not_true_eq_false, not_false_eq_true] at cc_1 cc_2 cc_10 ⊢; omega) dX12_pack_238
          | succ ki ih =>
            intro i jj_33 ls H locs hik  hw hl
            refine lv_iload_n hx hb dX12_pack_208 rfl (lv_at hl 0 rfl) ?_
            refine lv_aload_n hx hb dX12_pack_209 rfl (lv_at hl 1 rfl) ?_
            refine hk_get (ci := 15) (C := RX12) (T := TX12) (N := 92) (v := .int 18) hx hb hts iX12 hown hw 0 rfl rfl 69 (by decide) (hts _ (List.mem_of_getElem? (i := 13) rfl)) rfl dX12_pack_210 ?_
            refine lv_icmp_ge (tgt := 234) hx hb dX12_pack_213 (by decide) (fun cc_36 => absurd cc_36 (hk_nle (a := i) (b := 18) (by omega) (by omega))) (fun _ => ?_)
            refine lv_aload_n hx hb dX12_pack_216 rfl (lv_at hl 1 rfl) ?_
            refine hk_get (ci := 15) (C := RX12) (T := TX12) (N := 92) (v := .ref (ad 2)) hx hb hts iX12 hown hw 0 rfl rfl 14 (by decide) (hts _ (List.mem_of_getElem? (i := 68) rfl)) rfl dX12_pack_217 ?_
            refine lv_iload_n hx hb dX12_pack_220 rfl (lv_at hl 0 rfl) ?_
            refine lv_aload_n hx hb dX12_pack_221 rfl (lv_at hl 1 rfl) ?_
            refine hk_get (ci := 15) (C := RX12) (T := TX12) (N := 92) (v := .ref (ad 23)) hx hb hts iX12 hown hw 0 rfl rfl 68 (by decide) (hts _ (List.mem_of_getElem? (i := 37) rfl)) rfl dX12_pack_222 ?_
            refine lv_iload_n hx hb dX12_pack_225 rfl (lv_at hl 0 rfl) ?_
            refine hk_iald (v := (uu_30.1 ((nI i)).toNatClampNeg)) hx hb hw 23 0 rfl rfl (vp_in_nI (by omega) (by omega)) dX12_pack_226 rfl ?_
            refine hk_iast hx hb hw 2 0 rfl rfl (vp_in_nI (by omega) (by omega)) dX12_pack_227 (ws' := mw cI cJ ad (upd (upd (upd (upd (upd (upd (upd (upd (upd (upd (upd (upd (upd (upd (upd (upd (upd (upd (upd gq_9 42 18) 17 0) 19 0) 29 (gq_9 2)) 30 (gq_9 3)) 31 (gq_9 4)) 23 0) 24 1) 25 1) 26 1) 27 1) 28 0) 32 5) 33 0) 34 1) 35 0) 21 0) 12 0) 13 18) (vp_updL (vp_updL mf_l 2 0) 3 4294967295) (va_up (va_up (va_up (va_up (va_up (va_up (va_up ar 16 uu_7) 22 uu_30.1) 16 uu_30.2.1) 18 uu_30.2.2.1) 19 uu_30.2.2.2) 1 jj_33) 1 (upd jj_33 ((nI i)).toNatClampNeg (uu_30.1 ((nI i)).toNatClampNeg))) bk) rfl (fun H locs hw => ?_)
            refine lv_iinc (v := (nI (i + 1))) (lv' := [(2, .int (nI (i + 1))), (0, .ref (ad 0)), (1, .int lv)]) hx hb dX12_pack_228 hl (k := 0) rfl ((nI_succ i).symm) (by decide) rfl (fun ls hl => ?_)
            refine lv_goto (tgt := 208) hx hb dX12_pack_231 (by decide) ?_
            exact ih (i + 1) (upd jj_33 ((nI i)).toNatClampNeg (uu_30.1 ((nI i)).toNatClampNeg)) ls _ _ (by omega)  hw (lv_sub hl [0, 1, 2] rfl)
        exact loop_34 (18 - 0) 0 (ar 1) ls _ _ (by omega)  hw (lv_sub hl [0, 1, 2] rfl)
    · refine lv_iconst (v := (-1)) hx hb dX12_pack_14 (by decide) ?_
      exact hk_iret (u := ((upd (mf_g fm) 1 0), mf_l, ar, bk)) hx hb hr hlocks (hw) (by simp only [Int32.lt_iff_toInt_lt, Int32.le_iff_toInt_le, ← Int32.toInt_inj, hk_t0, hk_t1, hk_t2, hk_t3, hk_t4, hk_t5, hk_t6, hk_t7, hk_t8, hk_t9, hk_t10, hk_t11, hk_t12, hk_t13, hk_t14, hk_t15, hk_t16, hk_t17, hk_t18, hk_t20, hk_t32, hk_tm1, hk_t256, hk_t1500, hk_t4096, hk_t2000, hk_t3000, hk_t512, hk_t1024, true_and, and_true, false_and, and_false, true_or, or_true, false_or, or_false, not_true_eq_false, not_false_eq_true] at cc_1 cc_2 ⊢; omega) dX12_pack_15
