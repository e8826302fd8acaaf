def ww_cn_fresh : List Cond := Cond.code yX12_freshState cX12_freshState 2 none :: ([Cond.fieldLink RX12 231 "LzmaChainsModel" "st" "I", Cond.fieldLink RX12 234 "LzmaChainsModel" "back0" "I", Cond.fieldLink RX12 237 "LzmaChainsModel" "back1" "I", Cond.fieldLink RX12 240 "LzmaChainsModel" "back2" "I", Cond.fieldLink RX12 243 "LzmaChainsModel" "back3" "I", Cond.fieldLink RX12 80 "LzmaChainsModel" "chance" "[I"] ++ (wsX120 ++ ([])))
set_option maxHeartbeats 4000000 in
set_option maxRecDepth 100000 in
/-- the reference: freshState -/
theorem cn_fresh (l : Launch) (D : va_G) (cI cJ : ClassId) (ad : Nat → Nat) (g : Nat → Int32) (lg : Nat → Int64) (ar : Nat → Nat → Int32) (bk : Nat → Int64) (sz : Nat)  : Met l yX12_freshState ww_cn_fresh { frames := 0, cells := 0, slots := 0, locals := 0 } (va_Pc [.ref (ad 0)] (hk_B D [(cI, .int), (cJ, .long)] sz (mw cI cJ ad g lg ar bk))) (va_Qv (fun u : (Nat → Int32) => True) (fun u : (Nat → Int32) => hk_E D [(cI, .int), (cJ, .long)] (va_A (mw cI cJ ad g lg ar bk) sz) (mw cI cJ ad (upd (upd (upd (upd (upd g 23 0) 24 1) 25 1) 26 1) 27 1) lg (va_up ar 16 u) bk)) (va_A (mw cI cJ ad g lg ar bk) sz)) 0 0 (va_A (mw cI cJ ad g lg ar bk) sz) := by
  refine hk_met (cc := cX12_freshState) (maxL := 2) (ret := none) (by decide) rfl (Nat.le_of_ble_eq_true rfl) ?_
  intro p e s m below meth c ls hx hb hr hml hown hts hlocks hin hA hw hl
  have iX12 : ∀ w ∈ wsX120, w ∈ ww_cn_fresh := fun _ h => List.mem_cons_of_mem _ (List.mem_append_right _ (List.mem_append_left _ h))
  have hl : lv_has ls 2 [(0, .ref (ad 0))] := hl
  refine lv_iconst (v := 0) hx hb dX12_freshState_0 (by decide) ?_
  refine lv_istore_n (lv' := [(1, .int 0), (0, .ref (ad 0))]) hx hb dX12_freshState_1 rfl hl (by decide) rfl (fun ls hl => ?_)
  have loop_2 : ∀ (ki i : Nat) (jj_1 : Nat → Int32) (ls : Array Slot) (H : Heap) (locs : List Loc), i + ki = 14344 → hk_W D [(cI, .int), (cJ, .long)] (va_A (mw cI cJ ad g lg ar bk) sz) s H locs (mw cI cJ ad g lg (va_up ar 16 jj_1) bk) → lv_has ls 2 [(1, .int (nI i)), (0, .ref (ad 0))] → W p l e { frames := 0, cells := 0, slots := 0, locals := 0 } s m (List.toArray [.ref (ad 0)]) below meth c H locs 0 0 (MQ below (va_Qv (fun u : (Nat → Int32) => True) (fun u : (Nat → Int32) => hk_E D [(cI, .int), (cJ, .long)] (va_A (mw cI cJ ad g lg ar bk) sz) (mw cI cJ ad (upd (upd (upd (upd (upd g 23 0) 24 1) 25 1) 26 1) 27 1) lg (va_up ar 16 u) bk)) (va_A (mw cI cJ ad g lg ar bk) sz)) (List.toArray [.ref (ad 0)]) s 0 0 (va_A (mw cI cJ ad g lg ar bk) sz)) (F0 m 2 ls []) := by
    intro ki
    induction ki with
    | zero =>
      intro i jj_1 ls H locs hik  hw hl
      refine lv_iload_n hx hb dX12_freshState_2 rfl (lv_at hl 0 rfl) ?_
      refine lv_sipush (v := 14344) hx hb dX12_freshState_3 (by decide) ?_
      refine lv_icmp_ge (tgt := 24) hx hb dX12_freshState_6 (by decide) (fun _ => ?_) (fun cc_3 => absurd (hk_le (a := 14344) (b := i) (by omega) (by omega)) cc_3)
      refine lv_aload_n hx hb dX12_freshState_24 rfl (lv_at hl 1 rfl) ?_
      refine lv_iconst (v := 0) hx hb dX12_freshState_25 (by decide) ?_
      refine hk_put (ci := 15) (C := RX12) (T := TX12) (N := 92) (ty := .int) (v := .int 0) hx hb hts iX12 tyX12 tyX12_ok nmX12 hown hw 0 rfl rfl 43 (by decide) (hts _ (List.mem_of_getElem? (i := 1) rfl)) rfl (by decide +kernel) rfl rfl (Nat.le_of_ble_eq_true rfl) dX12_freshState_26 (ws' := mw cI cJ ad (upd g 23 0) lg (va_up ar 16 jj_1) bk) rfl (fun H locs hw => ?_)
      refine lv_aload_n hx hb dX12_freshState_29 rfl (lv_at hl 1 rfl) ?_
      refine lv_iconst (v := 1) hx hb dX12_freshState_30 (by decide) ?_
      refine hk_put (ci := 15) (C := RX12) (T := TX12) (N := 92) (ty := .int) (v := .int 1) hx hb hts iX12 tyX12 tyX12_ok nmX12 hown hw 0 rfl rfl 44 (by decide) (hts _ (List.mem_of_getElem? (i := 2) rfl)) rfl (by decide +kernel) rfl rfl (Nat.le_of_ble_eq_true rfl) dX12_freshState_31 (ws' := mw cI cJ ad (upd (upd g 23 0) 24 1) lg (va_up ar 16 jj_1) bk) rfl (fun H locs hw => ?_)
      refine lv_aload_n hx hb dX12_freshState_34 rfl (lv_at hl 1 rfl) ?_
      refine lv_iconst (v := 1) hx hb dX12_freshState_35 (by decide) ?_
      refine hk_put (ci := 15) (C := RX12) (T := TX12) (N := 92) (ty := .int) (v := .int 1) hx hb hts iX12 tyX12 tyX12_ok nmX12 hown hw 0 rfl rfl 45 (by decide) (hts _ (List.mem_of_getElem? (i := 3) rfl)) rfl (by decide +kernel) rfl rfl (Nat.le_of_ble_eq_true rfl) dX12_freshState_36 (ws' := mw cI cJ ad (upd (upd (upd g 23 0) 24 1) 25 1) lg (va_up ar 16 jj_1) bk) rfl (fun H locs hw => ?_)
      refine lv_aload_n hx hb dX12_freshState_39 rfl (lv_at hl 1 rfl) ?_
      refine lv_iconst (v := 1) hx hb dX12_freshState_40 (by decide) ?_
      refine hk_put (ci := 15) (C := RX12) (T := TX12) (N := 92) (ty := .int) (v := .int 1) hx hb hts iX12 tyX12 tyX12_ok nmX12 hown hw 0 rfl rfl 46 (by decide) (hts _ (List.mem_of_getElem? (i := 4) rfl)) rfl (by decide +kernel) rfl rfl (Nat.le_of_ble_eq_true rfl) dX12_freshState_41 (ws' := mw cI cJ ad (upd (upd (upd (upd g 23 0) 24 1) 25 1) 26 1) lg (va_up ar 16 jj_1) bk) rfl (fun H locs hw => ?_)
      refine lv_aload_n hx hb dX12_freshState_44 rfl (lv_at hl 1 rfl) ?_
      refine lv_iconst (v := 1) hx hb dX12_freshState_45 (by decide) ?_
      refine hk_put (ci := 15) (C := RX12) (T := TX12) (N := 92) (ty := .int) (v := .int 1) hx hb hts iX12 tyX12 tyX12_ok nmX12 hown hw 0 rfl rfl 47 (by decide) (hts _ (List.mem_of_getElem? (i := 5) rfl)) rfl (by decide +kernel) rfl rfl (Nat.le_of_ble_eq_true rfl) dX12_freshState_46 (ws' := mw cI cJ ad (upd (upd (upd (upd (upd g 23 0) 24 1) 25 1) 26 1) 27 1) lg (va_up ar 16 jj_1) bk) rfl (fun H locs hw => ?_)
      exact hk_vret (u := jj_1) hx hb hr hlocks (hw) (trivial) dX12_freshState_49
    | succ ki ih =>
      intro i jj_1 ls H locs hik  hw hl
      refine lv_iload_n hx hb dX12_freshState_2 rfl (lv_at hl 0 rfl) ?_
      refine lv_sipush (v := 14344) hx hb dX12_freshState_3 (by decide) ?_
      refine lv_icmp_ge (tgt := 24) hx hb dX12_freshState_6 (by decide) (fun cc_4 => absurd cc_4 (hk_nle (a := i) (b := 14344) (by omega) (by omega))) (fun _ => ?_)
      refine lv_aload_n hx hb dX12_freshState_9 rfl (lv_at hl 1 rfl) ?_
      refine hk_get (ci := 15) (C := RX12) (T := TX12) (N := 92) (v := .ref (ad 17)) hx hb hts iX12 hown hw 0 rfl rfl 41 (by decide) (hts _ (List.mem_of_getElem? (i := 6) rfl)) rfl dX12_freshState_10 ?_
      refine lv_iload_n hx hb dX12_freshState_13 rfl (lv_at hl 0 rfl) ?_
      refine lv_sipush (v := 1024) hx hb dX12_freshState_14 (by decide) ?_
      refine hk_iast hx hb hw 17 0 rfl rfl (vp_in_nI (by omega) (by omega)) dX12_freshState_17 (ws' := mw cI cJ ad g lg (va_up ar 16 (upd jj_1 ((nI i)).toNatClampNeg 1024)) bk) rfl (fun H locs hw => ?_)
      refine lv_iinc (v := (nI (i + 1))) (lv' := [(1, .int (nI (i + 1))), (0, .ref (ad 0))]) hx hb dX12_freshState_18 hl (k := 0) rfl ((nI_succ i).symm) (by decide) rfl (fun ls hl => ?_)
      refine lv_goto (tgt := 2) hx hb dX12_freshState_21 (by decide) ?_
      exact ih (i + 1) (upd jj_1 ((nI i)).toNatClampNeg 1024) ls _ _ (by omega)  hw (lv_sub hl [0, 1] rfl)
  exact loop_2 (14344 - 0) 0 (ar 16) ls _ _ (by omega)  hw (lv_sub hl [0, 1] rfl)

def ww_cn_clear : List Cond := Cond.code yX12_clearTold cX12_clearTold 1 none :: ([Cond.fieldLink RX12 222 "LzmaChainsModel" "steps" "I", Cond.fieldLink RX12 228 "LzmaChainsModel" "blocks" "I", Cond.fieldLink RX12 372 "LzmaChainsModel" "stepBase" "I", Cond.fieldLink RX12 129 "LzmaChainsModel" "outSize" "I"] ++ (wsX120 ++ ([])))
set_option maxHeartbeats 4000000 in
set_option maxRecDepth 100000 in
/-- the reference: clearTold -/
theorem cn_clear (l : Launch) (D : va_G) (cI cJ : ClassId) (ad : Nat → Nat) (g : Nat → Int32) (lg : Nat → Int64) (ar : Nat → Nat → Int32) (bk : Nat → Int64) (sz : Nat)  : Met l yX12_clearTold ww_cn_clear { frames := 0, cells := 0, slots := 0, locals := 0 } (va_Pc [.ref (ad 0)] (hk_B D [(cI, .int), (cJ, .long)] sz (mw cI cJ ad g lg ar bk))) (va_Qv (fun u : Unit => True) (fun u : Unit => hk_E D [(cI, .int), (cJ, .long)] (va_A (mw cI cJ ad g lg ar bk) sz) (mw cI cJ ad (upd (upd (upd (upd g 18 0) 20 0) 19 0) 13 0) lg ar bk)) (va_A (mw cI cJ ad g lg ar bk) sz)) 0 0 (va_A (mw cI cJ ad g lg ar bk) sz) := by
  refine hk_met (cc := cX12_clearTold) (maxL := 1) (ret := none) (by decide) rfl (Nat.le_of_ble_eq_true rfl) ?_
  intro p e s m below meth c ls hx hb hr hml hown hts hlocks hin hA hw hl
  have iX12 : ∀ w ∈ wsX120, w ∈ ww_cn_clear := fun _ h => List.mem_cons_of_mem _ (List.mem_append_right _ (List.mem_append_left _ h))
  have hl : lv_has ls 1 [(0, .ref (ad 0))] := hl
  refine lv_aload_n hx hb dX12_clearTold_0 rfl (lv_at hl 0 rfl) ?_
  refine lv_iconst (v := 0) hx hb dX12_clearTold_1 (by decide) ?_
  refine hk_put (ci := 15) (C := RX12) (T := TX12) (N := 92) (ty := .int) (v := .int 0) hx hb hts iX12 tyX12 tyX12_ok nmX12 hown hw 0 rfl rfl 27 (by decide) (hts _ (List.mem_of_getElem? (i := 1) rfl)) rfl (by decide +kernel) rfl rfl (Nat.le_of_ble_eq_true rfl) dX12_clearTold_2 (ws' := mw cI cJ ad (upd g 18 0) lg ar bk) rfl (fun H locs hw => ?_)
  refine lv_aload_n hx hb dX12_clearTold_5 rfl (lv_at hl 0 rfl) ?_
  refine lv_iconst (v := 0) hx hb dX12_clearTold_6 (by decide) ?_
  refine hk_put (ci := 15) (C := RX12) (T := TX12) (N := 92) (ty := .int) (v := .int 0) hx hb hts iX12 tyX12 tyX12_ok nmX12 hown hw 0 rfl rfl 33 (by decide) (hts _ (List.mem_of_getElem? (i := 2) rfl)) rfl (by decide +kernel) rfl rfl (Nat.le_of_ble_eq_true rfl) dX12_clearTold_7 (ws' := mw cI cJ ad (upd (upd g 18 0) 20 0) lg ar bk) rfl (fun H locs hw => ?_)
  refine lv_aload_n hx hb dX12_clearTold_10 rfl (lv_at hl 0 rfl) ?_
  refine lv_iconst (v := 0) hx hb dX12_clearTold_11 (by decide) ?_
  refine hk_put (ci := 15) (C := RX12) (T := TX12) (N := 92) (ty := .int) (v := .int 0) hx hb hts iX12 tyX12 tyX12_ok nmX12 hown hw 0 rfl rfl 32 (by decide) (hts _ (List.mem_of_getElem? (i := 3) rfl)) rfl (by decide +kernel) rfl rfl (Nat.le_of_ble_eq_true rfl) dX12_clearTold_12 (ws' := mw cI cJ ad (upd (upd (upd g 18 0) 20 0) 19 0) lg ar bk) rfl (fun H locs hw => ?_)
  refine lv_aload_n hx hb dX12_clearTold_15 rfl (lv_at hl 0 rfl) ?_
  refine lv_iconst (v := 0) hx hb dX12_clearTold_16 (by decide) ?_
  refine hk_put (ci := 15) (C := RX12) (T := TX12) (N := 92) (ty := .int) (v := .int 0) hx hb hts iX12 tyX12 tyX12_ok nmX12 hown hw 0 rfl rfl 15 (by decide) (hts _ (List.mem_of_getElem? (i := 4) rfl)) rfl (by decide +kernel) rfl rfl (Nat.le_of_ble_eq_true rfl) dX12_clearTold_17 (ws' := mw cI cJ ad (upd (upd (upd (upd g 18 0) 20 0) 19 0) 13 0) lg ar bk) rfl (fun H locs hw => ?_)
  exact hk_vret (u := ()) hx hb hr hlocks (hw) (trivial) dX12_clearTold_20

def ww_cn_propByte : List Cond := Cond.code yX12_propertyByte cX12_propertyByte 1 (some .int) :: ([Cond.fieldLink RX12 13 "LzmaChainsModel" "pb" "I", Cond.fieldLink RX12 114 "LzmaChainsModel" "lp" "I", Cond.fieldLink RX12 7 "LzmaChainsModel" "lc" "I"] ++ (wsX120 ++ ([])))
set_option maxHeartbeats 4000000 in
set_option maxRecDepth 100000 in
/-- the reference: propertyByte -/
theorem cn_propByte (l : Launch) (D : va_G) (cI cJ : ClassId) (ad : Nat → Nat) (g : Nat → Int32) (lg : Nat → Int64) (ar : Nat → Nat → Int32) (bk : Nat → Int64) (sz : Nat)  : Met l yX12_propertyByte ww_cn_propByte { frames := 0, cells := 0, slots := 0, locals := 0 } (va_Pc [.ref (ad 0)] (hk_B D [(cI, .int), (cJ, .long)] sz (mw cI cJ ad g lg ar bk))) (va_Qi (fun (r : Int32) (u : Unit) => True) (fun u : Unit => hk_E D [(cI, .int), (cJ, .long)] (va_A (mw cI cJ ad g lg ar bk) sz) (mw cI cJ ad g lg ar bk)) (va_A (mw cI cJ ad g lg ar bk) sz)) 0 0 (va_A (mw cI cJ ad g lg ar bk) sz) := by
  refine hk_met (cc := cX12_propertyByte) (maxL := 1) (ret := (some .int)) (by decide) rfl (Nat.le_of_ble_eq_true rfl) ?_
  intro p e s m below meth c ls hx hb hr hml hown hts hlocks hin hA hw hl
  have iX12 : ∀ w ∈ wsX120, w ∈ ww_cn_propByte := fun _ h => List.mem_cons_of_mem _ (List.mem_append_right _ (List.mem_append_left _ h))
  have hl : lv_has ls 1 [(0, .ref (ad 0))] := hl
  refine lv_aload_n hx hb dX12_propertyByte_0 rfl (lv_at hl 0 rfl) ?_
  refine hk_get (ci := 15) (C := RX12) (T := TX12) (N := 92) (v := .int (g 4)) hx hb hts iX12 hown hw 0 rfl rfl 4 (by decide) (hts _ (List.mem_of_getElem? (i := 1) rfl)) rfl dX12_propertyByte_1 ?_
  refine lv_iconst (v := 5) hx hb dX12_propertyByte_4 (by decide) ?_
  refine lv_imul hx hb dX12_propertyByte_5 ?_
  refine lv_aload_n hx hb dX12_propertyByte_6 rfl (lv_at hl 0 rfl) ?_
  refine hk_get (ci := 15) (C := RX12) (T := TX12) (N := 92) (v := .int (g 3)) hx hb hts iX12 hown hw 0 rfl rfl 3 (by decide) (hts _ (List.mem_of_getElem? (i := 2) rfl)) rfl dX12_propertyByte_7 ?_
  refine lv_iadd hx hb dX12_propertyByte_10 ?_
  refine lv_bipush (v := 9) hx hb dX12_propertyByte_11 (by decide) ?_
  refine lv_imul hx hb dX12_propertyByte_13 ?_
  refine lv_aload_n hx hb dX12_propertyByte_14 rfl (lv_at hl 0 rfl) ?_
  refine hk_get (ci := 15) (C := RX12) (T := TX12) (N := 92) (v := .int (g 2)) hx hb hts iX12 hown hw 0 rfl rfl 2 (by decide) (hts _ (List.mem_of_getElem? (i := 3) rfl)) rfl dX12_propertyByte_15 ?_
  refine lv_iadd hx hb dX12_propertyByte_18 ?_
  exact hk_iret (u := ()) hx hb hr hlocks (hw) (trivial) dX12_propertyByte_19

def ww_cn_put0 : List Cond := Cond.code yX12_put cX12_put 2 none :: ([Cond.fieldLink RX12 391 "LzmaChainsModel" "rowSize" "I", Cond.fieldLink RX12 98 "LzmaChainsModel" "row" "[I"] ++ (wsX120 ++ ([])))
set_option maxHeartbeats 4000000 in
set_option maxRecDepth 100000 in
/-- the reference: put, it has 0 -/
theorem cn_put0 (l : Launch) (D : va_G) (cI cJ : ClassId) (ad : Nat → Nat) (g : Nat → Int32) (lg : Nat → Int64) (ar : Nat → Nat → Int32) (bk : Nat → Int64) (sz : Nat) (b : Int32) (h42 : g 42 = 0) : Met l yX12_put ww_cn_put0 { frames := 0, cells := 0, slots := 0, locals := 0 } (va_Pc [.ref (ad 0), .int b] (hk_B D [(cI, .int), (cJ, .long)] sz (mw cI cJ ad g lg ar bk))) (va_Qv (fun u : (Nat → Int32) => True) (fun u : (Nat → Int32) => hk_E D [(cI, .int), (cJ, .long)] (va_A (mw cI cJ ad g lg ar bk) sz) (mw cI cJ ad (upd g 42 1) lg (va_up ar 22 u) bk)) (va_A (mw cI cJ ad g lg ar bk) sz)) 0 0 (va_A (mw cI cJ ad g lg ar bk) sz) := by
  refine hk_met (cc := cX12_put) (maxL := 2) (ret := none) (by decide) rfl (Nat.le_of_ble_eq_true rfl) ?_
  intro p e s m below meth c ls hx hb hr hml hown hts hlocks hin hA hw hl
  have iX12 : ∀ w ∈ wsX120, w ∈ ww_cn_put0 := fun _ h => List.mem_cons_of_mem _ (List.mem_append_right _ (List.mem_append_left _ h))
  have hl : lv_has ls 2 [(0, .ref (ad 0)), (1, .int b)] := hl
  refine lv_aload_n hx hb dX12_put_0 rfl (lv_at hl 0 rfl) ?_
  refine hk_get (ci := 15) (C := RX12) (T := TX12) (N := 92) (v := .int 0) hx hb hts iX12 hown hw 0 rfl rfl 69 (by decide) (hts _ (List.mem_of_getElem? (i := 1) rfl)) (congrArg (fun z => some (Value.int z)) h42) dX12_put_1 ?_
  refine lv_sipush (v := 20000) hx hb dX12_put_4 (by decide) ?_
  refine lv_icmp_ge (tgt := 24) hx hb dX12_put_7 (by decide) (fun cc_1 => absurd cc_1 (by decide)) (fun _ => ?_)
  refine lv_aload_n hx hb dX12_put_10 rfl (lv_at hl 0 rfl) ?_
  refine hk_get (ci := 15) (C := RX12) (T := TX12) (N := 92) (v := .ref (ad 23)) hx hb hts iX12 hown hw 0 rfl rfl 68 (by decide) (hts _ (List.mem_of_getElem? (i := 2) rfl)) rfl dX12_put_11 ?_
  refine lv_aload_n hx hb dX12_put_14 rfl (lv_at hl 0 rfl) ?_
  refine hk_get (ci := 15) (C := RX12) (T := TX12) (N := 92) (v := .int 0) hx hb hts iX12 hown hw 0 rfl rfl 69 (by decide) (hts _ (List.mem_of_getElem? (i := 1) rfl)) (congrArg (fun z => some (Value.int z)) h42) dX12_put_15 ?_
  refine lv_iload_n hx hb dX12_put_18 rfl (lv_at hl 1 rfl) ?_
  refine lv_sipush (v := 255) hx hb dX12_put_19 (by decide) ?_
  refine lv_iand hx hb dX12_put_22 ?_
  refine hk_iast hx hb hw 23 0 rfl rfl (show ¬ (_ ∨ _) by decide) dX12_put_23 (ws' := mw cI cJ ad g lg (va_up ar 22 (upd (ar 22) 0 (b &&& 255))) bk) rfl (fun H locs hw => ?_)
  refine lv_aload_n hx hb dX12_put_24 rfl (lv_at hl 0 rfl) ?_
  refine lv_dup hx hb dX12_put_25 rfl ?_
  refine hk_get (ci := 15) (C := RX12) (T := TX12) (N := 92) (v := .int 0) hx hb hts iX12 hown hw 0 rfl rfl 69 (by decide) (hts _ (List.mem_of_getElem? (i := 1) rfl)) (congrArg (fun z => some (Value.int z)) h42) dX12_put_26 ?_
  refine lv_iconst (v := 1) hx hb dX12_put_29 (by decide) ?_
  refine lv_iadd hx hb dX12_put_30 ?_
  refine hk_topi 1 (by decide +kernel) ?_
  refine hk_put (ci := 15) (C := RX12) (T := TX12) (N := 92) (ty := .int) (v := .int 1) hx hb hts iX12 tyX12 tyX12_ok nmX12 hown hw 0 rfl rfl 69 (by decide) (hts _ (List.mem_of_getElem? (i := 1) rfl)) rfl (by decide +kernel) rfl rfl (Nat.le_of_ble_eq_true rfl) dX12_put_31 (ws' := mw cI cJ ad (upd g 42 1) lg (va_up ar 22 (upd (ar 22) 0 (b &&& 255))) bk) rfl (fun H locs hw => ?_)
  exact hk_vret (u := (upd (ar 22) 0 (b &&& 255))) hx hb hr hlocks (hw) (trivial) dX12_put_34

def ww_cn_put1 : List Cond := Cond.code yX12_put cX12_put 2 none :: ([Cond.fieldLink RX12 391 "LzmaChainsModel" "rowSize" "I", Cond.fieldLink RX12 98 "LzmaChainsModel" "row" "[I"] ++ (wsX120 ++ ([])))
set_option maxHeartbeats 4000000 in
set_option maxRecDepth 100000 in
/-- the reference: put, it has 1 -/
theorem cn_put1 (l : Launch) (D : va_G) (cI cJ : ClassId) (ad : Nat → Nat) (g : Nat → Int32) (lg : Nat → Int64) (ar : Nat → Nat → Int32) (bk : Nat → Int64) (sz : Nat) (b : Int32) (h42 : g 42 = 1) : Met l yX12_put ww_cn_put1 { frames := 0, cells := 0, slots := 0, locals := 0 } (va_Pc [.ref (ad 0), .int b] (hk_B D [(cI, .int), (cJ, .long)] sz (mw cI cJ ad g lg ar bk))) (va_Qv (fun u : (Nat → Int32) => True) (fun u : (Nat → Int32) => hk_E D [(cI, .int), (cJ, .long)] (va_A (mw cI cJ ad g lg ar bk) sz) (mw cI cJ ad (upd g 42 2) lg (va_up ar 22 u) bk)) (va_A (mw cI cJ ad g lg ar bk) sz)) 0 0 (va_A (mw cI cJ ad g lg ar bk) sz) := by
  refine hk_met (cc := cX12_put) (maxL := 2) (ret := none) (by decide) rfl (Nat.le_of_ble_eq_true rfl) ?_
  intro p e s m below meth c ls hx hb hr hml hown hts hlocks hin hA hw hl
  have iX12 : ∀ w ∈ wsX120, w ∈ ww_cn_put1 := fun _ h => List.mem_cons_of_mem _ (List.mem_append_right _ (List.mem_append_left _ h))
  have hl : lv_has ls 2 [(0, .ref (ad 0)), (1, .int b)] := hl
  refine lv_aload_n hx hb dX12_put_0 rfl (lv_at hl 0 rfl) ?_
  refine hk_get (ci := 15) (C := RX12) (T := TX12) (N := 92) (v := .int 1) hx hb hts iX12 hown hw 0 rfl rfl 69 (by decide) (hts _ (List.mem_of_getElem? (i := 1) rfl)) (congrArg (fun z => some (Value.int z)) h42) dX12_put_1 ?_
  refine lv_sipush (v := 20000) hx hb dX12_put_4 (by decide) ?_
  refine lv_icmp_ge (tgt := 24) hx hb dX12_put_7 (by decide) (fun cc_1 => absurd cc_1 (by decide)) (fun _ => ?_)
  refine lv_aload_n hx hb dX12_put_10 rfl (lv_at hl 0 rfl) ?_
  refine hk_get (ci := 15) (C := RX12) (T := TX12) (N := 92) (v := .ref (ad 23)) hx hb hts iX12 hown hw 0 rfl rfl 68 (by decide) (hts _ (List.mem_of_getElem? (i := 2) rfl)) rfl dX12_put_11 ?_
  refine lv_aload_n hx hb dX12_put_14 rfl (lv_at hl 0 rfl) ?_
  refine hk_get (ci := 15) (C := RX12) (T := TX12) (N := 92) (v := .int 1) hx hb hts iX12 hown hw 0 rfl rfl 69 (by decide) (hts _ (List.mem_of_getElem? (i := 1) rfl)) (congrArg (fun z => some (Value.int z)) h42) dX12_put_15 ?_
  refine lv_iload_n hx hb dX12_put_18 rfl (lv_at hl 1 rfl) ?_
  refine lv_sipush (v := 255) hx hb dX12_put_19 (by decide) ?_
  refine lv_iand hx hb dX12_put_22 ?_
  refine hk_iast hx hb hw 23 0 rfl rfl (show ¬ (_ ∨ _) by decide) dX12_put_23 (ws' := mw cI cJ ad g lg (va_up ar 22 (upd (ar 22) 1 (b &&& 255))) bk) rfl (fun H locs hw => ?_)
  refine lv_aload_n hx hb dX12_put_24 rfl (lv_at hl 0 rfl) ?_
  refine lv_dup hx hb dX12_put_25 rfl ?_
  refine hk_get (ci := 15) (C := RX12) (T := TX12) (N := 92) (v := .int 1) hx hb hts iX12 hown hw 0 rfl rfl 69 (by decide) (hts _ (List.mem_of_getElem? (i := 1) rfl)) (congrArg (fun z => some (Value.int z)) h42) dX12_put_26 ?_
  refine lv_iconst (v := 1) hx hb dX12_put_29 (by decide) ?_
  refine lv_iadd hx hb dX12_put_30 ?_
  refine hk_topi 2 (by decide +kernel) ?_
  refine hk_put (ci := 15) (C := RX12) (T := TX12) (N := 92) (ty := .int) (v := .int 2) hx hb hts iX12 tyX12 tyX12_ok nmX12 hown hw 0 rfl rfl 69 (by decide) (hts _ (List.mem_of_getElem? (i := 1) rfl)) rfl (by decide +kernel) rfl rfl (Nat.le_of_ble_eq_true rfl) dX12_put_31 (ws' := mw cI cJ ad (upd g 42 2) lg (va_up ar 22 (upd (ar 22) 1 (b &&& 255))) bk) rfl (fun H locs hw => ?_)
  exact hk_vret (u := (upd (ar 22) 1 (b &&& 255))) hx hb hr hlocks (hw) (trivial) dX12_put_34

def ww_cn_put2 : List Cond := Cond.code yX12_put cX12_put 2 none :: ([Cond.fieldLink RX12 391 "LzmaChainsModel" "rowSize" "I", Cond.fieldLink RX12 98 "LzmaChainsModel" "row" "[I"] ++ (wsX120 ++ ([])))
set_option maxHeartbeats 4000000 in
set_option maxRecDepth 100000 in
/-- the reference: put, it has 2 -/
theorem cn_put2 (l : Launch) (D : va_G) (cI cJ : ClassId) (ad : Nat → Nat) (g : Nat → Int32) (lg : Nat → Int64) (ar : Nat → Nat → Int32) (bk : Nat → Int64) (sz : Nat) (b : Int32) (h42 : g 42 = 2) : Met l yX12_put ww_cn_put2 { frames := 0, cells := 0, slots := 0, locals := 0 } (va_Pc [.ref (ad 0), .int b] (hk_B D [(cI, .int), (cJ, .long)] sz (mw cI cJ ad g lg ar bk))) (va_Qv (fun u : (Nat → Int32) => True) (fun u : (Nat → Int32) => hk_E D [(cI, .int), (cJ, .long)] (va_A (mw cI cJ ad g lg ar bk) sz) (mw cI cJ ad (upd g 42 3) lg (va_up ar 22 u) bk)) (va_A (mw cI cJ ad g lg ar bk) sz)) 0 0 (va_A (mw cI cJ ad g lg ar bk) sz) := by
  refine hk_met (cc := cX12_put) (maxL := 2) (ret := none) (by decide) rfl (Nat.le_of_ble_eq_true rfl) ?_
  intro p e s m below meth c ls hx hb hr hml hown hts hlocks hin hA hw hl
  have iX12 : ∀ w ∈ wsX120, w ∈ ww_cn_put2 := fun _ h => List.mem_cons_of_mem _ (List.mem_append_right _ (List.mem_append_left _ h))
  have hl : lv_has ls 2 [(0, .ref (ad 0)), (1, .int b)] := hl
  refine lv_aload_n hx hb dX12_put_0 rfl (lv_at hl 0 rfl) ?_
  refine hk_get (ci := 15) (C := RX12) (T := TX12) (N := 92) (v := .int 2) hx hb hts iX12 hown hw 0 rfl rfl 69 (by decide) (hts _ (List.mem_of_getElem? (i := 1) rfl)) (congrArg (fun z => some (Value.int z)) h42) dX12_put_1 ?_
  refine lv_sipush (v := 20000) hx hb dX12_put_4 (by decide) ?_
  refine lv_icmp_ge (tgt := 24) hx hb dX12_put_7 (by decide) (fun cc_1 => absurd cc_1 (by decide)) (fun _ => ?_)
  refine lv_aload_n hx hb dX12_put_10 rfl (lv_at hl 0 rfl) ?_
  refine hk_get (ci := 15) (C := RX12) (T := TX12) (N := 92) (v := .ref (ad 23)) hx hb hts iX12 hown hw 0 rfl rfl 68 (by decide) (hts _ (List.mem_of_getElem? (i := 2) rfl)) rfl dX12_put_11 ?_
  refine lv_aload_n hx hb dX12_put_14 rfl (lv_at hl 0 rfl) ?_
  refine hk_get (ci := 15) (C := RX12) (T := TX12) (N := 92) (v := .int 2) hx hb hts iX12 hown hw 0 rfl rfl 69 (by decide) (hts _ (List.mem_of_getElem? (i := 1) rfl)) (congrArg (fun z => some (Value.int z)) h42) dX12_put_15 ?_
  refine lv_iload_n hx hb dX12_put_18 rfl (lv_at hl 1 rfl) ?_
  refine lv_sipush (v := 255) hx hb dX12_put_19 (by decide) ?_
  refine lv_iand hx hb dX12_put_22 ?_
  refine hk_iast hx hb hw 23 0 rfl rfl (show ¬ (_ ∨ _) by decide) dX12_put_23 (ws' := mw cI cJ ad g lg (va_up ar 22 (upd (ar 22) 2 (b &&& 255))) bk) rfl (fun H locs hw => ?_)
  refine lv_aload_n hx hb dX12_put_24 rfl (lv_at hl 0 rfl) ?_
  refine lv_dup hx hb dX12_put_25 rfl ?_
  refine hk_get (ci := 15) (C := RX12) (T := TX12) (N := 92) (v := .int 2) hx hb hts iX12 hown hw 0 rfl rfl 69 (by decide) (hts _ (List.mem_of_getElem? (i := 1) rfl)) (congrArg (fun z => some (Value.int z)) h42) dX12_put_26 ?_
  refine lv_iconst (v := 1) hx hb dX12_put_29 (by decide) ?_
  refine lv_iadd hx hb dX12_put_30 ?_
  refine hk_topi 3 (by decide +kernel) ?_
  refine hk_put (ci := 15) (C := RX12) (T := TX12) (N := 92) (ty := .int) (v := .int 3) hx hb hts iX12 tyX12 tyX12_ok nmX12 hown hw 0 rfl rfl 69 (by decide) (hts _ (List.mem_of_getElem? (i := 1) rfl)) rfl (by decide +kernel) rfl rfl (Nat.le_of_ble_eq_true rfl) dX12_put_31 (ws' := mw cI cJ ad (upd g 42 3) lg (va_up ar 22 (upd (ar 22) 2 (b &&& 255))) bk) rfl (fun H locs hw => ?_)
  exact hk_vret (u := (upd (ar 22) 2 (b &&& 255))) hx hb hr hlocks (hw) (trivial) dX12_put_34

def ww_cn_put3 : List Cond := Cond.code yX12_put cX12_put 2 none :: ([Cond.fieldLink RX12 391 "LzmaChainsModel" "rowSize" "I", Cond.fieldLink RX12 98 "LzmaChainsModel" "row" "[I"] ++ (wsX120 ++ ([])))
set_option maxHeartbeats 4000000 in
set_option maxRecDepth 100000 in
/-- the reference: put, it has 3 -/
theorem cn_put3 (l : Launch) (D : va_G) (cI cJ : ClassId) (ad : Nat → Nat) (g : Nat → Int32) (lg : Nat → Int64) (ar : Nat → Nat → Int32) (bk : Nat → Int64) (sz : Nat) (b : Int32) (h42 : g 42 = 3) : Met l yX12_put ww_cn_put3 { frames := 0, cells := 0, slots := 0, locals := 0 } (va_Pc [.ref (ad 0), .int b] (hk_B D [(cI, .int), (cJ, .long)] sz (mw cI cJ ad g lg ar bk))) (va_Qv (fun u : (Nat → Int32) => True) (fun u : (Nat → Int32) => hk_E D [(cI, .int), (cJ, .long)] (va_A (mw cI cJ ad g lg ar bk) sz) (mw cI cJ ad (upd g 42 4) lg (va_up ar 22 u) bk)) (va_A (mw cI cJ ad g lg ar bk) sz)) 0 0 (va_A (mw cI cJ ad g lg ar bk) sz) := by
  refine hk_met (cc := cX12_put) (maxL := 2) (ret := none) (by decide) rfl (Nat.le_of_ble_eq_true rfl) ?_
  intro p e s m below meth c ls hx hb hr hml hown hts hlocks hin hA hw hl
  have iX12 : ∀ w ∈ wsX120, w ∈ ww_cn_put3 := fun _ h => List.mem_cons_of_mem _ (List.mem_append_right _ (List.mem_append_left _ h))
  have hl : lv_has ls 2 [(0, .ref (ad 0)), (1, .int b)] := hl
  refine lv_aload_n hx hb dX12_put_0 rfl (lv_at hl 0 rfl) ?_
  refine hk_get (ci := 15) (C := RX12) (T := TX12) (N := 92) (v := .int 3) hx hb hts iX12 hown hw 0 rfl rfl 69 (by decide) (hts _ (List.mem_of_getElem? (i := 1) rfl)) (congrArg (fun z => some (Value.int z)) h42) dX12_put_1 ?_
  refine lv_sipush (v := 20000) hx hb dX12_put_4 (by decide) ?_
  refine lv_icmp_ge (tgt := 24) hx hb dX12_put_7 (by decide) (fun cc_1 => absurd cc_1 (by decide)) (fun _ => ?_)
  refine lv_aload_n hx hb dX12_put_10 rfl (lv_at hl 0 rfl) ?_
  refine hk_get (ci := 15) (C := RX12) (T := TX12) (N := 92) (v := .ref (ad 23)) hx hb hts iX12 hown hw 0 rfl rfl 68 (by decide) (hts _ (List.mem_of_getElem? (i := 2) rfl)) rfl dX12_put_11 ?_
  refine lv_aload_n hx hb dX12_put_14 rfl (lv_at hl 0 rfl) ?_
  refine hk_get (ci := 15) (C := RX12) (T := TX12) (N := 92) (v := .int 3) hx hb hts iX12 hown hw 0 rfl rfl 69 (by decide) (hts _ (List.mem_of_getElem? (i := 1) rfl)) (congrArg (fun z => some (Value.int z)) h42) dX12_put_15 ?_
  refine lv_iload_n hx hb dX12_put_18 rfl (lv_at hl 1 rfl) ?_
  refine lv_sipush (v := 255) hx hb dX12_put_19 (by decide) ?_
  refine lv_iand hx hb dX12_put_22 ?_
  refine hk_iast hx hb hw 23 0 rfl rfl (show ¬ (_ ∨ _) by decide) dX12_put_23 (ws' := mw cI cJ ad g lg (va_up ar 22 (upd (ar 22) 3 (b &&& 255))) bk) rfl (fun H locs hw => ?_)
  refine lv_aload_n hx hb dX12_put_24 rfl (lv_at hl 0 rfl) ?_
  refine lv_dup hx hb dX12_put_25 rfl ?_
  refine hk_get (ci := 15) (C := RX12) (T := TX12) (N := 92) (v := .int 3) hx hb hts iX12 hown hw 0 rfl rfl 69 (by decide) (hts _ (List.mem_of_getElem? (i := 1) rfl)) (congrArg (fun z => some (Value.int z)) h42) dX12_put_26 ?_
  refine lv_iconst (v := 1) hx hb dX12_put_29 (by decide) ?_
  refine lv_iadd hx hb dX12_put_30 ?_
  refine hk_topi 4 (by decide +kernel) ?_
  refine hk_put (ci := 15) (C := RX12) (T := TX12) (N := 92) (ty := .int) (v := .int 4) hx hb hts iX12 tyX12 tyX12_ok nmX12 hown hw 0 rfl rfl 69 (by decide) (hts _ (List.mem_of_getElem? (i := 1) rfl)) rfl (by decide +kernel) rfl rfl (Nat.le_of_ble_eq_true rfl) dX12_put_31 (ws' := mw cI cJ ad (upd g 42 4) lg (va_up ar 22 (upd (ar 22) 3 (b &&& 255))) bk) rfl (fun H locs hw => ?_)
  exact hk_vret (u := (upd (ar 22) 3 (b &&& 255))) hx hb hr hlocks (hw) (trivial) dX12_put_34

def ww_cn_put4 : List Cond := Cond.code yX12_put cX12_put 2 none :: ([Cond.fieldLink RX12 391 "LzmaChainsModel" "rowSize" "I", Cond.fieldLink RX12 98 "LzmaChainsModel" "row" "[I"] ++ (wsX120 ++ ([])))
set_option maxHeartbeats 4000000 in
set_option maxRecDepth 100000 in
/-- the reference: put, it has 4 -/
theorem cn_put4 (l : Launch) (D : va_G) (cI cJ : ClassId) (ad : Nat → Nat) (g : Nat → Int32) (lg : Nat → Int64) (ar : Nat → Nat → Int32) (bk : Nat → Int64) (sz : Nat) (b : Int32) (h42 : g 42 = 4) : Met l yX12_put ww_cn_put4 { frames := 0, cells := 0, slots := 0, locals := 0 } (va_Pc [.ref (ad 0), .int b] (hk_B D [(cI, .int), (cJ, .long)] sz (mw cI cJ ad g lg ar bk))) (va_Qv (fun u : (Nat → Int32) => True) (fun u : (Nat → Int32) => hk_E D [(cI, .int), (cJ, .long)] (va_A (mw cI cJ ad g lg ar bk) sz) (mw cI cJ ad (upd g 42 5) lg (va_up ar 22 u) bk)) (va_A (mw cI cJ ad g lg ar bk) sz)) 0 0 (va_A (mw cI cJ ad g lg ar bk) sz) := by
  refine hk_met (cc := cX12_put) (maxL := 2) (ret := none) (by decide) rfl (Nat.le_of_ble_eq_true rfl) ?_
  intro p e s m below meth c ls hx hb hr hml hown hts hlocks hin hA hw hl
  have iX12 : ∀ w ∈ wsX120, w ∈ ww_cn_put4 := fun _ h => List.mem_cons_of_mem _ (List.mem_append_right _ (List.mem_append_left _ h))
  have hl : lv_has ls 2 [(0, .ref (ad 0)), (1, .int b)] := hl
  refine lv_aload_n hx hb dX12_put_0 rfl (lv_at hl 0 rfl) ?_
  refine hk_get (ci := 15) (C := RX12) (T := TX12) (N := 92) (v := .int 4) hx hb hts iX12 hown hw 0 rfl rfl 69 (by decide) (hts _ (List.mem_of_getElem? (i := 1) rfl)) (congrArg (fun z => some (Value.int z)) h42) dX12_put_1 ?_
  refine lv_sipush (v := 20000) hx hb dX12_put_4 (by decide) ?_
  refine lv_icmp_ge (tgt := 24) hx hb dX12_put_7 (by decide) (fun cc_1 => absurd cc_1 (by decide)) (fun _ => ?_)
  refine lv_aload_n hx hb dX12_put_10 rfl (lv_at hl 0 rfl) ?_
  refine hk_get (ci := 15) (C := RX12) (T := TX12) (N := 92) (v := .ref (ad 23)) hx hb hts iX12 hown hw 0 rfl rfl 68 (by decide) (hts _ (List.mem_of_getElem? (i := 2) rfl)) rfl dX12_put_11 ?_
  refine lv_aload_n hx hb dX12_put_14 rfl (lv_at hl 0 rfl) ?_
  refine hk_get (ci := 15) (C := RX12) (T := TX12) (N := 92) (v := .int 4) hx hb hts iX12 hown hw 0 rfl rfl 69 (by decide) (hts _ (List.mem_of_getElem? (i := 1) rfl)) (congrArg (fun z => some (Value.int z)) h42) dX12_put_15 ?_
  refine lv_iload_n hx hb dX12_put_18 rfl (lv_at hl 1 rfl) ?_
  refine lv_sipush (v := 255) hx hb dX12_put_19 (by decide) ?_
  refine lv_iand hx hb dX12_put_22 ?_
  refine hk_iast hx hb hw 23 0 rfl rfl (show ¬ (_ ∨ _) by decide) dX12_put_23 (ws' := mw cI cJ ad g lg (va_up ar 22 (upd (ar 22) 4 (b &&& 255))) bk) rfl (fun H locs hw => ?_)
  refine lv_aload_n hx hb dX12_put_24 rfl (lv_at hl 0 rfl) ?_
  refine lv_dup hx hb dX12_put_25 rfl ?_
  refine hk_get (ci := 15) (C := RX12) (T := TX12) (N := 92) (v := .int 4) hx hb hts iX12 hown hw 0 rfl rfl 69 (by decide) (hts _ (List.mem_of_getElem? (i := 1) rfl)) (congrArg (fun z => some (Value.int z)) h42) dX12_put_26 ?_
  refine lv_iconst (v := 1) hx hb dX12_put_29 (by decide) ?_
  refine lv_iadd hx hb dX12_put_30 ?_
  refine hk_topi 5 (by decide +kernel) ?_
  refine hk_put (ci := 15) (C := RX12) (T := TX12) (N := 92) (ty := .int) (v := .int 5) hx hb hts iX12 tyX12 tyX12_ok nmX12 hown hw 0 rfl rfl 69 (by decide) (hts _ (List.mem_of_getElem? (i := 1) rfl)) rfl (by decide +kernel) rfl rfl (Nat.le_of_ble_eq_true rfl) dX12_put_31 (ws' := mw cI cJ ad (upd g 42 5) lg (va_up ar 22 (upd (ar 22) 4 (b &&& 255))) bk) rfl (fun H locs hw => ?_)
  exact hk_vret (u := (upd (ar 22) 4 (b &&& 255))) hx hb hr hlocks (hw) (trivial) dX12_put_34

def ww_cn_put5 : List Cond := Cond.code yX12_put cX12_put 2 none :: ([Cond.fieldLink RX12 391 "LzmaChainsModel" "rowSize" "I", Cond.fieldLink RX12 98 "LzmaChainsModel" "row" "[I"] ++ (wsX120 ++ ([])))
set_option maxHeartbeats 4000000 in
set_option maxRecDepth 100000 in
/-- the reference: put, it has 5 -/
theorem cn_put5 (l : Launch) (D : va_G) (cI cJ : ClassId) (ad : Nat → Nat) (g : Nat → Int32) (lg : Nat → Int64) (ar : Nat → Nat → Int32) (bk : Nat → Int64) (sz : Nat) (b : Int32) (h42 : g 42 = 5) : Met l yX12_put ww_cn_put5 { frames := 0, cells := 0, slots := 0, locals := 0 } (va_Pc [.ref (ad 0), .int b] (hk_B D [(cI, .int), (cJ, .long)] sz (mw cI cJ ad g lg ar bk))) (va_Qv (fun u : (Nat → Int32) => True) (fun u : (Nat → Int32) => hk_E D [(cI, .int), (cJ, .long)] (va_A (mw cI cJ ad g lg ar bk) sz) (mw cI cJ ad (upd g 42 6) lg (va_up ar 22 u) bk)) (va_A (mw cI cJ ad g lg ar bk) sz)) 0 0 (va_A (mw cI cJ ad g lg ar bk) sz) := by
  refine hk_met (cc := cX12_put) (maxL := 2) (ret := none) (by decide) rfl (Nat.le_of_ble_eq_true rfl) ?_
  intro p e s m below meth c ls hx hb hr hml hown hts hlocks hin hA hw hl
  have iX12 : ∀ w ∈ wsX120, w ∈ ww_cn_put5 := fun _ h => List.mem_cons_of_mem _ (List.mem_append_right _ (List.mem_append_left _ h))
  have hl : lv_has ls 2 [(0, .ref (ad 0)), (1, .int b)] := hl
  refine lv_aload_n hx hb dX12_put_0 rfl (lv_at hl 0 rfl) ?_
  refine hk_get (ci := 15) (C := RX12) (T := TX12) (N := 92) (v := .int 5) hx hb hts iX12 hown hw 0 rfl rfl 69 (by decide) (hts _ (List.mem_of_getElem? (i := 1) rfl)) (congrArg (fun z => some (Value.int z)) h42) dX12_put_1 ?_
  refine lv_sipush (v := 20000) hx hb dX12_put_4 (by decide) ?_
  refine lv_icmp_ge (tgt := 24) hx hb dX12_put_7 (by decide) (fun cc_1 => absurd cc_1 (by decide)) (fun _ => ?_)
  refine lv_aload_n hx hb dX12_put_10 rfl (lv_at hl 0 rfl) ?_
  refine hk_get (ci := 15) (C := RX12) (T := TX12) (N := 92) (v := .ref (ad 23)) hx hb hts iX12 hown hw 0 rfl rfl 68 (by decide) (hts _ (List.mem_of_getElem? (i := 2) rfl)) rfl dX12_put_11 ?_
  refine lv_aload_n hx hb dX12_put_14 rfl (lv_at hl 0 rfl) ?_
  refine hk_get (ci := 15) (C := RX12) (T := TX12) (N := 92) (v := .int 5) hx hb hts iX12 hown hw 0 rfl rfl 69 (by decide) (hts _ (List.mem_of_getElem? (i := 1) rfl)) (congrArg (fun z => some (Value.int z)) h42) dX12_put_15 ?_
  refine lv_iload_n hx hb dX12_put_18 rfl (lv_at hl 1 rfl) ?_
  refine lv_sipush (v := 255) hx hb dX12_put_19 (by decide) ?_
  refine lv_iand hx hb dX12_put_22 ?_
  refine hk_iast hx hb hw 23 0 rfl rfl (show ¬ (_ ∨ _) by decide) dX12_put_23 (ws' := mw cI cJ ad g lg (va_up ar 22 (upd (ar 22) 5 (b &&& 255))) bk) rfl (fun H locs hw => ?_)
  refine lv_aload_n hx hb dX12_put_24 rfl (lv_at hl 0 rfl) ?_
  refine lv_dup hx hb dX12_put_25 rfl ?_
  refine hk_get (ci := 15) (C := RX12) (T := TX12) (N := 92) (v := .int 5) hx hb hts iX12 hown hw 0 rfl rfl 69 (by decide) (hts _ (List.mem_of_getElem? (i := 1) rfl)) (congrArg (fun z => some (Value.int z)) h42) dX12_put_26 ?_
  refine lv_iconst (v := 1) hx hb dX12_put_29 (by decide) ?_
  refine lv_iadd hx hb dX12_put_30 ?_
  refine hk_topi 6 (by decide +kernel) ?_
  refine hk_put (ci := 15) (C := RX12) (T := TX12) (N := 92) (ty := .int) (v := .int 6) hx hb hts iX12 tyX12 tyX12_ok nmX12 hown hw 0 rfl rfl 69 (by decide) (hts _ (List.mem_of_getElem? (i := 1) rfl)) rfl (by decide +kernel) rfl rfl (Nat.le_of_ble_eq_true rfl) dX12_put_31 (ws' := mw cI cJ ad (upd g 42 6) lg (va_up ar 22 (upd (ar 22) 5 (b &&& 255))) bk) rfl (fun H locs hw => ?_)
  exact hk_vret (u := (upd (ar 22) 5 (b &&& 255))) hx hb hr hlocks (hw) (trivial) dX12_put_34

def ww_cn_put6 : List Cond := Cond.code yX12_put cX12_put 2 none :: ([Cond.fieldLink RX12 391 "LzmaChainsModel" "rowSize" "I", Cond.fieldLink RX12 98 "LzmaChainsModel" "row" "[I"] ++ (wsX120 ++ ([])))
set_option maxHeartbeats 4000000 in
set_option maxRecDepth 100000 in
/-- the reference: put, it has 6 -/
theorem cn_put6 (l : Launch) (D : va_G) (cI cJ : ClassId) (ad : Nat → Nat) (g : Nat → Int32) (lg : Nat → Int64) (ar : Nat → Nat → Int32) (bk : Nat → Int64) (sz : Nat) (b : Int32) (h42 : g 42 = 6) : Met l yX12_put ww_cn_put6 { frames := 0, cells := 0, slots := 0, locals := 0 } (va_Pc [.ref (ad 0), .int b] (hk_B D [(cI, .int), (cJ, .long)] sz (mw cI cJ ad g lg ar bk))) (va_Qv (fun u : (Nat → Int32) => True) (fun u : (Nat → Int32) => hk_E D [(cI, .int), (cJ, .long)] (va_A (mw cI cJ ad g lg ar bk) sz) (mw cI cJ ad (upd g 42 7) lg (va_up ar 22 u) bk)) (va_A (mw cI cJ ad g lg ar bk) sz)) 0 0 (va_A (mw cI cJ ad g lg ar bk) sz) := by
  refine hk_met (cc := cX12_put) (maxL := 2) (ret := none) (by decide) rfl (Nat.le_of_ble_eq_true rfl) ?_
  intro p e s m below meth c ls hx hb hr hml hown hts hlocks hin hA hw hl
  have iX12 : ∀ w ∈ wsX120, w ∈ ww_cn_put6 := fun _ h => List.mem_cons_of_mem _ (List.mem_append_right _ (List.mem_append_left _ h))
  have hl : lv_has ls 2 [(0, .ref (ad 0)), (1, .int b)] := hl
  refine lv_aload_n hx hb dX12_put_0 rfl (lv_at hl 0 rfl) ?_
  refine hk_get (ci := 15) (C := RX12) (T := TX12) (N := 92) (v := .int 6) hx hb hts iX12 hown hw 0 rfl rfl 69 (by decide) (hts _ (List.mem_of_getElem? (i := 1) rfl)) (congrArg (fun z => some (Value.int z)) h42) dX12_put_1 ?_
  refine lv_sipush (v := 20000) hx hb dX12_put_4 (by decide) ?_
  refine lv_icmp_ge (tgt := 24) hx hb dX12_put_7 (by decide) (fun cc_1 => absurd cc_1 (by decide)) (fun _ => ?_)
  refine lv_aload_n hx hb dX12_put_10 rfl (lv_at hl 0 rfl) ?_
  refine hk_get (ci := 15) (C := RX12) (T := TX12) (N := 92) (v := .ref (ad 23)) hx hb hts iX12 hown hw 0 rfl rfl 68 (by decide) (hts _ (List.mem_of_getElem? (i := 2) rfl)) rfl dX12_put_11 ?_
  refine lv_aload_n hx hb dX12_put_14 rfl (lv_at hl 0 rfl) ?_
  refine hk_get (ci := 15) (C := RX12) (T := TX12) (N := 92) (v := .int 6) hx hb hts iX12 hown hw 0 rfl rfl 69 (by decide) (hts _ (List.mem_of_getElem? (i := 1) rfl)) (congrArg (fun z => some (Value.int z)) h42) dX12_put_15 ?_
  refine lv_iload_n hx hb dX12_put_18 rfl (lv_at hl 1 rfl) ?_
  refine lv_sipush (v := 255) hx hb dX12_put_19 (by decide) ?_
  refine lv_iand hx hb dX12_put_22 ?_
  refine hk_iast hx hb hw 23 0 rfl rfl (show ¬ (_ ∨ _) by decide) dX12_put_23 (ws' := mw cI cJ ad g lg (va_up ar 22 (upd (ar 22) 6 (b &&& 255))) bk) rfl (fun H locs hw => ?_)
  refine lv_aload_n hx hb dX12_put_24 rfl (lv_at hl 0 rfl) ?_
  refine lv_dup hx hb dX12_put_25 rfl ?_
  refine hk_get (ci := 15) (C := RX12) (T := TX12) (N := 92) (v := .int 6) hx hb hts iX12 hown hw 0 rfl rfl 69 (by decide) (hts _ (List.mem_of_getElem? (i := 1) rfl)) (congrArg (fun z => some (Value.int z)) h42) dX12_put_26 ?_
  refine lv_iconst (v := 1) hx hb dX12_put_29 (by decide) ?_
  refine lv_iadd hx hb dX12_put_30 ?_
  refine hk_topi 7 (by decide +kernel) ?_
  refine hk_put (ci := 15) (C := RX12) (T := TX12) (N := 92) (ty := .int) (v := .int 7) hx hb hts iX12 tyX12 tyX12_ok nmX12 hown hw 0 rfl rfl 69 (by decide) (hts _ (List.mem_of_getElem? (i := 1) rfl)) rfl (by decide +kernel) rfl rfl (Nat.le_of_ble_eq_true rfl) dX12_put_31 (ws' := mw cI cJ ad (upd g 42 7) lg (va_up ar 22 (upd (ar 22) 6 (b &&& 255))) bk) rfl (fun H locs hw => ?_)
  exact hk_vret (u := (upd (ar 22) 6 (b &&& 255))) hx hb hr hlocks (hw) (trivial) dX12_put_34

def ww_cn_put7 : List Cond := Cond.code yX12_put cX12_put 2 none :: ([Cond.fieldLink RX12 391 "LzmaChainsModel" "rowSize" "I", Cond.fieldLink RX12 98 "LzmaChainsModel" "row" "[I"] ++ (wsX120 ++ ([])))
set_option maxHeartbeats 4000000 in
set_option maxRecDepth 100000 in
/-- the reference: put, it has 7 -/
theorem cn_put7 (l : Launch) (D : va_G) (cI cJ : ClassId) (ad : Nat → Nat) (g : Nat → Int32) (lg : Nat → Int64) (ar : Nat → Nat → Int32) (bk : Nat → Int64) (sz : Nat) (b : Int32) (h42 : g 42 = 7) : Met l yX12_put ww_cn_put7 { frames := 0, cells := 0, slots := 0, locals := 0 } (va_Pc [.ref (ad 0), .int b] (hk_B D [(cI, .int), (cJ, .long)] sz (mw cI cJ ad g lg ar bk))) (va_Qv (fun u : (Nat → Int32) => True) (fun u : (Nat → Int32) => hk_E D [(cI, .int), (cJ, .long)] (va_A (mw cI cJ ad g lg ar bk) sz) (mw cI cJ ad (upd g 42 8) lg (va_up ar 22 u) bk)) (va_A (mw cI cJ ad g lg ar bk) sz)) 0 0 (va_A (mw cI cJ ad g lg ar bk) sz) := by
  refine hk_met (cc := cX12_put) (maxL := 2) (ret := none) (by decide) rfl (Nat.le_of_ble_eq_true rfl) ?_
  intro p e s m below meth c ls hx hb hr hml hown hts hlocks hin hA hw hl
  have iX12 : ∀ w ∈ wsX120, w ∈ ww_cn_put7 := fun _ h => List.mem_cons_of_mem _ (List.mem_append_right _ (List.mem_append_left _ h))
  have hl : lv_has ls 2 [(0, .ref (ad 0)), (1, .int b)] := hl
  refine lv_aload_n hx hb dX12_put_0 rfl (lv_at hl 0 rfl) ?_
  refine hk_get (ci := 15) (C := RX12) (T := TX12) (N := 92) (v := .int 7) hx hb hts iX12 hown hw 0 rfl rfl 69 (by decide) (hts _ (List.mem_of_getElem? (i := 1) rfl)) (congrArg (fun z => some (Value.int z)) h42) dX12_put_1 ?_
  refine lv_sipush (v := 20000) hx hb dX12_put_4 (by decide) ?_
  refine lv_icmp_ge (tgt := 24) hx hb dX12_put_7 (by decide) (fun cc_1 => absurd cc_1 (by decide)) (fun _ => ?_)
  refine lv_aload_n hx hb dX12_put_10 rfl (lv_at hl 0 rfl) ?_
  refine hk_get (ci := 15) (C := RX12) (T := TX12) (N := 92) (v := .ref (ad 23)) hx hb hts iX12 hown hw 0 rfl rfl 68 (by decide) (hts _ (List.mem_of_getElem? (i := 2) rfl)) rfl dX12_put_11 ?_
  refine lv_aload_n hx hb dX12_put_14 rfl (lv_at hl 0 rfl) ?_
  refine hk_get (ci := 15) (C := RX12) (T := TX12) (N := 92) (v := .int 7) hx hb hts iX12 hown hw 0 rfl rfl 69 (by decide) (hts _ (List.mem_of_getElem? (i := 1) rfl)) (congrArg (fun z => some (Value.int z)) h42) dX12_put_15 ?_
  refine lv_iload_n hx hb dX12_put_18 rfl (lv_at hl 1 rfl) ?_
  refine lv_sipush (v := 255) hx hb dX12_put_19 (by decide) ?_
  refine lv_iand hx hb dX12_put_22 ?_
  refine hk_iast hx hb hw 23 0 rfl rfl (show ¬ (_ ∨ _) by decide) dX12_put_23 (ws' := mw cI cJ ad g lg (va_up ar 22 (upd (ar 22) 7 (b &&& 255))) bk) rfl (fun H locs hw => ?_)
  refine lv_aload_n hx hb dX12_put_24 rfl (lv_at hl 0 rfl) ?_
  refine lv_dup hx hb dX12_put_25 rfl ?_
  refine hk_get (ci := 15) (C := RX12) (T := TX12) (N := 92) (v := .int 7) hx hb hts iX12 hown hw 0 rfl rfl 69 (by decide) (hts _ (List.mem_of_getElem? (i := 1) rfl)) (congrArg (fun z => some (Value.int z)) h42) dX12_put_26 ?_
  refine lv_iconst (v := 1) hx hb dX12_put_29 (by decide) ?_
  refine lv_iadd hx hb dX12_put_30 ?_
  refine hk_topi 8 (by decide +kernel) ?_
  refine hk_put (ci := 15) (C := RX12) (T := TX12) (N := 92) (ty := .int) (v := .int 8) hx hb hts iX12 tyX12 tyX12_ok nmX12 hown hw 0 rfl rfl 69 (by decide) (hts _ (List.mem_of_getElem? (i := 1) rfl)) rfl (by decide +kernel) rfl rfl (Nat.le_of_ble_eq_true rfl) dX12_put_31 (ws' := mw cI cJ ad (upd g 42 8) lg (va_up ar 22 (upd (ar 22) 7 (b &&& 255))) bk) rfl (fun H locs hw => ?_)
  exact hk_vret (u := (upd (ar 22) 7 (b &&& 255))) hx hb hr hlocks (hw) (trivial) dX12_put_34

def ww_cn_put8 : List Cond := Cond.code yX12_put cX12_put 2 none :: ([Cond.fieldLink RX12 391 "LzmaChainsModel" "rowSize" "I", Cond.fieldLink RX12 98 "LzmaChainsModel" "row" "[I"] ++ (wsX120 ++ ([])))
set_option maxHeartbeats 4000000 in
set_option maxRecDepth 100000 in
/-- the reference: put, it has 8 -/
theorem cn_put8 (l : Launch) (D : va_G) (cI cJ : ClassId) (ad : Nat → Nat) (g : Nat → Int32) (lg : Nat → Int64) (ar : Nat → Nat → Int32) (bk : Nat → Int64) (sz : Nat) (b : Int32) (h42 : g 42 = 8) : Met l yX12_put ww_cn_put8 { frames := 0, cells := 0, slots := 0, locals := 0 } (va_Pc [.ref (ad 0), .int b] (hk_B D [(cI, .int), (cJ, .long)] sz (mw cI cJ ad g lg ar bk))) (va_Qv (fun u : (Nat → Int32) => True) (fun u : (Nat → Int32) => hk_E D [(cI, .int), (cJ, .long)] (va_A (mw cI cJ ad g lg ar bk) sz) (mw cI cJ ad (upd g 42 9) lg (va_up ar 22 u) bk)) (va_A (mw cI cJ ad g lg ar bk) sz)) 0 0 (va_A (mw cI cJ ad g lg ar bk) sz) := by
  refine hk_met (cc := cX12_put) (maxL := 2) (ret := none) (by decide) rfl (Nat.le_of_ble_eq_true rfl) ?_
  intro p e s m below meth c ls hx hb hr hml hown hts hlocks hin hA hw hl
  have iX12 : ∀ w ∈ wsX120, w ∈ ww_cn_put8 := fun _ h => List.mem_cons_of_mem _ (List.mem_append_right _ (List.mem_append_left _ h))
  have hl : lv_has ls 2 [(0, .ref (ad 0)), (1, .int b)] := hl
  refine lv_aload_n hx hb dX12_put_0 rfl (lv_at hl 0 rfl) ?_
  refine hk_get (ci := 15) (C := RX12) (T := TX12) (N := 92) (v := .int 8) hx hb hts iX12 hown hw 0 rfl rfl 69 (by decide) (hts _ (List.mem_of_getElem? (i := 1) rfl)) (congrArg (fun z => some (Value.int z)) h42) dX12_put_1 ?_
  refine lv_sipush (v := 20000) hx hb dX12_put_4 (by decide) ?_
  refine lv_icmp_ge (tgt := 24) hx hb dX12_put_7 (by decide) (fun cc_1 => absurd cc_1 (by decide)) (fun _ => ?_)
  refine lv_aload_n hx hb dX12_put_10 rfl (lv_at hl 0 rfl) ?_
  refine hk_get (ci := 15) (C := RX12) (T := TX12) (N := 92) (v := .ref (ad 23)) hx hb hts iX12 hown hw 0 rfl rfl 68 (by decide) (hts _ (List.mem_of_getElem? (i := 2) rfl)) rfl dX12_put_11 ?_
  refine lv_aload_n hx hb dX12_put_14 rfl (lv_at hl 0 rfl) ?_
  refine hk_get (ci := 15) (C := RX12) (T := TX12) (N := 92) (v := .int 8) hx hb hts iX12 hown hw 0 rfl rfl 69 (by decide) (hts _ (List.mem_of_getElem? (i := 1) rfl)) (congrArg (fun z => some (Value.int z)) h42) dX12_put_15 ?_
  refine lv_iload_n hx hb dX12_put_18 rfl (lv_at hl 1 rfl) ?_
  refine lv_sipush (v := 255) hx hb dX12_put_19 (by decide) ?_
  refine lv_iand hx hb dX12_put_22 ?_
  refine hk_iast hx hb hw 23 0 rfl rfl (show ¬ (_ ∨ _) by decide) dX12_put_23 (ws' := mw cI cJ ad g lg (va_up ar 22 (upd (ar 22) 8 (b &&& 255))) bk) rfl (fun H locs hw => ?_)
  refine lv_aload_n hx hb dX12_put_24 rfl (lv_at hl 0 rfl) ?_
  refine lv_dup hx hb dX12_put_25 rfl ?_
  refine hk_get (ci := 15) (C := RX12) (T := TX12) (N := 92) (v := .int 8) hx hb hts iX12 hown hw 0 rfl rfl 69 (by decide) (hts _ (List.mem_of_getElem? (i := 1) rfl)) (congrArg (fun z => some (Value.int z)) h42) dX12_put_26 ?_
  refine lv_iconst (v := 1) hx hb dX12_put_29 (by decide) ?_
  refine lv_iadd hx hb dX12_put_30 ?_
  refine hk_topi 9 (by decide +kernel) ?_
  refine hk_put (ci := 15) (C := RX12) (T := TX12) (N := 92) (ty := .int) (v := .int 9) hx hb hts iX12 tyX12 tyX12_ok nmX12 hown hw 0 rfl rfl 69 (by decide) (hts _ (List.mem_of_getElem? (i := 1) rfl)) rfl (by decide +kernel) rfl rfl (Nat.le_of_ble_eq_true rfl) dX12_put_31 (ws' := mw cI cJ ad (upd g 42 9) lg (va_up ar 22 (upd (ar 22) 8 (b &&& 255))) bk) rfl (fun H locs hw => ?_)
  exact hk_vret (u := (upd (ar 22) 8 (b &&& 255))) hx hb hr hlocks (hw) (trivial) dX12_put_34

def ww_cn_put9 : List Cond := Cond.code yX12_put cX12_put 2 none :: ([Cond.fieldLink RX12 391 "LzmaChainsModel" "rowSize" "I", Cond.fieldLink RX12 98 "LzmaChainsModel" "row" "[I"] ++ (wsX120 ++ ([])))
set_option maxHeartbeats 4000000 in
set_option maxRecDepth 100000 in
/-- the reference: put, it has 9 -/
theorem cn_put9 (l : Launch) (D : va_G) (cI cJ : ClassId) (ad : Nat → Nat) (g : Nat → Int32) (lg : Nat → Int64) (ar : Nat → Nat → Int32) (bk : Nat → Int64) (sz : Nat) (b : Int32) (h42 : g 42 = 9) : Met l yX12_put ww_cn_put9 { frames := 0, cells := 0, slots := 0, locals := 0 } (va_Pc [.ref (ad 0), .int b] (hk_B D [(cI, .int), (cJ, .long)] sz (mw cI cJ ad g lg ar bk))) (va_Qv (fun u : (Nat → Int32) => True) (fun u : (Nat → Int32) => hk_E D [(cI, .int), (cJ, .long)] (va_A (mw cI cJ ad g lg ar bk) sz) (mw cI cJ ad (upd g 42 10) lg (va_up ar 22 u) bk)) (va_A (mw cI cJ ad g lg ar bk) sz)) 0 0 (va_A (mw cI cJ ad g lg ar bk) sz) := by
  refine hk_met (cc := cX12_put) (maxL := 2) (ret := none) (by decide) rfl (Nat.le_of_ble_eq_true rfl) ?_
  intro p e s m below meth c ls hx hb hr hml hown hts hlocks hin hA hw hl
  have iX12 : ∀ w ∈ wsX120, w ∈ ww_cn_put9 := fun _ h => List.mem_cons_of_mem _ (List.mem_append_right _ (List.mem_append_left _ h))
  have hl : lv_has ls 2 [(0, .ref (ad 0)), (1, .int b)] := hl
  refine lv_aload_n hx hb dX12_put_0 rfl (lv_at hl 0 rfl) ?_
  refine hk_get (ci := 15) (C := RX12) (T := TX12) (N := 92) (v := .int 9) hx hb hts iX12 hown hw 0 rfl rfl 69 (by decide) (hts _ (List.mem_of_getElem? (i := 1) rfl)) (congrArg (fun z => some (Value.int z)) h42) dX12_put_1 ?_
  refine lv_sipush (v := 20000) hx hb dX12_put_4 (by decide) ?_
  refine lv_icmp_ge (tgt := 24) hx hb dX12_put_7 (by decide) (fun cc_1 => absurd cc_1 (by decide)) (fun _ => ?_)
  refine lv_aload_n hx hb dX12_put_10 rfl (lv_at hl 0 rfl) ?_
  refine hk_get (ci := 15) (C := RX12) (T := TX12) (N := 92) (v := .ref (ad 23)) hx hb hts iX12 hown hw 0 rfl rfl 68 (by decide) (hts _ (List.mem_of_getElem? (i := 2) rfl)) rfl dX12_put_11 ?_
  refine lv_aload_n hx hb dX12_put_14 rfl (lv_at hl 0 rfl) ?_
  refine hk_get (ci := 15) (C := RX12) (T := TX12) (N := 92) (v := .int 9) hx hb hts iX12 hown hw 0 rfl rfl 69 (by decide) (hts _ (List.mem_of_getElem? (i := 1) rfl)) (congrArg (fun z => some (Value.int z)) h42) dX12_put_15 ?_
  refine lv_iload_n hx hb dX12_put_18 rfl (lv_at hl 1 rfl) ?_
  refine lv_sipush (v := 255) hx hb dX12_put_19 (by decide) ?_
  refine lv_iand hx hb dX12_put_22 ?_
  refine hk_iast hx hb hw 23 0 rfl rfl (show ¬ (_ ∨ _) by decide) dX12_put_23 (ws' := mw cI cJ ad g lg (va_up ar 22 (upd (ar 22) 9 (b &&& 255))) bk) rfl (fun H locs hw => ?_)
  refine lv_aload_n hx hb dX12_put_24 rfl (lv_at hl 0 rfl) ?_
  refine lv_dup hx hb dX12_put_25 rfl ?_
  refine hk_get (ci := 15) (C := RX12) (T := TX12) (N := 92) (v := .int 9) hx hb hts iX12 hown hw 0 rfl rfl 69 (by decide) (hts _ (List.mem_of_getElem? (i := 1) rfl)) (congrArg (fun z => some (Value.int z)) h42) dX12_put_26 ?_
  refine lv_iconst (v := 1) hx hb dX12_put_29 (by decide) ?_
  refine lv_iadd hx hb dX12_put_30 ?_
  refine hk_topi 10 (by decide +kernel) ?_
  refine hk_put (ci := 15) (C := RX12) (T := TX12) (N := 92) (ty := .int) (v := .int 10) hx hb hts iX12 tyX12 tyX12_ok nmX12 hown hw 0 rfl rfl 69 (by decide) (hts _ (List.mem_of_getElem? (i := 1) rfl)) rfl (by decide +kernel) rfl rfl (Nat.le_of_ble_eq_true rfl) dX12_put_31 (ws' := mw cI cJ ad (upd g 42 10) lg (va_up ar 22 (upd (ar 22) 9 (b &&& 255))) bk) rfl (fun H locs hw => ?_)
  exact hk_vret (u := (upd (ar 22) 9 (b &&& 255))) hx hb hr hlocks (hw) (trivial) dX12_put_34

def ww_cn_put10 : List Cond := Cond.code yX12_put cX12_put 2 none :: ([Cond.fieldLink RX12 391 "LzmaChainsModel" "rowSize" "I", Cond.fieldLink RX12 98 "LzmaChainsModel" "row" "[I"] ++ (wsX120 ++ ([])))
set_option maxHeartbeats 4000000 in
set_option maxRecDepth 100000 in
/-- the reference: put, it has 10 -/
theorem cn_put10 (l : Launch) (D : va_G) (cI cJ : ClassId) (ad : Nat → Nat) (g : Nat → Int32) (lg : Nat → Int64) (ar : Nat → Nat → Int32) (bk : Nat → Int64) (sz : Nat) (b : Int32) (h42 : g 42 = 10) : Met l yX12_put ww_cn_put10 { frames := 0, cells := 0, slots := 0, locals := 0 } (va_Pc [.ref (ad 0), .int b] (hk_B D [(cI, .int), (cJ, .long)] sz (mw cI cJ ad g lg ar bk))) (va_Qv (fun u : (Nat → Int32) => True) (fun u : (Nat → Int32) => hk_E D [(cI, .int), (cJ, .long)] (va_A (mw cI cJ ad g lg ar bk) sz) (mw cI cJ ad (upd g 42 11) lg (va_up ar 22 u) bk)) (va_A (mw cI cJ ad g lg ar bk) sz)) 0 0 (va_A (mw cI cJ ad g lg ar bk) sz) := by
  refine hk_met (cc := cX12_put) (maxL := 2) (ret := none) (by decide) rfl (Nat.le_of_ble_eq_true rfl) ?_
  intro p e s m below meth c ls hx hb hr hml hown hts hlocks hin hA hw hl
  have iX12 : ∀ w ∈ wsX120, w ∈ ww_cn_put10 := fun _ h => List.mem_cons_of_mem _ (List.mem_append_right _ (List.mem_append_left _ h))
  have hl : lv_has ls 2 [(0, .ref (ad 0)), (1, .int b)] := hl
  refine lv_aload_n hx hb dX12_put_0 rfl (lv_at hl 0 rfl) ?_
  refine hk_get (ci := 15) (C := RX12) (T := TX12) (N := 92) (v := .int 10) hx hb hts iX12 hown hw 0 rfl rfl 69 (by decide) (hts _ (List.mem_of_getElem? (i := 1) rfl)) (congrArg (fun z => some (Value.int z)) h42) dX12_put_1 ?_
  refine lv_sipush (v := 20000) hx hb dX12_put_4 (by decide) ?_
  refine lv_icmp_ge (tgt := 24) hx hb dX12_put_7 (by decide) (fun cc_1 => absurd cc_1 (by decide)) (fun _ => ?_)
  refine lv_aload_n hx hb dX12_put_10 rfl (lv_at hl 0 rfl) ?_
  refine hk_get (ci := 15) (C := RX12) (T := TX12) (N := 92) (v := .ref (ad 23)) hx hb hts iX12 hown hw 0 rfl rfl 68 (by decide) (hts _ (List.mem_of_getElem? (i := 2) rfl)) rfl dX12_put_11 ?_
  refine lv_aload_n hx hb dX12_put_14 rfl (lv_at hl 0 rfl) ?_
  refine hk_get (ci := 15) (C := RX12) (T := TX12) (N := 92) (v := .int 10) hx hb hts iX12 hown hw 0 rfl rfl 69 (by decide) (hts _ (List.mem_of_getElem? (i := 1) rfl)) (congrArg (fun z => some (Value.int z)) h42) dX12_put_15 ?_
  refine lv_iload_n hx hb dX12_put_18 rfl (lv_at hl 1 rfl) ?_
  refine lv_sipush (v := 255) hx hb dX12_put_19 (by decide) ?_
  refine lv_iand hx hb dX12_put_22 ?_
  refine hk_iast hx hb hw 23 0 rfl rfl (show ¬ (_ ∨ _) by decide) dX12_put_23 (ws' := mw cI cJ ad g lg (va_up ar 22 (upd (ar 22) 10 (b &&& 255))) bk) rfl (fun H locs hw => ?_)
  refine lv_aload_n hx hb dX12_put_24 rfl (lv_at hl 0 rfl) ?_
  refine lv_dup hx hb dX12_put_25 rfl ?_
  refine hk_get (ci := 15) (C := RX12) (T := TX12) (N := 92) (v := .int 10) hx hb hts iX12 hown hw 0 rfl rfl 69 (by decide) (hts _ (List.mem_of_getElem? (i := 1) rfl)) (congrArg (fun z => some (Value.int z)) h42) dX12_put_26 ?_
  refine lv_iconst (v := 1) hx hb dX12_put_29 (by decide) ?_
  refine lv_iadd hx hb dX12_put_30 ?_
  refine hk_topi 11 (by decide +kernel) ?_
  refine hk_put (ci := 15) (C := RX12) (T := TX12) (N := 92) (ty := .int) (v := .int 11) hx hb hts iX12 tyX12 tyX12_ok nmX12 hown hw 0 rfl rfl 69 (by decide) (hts _ (List.mem_of_getElem? (i := 1) rfl)) rfl (by decide +kernel) rfl rfl (Nat.le_of_ble_eq_true rfl) dX12_put_31 (ws' := mw cI cJ ad (upd g 42 11) lg (va_up ar 22 (upd (ar 22) 10 (b &&& 255))) bk) rfl (fun H locs hw => ?_)
  exact hk_vret (u := (upd (ar 22) 10 (b &&& 255))) hx hb hr hlocks (hw) (trivial) dX12_put_34

def ww_cn_put11 : List Cond := Cond.code yX12_put cX12_put 2 none :: ([Cond.fieldLink RX12 391 "LzmaChainsModel" "rowSize" "I", Cond.fieldLink RX12 98 "LzmaChainsModel" "row" "[I"] ++ (wsX120 ++ ([])))
set_option maxHeartbeats 4000000 in
set_option maxRecDepth 100000 in
/-- the reference: put, it has 11 -/
theorem cn_put11 (l : Launch) (D : va_G) (cI cJ : ClassId) (ad : Nat → Nat) (g : Nat → Int32) (lg : Nat → Int64) (ar : Nat → Nat → Int32) (bk : Nat → Int64) (sz : Nat) (b : Int32) (h42 : g 42 = 11) : Met l yX12_put ww_cn_put11 { frames := 0, cells := 0, slots := 0, locals := 0 } (va_Pc [.ref (ad 0), .int b] (hk_B D [(cI, .int), (cJ, .long)] sz (mw cI cJ ad g lg ar bk))) (va_Qv (fun u : (Nat → Int32) => True) (fun u : (Nat → Int32) => hk_E D [(cI, .int), (cJ, .long)] (va_A (mw cI cJ ad g lg ar bk) sz) (mw cI cJ ad (upd g 42 12) lg (va_up ar 22 u) bk)) (va_A (mw cI cJ ad g lg ar bk) sz)) 0 0 (va_A (mw cI cJ ad g lg ar bk) sz) := by
  refine hk_met (cc := cX12_put) (maxL := 2) (ret := none) (by decide) rfl (Nat.le_of_ble_eq_true rfl) ?_
  intro p e s m below meth c ls hx hb hr hml hown hts hlocks hin hA hw hl
  have iX12 : ∀ w ∈ wsX120, w ∈ ww_cn_put11 := fun _ h => List.mem_cons_of_mem _ (List.mem_append_right _ (List.mem_append_left _ h))
  have hl : lv_has ls 2 [(0, .ref (ad 0)), (1, .int b)] := hl
  refine lv_aload_n hx hb dX12_put_0 rfl (lv_at hl 0 rfl) ?_
  refine hk_get (ci := 15) (C := RX12) (T := TX12) (N := 92) (v := .int 11) hx hb hts iX12 hown hw 0 rfl rfl 69 (by decide) (hts _ (List.mem_of_getElem? (i := 1) rfl)) (congrArg (fun z => some (Value.int z)) h42) dX12_put_1 ?_
  refine lv_sipush (v := 20000) hx hb dX12_put_4 (by decide) ?_
  refine lv_icmp_ge (tgt := 24) hx hb dX12_put_7 (by decide) (fun cc_1 => absurd cc_1 (by decide)) (fun _ => ?_)
  refine lv_aload_n hx hb dX12_put_10 rfl (lv_at hl 0 rfl) ?_
  refine hk_get (ci := 15) (C := RX12) (T := TX12) (N := 92) (v := .ref (ad 23)) hx hb hts iX12 hown hw 0 rfl rfl 68 (by decide) (hts _ (List.mem_of_getElem? (i := 2) rfl)) rfl dX12_put_11 ?_
  refine lv_aload_n hx hb dX12_put_14 rfl (lv_at hl 0 rfl) ?_
  refine hk_get (ci := 15) (C := RX12) (T := TX12) (N := 92) (v := .int 11) hx hb hts iX12 hown hw 0 rfl rfl 69 (by decide) (hts _ (List.mem_of_getElem? (i := 1) rfl)) (congrArg (fun z => some (Value.int z)) h42) dX12_put_15 ?_
  refine lv_iload_n hx hb dX12_put_18 rfl (lv_at hl 1 rfl) ?_
  refine lv_sipush (v := 255) hx hb dX12_put_19 (by decide) ?_
  refine lv_iand hx hb dX12_put_22 ?_
  refine hk_iast hx hb hw 23 0 rfl rfl (show ¬ (_ ∨ _) by decide) dX12_put_23 (ws' := mw cI cJ ad g lg (va_up ar 22 (upd (ar 22) 11 (b &&& 255))) bk) rfl (fun H locs hw => ?_)
  refine lv_aload_n hx hb dX12_put_24 rfl (lv_at hl 0 rfl) ?_
  refine lv_dup hx hb dX12_put_25 rfl ?_
  refine hk_get (ci := 15) (C := RX12) (T := TX12) (N := 92) (v := .int 11) hx hb hts iX12 hown hw 0 rfl rfl 69 (by decide) (hts _ (List.mem_of_getElem? (i := 1) rfl)) (congrArg (fun z => some (Value.int z)) h42) dX12_put_26 ?_
  refine lv_iconst (v := 1) hx hb dX12_put_29 (by decide) ?_
  refine lv_iadd hx hb dX12_put_30 ?_
  refine hk_topi 12 (by decide +kernel) ?_
  refine hk_put (ci := 15) (C := RX12) (T := TX12) (N := 92) (ty := .int) (v := .int 12) hx hb hts iX12 tyX12 tyX12_ok nmX12 hown hw 0 rfl rfl 69 (by decide) (hts _ (List.mem_of_getElem? (i := 1) rfl)) rfl (by decide +kernel) rfl rfl (Nat.le_of_ble_eq_true rfl) dX12_put_31 (ws' := mw cI cJ ad (upd g 42 12) lg (va_up ar 22 (upd (ar 22) 11 (b &&& 255))) bk) rfl (fun H locs hw => ?_)
  exact hk_vret (u := (upd (ar 22) 11 (b &&& 255))) hx hb hr hlocks (hw) (trivial) dX12_put_34

def ww_cn_put12 : List Cond := Cond.code yX12_put cX12_put 2 none :: ([Cond.fieldLink RX12 391 "LzmaChainsModel" "rowSize" "I", Cond.fieldLink RX12 98 "LzmaChainsModel" "row" "[I"] ++ (wsX120 ++ ([])))
set_option maxHeartbeats 4000000 in
set_option maxRecDepth 100000 in
/-- the reference: put, it has 12 -/
theorem cn_put12 (l : Launch) (D : va_G) (cI cJ : ClassId) (ad : Nat → Nat) (g : Nat → Int32) (lg : Nat → Int64) (ar : Nat → Nat → Int32) (bk : Nat → Int64) (sz : Nat) (b : Int32) (h42 : g 42 = 12) : Met l yX12_put ww_cn_put12 { frames := 0, cells := 0, slots := 0, locals := 0 } (va_Pc [.ref (ad 0), .int b] (hk_B D [(cI, .int), (cJ, .long)] sz (mw cI cJ ad g lg ar bk))) (va_Qv (fun u : (Nat → Int32) => True) (fun u : (Nat → Int32) => hk_E D [(cI, .int), (cJ, .long)] (va_A (mw cI cJ ad g lg ar bk) sz) (mw cI cJ ad (upd g 42 13) lg (va_up ar 22 u) bk)) (va_A (mw cI cJ ad g lg ar bk) sz)) 0 0 (va_A (mw cI cJ ad g lg ar bk) sz) := by
  refine hk_met (cc := cX12_put) (maxL := 2) (ret := none) (by decide) rfl (Nat.le_of_ble_eq_true rfl) ?_
  intro p e s m below meth c ls hx hb hr hml hown hts hlocks hin hA hw hl
  have iX12 : ∀ w ∈ wsX120, w ∈ ww_cn_put12 := fun _ h => List.mem_cons_of_mem _ (List.mem_append_right _ (List.mem_append_left _ h))
  have hl : lv_has ls 2 [(0, .ref (ad 0)), (1, .int b)] := hl
  refine lv_aload_n hx hb dX12_put_0 rfl (lv_at hl 0 rfl) ?_
  refine hk_get (ci := 15) (C := RX12) (T := TX12) (N := 92) (v := .int 12) hx hb hts iX12 hown hw 0 rfl rfl 69 (by decide) (hts _ (List.mem_of_getElem? (i := 1) rfl)) (congrArg (fun z => some (Value.int z)) h42) dX12_put_1 ?_
  refine lv_sipush (v := 20000) hx hb dX12_put_4 (by decide) ?_
  refine lv_icmp_ge (tgt := 24) hx hb dX12_put_7 (by decide) (fun cc_1 => absurd cc_1 (by decide)) (fun _ => ?_)
  refine lv_aload_n hx hb dX12_put_10 rfl (lv_at hl 0 rfl) ?_
  refine hk_get (ci := 15) (C := RX12) (T := TX12) (N := 92) (v := .ref (ad 23)) hx hb hts iX12 hown hw 0 rfl rfl 68 (by decide) (hts _ (List.mem_of_getElem? (i := 2) rfl)) rfl dX12_put_11 ?_
  refine lv_aload_n hx hb dX12_put_14 rfl (lv_at hl 0 rfl) ?_
  refine hk_get (ci := 15) (C := RX12) (T := TX12) (N := 92) (v := .int 12) hx hb hts iX12 hown hw 0 rfl rfl 69 (by decide) (hts _ (List.mem_of_getElem? (i := 1) rfl)) (congrArg (fun z => some (Value.int z)) h42) dX12_put_15 ?_
  refine lv_iload_n hx hb dX12_put_18 rfl (lv_at hl 1 rfl) ?_
  refine lv_sipush (v := 255) hx hb dX12_put_19 (by decide) ?_
  refine lv_iand hx hb dX12_put_22 ?_
  refine hk_iast hx hb hw 23 0 rfl rfl (show ¬ (_ ∨ _) by decide) dX12_put_23 (ws' := mw cI cJ ad g lg (va_up ar 22 (upd (ar 22) 12 (b &&& 255))) bk) rfl (fun H locs hw => ?_)
  refine lv_aload_n hx hb dX12_put_24 rfl (lv_at hl 0 rfl) ?_
  refine lv_dup hx hb dX12_put_25 rfl ?_
  refine hk_get (ci := 15) (C := RX12) (T := TX12) (N := 92) (v := .int 12) hx hb hts iX12 hown hw 0 rfl rfl 69 (by decide) (hts _ (List.mem_of_getElem? (i := 1) rfl)) (congrArg (fun z => some (Value.int z)) h42) dX12_put_26 ?_
  refine lv_iconst (v := 1) hx hb dX12_put_29 (by decide) ?_
  refine lv_iadd hx hb dX12_put_30 ?_
  refine hk_topi 13 (by decide +kernel) ?_
  refine hk_put (ci := 15) (C := RX12) (T := TX12) (N := 92) (ty := .int) (v := .int 13) hx hb hts iX12 tyX12 tyX12_ok nmX12 hown hw 0 rfl rfl 69 (by decide) (hts _ (List.mem_of_getElem? (i := 1) rfl)) rfl (by decide +kernel) rfl rfl (Nat.le_of_ble_eq_true rfl) dX12_put_31 (ws' := mw cI cJ ad (upd g 42 13) lg (va_up ar 22 (upd (ar 22) 12 (b &&& 255))) bk) rfl (fun H locs hw => ?_)
  exact hk_vret (u := (upd (ar 22) 12 (b &&& 255))) hx hb hr hlocks (hw) (trivial) dX12_put_34

def ww_cn_put13 : List Cond := Cond.code yX12_put cX12_put 2 none :: ([Cond.fieldLink RX12 391 "LzmaChainsModel" "rowSize" "I", Cond.fieldLink RX12 98 "LzmaChainsModel" "row" "[I"] ++ (wsX120 ++ ([])))
set_option maxHeartbeats 4000000 in
set_option maxRecDepth 100000 in
/-- the reference: put, it has 13 -/
theorem cn_put13 (l : Launch) (D : va_G) (cI cJ : ClassId) (ad : Nat → Nat) (g : Nat → Int32) (lg : Nat → Int64) (ar : Nat → Nat → Int32) (bk : Nat → Int64) (sz : Nat) (b : Int32) (h42 : g 42 = 13) : Met l yX12_put ww_cn_put13 { frames := 0, cells := 0, slots := 0, locals := 0 } (va_Pc [.ref (ad 0), .int b] (hk_B D [(cI, .int), (cJ, .long)] sz (mw cI cJ ad g lg ar bk))) (va_Qv (fun u : (Nat → Int32) => True) (fun u : (Nat → Int32) => hk_E D [(cI, .int), (cJ, .long)] (va_A (mw cI cJ ad g lg ar bk) sz) (mw cI cJ ad (upd g 42 14) lg (va_up ar 22 u) bk)) (va_A (mw cI cJ ad g lg ar bk) sz)) 0 0 (va_A (mw cI cJ ad g lg ar bk) sz) := by
  refine hk_met (cc := cX12_put) (maxL := 2) (ret := none) (by decide) rfl (Nat.le_of_ble_eq_true rfl) ?_
  intro p e s m below meth c ls hx hb hr hml hown hts hlocks hin hA hw hl
  have iX12 : ∀ w ∈ wsX120, w ∈ ww_cn_put13 := fun _ h => List.mem_cons_of_mem _ (List.mem_append_right _ (List.mem_append_left _ h))
  have hl : lv_has ls 2 [(0, .ref (ad 0)), (1, .int b)] := hl
  refine lv_aload_n hx hb dX12_put_0 rfl (lv_at hl 0 rfl) ?_
  refine hk_get (ci := 15) (C := RX12) (T := TX12) (N := 92) (v := .int 13) hx hb hts iX12 hown hw 0 rfl rfl 69 (by decide) (hts _ (List.mem_of_getElem? (i := 1) rfl)) (congrArg (fun z => some (Value.int z)) h42) dX12_put_1 ?_
  refine lv_sipush (v := 20000) hx hb dX12_put_4 (by decide) ?_
  refine lv_icmp_ge (tgt := 24) hx hb dX12_put_7 (by decide) (fun cc_1 => absurd cc_1 (by decide)) (fun _ => ?_)
  refine lv_aload_n hx hb dX12_put_10 rfl (lv_at hl 0 rfl) ?_
  refine hk_get (ci := 15) (C := RX12) (T := TX12) (N := 92) (v := .ref (ad 23)) hx hb hts iX12 hown hw 0 rfl rfl 68 (by decide) (hts _ (List.mem_of_getElem? (i := 2) rfl)) rfl dX12_put_11 ?_
  refine lv_aload_n hx hb dX12_put_14 rfl (lv_at hl 0 rfl) ?_
  refine hk_get (ci := 15) (C := RX12) (T := TX12) (N := 92) (v := .int 13) hx hb hts iX12 hown hw 0 rfl rfl 69 (by decide) (hts _ (List.mem_of_getElem? (i := 1) rfl)) (congrArg (fun z => some (Value.int z)) h42) dX12_put_15 ?_
  refine lv_iload_n hx hb dX12_put_18 rfl (lv_at hl 1 rfl) ?_
  refine lv_sipush (v := 255) hx hb dX12_put_19 (by decide) ?_
  refine lv_iand hx hb dX12_put_22 ?_
  refine hk_iast hx hb hw 23 0 rfl rfl (show ¬ (_ ∨ _) by decide) dX12_put_23 (ws' := mw cI cJ ad g lg (va_up ar 22 (upd (ar 22) 13 (b &&& 255))) bk) rfl (fun H locs hw => ?_)
  refine lv_aload_n hx hb dX12_put_24 rfl (lv_at hl 0 rfl) ?_
  refine lv_dup hx hb dX12_put_25 rfl ?_
  refine hk_get (ci := 15) (C := RX12) (T := TX12) (N := 92) (v := .int 13) hx hb hts iX12 hown hw 0 rfl rfl 69 (by decide) (hts _ (List.mem_of_getElem? (i := 1) rfl)) (congrArg (fun z => some (Value.int z)) h42) dX12_put_26 ?_
  refine lv_iconst (v := 1) hx hb dX12_put_29 (by decide) ?_
  refine lv_iadd hx hb dX12_put_30 ?_
  refine hk_topi 14 (by decide +kernel) ?_
  refine hk_put (ci := 15) (C := RX12) (T := TX12) (N := 92) (ty := .int) (v := .int 14) hx hb hts iX12 tyX12 tyX12_ok nmX12 hown hw 0 rfl rfl 69 (by decide) (hts _ (List.mem_of_getElem? (i := 1) rfl)) rfl (by decide +kernel) rfl rfl (Nat.le_of_ble_eq_true rfl) dX12_put_31 (ws' := mw cI cJ ad (upd g 42 14) lg (va_up ar 22 (upd (ar 22) 13 (b &&& 255))) bk) rfl (fun H locs hw => ?_)
  exact hk_vret (u := (upd (ar 22) 13 (b &&& 255))) hx hb hr hlocks (hw) (trivial) dX12_put_34

def ww_cn_put14 : List Cond := Cond.code yX12_put cX12_put 2 none :: ([Cond.fieldLink RX12 391 "LzmaChainsModel" "rowSize" "I", Cond.fieldLink RX12 98 "LzmaChainsModel" "row" "[I"] ++ (wsX120 ++ ([])))
set_option maxHeartbeats 4000000 in
set_option maxRecDepth 100000 in
/-- the reference: put, it has 14 -/
theorem cn_put14 (l : Launch) (D : va_G) (cI cJ : ClassId) (ad : Nat → Nat) (g : Nat → Int32) (lg : Nat → Int64) (ar : Nat → Nat → Int32) (bk : Nat → Int64) (sz : Nat) (b : Int32) (h42 : g 42 = 14) : Met l yX12_put ww_cn_put14 { frames := 0, cells := 0, slots := 0, locals := 0 } (va_Pc [.ref (ad 0), .int b] (hk_B D [(cI, .int), (cJ, .long)] sz (mw cI cJ ad g lg ar bk))) (va_Qv (fun u : (Nat → Int32) => True) (fun u : (Nat → Int32) => hk_E D [(cI, .int), (cJ, .long)] (va_A (mw cI cJ ad g lg ar bk) sz) (mw cI cJ ad (upd g 42 15) lg (va_up ar 22 u) bk)) (va_A (mw cI cJ ad g lg ar bk) sz)) 0 0 (va_A (mw cI cJ ad g lg ar bk) sz) := by
  refine hk_met (cc := cX12_put) (maxL := 2) (ret := none) (by decide) rfl (Nat.le_of_ble_eq_true rfl) ?_
  intro p e s m below meth c ls hx hb hr hml hown hts hlocks hin hA hw hl
  have iX12 : ∀ w ∈ wsX120, w ∈ ww_cn_put14 := fun _ h => List.mem_cons_of_mem _ (List.mem_append_right _ (List.mem_append_left _ h))
  have hl : lv_has ls 2 [(0, .ref (ad 0)), (1, .int b)] := hl
  refine lv_aload_n hx hb dX12_put_0 rfl (lv_at hl 0 rfl) ?_
  refine hk_get (ci := 15) (C := RX12) (T := TX12) (N := 92) (v := .int 14) hx hb hts iX12 hown hw 0 rfl rfl 69 (by decide) (hts _ (List.mem_of_getElem? (i := 1) rfl)) (congrArg (fun z => some (Value.int z)) h42) dX12_put_1 ?_
  refine lv_sipush (v := 20000) hx hb dX12_put_4 (by decide) ?_
  refine lv_icmp_ge (tgt := 24) hx hb dX12_put_7 (by decide) (fun cc_1 => absurd cc_1 (by decide)) (fun _ => ?_)
  refine lv_aload_n hx hb dX12_put_10 rfl (lv_at hl 0 rfl) ?_
  refine hk_get (ci := 15) (C := RX12) (T := TX12) (N := 92) (v := .ref (ad 23)) hx hb hts iX12 hown hw 0 rfl rfl 68 (by decide) (hts _ (List.mem_of_getElem? (i := 2) rfl)) rfl dX12_put_11 ?_
  refine lv_aload_n hx hb dX12_put_14 rfl (lv_at hl 0 rfl) ?_
  refine hk_get (ci := 15) (C := RX12) (T := TX12) (N := 92) (v := .int 14) hx hb hts iX12 hown hw 0 rfl rfl 69 (by decide) (hts _ (List.mem_of_getElem? (i := 1) rfl)) (congrArg (fun z => some (Value.int z)) h42) dX12_put_15 ?_
  refine lv_iload_n hx hb dX12_put_18 rfl (lv_at hl 1 rfl) ?_
  refine lv_sipush (v := 255) hx hb dX12_put_19 (by decide) ?_
  refine lv_iand hx hb dX12_put_22 ?_
  refine hk_iast hx hb hw 23 0 rfl rfl (show ¬ (_ ∨ _) by decide) dX12_put_23 (ws' := mw cI cJ ad g lg (va_up ar 22 (upd (ar 22) 14 (b &&& 255))) bk) rfl (fun H locs hw => ?_)
  refine lv_aload_n hx hb dX12_put_24 rfl (lv_at hl 0 rfl) ?_
  refine lv_dup hx hb dX12_put_25 rfl ?_
  refine hk_get (ci := 15) (C := RX12) (T := TX12) (N := 92) (v := .int 14) hx hb hts iX12 hown hw 0 rfl rfl 69 (by decide) (hts _ (List.mem_of_getElem? (i := 1) rfl)) (congrArg (fun z => some (Value.int z)) h42) dX12_put_26 ?_
  refine lv_iconst (v := 1) hx hb dX12_put_29 (by decide) ?_
  refine lv_iadd hx hb dX12_put_30 ?_
  refine hk_topi 15 (by decide +kernel) ?_
  refine hk_put (ci := 15) (C := RX12) (T := TX12) (N := 92) (ty := .int) (v := .int 15) hx hb hts iX12 tyX12 tyX12_ok nmX12 hown hw 0 rfl rfl 69 (by decide) (hts _ (List.mem_of_getElem? (i := 1) rfl)) rfl (by decide +kernel) rfl rfl (Nat.le_of_ble_eq_true rfl) dX12_put_31 (ws' := mw cI cJ ad (upd g 42 15) lg (va_up ar 22 (upd (ar 22) 14 (b &&& 255))) bk) rfl (fun H locs hw => ?_)
  exact hk_vret (u := (upd (ar 22) 14 (b &&& 255))) hx hb hr hlocks (hw) (trivial) dX12_put_34

def ww_cn_put15 : List Cond := Cond.code yX12_put cX12_put 2 none :: ([Cond.fieldLink RX12 391 "LzmaChainsModel" "rowSize" "I", Cond.fieldLink RX12 98 "LzmaChainsModel" "row" "[I"] ++ (wsX120 ++ ([])))
set_option maxHeartbeats 4000000 in
set_option maxRecDepth 100000 in
/-- the reference: put, it has 15 -/
theorem cn_put15 (l : Launch) (D : va_G) (cI cJ : ClassId) (ad : Nat → Nat) (g : Nat → Int32) (lg : Nat → Int64) (ar : Nat → Nat → Int32) (bk : Nat → Int64) (sz : Nat) (b : Int32) (h42 : g 42 = 15) : Met l yX12_put ww_cn_put15 { frames := 0, cells := 0, slots := 0, locals := 0 } (va_Pc [.ref (ad 0), .int b] (hk_B D [(cI, .int), (cJ, .long)] sz (mw cI cJ ad g lg ar bk))) (va_Qv (fun u : (Nat → Int32) => True) (fun u : (Nat → Int32) => hk_E D [(cI, .int), (cJ, .long)] (va_A (mw cI cJ ad g lg ar bk) sz) (mw cI cJ ad (upd g 42 16) lg (va_up ar 22 u) bk)) (va_A (mw cI cJ ad g lg ar bk) sz)) 0 0 (va_A (mw cI cJ ad g lg ar bk) sz) := by
  refine hk_met (cc := cX12_put) (maxL := 2) (ret := none) (by decide) rfl (Nat.le_of_ble_eq_true rfl) ?_
  intro p e s m below meth c ls hx hb hr hml hown hts hlocks hin hA hw hl
  have iX12 : ∀ w ∈ wsX120, w ∈ ww_cn_put15 := fun _ h => List.mem_cons_of_mem _ (List.mem_append_right _ (List.mem_append_left _ h))
  have hl : lv_has ls 2 [(0, .ref (ad 0)), (1, .int b)] := hl
  refine lv_aload_n hx hb dX12_put_0 rfl (lv_at hl 0 rfl) ?_
  refine hk_get (ci := 15) (C := RX12) (T := TX12) (N := 92) (v := .int 15) hx hb hts iX12 hown hw 0 rfl rfl 69 (by decide) (hts _ (List.mem_of_getElem? (i := 1) rfl)) (congrArg (fun z => some (Value.int z)) h42) dX12_put_1 ?_
  refine lv_sipush (v := 20000) hx hb dX12_put_4 (by decide) ?_
  refine lv_icmp_ge (tgt := 24) hx hb dX12_put_7 (by decide) (fun cc_1 => absurd cc_1 (by decide)) (fun _ => ?_)
  refine lv_aload_n hx hb dX12_put_10 rfl (lv_at hl 0 rfl) ?_
  refine hk_get (ci := 15) (C := RX12) (T := TX12) (N := 92) (v := .ref (ad 23)) hx hb hts iX12 hown hw 0 rfl rfl 68 (by decide) (hts _ (List.mem_of_getElem? (i := 2) rfl)) rfl dX12_put_11 ?_
  refine lv_aload_n hx hb dX12_put_14 rfl (lv_at hl 0 rfl) ?_
  refine hk_get (ci := 15) (C := RX12) (T := TX12) (N := 92) (v := .int 15) hx hb hts iX12 hown hw 0 rfl rfl 69 (by decide) (hts _ (List.mem_of_getElem? (i := 1) rfl)) (congrArg (fun z => some (Value.int z)) h42) dX12_put_15 ?_
  refine lv_iload_n hx hb dX12_put_18 rfl (lv_at hl 1 rfl) ?_
  refine lv_sipush (v := 255) hx hb dX12_put_19 (by decide) ?_
  refine lv_iand hx hb dX12_put_22 ?_
  refine hk_iast hx hb hw 23 0 rfl rfl (show ¬ (_ ∨ _) by decide) dX12_put_23 (ws' := mw cI cJ ad g lg (va_up ar 22 (upd (ar 22) 15 (b &&& 255))) bk) rfl (fun H locs hw => ?_)
  refine lv_aload_n hx hb dX12_put_24 rfl (lv_at hl 0 rfl) ?_
  refine lv_dup hx hb dX12_put_25 rfl ?_
  refine hk_get (ci := 15) (C := RX12) (T := TX12) (N := 92) (v := .int 15) hx hb hts iX12 hown hw 0 rfl rfl 69 (by decide) (hts _ (List.mem_of_getElem? (i := 1) rfl)) (congrArg (fun z => some (Value.int z)) h42) dX12_put_26 ?_
  refine lv_iconst (v := 1) hx hb dX12_put_29 (by decide) ?_
  refine lv_iadd hx hb dX12_put_30 ?_
  refine hk_topi 16 (by decide +kernel) ?_
  refine hk_put (ci := 15) (C := RX12) (T := TX12) (N := 92) (ty := .int) (v := .int 16) hx hb hts iX12 tyX12 tyX12_ok nmX12 hown hw 0 rfl rfl 69 (by decide) (hts _ (List.mem_of_getElem? (i := 1) rfl)) rfl (by decide +kernel) rfl rfl (Nat.le_of_ble_eq_true rfl) dX12_put_31 (ws' := mw cI cJ ad (upd g 42 16) lg (va_up ar 22 (upd (ar 22) 15 (b &&& 255))) bk) rfl (fun H locs hw => ?_)
  exact hk_vret (u := (upd (ar 22) 15 (b &&& 255))) hx hb hr hlocks (hw) (trivial) dX12_put_34

def ww_cn_put16 : List Cond := Cond.code yX12_put cX12_put 2 none :: ([Cond.fieldLink RX12 391 "LzmaChainsModel" "rowSize" "I", Cond.fieldLink RX12 98 "LzmaChainsModel" "row" "[I"] ++ (wsX120 ++ ([])))
set_option maxHeartbeats 4000000 in
set_option maxRecDepth 100000 in
/-- the reference: put, it has 16 -/
theorem cn_put16 (l : Launch) (D : va_G) (cI cJ : ClassId) (ad : Nat → Nat) (g : Nat → Int32) (lg : Nat → Int64) (ar : Nat → Nat → Int32) (bk : Nat → Int64) (sz : Nat) (b : Int32) (h42 : g 42 = 16) : Met l yX12_put ww_cn_put16 { frames := 0, cells := 0, slots := 0, locals := 0 } (va_Pc [.ref (ad 0), .int b] (hk_B D [(cI, .int), (cJ, .long)] sz (mw cI cJ ad g lg ar bk))) (va_Qv (fun u : (Nat → Int32) => True) (fun u : (Nat → Int32) => hk_E D [(cI, .int), (cJ, .long)] (va_A (mw cI cJ ad g lg ar bk) sz) (mw cI cJ ad (upd g 42 17) lg (va_up ar 22 u) bk)) (va_A (mw cI cJ ad g lg ar bk) sz)) 0 0 (va_A (mw cI cJ ad g lg ar bk) sz) := by
  refine hk_met (cc := cX12_put) (maxL := 2) (ret := none) (by decide) rfl (Nat.le_of_ble_eq_true rfl) ?_
  intro p e s m below meth c ls hx hb hr hml hown hts hlocks hin hA hw hl
  have iX12 : ∀ w ∈ wsX120, w ∈ ww_cn_put16 := fun _ h => List.mem_cons_of_mem _ (List.mem_append_right _ (List.mem_append_left _ h))
  have hl : lv_has ls 2 [(0, .ref (ad 0)), (1, .int b)] := hl
  refine lv_aload_n hx hb dX12_put_0 rfl (lv_at hl 0 rfl) ?_
  refine hk_get (ci := 15) (C := RX12) (T := TX12) (N := 92) (v := .int 16) hx hb hts iX12 hown hw 0 rfl rfl 69 (by decide) (hts _ (List.mem_of_getElem? (i := 1) rfl)) (congrArg (fun z => some (Value.int z)) h42) dX12_put_1 ?_
  refine lv_sipush (v := 20000) hx hb dX12_put_4 (by decide) ?_
  refine lv_icmp_ge (tgt := 24) hx hb dX12_put_7 (by decide) (fun cc_1 => absurd cc_1 (by decide)) (fun _ => ?_)
  refine lv_aload_n hx hb dX12_put_10 rfl (lv_at hl 0 rfl) ?_
  refine hk_get (ci := 15) (C := RX12) (T := TX12) (N := 92) (v := .ref (ad 23)) hx hb hts iX12 hown hw 0 rfl rfl 68 (by decide) (hts _ (List.mem_of_getElem? (i := 2) rfl)) rfl dX12_put_11 ?_
  refine lv_aload_n hx hb dX12_put_14 rfl (lv_at hl 0 rfl) ?_
  refine hk_get (ci := 15) (C := RX12) (T := TX12) (N := 92) (v := .int 16) hx hb hts iX12 hown hw 0 rfl rfl 69 (by decide) (hts _ (List.mem_of_getElem? (i := 1) rfl)) (congrArg (fun z => some (Value.int z)) h42) dX12_put_15 ?_
  refine lv_iload_n hx hb dX12_put_18 rfl (lv_at hl 1 rfl) ?_
  refine lv_sipush (v := 255) hx hb dX12_put_19 (by decide) ?_
  refine lv_iand hx hb dX12_put_22 ?_
  refine hk_iast hx hb hw 23 0 rfl rfl (show ¬ (_ ∨ _) by decide) dX12_put_23 (ws' := mw cI cJ ad g lg (va_up ar 22 (upd (ar 22) 16 (b &&& 255))) bk) rfl (fun H locs hw => ?_)
  refine lv_aload_n hx hb dX12_put_24 rfl (lv_at hl 0 rfl) ?_
  refine lv_dup hx hb dX12_put_25 rfl ?_
  refine hk_get (ci := 15) (C := RX12) (T := TX12) (N := 92) (v := .int 16) hx hb hts iX12 hown hw 0 rfl rfl 69 (by decide) (hts _ (List.mem_of_getElem? (i := 1) rfl)) (congrArg (fun z => some (Value.int z)) h42) dX12_put_26 ?_
  refine lv_iconst (v := 1) hx hb dX12_put_29 (by decide) ?_
  refine lv_iadd hx hb dX12_put_30 ?_
  refine hk_topi 17 (by decide +kernel) ?_
  refine hk_put (ci := 15) (C := RX12) (T := TX12) (N := 92) (ty := .int) (v := .int 17) hx hb hts iX12 tyX12 tyX12_ok nmX12 hown hw 0 rfl rfl 69 (by decide) (hts _ (List.mem_of_getElem? (i := 1) rfl)) rfl (by decide +kernel) rfl rfl (Nat.le_of_ble_eq_true rfl) dX12_put_31 (ws' := mw cI cJ ad (upd g 42 17) lg (va_up ar 22 (upd (ar 22) 16 (b &&& 255))) bk) rfl (fun H locs hw => ?_)
  exact hk_vret (u := (upd (ar 22) 16 (b &&& 255))) hx hb hr hlocks (hw) (trivial) dX12_put_34

def ww_cn_put17 : List Cond := Cond.code yX12_put cX12_put 2 none :: ([Cond.fieldLink RX12 391 "LzmaChainsModel" "rowSize" "I", Cond.fieldLink RX12 98 "LzmaChainsModel" "row" "[I"] ++ (wsX120 ++ ([])))
set_option maxHeartbeats 4000000 in
set_option maxRecDepth 100000 in
/-- the reference: put, it has 17 -/
theorem cn_put17 (l : Launch) (D : va_G) (cI cJ : ClassId) (ad : Nat → Nat) (g : Nat → Int32) (lg : Nat → Int64) (ar : Nat → Nat → Int32) (bk : Nat → Int64) (sz : Nat) (b : Int32) (h42 : g 42 = 17) : Met l yX12_put ww_cn_put17 { frames := 0, cells := 0, slots := 0, locals := 0 } (va_Pc [.ref (ad 0), .int b] (hk_B D [(cI, .int), (cJ, .long)] sz (mw cI cJ ad g lg ar bk))) (va_Qv (fun u : (Nat → Int32) => True) (fun u : (Nat → Int32) => hk_E D [(cI, .int), (cJ, .long)] (va_A (mw cI cJ ad g lg ar bk) sz) (mw cI cJ ad (upd g 42 18) lg (va_up ar 22 u) bk)) (va_A (mw cI cJ ad g lg ar bk) sz)) 0 0 (va_A (mw cI cJ ad g lg ar bk) sz) := by
  refine hk_met (cc := cX12_put) (maxL := 2) (ret := none) (by decide) rfl (Nat.le_of_ble_eq_true rfl) ?_
  intro p e s m below meth c ls hx hb hr hml hown hts hlocks hin hA hw hl
  have iX12 : ∀ w ∈ wsX120, w ∈ ww_cn_put17 := fun _ h => List.mem_cons_of_mem _ (List.mem_append_right _ (List.mem_append_left _ h))
  have hl : lv_has ls 2 [(0, .ref (ad 0)), (1, .int b)] := hl
  refine lv_aload_n hx hb dX12_put_0 rfl (lv_at hl 0 rfl) ?_
  refine hk_get (ci := 15) (C := RX12) (T := TX12) (N := 92) (v := .int 17) hx hb hts iX12 hown hw 0 rfl rfl 69 (by decide) (hts _ (List.mem_of_getElem? (i := 1) rfl)) (congrArg (fun z => some (Value.int z)) h42) dX12_put_1 ?_
  refine lv_sipush (v := 20000) hx hb dX12_put_4 (by decide) ?_
  refine lv_icmp_ge (tgt := 24) hx hb dX12_put_7 (by decide) (fun cc_1 => absurd cc_1 (by decide)) (fun _ => ?_)
  refine lv_aload_n hx hb dX12_put_10 rfl (lv_at hl 0 rfl) ?_
  refine hk_get (ci := 15) (C := RX12) (T := TX12) (N := 92) (v := .ref (ad 23)) hx hb hts iX12 hown hw 0 rfl rfl 68 (by decide) (hts _ (List.mem_of_getElem? (i := 2) rfl)) rfl dX12_put_11 ?_
  refine lv_aload_n hx hb dX12_put_14 rfl (lv_at hl 0 rfl) ?_
  refine hk_get (ci := 15) (C := RX12) (T := TX12) (N := 92) (v := .int 17) hx hb hts iX12 hown hw 0 rfl rfl 69 (by decide) (hts _ (List.mem_of_getElem? (i := 1) rfl)) (congrArg (fun z => some (Value.int z)) h42) dX12_put_15 ?_
  refine lv_iload_n hx hb dX12_put_18 rfl (lv_at hl 1 rfl) ?_
  refine lv_sipush (v := 255) hx hb dX12_put_19 (by decide) ?_
  refine lv_iand hx hb dX12_put_22 ?_
  refine hk_iast hx hb hw 23 0 rfl rfl (show ¬ (_ ∨ _) by decide) dX12_put_23 (ws' := mw cI cJ ad g lg (va_up ar 22 (upd (ar 22) 17 (b &&& 255))) bk) rfl (fun H locs hw => ?_)
  refine lv_aload_n hx hb dX12_put_24 rfl (lv_at hl 0 rfl) ?_
  refine lv_dup hx hb dX12_put_25 rfl ?_
  refine hk_get (ci := 15) (C := RX12) (T := TX12) (N := 92) (v := .int 17) hx hb hts iX12 hown hw 0 rfl rfl 69 (by decide) (hts _ (List.mem_of_getElem? (i := 1) rfl)) (congrArg (fun z => some (Value.int z)) h42) dX12_put_26 ?_
  refine lv_iconst (v := 1) hx hb dX12_put_29 (by decide) ?_
  refine lv_iadd hx hb dX12_put_30 ?_
  refine hk_topi 18 (by decide +kernel) ?_
  refine hk_put (ci := 15) (C := RX12) (T := TX12) (N := 92) (ty := .int) (v := .int 18) hx hb hts iX12 tyX12 tyX12_ok nmX12 hown hw 0 rfl rfl 69 (by decide) (hts _ (List.mem_of_getElem? (i := 1) rfl)) rfl (by decide +kernel) rfl rfl (Nat.le_of_ble_eq_true rfl) dX12_put_31 (ws' := mw cI cJ ad (upd g 42 18) lg (va_up ar 22 (upd (ar 22) 17 (b &&& 255))) bk) rfl (fun H locs hw => ?_)
  exact hk_vret (u := (upd (ar 22) 17 (b &&& 255))) hx hb hr hlocks (hw) (trivial) dX12_put_34

def ww_cn_put18 : List Cond := Cond.code yX12_put cX12_put 2 none :: ([Cond.fieldLink RX12 391 "LzmaChainsModel" "rowSize" "I", Cond.fieldLink RX12 98 "LzmaChainsModel" "row" "[I"] ++ (wsX120 ++ ([])))
set_option maxHeartbeats 4000000 in
set_option maxRecDepth 100000 in
/-- the reference: put, it has 18 -/
theorem cn_put18 (l : Launch) (D : va_G) (cI cJ : ClassId) (ad : Nat → Nat) (g : Nat → Int32) (lg : Nat → Int64) (ar : Nat → Nat → Int32) (bk : Nat → Int64) (sz : Nat) (b : Int32) (h42 : g 42 = 18) : Met l yX12_put ww_cn_put18 { frames := 0, cells := 0, slots := 0, locals := 0 } (va_Pc [.ref (ad 0), .int b] (hk_B D [(cI, .int), (cJ, .long)] sz (mw cI cJ ad g lg ar bk))) (va_Qv (fun u : (Nat → Int32) => True) (fun u : (Nat → Int32) => hk_E D [(cI, .int), (cJ, .long)] (va_A (mw cI cJ ad g lg ar bk) sz) (mw cI cJ ad (upd g 42 19) lg (va_up ar 22 u) bk)) (va_A (mw cI cJ ad g lg ar bk) sz)) 0 0 (va_A (mw cI cJ ad g lg ar bk) sz) := by
  refine hk_met (cc := cX12_put) (maxL := 2) (ret := none) (by decide) rfl (Nat.le_of_ble_eq_true rfl) ?_
  intro p e s m below meth c ls hx hb hr hml hown hts hlocks hin hA hw hl
  have iX12 : ∀ w ∈ wsX120, w ∈ ww_cn_put18 := fun _ h => List.mem_cons_of_mem _ (List.mem_append_right _ (List.mem_append_left _ h))
  have hl : lv_has ls 2 [(0, .ref (ad 0)), (1, .int b)] := hl
  refine lv_aload_n hx hb dX12_put_0 rfl (lv_at hl 0 rfl) ?_
  refine hk_get (ci := 15) (C := RX12) (T := TX12) (N := 92) (v := .int 18) hx hb hts iX12 hown hw 0 rfl rfl 69 (by decide) (hts _ (List.mem_of_getElem? (i := 1) rfl)) (congrArg (fun z => some (Value.int z)) h42) dX12_put_1 ?_
  refine lv_sipush (v := 20000) hx hb dX12_put_4 (by decide) ?_
  refine lv_icmp_ge (tgt := 24) hx hb dX12_put_7 (by decide) (fun cc_1 => absurd cc_1 (by decide)) (fun _ => ?_)
  refine lv_aload_n hx hb dX12_put_10 rfl (lv_at hl 0 rfl) ?_
  refine hk_get (ci := 15) (C := RX12) (T := TX12) (N := 92) (v := .ref (ad 23)) hx hb hts iX12 hown hw 0 rfl rfl 68 (by decide) (hts _ (List.mem_of_getElem? (i := 2) rfl)) rfl dX12_put_11 ?_
  refine lv_aload_n hx hb dX12_put_14 rfl (lv_at hl 0 rfl) ?_
  refine hk_get (ci := 15) (C := RX12) (T := TX12) (N := 92) (v := .int 18) hx hb hts iX12 hown hw 0 rfl rfl 69 (by decide) (hts _ (List.mem_of_getElem? (i := 1) rfl)) (congrArg (fun z => some (Value.int z)) h42) dX12_put_15 ?_
  refine lv_iload_n hx hb dX12_put_18 rfl (lv_at hl 1 rfl) ?_
  refine lv_sipush (v := 255) hx hb dX12_put_19 (by decide) ?_
  refine lv_iand hx hb dX12_put_22 ?_
  refine hk_iast hx hb hw 23 0 rfl rfl (show ¬ (_ ∨ _) by decide) dX12_put_23 (ws' := mw cI cJ ad g lg (va_up ar 22 (upd (ar 22) 18 (b &&& 255))) bk) rfl (fun H locs hw => ?_)
  refine lv_aload_n hx hb dX12_put_24 rfl (lv_at hl 0 rfl) ?_
  refine lv_dup hx hb dX12_put_25 rfl ?_
  refine hk_get (ci := 15) (C := RX12) (T := TX12) (N := 92) (v := .int 18) hx hb hts iX12 hown hw 0 rfl rfl 69 (by decide) (hts _ (List.mem_of_getElem? (i := 1) rfl)) (congrArg (fun z => some (Value.int z)) h42) dX12_put_26 ?_
  refine lv_iconst (v := 1) hx hb dX12_put_29 (by decide) ?_
  refine lv_iadd hx hb dX12_put_30 ?_
  refine hk_topi 19 (by decide +kernel) ?_
  refine hk_put (ci := 15) (C := RX12) (T := TX12) (N := 92) (ty := .int) (v := .int 19) hx hb hts iX12 tyX12 tyX12_ok nmX12 hown hw 0 rfl rfl 69 (by decide) (hts _ (List.mem_of_getElem? (i := 1) rfl)) rfl (by decide +kernel) rfl rfl (Nat.le_of_ble_eq_true rfl) dX12_put_31 (ws' := mw cI cJ ad (upd g 42 19) lg (va_up ar 22 (upd (ar 22) 18 (b &&& 255))) bk) rfl (fun H locs hw => ?_)
  exact hk_vret (u := (upd (ar 22) 18 (b &&& 255))) hx hb hr hlocks (hw) (trivial) dX12_put_34

def ww_cn_put19 : List Cond := Cond.code yX12_put cX12_put 2 none :: ([Cond.fieldLink RX12 391 "LzmaChainsModel" "rowSize" "I", Cond.fieldLink RX12 98 "LzmaChainsModel" "row" "[I"] ++ (wsX120 ++ ([])))
set_option maxHeartbeats 4000000 in
set_option maxRecDepth 100000 in
/-- the reference: put, it has 19 -/
theorem cn_put19 (l : Launch) (D : va_G) (cI cJ : ClassId) (ad : Nat → Nat) (g : Nat → Int32) (lg : Nat → Int64) (ar : Nat → Nat → Int32) (bk : Nat → Int64) (sz : Nat) (b : Int32) (h42 : g 42 = 19) : Met l yX12_put ww_cn_put19 { frames := 0, cells := 0, slots := 0, locals := 0 } (va_Pc [.ref (ad 0), .int b] (hk_B D [(cI, .int), (cJ, .long)] sz (mw cI cJ ad g lg ar bk))) (va_Qv (fun u : (Nat → Int32) => True) (fun u : (Nat → Int32) => hk_E D [(cI, .int), (cJ, .long)] (va_A (mw cI cJ ad g lg ar bk) sz) (mw cI cJ ad (upd g 42 20) lg (va_up ar 22 u) bk)) (va_A (mw cI cJ ad g lg ar bk) sz)) 0 0 (va_A (mw cI cJ ad g lg ar bk) sz) := by
  refine hk_met (cc := cX12_put) (maxL := 2) (ret := none) (by decide) rfl (Nat.le_of_ble_eq_true rfl) ?_
  intro p e s m below meth c ls hx hb hr hml hown hts hlocks hin hA hw hl
  have iX12 : ∀ w ∈ wsX120, w ∈ ww_cn_put19 := fun _ h => List.mem_cons_of_mem _ (List.mem_append_right _ (List.mem_append_left _ h))
  have hl : lv_has ls 2 [(0, .ref (ad 0)), (1, .int b)] := hl
  refine lv_aload_n hx hb dX12_put_0 rfl (lv_at hl 0 rfl) ?_
  refine hk_get (ci := 15) (C := RX12) (T := TX12) (N := 92) (v := .int 19) hx hb hts iX12 hown hw 0 rfl rfl 69 (by decide) (hts _ (List.mem_of_getElem? (i := 1) rfl)) (congrArg (fun z => some (Value.int z)) h42) dX12_put_1 ?_
  refine lv_sipush (v := 20000) hx hb dX12_put_4 (by decide) ?_
  refine lv_icmp_ge (tgt := 24) hx hb dX12_put_7 (by decide) (fun cc_1 => absurd cc_1 (by decide)) (fun _ => ?_)
  refine lv_aload_n hx hb dX12_put_10 rfl (lv_at hl 0 rfl) ?_
  refine hk_get (ci := 15) (C := RX12) (T := TX12) (N := 92) (v := .ref (ad 23)) hx hb hts iX12 hown hw 0 rfl rfl 68 (by decide) (hts _ (List.mem_of_getElem? (i := 2) rfl)) rfl dX12_put_11 ?_
  refine lv_aload_n hx hb dX12_put_14 rfl (lv_at hl 0 rfl) ?_
  refine hk_get (ci := 15) (C := RX12) (T := TX12) (N := 92) (v := .int 19) hx hb hts iX12 hown hw 0 rfl rfl 69 (by decide) (hts _ (List.mem_of_getElem? (i := 1) rfl)) (congrArg (fun z => some (Value.int z)) h42) dX12_put_15 ?_
  refine lv_iload_n hx hb dX12_put_18 rfl (lv_at hl 1 rfl) ?_
  refine lv_sipush (v := 255) hx hb dX12_put_19 (by decide) ?_
  refine lv_iand hx hb dX12_put_22 ?_
  refine hk_iast hx hb hw 23 0 rfl rfl (show ¬ (_ ∨ _) by decide) dX12_put_23 (ws' := mw cI cJ ad g lg (va_up ar 22 (upd (ar 22) 19 (b &&& 255))) bk) rfl (fun H locs hw => ?_)
  refine lv_aload_n hx hb dX12_put_24 rfl (lv_at hl 0 rfl) ?_
  refine lv_dup hx hb dX12_put_25 rfl ?_
  refine hk_get (ci := 15) (C := RX12) (T := TX12) (N := 92) (v := .int 19) hx hb hts iX12 hown hw 0 rfl rfl 69 (by decide) (hts _ (List.mem_of_getElem? (i := 1) rfl)) (congrArg (fun z => some (Value.int z)) h42) dX12_put_26 ?_
  refine lv_iconst (v := 1) hx hb dX12_put_29 (by decide) ?_
  refine lv_iadd hx hb dX12_put_30 ?_
  refine hk_topi 20 (by decide +kernel) ?_
  refine hk_put (ci := 15) (C := RX12) (T := TX12) (N := 92) (ty := .int) (v := .int 20) hx hb hts iX12 tyX12 tyX12_ok nmX12 hown hw 0 rfl rfl 69 (by decide) (hts _ (List.mem_of_getElem? (i := 1) rfl)) rfl (by decide +kernel) rfl rfl (Nat.le_of_ble_eq_true rfl) dX12_put_31 (ws' := mw cI cJ ad (upd g 42 20) lg (va_up ar 22 (upd (ar 22) 19 (b &&& 255))) bk) rfl (fun H locs hw => ?_)
  exact hk_vret (u := (upd (ar 22) 19 (b &&& 255))) hx hb hr hlocks (hw) (trivial) dX12_put_34

def ww_cn_put20 : List Cond := Cond.code yX12_put cX12_put 2 none :: ([Cond.fieldLink RX12 391 "LzmaChainsModel" "rowSize" "I", Cond.fieldLink RX12 98 "LzmaChainsModel" "row" "[I"] ++ (wsX120 ++ ([])))
set_option maxHeartbeats 4000000 in
set_option maxRecDepth 100000 in
/-- the reference: put, it has 20 -/
theorem cn_put20 (l : Launch) (D : va_G) (cI cJ : ClassId) (ad : Nat → Nat) (g : Nat → Int32) (lg : Nat → Int64) (ar : Nat → Nat → Int32) (bk : Nat → Int64) (sz : Nat) (b : Int32) (h42 : g 42 = 20) : Met l yX12_put ww_cn_put20 { frames := 0, cells := 0, slots := 0, locals := 0 } (va_Pc [.ref (ad 0), .int b] (hk_B D [(cI, .int), (cJ, .long)] sz (mw cI cJ ad g lg ar bk))) (va_Qv (fun u : (Nat → Int32) => True) (fun u : (Nat → Int32) => hk_E D [(cI, .int), (cJ, .long)] (va_A (mw cI cJ ad g lg ar bk) sz) (mw cI cJ ad (upd g 42 21) lg (va_up ar 22 u) bk)) (va_A (mw cI cJ ad g lg ar bk) sz)) 0 0 (va_A (mw cI cJ ad g lg ar bk) sz) := by
  refine hk_met (cc := cX12_put) (maxL := 2) (ret := none) (by decide) rfl (Nat.le_of_ble_eq_true rfl) ?_
  intro p e s m below meth c ls hx hb hr hml hown hts hlocks hin hA hw hl
  have iX12 : ∀ w ∈ wsX120, w ∈ ww_cn_put20 := fun _ h => List.mem_cons_of_mem _ (List.mem_append_right _ (List.mem_append_left _ h))
  have hl : lv_has ls 2 [(0, .ref (ad 0)), (1, .int b)] := hl
  refine lv_aload_n hx hb dX12_put_0 rfl (lv_at hl 0 rfl) ?_
  refine hk_get (ci := 15) (C := RX12) (T := TX12) (N := 92) (v := .int 20) hx hb hts iX12 hown hw 0 rfl rfl 69 (by decide) (hts _ (List.mem_of_getElem? (i := 1) rfl)) (congrArg (fun z => some (Value.int z)) h42) dX12_put_1 ?_
  refine lv_sipush (v := 20000) hx hb dX12_put_4 (by decide) ?_
  refine lv_icmp_ge (tgt := 24) hx hb dX12_put_7 (by decide) (fun cc_1 => absurd cc_1 (by decide)) (fun _ => ?_)
  refine lv_aload_n hx hb dX12_put_10 rfl (lv_at hl 0 rfl) ?_
  refine hk_get (ci := 15) (C := RX12) (T := TX12) (N := 92) (v := .ref (ad 23)) hx hb hts iX12 hown hw 0 rfl rfl 68 (by decide) (hts _ (List.mem_of_getElem? (i := 2) rfl)) rfl dX12_put_11 ?_
  refine lv_aload_n hx hb dX12_put_14 rfl (lv_at hl 0 rfl) ?_
  refine hk_get (ci := 15) (C := RX12) (T := TX12) (N := 92) (v := .int 20) hx hb hts iX12 hown hw 0 rfl rfl 69 (by decide) (hts _ (List.mem_of_getElem? (i := 1) rfl)) (congrArg (fun z => some (Value.int z)) h42) dX12_put_15 ?_
  refine lv_iload_n hx hb dX12_put_18 rfl (lv_at hl 1 rfl) ?_
  refine lv_sipush (v := 255) hx hb dX12_put_19 (by decide) ?_
  refine lv_iand hx hb dX12_put_22 ?_
  refine hk_iast hx hb hw 23 0 rfl rfl (show ¬ (_ ∨ _) by decide) dX12_put_23 (ws' := mw cI cJ ad g lg (va_up ar 22 (upd (ar 22) 20 (b &&& 255))) bk) rfl (fun H locs hw => ?_)
  refine lv_aload_n hx hb dX12_put_24 rfl (lv_at hl 0 rfl) ?_
  refine lv_dup hx hb dX12_put_25 rfl ?_
  refine hk_get (ci := 15) (C := RX12) (T := TX12) (N := 92) (v := .int 20) hx hb hts iX12 hown hw 0 rfl rfl 69 (by decide) (hts _ (List.mem_of_getElem? (i := 1) rfl)) (congrArg (fun z => some (Value.int z)) h42) dX12_put_26 ?_
  refine lv_iconst (v := 1) hx hb dX12_put_29 (by decide) ?_
  refine lv_iadd hx hb dX12_put_30 ?_
  refine hk_topi 21 (by decide +kernel) ?_
  refine hk_put (ci := 15) (C := RX12) (T := TX12) (N := 92) (ty := .int) (v := .int 21) hx hb hts iX12 tyX12 tyX12_ok nmX12 hown hw 0 rfl rfl 69 (by decide) (hts _ (List.mem_of_getElem? (i := 1) rfl)) rfl (by decide +kernel) rfl rfl (Nat.le_of_ble_eq_true rfl) dX12_put_31 (ws' := mw cI cJ ad (upd g 42 21) lg (va_up ar 22 (upd (ar 22) 20 (b &&& 255))) bk) rfl (fun H locs hw => ?_)
  exact hk_vret (u := (upd (ar 22) 20 (b &&& 255))) hx hb hr hlocks (hw) (trivial) dX12_put_34

def ww_cn_put21 : List Cond := Cond.code yX12_put cX12_put 2 none :: ([Cond.fieldLink RX12 391 "LzmaChainsModel" "rowSize" "I", Cond.fieldLink RX12 98 "LzmaChainsModel" "row" "[I"] ++ (wsX120 ++ ([])))
set_option maxHeartbeats 4000000 in
set_option maxRecDepth 100000 in
/-- the reference: put, it has 21 -/
theorem cn_put21 (l : Launch) (D : va_G) (cI cJ : ClassId) (ad : Nat → Nat) (g : Nat → Int32) (lg : Nat → Int64) (ar : Nat → Nat → Int32) (bk : Nat → Int64) (sz : Nat) (b : Int32) (h42 : g 42 = 21) : Met l yX12_put ww_cn_put21 { frames := 0, cells := 0, slots := 0, locals := 0 } (va_Pc [.ref (ad 0), .int b] (hk_B D [(cI, .int), (cJ, .long)] sz (mw cI cJ ad g lg ar bk))) (va_Qv (fun u : (Nat → Int32) => True) (fun u : (Nat → Int32) => hk_E D [(cI, .int), (cJ, .long)] (va_A (mw cI cJ ad g lg ar bk) sz) (mw cI cJ ad (upd g 42 22) lg (va_up ar 22 u) bk)) (va_A (mw cI cJ ad g lg ar bk) sz)) 0 0 (va_A (mw cI cJ ad g lg ar bk) sz) := by
  refine hk_met (cc := cX12_put) (maxL := 2) (ret := none) (by decide) rfl (Nat.le_of_ble_eq_true rfl) ?_
  intro p e s m below meth c ls hx hb hr hml hown hts hlocks hin hA hw hl
  have iX12 : ∀ w ∈ wsX120, w ∈ ww_cn_put21 := fun _ h => List.mem_cons_of_mem _ (List.mem_append_right _ (List.mem_append_left _ h))
  have hl : lv_has ls 2 [(0, .ref (ad 0)), (1, .int b)] := hl
  refine lv_aload_n hx hb dX12_put_0 rfl (lv_at hl 0 rfl) ?_
  refine hk_get (ci := 15) (C := RX12) (T := TX12) (N := 92) (v := .int 21) hx hb hts iX12 hown hw 0 rfl rfl 69 (by decide) (hts _ (List.mem_of_getElem? (i := 1) rfl)) (congrArg (fun z => some (Value.int z)) h42) dX12_put_1 ?_
  refine lv_sipush (v := 20000) hx hb dX12_put_4 (by decide) ?_
  refine lv_icmp_ge (tgt := 24) hx hb dX12_put_7 (by decide) (fun cc_1 => absurd cc_1 (by decide)) (fun _ => ?_)
  refine lv_aload_n hx hb dX12_put_10 rfl (lv_at hl 0 rfl) ?_
  refine hk_get (ci := 15) (C := RX12) (T := TX12) (N := 92) (v := .ref (ad 23)) hx hb hts iX12 hown hw 0 rfl rfl 68 (by decide) (hts _ (List.mem_of_getElem? (i := 2) rfl)) rfl dX12_put_11 ?_
  refine lv_aload_n hx hb dX12_put_14 rfl (lv_at hl 0 rfl) ?_
  refine hk_get (ci := 15) (C := RX12) (T := TX12) (N := 92) (v := .int 21) hx hb hts iX12 hown hw 0 rfl rfl 69 (by decide) (hts _ (List.mem_of_getElem? (i := 1) rfl)) (congrArg (fun z => some (Value.int z)) h42) dX12_put_15 ?_
  refine lv_iload_n hx hb dX12_put_18 rfl (lv_at hl 1 rfl) ?_
  refine lv_sipush (v := 255) hx hb dX12_put_19 (by decide) ?_
  refine lv_iand hx hb dX12_put_22 ?_
  refine hk_iast hx hb hw 23 0 rfl rfl (show ¬ (_ ∨ _) by decide) dX12_put_23 (ws' := mw cI cJ ad g lg (va_up ar 22 (upd (ar 22) 21 (b &&& 255))) bk) rfl (fun H locs hw => ?_)
  refine lv_aload_n hx hb dX12_put_24 rfl (lv_at hl 0 rfl) ?_
  refine lv_dup hx hb dX12_put_25 rfl ?_
  refine hk_get (ci := 15) (C := RX12) (T := TX12) (N := 92) (v := .int 21) hx hb hts iX12 hown hw 0 rfl rfl 69 (by decide) (hts _ (List.mem_of_getElem? (i := 1) rfl)) (congrArg (fun z => some (Value.int z)) h42) dX12_put_26 ?_
  refine lv_iconst (v := 1) hx hb dX12_put_29 (by decide) ?_
  refine lv_iadd hx hb dX12_put_30 ?_
  refine hk_topi 22 (by decide +kernel) ?_
  refine hk_put (ci := 15) (C := RX12) (T := TX12) (N := 92) (ty := .int) (v := .int 22) hx hb hts iX12 tyX12 tyX12_ok nmX12 hown hw 0 rfl rfl 69 (by decide) (hts _ (List.mem_of_getElem? (i := 1) rfl)) rfl (by decide +kernel) rfl rfl (Nat.le_of_ble_eq_true rfl) dX12_put_31 (ws' := mw cI cJ ad (upd g 42 22) lg (va_up ar 22 (upd (ar 22) 21 (b &&& 255))) bk) rfl (fun H locs hw => ?_)
  exact hk_vret (u := (upd (ar 22) 21 (b &&& 255))) hx hb hr hlocks (hw) (trivial) dX12_put_34

def ww_cn_put22 : List Cond := Cond.code yX12_put cX12_put 2 none :: ([Cond.fieldLink RX12 391 "LzmaChainsModel" "rowSize" "I", Cond.fieldLink RX12 98 "LzmaChainsModel" "row" "[I"] ++ (wsX120 ++ ([])))
set_option maxHeartbeats 4000000 in
set_option maxRecDepth 100000 in
/-- the reference: put, it has 22 -/
theorem cn_put22 (l : Launch) (D : va_G) (cI cJ : ClassId) (ad : Nat → Nat) (g : Nat → Int32) (lg : Nat → Int64) (ar : Nat → Nat → Int32) (bk : Nat → Int64) (sz : Nat) (b : Int32) (h42 : g 42 = 22) : Met l yX12_put ww_cn_put22 { frames := 0, cells := 0, slots := 0, locals := 0 } (va_Pc [.ref (ad 0), .int b] (hk_B D [(cI, .int), (cJ, .long)] sz (mw cI cJ ad g lg ar bk))) (va_Qv (fun u : (Nat → Int32) => True) (fun u : (Nat → Int32) => hk_E D [(cI, .int), (cJ, .long)] (va_A (mw cI cJ ad g lg ar bk) sz) (mw cI cJ ad (upd g 42 23) lg (va_up ar 22 u) bk)) (va_A (mw cI cJ ad g lg ar bk) sz)) 0 0 (va_A (mw cI cJ ad g lg ar bk) sz) := by
  refine hk_met (cc := cX12_put) (maxL := 2) (ret := none) (by decide) rfl (Nat.le_of_ble_eq_true rfl) ?_
  intro p e s m below meth c ls hx hb hr hml hown hts hlocks hin hA hw hl
  have iX12 : ∀ w ∈ wsX120, w ∈ ww_cn_put22 := fun _ h => List.mem_cons_of_mem _ (List.mem_append_right _ (List.mem_append_left _ h))
  have hl : lv_has ls 2 [(0, .ref (ad 0)), (1, .int b)] := hl
  refine lv_aload_n hx hb dX12_put_0 rfl (lv_at hl 0 rfl) ?_
  refine hk_get (ci := 15) (C := RX12) (T := TX12) (N := 92) (v := .int 22) hx hb hts iX12 hown hw 0 rfl rfl 69 (by decide) (hts _ (List.mem_of_getElem? (i := 1) rfl)) (congrArg (fun z => some (Value.int z)) h42) dX12_put_1 ?_
  refine lv_sipush (v := 20000) hx hb dX12_put_4 (by decide) ?_
  refine lv_icmp_ge (tgt := 24) hx hb dX12_put_7 (by decide) (fun cc_1 => absurd cc_1 (by decide)) (fun _ => ?_)
  refine lv_aload_n hx hb dX12_put_10 rfl (lv_at hl 0 rfl) ?_
  refine hk_get (ci := 15) (C := RX12) (T := TX12) (N := 92) (v := .ref (ad 23)) hx hb hts iX12 hown hw 0 rfl rfl 68 (by decide) (hts _ (List.mem_of_getElem? (i := 2) rfl)) rfl dX12_put_11 ?_
  refine lv_aload_n hx hb dX12_put_14 rfl (lv_at hl 0 rfl) ?_
  refine hk_get (ci := 15) (C := RX12) (T := TX12) (N := 92) (v := .int 22) hx hb hts iX12 hown hw 0 rfl rfl 69 (by decide) (hts _ (List.mem_of_getElem? (i := 1) rfl)) (congrArg (fun z => some (Value.int z)) h42) dX12_put_15 ?_
  refine lv_iload_n hx hb dX12_put_18 rfl (lv_at hl 1 rfl) ?_
  refine lv_sipush (v := 255) hx hb dX12_put_19 (by decide) ?_
  refine lv_iand hx hb dX12_put_22 ?_
  refine hk_iast hx hb hw 23 0 rfl rfl (show ¬ (_ ∨ _) by decide) dX12_put_23 (ws' := mw cI cJ ad g lg (va_up ar 22 (upd (ar 22) 22 (b &&& 255))) bk) rfl (fun H locs hw => ?_)
  refine lv_aload_n hx hb dX12_put_24 rfl (lv_at hl 0 rfl) ?_
  refine lv_dup hx hb dX12_put_25 rfl ?_
  refine hk_get (ci := 15) (C := RX12) (T := TX12) (N := 92) (v := .int 22) hx hb hts iX12 hown hw 0 rfl rfl 69 (by decide) (hts _ (List.mem_of_getElem? (i := 1) rfl)) (congrArg (fun z => some (Value.int z)) h42) dX12_put_26 ?_
  refine lv_iconst (v := 1) hx hb dX12_put_29 (by decide) ?_
  refine lv_iadd hx hb dX12_put_30 ?_
  refine hk_topi 23 (by decide +kernel) ?_
  refine hk_put (ci := 15) (C := RX12) (T := TX12) (N := 92) (ty := .int) (v := .int 23) hx hb hts iX12 tyX12 tyX12_ok nmX12 hown hw 0 rfl rfl 69 (by decide) (hts _ (List.mem_of_getElem? (i := 1) rfl)) rfl (by decide +kernel) rfl rfl (Nat.le_of_ble_eq_true rfl) dX12_put_31 (ws' := mw cI cJ ad (upd g 42 23) lg (va_up ar 22 (upd (ar 22) 22 (b &&& 255))) bk) rfl (fun H locs hw => ?_)
  exact hk_vret (u := (upd (ar 22) 22 (b &&& 255))) hx hb hr hlocks (hw) (trivial) dX12_put_34

def ww_cn_put23 : List Cond := Cond.code yX12_put cX12_put 2 none :: ([Cond.fieldLink RX12 391 "LzmaChainsModel" "rowSize" "I", Cond.fieldLink RX12 98 "LzmaChainsModel" "row" "[I"] ++ (wsX120 ++ ([])))
set_option maxHeartbeats 4000000 in
set_option maxRecDepth 100000 in
/-- the reference: put, it has 23 -/
theorem cn_put23 (l : Launch) (D : va_G) (cI cJ : ClassId) (ad : Nat → Nat) (g : Nat → Int32) (lg : Nat → Int64) (ar : Nat → Nat → Int32) (bk : Nat → Int64) (sz : Nat) (b : Int32) (h42 : g 42 = 23) : Met l yX12_put ww_cn_put23 { frames := 0, cells := 0, slots := 0, locals := 0 } (va_Pc [.ref (ad 0), .int b] (hk_B D [(cI, .int), (cJ, .long)] sz (mw cI cJ ad g lg ar bk))) (va_Qv (fun u : (Nat → Int32) => True) (fun u : (Nat → Int32) => hk_E D [(cI, .int), (cJ, .long)] (va_A (mw cI cJ ad g lg ar bk) sz) (mw cI cJ ad (upd g 42 24) lg (va_up ar 22 u) bk)) (va_A (mw cI cJ ad g lg ar bk) sz)) 0 0 (va_A (mw cI cJ ad g lg ar bk) sz) := by
  refine hk_met (cc := cX12_put) (maxL := 2) (ret := none) (by decide) rfl (Nat.le_of_ble_eq_true rfl) ?_
  intro p e s m below meth c ls hx hb hr hml hown hts hlocks hin hA hw hl
  have iX12 : ∀ w ∈ wsX120, w ∈ ww_cn_put23 := fun _ h => List.mem_cons_of_mem _ (List.mem_append_right _ (List.mem_append_left _ h))
  have hl : lv_has ls 2 [(0, .ref (ad 0)), (1, .int b)] := hl
  refine lv_aload_n hx hb dX12_put_0 rfl (lv_at hl 0 rfl) ?_
  refine hk_get (ci := 15) (C := RX12) (T := TX12) (N := 92) (v := .int 23) hx hb hts iX12 hown hw 0 rfl rfl 69 (by decide) (hts _ (List.mem_of_getElem? (i := 1) rfl)) (congrArg (fun z => some (Value.int z)) h42) dX12_put_1 ?_
  refine lv_sipush (v := 20000) hx hb dX12_put_4 (by decide) ?_
  refine lv_icmp_ge (tgt := 24) hx hb dX12_put_7 (by decide) (fun cc_1 => absurd cc_1 (by decide)) (fun _ => ?_)
  refine lv_aload_n hx hb dX12_put_10 rfl (lv_at hl 0 rfl) ?_
  refine hk_get (ci := 15) (C := RX12) (T := TX12) (N := 92) (v := .ref (ad 23)) hx hb hts iX12 hown hw 0 rfl rfl 68 (by decide) (hts _ (List.mem_of_getElem? (i := 2) rfl)) rfl dX12_put_11 ?_
  refine lv_aload_n hx hb dX12_put_14 rfl (lv_at hl 0 rfl) ?_
  refine hk_get (ci := 15) (C := RX12) (T := TX12) (N := 92) (v := .int 23) hx hb hts iX12 hown hw 0 rfl rfl 69 (by decide) (hts _ (List.mem_of_getElem? (i := 1) rfl)) (congrArg (fun z => some (Value.int z)) h42) dX12_put_15 ?_
  refine lv_iload_n hx hb dX12_put_18 rfl (lv_at hl 1 rfl) ?_
  refine lv_sipush (v := 255) hx hb dX12_put_19 (by decide) ?_
  refine lv_iand hx hb dX12_put_22 ?_
  refine hk_iast hx hb hw 23 0 rfl rfl (show ¬ (_ ∨ _) by decide) dX12_put_23 (ws' := mw cI cJ ad g lg (va_up ar 22 (upd (ar 22) 23 (b &&& 255))) bk) rfl (fun H locs hw => ?_)
  refine lv_aload_n hx hb dX12_put_24 rfl (lv_at hl 0 rfl) ?_
  refine lv_dup hx hb dX12_put_25 rfl ?_
  refine hk_get (ci := 15) (C := RX12) (T := TX12) (N := 92) (v := .int 23) hx hb hts iX12 hown hw 0 rfl rfl 69 (by decide) (hts _ (List.mem_of_getElem? (i := 1) rfl)) (congrArg (fun z => some (Value.int z)) h42) dX12_put_26 ?_
  refine lv_iconst (v := 1) hx hb dX12_put_29 (by decide) ?_
  refine lv_iadd hx hb dX12_put_30 ?_
  refine hk_topi 24 (by decide +kernel) ?_
  refine hk_put (ci := 15) (C := RX12) (T := TX12) (N := 92) (ty := .int) (v := .int 24) hx hb hts iX12 tyX12 tyX12_ok nmX12 hown hw 0 rfl rfl 69 (by decide) (hts _ (List.mem_of_getElem? (i := 1) rfl)) rfl (by decide +kernel) rfl rfl (Nat.le_of_ble_eq_true rfl) dX12_put_31 (ws' := mw cI cJ ad (upd g 42 24) lg (va_up ar 22 (upd (ar 22) 23 (b &&& 255))) bk) rfl (fun H locs hw => ?_)
  exact hk_vret (u := (upd (ar 22) 23 (b &&& 255))) hx hb hr hlocks (hw) (trivial) dX12_put_34

def ww_cn_put24 : List Cond := Cond.code yX12_put cX12_put 2 none :: ([Cond.fieldLink RX12 391 "LzmaChainsModel" "rowSize" "I", Cond.fieldLink RX12 98 "LzmaChainsModel" "row" "[I"] ++ (wsX120 ++ ([])))
set_option maxHeartbeats 4000000 in
set_option maxRecDepth 100000 in
/-- the reference: put, it has 24 -/
theorem cn_put24 (l : Launch) (D : va_G) (cI cJ : ClassId) (ad : Nat → Nat) (g : Nat → Int32) (lg : Nat → Int64) (ar : Nat → Nat → Int32) (bk : Nat → Int64) (sz : Nat) (b : Int32) (h42 : g 42 = 24) : Met l yX12_put ww_cn_put24 { frames := 0, cells := 0, slots := 0, locals := 0 } (va_Pc [.ref (ad 0), .int b] (hk_B D [(cI, .int), (cJ, .long)] sz (mw cI cJ ad g lg ar bk))) (va_Qv (fun u : (Nat → Int32) => True) (fun u : (Nat → Int32) => hk_E D [(cI, .int), (cJ, .long)] (va_A (mw cI cJ ad g lg ar bk) sz) (mw cI cJ ad (upd g 42 25) lg (va_up ar 22 u) bk)) (va_A (mw cI cJ ad g lg ar bk) sz)) 0 0 (va_A (mw cI cJ ad g lg ar bk) sz) := by
  refine hk_met (cc := cX12_put) (maxL := 2) (ret := none) (by decide) rfl (Nat.le_of_ble_eq_true rfl) ?_
  intro p e s m below meth c ls hx hb hr hml hown hts hlocks hin hA hw hl
  have iX12 : ∀ w ∈ wsX120, w ∈ ww_cn_put24 := fun _ h => List.mem_cons_of_mem _ (List.mem_append_right _ (List.mem_append_left _ h))
  have hl : lv_has ls 2 [(0, .ref (ad 0)), (1, .int b)] := hl
  refine lv_aload_n hx hb dX12_put_0 rfl (lv_at hl 0 rfl) ?_
  refine hk_get (ci := 15) (C := RX12) (T := TX12) (N := 92) (v := .int 24) hx hb hts iX12 hown hw 0 rfl rfl 69 (by decide) (hts _ (List.mem_of_getElem? (i := 1) rfl)) (congrArg (fun z => some (Value.int z)) h42) dX12_put_1 ?_
  refine lv_sipush (v := 20000) hx hb dX12_put_4 (by decide) ?_
  refine lv_icmp_ge (tgt := 24) hx hb dX12_put_7 (by decide) (fun cc_1 => absurd cc_1 (by decide)) (fun _ => ?_)
  refine lv_aload_n hx hb dX12_put_10 rfl (lv_at hl 0 rfl) ?_
  refine hk_get (ci := 15) (C := RX12) (T := TX12) (N := 92) (v := .ref (ad 23)) hx hb hts iX12 hown hw 0 rfl rfl 68 (by decide) (hts _ (List.mem_of_getElem? (i := 2) rfl)) rfl dX12_put_11 ?_
  refine lv_aload_n hx hb dX12_put_14 rfl (lv_at hl 0 rfl) ?_
  refine hk_get (ci := 15) (C := RX12) (T := TX12) (N := 92) (v := .int 24) hx hb hts iX12 hown hw 0 rfl rfl 69 (by decide) (hts _ (List.mem_of_getElem? (i := 1) rfl)) (congrArg (fun z => some (Value.int z)) h42) dX12_put_15 ?_
  refine lv_iload_n hx hb dX12_put_18 rfl (lv_at hl 1 rfl) ?_
  refine lv_sipush (v := 255) hx hb dX12_put_19 (by decide) ?_
  refine lv_iand hx hb dX12_put_22 ?_
  refine hk_iast hx hb hw 23 0 rfl rfl (show ¬ (_ ∨ _) by decide) dX12_put_23 (ws' := mw cI cJ ad g lg (va_up ar 22 (upd (ar 22) 24 (b &&& 255))) bk) rfl (fun H locs hw => ?_)
  refine lv_aload_n hx hb dX12_put_24 rfl (lv_at hl 0 rfl) ?_
  refine lv_dup hx hb dX12_put_25 rfl ?_
  refine hk_get (ci := 15) (C := RX12) (T := TX12) (N := 92) (v := .int 24) hx hb hts iX12 hown hw 0 rfl rfl 69 (by decide) (hts _ (List.mem_of_getElem? (i := 1) rfl)) (congrArg (fun z => some (Value.int z)) h42) dX12_put_26 ?_
  refine lv_iconst (v := 1) hx hb dX12_put_29 (by decide) ?_
  refine lv_iadd hx hb dX12_put_30 ?_
  refine hk_topi 25 (by decide +kernel) ?_
  refine hk_put (ci := 15) (C := RX12) (T := TX12) (N := 92) (ty := .int) (v := .int 25) hx hb hts iX12 tyX12 tyX12_ok nmX12 hown hw 0 rfl rfl 69 (by decide) (hts _ (List.mem_of_getElem? (i := 1) rfl)) rfl (by decide +kernel) rfl rfl (Nat.le_of_ble_eq_true rfl) dX12_put_31 (ws' := mw cI cJ ad (upd g 42 25) lg (va_up ar 22 (upd (ar 22) 24 (b &&& 255))) bk) rfl (fun H locs hw => ?_)
  exact hk_vret (u := (upd (ar 22) 24 (b &&& 255))) hx hb hr hlocks (hw) (trivial) dX12_put_34

def ww_cn_put25 : List Cond := Cond.code yX12_put cX12_put 2 none :: ([Cond.fieldLink RX12 391 "LzmaChainsModel" "rowSize" "I", Cond.fieldLink RX12 98 "LzmaChainsModel" "row" "[I"] ++ (wsX120 ++ ([])))
set_option maxHeartbeats 4000000 in
set_option maxRecDepth 100000 in
/-- the reference: put, it has 25 -/
theorem cn_put25 (l : Launch) (D : va_G) (cI cJ : ClassId) (ad : Nat → Nat) (g : Nat → Int32) (lg : Nat → Int64) (ar : Nat → Nat → Int32) (bk : Nat → Int64) (sz : Nat) (b : Int32) (h42 : g 42 = 25) : Met l yX12_put ww_cn_put25 { frames := 0, cells := 0, slots := 0, locals := 0 } (va_Pc [.ref (ad 0), .int b] (hk_B D [(cI, .int), (cJ, .long)] sz (mw cI cJ ad g lg ar bk))) (va_Qv (fun u : (Nat → Int32) => True) (fun u : (Nat → Int32) => hk_E D [(cI, .int), (cJ, .long)] (va_A (mw cI cJ ad g lg ar bk) sz) (mw cI cJ ad (upd g 42 26) lg (va_up ar 22 u) bk)) (va_A (mw cI cJ ad g lg ar bk) sz)) 0 0 (va_A (mw cI cJ ad g lg ar bk) sz) := by
  refine hk_met (cc := cX12_put) (maxL := 2) (ret := none) (by decide) rfl (Nat.le_of_ble_eq_true rfl) ?_
  intro p e s m below meth c ls hx hb hr hml hown hts hlocks hin hA hw hl
  have iX12 : ∀ w ∈ wsX120, w ∈ ww_cn_put25 := fun _ h => List.mem_cons_of_mem _ (List.mem_append_right _ (List.mem_append_left _ h))
  have hl : lv_has ls 2 [(0, .ref (ad 0)), (1, .int b)] := hl
  refine lv_aload_n hx hb dX12_put_0 rfl (lv_at hl 0 rfl) ?_
  refine hk_get (ci := 15) (C := RX12) (T := TX12) (N := 92) (v := .int 25) hx hb hts iX12 hown hw 0 rfl rfl 69 (by decide) (hts _ (List.mem_of_getElem? (i := 1) rfl)) (congrArg (fun z => some (Value.int z)) h42) dX12_put_1 ?_
  refine lv_sipush (v := 20000) hx hb dX12_put_4 (by decide) ?_
  refine lv_icmp_ge (tgt := 24) hx hb dX12_put_7 (by decide) (fun cc_1 => absurd cc_1 (by decide)) (fun _ => ?_)
  refine lv_aload_n hx hb dX12_put_10 rfl (lv_at hl 0 rfl) ?_
  refine hk_get (ci := 15) (C := RX12) (T := TX12) (N := 92) (v := .ref (ad 23)) hx hb hts iX12 hown hw 0 rfl rfl 68 (by decide) (hts _ (List.mem_of_getElem? (i := 2) rfl)) rfl dX12_put_11 ?_
  refine lv_aload_n hx hb dX12_put_14 rfl (lv_at hl 0 rfl) ?_
  refine hk_get (ci := 15) (C := RX12) (T := TX12) (N := 92) (v := .int 25) hx hb hts iX12 hown hw 0 rfl rfl 69 (by decide) (hts _ (List.mem_of_getElem? (i := 1) rfl)) (congrArg (fun z => some (Value.int z)) h42) dX12_put_15 ?_
  refine lv_iload_n hx hb dX12_put_18 rfl (lv_at hl 1 rfl) ?_
  refine lv_sipush (v := 255) hx hb dX12_put_19 (by decide) ?_
  refine lv_iand hx hb dX12_put_22 ?_
  refine hk_iast hx hb hw 23 0 rfl rfl (show ¬ (_ ∨ _) by decide) dX12_put_23 (ws' := mw cI cJ ad g lg (va_up ar 22 (upd (ar 22) 25 (b &&& 255))) bk) rfl (fun H locs hw => ?_)
  refine lv_aload_n hx hb dX12_put_24 rfl (lv_at hl 0 rfl) ?_
  refine lv_dup hx hb dX12_put_25 rfl ?_
  refine hk_get (ci := 15) (C := RX12) (T := TX12) (N := 92) (v := .int 25) hx hb hts iX12 hown hw 0 rfl rfl 69 (by decide) (hts _ (List.mem_of_getElem? (i := 1) rfl)) (congrArg (fun z => some (Value.int z)) h42) dX12_put_26 ?_
  refine lv_iconst (v := 1) hx hb dX12_put_29 (by decide) ?_
  refine lv_iadd hx hb dX12_put_30 ?_
  refine hk_topi 26 (by decide +kernel) ?_
  refine hk_put (ci := 15) (C := RX12) (T := TX12) (N := 92) (ty := .int) (v := .int 26) hx hb hts iX12 tyX12 tyX12_ok nmX12 hown hw 0 rfl rfl 69 (by decide) (hts _ (List.mem_of_getElem? (i := 1) rfl)) rfl (by decide +kernel) rfl rfl (Nat.le_of_ble_eq_true rfl) dX12_put_31 (ws' := mw cI cJ ad (upd g 42 26) lg (va_up ar 22 (upd (ar 22) 25 (b &&& 255))) bk) rfl (fun H locs hw => ?_)
  exact hk_vret (u := (upd (ar 22) 25 (b &&& 255))) hx hb hr hlocks (hw) (trivial) dX12_put_34

def ww_cn_put26 : List Cond := Cond.code yX12_put cX12_put 2 none :: ([Cond.fieldLink RX12 391 "LzmaChainsModel" "rowSize" "I", Cond.fieldLink RX12 98 "LzmaChainsModel" "row" "[I"] ++ (wsX120 ++ ([])))
set_option maxHeartbeats 4000000 in
set_option maxRecDepth 100000 in
/-- the reference: put, it has 26 -/
theorem cn_put26 (l : Launch) (D : va_G) (cI cJ : ClassId) (ad : Nat → Nat) (g : Nat → Int32) (lg : Nat → Int64) (ar : Nat → Nat → Int32) (bk : Nat → Int64) (sz : Nat) (b : Int32) (h42 : g 42 = 26) : Met l yX12_put ww_cn_put26 { frames := 0, cells := 0, slots := 0, locals := 0 } (va_Pc [.ref (ad 0), .int b] (hk_B D [(cI, .int), (cJ, .long)] sz (mw cI cJ ad g lg ar bk))) (va_Qv (fun u : (Nat → Int32) => True) (fun u : (Nat → Int32) => hk_E D [(cI, .int), (cJ, .long)] (va_A (mw cI cJ ad g lg ar bk) sz) (mw cI cJ ad (upd g 42 27) lg (va_up ar 22 u) bk)) (va_A (mw cI cJ ad g lg ar bk) sz)) 0 0 (va_A (mw cI cJ ad g lg ar bk) sz) := by
  refine hk_met (cc := cX12_put) (maxL := 2) (ret := none) (by decide) rfl (Nat.le_of_ble_eq_true rfl) ?_
  intro p e s m below meth c ls hx hb hr hml hown hts hlocks hin hA hw hl
  have iX12 : ∀ w ∈ wsX120, w ∈ ww_cn_put26 := fun _ h => List.mem_cons_of_mem _ (List.mem_append_right _ (List.mem_append_left _ h))
  have hl : lv_has ls 2 [(0, .ref (ad 0)), (1, .int b)] := hl
  refine lv_aload_n hx hb dX12_put_0 rfl (lv_at hl 0 rfl) ?_
  refine hk_get (ci := 15) (C := RX12) (T := TX12) (N := 92) (v := .int 26) hx hb hts iX12 hown hw 0 rfl rfl 69 (by decide) (hts _ (List.mem_of_getElem? (i := 1) rfl)) (congrArg (fun z => some (Value.int z)) h42) dX12_put_1 ?_
  refine lv_sipush (v := 20000) hx hb dX12_put_4 (by decide) ?_
  refine lv_icmp_ge (tgt := 24) hx hb dX12_put_7 (by decide) (fun cc_1 => absurd cc_1 (by decide)) (fun _ => ?_)
  refine lv_aload_n hx hb dX12_put_10 rfl (lv_at hl 0 rfl) ?_
  refine hk_get (ci := 15) (C := RX12) (T := TX12) (N := 92) (v := .ref (ad 23)) hx hb hts iX12 hown hw 0 rfl rfl 68 (by decide) (hts _ (List.mem_of_getElem? (i := 2) rfl)) rfl dX12_put_11 ?_
  refine lv_aload_n hx hb dX12_put_14 rfl (lv_at hl 0 rfl) ?_
  refine hk_get (ci := 15) (C := RX12) (T := TX12) (N := 92) (v := .int 26) hx hb hts iX12 hown hw 0 rfl rfl 69 (by decide) (hts _ (List.mem_of_getElem? (i := 1) rfl)) (congrArg (fun z => some (Value.int z)) h42) dX12_put_15 ?_
  refine lv_iload_n hx hb dX12_put_18 rfl (lv_at hl 1 rfl) ?_
  refine lv_sipush (v := 255) hx hb dX12_put_19 (by decide) ?_
  refine lv_iand hx hb dX12_put_22 ?_
  refine hk_iast hx hb hw 23 0 rfl rfl (show ¬ (_ ∨ _) by decide) dX12_put_23 (ws' := mw cI cJ ad g lg (va_up ar 22 (upd (ar 22) 26 (b &&& 255))) bk) rfl (fun H locs hw => ?_)
  refine lv_aload_n hx hb dX12_put_24 rfl (lv_at hl 0 rfl) ?_
  refine lv_dup hx hb dX12_put_25 rfl ?_
  refine hk_get (ci := 15) (C := RX12) (T := TX12) (N := 92) (v := .int 26) hx hb hts iX12 hown hw 0 rfl rfl 69 (by decide) (hts _ (List.mem_of_getElem? (i := 1) rfl)) (congrArg (fun z => some (Value.int z)) h42) dX12_put_26 ?_
  refine lv_iconst (v := 1) hx hb dX12_put_29 (by decide) ?_
  refine lv_iadd hx hb dX12_put_30 ?_
  refine hk_topi 27 (by decide +kernel) ?_
  refine hk_put (ci := 15) (C := RX12) (T := TX12) (N := 92) (ty := .int) (v := .int 27) hx hb hts iX12 tyX12 tyX12_ok nmX12 hown hw 0 rfl rfl 69 (by decide) (hts _ (List.mem_of_getElem? (i := 1) rfl)) rfl (by decide +kernel) rfl rfl (Nat.le_of_ble_eq_true rfl) dX12_put_31 (ws' := mw cI cJ ad (upd g 42 27) lg (va_up ar 22 (upd (ar 22) 26 (b &&& 255))) bk) rfl (fun H locs hw => ?_)
  exact hk_vret (u := (upd (ar 22) 26 (b &&& 255))) hx hb hr hlocks (hw) (trivial) dX12_put_34

def ww_cn_put27 : List Cond := Cond.code yX12_put cX12_put 2 none :: ([Cond.fieldLink RX12 391 "LzmaChainsModel" "rowSize" "I", Cond.fieldLink RX12 98 "LzmaChainsModel" "row" "[I"] ++ (wsX120 ++ ([])))
set_option maxHeartbeats 4000000 in
set_option maxRecDepth 100000 in
/-- the reference: put, it has 27 -/
theorem cn_put27 (l : Launch) (D : va_G) (cI cJ : ClassId) (ad : Nat → Nat) (g : Nat → Int32) (lg : Nat → Int64) (ar : Nat → Nat → Int32) (bk : Nat → Int64) (sz : Nat) (b : Int32) (h42 : g 42 = 27) : Met l yX12_put ww_cn_put27 { frames := 0, cells := 0, slots := 0, locals := 0 } (va_Pc [.ref (ad 0), .int b] (hk_B D [(cI, .int), (cJ, .long)] sz (mw cI cJ ad g lg ar bk))) (va_Qv (fun u : (Nat → Int32) => True) (fun u : (Nat → Int32) => hk_E D [(cI, .int), (cJ, .long)] (va_A (mw cI cJ ad g lg ar bk) sz) (mw cI cJ ad (upd g 42 28) lg (va_up ar 22 u) bk)) (va_A (mw cI cJ ad g lg ar bk) sz)) 0 0 (va_A (mw cI cJ ad g lg ar bk) sz) := by
  refine hk_met (cc := cX12_put) (maxL := 2) (ret := none) (by decide) rfl (Nat.le_of_ble_eq_true rfl) ?_
  intro p e s m below meth c ls hx hb hr hml hown hts hlocks hin hA hw hl
  have iX12 : ∀ w ∈ wsX120, w ∈ ww_cn_put27 := fun _ h => List.mem_cons_of_mem _ (List.mem_append_right _ (List.mem_append_left _ h))
  have hl : lv_has ls 2 [(0, .ref (ad 0)), (1, .int b)] := hl
  refine lv_aload_n hx hb dX12_put_0 rfl (lv_at hl 0 rfl) ?_
  refine hk_get (ci := 15) (C := RX12) (T := TX12) (N := 92) (v := .int 27) hx hb hts iX12 hown hw 0 rfl rfl 69 (by decide) (hts _ (List.mem_of_getElem? (i := 1) rfl)) (congrArg (fun z => some (Value.int z)) h42) dX12_put_1 ?_
  refine lv_sipush (v := 20000) hx hb dX12_put_4 (by decide) ?_
  refine lv_icmp_ge (tgt := 24) hx hb dX12_put_7 (by decide) (fun cc_1 => absurd cc_1 (by decide)) (fun _ => ?_)
  refine lv_aload_n hx hb dX12_put_10 rfl (lv_at hl 0 rfl) ?_
  refine hk_get (ci := 15) (C := RX12) (T := TX12) (N := 92) (v := .ref (ad 23)) hx hb hts iX12 hown hw 0 rfl rfl 68 (by decide) (hts _ (List.mem_of_getElem? (i := 2) rfl)) rfl dX12_put_11 ?_
  refine lv_aload_n hx hb dX12_put_14 rfl (lv_at hl 0 rfl) ?_
  refine hk_get (ci := 15) (C := RX12) (T := TX12) (N := 92) (v := .int 27) hx hb hts iX12 hown hw 0 rfl rfl 69 (by decide) (hts _ (List.mem_of_getElem? (i := 1) rfl)) (congrArg (fun z => some (Value.int z)) h42) dX12_put_15 ?_
  refine lv_iload_n hx hb dX12_put_18 rfl (lv_at hl 1 rfl) ?_
  refine lv_sipush (v := 255) hx hb dX12_put_19 (by decide) ?_
  refine lv_iand hx hb dX12_put_22 ?_
  refine hk_iast hx hb hw 23 0 rfl rfl (show ¬ (_ ∨ _) by decide) dX12_put_23 (ws' := mw cI cJ ad g lg (va_up ar 22 (upd (ar 22) 27 (b &&& 255))) bk) rfl (fun H locs hw => ?_)
  refine lv_aload_n hx hb dX12_put_24 rfl (lv_at hl 0 rfl) ?_
  refine lv_dup hx hb dX12_put_25 rfl ?_
  refine hk_get (ci := 15) (C := RX12) (T := TX12) (N := 92) (v := .int 27) hx hb hts iX12 hown hw 0 rfl rfl 69 (by decide) (hts _ (List.mem_of_getElem? (i := 1) rfl)) (congrArg (fun z => some (Value.int z)) h42) dX12_put_26 ?_
  refine lv_iconst (v := 1) hx hb dX12_put_29 (by decide) ?_
  refine lv_iadd hx hb dX12_put_30 ?_
  refine hk_topi 28 (by decide +kernel) ?_
  refine hk_put (ci := 15) (C := RX12) (T := TX12) (N := 92) (ty := .int) (v := .int 28) hx hb hts iX12 tyX12 tyX12_ok nmX12 hown hw 0 rfl rfl 69 (by decide) (hts _ (List.mem_of_getElem? (i := 1) rfl)) rfl (by decide +kernel) rfl rfl (Nat.le_of_ble_eq_true rfl) dX12_put_31 (ws' := mw cI cJ ad (upd g 42 28) lg (va_up ar 22 (upd (ar 22) 27 (b &&& 255))) bk) rfl (fun H locs hw => ?_)
  exact hk_vret (u := (upd (ar 22) 27 (b &&& 255))) hx hb hr hlocks (hw) (trivial) dX12_put_34

def ww_cn_put28 : List Cond := Cond.code yX12_put cX12_put 2 none :: ([Cond.fieldLink RX12 391 "LzmaChainsModel" "rowSize" "I", Cond.fieldLink RX12 98 "LzmaChainsModel" "row" "[I"] ++ (wsX120 ++ ([])))
set_option maxHeartbeats 4000000 in
set_option maxRecDepth 100000 in
/-- the reference: put, it has 28 -/
theorem cn_put28 (l : Launch) (D : va_G) (cI cJ : ClassId) (ad : Nat → Nat) (g : Nat → Int32) (lg : Nat → Int64) (ar : Nat → Nat → Int32) (bk : Nat → Int64) (sz : Nat) (b : Int32) (h42 : g 42 = 28) : Met l yX12_put ww_cn_put28 { frames := 0, cells := 0, slots := 0, locals := 0 } (va_Pc [.ref (ad 0), .int b] (hk_B D [(cI, .int), (cJ, .long)] sz (mw cI cJ ad g lg ar bk))) (va_Qv (fun u : (Nat → Int32) => True) (fun u : (Nat → Int32) => hk_E D [(cI, .int), (cJ, .long)] (va_A (mw cI cJ ad g lg ar bk) sz) (mw cI cJ ad (upd g 42 29) lg (va_up ar 22 u) bk)) (va_A (mw cI cJ ad g lg ar bk) sz)) 0 0 (va_A (mw cI cJ ad g lg ar bk) sz) := by
  refine hk_met (cc := cX12_put) (maxL := 2) (ret := none) (by decide) rfl (Nat.le_of_ble_eq_true rfl) ?_
  intro p e s m below meth c ls hx hb hr hml hown hts hlocks hin hA hw hl
  have iX12 : ∀ w ∈ wsX120, w ∈ ww_cn_put28 := fun _ h => List.mem_cons_of_mem _ (List.mem_append_right _ (List.mem_append_left _ h))
  have hl : lv_has ls 2 [(0, .ref (ad 0)), (1, .int b)] := hl
  refine lv_aload_n hx hb dX12_put_0 rfl (lv_at hl 0 rfl) ?_
  refine hk_get (ci := 15) (C := RX12) (T := TX12) (N := 92) (v := .int 28) hx hb hts iX12 hown hw 0 rfl rfl 69 (by decide) (hts _ (List.mem_of_getElem? (i := 1) rfl)) (congrArg (fun z => some (Value.int z)) h42) dX12_put_1 ?_
  refine lv_sipush (v := 20000) hx hb dX12_put_4 (by decide) ?_
  refine lv_icmp_ge (tgt := 24) hx hb dX12_put_7 (by decide) (fun cc_1 => absurd cc_1 (by decide)) (fun _ => ?_)
  refine lv_aload_n hx hb dX12_put_10 rfl (lv_at hl 0 rfl) ?_
  refine hk_get (ci := 15) (C := RX12) (T := TX12) (N := 92) (v := .ref (ad 23)) hx hb hts iX12 hown hw 0 rfl rfl 68 (by decide) (hts _ (List.mem_of_getElem? (i := 2) rfl)) rfl dX12_put_11 ?_
  refine lv_aload_n hx hb dX12_put_14 rfl (lv_at hl 0 rfl) ?_
  refine hk_get (ci := 15) (C := RX12) (T := TX12) (N := 92) (v := .int 28) hx hb hts iX12 hown hw 0 rfl rfl 69 (by decide) (hts _ (List.mem_of_getElem? (i := 1) rfl)) (congrArg (fun z => some (Value.int z)) h42) dX12_put_15 ?_
  refine lv_iload_n hx hb dX12_put_18 rfl (lv_at hl 1 rfl) ?_
  refine lv_sipush (v := 255) hx hb dX12_put_19 (by decide) ?_
  refine lv_iand hx hb dX12_put_22 ?_
  refine hk_iast hx hb hw 23 0 rfl rfl (show ¬ (_ ∨ _) by decide) dX12_put_23 (ws' := mw cI cJ ad g lg (va_up ar 22 (upd (ar 22) 28 (b &&& 255))) bk) rfl (fun H locs hw => ?_)
  refine lv_aload_n hx hb dX12_put_24 rfl (lv_at hl 0 rfl) ?_
  refine lv_dup hx hb dX12_put_25 rfl ?_
  refine hk_get (ci := 15) (C := RX12) (T := TX12) (N := 92) (v := .int 28) hx hb hts iX12 hown hw 0 rfl rfl 69 (by decide) (hts _ (List.mem_of_getElem? (i := 1) rfl)) (congrArg (fun z => some (Value.int z)) h42) dX12_put_26 ?_
  refine lv_iconst (v := 1) hx hb dX12_put_29 (by decide) ?_
  refine lv_iadd hx hb dX12_put_30 ?_
  refine hk_topi 29 (by decide +kernel) ?_
  refine hk_put (ci := 15) (C := RX12) (T := TX12) (N := 92) (ty := .int) (v := .int 29) hx hb hts iX12 tyX12 tyX12_ok nmX12 hown hw 0 rfl rfl 69 (by decide) (hts _ (List.mem_of_getElem? (i := 1) rfl)) rfl (by decide +kernel) rfl rfl (Nat.le_of_ble_eq_true rfl) dX12_put_31 (ws' := mw cI cJ ad (upd g 42 29) lg (va_up ar 22 (upd (ar 22) 28 (b &&& 255))) bk) rfl (fun H locs hw => ?_)
  exact hk_vret (u := (upd (ar 22) 28 (b &&& 255))) hx hb hr hlocks (hw) (trivial) dX12_put_34

def ww_cn_put29 : List Cond := Cond.code yX12_put cX12_put 2 none :: ([Cond.fieldLink RX12 391 "LzmaChainsModel" "rowSize" "I", Cond.fieldLink RX12 98 "LzmaChainsModel" "row" "[I"] ++ (wsX120 ++ ([])))
set_option maxHeartbeats 4000000 in
set_option maxRecDepth 100000 in
/-- the reference: put, it has 29 -/
theorem cn_put29 (l : Launch) (D : va_G) (cI cJ : ClassId) (ad : Nat → Nat) (g : Nat → Int32) (lg : Nat → Int64) (ar : Nat → Nat → Int32) (bk : Nat → Int64) (sz : Nat) (b : Int32) (h42 : g 42 = 29) : Met l yX12_put ww_cn_put29 { frames := 0, cells := 0, slots := 0, locals := 0 } (va_Pc [.ref (ad 0), .int b] (hk_B D [(cI, .int), (cJ, .long)] sz (mw cI cJ ad g lg ar bk))) (va_Qv (fun u : (Nat → Int32) => True) (fun u : (Nat → Int32) => hk_E D [(cI, .int), (cJ, .long)] (va_A (mw cI cJ ad g lg ar bk) sz) (mw cI cJ ad (upd g 42 30) lg (va_up ar 22 u) bk)) (va_A (mw cI cJ ad g lg ar bk) sz)) 0 0 (va_A (mw cI cJ ad g lg ar bk) sz) := by
  refine hk_met (cc := cX12_put) (maxL := 2) (ret := none) (by decide) rfl (Nat.le_of_ble_eq_true rfl) ?_
  intro p e s m below meth c ls hx hb hr hml hown hts hlocks hin hA hw hl
  have iX12 : ∀ w ∈ wsX120, w ∈ ww_cn_put29 := fun _ h => List.mem_cons_of_mem _ (List.mem_append_right _ (List.mem_append_left _ h))
  have hl : lv_has ls 2 [(0, .ref (ad 0)), (1, .int b)] := hl
  refine lv_aload_n hx hb dX12_put_0 rfl (lv_at hl 0 rfl) ?_
  refine hk_get (ci := 15) (C := RX12) (T := TX12) (N := 92) (v := .int 29) hx hb hts iX12 hown hw 0 rfl rfl 69 (by decide) (hts _ (List.mem_of_getElem? (i := 1) rfl)) (congrArg (fun z => some (Value.int z)) h42) dX12_put_1 ?_
  refine lv_sipush (v := 20000) hx hb dX12_put_4 (by decide) ?_
  refine lv_icmp_ge (tgt := 24) hx hb dX12_put_7 (by decide) (fun cc_1 => absurd cc_1 (by decide)) (fun _ => ?_)
  refine lv_aload_n hx hb dX12_put_10 rfl (lv_at hl 0 rfl) ?_
  refine hk_get (ci := 15) (C := RX12) (T := TX12) (N := 92) (v := .ref (ad 23)) hx hb hts iX12 hown hw 0 rfl rfl 68 (by decide) (hts _ (List.mem_of_getElem? (i := 2) rfl)) rfl dX12_put_11 ?_
  refine lv_aload_n hx hb dX12_put_14 rfl (lv_at hl 0 rfl) ?_
  refine hk_get (ci := 15) (C := RX12) (T := TX12) (N := 92) (v := .int 29) hx hb hts iX12 hown hw 0 rfl rfl 69 (by decide) (hts _ (List.mem_of_getElem? (i := 1) rfl)) (congrArg (fun z => some (Value.int z)) h42) dX12_put_15 ?_
  refine lv_iload_n hx hb dX12_put_18 rfl (lv_at hl 1 rfl) ?_
  refine lv_sipush (v := 255) hx hb dX12_put_19 (by decide) ?_
  refine lv_iand hx hb dX12_put_22 ?_
  refine hk_iast hx hb hw 23 0 rfl rfl (show ¬ (_ ∨ _) by decide) dX12_put_23 (ws' := mw cI cJ ad g lg (va_up ar 22 (upd (ar 22) 29 (b &&& 255))) bk) rfl (fun H locs hw => ?_)
  refine lv_aload_n hx hb dX12_put_24 rfl (lv_at hl 0 rfl) ?_
  refine lv_dup hx hb dX12_put_25 rfl ?_
  refine hk_get (ci := 15) (C := RX12) (T := TX12) (N := 92) (v := .int 29) hx hb hts iX12 hown hw 0 rfl rfl 69 (by decide) (hts _ (List.mem_of_getElem? (i := 1) rfl)) (congrArg (fun z => some (Value.int z)) h42) dX12_put_26 ?_
  refine lv_iconst (v := 1) hx hb dX12_put_29 (by decide) ?_
  refine lv_iadd hx hb dX12_put_30 ?_
  refine hk_topi 30 (by decide +kernel) ?_
  refine hk_put (ci := 15) (C := RX12) (T := TX12) (N := 92) (ty := .int) (v := .int 30) hx hb hts iX12 tyX12 tyX12_ok nmX12 hown hw 0 rfl rfl 69 (by decide) (hts _ (List.mem_of_getElem? (i := 1) rfl)) rfl (by decide +kernel) rfl rfl (Nat.le_of_ble_eq_true rfl) dX12_put_31 (ws' := mw cI cJ ad (upd g 42 30) lg (va_up ar 22 (upd (ar 22) 29 (b &&& 255))) bk) rfl (fun H locs hw => ?_)
  exact hk_vret (u := (upd (ar 22) 29 (b &&& 255))) hx hb hr hlocks (hw) (trivial) dX12_put_34

def ww_cn_put30 : List Cond := Cond.code yX12_put cX12_put 2 none :: ([Cond.fieldLink RX12 391 "LzmaChainsModel" "rowSize" "I", Cond.fieldLink RX12 98 "LzmaChainsModel" "row" "[I"] ++ (wsX120 ++ ([])))
set_option maxHeartbeats 4000000 in
set_option maxRecDepth 100000 in
/-- the reference: put, it has 30 -/
theorem cn_put30 (l : Launch) (D : va_G) (cI cJ : ClassId) (ad : Nat → Nat) (g : Nat → Int32) (lg : Nat → Int64) (ar : Nat → Nat → Int32) (bk : Nat → Int64) (sz : Nat) (b : Int32) (h42 : g 42 = 30) : Met l yX12_put ww_cn_put30 { frames := 0, cells := 0, slots := 0, locals := 0 } (va_Pc [.ref (ad 0), .int b] (hk_B D [(cI, .int), (cJ, .long)] sz (mw cI cJ ad g lg ar bk))) (va_Qv (fun u : (Nat → Int32) => True) (fun u : (Nat → Int32) => hk_E D [(cI, .int), (cJ, .long)] (va_A (mw cI cJ ad g lg ar bk) sz) (mw cI cJ ad (upd g 42 31) lg (va_up ar 22 u) bk)) (va_A (mw cI cJ ad g lg ar bk) sz)) 0 0 (va_A (mw cI cJ ad g lg ar bk) sz) := by
  refine hk_met (cc := cX12_put) (maxL := 2) (ret := none) (by decide) rfl (Nat.le_of_ble_eq_true rfl) ?_
  intro p e s m below meth c ls hx hb hr hml hown hts hlocks hin hA hw hl
  have iX12 : ∀ w ∈ wsX120, w ∈ ww_cn_put30 := fun _ h => List.mem_cons_of_mem _ (List.mem_append_right _ (List.mem_append_left _ h))
  have hl : lv_has ls 2 [(0, .ref (ad 0)), (1, .int b)] := hl
  refine lv_aload_n hx hb dX12_put_0 rfl (lv_at hl 0 rfl) ?_
  refine hk_get (ci := 15) (C := RX12) (T := TX12) (N := 92) (v := .int 30) hx hb hts iX12 hown hw 0 rfl rfl 69 (by decide) (hts _ (List.mem_of_getElem? (i := 1) rfl)) (congrArg (fun z => some (Value.int z)) h42) dX12_put_1 ?_
  refine lv_sipush (v := 20000) hx hb dX12_put_4 (by decide) ?_
  refine lv_icmp_ge (tgt := 24) hx hb dX12_put_7 (by decide) (fun cc_1 => absurd cc_1 (by decide)) (fun _ => ?_)
  refine lv_aload_n hx hb dX12_put_10 rfl (lv_at hl 0 rfl) ?_
  refine hk_get (ci := 15) (C := RX12) (T := TX12) (N := 92) (v := .ref (ad 23)) hx hb hts iX12 hown hw 0 rfl rfl 68 (by decide) (hts _ (List.mem_of_getElem? (i := 2) rfl)) rfl dX12_put_11 ?_
  refine lv_aload_n hx hb dX12_put_14 rfl (lv_at hl 0 rfl) ?_
  refine hk_get (ci := 15) (C := RX12) (T := TX12) (N := 92) (v := .int 30) hx hb hts iX12 hown hw 0 rfl rfl 69 (by decide) (hts _ (List.mem_of_getElem? (i := 1) rfl)) (congrArg (fun z => some (Value.int z)) h42) dX12_put_15 ?_
  refine lv_iload_n hx hb dX12_put_18 rfl (lv_at hl 1 rfl) ?_
  refine lv_sipush (v := 255) hx hb dX12_put_19 (by decide) ?_
  refine lv_iand hx hb dX12_put_22 ?_
  refine hk_iast hx hb hw 23 0 rfl rfl (show ¬ (_ ∨ _) by decide) dX12_put_23 (ws' := mw cI cJ ad g lg (va_up ar 22 (upd (ar 22) 30 (b &&& 255))) bk) rfl (fun H locs hw => ?_)
  refine lv_aload_n hx hb dX12_put_24 rfl (lv_at hl 0 rfl) ?_
  refine lv_dup hx hb dX12_put_25 rfl ?_
  refine hk_get (ci := 15) (C := RX12) (T := TX12) (N := 92) (v := .int 30) hx hb hts iX12 hown hw 0 rfl rfl 69 (by decide) (hts _ (List.mem_of_getElem? (i := 1) rfl)) (congrArg (fun z => some (Value.int z)) h42) dX12_put_26 ?_
  refine lv_iconst (v := 1) hx hb dX12_put_29 (by decide) ?_
  refine lv_iadd hx hb dX12_put_30 ?_
  refine hk_topi 31 (by decide +kernel) ?_
  refine hk_put (ci := 15) (C := RX12) (T := TX12) (N := 92) (ty := .int) (v := .int 31) hx hb hts iX12 tyX12 tyX12_ok nmX12 hown hw 0 rfl rfl 69 (by decide) (hts _ (List.mem_of_getElem? (i := 1) rfl)) rfl (by decide +kernel) rfl rfl (Nat.le_of_ble_eq_true rfl) dX12_put_31 (ws' := mw cI cJ ad (upd g 42 31) lg (va_up ar 22 (upd (ar 22) 30 (b &&& 255))) bk) rfl (fun H locs hw => ?_)
  exact hk_vret (u := (upd (ar 22) 30 (b &&& 255))) hx hb hr hlocks (hw) (trivial) dX12_put_34

def ww_cn_put31 : List Cond := Cond.code yX12_put cX12_put 2 none :: ([Cond.fieldLink RX12 391 "LzmaChainsModel" "rowSize" "I", Cond.fieldLink RX12 98 "LzmaChainsModel" "row" "[I"] ++ (wsX120 ++ ([])))
set_option maxHeartbeats 4000000 in
set_option maxRecDepth 100000 in
/-- the reference: put, it has 31 -/
theorem cn_put31 (l : Launch) (D : va_G) (cI cJ : ClassId) (ad : Nat → Nat) (g : Nat → Int32) (lg : Nat → Int64) (ar : Nat → Nat → Int32) (bk : Nat → Int64) (sz : Nat) (b : Int32) (h42 : g 42 = 31) : Met l yX12_put ww_cn_put31 { frames := 0, cells := 0, slots := 0, locals := 0 } (va_Pc [.ref (ad 0), .int b] (hk_B D [(cI, .int), (cJ, .long)] sz (mw cI cJ ad g lg ar bk))) (va_Qv (fun u : (Nat → Int32) => True) (fun u : (Nat → Int32) => hk_E D [(cI, .int), (cJ, .long)] (va_A (mw cI cJ ad g lg ar bk) sz) (mw cI cJ ad (upd g 42 32) lg (va_up ar 22 u) bk)) (va_A (mw cI cJ ad g lg ar bk) sz)) 0 0 (va_A (mw cI cJ ad g lg ar bk) sz) := by
  refine hk_met (cc := cX12_put) (maxL := 2) (ret := none) (by decide) rfl (Nat.le_of_ble_eq_true rfl) ?_
  intro p e s m below meth c ls hx hb hr hml hown hts hlocks hin hA hw hl
  have iX12 : ∀ w ∈ wsX120, w ∈ ww_cn_put31 := fun _ h => List.mem_cons_of_mem _ (List.mem_append_right _ (List.mem_append_left _ h))
  have hl : lv_has ls 2 [(0, .ref (ad 0)), (1, .int b)] := hl
  refine lv_aload_n hx hb dX12_put_0 rfl (lv_at hl 0 rfl) ?_
  refine hk_get (ci := 15) (C := RX12) (T := TX12) (N := 92) (v := .int 31) hx hb hts iX12 hown hw 0 rfl rfl 69 (by decide) (hts _ (List.mem_of_getElem? (i := 1) rfl)) (congrArg (fun z => some (Value.int z)) h42) dX12_put_1 ?_
  refine lv_sipush (v := 20000) hx hb dX12_put_4 (by decide) ?_
  refine lv_icmp_ge (tgt := 24) hx hb dX12_put_7 (by decide) (fun cc_1 => absurd cc_1 (by decide)) (fun _ => ?_)
  refine lv_aload_n hx hb dX12_put_10 rfl (lv_at hl 0 rfl) ?_
  refine hk_get (ci := 15) (C := RX12) (T := TX12) (N := 92) (v := .ref (ad 23)) hx hb hts iX12 hown hw 0 rfl rfl 68 (by decide) (hts _ (List.mem_of_getElem? (i := 2) rfl)) rfl dX12_put_11 ?_
  refine lv_aload_n hx hb dX12_put_14 rfl (lv_at hl 0 rfl) ?_
  refine hk_get (ci := 15) (C := RX12) (T := TX12) (N := 92) (v := .int 31) hx hb hts iX12 hown hw 0 rfl rfl 69 (by decide) (hts _ (List.mem_of_getElem? (i := 1) rfl)) (congrArg (fun z => some (Value.int z)) h42) dX12_put_15 ?_
  refine lv_iload_n hx hb dX12_put_18 rfl (lv_at hl 1 rfl) ?_
  refine lv_sipush (v := 255) hx hb dX12_put_19 (by decide) ?_
  refine lv_iand hx hb dX12_put_22 ?_
  refine hk_iast hx hb hw 23 0 rfl rfl (show ¬ (_ ∨ _) by decide) dX12_put_23 (ws' := mw cI cJ ad g lg (va_up ar 22 (upd (ar 22) 31 (b &&& 255))) bk) rfl (fun H locs hw => ?_)
  refine lv_aload_n hx hb dX12_put_24 rfl (lv_at hl 0 rfl) ?_
  refine lv_dup hx hb dX12_put_25 rfl ?_
  refine hk_get (ci := 15) (C := RX12) (T := TX12) (N := 92) (v := .int 31) hx hb hts iX12 hown hw 0 rfl rfl 69 (by decide) (hts _ (List.mem_of_getElem? (i := 1) rfl)) (congrArg (fun z => some (Value.int z)) h42) dX12_put_26 ?_
  refine lv_iconst (v := 1) hx hb dX12_put_29 (by decide) ?_
  refine lv_iadd hx hb dX12_put_30 ?_
  refine hk_topi 32 (by decide +kernel) ?_
  refine hk_put (ci := 15) (C := RX12) (T := TX12) (N := 92) (ty := .int) (v := .int 32) hx hb hts iX12 tyX12 tyX12_ok nmX12 hown hw 0 rfl rfl 69 (by decide) (hts _ (List.mem_of_getElem? (i := 1) rfl)) rfl (by decide +kernel) rfl rfl (Nat.le_of_ble_eq_true rfl) dX12_put_31 (ws' := mw cI cJ ad (upd g 42 32) lg (va_up ar 22 (upd (ar 22) 31 (b &&& 255))) bk) rfl (fun H locs hw => ?_)
  exact hk_vret (u := (upd (ar 22) 31 (b &&& 255))) hx hb hr hlocks (hw) (trivial) dX12_put_34

def ww_cn_wide1_4 : List Cond := Cond.code yX12_putWide cX12_putWide 5 none :: ([Cond.methodLink RX12 394 yX12_put, Cond.instanceMethod yX12_put, Cond.selects RX12 yX12_put yX12_put, Cond.initialized RX12, Cond.code yX12_put cX12_put 2 none, Cond.fieldLink RX12 391 "LzmaChainsModel" "rowSize" "I", Cond.fieldLink RX12 98 "LzmaChainsModel" "row" "[I"] ++ (wsX120 ++ ([])))
set_option maxRecDepth 20000 in
theorem gw_cn_wide1_4_0 : GoodIn ww_cn_wide1_4 (wsV RX12 394 RX12 yX12_put ww_cn_put1) := goodIn_r _ [1, 2, 3, 4, 5, 6, 7, 8, 9, 10, 11, 12, 13, 14, 15, 16, 17, 18, 19, 20, 21, 22, 23, 24, 25, 26, 27, 28, 29, 30, 31, 32, 33, 34, 35, 36, 37, 38, 39, 40, 41, 42, 43, 44, 45, 46, 47, 48, 49, 50, 51, 52, 53, 54, 55, 56, 57, 58, 59, 60, 61, 62, 63, 64, 65, 66, 67, 68, 69, 70, 71, 72, 73, 74, 75, 76, 77, 78, 79, 80, 81, 82, 83, 84, 85, 86, 87, 88, 89, 90, 91, 92, 93, 94, 95, 96, 97, 98, 99] rfl (by decide +kernel)
set_option maxRecDepth 20000 in
theorem gw_cn_wide1_4_1 : GoodIn ww_cn_wide1_4 (wsV RX12 394 RX12 yX12_put ww_cn_put2) := goodIn_r _ [1, 2, 3, 4, 5, 6, 7, 8, 9, 10, 11, 12, 13, 14, 15, 16, 17, 18, 19, 20, 21, 22, 23, 24, 25, 26, 27, 28, 29, 30, 31, 32, 33, 34, 35, 36, 37, 38, 39, 40, 41, 42, 43, 44, 45, 46, 47, 48, 49, 50, 51, 52, 53, 54, 55, 56, 57, 58, 59, 60, 61, 62, 63, 64, 65, 66, 67, 68, 69, 70, 71, 72, 73, 74, 75, 76, 77, 78, 79, 80, 81, 82, 83, 84, 85, 86, 87, 88, 89, 90, 91, 92, 93, 94, 95, 96, 97, 98, 99] rfl (by decide +kernel)
set_option maxRecDepth 20000 in
theorem gw_cn_wide1_4_2 : GoodIn ww_cn_wide1_4 (wsV RX12 394 RX12 yX12_put ww_cn_put3) := goodIn_r _ [1, 2, 3, 4, 5, 6, 7, 8, 9, 10, 11, 12, 13, 14, 15, 16, 17, 18, 19, 20, 21, 22, 23, 24, 25, 26, 27, 28, 29, 30, 31, 32, 33, 34, 35, 36, 37, 38, 39, 40, 41, 42, 43, 44, 45, 46, 47, 48, 49, 50, 51, 52, 53, 54, 55, 56, 57, 58, 59, 60, 61, 62, 63, 64, 65, 66, 67, 68, 69, 70, 71, 72, 73, 74, 75, 76, 77, 78, 79, 80, 81, 82, 83, 84, 85, 86, 87, 88, 89, 90, 91, 92, 93, 94, 95, 96, 97, 98, 99] rfl (by decide +kernel)
set_option maxRecDepth 20000 in
theorem gw_cn_wide1_4_3 : GoodIn ww_cn_wide1_4 (wsV RX12 394 RX12 yX12_put ww_cn_put4) := goodIn_r _ [1, 2, 3, 4, 5, 6, 7, 8, 9, 10, 11, 12, 13, 14, 15, 16, 17, 18, 19, 20, 21, 22, 23, 24, 25, 26, 27, 28, 29, 30, 31, 32, 33, 34, 35, 36, 37, 38, 39, 40, 41, 42, 43, 44, 45, 46, 47, 48, 49, 50, 51, 52, 53, 54, 55, 56, 57, 58, 59, 60, 61, 62, 63, 64, 65, 66, 67, 68, 69, 70, 71, 72, 73, 74, 75, 76, 77, 78, 79, 80, 81, 82, 83, 84, 85, 86, 87, 88, 89, 90, 91, 92, 93, 94, 95, 96, 97, 98, 99] rfl (by decide +kernel)
set_option maxHeartbeats 4000000 in
set_option maxRecDepth 100000 in
/-- the reference: putWide 4, it has 1 -/
theorem cn_wide1_4 (l : Launch) (D : va_G) (cI cJ : ClassId) (ad : Nat → Nat) (g : Nat → Int32) (lg : Nat → Int64) (ar : Nat → Nat → Int32) (bk : Nat → Int64) (sz : Nat) (x : Int64) (h42 : g 42 = 1) : Met l yX12_putWide ww_cn_wide1_4 { frames := 1, cells := 0, slots := 0, locals := 21 } (va_Pc [.ref (ad 0), .long x, .int 4] (hk_B D [(cI, .int), (cJ, .long)] sz (mw cI cJ ad g lg ar bk))) (va_Qv (fun u : (Nat → Int32) => True) (fun u : (Nat → Int32) => hk_E D [(cI, .int), (cJ, .long)] (va_A (mw cI cJ ad g lg ar bk) sz) (mw cI cJ ad (upd g 42 5) lg (va_up ar 22 u) bk)) (va_A (mw cI cJ ad g lg ar bk) sz)) 0 0 (va_A (mw cI cJ ad g lg ar bk) sz) := by
  refine hk_met (cc := cX12_putWide) (maxL := 5) (ret := none) (by decide) rfl (Nat.le_of_ble_eq_true rfl) ?_
  intro p e s m below meth c ls hx hb hr hml hown hts hlocks hin hA hw hl
  have iX12 : ∀ w ∈ wsX120, w ∈ ww_cn_wide1_4 := fun _ h => List.mem_cons_of_mem _ (List.mem_append_right _ (List.mem_append_left _ h))
  have hl : lv_has ls 5 [(0, .ref (ad 0)), (1, .long x), (3, .int 4)] := hl
  refine lv_iconst (v := 0) hx hb dX12_putWide_0 (by decide) ?_
  refine lv_istore (lv' := [(4, .int 0), (0, .ref (ad 0)), (1, .long x), (3, .int 4)]) hx hb dX12_putWide_1 hl (by decide) rfl (fun ls hl => ?_)
  refine lv_iload hx hb dX12_putWide_3 (lv_at hl 0 rfl) ?_
  refine lv_iload_n hx hb dX12_putWide_5 rfl (lv_at hl 3 rfl) ?_
  refine lv_icmp_ge (tgt := 27) hx hb dX12_putWide_6 (by decide) (fun cc_1 => absurd cc_1 (by decide)) (fun _ => ?_)
  refine lv_aload_n hx hb dX12_putWide_9 rfl (lv_at hl 1 rfl) ?_
  refine lv_lload_n hx hb dX12_putWide_10 rfl (lv_at hl 2 rfl) ?_
  refine lv_bipush (v := 8) hx hb dX12_putWide_11 (by decide) ?_
  refine lv_iload hx hb dX12_putWide_13 (lv_at hl 0 rfl) ?_
  refine lv_imul hx hb dX12_putWide_15 ?_
  refine hk_topi 0 (by decide +kernel) ?_
  refine lv_lshr (v := ((x : Int64) >>> ((0 : Int32).toInt64 &&& 63))) hx hb dX12_putWide_16 rfl ?_
  refine lv_l2i (v := (((x : Int64) >>> ((0 : Int32).toInt64 &&& 63)) : Int64).toInt32) hx hb dX12_putWide_17 rfl ?_
  refine hk_Vv (As := [.int ((((x : Int64) >>> ((0 : Int32).toInt64 &&& 63)) : Int64).toInt32)]) (rest := []) ⟨hx, hb, hml, hown, hts⟩ hw hA (cn_put1 l D cI cJ ad g lg ar bk _ ((((x : Int64) >>> ((0 : Int32).toInt64 &&& 63)) : Int64).toInt32) h42) (cwV 1 hts gw_cn_wide1_4_0 rfl rfl rfl (by decide +kernel) ⟨Nat.le_of_ble_eq_true rfl, Nat.le_of_ble_eq_true rfl⟩) 0 (ci := 15) (T := TX12) (N := 92) rfl rfl rfl hl.1 rfl (Nat.le_of_ble_eq_true rfl) dX12_putWide_18 ⟨Nat.le_of_ble_eq_true rfl, Nat.le_of_ble_eq_true rfl⟩ (fun uu_3 H locs hp_4 hw => ?_)
  have hw : hk_W D [(cI, .int), (cJ, .long)] _ s _ _ (mw cI cJ ad (upd g 42 2) lg (va_up ar 22 uu_3) bk) := hw
  refine lv_iinc (v := 1) (lv' := [(4, .int 1), (0, .ref (ad 0)), (1, .long x), (3, .int 4)]) hx hb dX12_putWide_21 hl (k := 0) rfl rfl (by decide) rfl (fun ls hl => ?_)
  refine lv_goto (tgt := 3) hx hb dX12_putWide_24 (by decide) ?_
  refine lv_iload hx hb dX12_putWide_3 (lv_at hl 0 rfl) ?_
  refine lv_iload_n hx hb dX12_putWide_5 rfl (lv_at hl 3 rfl) ?_
  refine lv_icmp_ge (tgt := 27) hx hb dX12_putWide_6 (by decide) (fun cc_5 => absurd cc_5 (by decide)) (fun _ => ?_)
  refine lv_aload_n hx hb dX12_putWide_9 rfl (lv_at hl 1 rfl) ?_
  refine lv_lload_n hx hb dX12_putWide_10 rfl (lv_at hl 2 rfl) ?_
  refine lv_bipush (v := 8) hx hb dX12_putWide_11 (by decide) ?_
  refine lv_iload hx hb dX12_putWide_13 (lv_at hl 0 rfl) ?_
  refine lv_imul hx hb dX12_putWide_15 ?_
  refine hk_topi 8 (by decide +kernel) ?_
  refine lv_lshr (v := ((x : Int64) >>> ((8 : Int32).toInt64 &&& 63))) hx hb dX12_putWide_16 rfl ?_
  refine lv_l2i (v := (((x : Int64) >>> ((8 : Int32).toInt64 &&& 63)) : Int64).toInt32) hx hb dX12_putWide_17 rfl ?_
  refine hk_Vv (As := [.int ((((x : Int64) >>> ((8 : Int32).toInt64 &&& 63)) : Int64).toInt32)]) (rest := []) ⟨hx, hb, hml, hown, hts⟩ hw hA (cn_put2 l D cI cJ ad (upd g 42 2) lg (va_up ar 22 uu_3) bk _ ((((x : Int64) >>> ((8 : Int32).toInt64 &&& 63)) : Int64).toInt32) rfl) (cwV 1 hts gw_cn_wide1_4_1 rfl rfl rfl (by decide +kernel) ⟨Nat.le_of_ble_eq_true rfl, Nat.le_of_ble_eq_true rfl⟩) 0 (ci := 15) (T := TX12) (N := 92) rfl rfl rfl hl.1 rfl (Nat.le_of_ble_eq_true rfl) dX12_putWide_18 ⟨Nat.le_of_ble_eq_true rfl, Nat.le_of_ble_eq_true rfl⟩ (fun uu_7 H locs hp_8 hw => ?_)
  have hw : hk_W D [(cI, .int), (cJ, .long)] _ s _ _ (mw cI cJ ad (upd g 42 3) lg (va_up ar 22 uu_7) bk) := hw
  refine lv_iinc (v := 2) (lv' := [(4, .int 2), (0, .ref (ad 0)), (1, .long x), (3, .int 4)]) hx hb dX12_putWide_21 hl (k := 0) rfl rfl (by decide) rfl (fun ls hl => ?_)
  refine lv_goto (tgt := 3) hx hb dX12_putWide_24 (by decide) ?_
  refine lv_iload hx hb dX12_putWide_3 (lv_at hl 0 rfl) ?_
  refine lv_iload_n hx hb dX12_putWide_5 rfl (lv_at hl 3 rfl) ?_
  refine lv_icmp_ge (tgt := 27) hx hb dX12_putWide_6 (by decide) (fun cc_9 => absurd cc_9 (by decide)) (fun _ => ?_)
  refine lv_aload_n hx hb dX12_putWide_9 rfl (lv_at hl 1 rfl) ?_
  refine lv_lload_n hx hb dX12_putWide_10 rfl (lv_at hl 2 rfl) ?_
  refine lv_bipush (v := 8) hx hb dX12_putWide_11 (by decide) ?_
  refine lv_iload hx hb dX12_putWide_13 (lv_at hl 0 rfl) ?_
  refine lv_imul hx hb dX12_putWide_15 ?_
  refine hk_topi 16 (by decide +kernel) ?_
  refine lv_lshr (v := ((x : Int64) >>> ((16 : Int32).toInt64 &&& 63))) hx hb dX12_putWide_16 rfl ?_
  refine lv_l2i (v := (((x : Int64) >>> ((16 : Int32).toInt64 &&& 63)) : Int64).toInt32) hx hb dX12_putWide_17 rfl ?_
  refine hk_Vv (As := [.int ((((x : Int64) >>> ((16 : Int32).toInt64 &&& 63)) : Int64).toInt32)]) (rest := []) ⟨hx, hb, hml, hown, hts⟩ hw hA (cn_put3 l D cI cJ ad (upd g 42 3) lg (va_up ar 22 uu_7) bk _ ((((x : Int64) >>> ((16 : Int32).toInt64 &&& 63)) : Int64).toInt32) rfl) (cwV 1 hts gw_cn_wide1_4_2 rfl rfl rfl (by decide +kernel) ⟨Nat.le_of_ble_eq_true rfl, Nat.le_of_ble_eq_true rfl⟩) 0 (ci := 15) (T := TX12) (N := 92) rfl rfl rfl hl.1 rfl (Nat.le_of_ble_eq_true rfl) dX12_putWide_18 ⟨Nat.le_of_ble_eq_true rfl, Nat.le_of_ble_eq_true rfl⟩ (fun uu_11 H locs hp_12 hw => ?_)
  have hw : hk_W D [(cI, .int), (cJ, .long)] _ s _ _ (mw cI cJ ad (upd g 42 4) lg (va_up ar 22 uu_11) bk) := hw
  refine lv_iinc (v := 3) (lv' := [(4, .int 3), (0, .ref (ad 0)), (1, .long x), (3, .int 4)]) hx hb dX12_putWide_21 hl (k := 0) rfl rfl (by decide) rfl (fun ls hl => ?_)
  refine lv_goto (tgt := 3) hx hb dX12_putWide_24 (by decide) ?_
  refine lv_iload hx hb dX12_putWide_3 (lv_at hl 0 rfl) ?_
  refine lv_iload_n hx hb dX12_putWide_5 rfl (lv_at hl 3 rfl) ?_
  refine lv_icmp_ge (tgt := 27) hx hb dX12_putWide_6 (by decide) (fun cc_13 => absurd cc_13 (by decide)) (fun _ => ?_)
  refine lv_aload_n hx hb dX12_putWide_9 rfl (lv_at hl 1 rfl) ?_
  refine lv_lload_n hx hb dX12_putWide_10 rfl (lv_at hl 2 rfl) ?_
  refine lv_bipush (v := 8) hx hb dX12_putWide_11 (by decide) ?_
  refine lv_iload hx hb dX12_putWide_13 (lv_at hl 0 rfl) ?_
  refine lv_imul hx hb dX12_putWide_15 ?_
  refine hk_topi 24 (by decide +kernel) ?_
  refine lv_lshr (v := ((x : Int64) >>> ((24 : Int32).toInt64 &&& 63))) hx hb dX12_putWide_16 rfl ?_
  refine lv_l2i (v := (((x : Int64) >>> ((24 : Int32).toInt64 &&& 63)) : Int64).toInt32) hx hb dX12_putWide_17 rfl ?_
  refine hk_Vv (As := [.int ((((x : Int64) >>> ((24 : Int32).toInt64 &&& 63)) : Int64).toInt32)]) (rest := []) ⟨hx, hb, hml, hown, hts⟩ hw hA (cn_put4 l D cI cJ ad (upd g 42 4) lg (va_up ar 22 uu_11) bk _ ((((x : Int64) >>> ((24 : Int32).toInt64 &&& 63)) : Int64).toInt32) rfl) (cwV 1 hts gw_cn_wide1_4_3 rfl rfl rfl (by decide +kernel) ⟨Nat.le_of_ble_eq_true rfl, Nat.le_of_ble_eq_true rfl⟩) 0 (ci := 15) (T := TX12) (N := 92) rfl rfl rfl hl.1 rfl (Nat.le_of_ble_eq_true rfl) dX12_putWide_18 ⟨Nat.le_of_ble_eq_true rfl, Nat.le_of_ble_eq_true rfl⟩ (fun uu_15 H locs hp_16 hw => ?_)
  have hw : hk_W D [(cI, .int), (cJ, .long)] _ s _ _ (mw cI cJ ad (upd g 42 5) lg (va_up ar 22 uu_15) bk) := hw
  refine lv_iinc (v := 4) (lv' := [(4, .int 4), (0, .ref (ad 0)), (1, .long x), (3, .int 4)]) hx hb dX12_putWide_21 hl (k := 0) rfl rfl (by decide) rfl (fun ls hl => ?_)
  refine lv_goto (tgt := 3) hx hb dX12_putWide_24 (by decide) ?_
  refine lv_iload hx hb dX12_putWide_3 (lv_at hl 0 rfl) ?_
  refine lv_iload_n hx hb dX12_putWide_5 rfl (lv_at hl 3 rfl) ?_
  refine lv_icmp_ge (tgt := 27) hx hb dX12_putWide_6 (by decide) (fun _ => ?_) (fun cc_17 => absurd (by decide) cc_17)
  exact hk_vret (u := uu_15) hx hb hr hlocks (hw) (trivial) dX12_putWide_27

def ww_cn_wide5_8 : List Cond := Cond.code yX12_putWide cX12_putWide 5 none :: ([Cond.methodLink RX12 394 yX12_put, Cond.instanceMethod yX12_put, Cond.selects RX12 yX12_put yX12_put, Cond.initialized RX12, Cond.code yX12_put cX12_put 2 none, Cond.fieldLink RX12 391 "LzmaChainsModel" "rowSize" "I", Cond.fieldLink RX12 98 "LzmaChainsModel" "row" "[I"] ++ (wsX120 ++ ([])))
set_option maxRecDepth 20000 in
theorem gw_cn_wide5_8_0 : GoodIn ww_cn_wide5_8 (wsV RX12 394 RX12 yX12_put ww_cn_put5) := goodIn_r _ [1, 2, 3, 4, 5, 6, 7, 8, 9, 10, 11, 12, 13, 14, 15, 16, 17, 18, 19, 20, 21, 22, 23, 24, 25, 26, 27, 28, 29, 30, 31, 32, 33, 34, 35, 36, 37, 38, 39, 40, 41, 42, 43, 44, 45, 46, 47, 48, 49, 50, 51, 52, 53, 54, 55, 56, 57, 58, 59, 60, 61, 62, 63, 64, 65, 66, 67, 68, 69, 70, 71, 72, 73, 74, 75, 76, 77, 78, 79, 80, 81, 82, 83, 84, 85, 86, 87, 88, 89, 90, 91, 92, 93, 94, 95, 96, 97, 98, 99] rfl (by decide +kernel)
set_option maxRecDepth 20000 in
theorem gw_cn_wide5_8_1 : GoodIn ww_cn_wide5_8 (wsV RX12 394 RX12 yX12_put ww_cn_put6) := goodIn_r _ [1, 2, 3, 4, 5, 6, 7, 8, 9, 10, 11, 12, 13, 14, 15, 16, 17, 18, 19, 20, 21, 22, 23, 24, 25, 26, 27, 28, 29, 30, 31, 32, 33, 34, 35, 36, 37, 38, 39, 40, 41, 42, 43, 44, 45, 46, 47, 48, 49, 50, 51, 52, 53, 54, 55, 56, 57, 58, 59, 60, 61, 62, 63, 64, 65, 66, 67, 68, 69, 70, 71, 72, 73, 74, 75, 76, 77, 78, 79, 80, 81, 82, 83, 84, 85, 86, 87, 88, 89, 90, 91, 92, 93, 94, 95, 96, 97, 98, 99] rfl (by decide +kernel)
set_option maxRecDepth 20000 in
theorem gw_cn_wide5_8_2 : GoodIn ww_cn_wide5_8 (wsV RX12 394 RX12 yX12_put ww_cn_put7) := goodIn_r _ [1, 2, 3, 4, 5, 6, 7, 8, 9, 10, 11, 12, 13, 14, 15, 16, 17, 18, 19, 20, 21, 22, 23, 24, 25, 26, 27, 28, 29, 30, 31, 32, 33, 34, 35, 36, 37, 38, 39, 40, 41, 42, 43, 44, 45, 46, 47, 48, 49, 50, 51, 52, 53, 54, 55, 56, 57, 58, 59, 60, 61, 62, 63, 64, 65, 66, 67, 68, 69, 70, 71, 72, 73, 74, 75, 76, 77, 78, 79, 80, 81, 82, 83, 84, 85, 86, 87, 88, 89, 90, 91, 92, 93, 94, 95, 96, 97, 98, 99] rfl (by decide +kernel)
set_option maxRecDepth 20000 in
theorem gw_cn_wide5_8_3 : GoodIn ww_cn_wide5_8 (wsV RX12 394 RX12 yX12_put ww_cn_put8) := goodIn_r _ [1, 2, 3, 4, 5, 6, 7, 8, 9, 10, 11, 12, 13, 14, 15, 16, 17, 18, 19, 20, 21, 22, 23, 24, 25, 26, 27, 28, 29, 30, 31, 32, 33, 34, 35, 36, 37, 38, 39, 40, 41, 42, 43, 44, 45, 46, 47, 48, 49, 50, 51, 52, 53, 54, 55, 56, 57, 58, 59, 60, 61, 62, 63, 64, 65, 66, 67, 68, 69, 70, 71, 72, 73, 74, 75, 76, 77, 78, 79, 80, 81, 82, 83, 84, 85, 86, 87, 88, 89, 90, 91, 92, 93, 94, 95, 96, 97, 98, 99] rfl (by decide +kernel)
set_option maxRecDepth 20000 in
theorem gw_cn_wide5_8_4 : GoodIn ww_cn_wide5_8 (wsV RX12 394 RX12 yX12_put ww_cn_put9) := goodIn_r _ [1, 2, 3, 4, 5, 6, 7, 8, 9, 10, 11, 12, 13, 14, 15, 16, 17, 18, 19, 20, 21, 22, 23, 24, 25, 26, 27, 28, 29, 30, 31, 32, 33, 34, 35, 36, 37, 38, 39, 40, 41, 42, 43, 44, 45, 46, 47, 48, 49, 50, 51, 52, 53, 54, 55, 56, 57, 58, 59, 60, 61, 62, 63, 64, 65, 66, 67, 68, 69, 70, 71, 72, 73, 74, 75, 76, 77, 78, 79, 80, 81, 82, 83, 84, 85, 86, 87, 88, 89, 90, 91, 92, 93, 94, 95, 96, 97, 98, 99] rfl (by decide +kernel)
set_option maxRecDepth 20000 in
theorem gw_cn_wide5_8_5 : GoodIn ww_cn_wide5_8 (wsV RX12 394 RX12 yX12_put ww_cn_put10) := goodIn_r _ [1, 2, 3, 4, 5, 6, 7, 8, 9, 10, 11, 12, 13, 14, 15, 16, 17, 18, 19, 20, 21, 22, 23, 24, 25, 26, 27, 28, 29, 30, 31, 32, 33, 34, 35, 36, 37, 38, 39, 40, 41, 42, 43, 44, 45, 46, 47, 48, 49, 50, 51, 52, 53, 54, 55, 56, 57, 58, 59, 60, 61, 62, 63, 64, 65, 66, 67, 68, 69, 70, 71, 72, 73, 74, 75, 76, 77, 78, 79, 80, 81, 82, 83, 84, 85, 86, 87, 88, 89, 90, 91, 92, 93, 94, 95, 96, 97, 98, 99] rfl (by decide +kernel)
set_option maxRecDepth 20000 in
theorem gw_cn_wide5_8_6 : GoodIn ww_cn_wide5_8 (wsV RX12 394 RX12 yX12_put ww_cn_put11) := goodIn_r _ [1, 2, 3, 4, 5, 6, 7, 8, 9, 10, 11, 12, 13, 14, 15, 16, 17, 18, 19, 20, 21, 22, 23, 24, 25, 26, 27, 28, 29, 30, 31, 32, 33, 34, 35, 36, 37, 38, 39, 40, 41, 42, 43, 44, 45, 46, 47, 48, 49, 50, 51, 52, 53, 54, 55, 56, 57, 58, 59, 60, 61, 62, 63, 64, 65, 66, 67, 68, 69, 70, 71, 72, 73, 74, 75, 76, 77, 78, 79, 80, 81, 82, 83, 84, 85, 86, 87, 88, 89, 90, 91, 92, 93, 94, 95, 96, 97, 98, 99] rfl (by decide +kernel)
set_option maxRecDepth 20000 in
theorem gw_cn_wide5_8_7 : GoodIn ww_cn_wide5_8 (wsV RX12 394 RX12 yX12_put ww_cn_put12) := goodIn_r _ [1, 2, 3, 4, 5, 6, 7, 8, 9, 10, 11, 12, 13, 14, 15, 16, 17, 18, 19, 20, 21, 22, 23, 24, 25, 26, 27, 28, 29, 30, 31, 32, 33, 34, 35, 36, 37, 38, 39, 40, 41, 42, 43, 44, 45, 46, 47, 48, 49, 50, 51, 52, 53, 54, 55, 56, 57, 58, 59, 60, 61, 62, 63, 64, 65, 66, 67, 68, 69, 70, 71, 72, 73, 74, 75, 76, 77, 78, 79, 80, 81, 82, 83, 84, 85, 86, 87, 88, 89, 90, 91, 92, 93, 94, 95, 96, 97, 98, 99] rfl (by decide +kernel)
set_option maxHeartbeats 4000000 in
set_option maxRecDepth 100000 in
/-- the reference: putWide 8, it has 5 -/
theorem cn_wide5_8 (l : Launch) (D : va_G) (cI cJ : ClassId) (ad : Nat → Nat) (g : Nat → Int32) (lg : Nat → Int64) (ar : Nat → Nat → Int32) (bk : Nat → Int64) (sz : Nat) (x : Int64) (h42 : g 42 = 5) : Met l yX12_putWide ww_cn_wide5_8 { frames := 1, cells := 0, slots := 0, locals := 21 } (va_Pc [.ref (ad 0), .long x, .int 8] (hk_B D [(cI, .int), (cJ, .long)] sz (mw cI cJ ad g lg ar bk))) (va_Qv (fun u : (Nat → Int32) => True) (fun u : (Nat → Int32) => hk_E D [(cI, .int), (cJ, .long)] (va_A (mw cI cJ ad g lg ar bk) sz) (mw cI cJ ad (upd g 42 13) lg (va_up ar 22 u) bk)) (va_A (mw cI cJ ad g lg ar bk) sz)) 0 0 (va_A (mw cI cJ ad g lg ar bk) sz) := by
  refine hk_met (cc := cX12_putWide) (maxL := 5) (ret := none) (by decide) rfl (Nat.le_of_ble_eq_true rfl) ?_
  intro p e s m below meth c ls hx hb hr hml hown hts hlocks hin hA hw hl
  have iX12 : ∀ w ∈ wsX120, w ∈ ww_cn_wide5_8 := fun _ h => List.mem_cons_of_mem _ (List.mem_append_right _ (List.mem_append_left _ h))
  have hl : lv_has ls 5 [(0, .ref (ad 0)), (1, .long x), (3, .int 8)] := hl
  refine lv_iconst (v := 0) hx hb dX12_putWide_0 (by decide) ?_
  refine lv_istore (lv' := [(4, .int 0), (0, .ref (ad 0)), (1, .long x), (3, .int 8)]) hx hb dX12_putWide_1 hl (by decide) rfl (fun ls hl => ?_)
  refine lv_iload hx hb dX12_putWide_3 (lv_at hl 0 rfl) ?_
  refine lv_iload_n hx hb dX12_putWide_5 rfl (lv_at hl 3 rfl) ?_
  refine lv_icmp_ge (tgt := 27) hx hb dX12_putWide_6 (by decide) (fun cc_1 => absurd cc_1 (by decide)) (fun _ => ?_)
  refine lv_aload_n hx hb dX12_putWide_9 rfl (lv_at hl 1 rfl) ?_
  refine lv_lload_n hx hb dX12_putWide_10 rfl (lv_at hl 2 rfl) ?_
  refine lv_bipush (v := 8) hx hb dX12_putWide_11 (by decide) ?_
  refine lv_iload hx hb dX12_putWide_13 (lv_at hl 0 rfl) ?_
  refine lv_imul hx hb dX12_putWide_15 ?_
  refine hk_topi 0 (by decide +kernel) ?_
  refine lv_lshr (v := ((x : Int64) >>> ((0 : Int32).toInt64 &&& 63))) hx hb dX12_putWide_16 rfl ?_
  refine lv_l2i (v := (((x : Int64) >>> ((0 : Int32).toInt64 &&& 63)) : Int64).toInt32) hx hb dX12_putWide_17 rfl ?_
  refine hk_Vv (As := [.int ((((x : Int64) >>> ((0 : Int32).toInt64 &&& 63)) : Int64).toInt32)]) (rest := []) ⟨hx, hb, hml, hown, hts⟩ hw hA (cn_put5 l D cI cJ ad g lg ar bk _ ((((x : Int64) >>> ((0 : Int32).toInt64 &&& 63)) : Int64).toInt32) h42) (cwV 1 hts gw_cn_wide5_8_0 rfl rfl rfl (by decide +kernel) ⟨Nat.le_of_ble_eq_true rfl, Nat.le_of_ble_eq_true rfl⟩) 0 (ci := 15) (T := TX12) (N := 92) rfl rfl rfl hl.1 rfl (Nat.le_of_ble_eq_true rfl) dX12_putWide_18 ⟨Nat.le_of_ble_eq_true rfl, Nat.le_of_ble_eq_true rfl⟩ (fun uu_3 H locs hp_4 hw => ?_)
  have hw : hk_W D [(cI, .int), (cJ, .long)] _ s _ _ (mw cI cJ ad (upd g 42 6) lg (va_up ar 22 uu_3) bk) := hw
  refine lv_iinc (v := 1) (lv' := [(4, .int 1), (0, .ref (ad 0)), (1, .long x), (3, .int 8)]) hx hb dX12_putWide_21 hl (k := 0) rfl rfl (by decide) rfl (fun ls hl => ?_)
  refine lv_goto (tgt := 3) hx hb dX12_putWide_24 (by decide) ?_
  refine lv_iload hx hb dX12_putWide_3 (lv_at hl 0 rfl) ?_
  refine lv_iload_n hx hb dX12_putWide_5 rfl (lv_at hl 3 rfl) ?_
  refine lv_icmp_ge (tgt := 27) hx hb dX12_putWide_6 (by decide) (fun cc_5 => absurd cc_5 (by decide)) (fun _ => ?_)
  refine lv_aload_n hx hb dX12_putWide_9 rfl (lv_at hl 1 rfl) ?_
  refine lv_lload_n hx hb dX12_putWide_10 rfl (lv_at hl 2 rfl) ?_
  refine lv_bipush (v := 8) hx hb dX12_putWide_11 (by decide) ?_
  refine lv_iload hx hb dX12_putWide_13 (lv_at hl 0 rfl) ?_
  refine lv_imul hx hb dX12_putWide_15 ?_
  refine hk_topi 8 (by decide +kernel) ?_
  refine lv_lshr (v := ((x : Int64) >>> ((8 : Int32).toInt64 &&& 63))) hx hb dX12_putWide_16 rfl ?_
  refine lv_l2i (v := (((x : Int64) >>> ((8 : Int32).toInt64 &&& 63)) : Int64).toInt32) hx hb dX12_putWide_17 rfl ?_
  refine hk_Vv (As := [.int ((((x : Int64) >>> ((8 : Int32).toInt64 &&& 63)) : Int64).toInt32)]) (rest := []) ⟨hx, hb, hml, hown, hts⟩ hw hA (cn_put6 l D cI cJ ad (upd g 42 6) lg (va_up ar 22 uu_3) bk _ ((((x : Int64) >>> ((8 : Int32).toInt64 &&& 63)) : Int64).toInt32) rfl) (cwV 1 hts gw_cn_wide5_8_1 rfl rfl rfl (by decide +kernel) ⟨Nat.le_of_ble_eq_true rfl, Nat.le_of_ble_eq_true rfl⟩) 0 (ci := 15) (T := TX12) (N := 92) rfl rfl rfl hl.1 rfl (Nat.le_of_ble_eq_true rfl) dX12_putWide_18 ⟨Nat.le_of_ble_eq_true rfl, Nat.le_of_ble_eq_true rfl⟩ (fun uu_7 H locs hp_8 hw => ?_)
  have hw : hk_W D [(cI, .int), (cJ, .long)] _ s _ _ (mw cI cJ ad (upd g 42 7) lg (va_up ar 22 uu_7) bk) := hw
  refine lv_iinc (v := 2) (lv' := [(4, .int 2), (0, .ref (ad 0)), (1, .long x), (3, .int 8)]) hx hb dX12_putWide_21 hl (k := 0) rfl rfl (by decide) rfl (fun ls hl => ?_)
  refine lv_goto (tgt := 3) hx hb dX12_putWide_24 (by decide) ?_
  refine lv_iload hx hb dX12_putWide_3 (lv_at hl 0 rfl) ?_
  refine lv_iload_n hx hb dX12_putWide_5 rfl (lv_at hl 3 rfl) ?_
  refine lv_icmp_ge (tgt := 27) hx hb dX12_putWide_6 (by decide) (fun cc_9 => absurd cc_9 (by decide)) (fun _ => ?_)
  refine lv_aload_n hx hb dX12_putWide_9 rfl (lv_at hl 1 rfl) ?_
  refine lv_lload_n hx hb dX12_putWide_10 rfl (lv_at hl 2 rfl) ?_
  refine lv_bipush (v := 8) hx hb dX12_putWide_11 (by decide) ?_
  refine lv_iload hx hb dX12_putWide_13 (lv_at hl 0 rfl) ?_
  refine lv_imul hx hb dX12_putWide_15 ?_
  refine hk_topi 16 (by decide +kernel) ?_
  refine lv_lshr (v := ((x : Int64) >>> ((16 : Int32).toInt64 &&& 63))) hx hb dX12_putWide_16 rfl ?_
  refine lv_l2i (v := (((x : Int64) >>> ((16 : Int32).toInt64 &&& 63)) : Int64).toInt32) hx hb dX12_putWide_17 rfl ?_
  refine hk_Vv (As := [.int ((((x : Int64) >>> ((16 : Int32).toInt64 &&& 63)) : Int64).toInt32)]) (rest := []) ⟨hx, hb, hml, hown, hts⟩ hw hA (cn_put7 l D cI cJ ad (upd g 42 7) lg (va_up ar 22 uu_7) bk _ ((((x : Int64) >>> ((16 : Int32).toInt64 &&& 63)) : Int64).toInt32) rfl) (cwV 1 hts gw_cn_wide5_8_2 rfl rfl rfl (by decide +kernel) ⟨Nat.le_of_ble_eq_true rfl, Nat.le_of_ble_eq_true rfl⟩) 0 (ci := 15) (T := TX12) (N := 92) rfl rfl rfl hl.1 rfl (Nat.le_of_ble_eq_true rfl) dX12_putWide_18 ⟨Nat.le_of_ble_eq_true rfl, Nat.le_of_ble_eq_true rfl⟩ (fun uu_11 H locs hp_12 hw => ?_)
  have hw : hk_W D [(cI, .int), (cJ, .long)] _ s _ _ (mw cI cJ ad (upd g 42 8) lg (va_up ar 22 uu_11) bk) := hw
  refine lv_iinc (v := 3) (lv' := [(4, .int 3), (0, .ref (ad 0)), (1, .long x), (3, .int 8)]) hx hb dX12_putWide_21 hl (k := 0) rfl rfl (by decide) rfl (fun ls hl => ?_)
  refine lv_goto (tgt := 3) hx hb dX12_putWide_24 (by decide) ?_
  refine lv_iload hx hb dX12_putWide_3 (lv_at hl 0 rfl) ?_
  refine lv_iload_n hx hb dX12_putWide_5 rfl (lv_at hl 3 rfl) ?_
  refine lv_icmp_ge (tgt := 27) hx hb dX12_putWide_6 (by decide) (fun cc_13 => absurd cc_13 (by decide)) (fun _ => ?_)
  refine lv_aload_n hx hb dX12_putWide_9 rfl (lv_at hl 1 rfl) ?_
  refine lv_lload_n hx hb dX12_putWide_10 rfl (lv_at hl 2 rfl) ?_
  refine lv_bipush (v := 8) hx hb dX12_putWide_11 (by decide) ?_
  refine lv_iload hx hb dX12_putWide_13 (lv_at hl 0 rfl) ?_
  refine lv_imul hx hb dX12_putWide_15 ?_
  refine hk_topi 24 (by decide +kernel) ?_
  refine lv_lshr (v := ((x : Int64) >>> ((24 : Int32).toInt64 &&& 63))) hx hb dX12_putWide_16 rfl ?_
  refine lv_l2i (v := (((x : Int64) >>> ((24 : Int32).toInt64 &&& 63)) : Int64).toInt32) hx hb dX12_putWide_17 rfl ?_
  refine hk_Vv (As := [.int ((((x : Int64) >>> ((24 : Int32).toInt64 &&& 63)) : Int64).toInt32)]) (rest := []) ⟨hx, hb, hml, hown, hts⟩ hw hA (cn_put8 l D cI cJ ad (upd g 42 8) lg (va_up ar 22 uu_11) bk _ ((((x : Int64) >>> ((24 : Int32).toInt64 &&& 63)) : Int64).toInt32) rfl) (cwV 1 hts gw_cn_wide5_8_3 rfl rfl rfl (by decide +kernel) ⟨Nat.le_of_ble_eq_true rfl, Nat.le_of_ble_eq_true rfl⟩) 0 (ci := 15) (T := TX12) (N := 92) rfl rfl rfl hl.1 rfl (Nat.le_of_ble_eq_true rfl) dX12_putWide_18 ⟨Nat.le_of_ble_eq_true rfl, Nat.le_of_ble_eq_true rfl⟩ (fun uu_15 H locs hp_16 hw => ?_)
  have hw : hk_W D [(cI, .int), (cJ, .long)] _ s _ _ (mw cI cJ ad (upd g 42 9) lg (va_up ar 22 uu_15) bk) := hw
  refine lv_iinc (v := 4) (lv' := [(4, .int 4), (0, .ref (ad 0)), (1, .long x), (3, .int 8)]) hx hb dX12_putWide_21 hl (k := 0) rfl rfl (by decide) rfl (fun ls hl => ?_)
  refine lv_goto (tgt := 3) hx hb dX12_putWide_24 (by decide) ?_
  refine lv_iload hx hb dX12_putWide_3 (lv_at hl 0 rfl) ?_
  refine lv_iload_n hx hb dX12_putWide_5 rfl (lv_at hl 3 rfl) ?_
  refine lv_icmp_ge (tgt := 27) hx hb dX12_putWide_6 (by decide) (fun cc_17 => absurd cc_17 (by decide)) (fun _ => ?_)
  refine lv_aload_n hx hb dX12_putWide_9 rfl (lv_at hl 1 rfl) ?_
  refine lv_lload_n hx hb dX12_putWide_10 rfl (lv_at hl 2 rfl) ?_
  refine lv_bipush (v := 8) hx hb dX12_putWide_11 (by decide) ?_
  refine lv_iload hx hb dX12_putWide_13 (lv_at hl 0 rfl) ?_
  refine lv_imul hx hb dX12_putWide_15 ?_
  refine hk_topi 32 (by decide +kernel) ?_
  refine lv_lshr (v := ((x : Int64) >>> ((32 : Int32).toInt64 &&& 63))) hx hb dX12_putWide_16 rfl ?_
  refine lv_l2i (v := (((x : Int64) >>> ((32 : Int32).toInt64 &&& 63)) : Int64).toInt32) hx hb dX12_putWide_17 rfl ?_
  refine hk_Vv (As := [.int ((((x : Int64) >>> ((32 : Int32).toInt64 &&& 63)) : Int64).toInt32)]) (rest := []) ⟨hx, hb, hml, hown, hts⟩ hw hA (cn_put9 l D cI cJ ad (upd g 42 9) lg (va_up ar 22 uu_15) bk _ ((((x : Int64) >>> ((32 : Int32).toInt64 &&& 63)) : Int64).toInt32) rfl) (cwV 1 hts gw_cn_wide5_8_4 rfl rfl rfl (by decide +kernel) ⟨Nat.le_of_ble_eq_true rfl, Nat.le_of_ble_eq_true rfl⟩) 0 (ci := 15) (T := TX12) (N := 92) rfl rfl rfl hl.1 rfl (Nat.le_of_ble_eq_true rfl) dX12_putWide_18 ⟨Nat.le_of_ble_eq_true rfl, Nat.le_of_ble_eq_true rfl⟩ (fun uu_19 H locs hp_20 hw => ?_)
  have hw : hk_W D [(cI, .int), (cJ, .long)] _ s _ _ (mw cI cJ ad (upd g 42 10) lg (va_up ar 22 uu_19) bk) := hw
  refine lv_iinc (v := 5) (lv' := [(4, .int 5), (0, .ref (ad 0)), (1, .long x), (3, .int 8)]) hx hb dX12_putWide_21 hl (k := 0) rfl rfl (by decide) rfl (fun ls hl => ?_)
  refine lv_goto (tgt := 3) hx hb dX12_putWide_24 (by decide) ?_
  refine lv_iload hx hb dX12_putWide_3 (lv_at hl 0 rfl) ?_
  refine lv_iload_n hx hb dX12_putWide_5 rfl (lv_at hl 3 rfl) ?_
  refine lv_icmp_ge (tgt := 27) hx hb dX12_putWide_6 (by decide) (fun cc_21 => absurd cc_21 (by decide)) (fun _ => ?_)
  refine lv_aload_n hx hb dX12_putWide_9 rfl (lv_at hl 1 rfl) ?_
  refine lv_lload_n hx hb dX12_putWide_10 rfl (lv_at hl 2 rfl) ?_
  refine lv_bipush (v := 8) hx hb dX12_putWide_11 (by decide) ?_
  refine lv_iload hx hb dX12_putWide_13 (lv_at hl 0 rfl) ?_
  refine lv_imul hx hb dX12_putWide_15 ?_
  refine hk_topi 40 (by decide +kernel) ?_
  refine lv_lshr (v := ((x : Int64) >>> ((40 : Int32).toInt64 &&& 63))) hx hb dX12_putWide_16 rfl ?_
  refine lv_l2i (v := (((x : Int64) >>> ((40 : Int32).toInt64 &&& 63)) : Int64).toInt32) hx hb dX12_putWide_17 rfl ?_
  refine hk_Vv (As := [.int ((((x : Int64) >>> ((40 : Int32).toInt64 &&& 63)) : Int64).toInt32)]) (rest := []) ⟨hx, hb, hml, hown, hts⟩ hw hA (cn_put10 l D cI cJ ad (upd g 42 10) lg (va_up ar 22 uu_19) bk _ ((((x : Int64) >>> ((40 : Int32).toInt64 &&& 63)) : Int64).toInt32) rfl) (cwV 1 hts gw_cn_wide5_8_5 rfl rfl rfl (by decide +kernel) ⟨Nat.le_of_ble_eq_true rfl, Nat.le_of_ble_eq_true rfl⟩) 0 (ci := 15) (T := TX12) (N := 92) rfl rfl rfl hl.1 rfl (Nat.le_of_ble_eq_true rfl) dX12_putWide_18 ⟨Nat.le_of_ble_eq_true rfl, Nat.le_of_ble_eq_true rfl⟩ (fun uu_23 H locs hp_24 hw => ?_)
  have hw : hk_W D [(cI, .int), (cJ, .long)] _ s _ _ (mw cI cJ ad (upd g 42 11) lg (va_up ar 22 uu_23) bk) := hw
  refine lv_iinc (v := 6) (lv' := [(4, .int 6), (0, .ref (ad 0)), (1, .long x), (3, .int 8)]) hx hb dX12_putWide_21 hl (k := 0) rfl rfl (by decide) rfl (fun ls hl => ?_)
  refine lv_goto (tgt := 3) hx hb dX12_putWide_24 (by decide) ?_
  refine lv_iload hx hb dX12_putWide_3 (lv_at hl 0 rfl) ?_
  refine lv_iload_n hx hb dX12_putWide_5 rfl (lv_at hl 3 rfl) ?_
  refine lv_icmp_ge (tgt := 27) hx hb dX12_putWide_6 (by decide) (fun cc_25 => absurd cc_25 (by decide)) (fun _ => ?_)
  refine lv_aload_n hx hb dX12_putWide_9 rfl (lv_at hl 1 rfl) ?_
  refine lv_lload_n hx hb dX12_putWide_10 rfl (lv_at hl 2 rfl) ?_
  refine lv_bipush (v := 8) hx hb dX12_putWide_11 (by decide) ?_
  refine lv_iload hx hb dX12_putWide_13 (lv_at hl 0 rfl) ?_
  refine lv_imul hx hb dX12_putWide_15 ?_
  refine hk_topi 48 (by decide +kernel) ?_
  refine lv_lshr (v := ((x : Int64) >>> ((48 : Int32).toInt64 &&& 63))) hx hb dX12_putWide_16 rfl ?_
  refine lv_l2i (v := (((x : Int64) >>> ((48 : Int32).toInt64 &&& 63)) : Int64).toInt32) hx hb dX12_putWide_17 rfl ?_
  refine hk_Vv (As := [.int ((((x : Int64) >>> ((48 : Int32).toInt64 &&& 63)) : Int64).toInt32)]) (rest := []) ⟨hx, hb, hml, hown, hts⟩ hw hA (cn_put11 l D cI cJ ad (upd g 42 11) lg (va_up ar 22 uu_23) bk _ ((((x : Int64) >>> ((48 : Int32).toInt64 &&& 63)) : Int64).toInt32) rfl) (cwV 1 hts gw_cn_wide5_8_6 rfl rfl rfl (by decide +kernel) ⟨Nat.le_of_ble_eq_true rfl, Nat.le_of_ble_eq_true rfl⟩) 0 (ci := 15) (T := TX12) (N := 92) rfl rfl rfl hl.1 rfl (Nat.le_of_ble_eq_true rfl) dX12_putWide_18 ⟨Nat.le_of_ble_eq_true rfl, Nat.le_of_ble_eq_true rfl⟩ (fun uu_27 H locs hp_28 hw => ?_)
  have hw : hk_W D [(cI, .int), (cJ, .long)] _ s _ _ (mw cI cJ ad (upd g 42 12) lg (va_up ar 22 uu_27) bk) := hw
  refine lv_iinc (v := 7) (lv' := [(4, .int 7), (0, .ref (ad 0)), (1, .long x), (3, .int 8)]) hx hb dX12_putWide_21 hl (k := 0) rfl rfl (by decide) rfl (fun ls hl => ?_)
  refine lv_goto (tgt := 3) hx hb dX12_putWide_24 (by decide) ?_
  refine lv_iload hx hb dX12_putWide_3 (lv_at hl 0 rfl) ?_
  refine lv_iload_n hx hb dX12_putWide_5 rfl (lv_at hl 3 rfl) ?_
  refine lv_icmp_ge (tgt := 27) hx hb dX12_putWide_6 (by decide) (fun cc_29 => absurd cc_29 (by decide)) (fun _ => ?_)
  refine lv_aload_n hx hb dX12_putWide_9 rfl (lv_at hl 1 rfl) ?_
  refine lv_lload_n hx hb dX12_putWide_10 rfl (lv_at hl 2 rfl) ?_
  refine lv_bipush (v := 8) hx hb dX12_putWide_11 (by decide) ?_
  refine lv_iload hx hb dX12_putWide_13 (lv_at hl 0 rfl) ?_
  refine lv_imul hx hb dX12_putWide_15 ?_
  refine hk_topi 56 (by decide +kernel) ?_
  refine lv_lshr (v := ((x : Int64) >>> ((56 : Int32).toInt64 &&& 63))) hx hb dX12_putWide_16 rfl ?_
  refine lv_l2i (v := (((x : Int64) >>> ((56 : Int32).toInt64 &&& 63)) : Int64).toInt32) hx hb dX12_putWide_17 rfl ?_
  refine hk_Vv (As := [.int ((((x : Int64) >>> ((56 : Int32).toInt64 &&& 63)) : Int64).toInt32)]) (rest := []) ⟨hx, hb, hml, hown, hts⟩ hw hA (cn_put12 l D cI cJ ad (upd g 42 12) lg (va_up ar 22 uu_27) bk _ ((((x : Int64) >>> ((56 : Int32).toInt64 &&& 63)) : Int64).toInt32) rfl) (cwV 1 hts gw_cn_wide5_8_7 rfl rfl rfl (by decide +kernel) ⟨Nat.le_of_ble_eq_true rfl, Nat.le_of_ble_eq_true rfl⟩) 0 (ci := 15) (T := TX12) (N := 92) rfl rfl rfl hl.1 rfl (Nat.le_of_ble_eq_true rfl) dX12_putWide_18 ⟨Nat.le_of_ble_eq_true rfl, Nat.le_of_ble_eq_true rfl⟩ (fun uu_31 H locs hp_32 hw => ?_)
  have hw : hk_W D [(cI, .int), (cJ, .long)] _ s _ _ (mw cI cJ ad (upd g 42 13) lg (va_up ar 22 uu_31) bk) := hw
  refine lv_iinc (v := 8) (lv' := [(4, .int 8), (0, .ref (ad 0)), (1, .long x), (3, .int 8)]) hx hb dX12_putWide_21 hl (k := 0) rfl rfl (by decide) rfl (fun ls hl => ?_)
  refine lv_goto (tgt := 3) hx hb dX12_putWide_24 (by decide) ?_
  refine lv_iload hx hb dX12_putWide_3 (lv_at hl 0 rfl) ?_
  refine lv_iload_n hx hb dX12_putWide_5 rfl (lv_at hl 3 rfl) ?_
  refine lv_icmp_ge (tgt := 27) hx hb dX12_putWide_6 (by decide) (fun _ => ?_) (fun cc_33 => absurd (by decide) cc_33)
  exact hk_vret (u := uu_31) hx hb hr hlocks (hw) (trivial) dX12_putWide_27

def ww_cn_wide8_4 : List Cond := Cond.code yX12_putWide cX12_putWide 5 none :: ([Cond.methodLink RX12 394 yX12_put, Cond.instanceMethod yX12_put, Cond.selects RX12 yX12_put yX12_put, Cond.initialized RX12, Cond.code yX12_put cX12_put 2 none, Cond.fieldLink RX12 391 "LzmaChainsModel" "rowSize" "I", Cond.fieldLink RX12 98 "LzmaChainsModel" "row" "[I"] ++ (wsX120 ++ ([])))
set_option maxRecDepth 20000 in
theorem gw_cn_wide8_4_0 : GoodIn ww_cn_wide8_4 (wsV RX12 394 RX12 yX12_put ww_cn_put8) := goodIn_r _ [1, 2, 3, 4, 5, 6, 7, 8, 9, 10, 11, 12, 13, 14, 15, 16, 17, 18, 19, 20, 21, 22, 23, 24, 25, 26, 27, 28, 29, 30, 31, 32, 33, 34, 35, 36, 37, 38, 39, 40, 41, 42, 43, 44, 45, 46, 47, 48, 49, 50, 51, 52, 53, 54, 55, 56, 57, 58, 59, 60, 61, 62, 63, 64, 65, 66, 67, 68, 69, 70, 71, 72, 73, 74, 75, 76, 77, 78, 79, 80, 81, 82, 83, 84, 85, 86, 87, 88, 89, 90, 91, 92, 93, 94, 95, 96, 97, 98, 99] rfl (by decide +kernel)
set_option maxRecDepth 20000 in
theorem gw_cn_wide8_4_1 : GoodIn ww_cn_wide8_4 (wsV RX12 394 RX12 yX12_put ww_cn_put9) := goodIn_r _ [1, 2, 3, 4, 5, 6, 7, 8, 9, 10, 11, 12, 13, 14, 15, 16, 17, 18, 19, 20, 21, 22, 23, 24, 25, 26, 27, 28, 29, 30, 31, 32, 33, 34, 35, 36, 37, 38, 39, 40, 41, 42, 43, 44, 45, 46, 47, 48, 49, 50, 51, 52, 53, 54, 55, 56, 57, 58, 59, 60, 61, 62, 63, 64, 65, 66, 67, 68, 69, 70, 71, 72, 73, 74, 75, 76, 77, 78, 79, 80, 81, 82, 83, 84, 85, 86, 87, 88, 89, 90, 91, 92, 93, 94, 95, 96, 97, 98, 99] rfl (by decide +kernel)
set_option maxRecDepth 20000 in
theorem gw_cn_wide8_4_2 : GoodIn ww_cn_wide8_4 (wsV RX12 394 RX12 yX12_put ww_cn_put10) := goodIn_r _ [1, 2, 3, 4, 5, 6, 7, 8, 9, 10, 11, 12, 13, 14, 15, 16, 17, 18, 19, 20, 21, 22, 23, 24, 25, 26, 27, 28, 29, 30, 31, 32, 33, 34, 35, 36, 37, 38, 39, 40, 41, 42, 43, 44, 45, 46, 47, 48, 49, 50, 51, 52, 53, 54, 55, 56, 57, 58, 59, 60, 61, 62, 63, 64, 65, 66, 67, 68, 69, 70, 71, 72, 73, 74, 75, 76, 77, 78, 79, 80, 81, 82, 83, 84, 85, 86, 87, 88, 89, 90, 91, 92, 93, 94, 95, 96, 97, 98, 99] rfl (by decide +kernel)
set_option maxRecDepth 20000 in
theorem gw_cn_wide8_4_3 : GoodIn ww_cn_wide8_4 (wsV RX12 394 RX12 yX12_put ww_cn_put11) := goodIn_r _ [1, 2, 3, 4, 5, 6, 7, 8, 9, 10, 11, 12, 13, 14, 15, 16, 17, 18, 19, 20, 21, 22, 23, 24, 25, 26, 27, 28, 29, 30, 31, 32, 33, 34, 35, 36, 37, 38, 39, 40, 41, 42, 43, 44, 45, 46, 47, 48, 49, 50, 51, 52, 53, 54, 55, 56, 57, 58, 59, 60, 61, 62, 63, 64, 65, 66, 67, 68, 69, 70, 71, 72, 73, 74, 75, 76, 77, 78, 79, 80, 81, 82, 83, 84, 85, 86, 87, 88, 89, 90, 91, 92, 93, 94, 95, 96, 97, 98, 99] rfl (by decide +kernel)
set_option maxHeartbeats 4000000 in
set_option maxRecDepth 100000 in
/-- the reference: putWide 4, it has 8 -/
theorem cn_wide8_4 (l : Launch) (D : va_G) (cI cJ : ClassId) (ad : Nat → Nat) (g : Nat → Int32) (lg : Nat → Int64) (ar : Nat → Nat → Int32) (bk : Nat → Int64) (sz : Nat) (x : Int64) (h42 : g 42 = 8) : Met l yX12_putWide ww_cn_wide8_4 { frames := 1, cells := 0, slots := 0, locals := 21 } (va_Pc [.ref (ad 0), .long x, .int 4] (hk_B D [(cI, .int), (cJ, .long)] sz (mw cI cJ ad g lg ar bk))) (va_Qv (fun u : (Nat → Int32) => True) (fun u : (Nat → Int32) => hk_E D [(cI, .int), (cJ, .long)] (va_A (mw cI cJ ad g lg ar bk) sz) (mw cI cJ ad (upd g 42 12) lg (va_up ar 22 u) bk)) (va_A (mw cI cJ ad g lg ar bk) sz)) 0 0 (va_A (mw cI cJ ad g lg ar bk) sz) := by
  refine hk_met (cc := cX12_putWide) (maxL := 5) (ret := none) (by decide) rfl (Nat.le_of_ble_eq_true rfl) ?_
  intro p e s m below meth c ls hx hb hr hml hown hts hlocks hin hA hw hl
  have iX12 : ∀ w ∈ wsX120, w ∈ ww_cn_wide8_4 := fun _ h => List.mem_cons_of_mem _ (List.mem_append_right _ (List.mem_append_left _ h))
  have hl : lv_has ls 5 [(0, .ref (ad 0)), (1, .long x), (3, .int 4)] := hl
  refine lv_iconst (v := 0) hx hb dX12_putWide_0 (by decide) ?_
  refine lv_istore (lv' := [(4, .int 0), (0, .ref (ad 0)), (1, .long x), (3, .int 4)]) hx hb dX12_putWide_1 hl (by decide) rfl (fun ls hl => ?_)
  refine lv_iload hx hb dX12_putWide_3 (lv_at hl 0 rfl) ?_
  refine lv_iload_n hx hb dX12_putWide_5 rfl (lv_at hl 3 rfl) ?_
  refine lv_icmp_ge (tgt := 27) hx hb dX12_putWide_6 (by decide) (fun cc_1 => absurd cc_1 (by decide)) (fun _ => ?_)
  refine lv_aload_n hx hb dX12_putWide_9 rfl (lv_at hl 1 rfl) ?_
  refine lv_lload_n hx hb dX12_putWide_10 rfl (lv_at hl 2 rfl) ?_
  refine lv_bipush (v := 8) hx hb dX12_putWide_11 (by decide) ?_
  refine lv_iload hx hb dX12_putWide_13 (lv_at hl 0 rfl) ?_
  refine lv_imul hx hb dX12_putWide_15 ?_
  refine hk_topi 0 (by decide +kernel) ?_
  refine lv_lshr (v := ((x : Int64) >>> ((0 : Int32).toInt64 &&& 63))) hx hb dX12_putWide_16 rfl ?_
  refine lv_l2i (v := (((x : Int64) >>> ((0 : Int32).toInt64 &&& 63)) : Int64).toInt32) hx hb dX12_putWide_17 rfl ?_
  refine hk_Vv (As := [.int ((((x : Int64) >>> ((0 : Int32).toInt64 &&& 63)) : Int64).toInt32)]) (rest := []) ⟨hx, hb, hml, hown, hts⟩ hw hA (cn_put8 l D cI cJ ad g lg ar bk _ ((((x : Int64) >>> ((0 : Int32).toInt64 &&& 63)) : Int64).toInt32) h42) (cwV 1 hts gw_cn_wide8_4_0 rfl rfl rfl (by decide +kernel) ⟨Nat.le_of_ble_eq_true rfl, Nat.le_of_ble_eq_true rfl⟩) 0 (ci := 15) (T := TX12) (N := 92) rfl rfl rfl hl.1 rfl (Nat.le_of_ble_eq_true rfl) dX12_putWide_18 ⟨Nat.le_of_ble_eq_true rfl, Nat.le_of_ble_eq_true rfl⟩ (fun uu_3 H locs hp_4 hw => ?_)
  have hw : hk_W D [(cI, .int), (cJ, .long)] _ s _ _ (mw cI cJ ad (upd g 42 9) lg (va_up ar 22 uu_3) bk) := hw
  refine lv_iinc (v := 1) (lv' := [(4, .int 1), (0, .ref (ad 0)), (1, .long x), (3, .int 4)]) hx hb dX12_putWide_21 hl (k := 0) rfl rfl (by decide) rfl (fun ls hl => ?_)
  refine lv_goto (tgt := 3) hx hb dX12_putWide_24 (by decide) ?_
  refine lv_iload hx hb dX12_putWide_3 (lv_at hl 0 rfl) ?_
  refine lv_iload_n hx hb dX12_putWide_5 rfl (lv_at hl 3 rfl) ?_
  refine lv_icmp_ge (tgt := 27) hx hb dX12_putWide_6 (by decide) (fun cc_5 => absurd cc_5 (by decide)) (fun _ => ?_)
  refine lv_aload_n hx hb dX12_putWide_9 rfl (lv_at hl 1 rfl) ?_
  refine lv_lload_n hx hb dX12_putWide_10 rfl (lv_at hl 2 rfl) ?_
  refine lv_bipush (v := 8) hx hb dX12_putWide_11 (by decide) ?_
  refine lv_iload hx hb dX12_putWide_13 (lv_at hl 0 rfl) ?_
  refine lv_imul hx hb dX12_putWide_15 ?_
  refine hk_topi 8 (by decide +kernel) ?_
  refine lv_lshr (v := ((x : Int64) >>> ((8 : Int32).toInt64 &&& 63))) hx hb dX12_putWide_16 rfl ?_
  refine lv_l2i (v := (((x : Int64) >>> ((8 : Int32).toInt64 &&& 63)) : Int64).toInt32) hx hb dX12_putWide_17 rfl ?_
  refine hk_Vv (As := [.int ((((x : Int64) >>> ((8 : Int32).toInt64 &&& 63)) : Int64).toInt32)]) (rest := []) ⟨hx, hb, hml, hown, hts⟩ hw hA (cn_put9 l D cI cJ ad (upd g 42 9) lg (va_up ar 22 uu_3) bk _ ((((x : Int64) >>> ((8 : Int32).toInt64 &&& 63)) : Int64).toInt32) rfl) (cwV 1 hts gw_cn_wide8_4_1 rfl rfl rfl (by decide +kernel) ⟨Nat.le_of_ble_eq_true rfl, Nat.le_of_ble_eq_true rfl⟩) 0 (ci := 15) (T := TX12) (N := 92) rfl rfl rfl hl.1 rfl (Nat.le_of_ble_eq_true rfl) dX12_putWide_18 ⟨Nat.le_of_ble_eq_true rfl, Nat.le_of_ble_eq_true rfl⟩ (fun uu_7 H locs hp_8 hw => ?_)
  have hw : hk_W D [(cI, .int), (cJ, .long)] _ s _ _ (mw cI cJ ad (upd g 42 10) lg (va_up ar 22 uu_7) bk) := hw
  refine lv_iinc (v := 2) (lv' := [(4, .int 2), (0, .ref (ad 0)), (1, .long x), (3, .int 4)]) hx hb dX12_putWide_21 hl (k := 0) rfl rfl (by decide) rfl (fun ls hl => ?_)
  refine lv_goto (tgt := 3) hx hb dX12_putWide_24 (by decide) ?_
  refine lv_iload hx hb dX12_putWide_3 (lv_at hl 0 rfl) ?_
  refine lv_iload_n hx hb dX12_putWide_5 rfl (lv_at hl 3 rfl) ?_
  refine lv_icmp_ge (tgt := 27) hx hb dX12_putWide_6 (by decide) (fun cc_9 => absurd cc_9 (by decide)) (fun _ => ?_)
  refine lv_aload_n hx hb dX12_putWide_9 rfl (lv_at hl 1 rfl) ?_
  refine lv_lload_n hx hb dX12_putWide_10 rfl (lv_at hl 2 rfl) ?_
  refine lv_bipush (v := 8) hx hb dX12_putWide_11 (by decide) ?_
  refine lv_iload hx hb dX12_putWide_13 (lv_at hl 0 rfl) ?_
  refine lv_imul hx hb dX12_putWide_15 ?_
  refine hk_topi 16 (by decide +kernel) ?_
  refine lv_lshr (v := ((x : Int64) >>> ((16 : Int32).toInt64 &&& 63))) hx hb dX12_putWide_16 rfl ?_
  refine lv_l2i (v := (((x : Int64) >>> ((16 : Int32).toInt64 &&& 63)) : Int64).toInt32) hx hb dX12_putWide_17 rfl ?_
  refine hk_Vv (As := [.int ((((x : Int64) >>> ((16 : Int32).toInt64 &&& 63)) : Int64).toInt32)]) (rest := []) ⟨hx, hb, hml, hown, hts⟩ hw hA (cn_put10 l D cI cJ ad (upd g 42 10) lg (va_up ar 22 uu_7) bk _ ((((x : Int64) >>> ((16 : Int32).toInt64 &&& 63)) : Int64).toInt32) rfl) (cwV 1 hts gw_cn_wide8_4_2 rfl rfl rfl (by decide +kernel) ⟨Nat.le_of_ble_eq_true rfl, Nat.le_of_ble_eq_true rfl⟩) 0 (ci := 15) (T := TX12) (N := 92) rfl rfl rfl hl.1 rfl (Nat.le_of_ble_eq_true rfl) dX12_putWide_18 ⟨Nat.le_of_ble_eq_true rfl, Nat.le_of_ble_eq_true rfl⟩ (fun uu_11 H locs hp_12 hw => ?_)
  have hw : hk_W D [(cI, .int), (cJ, .long)] _ s _ _ (mw cI cJ ad (upd g 42 11) lg (va_up ar 22 uu_11) bk) := hw
  refine lv_iinc (v := 3) (lv' := [(4, .int 3), (0, .ref (ad 0)), (1, .long x), (3, .int 4)]) hx hb dX12_putWide_21 hl (k := 0) rfl rfl (by decide) rfl (fun ls hl => ?_)
  refine lv_goto (tgt := 3) hx hb dX12_putWide_24 (by decide) ?_
  refine lv_iload hx hb dX12_putWide_3 (lv_at hl 0 rfl) ?_
  refine lv_iload_n hx hb dX12_putWide_5 rfl (lv_at hl 3 rfl) ?_
  refine lv_icmp_ge (tgt := 27) hx hb dX12_putWide_6 (by decide) (fun cc_13 => absurd cc_13 (by decide)) (fun _ => ?_)
  refine lv_aload_n hx hb dX12_putWide_9 rfl (lv_at hl 1 rfl) ?_
  refine lv_lload_n hx hb dX12_putWide_10 rfl (lv_at hl 2 rfl) ?_
  refine lv_bipush (v := 8) hx hb dX12_putWide_11 (by decide) ?_
  refine lv_iload hx hb dX12_putWide_13 (lv_at hl 0 rfl) ?_
  refine lv_imul hx hb dX12_putWide_15 ?_
  refine hk_topi 24 (by decide +kernel) ?_
  refine lv_lshr (v := ((x : Int64) >>> ((24 : Int32).toInt64 &&& 63))) hx hb dX12_putWide_16 rfl ?_
  refine lv_l2i (v := (((x : Int64) >>> ((24 : Int32).toInt64 &&& 63)) : Int64).toInt32) hx hb dX12_putWide_17 rfl ?_
  refine hk_Vv (As := [.int ((((x : Int64) >>> ((24 : Int32).toInt64 &&& 63)) : Int64).toInt32)]) (rest := []) ⟨hx, hb, hml, hown, hts⟩ hw hA (cn_put11 l D cI cJ ad (upd g 42 11) lg (va_up ar 22 uu_11) bk _ ((((x : Int64) >>> ((24 : Int32).toInt64 &&& 63)) : Int64).toInt32) rfl) (cwV 1 hts gw_cn_wide8_4_3 rfl rfl rfl (by decide +kernel) ⟨Nat.le_of_ble_eq_true rfl, Nat.le_of_ble_eq_true rfl⟩) 0 (ci := 15) (T := TX12) (N := 92) rfl rfl rfl hl.1 rfl (Nat.le_of_ble_eq_true rfl) dX12_putWide_18 ⟨Nat.le_of_ble_eq_true rfl, Nat.le_of_ble_eq_true rfl⟩ (fun uu_15 H locs hp_16 hw => ?_)
  have hw : hk_W D [(cI, .int), (cJ, .long)] _ s _ _ (mw cI cJ ad (upd g 42 12) lg (va_up ar 22 uu_15) bk) := hw
  refine lv_iinc (v := 4) (lv' := [(4, .int 4), (0, .ref (ad 0)), (1, .long x), (3, .int 4)]) hx hb dX12_putWide_21 hl (k := 0) rfl rfl (by decide) rfl (fun ls hl => ?_)
  refine lv_goto (tgt := 3) hx hb dX12_putWide_24 (by decide) ?_
  refine lv_iload hx hb dX12_putWide_3 (lv_at hl 0 rfl) ?_
  refine lv_iload_n hx hb dX12_putWide_5 rfl (lv_at hl 3 rfl) ?_
  refine lv_icmp_ge (tgt := 27) hx hb dX12_putWide_6 (by decide) (fun _ => ?_) (fun cc_17 => absurd (by decide) cc_17)
  exact hk_vret (u := uu_15) hx hb hr hlocks (hw) (trivial) dX12_putWide_27

def ww_cn_wide16_4 : List Cond := Cond.code yX12_putWide cX12_putWide 5 none :: ([Cond.methodLink RX12 394 yX12_put, Cond.instanceMethod yX12_put, Cond.selects RX12 yX12_put yX12_put, Cond.initialized RX12, Cond.code yX12_put cX12_put 2 none, Cond.fieldLink RX12 391 "LzmaChainsModel" "rowSize" "I", Cond.fieldLink RX12 98 "LzmaChainsModel" "row" "[I"] ++ (wsX120 ++ ([])))
set_option maxRecDepth 20000 in
theorem gw_cn_wide16_4_0 : GoodIn ww_cn_wide16_4 (wsV RX12 394 RX12 yX12_put ww_cn_put16) := goodIn_r _ [1, 2, 3, 4, 5, 6, 7, 8, 9, 10, 11, 12, 13, 14, 15, 16, 17, 18, 19, 20, 21, 22, 23, 24, 25, 26, 27, 28, 29, 30, 31, 32, 33, 34, 35, 36, 37, 38, 39, 40, 41, 42, 43, 44, 45, 46, 47, 48, 49, 50, 51, 52, 53, 54, 55, 56, 57, 58, 59, 60, 61, 62, 63, 64, 65, 66, 67, 68, 69, 70, 71, 72, 73, 74, 75, 76, 77, 78, 79, 80, 81, 82, 83, 84, 85, 86, 87, 88, 89, 90, 91, 92, 93, 94, 95, 96, 97, 98, 99] rfl (by decide +kernel)
set_option maxRecDepth 20000 in
theorem gw_cn_wide16_4_1 : GoodIn ww_cn_wide16_4 (wsV RX12 394 RX12 yX12_put ww_cn_put17) := goodIn_r _ [1, 2, 3, 4, 5, 6, 7, 8, 9, 10, 11, 12, 13, 14, 15, 16, 17, 18, 19, 20, 21, 22, 23, 24, 25, 26, 27, 28, 29, 30, 31, 32, 33, 34, 35, 36, 37, 38, 39, 40, 41, 42, 43, 44, 45, 46, 47, 48, 49, 50, 51, 52, 53, 54, 55, 56, 57, 58, 59, 60, 61, 62, 63, 64, 65, 66, 67, 68, 69, 70, 71, 72, 73, 74, 75, 76, 77, 78, 79, 80, 81, 82, 83, 84, 85, 86, 87, 88, 89, 90, 91, 92, 93, 94, 95, 96, 97, 98, 99] rfl (by decide +kernel)
set_option maxRecDepth 20000 in
theorem gw_cn_wide16_4_2 : GoodIn ww_cn_wide16_4 (wsV RX12 394 RX12 yX12_put ww_cn_put18) := goodIn_r _ [1, 2, 3, 4, 5, 6, 7, 8, 9, 10, 11, 12, 13, 14, 15, 16, 17, 18, 19, 20, 21, 22, 23, 24, 25, 26, 27, 28, 29, 30, 31, 32, 33, 34, 35, 36, 37, 38, 39, 40, 41, 42, 43, 44, 45, 46, 47, 48, 49, 50, 51, 52, 53, 54, 55, 56, 57, 58, 59, 60, 61, 62, 63, 64, 65, 66, 67, 68, 69, 70, 71, 72, 73, 74, 75, 76, 77, 78, 79, 80, 81, 82, 83, 84, 85, 86, 87, 88, 89, 90, 91, 92, 93, 94, 95, 96, 97, 98, 99] rfl (by decide +kernel)
set_option maxRecDepth 20000 in
theorem gw_cn_wide16_4_3 : GoodIn ww_cn_wide16_4 (wsV RX12 394 RX12 yX12_put ww_cn_put19) := goodIn_r _ [1, 2, 3, 4, 5, 6, 7, 8, 9, 10, 11, 12, 13, 14, 15, 16, 17, 18, 19, 20, 21, 22, 23, 24, 25, 26, 27, 28, 29, 30, 31, 32, 33, 34, 35, 36, 37, 38, 39, 40, 41, 42, 43, 44, 45, 46, 47, 48, 49, 50, 51, 52, 53, 54, 55, 56, 57, 58, 59, 60, 61, 62, 63, 64, 65, 66, 67, 68, 69, 70, 71, 72, 73, 74, 75, 76, 77, 78, 79, 80, 81, 82, 83, 84, 85, 86, 87, 88, 89, 90, 91, 92, 93, 94, 95, 96, 97, 98, 99] rfl (by decide +kernel)
set_option maxHeartbeats 4000000 in
set_option maxRecDepth 100000 in
/-- the reference: putWide 4, it has 16 -/
theorem cn_wide16_4 (l : Launch) (D : va_G) (cI cJ : ClassId) (ad : Nat → Nat) (g : Nat → Int32) (lg : Nat → Int64) (ar : Nat → Nat → Int32) (bk : Nat → Int64) (sz : Nat) (x : Int64) (h42 : g 42 = 16) : Met l yX12_putWide ww_cn_wide16_4 { frames := 1, cells := 0, slots := 0, locals := 21 } (va_Pc [.ref (ad 0), .long x, .int 4] (hk_B D [(cI, .int), (cJ, .long)] sz (mw cI cJ ad g lg ar bk))) (va_Qv (fun u : (Nat → Int32) => True) (fun u : (Nat → Int32) => hk_E D [(cI, .int), (cJ, .long)] (va_A (mw cI cJ ad g lg ar bk) sz) (mw cI cJ ad (upd g 42 20) lg (va_up ar 22 u) bk)) (va_A (mw cI cJ ad g lg ar bk) sz)) 0 0 (va_A (mw cI cJ ad g lg ar bk) sz) := by
  refine hk_met (cc := cX12_putWide) (maxL := 5) (ret := none) (by decide) rfl (Nat.le_of_ble_eq_true rfl) ?_
  intro p e s m below meth c ls hx hb hr hml hown hts hlocks hin hA hw hl
  have iX12 : ∀ w ∈ wsX120, w ∈ ww_cn_wide16_4 := fun _ h => List.mem_cons_of_mem _ (List.mem_append_right _ (List.mem_append_left _ h))
  have hl : lv_has ls 5 [(0, .ref (ad 0)), (1, .long x), (3, .int 4)] := hl
  refine lv_iconst (v := 0) hx hb dX12_putWide_0 (by decide) ?_
  refine lv_istore (lv' := [(4, .int 0), (0, .ref (ad 0)), (1, .long x), (3, .int 4)]) hx hb dX12_putWide_1 hl (by decide) rfl (fun ls hl => ?_)
  refine lv_iload hx hb dX12_putWide_3 (lv_at hl 0 rfl) ?_
  refine lv_iload_n hx hb dX12_putWide_5 rfl (lv_at hl 3 rfl) ?_
  refine lv_icmp_ge (tgt := 27) hx hb dX12_putWide_6 (by decide) (fun cc_1 => absurd cc_1 (by decide)) (fun _ => ?_)
  refine lv_aload_n hx hb dX12_putWide_9 rfl (lv_at hl 1 rfl) ?_
  refine lv_lload_n hx hb dX12_putWide_10 rfl (lv_at hl 2 rfl) ?_
  refine lv_bipush (v := 8) hx hb dX12_putWide_11 (by decide) ?_
  refine lv_iload hx hb dX12_putWide_13 (lv_at hl 0 rfl) ?_
  refine lv_imul hx hb dX12_putWide_15 ?_
  refine hk_topi 0 (by decide +kernel) ?_
  refine lv_lshr (v := ((x : Int64) >>> ((0 : Int32).toInt64 &&& 63))) hx hb dX12_putWide_16 rfl ?_
  refine lv_l2i (v := (((x : Int64) >>> ((0 : Int32).toInt64 &&& 63)) : Int64).toInt32) hx hb dX12_putWide_17 rfl ?_
  refine hk_Vv (As := [.int ((((x : Int64) >>> ((0 : Int32).toInt64 &&& 63)) : Int64).toInt32)]) (rest := []) ⟨hx, hb, hml, hown, hts⟩ hw hA (cn_put16 l D cI cJ ad g lg ar bk _ ((((x : Int64) >>> ((0 : Int32).toInt64 &&& 63)) : Int64).toInt32) h42) (cwV 1 hts gw_cn_wide16_4_0 rfl rfl rfl (by decide +kernel) ⟨Nat.le_of_ble_eq_true rfl, Nat.le_of_ble_eq_true rfl⟩) 0 (ci := 15) (T := TX12) (N := 92) rfl rfl rfl hl.1 rfl (Nat.le_of_ble_eq_true rfl) dX12_putWide_18 ⟨Nat.le_of_ble_eq_true rfl, Nat.le_of_ble_eq_true rfl⟩ (fun uu_3 H locs hp_4 hw => ?_)
  have hw : hk_W D [(cI, .int), (cJ, .long)] _ s _ _ (mw cI cJ ad (upd g 42 17) lg (va_up ar 22 uu_3) bk) := hw
  refine lv_iinc (v := 1) (lv' := [(4, .int 1), (0, .ref (ad 0)), (1, .long x), (3, .int 4)]) hx hb dX12_putWide_21 hl (k := 0) rfl rfl (by decide) rfl (fun ls hl => ?_)
  refine lv_goto (tgt := 3) hx hb dX12_putWide_24 (by decide) ?_
  refine lv_iload hx hb dX12_putWide_3 (lv_at hl 0 rfl) ?_
  refine lv_iload_n hx hb dX12_putWide_5 rfl (lv_at hl 3 rfl) ?_
  refine lv_icmp_ge (tgt := 27) hx hb dX12_putWide_6 (by decide) (fun cc_5 => absurd cc_5 (by decide)) (fun _ => ?_)
  refine lv_aload_n hx hb dX12_putWide_9 rfl (lv_at hl 1 rfl) ?_
  refine lv_lload_n hx hb dX12_putWide_10 rfl (lv_at hl 2 rfl) ?_
  refine lv_bipush (v := 8) hx hb dX12_putWide_11 (by decide) ?_
  refine lv_iload hx hb dX12_putWide_13 (lv_at hl 0 rfl) ?_
  refine lv_imul hx hb dX12_putWide_15 ?_
  refine hk_topi 8 (by decide +kernel) ?_
  refine lv_lshr (v := ((x : Int64) >>> ((8 : Int32).toInt64 &&& 63))) hx hb dX12_putWide_16 rfl ?_
  refine lv_l2i (v := (((x : Int64) >>> ((8 : Int32).toInt64 &&& 63)) : Int64).toInt32) hx hb dX12_putWide_17 rfl ?_
  refine hk_Vv (As := [.int ((((x : Int64) >>> ((8 : Int32).toInt64 &&& 63)) : Int64).toInt32)]) (rest := []) ⟨hx, hb, hml, hown, hts⟩ hw hA (cn_put17 l D cI cJ ad (upd g 42 17) lg (va_up ar 22 uu_3) bk _ ((((x : Int64) >>> ((8 : Int32).toInt64 &&& 63)) : Int64).toInt32) rfl) (cwV 1 hts gw_cn_wide16_4_1 rfl rfl rfl (by decide +kernel) ⟨Nat.le_of_ble_eq_true rfl, Nat.le_of_ble_eq_true rfl⟩) 0 (ci := 15) (T := TX12) (N := 92) rfl rfl rfl hl.1 rfl (Nat.le_of_ble_eq_true rfl) dX12_putWide_18 ⟨Nat.le_of_ble_eq_true rfl, Nat.le_of_ble_eq_true rfl⟩ (fun uu_7 H locs hp_8 hw => ?_)
  have hw : hk_W D [(cI, .int), (cJ, .long)] _ s _ _ (mw cI cJ ad (upd g 42 18) lg (va_up ar 22 uu_7) bk) := hw
  refine lv_iinc (v := 2) (lv' := [(4, .int 2), (0, .ref (ad 0)), (1, .long x), (3, .int 4)]) hx hb dX12_putWide_21 hl (k := 0) rfl rfl (by decide) rfl (fun ls hl => ?_)
  refine lv_goto (tgt := 3) hx hb dX12_putWide_24 (by decide) ?_
  refine lv_iload hx hb dX12_putWide_3 (lv_at hl 0 rfl) ?_
  refine lv_iload_n hx hb dX12_putWide_5 rfl (lv_at hl 3 rfl) ?_
  refine lv_icmp_ge (tgt := 27) hx hb dX12_putWide_6 (by decide) (fun cc_9 => absurd cc_9 (by decide)) (fun _ => ?_)
  refine lv_aload_n hx hb dX12_putWide_9 rfl (lv_at hl 1 rfl) ?_
  refine lv_lload_n hx hb dX12_putWide_10 rfl (lv_at hl 2 rfl) ?_
  refine lv_bipush (v := 8) hx hb dX12_putWide_11 (by decide) ?_
  refine lv_iload hx hb dX12_putWide_13 (lv_at hl 0 rfl) ?_
  refine lv_imul hx hb dX12_putWide_15 ?_
  refine hk_topi 16 (by decide +kernel) ?_
  refine lv_lshr (v := ((x : Int64) >>> ((16 : Int32).toInt64 &&& 63))) hx hb dX12_putWide_16 rfl ?_
  refine lv_l2i (v := (((x : Int64) >>> ((16 : Int32).toInt64 &&& 63)) : Int64).toInt32) hx hb dX12_putWide_17 rfl ?_
  refine hk_Vv (As := [.int ((((x : Int64) >>> ((16 : Int32).toInt64 &&& 63)) : Int64).toInt32)]) (rest := []) ⟨hx, hb, hml, hown, hts⟩ hw hA (cn_put18 l D cI cJ ad (upd g 42 18) lg (va_up ar 22 uu_7) bk _ ((((x : Int64) >>> ((16 : Int32).toInt64 &&& 63)) : Int64).toInt32) rfl) (cwV 1 hts gw_cn_wide16_4_2 rfl rfl rfl (by decide +kernel) ⟨Nat.le_of_ble_eq_true rfl, Nat.le_of_ble_eq_true rfl⟩) 0 (ci := 15) (T := TX12) (N := 92) rfl rfl rfl hl.1 rfl (Nat.le_of_ble_eq_true rfl) dX12_putWide_18 ⟨Nat.le_of_ble_eq_true rfl, Nat.le_of_ble_eq_true rfl⟩ (fun uu_11 H locs hp_12 hw => ?_)
  have hw : hk_W D [(cI, .int), (cJ, .long)] _ s _ _ (mw cI cJ ad (upd g 42 19) lg (va_up ar 22 uu_11) bk) := hw
  refine lv_iinc (v := 3) (lv' := [(4, .int 3), (0, .ref (ad 0)), (1, .long x), (3, .int 4)]) hx hb dX12_putWide_21 hl (k := 0) rfl rfl (by decide) rfl (fun ls hl => ?_)
  refine lv_goto (tgt := 3) hx hb dX12_putWide_24 (by decide) ?_
  refine lv_iload hx hb dX12_putWide_3 (lv_at hl 0 rfl) ?_
  refine lv_iload_n hx hb dX12_putWide_5 rfl (lv_at hl 3 rfl) ?_
  refine lv_icmp_ge (tgt := 27) hx hb dX12_putWide_6 (by decide) (fun cc_13 => absurd cc_13 (by decide)) (fun _ => ?_)
  refine lv_aload_n hx hb dX12_putWide_9 rfl (lv_at hl 1 rfl) ?_
  refine lv_lload_n hx hb dX12_putWide_10 rfl (lv_at hl 2 rfl) ?_
  refine lv_bipush (v := 8) hx hb dX12_putWide_11 (by decide) ?_
  refine lv_iload hx hb dX12_putWide_13 (lv_at hl 0 rfl) ?_
  refine lv_imul hx hb dX12_putWide_15 ?_
  refine hk_topi 24 (by decide +kernel) ?_
  refine lv_lshr (v := ((x : Int64) >>> ((24 : Int32).toInt64 &&& 63))) hx hb dX12_putWide_16 rfl ?_
  refine lv_l2i (v := (((x : Int64) >>> ((24 : Int32).toInt64 &&& 63)) : Int64).toInt32) hx hb dX12_putWide_17 rfl ?_
  refine hk_Vv (As := [.int ((((x : Int64) >>> ((24 : Int32).toInt64 &&& 63)) : Int64).toInt32)]) (rest := []) ⟨hx, hb, hml, hown, hts⟩ hw hA (cn_put19 l D cI cJ ad (upd g 42 19) lg (va_up ar 22 uu_11) bk _ ((((x : Int64) >>> ((24 : Int32).toInt64 &&& 63)) : Int64).toInt32) rfl) (cwV 1 hts gw_cn_wide16_4_3 rfl rfl rfl (by decide +kernel) ⟨Nat.le_of_ble_eq_true rfl, Nat.le_of_ble_eq_true rfl⟩) 0 (ci := 15) (T := TX12) (N := 92) rfl rfl rfl hl.1 rfl (Nat.le_of_ble_eq_true rfl) dX12_putWide_18 ⟨Nat.le_of_ble_eq_true rfl, Nat.le_of_ble_eq_true rfl⟩ (fun uu_15 H locs hp_16 hw => ?_)
  have hw : hk_W D [(cI, .int), (cJ, .long)] _ s _ _ (mw cI cJ ad (upd g 42 20) lg (va_up ar 22 uu_15) bk) := hw
  refine lv_iinc (v := 4) (lv' := [(4, .int 4), (0, .ref (ad 0)), (1, .long x), (3, .int 4)]) hx hb dX12_putWide_21 hl (k := 0) rfl rfl (by decide) rfl (fun ls hl => ?_)
  refine lv_goto (tgt := 3) hx hb dX12_putWide_24 (by decide) ?_
  refine lv_iload hx hb dX12_putWide_3 (lv_at hl 0 rfl) ?_
  refine lv_iload_n hx hb dX12_putWide_5 rfl (lv_at hl 3 rfl) ?_
  refine lv_icmp_ge (tgt := 27) hx hb dX12_putWide_6 (by decide) (fun _ => ?_) (fun cc_17 => absurd (by decide) cc_17)
  exact hk_vret (u := uu_15) hx hb hr hlocks (hw) (trivial) dX12_putWide_27

def ww_cn_wide20_4 : List Cond := Cond.code yX12_putWide cX12_putWide 5 none :: ([Cond.methodLink RX12 394 yX12_put, Cond.instanceMethod yX12_put, Cond.selects RX12 yX12_put yX12_put, Cond.initialized RX12, Cond.code yX12_put cX12_put 2 none, Cond.fieldLink RX12 391 "LzmaChainsModel" "rowSize" "I", Cond.fieldLink RX12 98 "LzmaChainsModel" "row" "[I"] ++ (wsX120 ++ ([])))
set_option maxRecDepth 20000 in
theorem gw_cn_wide20_4_0 : GoodIn ww_cn_wide20_4 (wsV RX12 394 RX12 yX12_put ww_cn_put20) := goodIn_r _ [1, 2, 3, 4, 5, 6, 7, 8, 9, 10, 11, 12, 13, 14, 15, 16, 17, 18, 19, 20, 21, 22, 23, 24, 25, 26, 27, 28, 29, 30, 31, 32, 33, 34, 35, 36, 37, 38, 39, 40, 41, 42, 43, 44, 45, 46, 47, 48, 49, 50, 51, 52, 53, 54, 55, 56, 57, 58, 59, 60, 61, 62, 63, 64, 65, 66, 67, 68, 69, 70, 71, 72, 73, 74, 75, 76, 77, 78, 79, 80, 81, 82, 83, 84, 85, 86, 87, 88, 89, 90, 91, 92, 93, 94, 95, 96, 97, 98, 99] rfl (by decide +kernel)
set_option maxRecDepth 20000 in
theorem gw_cn_wide20_4_1 : GoodIn ww_cn_wide20_4 (wsV RX12 394 RX12 yX12_put ww_cn_put21) := goodIn_r _ [1, 2, 3, 4, 5, 6, 7, 8, 9, 10, 11, 12, 13, 14, 15, 16, 17, 18, 19, 20, 21, 22, 23, 24, 25, 26, 27, 28, 29, 30, 31, 32, 33, 34, 35, 36, 37, 38, 39, 40, 41, 42, 43, 44, 45, 46, 47, 48, 49, 50, 51, 52, 53, 54, 55, 56, 57, 58, 59, 60, 61, 62, 63, 64, 65, 66, 67, 68, 69, 70, 71, 72, 73, 74, 75, 76, 77, 78, 79, 80, 81, 82, 83, 84, 85, 86, 87, 88, 89, 90, 91, 92, 93, 94, 95, 96, 97, 98, 99] rfl (by decide +kernel)
set_option maxRecDepth 20000 in
theorem gw_cn_wide20_4_2 : GoodIn ww_cn_wide20_4 (wsV RX12 394 RX12 yX12_put ww_cn_put22) := goodIn_r _ [1, 2, 3, 4, 5, 6, 7, 8, 9, 10, 11, 12, 13, 14, 15, 16, 17, 18, 19, 20, 21, 22, 23, 24, 25, 26, 27, 28, 29, 30, 31, 32, 33, 34, 35, 36, 37, 38, 39, 40, 41, 42, 43, 44, 45, 46, 47, 48, 49, 50, 51, 52, 53, 54, 55, 56, 57, 58, 59, 60, 61, 62, 63, 64, 65, 66, 67, 68, 69, 70, 71, 72, 73, 74, 75, 76, 77, 78, 79, 80, 81, 82, 83, 84, 85, 86, 87, 88, 89, 90, 91, 92, 93, 94, 95, 96, 97, 98, 99] rfl (by decide +kernel)
set_option maxRecDepth 20000 in
theorem gw_cn_wide20_4_3 : GoodIn ww_cn_wide20_4 (wsV RX12 394 RX12 yX12_put ww_cn_put23) := goodIn_r _ [1, 2, 3, 4, 5, 6, 7, 8, 9, 10, 11, 12, 13, 14, 15, 16, 17, 18, 19, 20, 21, 22, 23, 24, 25, 26, 27, 28, 29, 30, 31, 32, 33, 34, 35, 36, 37, 38, 39, 40, 41, 42, 43, 44, 45, 46, 47, 48, 49, 50, 51, 52, 53, 54, 55, 56, 57, 58, 59, 60, 61, 62, 63, 64, 65, 66, 67, 68, 69, 70, 71, 72, 73, 74, 75, 76, 77, 78, 79, 80, 81, 82, 83, 84, 85, 86, 87, 88, 89, 90, 91, 92, 93, 94, 95, 96, 97, 98, 99] rfl (by decide +kernel)
set_option maxHeartbeats 4000000 in
set_option maxRecDepth 100000 in
/-- the reference: putWide 4, it has 20 -/
theorem cn_wide20_4 (l : Launch) (D : va_G) (cI cJ : ClassId) (ad : Nat → Nat) (g : Nat → Int32) (lg : Nat → Int64) (ar : Nat → Nat → Int32) (bk : Nat → Int64) (sz : Nat) (x : Int64) (h42 : g 42 = 20) : Met l yX12_putWide ww_cn_wide20_4 { frames := 1, cells := 0, slots := 0, locals := 21 } (va_Pc [.ref (ad 0), .long x, .int 4] (hk_B D [(cI, .int), (cJ, .long)] sz (mw cI cJ ad g lg ar bk))) (va_Qv (fun u : (Nat → Int32) => True) (fun u : (Nat → Int32) => hk_E D [(cI, .int), (cJ, .long)] (va_A (mw cI cJ ad g lg ar bk) sz) (mw cI cJ ad (upd g 42 24) lg (va_up ar 22 u) bk)) (va_A (mw cI cJ ad g lg ar bk) sz)) 0 0 (va_A (mw cI cJ ad g lg ar bk) sz) := by
  refine hk_met (cc := cX12_putWide) (maxL := 5) (ret := none) (by decide) rfl (Nat.le_of_ble_eq_true rfl) ?_
  intro p e s m below meth c ls hx hb hr hml hown hts hlocks hin hA hw hl
  have iX12 : ∀ w ∈ wsX120, w ∈ ww_cn_wide20_4 := fun _ h => List.mem_cons_of_mem _ (List.mem_append_right _ (List.mem_append_left _ h))
  have hl : lv_has ls 5 [(0, .ref (ad 0)), (1, .long x), (3, .int 4)] := hl
  refine lv_iconst (v := 0) hx hb dX12_putWide_0 (by decide) ?_
  refine lv_istore (lv' := [(4, .int 0), (0, .ref (ad 0)), (1, .long x), (3, .int 4)]) hx hb dX12_putWide_1 hl (by decide) rfl (fun ls hl => ?_)
  refine lv_iload hx hb dX12_putWide_3 (lv_at hl 0 rfl) ?_
  refine lv_iload_n hx hb dX12_putWide_5 rfl (lv_at hl 3 rfl) ?_
  refine lv_icmp_ge (tgt := 27) hx hb dX12_putWide_6 (by decide) (fun cc_1 => absurd cc_1 (by decide)) (fun _ => ?_)
  refine lv_aload_n hx hb dX12_putWide_9 rfl (lv_at hl 1 rfl) ?_
  refine lv_lload_n hx hb dX12_putWide_10 rfl (lv_at hl 2 rfl) ?_
  refine lv_bipush (v := 8) hx hb dX12_putWide_11 (by decide) ?_
  refine lv_iload hx hb dX12_putWide_13 (lv_at hl 0 rfl) ?_
  refine lv_imul hx hb dX12_putWide_15 ?_
  refine hk_topi 0 (by decide +kernel) ?_
  refine lv_lshr (v := ((x : Int64) >>> ((0 : Int32).toInt64 &&& 63))) hx hb dX12_putWide_16 rfl ?_
  refine lv_l2i (v := (((x : Int64) >>> ((0 : Int32).toInt64 &&& 63)) : Int64).toInt32) hx hb dX12_putWide_17 rfl ?_
  refine hk_Vv (As := [.int ((((x : Int64) >>> ((0 : Int32).toInt64 &&& 63)) : Int64).toInt32)]) (rest := []) ⟨hx, hb, hml, hown, hts⟩ hw hA (cn_put20 l D cI cJ ad g lg ar bk _ ((((x : Int64) >>> ((0 : Int32).toInt64 &&& 63)) : Int64).toInt32) h42) (cwV 1 hts gw_cn_wide20_4_0 rfl rfl rfl (by decide +kernel) ⟨Nat.le_of_ble_eq_true rfl, Nat.le_of_ble_eq_true rfl⟩) 0 (ci := 15) (T := TX12) (N := 92) rfl rfl rfl hl.1 rfl (Nat.le_of_ble_eq_true rfl) dX12_putWide_18 ⟨Nat.le_of_ble_eq_true rfl, Nat.le_of_ble_eq_true rfl⟩ (fun uu_3 H locs hp_4 hw => ?_)
  have hw : hk_W D [(cI, .int), (cJ, .long)] _ s _ _ (mw cI cJ ad (upd g 42 21) lg (va_up ar 22 uu_3) bk) := hw
  refine lv_iinc (v := 1) (lv' := [(4, .int 1), (0, .ref (ad 0)), (1, .long x), (3, .int 4)]) hx hb dX12_putWide_21 hl (k := 0) rfl rfl (by decide) rfl (fun ls hl => ?_)
  refine lv_goto (tgt := 3) hx hb dX12_putWide_24 (by decide) ?_
  refine lv_iload hx hb dX12_putWide_3 (lv_at hl 0 rfl) ?_
  refine lv_iload_n hx hb dX12_putWide_5 rfl (lv_at hl 3 rfl) ?_
  refine lv_icmp_ge (tgt := 27) hx hb dX12_putWide_6 (by decide) (fun cc_5 => absurd cc_5 (by decide)) (fun _ => ?_)
  refine lv_aload_n hx hb dX12_putWide_9 rfl (lv_at hl 1 rfl) ?_
  refine lv_lload_n hx hb dX12_putWide_10 rfl (lv_at hl 2 rfl) ?_
  refine lv_bipush (v := 8) hx hb dX12_putWide_11 (by decide) ?_
  refine lv_iload hx hb dX12_putWide_13 (lv_at hl 0 rfl) ?_
  refine lv_imul hx hb dX12_putWide_15 ?_
  refine hk_topi 8 (by decide +kernel) ?_
  refine lv_lshr (v := ((x : Int64) >>> ((8 : Int32).toInt64 &&& 63))) hx hb dX12_putWide_16 rfl ?_
  refine lv_l2i (v := (((x : Int64) >>> ((8 : Int32).toInt64 &&& 63)) : Int64).toInt32) hx hb dX12_putWide_17 rfl ?_
  refine hk_Vv (As := [.int ((((x : Int64) >>> ((8 : Int32).toInt64 &&& 63)) : Int64).toInt32)]) (rest := []) ⟨hx, hb, hml, hown, hts⟩ hw hA (cn_put21 l D cI cJ ad (upd g 42 21) lg (va_up ar 22 uu_3) bk _ ((((x : Int64) >>> ((8 : Int32).toInt64 &&& 63)) : Int64).toInt32) rfl) (cwV 1 hts gw_cn_wide20_4_1 rfl rfl rfl (by decide +kernel) ⟨Nat.le_of_ble_eq_true rfl, Nat.le_of_ble_eq_true rfl⟩) 0 (ci := 15) (T := TX12) (N := 92) rfl rfl rfl hl.1 rfl (Nat.le_of_ble_eq_true rfl) dX12_putWide_18 ⟨Nat.le_of_ble_eq_true rfl, Nat.le_of_ble_eq_true rfl⟩ (fun uu_7 H locs hp_8 hw => ?_)
  have hw : hk_W D [(cI, .int), (cJ, .long)] _ s _ _ (mw cI cJ ad (upd g 42 22) lg (va_up ar 22 uu_7) bk) := hw
  refine lv_iinc (v := 2) (lv' := [(4, .int 2), (0, .ref (ad 0)), (1, .long x), (3, .int 4)]) hx hb dX12_putWide_21 hl (k := 0) rfl rfl (by decide) rfl (fun ls hl => ?_)
  refine lv_goto (tgt := 3) hx hb dX12_putWide_24 (by decide) ?_
  refine lv_iload hx hb dX12_putWide_3 (lv_at hl 0 rfl) ?_
  refine lv_iload_n hx hb dX12_putWide_5 rfl (lv_at hl 3 rfl) ?_
  refine lv_icmp_ge (tgt := 27) hx hb dX12_putWide_6 (by decide) (fun cc_9 => absurd cc_9 (by decide)) (fun _ => ?_)
  refine lv_aload_n hx hb dX12_putWide_9 rfl (lv_at hl 1 rfl) ?_
  refine lv_lload_n hx hb dX12_putWide_10 rfl (lv_at hl 2 rfl) ?_
  refine lv_bipush (v := 8) hx hb dX12_putWide_11 (by decide) ?_
  refine lv_iload hx hb dX12_putWide_13 (lv_at hl 0 rfl) ?_
  refine lv_imul hx hb dX12_putWide_15 ?_
  refine hk_topi 16 (by decide +kernel) ?_
  refine lv_lshr (v := ((x : Int64) >>> ((16 : Int32).toInt64 &&& 63))) hx hb dX12_putWide_16 rfl ?_
  refine lv_l2i (v := (((x : Int64) >>> ((16 : Int32).toInt64 &&& 63)) : Int64).toInt32) hx hb dX12_putWide_17 rfl ?_
  refine hk_Vv (As := [.int ((((x : Int64) >>> ((16 : Int32).toInt64 &&& 63)) : Int64).toInt32)]) (rest := []) ⟨hx, hb, hml, hown, hts⟩ hw hA (cn_put22 l D cI cJ ad (upd g 42 22) lg (va_up ar 22 uu_7) bk _ ((((x : Int64) >>> ((16 : Int32).toInt64 &&& 63)) : Int64).toInt32) rfl) (cwV 1 hts gw_cn_wide20_4_2 rfl rfl rfl (by decide +kernel) ⟨Nat.le_of_ble_eq_true rfl, Nat.le_of_ble_eq_true rfl⟩) 0 (ci := 15) (T := TX12) (N := 92) rfl rfl rfl hl.1 rfl (Nat.le_of_ble_eq_true rfl) dX12_putWide_18 ⟨Nat.le_of_ble_eq_true rfl, Nat.le_of_ble_eq_true rfl⟩ (fun uu_11 H locs hp_12 hw => ?_)
  have hw : hk_W D [(cI, .int), (cJ, .long)] _ s _ _ (mw cI cJ ad (upd g 42 23) lg (va_up ar 22 uu_11) bk) := hw
  refine lv_iinc (v := 3) (lv' := [(4, .int 3), (0, .ref (ad 0)), (1, .long x), (3, .int 4)]) hx hb dX12_putWide_21 hl (k := 0) rfl rfl (by decide) rfl (fun ls hl => ?_)
  refine lv_goto (tgt := 3) hx hb dX12_putWide_24 (by decide) ?_
  refine lv_iload hx hb dX12_putWide_3 (lv_at hl 0 rfl) ?_
  refine lv_iload_n hx hb dX12_putWide_5 rfl (lv_at hl 3 rfl) ?_
  refine lv_icmp_ge (tgt := 27) hx hb dX12_putWide_6 (by decide) (fun cc_13 => absurd cc_13 (by decide)) (fun _ => ?_)
  refine lv_aload_n hx hb dX12_putWide_9 rfl (lv_at hl 1 rfl) ?_
  refine lv_lload_n hx hb dX12_putWide_10 rfl (lv_at hl 2 rfl) ?_
  refine lv_bipush (v := 8) hx hb dX12_putWide_11 (by decide) ?_
  refine lv_iload hx hb dX12_putWide_13 (lv_at hl 0 rfl) ?_
  refine lv_imul hx hb dX12_putWide_15 ?_
  refine hk_topi 24 (by decide +kernel) ?_
  refine lv_lshr (v := ((x : Int64) >>> ((24 : Int32).toInt64 &&& 63))) hx hb dX12_putWide_16 rfl ?_
  refine lv_l2i (v := (((x : Int64) >>> ((24 : Int32).toInt64 &&& 63)) : Int64).toInt32) hx hb dX12_putWide_17 rfl ?_
  refine hk_Vv (As := [.int ((((x : Int64) >>> ((24 : Int32).toInt64 &&& 63)) : Int64).toInt32)]) (rest := []) ⟨hx, hb, hml, hown, hts⟩ hw hA (cn_put23 l D cI cJ ad (upd g 42 23) lg (va_up ar 22 uu_11) bk _ ((((x : Int64) >>> ((24 : Int32).toInt64 &&& 63)) : Int64).toInt32) rfl) (cwV 1 hts gw_cn_wide20_4_3 rfl rfl rfl (by decide +kernel) ⟨Nat.le_of_ble_eq_true rfl, Nat.le_of_ble_eq_true rfl⟩) 0 (ci := 15) (T := TX12) (N := 92) rfl rfl rfl hl.1 rfl (Nat.le_of_ble_eq_true rfl) dX12_putWide_18 ⟨Nat.le_of_ble_eq_true rfl, Nat.le_of_ble_eq_true rfl⟩ (fun uu_15 H locs hp_16 hw => ?_)
  have hw : hk_W D [(cI, .int), (cJ, .long)] _ s _ _ (mw cI cJ ad (upd g 42 24) lg (va_up ar 22 uu_15) bk) := hw
  refine lv_iinc (v := 4) (lv' := [(4, .int 4), (0, .ref (ad 0)), (1, .long x), (3, .int 4)]) hx hb dX12_putWide_21 hl (k := 0) rfl rfl (by decide) rfl (fun ls hl => ?_)
  refine lv_goto (tgt := 3) hx hb dX12_putWide_24 (by decide) ?_
  refine lv_iload hx hb dX12_putWide_3 (lv_at hl 0 rfl) ?_
  refine lv_iload_n hx hb dX12_putWide_5 rfl (lv_at hl 3 rfl) ?_
  refine lv_icmp_ge (tgt := 27) hx hb dX12_putWide_6 (by decide) (fun _ => ?_) (fun cc_17 => absurd (by decide) cc_17)
  exact hk_vret (u := uu_15) hx hb hr hlocks (hw) (trivial) dX12_putWide_27

def ww_cn_wide24_4 : List Cond := Cond.code yX12_putWide cX12_putWide 5 none :: ([Cond.methodLink RX12 394 yX12_put, Cond.instanceMethod yX12_put, Cond.selects RX12 yX12_put yX12_put, Cond.initialized RX12, Cond.code yX12_put cX12_put 2 none, Cond.fieldLink RX12 391 "LzmaChainsModel" "rowSize" "I", Cond.fieldLink RX12 98 "LzmaChainsModel" "row" "[I"] ++ (wsX120 ++ ([])))
set_option maxRecDepth 20000 in
theorem gw_cn_wide24_4_0 : GoodIn ww_cn_wide24_4 (wsV RX12 394 RX12 yX12_put ww_cn_put24) := goodIn_r _ [1, 2, 3, 4, 5, 6, 7, 8, 9, 10, 11, 12, 13, 14, 15, 16, 17, 18, 19, 20, 21, 22, 23, 24, 25, 26, 27, 28, 29, 30, 31, 32, 33, 34, 35, 36, 37, 38, 39, 40, 41, 42, 43, 44, 45, 46, 47, 48, 49, 50, 51, 52, 53, 54, 55, 56, 57, 58, 59, 60, 61, 62, 63, 64, 65, 66, 67, 68, 69, 70, 71, 72, 73, 74, 75, 76, 77, 78, 79, 80, 81, 82, 83, 84, 85, 86, 87, 88, 89, 90, 91, 92, 93, 94, 95, 96, 97, 98, 99] rfl (by decide +kernel)
set_option maxRecDepth 20000 in
theorem gw_cn_wide24_4_1 : GoodIn ww_cn_wide24_4 (wsV RX12 394 RX12 yX12_put ww_cn_put25) := goodIn_r _ [1, 2, 3, 4, 5, 6, 7, 8, 9, 10, 11, 12, 13, 14, 15, 16, 17, 18, 19, 20, 21, 22, 23, 24, 25, 26, 27, 28, 29, 30, 31, 32, 33, 34, 35, 36, 37, 38, 39, 40, 41, 42, 43, 44, 45, 46, 47, 48, 49, 50, 51, 52, 53, 54, 55, 56, 57, 58, 59, 60, 61, 62, 63, 64, 65, 66, 67, 68, 69, 70, 71, 72, 73, 74, 75, 76, 77, 78, 79, 80, 81, 82, 83, 84, 85, 86, 87, 88, 89, 90, 91, 92, 93, 94, 95, 96, 97, 98, 99] rfl (by decide +kernel)
set_option maxRecDepth 20000 in
theorem gw_cn_wide24_4_2 : GoodIn ww_cn_wide24_4 (wsV RX12 394 RX12 yX12_put ww_cn_put26) := goodIn_r _ [1, 2, 3, 4, 5, 6, 7, 8, 9, 10, 11, 12, 13, 14, 15, 16, 17, 18, 19, 20, 21, 22, 23, 24, 25, 26, 27, 28, 29, 30, 31, 32, 33, 34, 35, 36, 37, 38, 39, 40, 41, 42, 43, 44, 45, 46, 47, 48, 49, 50, 51, 52, 53, 54, 55, 56, 57, 58, 59, 60, 61, 62, 63, 64, 65, 66, 67, 68, 69, 70, 71, 72, 73, 74, 75, 76, 77, 78, 79, 80, 81, 82, 83, 84, 85, 86, 87, 88, 89, 90, 91, 92, 93, 94, 95, 96, 97, 98, 99] rfl (by decide +kernel)
set_option maxRecDepth 20000 in
theorem gw_cn_wide24_4_3 : GoodIn ww_cn_wide24_4 (wsV RX12 394 RX12 yX12_put ww_cn_put27) := goodIn_r _ [1, 2, 3, 4, 5, 6, 7, 8, 9, 10, 11, 12, 13, 14, 15, 16, 17, 18, 19, 20, 21, 22, 23, 24, 25, 26, 27, 28, 29, 30, 31, 32, 33, 34, 35, 36, 37, 38, 39, 40, 41, 42, 43, 44, 45, 46, 47, 48, 49, 50, 51, 52, 53, 54, 55, 56, 57, 58, 59, 60, 61, 62, 63, 64, 65, 66, 67, 68, 69, 70, 71, 72, 73, 74, 75, 76, 77, 78, 79, 80, 81, 82, 83, 84, 85, 86, 87, 88, 89, 90, 91, 92, 93, 94, 95, 96, 97, 98, 99] rfl (by decide +kernel)
set_option maxHeartbeats 4000000 in
set_option maxRecDepth 100000 in
/-- the reference: putWide 4, it has 24 -/
theorem cn_wide24_4 (l : Launch) (D : va_G) (cI cJ : ClassId) (ad : Nat → Nat) (g : Nat → Int32) (lg : Nat → Int64) (ar : Nat → Nat → Int32) (bk : Nat → Int64) (sz : Nat) (x : Int64) (h42 : g 42 = 24) : Met l yX12_putWide ww_cn_wide24_4 { frames := 1, cells := 0, slots := 0, locals := 21 } (va_Pc [.ref (ad 0), .long x, .int 4] (hk_B D [(cI, .int), (cJ, .long)] sz (mw cI cJ ad g lg ar bk))) (va_Qv (fun u : (Nat → Int32) => True) (fun u : (Nat → Int32) => hk_E D [(cI, .int), (cJ, .long)] (va_A (mw cI cJ ad g lg ar bk) sz) (mw cI cJ ad (upd g 42 28) lg (va_up ar 22 u) bk)) (va_A (mw cI cJ ad g lg ar bk) sz)) 0 0 (va_A (mw cI cJ ad g lg ar bk) sz) := by
  refine hk_met (cc := cX12_putWide) (maxL := 5) (ret := none) (by decide) rfl (Nat.le_of_ble_eq_true rfl) ?_
  intro p e s m below meth c ls hx hb hr hml hown hts hlocks hin hA hw hl
  have iX12 : ∀ w ∈ wsX120, w ∈ ww_cn_wide24_4 := fun _ h => List.mem_cons_of_mem _ (List.mem_append_right _ (List.mem_append_left _ h))
  have hl : lv_has ls 5 [(0, .ref (ad 0)), (1, .long x), (3, .int 4)] := hl
  refine lv_iconst (v := 0) hx hb dX12_putWide_0 (by decide) ?_
  refine lv_istore (lv' := [(4, .int 0), (0, .ref (ad 0)), (1, .long x), (3, .int 4)]) hx hb dX12_putWide_1 hl (by decide) rfl (fun ls hl => ?_)
  refine lv_iload hx hb dX12_putWide_3 (lv_at hl 0 rfl) ?_
  refine lv_iload_n hx hb dX12_putWide_5 rfl (lv_at hl 3 rfl) ?_
  refine lv_icmp_ge (tgt := 27) hx hb dX12_putWide_6 (by decide) (fun cc_1 => absurd cc_1 (by decide)) (fun _ => ?_)
  refine lv_aload_n hx hb dX12_putWide_9 rfl (lv_at hl 1 rfl) ?_
  refine lv_lload_n hx hb dX12_putWide_10 rfl (lv_at hl 2 rfl) ?_
  refine lv_bipush (v := 8) hx hb dX12_putWide_11 (by decide) ?_
  refine lv_iload hx hb dX12_putWide_13 (lv_at hl 0 rfl) ?_
  refine lv_imul hx hb dX12_putWide_15 ?_
  refine hk_topi 0 (by decide +kernel) ?_
  refine lv_lshr (v := ((x : Int64) >>> ((0 : Int32).toInt64 &&& 63))) hx hb dX12_putWide_16 rfl ?_
  refine lv_l2i (v := (((x : Int64) >>> ((0 : Int32).toInt64 &&& 63)) : Int64).toInt32) hx hb dX12_putWide_17 rfl ?_
  refine hk_Vv (As := [.int ((((x : Int64) >>> ((0 : Int32).toInt64 &&& 63)) : Int64).toInt32)]) (rest := []) ⟨hx, hb, hml, hown, hts⟩ hw hA (cn_put24 l D cI cJ ad g lg ar bk _ ((((x : Int64) >>> ((0 : Int32).toInt64 &&& 63)) : Int64).toInt32) h42) (cwV 1 hts gw_cn_wide24_4_0 rfl rfl rfl (by decide +kernel) ⟨Nat.le_of_ble_eq_true rfl, Nat.le_of_ble_eq_true rfl⟩) 0 (ci := 15) (T := TX12) (N := 92) rfl rfl rfl hl.1 rfl (Nat.le_of_ble_eq_true rfl) dX12_putWide_18 ⟨Nat.le_of_ble_eq_true rfl, Nat.le_of_ble_eq_true rfl⟩ (fun uu_3 H locs hp_4 hw => ?_)
  have hw : hk_W D [(cI, .int), (cJ, .long)] _ s _ _ (mw cI cJ ad (upd g 42 25) lg (va_up ar 22 uu_3) bk) := hw
  refine lv_iinc (v := 1) (lv' := [(4, .int 1), (0, .ref (ad 0)), (1, .long x), (3, .int 4)]) hx hb dX12_putWide_21 hl (k := 0) rfl rfl (by decide) rfl (fun ls hl => ?_)
  refine lv_goto (tgt := 3) hx hb dX12_putWide_24 (by decide) ?_
  refine lv_iload hx hb dX12_putWide_3 (lv_at hl 0 rfl) ?_
  refine lv_iload_n hx hb dX12_putWide_5 rfl (lv_at hl 3 rfl) ?_
  refine lv_icmp_ge (tgt := 27) hx hb dX12_putWide_6 (by decide) (fun cc_5 => absurd cc_5 (by decide)) (fun _ => ?_)
  refine lv_aload_n hx hb dX12_putWide_9 rfl (lv_at hl 1 rfl) ?_
  refine lv_lload_n hx hb dX12_putWide_10 rfl (lv_at hl 2 rfl) ?_
  refine lv_bipush (v := 8) hx hb dX12_putWide_11 (by decide) ?_
  refine lv_iload hx hb dX12_putWide_13 (lv_at hl 0 rfl) ?_
  refine lv_imul hx hb dX12_putWide_15 ?_
  refine hk_topi 8 (by decide +kernel) ?_
  refine lv_lshr (v := ((x : Int64) >>> ((8 : Int32).toInt64 &&& 63))) hx hb dX12_putWide_16 rfl ?_
  refine lv_l2i (v := (((x : Int64) >>> ((8 : Int32).toInt64 &&& 63)) : Int64).toInt32) hx hb dX12_putWide_17 rfl ?_
  refine hk_Vv (As := [.int ((((x : Int64) >>> ((8 : Int32).toInt64 &&& 63)) : Int64).toInt32)]) (rest := []) ⟨hx, hb, hml, hown, hts⟩ hw hA (cn_put25 l D cI cJ ad (upd g 42 25) lg (va_up ar 22 uu_3) bk _ ((((x : Int64) >>> ((8 : Int32).toInt64 &&& 63)) : Int64).toInt32) rfl) (cwV 1 hts gw_cn_wide24_4_1 rfl rfl rfl (by decide +kernel) ⟨Nat.le_of_ble_eq_true rfl, Nat.le_of_ble_eq_true rfl⟩) 0 (ci := 15) (T := TX12) (N := 92) rfl rfl rfl hl.1 rfl (Nat.le_of_ble_eq_true rfl) dX12_putWide_18 ⟨Nat.le_of_ble_eq_true rfl, Nat.le_of_ble_eq_true rfl⟩ (fun uu_7 H locs hp_8 hw => ?_)
  have hw : hk_W D [(cI, .int), (cJ, .long)] _ s _ _ (mw cI cJ ad (upd g 42 26) lg (va_up ar 22 uu_7) bk) := hw
  refine lv_iinc (v := 2) (lv' := [(4, .int 2), (0, .ref (ad 0)), (1, .long x), (3, .int 4)]) hx hb dX12_putWide_21 hl (k := 0) rfl rfl (by decide) rfl (fun ls hl => ?_)
  refine lv_goto (tgt := 3) hx hb dX12_putWide_24 (by decide) ?_
  refine lv_iload hx hb dX12_putWide_3 (lv_at hl 0 rfl) ?_
  refine lv_iload_n hx hb dX12_putWide_5 rfl (lv_at hl 3 rfl) ?_
  refine lv_icmp_ge (tgt := 27) hx hb dX12_putWide_6 (by decide) (fun cc_9 => absurd cc_9 (by decide)) (fun _ => ?_)
  refine lv_aload_n hx hb dX12_putWide_9 rfl (lv_at hl 1 rfl) ?_
  refine lv_lload_n hx hb dX12_putWide_10 rfl (lv_at hl 2 rfl) ?_
  refine lv_bipush (v := 8) hx hb dX12_putWide_11 (by decide) ?_
  refine lv_iload hx hb dX12_putWide_13 (lv_at hl 0 rfl) ?_
  refine lv_imul hx hb dX12_putWide_15 ?_
  refine hk_topi 16 (by decide +kernel) ?_
  refine lv_lshr (v := ((x : Int64) >>> ((16 : Int32).toInt64 &&& 63))) hx hb dX12_putWide_16 rfl ?_
  refine lv_l2i (v := (((x : Int64) >>> ((16 : Int32).toInt64 &&& 63)) : Int64).toInt32) hx hb dX12_putWide_17 rfl ?_
  refine hk_Vv (As := [.int ((((x : Int64) >>> ((16 : Int32).toInt64 &&& 63)) : Int64).toInt32)]) (rest := []) ⟨hx, hb, hml, hown, hts⟩ hw hA (cn_put26 l D cI cJ ad (upd g 42 26) lg (va_up ar 22 uu_7) bk _ ((((x : Int64) >>> ((16 : Int32).toInt64 &&& 63)) : Int64).toInt32) rfl) (cwV 1 hts gw_cn_wide24_4_2 rfl rfl rfl (by decide +kernel) ⟨Nat.le_of_ble_eq_true rfl, Nat.le_of_ble_eq_true rfl⟩) 0 (ci := 15) (T := TX12) (N := 92) rfl rfl rfl hl.1 rfl (Nat.le_of_ble_eq_true rfl) dX12_putWide_18 ⟨Nat.le_of_ble_eq_true rfl, Nat.le_of_ble_eq_true rfl⟩ (fun uu_11 H locs hp_12 hw => ?_)
  have hw : hk_W D [(cI, .int), (cJ, .long)] _ s _ _ (mw cI cJ ad (upd g 42 27) lg (va_up ar 22 uu_11) bk) := hw
  refine lv_iinc (v := 3) (lv' := [(4, .int 3), (0, .ref (ad 0)), (1, .long x), (3, .int 4)]) hx hb dX12_putWide_21 hl (k := 0) rfl rfl (by decide) rfl (fun ls hl => ?_)
  refine lv_goto (tgt := 3) hx hb dX12_putWide_24 (by decide) ?_
  refine lv_iload hx hb dX12_putWide_3 (lv_at hl 0 rfl) ?_
  refine lv_iload_n hx hb dX12_putWide_5 rfl (lv_at hl 3 rfl) ?_
  refine lv_icmp_ge (tgt := 27) hx hb dX12_putWide_6 (by decide) (fun cc_13 => absurd cc_13 (by decide)) (fun _ => ?_)
  refine lv_aload_n hx hb dX12_putWide_9 rfl (lv_at hl 1 rfl) ?_
  refine lv_lload_n hx hb dX12_putWide_10 rfl (lv_at hl 2 rfl) ?_
  refine lv_bipush (v := 8) hx hb dX12_putWide_11 (by decide) ?_
  refine lv_iload hx hb dX12_putWide_13 (lv_at hl 0 rfl) ?_
  refine lv_imul hx hb dX12_putWide_15 ?_
  refine hk_topi 24 (by decide +kernel) ?_
  refine lv_lshr (v := ((x : Int64) >>> ((24 : Int32).toInt64 &&& 63))) hx hb dX12_putWide_16 rfl ?_
  refine lv_l2i (v := (((x : Int64) >>> ((24 : Int32).toInt64 &&& 63)) : Int64).toInt32) hx hb dX12_putWide_17 rfl ?_
  refine hk_Vv (As := [.int ((((x : Int64) >>> ((24 : Int32).toInt64 &&& 63)) : Int64).toInt32)]) (rest := []) ⟨hx, hb, hml, hown, hts⟩ hw hA (cn_put27 l D cI cJ ad (upd g 42 27) lg (va_up ar 22 uu_11) bk _ ((((x : Int64) >>> ((24 : Int32).toInt64 &&& 63)) : Int64).toInt32) rfl) (cwV 1 hts gw_cn_wide24_4_3 rfl rfl rfl (by decide +kernel) ⟨Nat.le_of_ble_eq_true rfl, Nat.le_of_ble_eq_true rfl⟩) 0 (ci := 15) (T := TX12) (N := 92) rfl rfl rfl hl.1 rfl (Nat.le_of_ble_eq_true rfl) dX12_putWide_18 ⟨Nat.le_of_ble_eq_true rfl, Nat.le_of_ble_eq_true rfl⟩ (fun uu_15 H locs hp_16 hw => ?_)
  have hw : hk_W D [(cI, .int), (cJ, .long)] _ s _ _ (mw cI cJ ad (upd g 42 28) lg (va_up ar 22 uu_15) bk) := hw
  refine lv_iinc (v := 4) (lv' := [(4, .int 4), (0, .ref (ad 0)), (1, .long x), (3, .int 4)]) hx hb dX12_putWide_21 hl (k := 0) rfl rfl (by decide) rfl (fun ls hl => ?_)
  refine lv_goto (tgt := 3) hx hb dX12_putWide_24 (by decide) ?_
  refine lv_iload hx hb dX12_putWide_3 (lv_at hl 0 rfl) ?_
  refine lv_iload_n hx hb dX12_putWide_5 rfl (lv_at hl 3 rfl) ?_
  refine lv_icmp_ge (tgt := 27) hx hb dX12_putWide_6 (by decide) (fun _ => ?_) (fun cc_17 => absurd (by decide) cc_17)
  exact hk_vret (u := uu_15) hx hb hr hlocks (hw) (trivial) dX12_putWide_27

def ww_cn_take : List Cond := Cond.code yX12_takeProperties cX12_takeProperties 1 none :: ([Cond.fieldLink RX12 7 "LzmaChainsModel" "lc" "I", Cond.fieldLink RX12 258 "LzmaChainsModel" "nowLc" "I", Cond.fieldLink RX12 114 "LzmaChainsModel" "lp" "I", Cond.fieldLink RX12 255 "LzmaChainsModel" "nowLp" "I", Cond.fieldLink RX12 13 "LzmaChainsModel" "pb" "I", Cond.fieldLink RX12 252 "LzmaChainsModel" "nowPb" "I"] ++ (wsX120 ++ ([])))
set_option maxHeartbeats 4000000 in
set_option maxRecDepth 100000 in
/-- the reference: takeProperties -/
theorem cn_take (l : Launch) (D : va_G) (cI cJ : ClassId) (ad : Nat → Nat) (g : Nat → Int32) (lg : Nat → Int64) (ar : Nat → Nat → Int32) (bk : Nat → Int64) (sz : Nat)  : Met l yX12_takeProperties ww_cn_take { frames := 0, cells := 0, slots := 0, locals := 0 } (va_Pc [.ref (ad 0)] (hk_B D [(cI, .int), (cJ, .long)] sz (mw cI cJ ad g lg ar bk))) (va_Qv (fun u : Unit => True) (fun u : Unit => hk_E D [(cI, .int), (cJ, .long)] (va_A (mw cI cJ ad g lg ar bk) sz) (mw cI cJ ad (upd (upd (upd g 29 (g 2)) 30 (g 3)) 31 (g 4)) lg ar bk)) (va_A (mw cI cJ ad g lg ar bk) sz)) 0 0 (va_A (mw cI cJ ad g lg ar bk) sz) := by
  refine hk_met (cc := cX12_takeProperties) (maxL := 1) (ret := none) (by decide) rfl (Nat.le_of_ble_eq_true rfl) ?_
  intro p e s m below meth c ls hx hb hr hml hown hts hlocks hin hA hw hl
  have iX12 : ∀ w ∈ wsX120, w ∈ ww_cn_take := fun _ h => List.mem_cons_of_mem _ (List.mem_append_right _ (List.mem_append_left _ h))
  have hl : lv_has ls 1 [(0, .ref (ad 0))] := hl
  refine lv_aload_n hx hb dX12_takeProperties_0 rfl (lv_at hl 0 rfl) ?_
  refine lv_aload_n hx hb dX12_takeProperties_1 rfl (lv_at hl 0 rfl) ?_
  refine hk_get (ci := 15) (C := RX12) (T := TX12) (N := 92) (v := .int (g 2)) hx hb hts iX12 hown hw 0 rfl rfl 2 (by decide) (hts _ (List.mem_of_getElem? (i := 1) rfl)) rfl dX12_takeProperties_2 ?_
  refine hk_put (ci := 15) (C := RX12) (T := TX12) (N := 92) (ty := .int) (v := .int (g 2)) hx hb hts iX12 tyX12 tyX12_ok nmX12 hown hw 0 rfl rfl 49 (by decide) (hts _ (List.mem_of_getElem? (i := 2) rfl)) rfl (by decide +kernel) rfl rfl (Nat.le_of_ble_eq_true rfl) dX12_takeProperties_5 (ws' := mw cI cJ ad (upd g 29 (g 2)) lg ar bk) rfl (fun H locs hw => ?_)
  refine lv_aload_n hx hb dX12_takeProperties_8 rfl (lv_at hl 0 rfl) ?_
  refine lv_aload_n hx hb dX12_takeProperties_9 rfl (lv_at hl 0 rfl) ?_
  refine hk_get (ci := 15) (C := RX12) (T := TX12) (N := 92) (v := .int (g 3)) hx hb hts iX12 hown hw 0 rfl rfl 3 (by decide) (hts _ (List.mem_of_getElem? (i := 3) rfl)) rfl dX12_takeProperties_10 ?_
  refine hk_put (ci := 15) (C := RX12) (T := TX12) (N := 92) (ty := .int) (v := .int (g 3)) hx hb hts iX12 tyX12 tyX12_ok nmX12 hown hw 0 rfl rfl 50 (by decide) (hts _ (List.mem_of_getElem? (i := 4) rfl)) rfl (by decide +kernel) rfl rfl (Nat.le_of_ble_eq_true rfl) dX12_takeProperties_13 (ws' := mw cI cJ ad (upd (upd g 29 (g 2)) 30 (g 3)) lg ar bk) rfl (fun H locs hw => ?_)
  refine lv_aload_n hx hb dX12_takeProperties_16 rfl (lv_at hl 0 rfl) ?_
  refine lv_aload_n hx hb dX12_takeProperties_17 rfl (lv_at hl 0 rfl) ?_
  refine hk_get (ci := 15) (C := RX12) (T := TX12) (N := 92) (v := .int (g 4)) hx hb hts iX12 hown hw 0 rfl rfl 4 (by decide) (hts _ (List.mem_of_getElem? (i := 5) rfl)) rfl dX12_takeProperties_18 ?_
  refine hk_put (ci := 15) (C := RX12) (T := TX12) (N := 92) (ty := .int) (v := .int (g 4)) hx hb hts iX12 tyX12 tyX12_ok nmX12 hown hw 0 rfl rfl 51 (by decide) (hts _ (List.mem_of_getElem? (i := 6) rfl)) rfl (by decide +kernel) rfl rfl (Nat.le_of_ble_eq_true rfl) dX12_takeProperties_21 (ws' := mw cI cJ ad (upd (upd (upd g 29 (g 2)) 30 (g 3)) 31 (g 4)) lg ar bk) rfl (fun H locs hw => ?_)
  exact hk_vret (u := ()) hx hb hr hlocks (hw) (trivial) dX12_takeProperties_24

def ww_cn_beginCoder : List Cond := Cond.code yX12_beginCoder cX12_beginCoder 1 none :: ([Cond.fieldLink RX12 261 "LzmaChainsModel" "pkSize" "I", Cond.fieldLink RX12 264 "LzmaChainsModel" "low" "J", Cond.constantLong RX12 267 4294967295, Cond.fieldLink RX12 269 "LzmaChainsModel" "range" "J", Cond.fieldLink RX12 272 "LzmaChainsModel" "held" "I", Cond.fieldLink RX12 275 "LzmaChainsModel" "waits" "I"] ++ (wsX120 ++ ([])))
set_option maxHeartbeats 4000000 in
set_option maxRecDepth 100000 in
/-- the reference: beginCoder -/
theorem cn_beginCoder (l : Launch) (D : va_G) (cI cJ : ClassId) (ad : Nat → Nat) (g : Nat → Int32) (lg : Nat → Int64) (ar : Nat → Nat → Int32) (bk : Nat → Int64) (sz : Nat)  : Met l yX12_beginCoder ww_cn_beginCoder { frames := 0, cells := 0, slots := 0, locals := 0 } (va_Pc [.ref (ad 0)] (hk_B D [(cI, .int), (cJ, .long)] sz (mw cI cJ ad g lg ar bk))) (va_Qv (fun u : Unit => True) (fun u : Unit => hk_E D [(cI, .int), (cJ, .long)] (va_A (mw cI cJ ad g lg ar bk) sz) (mw cI cJ ad (upd (upd (upd g 32 0) 33 0) 34 1) (vp_updL (vp_updL lg 2 0) 3 4294967295) ar bk)) (va_A (mw cI cJ ad g lg ar bk) sz)) 0 0 (va_A (mw cI cJ ad g lg ar bk) sz) := by
  refine hk_met (cc := cX12_beginCoder) (maxL := 1) (ret := none) (by decide) rfl (Nat.le_of_ble_eq_true rfl) ?_
  intro p e s m below meth c ls hx hb hr hml hown hts hlocks hin hA hw hl
  have iX12 : ∀ w ∈ wsX120, w ∈ ww_cn_beginCoder := fun _ h => List.mem_cons_of_mem _ (List.mem_append_right _ (List.mem_append_left _ h))
  have hl : lv_has ls 1 [(0, .ref (ad 0))] := hl
  refine lv_aload_n hx hb dX12_beginCoder_0 rfl (lv_at hl 0 rfl) ?_
  refine lv_iconst (v := 0) hx hb dX12_beginCoder_1 (by decide) ?_
  refine hk_put (ci := 15) (C := RX12) (T := TX12) (N := 92) (ty := .int) (v := .int 0) hx hb hts iX12 tyX12 tyX12_ok nmX12 hown hw 0 rfl rfl 53 (by decide) (hts _ (List.mem_of_getElem? (i := 1) rfl)) rfl (by decide +kernel) rfl rfl (Nat.le_of_ble_eq_true rfl) dX12_beginCoder_2 (ws' := mw cI cJ ad (upd g 32 0) lg ar bk) rfl (fun H locs hw => ?_)
  refine lv_aload_n hx hb dX12_beginCoder_5 rfl (lv_at hl 0 rfl) ?_
  refine lv_lconst (v := 0) hx hb dX12_beginCoder_6 (by decide) ?_
  refine hk_put (ci := 15) (C := RX12) (T := TX12) (N := 92) (ty := .long) (v := .long 0) hx hb hts iX12 tyX12 tyX12_ok nmX12 hown hw 0 rfl rfl 54 (by decide) (hts _ (List.mem_of_getElem? (i := 2) rfl)) rfl (by decide +kernel) rfl rfl (Nat.le_of_ble_eq_true rfl) dX12_beginCoder_7 (ws' := mw cI cJ ad (upd g 32 0) (vp_updL lg 2 0) ar bk) rfl (fun H locs hw => ?_)
  refine lv_aload_n hx hb dX12_beginCoder_10 rfl (lv_at hl 0 rfl) ?_
  refine lv_ldc2 (v := 4294967295) hx hb hown (hts _ (List.mem_of_getElem? (i := 3) rfl)) dX12_beginCoder_11 ?_
  refine hk_put (ci := 15) (C := RX12) (T := TX12) (N := 92) (ty := .long) (v := .long 4294967295) hx hb hts iX12 tyX12 tyX12_ok nmX12 hown hw 0 rfl rfl 55 (by decide) (hts _ (List.mem_of_getElem? (i := 4) rfl)) rfl (by decide +kernel) rfl rfl (Nat.le_of_ble_eq_true rfl) dX12_beginCoder_14 (ws' := mw cI cJ ad (upd g 32 0) (vp_updL (vp_updL lg 2 0) 3 4294967295) ar bk) rfl (fun H locs hw => ?_)
  refine lv_aload_n hx hb dX12_beginCoder_17 rfl (lv_at hl 0 rfl) ?_
  refine lv_iconst (v := 0) hx hb dX12_beginCoder_18 (by decide) ?_
  refine hk_put (ci := 15) (C := RX12) (T := TX12) (N := 92) (ty := .int) (v := .int 0) hx hb hts iX12 tyX12 tyX12_ok nmX12 hown hw 0 rfl rfl 56 (by decide) (hts _ (List.mem_of_getElem? (i := 5) rfl)) rfl (by decide +kernel) rfl rfl (Nat.le_of_ble_eq_true rfl) dX12_beginCoder_19 (ws' := mw cI cJ ad (upd (upd g 32 0) 33 0) (vp_updL (vp_updL lg 2 0) 3 4294967295) ar bk) rfl (fun H locs hw => ?_)
  refine lv_aload_n hx hb dX12_beginCoder_22 rfl (lv_at hl 0 rfl) ?_
  refine lv_iconst (v := 1) hx hb dX12_beginCoder_23 (by decide) ?_
  refine hk_put (ci := 15) (C := RX12) (T := TX12) (N := 92) (ty := .int) (v := .int 1) hx hb hts iX12 tyX12 tyX12_ok nmX12 hown hw 0 rfl rfl 57 (by decide) (hts _ (List.mem_of_getElem? (i := 6) rfl)) rfl (by decide +kernel) rfl rfl (Nat.le_of_ble_eq_true rfl) dX12_beginCoder_24 (ws' := mw cI cJ ad (upd (upd (upd g 32 0) 33 0) 34 1) (vp_updL (vp_updL lg 2 0) 3 4294967295) ar bk) rfl (fun H locs hw => ?_)
  exact hk_vret (u := ()) hx hb hr hlocks (hw) (trivial) dX12_beginCoder_27

def ww_cn_shift0 : List Cond := Cond.code yX12_shift cX12_shift 3 none :: ([Cond.fieldLink RX12 264 "LzmaChainsModel" "low" "J", Cond.constantLong RX12 278 4278190080, Cond.constantLong RX12 280 4294967296, Cond.fieldLink RX12 272 "LzmaChainsModel" "held" "I", Cond.fieldLink RX12 275 "LzmaChainsModel" "waits" "I", Cond.fieldLink RX12 86 "LzmaChainsModel" "pk" "[I", Cond.fieldLink RX12 261 "LzmaChainsModel" "pkSize" "I", Cond.constantLong RX12 282 16777215] ++ (wsX120 ++ ([])))
set_option maxHeartbeats 4000000 in
set_option maxRecDepth 100000 in
/-- the reference: shift, 0 packed -/
theorem cn_shift0 (l : Launch) (D : va_G) (cI cJ : ClassId) (ad : Nat → Nat) (g : Nat → Int32) (lg : Nat → Int64) (ar : Nat → Nat → Int32) (bk : Nat → Int64) (sz : Nat)  (h32 : g 32 = 0) (h34 : g 34 = 1) (hL2 : lg 2 = 0) : Met l yX12_shift ww_cn_shift0 { frames := 0, cells := 0, slots := 0, locals := 0 } (va_Pc [.ref (ad 0)] (hk_B D [(cI, .int), (cJ, .long)] sz (mw cI cJ ad g lg ar bk))) (va_Qv (fun u : (Nat → Int32) => True) (fun u : (Nat → Int32) => hk_E D [(cI, .int), (cJ, .long)] (va_A (mw cI cJ ad g lg ar bk) sz) (mw cI cJ ad (upd (upd (upd g 32 1) 33 0) 34 1) (vp_updL lg 2 0) (va_up ar 18 u) bk)) (va_A (mw cI cJ ad g lg ar bk) sz)) 0 0 (va_A (mw cI cJ ad g lg ar bk) sz) := by
  refine hk_met (cc := cX12_shift) (maxL := 3) (ret := none) (by decide) rfl (Nat.le_of_ble_eq_true rfl) ?_
  intro p e s m below meth c ls hx hb hr hml hown hts hlocks hin hA hw hl
  have iX12 : ∀ w ∈ wsX120, w ∈ ww_cn_shift0 := fun _ h => List.mem_cons_of_mem _ (List.mem_append_right _ (List.mem_append_left _ h))
  have hl : lv_has ls 3 [(0, .ref (ad 0))] := hl
  refine lv_aload_n hx hb dX12_shift_0 rfl (lv_at hl 0 rfl) ?_
  refine hk_get (ci := 15) (C := RX12) (T := TX12) (N := 92) (v := .long 0) hx hb hts iX12 hown hw 0 rfl rfl 54 (by decide) (hts _ (List.mem_of_getElem? (i := 1) rfl)) (congrArg (fun z => some (Value.long z)) hL2) dX12_shift_1 ?_
  refine lv_ldc2 (v := 4278190080) hx hb hown (hts _ (List.mem_of_getElem? (i := 2) rfl)) dX12_shift_4 ?_
  refine hk_lcmp_lt (tgt := 22) hx hb dX12_shift_7 dX12_shift_8 (by decide) (fun _ => ?_) (fun cc_1 => absurd (by decide) cc_1)
  refine lv_aload_n hx hb dX12_shift_22 rfl (lv_at hl 0 rfl) ?_
  refine hk_get (ci := 15) (C := RX12) (T := TX12) (N := 92) (v := .long 0) hx hb hts iX12 hown hw 0 rfl rfl 54 (by decide) (hts _ (List.mem_of_getElem? (i := 1) rfl)) (congrArg (fun z => some (Value.long z)) hL2) dX12_shift_23 ?_
  refine lv_ldc2 (v := 4294967296) hx hb hown (hts _ (List.mem_of_getElem? (i := 3) rfl)) dX12_shift_26 ?_
  refine hk_lcmp_lt (tgt := 37) hx hb dX12_shift_29 dX12_shift_30 (by decide) (fun _ => ?_) (fun cc_2 => absurd (by decide) cc_2)
  refine lv_iconst (v := 0) hx hb dX12_shift_37 (by decide) ?_
  refine lv_istore_n (lv' := [(1, .int 0), (0, .ref (ad 0))]) hx hb dX12_shift_38 rfl hl (by decide) rfl (fun ls hl => ?_)
  refine lv_aload_n hx hb dX12_shift_39 rfl (lv_at hl 1 rfl) ?_
  refine hk_get (ci := 15) (C := RX12) (T := TX12) (N := 92) (v := .int (g 33)) hx hb hts iX12 hown hw 0 rfl rfl 56 (by decide) (hts _ (List.mem_of_getElem? (i := 4) rfl)) rfl dX12_shift_40 ?_
  refine lv_istore_n (lv' := [(2, .int (g 33)), (1, .int 0), (0, .ref (ad 0))]) hx hb dX12_shift_43 rfl hl (by decide) rfl (fun ls hl => ?_)
  refine lv_aload_n hx hb dX12_shift_44 rfl (lv_at hl 2 rfl) ?_
  refine hk_get (ci := 15) (C := RX12) (T := TX12) (N := 92) (v := .int 1) hx hb hts iX12 hown hw 0 rfl rfl 57 (by decide) (hts _ (List.mem_of_getElem? (i := 5) rfl)) (congrArg (fun z => some (Value.int z)) h34) dX12_shift_45 ?_
  refine lv_if_le (tgt := 94) hx hb dX12_shift_48 (by decide) (fun cc_3 => absurd cc_3 (by decide)) (fun _ => ?_)
  refine lv_aload_n hx hb dX12_shift_51 rfl (lv_at hl 2 rfl) ?_
  refine hk_get (ci := 15) (C := RX12) (T := TX12) (N := 92) (v := .ref (ad 19)) hx hb hts iX12 hown hw 0 rfl rfl 52 (by decide) (hts _ (List.mem_of_getElem? (i := 6) rfl)) rfl dX12_shift_52 ?_
  refine lv_aload_n hx hb dX12_shift_55 rfl (lv_at hl 2 rfl) ?_
  refine hk_get (ci := 15) (C := RX12) (T := TX12) (N := 92) (v := .int 0) hx hb hts iX12 hown hw 0 rfl rfl 53 (by decide) (hts _ (List.mem_of_getElem? (i := 7) rfl)) (congrArg (fun z => some (Value.int z)) h32) dX12_shift_56 ?_
  refine lv_iload_n hx hb dX12_shift_59 rfl (lv_at hl 0 rfl) ?_
  refine lv_iload_n hx hb dX12_shift_60 rfl (lv_at hl 1 rfl) ?_
  refine lv_iadd hx hb dX12_shift_61 ?_
  refine lv_sipush (v := 255) hx hb dX12_shift_62 (by decide) ?_
  refine lv_iand hx hb dX12_shift_65 ?_
  refine hk_iast hx hb hw 19 0 rfl rfl (show ¬ (_ ∨ _) by decide) dX12_shift_66 (ws' := mw cI cJ ad g lg (va_up ar 18 (upd (ar 18) 0 (((g 33) + 0) &&& 255))) bk) rfl (fun H locs hw => ?_)
  refine lv_aload_n hx hb dX12_shift_67 rfl (lv_at hl 2 rfl) ?_
  refine lv_dup hx hb dX12_shift_68 rfl ?_
  refine hk_get (ci := 15) (C := RX12) (T := TX12) (N := 92) (v := .int 0) hx hb hts iX12 hown hw 0 rfl rfl 53 (by decide) (hts _ (List.mem_of_getElem? (i := 7) rfl)) (congrArg (fun z => some (Value.int z)) h32) dX12_shift_69 ?_
  refine lv_iconst (v := 1) hx hb dX12_shift_72 (by decide) ?_
  refine lv_iadd hx hb dX12_shift_73 ?_
  refine hk_topi 1 (by decide +kernel) ?_
  refine hk_put (ci := 15) (C := RX12) (T := TX12) (N := 92) (ty := .int) (v := .int 1) hx hb hts iX12 tyX12 tyX12_ok nmX12 hown hw 0 rfl rfl 53 (by decide) (hts _ (List.mem_of_getElem? (i := 7) rfl)) rfl (by decide +kernel) rfl rfl (Nat.le_of_ble_eq_true rfl) dX12_shift_74 (ws' := mw cI cJ ad (upd g 32 1) lg (va_up ar 18 (upd (ar 18) 0 (((g 33) + 0) &&& 255))) bk) rfl (fun H locs hw => ?_)
  refine lv_sipush (v := 255) hx hb dX12_shift_77 (by decide) ?_
  refine lv_istore_n (lv' := [(2, .int 255), (1, .int 0), (0, .ref (ad 0))]) hx hb dX12_shift_80 rfl hl (by decide) rfl (fun ls hl => ?_)
  refine lv_aload_n hx hb dX12_shift_81 rfl (lv_at hl 2 rfl) ?_
  refine lv_dup hx hb dX12_shift_82 rfl ?_
  refine hk_get (ci := 15) (C := RX12) (T := TX12) (N := 92) (v := .int 1) hx hb hts iX12 hown hw 0 rfl rfl 57 (by decide) (hts _ (List.mem_of_getElem? (i := 5) rfl)) (congrArg (fun z => some (Value.int z)) h34) dX12_shift_83 ?_
  refine lv_iconst (v := 1) hx hb dX12_shift_86 (by decide) ?_
  refine lv_isub hx hb dX12_shift_87 ?_
  refine hk_topi 0 (by decide +kernel) ?_
  refine hk_put (ci := 15) (C := RX12) (T := TX12) (N := 92) (ty := .int) (v := .int 0) hx hb hts iX12 tyX12 tyX12_ok nmX12 hown hw 0 rfl rfl 57 (by decide) (hts _ (List.mem_of_getElem? (i := 5) rfl)) rfl (by decide +kernel) rfl rfl (Nat.le_of_ble_eq_true rfl) dX12_shift_88 (ws' := mw cI cJ ad (upd (upd g 32 1) 34 0) lg (va_up ar 18 (upd (ar 18) 0 (((g 33) + 0) &&& 255))) bk) rfl (fun H locs hw => ?_)
  refine lv_goto (tgt := 44) hx hb dX12_shift_91 (by decide) ?_
  refine lv_aload_n hx hb dX12_shift_44 rfl (lv_at hl 2 rfl) ?_
  refine hk_get (ci := 15) (C := RX12) (T := TX12) (N := 92) (v := .int 0) hx hb hts iX12 hown hw 0 rfl rfl 57 (by decide) (hts _ (List.mem_of_getElem? (i := 5) rfl)) rfl dX12_shift_45 ?_
  refine lv_if_le (tgt := 94) hx hb dX12_shift_48 (by decide) (fun _ => ?_) (fun cc_4 => absurd (by decide) cc_4)
  refine lv_aload_n hx hb dX12_shift_94 rfl (lv_at hl 2 rfl) ?_
  refine lv_aload_n hx hb dX12_shift_95 rfl (lv_at hl 2 rfl) ?_
  refine hk_get (ci := 15) (C := RX12) (T := TX12) (N := 92) (v := .long 0) hx hb hts iX12 hown hw 0 rfl rfl 54 (by decide) (hts _ (List.mem_of_getElem? (i := 1) rfl)) (congrArg (fun z => some (Value.long z)) hL2) dX12_shift_96 ?_
  refine lv_bipush (v := 24) hx hb dX12_shift_99 (by decide) ?_
  refine lv_lshr (v := ((0 : Int64) >>> ((24 : Int32).toInt64 &&& 63))) hx hb dX12_shift_101 rfl ?_
  refine hk_topl 0 (by decide +kernel) ?_
  refine lv_l2i (v := (0 : Int64).toInt32) hx hb dX12_shift_102 rfl ?_
  refine hk_topi 0 (by decide +kernel) ?_
  refine lv_sipush (v := 255) hx hb dX12_shift_103 (by decide) ?_
  refine lv_iand hx hb dX12_shift_106 ?_
  refine hk_topi 0 (by decide +kernel) ?_
  refine hk_put (ci := 15) (C := RX12) (T := TX12) (N := 92) (ty := .int) (v := .int 0) hx hb hts iX12 tyX12 tyX12_ok nmX12 hown hw 0 rfl rfl 56 (by decide) (hts _ (List.mem_of_getElem? (i := 4) rfl)) rfl (by decide +kernel) rfl rfl (Nat.le_of_ble_eq_true rfl) dX12_shift_107 (ws' := mw cI cJ ad (upd (upd (upd g 32 1) 34 0) 33 0) lg (va_up ar 18 (upd (ar 18) 0 (((g 33) + 0) &&& 255))) bk) rfl (fun H locs hw => ?_)
  refine lv_aload_n hx hb dX12_shift_110 rfl (lv_at hl 2 rfl) ?_
  refine lv_dup hx hb dX12_shift_111 rfl ?_
  refine hk_get (ci := 15) (C := RX12) (T := TX12) (N := 92) (v := .int 0) hx hb hts iX12 hown hw 0 rfl rfl 57 (by decide) (hts _ (List.mem_of_getElem? (i := 5) rfl)) rfl dX12_shift_112 ?_
  refine lv_iconst (v := 1) hx hb dX12_shift_115 (by decide) ?_
  refine lv_iadd hx hb dX12_shift_116 ?_
  refine hk_topi 1 (by decide +kernel) ?_
  refine hk_put (ci := 15) (C := RX12) (T := TX12) (N := 92) (ty := .int) (v := .int 1) hx hb hts iX12 tyX12 tyX12_ok nmX12 hown hw 0 rfl rfl 57 (by decide) (hts _ (List.mem_of_getElem? (i := 5) rfl)) rfl (by decide +kernel) rfl rfl (Nat.le_of_ble_eq_true rfl) dX12_shift_117 (ws' := mw cI cJ ad (upd (upd (upd g 32 1) 34 1) 33 0) lg (va_up ar 18 (upd (ar 18) 0 (((g 33) + 0) &&& 255))) bk) rfl (fun H locs hw => ?_)
  refine lv_aload_n hx hb dX12_shift_120 rfl (lv_at hl 2 rfl) ?_
  refine lv_aload_n hx hb dX12_shift_121 rfl (lv_at hl 2 rfl) ?_
  refine hk_get (ci := 15) (C := RX12) (T := TX12) (N := 92) (v := .long 0) hx hb hts iX12 hown hw 0 rfl rfl 54 (by decide) (hts _ (List.mem_of_getElem? (i := 1) rfl)) (congrArg (fun z => some (Value.long z)) hL2) dX12_shift_122 ?_
  refine lv_ldc2 (v := 16777215) hx hb hown (hts _ (List.mem_of_getElem? (i := 8) rfl)) dX12_shift_125 ?_
  refine lv_land hx hb dX12_shift_128 ?_
  refine hk_topl 0 (by decide +kernel) ?_
  refine lv_bipush (v := 8) hx hb dX12_shift_129 (by decide) ?_
  refine lv_lshl (v := ((0 : Int64) <<< ((8 : Int32).toInt64 &&& 63))) hx hb dX12_shift_131 rfl ?_
  refine hk_topl 0 (by decide +kernel) ?_
  refine hk_put (ci := 15) (C := RX12) (T := TX12) (N := 92) (ty := .long) (v := .long 0) hx hb hts iX12 tyX12 tyX12_ok nmX12 hown hw 0 rfl rfl 54 (by decide) (hts _ (List.mem_of_getElem? (i := 1) rfl)) rfl (by decide +kernel) rfl rfl (Nat.le_of_ble_eq_true rfl) dX12_shift_132 (ws' := mw cI cJ ad (upd (upd (upd g 32 1) 34 1) 33 0) (vp_updL lg 2 0) (va_up ar 18 (upd (ar 18) 0 (((g 33) + 0) &&& 255))) bk) rfl (fun H locs hw => ?_)
  exact hk_vret (u := (upd (ar 18) 0 (((g 33) + 0) &&& 255))) hx hb hr hlocks (show hk_W D [(cI, .int), (cJ, .long)] _ s _ _ (mw cI cJ ad (upd (upd (upd g 32 1) 33 0) 34 1) (vp_updL lg 2 0) (va_up ar 18 (upd (ar 18) 0 (((g 33) + 0) &&& 255))) bk) from hw) (trivial) dX12_shift_135

def ww_cn_shift1 : List Cond := Cond.code yX12_shift cX12_shift 3 none :: ([Cond.fieldLink RX12 264 "LzmaChainsModel" "low" "J", Cond.constantLong RX12 278 4278190080, Cond.constantLong RX12 280 4294967296, Cond.fieldLink RX12 272 "LzmaChainsModel" "held" "I", Cond.fieldLink RX12 275 "LzmaChainsModel" "waits" "I", Cond.fieldLink RX12 86 "LzmaChainsModel" "pk" "[I", Cond.fieldLink RX12 261 "LzmaChainsModel" "pkSize" "I", Cond.constantLong RX12 282 16777215] ++ (wsX120 ++ ([])))
set_option maxHeartbeats 4000000 in
set_option maxRecDepth 100000 in
/-- the reference: shift, 1 packed -/
theorem cn_shift1 (l : Launch) (D : va_G) (cI cJ : ClassId) (ad : Nat → Nat) (g : Nat → Int32) (lg : Nat → Int64) (ar : Nat → Nat → Int32) (bk : Nat → Int64) (sz : Nat)  (h32 : g 32 = 1) (h34 : g 34 = 1) (hL2 : lg 2 = 0) : Met l yX12_shift ww_cn_shift1 { frames := 0, cells := 0, slots := 0, locals := 0 } (va_Pc [.ref (ad 0)] (hk_B D [(cI, .int), (cJ, .long)] sz (mw cI cJ ad g lg ar bk))) (va_Qv (fun u : (Nat → Int32) => True) (fun u : (Nat → Int32) => hk_E D [(cI, .int), (cJ, .long)] (va_A (mw cI cJ ad g lg ar bk) sz) (mw cI cJ ad (upd (upd (upd g 32 2) 33 0) 34 1) (vp_updL lg 2 0) (va_up ar 18 u) bk)) (va_A (mw cI cJ ad g lg ar bk) sz)) 0 0 (va_A (mw cI cJ ad g lg ar bk) sz) := by
  refine hk_met (cc := cX12_shift) (maxL := 3) (ret := none) (by decide) rfl (Nat.le_of_ble_eq_true rfl) ?_
  intro p e s m below meth c ls hx hb hr hml hown hts hlocks hin hA hw hl
  have iX12 : ∀ w ∈ wsX120, w ∈ ww_cn_shift1 := fun _ h => List.mem_cons_of_mem _ (List.mem_append_right _ (List.mem_append_left _ h))
  have hl : lv_has ls 3 [(0, .ref (ad 0))] := hl
  refine lv_aload_n hx hb dX12_shift_0 rfl (lv_at hl 0 rfl) ?_
  refine hk_get (ci := 15) (C := RX12) (T := TX12) (N := 92) (v := .long 0) hx hb hts iX12 hown hw 0 rfl rfl 54 (by decide) (hts _ (List.mem_of_getElem? (i := 1) rfl)) (congrArg (fun z => some (Value.long z)) hL2) dX12_shift_1 ?_
  refine lv_ldc2 (v := 4278190080) hx hb hown (hts _ (List.mem_of_getElem? (i := 2) rfl)) dX12_shift_4 ?_
  refine hk_lcmp_lt (tgt := 22) hx hb dX12_shift_7 dX12_shift_8 (by decide) (fun _ => ?_) (fun cc_1 => absurd (by decide) cc_1)
  refine lv_aload_n hx hb dX12_shift_22 rfl (lv_at hl 0 rfl) ?_
  refine hk_get (ci := 15) (C := RX12) (T := TX12) (N := 92) (v := .long 0) hx hb hts iX12 hown hw 0 rfl rfl 54 (by decide) (hts _ (List.mem_of_getElem? (i := 1) rfl)) (congrArg (fun z => some (Value.long z)) hL2) dX12_shift_23 ?_
  refine lv_ldc2 (v := 4294967296) hx hb hown (hts _ (List.mem_of_getElem? (i := 3) rfl)) dX12_shift_26 ?_
  refine hk_lcmp_lt (tgt := 37) hx hb dX12_shift_29 dX12_shift_30 (by decide) (fun _ => ?_) (fun cc_2 => absurd (by decide) cc_2)
  refine lv_iconst (v := 0) hx hb dX12_shift_37 (by decide) ?_
  refine lv_istore_n (lv' := [(1, .int 0), (0, .ref (ad 0))]) hx hb dX12_shift_38 rfl hl (by decide) rfl (fun ls hl => ?_)
  refine lv_aload_n hx hb dX12_shift_39 rfl (lv_at hl 1 rfl) ?_
  refine hk_get (ci := 15) (C := RX12) (T := TX12) (N := 92) (v := .int (g 33)) hx hb hts iX12 hown hw 0 rfl rfl 56 (by decide) (hts _ (List.mem_of_getElem? (i := 4) rfl)) rfl dX12_shift_40 ?_
  refine lv_istore_n (lv' := [(2, .int (g 33)), (1, .int 0), (0, .ref (ad 0))]) hx hb dX12_shift_43 rfl hl (by decide) rfl (fun ls hl => ?_)
  refine lv_aload_n hx hb dX12_shift_44 rfl (lv_at hl 2 rfl) ?_
  refine hk_get (ci := 15) (C := RX12) (T := TX12) (N := 92) (v := .int 1) hx hb hts iX12 hown hw 0 rfl rfl 57 (by decide) (hts _ (List.mem_of_getElem? (i := 5) rfl)) (congrArg (fun z => some (Value.int z)) h34) dX12_shift_45 ?_
  refine lv_if_le (tgt := 94) hx hb dX12_shift_48 (by decide) (fun cc_3 => absurd cc_3 (by decide)) (fun _ => ?_)
  refine lv_aload_n hx hb dX12_shift_51 rfl (lv_at hl 2 rfl) ?_
  refine hk_get (ci := 15) (C := RX12) (T := TX12) (N := 92) (v := .ref (ad 19)) hx hb hts iX12 hown hw 0 rfl rfl 52 (by decide) (hts _ (List.mem_of_getElem? (i := 6) rfl)) rfl dX12_shift_52 ?_
  refine lv_aload_n hx hb dX12_shift_55 rfl (lv_at hl 2 rfl) ?_
  refine hk_get (ci := 15) (C := RX12) (T := TX12) (N := 92) (v := .int 1) hx hb hts iX12 hown hw 0 rfl rfl 53 (by decide) (hts _ (List.mem_of_getElem? (i := 7) rfl)) (congrArg (fun z => some (Value.int z)) h32) dX12_shift_56 ?_
  refine lv_iload_n hx hb dX12_shift_59 rfl (lv_at hl 0 rfl) ?_
  refine lv_iload_n hx hb dX12_shift_60 rfl (lv_at hl 1 rfl) ?_
  refine lv_iadd hx hb dX12_shift_61 ?_
  refine lv_sipush (v := 255) hx hb dX12_shift_62 (by decide) ?_
  refine lv_iand hx hb dX12_shift_65 ?_
  refine hk_iast hx hb hw 19 0 rfl rfl (show ¬ (_ ∨ _) by decide) dX12_shift_66 (ws' := mw cI cJ ad g lg (va_up ar 18 (upd (ar 18) 1 (((g 33) + 0) &&& 255))) bk) rfl (fun H locs hw => ?_)
  refine lv_aload_n hx hb dX12_shift_67 rfl (lv_at hl 2 rfl) ?_
  refine lv_dup hx hb dX12_shift_68 rfl ?_
  refine hk_get (ci := 15) (C := RX12) (T := TX12) (N := 92) (v := .int 1) hx hb hts iX12 hown hw 0 rfl rfl 53 (by decide) (hts _ (List.mem_of_getElem? (i := 7) rfl)) (congrArg (fun z => some (Value.int z)) h32) dX12_shift_69 ?_
  refine lv_iconst (v := 1) hx hb dX12_shift_72 (by decide) ?_
  refine lv_iadd hx hb dX12_shift_73 ?_
  refine hk_topi 2 (by decide +kernel) ?_
  refine hk_put (ci := 15) (C := RX12) (T := TX12) (N := 92) (ty := .int) (v := .int 2) hx hb hts iX12 tyX12 tyX12_ok nmX12 hown hw 0 rfl rfl 53 (by decide) (hts _ (List.mem_of_getElem? (i := 7) rfl)) rfl (by decide +kernel) rfl rfl (Nat.le_of_ble_eq_true rfl) dX12_shift_74 (ws' := mw cI cJ ad (upd g 32 2) lg (va_up ar 18 (upd (ar 18) 1 (((g 33) + 0) &&& 255))) bk) rfl (fun H locs hw => ?_)
  refine lv_sipush (v := 255) hx hb dX12_shift_77 (by decide) ?_
  refine lv_istore_n (lv' := [(2, .int 255), (1, .int 0), (0, .ref (ad 0))]) hx hb dX12_shift_80 rfl hl (by decide) rfl (fun ls hl => ?_)
  refine lv_aload_n hx hb dX12_shift_81 rfl (lv_at hl 2 rfl) ?_
  refine lv_dup hx hb dX12_shift_82 rfl ?_
  refine hk_get (ci := 15) (C := RX12) (T := TX12) (N := 92) (v := .int 1) hx hb hts iX12 hown hw 0 rfl rfl 57 (by decide) (hts _ (List.mem_of_getElem? (i := 5) rfl)) (congrArg (fun z => some (Value.int z)) h34) dX12_shift_83 ?_
  refine lv_iconst (v := 1) hx hb dX12_shift_86 (by decide) ?_
  refine lv_isub hx hb dX12_shift_87 ?_
  refine hk_topi 0 (by decide +kernel) ?_
  refine hk_put (ci := 15) (C := RX12) (T := TX12) (N := 92) (ty := .int) (v := .int 0) hx hb hts iX12 tyX12 tyX12_ok nmX12 hown hw 0 rfl rfl 57 (by decide) (hts _ (List.mem_of_getElem? (i := 5) rfl)) rfl (by decide +kernel) rfl rfl (Nat.le_of_ble_eq_true rfl) dX12_shift_88 (ws' := mw cI cJ ad (upd (upd g 32 2) 34 0) lg (va_up ar 18 (upd (ar 18) 1 (((g 33) + 0) &&& 255))) bk) rfl (fun H locs hw => ?_)
  refine lv_goto (tgt := 44) hx hb dX12_shift_91 (by decide) ?_
  refine lv_aload_n hx hb dX12_shift_44 rfl (lv_at hl 2 rfl) ?_
  refine hk_get (ci := 15) (C := RX12) (T := TX12) (N := 92) (v := .int 0) hx hb hts iX12 hown hw 0 rfl rfl 57 (by decide) (hts _ (List.mem_of_getElem? (i := 5) rfl)) rfl dX12_shift_45 ?_
  refine lv_if_le (tgt := 94) hx hb dX12_shift_48 (by decide) (fun _ => ?_) (fun cc_4 => absurd (by decide) cc_4)
  refine lv_aload_n hx hb dX12_shift_94 rfl (lv_at hl 2 rfl) ?_
  refine lv_aload_n hx hb dX12_shift_95 rfl (lv_at hl 2 rfl) ?_
  refine hk_get (ci := 15) (C := RX12) (T := TX12) (N := 92) (v := .long 0) hx hb hts iX12 hown hw 0 rfl rfl 54 (by decide) (hts _ (List.mem_of_getElem? (i := 1) rfl)) (congrArg (fun z => some (Value.long z)) hL2) dX12_shift_96 ?_
  refine lv_bipush (v := 24) hx hb dX12_shift_99 (by decide) ?_
  refine lv_lshr (v := ((0 : Int64) >>> ((24 : Int32).toInt64 &&& 63))) hx hb dX12_shift_101 rfl ?_
  refine hk_topl 0 (by decide +kernel) ?_
  refine lv_l2i (v := (0 : Int64).toInt32) hx hb dX12_shift_102 rfl ?_
  refine hk_topi 0 (by decide +kernel) ?_
  refine lv_sipush (v := 255) hx hb dX12_shift_103 (by decide) ?_
  refine lv_iand hx hb dX12_shift_106 ?_
  refine hk_topi 0 (by decide +kernel) ?_
  refine hk_put (ci := 15) (C := RX12) (T := TX12) (N := 92) (ty := .int) (v := .int 0) hx hb hts iX12 tyX12 tyX12_ok nmX12 hown hw 0 rfl rfl 56 (by decide) (hts _ (List.mem_of_getElem? (i := 4) rfl)) rfl (by decide +kernel) rfl rfl (Nat.le_of_ble_eq_true rfl) dX12_shift_107 (ws' := mw cI cJ ad (upd (upd (upd g 32 2) 34 0) 33 0) lg (va_up ar 18 (upd (ar 18) 1 (((g 33) + 0) &&& 255))) bk) rfl (fun H locs hw => ?_)
  refine lv_aload_n hx hb dX12_shift_110 rfl (lv_at hl 2 rfl) ?_
  refine lv_dup hx hb dX12_shift_111 rfl ?_
  refine hk_get (ci := 15) (C := RX12) (T := TX12) (N := 92) (v := .int 0) hx hb hts iX12 hown hw 0 rfl rfl 57 (by decide) (hts _ (List.mem_of_getElem? (i := 5) rfl)) rfl dX12_shift_112 ?_
  refine lv_iconst (v := 1) hx hb dX12_shift_115 (by decide) ?_
  refine lv_iadd hx hb dX12_shift_116 ?_
  refine hk_topi 1 (by decide +kernel) ?_
  refine hk_put (ci := 15) (C := RX12) (T := TX12) (N := 92) (ty := .int) (v := .int 1) hx hb hts iX12 tyX12 tyX12_ok nmX12 hown hw 0 rfl rfl 57 (by decide) (hts _ (List.mem_of_getElem? (i := 5) rfl)) rfl (by decide +kernel) rfl rfl (Nat.le_of_ble_eq_true rfl) dX12_shift_117 (ws' := mw cI cJ ad (upd (upd (upd g 32 2) 34 1) 33 0) lg (va_up ar 18 (upd (ar 18) 1 (((g 33) + 0) &&& 255))) bk) rfl (fun H locs hw => ?_)
  refine lv_aload_n hx hb dX12_shift_120 rfl (lv_at hl 2 rfl) ?_
  refine lv_aload_n hx hb dX12_shift_121 rfl (lv_at hl 2 rfl) ?_
  refine hk_get (ci := 15) (C := RX12) (T := TX12) (N := 92) (v := .long 0) hx hb hts iX12 hown hw 0 rfl rfl 54 (by decide) (hts _ (List.mem_of_getElem? (i := 1) rfl)) (congrArg (fun z => some (Value.long z)) hL2) dX12_shift_122 ?_
  refine lv_ldc2 (v := 16777215) hx hb hown (hts _ (List.mem_of_getElem? (i := 8) rfl)) dX12_shift_125 ?_
  refine lv_land hx hb dX12_shift_128 ?_
  refine hk_topl 0 (by decide +kernel) ?_
  refine lv_bipush (v := 8) hx hb dX12_shift_129 (by decide) ?_
  refine lv_lshl (v := ((0 : Int64) <<< ((8 : Int32).toInt64 &&& 63))) hx hb dX12_shift_131 rfl ?_
  refine hk_topl 0 (by decide +kernel) ?_
  refine hk_put (ci := 15) (C := RX12) (T := TX12) (N := 92) (ty := .long) (v := .long 0) hx hb hts iX12 tyX12 tyX12_ok nmX12 hown hw 0 rfl rfl 54 (by decide) (hts _ (List.mem_of_getElem? (i := 1) rfl)) rfl (by decide +kernel) rfl rfl (Nat.le_of_ble_eq_true rfl) dX12_shift_132 (ws' := mw cI cJ ad (upd (upd (upd g 32 2) 34 1) 33 0) (vp_updL lg 2 0) (va_up ar 18 (upd (ar 18) 1 (((g 33) + 0) &&& 255))) bk) rfl (fun H locs hw => ?_)
  exact hk_vret (u := (upd (ar 18) 1 (((g 33) + 0) &&& 255))) hx hb hr hlocks (show hk_W D [(cI, .int), (cJ, .long)] _ s _ _ (mw cI cJ ad (upd (upd (upd g 32 2) 33 0) 34 1) (vp_updL lg 2 0) (va_up ar 18 (upd (ar 18) 1 (((g 33) + 0) &&& 255))) bk) from hw) (trivial) dX12_shift_135

def ww_cn_shift2 : List Cond := Cond.code yX12_shift cX12_shift 3 none :: ([Cond.fieldLink RX12 264 "LzmaChainsModel" "low" "J", Cond.constantLong RX12 278 4278190080, Cond.constantLong RX12 280 4294967296, Cond.fieldLink RX12 272 "LzmaChainsModel" "held" "I", Cond.fieldLink RX12 275 "LzmaChainsModel" "waits" "I", Cond.fieldLink RX12 86 "LzmaChainsModel" "pk" "[I", Cond.fieldLink RX12 261 "LzmaChainsModel" "pkSize" "I", Cond.constantLong RX12 282 16777215] ++ (wsX120 ++ ([])))
set_option maxHeartbeats 4000000 in
set_option maxRecDepth 100000 in
/-- the reference: shift, 2 packed -/
theorem cn_shift2 (l : Launch) (D : va_G) (cI cJ : ClassId) (ad : Nat → Nat) (g : Nat → Int32) (lg : Nat → Int64) (ar : Nat → Nat → Int32) (bk : Nat → Int64) (sz : Nat)  (h32 : g 32 = 2) (h34 : g 34 = 1) (hL2 : lg 2 = 0) : Met l yX12_shift ww_cn_shift2 { frames := 0, cells := 0, slots := 0, locals := 0 } (va_Pc [.ref (ad 0)] (hk_B D [(cI, .int), (cJ, .long)] sz (mw cI cJ ad g lg ar bk))) (va_Qv (fun u : (Nat → Int32) => True) (fun u : (Nat → Int32) => hk_E D [(cI, .int), (cJ, .long)] (va_A (mw cI cJ ad g lg ar bk) sz) (mw cI cJ ad (upd (upd (upd g 32 3) 33 0) 34 1) (vp_updL lg 2 0) (va_up ar 18 u) bk)) (va_A (mw cI cJ ad g lg ar bk) sz)) 0 0 (va_A (mw cI cJ ad g lg ar bk) sz) := by
  refine hk_met (cc := cX12_shift) (maxL := 3) (ret := none) (by decide) rfl (Nat.le_of_ble_eq_true rfl) ?_
  intro p e s m below meth c ls hx hb hr hml hown hts hlocks hin hA hw hl
  have iX12 : ∀ w ∈ wsX120, w ∈ ww_cn_shift2 := fun _ h => List.mem_cons_of_mem _ (List.mem_append_right _ (List.mem_append_left _ h))
  have hl : lv_has ls 3 [(0, .ref (ad 0))] := hl
  refine lv_aload_n hx hb dX12_shift_0 rfl (lv_at hl 0 rfl) ?_
  refine hk_get (ci := 15) (C := RX12) (T := TX12) (N := 92) (v := .long 0) hx hb hts iX12 hown hw 0 rfl rfl 54 (by decide) (hts _ (List.mem_of_getElem? (i := 1) rfl)) (congrArg (fun z => some (Value.long z)) hL2) dX12_shift_1 ?_
  refine lv_ldc2 (v := 4278190080) hx hb hown (hts _ (List.mem_of_getElem? (i := 2) rfl)) dX12_shift_4 ?_
  refine hk_lcmp_lt (tgt := 22) hx hb dX12_shift_7 dX12_shift_8 (by decide) (fun _ => ?_) (fun cc_1 => absurd (by decide) cc_1)
  refine lv_aload_n hx hb dX12_shift_22 rfl (lv_at hl 0 rfl) ?_
  refine hk_get (ci := 15) (C := RX12) (T := TX12) (N := 92) (v := .long 0) hx hb hts iX12 hown hw 0 rfl rfl 54 (by decide) (hts _ (List.mem_of_getElem? (i := 1) rfl)) (congrArg (fun z => some (Value.long z)) hL2) dX12_shift_23 ?_
  refine lv_ldc2 (v := 4294967296) hx hb hown (hts _ (List.mem_of_getElem? (i := 3) rfl)) dX12_shift_26 ?_
  refine hk_lcmp_lt (tgt := 37) hx hb dX12_shift_29 dX12_shift_30 (by decide) (fun _ => ?_) (fun cc_2 => absurd (by decide) cc_2)
  refine lv_iconst (v := 0) hx hb dX12_shift_37 (by decide) ?_
  refine lv_istore_n (lv' := [(1, .int 0), (0, .ref (ad 0))]) hx hb dX12_shift_38 rfl hl (by decide) rfl (fun ls hl => ?_)
  refine lv_aload_n hx hb dX12_shift_39 rfl (lv_at hl 1 rfl) ?_
  refine hk_get (ci := 15) (C := RX12) (T := TX12) (N := 92) (v := .int (g 33)) hx hb hts iX12 hown hw 0 rfl rfl 56 (by decide) (hts _ (List.mem_of_getElem? (i := 4) rfl)) rfl dX12_shift_40 ?_
  refine lv_istore_n (lv' := [(2, .int (g 33)), (1, .int 0), (0, .ref (ad 0))]) hx hb dX12_shift_43 rfl hl (by decide) rfl (fun ls hl => ?_)
  refine lv_aload_n hx hb dX12_shift_44 rfl (lv_at hl 2 rfl) ?_
  refine hk_get (ci := 15) (C := RX12) (T := TX12) (N := 92) (v := .int 1) hx hb hts iX12 hown hw 0 rfl rfl 57 (by decide) (hts _ (List.mem_of_getElem? (i := 5) rfl)) (congrArg (fun z => some (Value.int z)) h34) dX12_shift_45 ?_
  refine lv_if_le (tgt := 94) hx hb dX12_shift_48 (by decide) (fun cc_3 => absurd cc_3 (by decide)) (fun _ => ?_)
  refine lv_aload_n hx hb dX12_shift_51 rfl (lv_at hl 2 rfl) ?_
  refine hk_get (ci := 15) (C := RX12) (T := TX12) (N := 92) (v := .ref (ad 19)) hx hb hts iX12 hown hw 0 rfl rfl 52 (by decide) (hts _ (List.mem_of_getElem? (i := 6) rfl)) rfl dX12_shift_52 ?_
  refine lv_aload_n hx hb dX12_shift_55 rfl (lv_at hl 2 rfl) ?_
  refine hk_get (ci := 15) (C := RX12) (T := TX12) (N := 92) (v := .int 2) hx hb hts iX12 hown hw 0 rfl rfl 53 (by decide) (hts _ (List.mem_of_getElem? (i := 7) rfl)) (congrArg (fun z => some (Value.int z)) h32) dX12_shift_56 ?_
  refine lv_iload_n hx hb dX12_shift_59 rfl (lv_at hl 0 rfl) ?_
  refine lv_iload_n hx hb dX12_shift_60 rfl (lv_at hl 1 rfl) ?_
  refine lv_iadd hx hb dX12_shift_61 ?_
  refine lv_sipush (v := 255) hx hb dX12_shift_62 (by decide) ?_
  refine lv_iand hx hb dX12_shift_65 ?_
  refine hk_iast hx hb hw 19 0 rfl rfl (show ¬ (_ ∨ _) by decide) dX12_shift_66 (ws' := mw cI cJ ad g lg (va_up ar 18 (upd (ar 18) 2 (((g 33) + 0) &&& 255))) bk) rfl (fun H locs hw => ?_)
  refine lv_aload_n hx hb dX12_shift_67 rfl (lv_at hl 2 rfl) ?_
  refine lv_dup hx hb dX12_shift_68 rfl ?_
  refine hk_get (ci := 15) (C := RX12) (T := TX12) (N := 92) (v := .int 2) hx hb hts iX12 hown hw 0 rfl rfl 53 (by decide) (hts _ (List.mem_of_getElem? (i := 7) rfl)) (congrArg (fun z => some (Value.int z)) h32) dX12_shift_69 ?_
  refine lv_iconst (v := 1) hx hb dX12_shift_72 (by decide) ?_
  refine lv_iadd hx hb dX12_shift_73 ?_
  refine hk_topi 3 (by decide +kernel) ?_
  refine hk_put (ci := 15) (C := RX12) (T := TX12) (N := 92) (ty := .int) (v := .int 3) hx hb hts iX12 tyX12 tyX12_ok nmX12 hown hw 0 rfl rfl 53 (by decide) (hts _ (List.mem_of_getElem? (i := 7) rfl)) rfl (by decide +kernel) rfl rfl (Nat.le_of_ble_eq_true rfl) dX12_shift_74 (ws' := mw cI cJ ad (upd g 32 3) lg (va_up ar 18 (upd (ar 18) 2 (((g 33) + 0) &&& 255))) bk) rfl (fun H locs hw => ?_)
  refine lv_sipush (v := 255) hx hb dX12_shift_77 (by decide) ?_
  refine lv_istore_n (lv' := [(2, .int 255), (1, .int 0), (0, .ref (ad 0))]) hx hb dX12_shift_80 rfl hl (by decide) rfl (fun ls hl => ?_)
  refine lv_aload_n hx hb dX12_shift_81 rfl (lv_at hl 2 rfl) ?_
  refine lv_dup hx hb dX12_shift_82 rfl ?_
  refine hk_get (ci := 15) (C := RX12) (T := TX12) (N := 92) (v := .int 1) hx hb hts iX12 hown hw 0 rfl rfl 57 (by decide) (hts _ (List.mem_of_getElem? (i := 5) rfl)) (congrArg (fun z => some (Value.int z)) h34) dX12_shift_83 ?_
  refine lv_iconst (v := 1) hx hb dX12_shift_86 (by decide) ?_
  refine lv_isub hx hb dX12_shift_87 ?_
  refine hk_topi 0 (by decide +kernel) ?_
  refine hk_put (ci := 15) (C := RX12) (T := TX12) (N := 92) (ty := .int) (v := .int 0) hx hb hts iX12 tyX12 tyX12_ok nmX12 hown hw 0 rfl rfl 57 (by decide) (hts _ (List.mem_of_getElem? (i := 5) rfl)) rfl (by decide +kernel) rfl rfl (Nat.le_of_ble_eq_true rfl) dX12_shift_88 (ws' := mw cI cJ ad (upd (upd g 32 3) 34 0) lg (va_up ar 18 (upd (ar 18) 2 (((g 33) + 0) &&& 255))) bk) rfl (fun H locs hw => ?_)
  refine lv_goto (tgt := 44) hx hb dX12_shift_91 (by decide) ?_
  refine lv_aload_n hx hb dX12_shift_44 rfl (lv_at hl 2 rfl) ?_
  refine hk_get (ci := 15) (C := RX12) (T := TX12) (N := 92) (v := .int 0) hx hb hts iX12 hown hw 0 rfl rfl 57 (by decide) (hts _ (List.mem_of_getElem? (i := 5) rfl)) rfl dX12_shift_45 ?_
  refine lv_if_le (tgt := 94) hx hb dX12_shift_48 (by decide) (fun _ => ?_) (fun cc_4 => absurd (by decide) cc_4)
  refine lv_aload_n hx hb dX12_shift_94 rfl (lv_at hl 2 rfl) ?_
  refine lv_aload_n hx hb dX12_shift_95 rfl (lv_at hl 2 rfl) ?_
  refine hk_get (ci := 15) (C := RX12) (T := TX12) (N := 92) (v := .long 0) hx hb hts iX12 hown hw 0 rfl rfl 54 (by decide) (hts _ (List.mem_of_getElem? (i := 1) rfl)) (congrArg (fun z => some (Value.long z)) hL2) dX12_shift_96 ?_
  refine lv_bipush (v := 24) hx hb dX12_shift_99 (by decide) ?_
  refine lv_lshr (v := ((0 : Int64) >>> ((24 : Int32).toInt64 &&& 63))) hx hb dX12_shift_101 rfl ?_
  refine hk_topl 0 (by decide +kernel) ?_
  refine lv_l2i (v := (0 : Int64).toInt32) hx hb dX12_shift_102 rfl ?_
  refine hk_topi 0 (by decide +kernel) ?_
  refine lv_sipush (v := 255) hx hb dX12_shift_103 (by decide) ?_
  refine lv_iand hx hb dX12_shift_106 ?_
  refine hk_topi 0 (by decide +kernel) ?_
  refine hk_put (ci := 15) (C := RX12) (T := TX12) (N := 92) (ty := .int) (v := .int 0) hx hb hts iX12 tyX12 tyX12_ok nmX12 hown hw 0 rfl rfl 56 (by decide) (hts _ (List.mem_of_getElem? (i := 4) rfl)) rfl (by decide +kernel) rfl rfl (Nat.le_of_ble_eq_true rfl) dX12_shift_107 (ws' := mw cI cJ ad (upd (upd (upd g 32 3) 34 0) 33 0) lg (va_up ar 18 (upd (ar 18) 2 (((g 33) + 0) &&& 255))) bk) rfl (fun H locs hw => ?_)
  refine lv_aload_n hx hb dX12_shift_110 rfl (lv_at hl 2 rfl) ?_
  refine lv_dup hx hb dX12_shift_111 rfl ?_
  refine hk_get (ci := 15) (C := RX12) (T := TX12) (N := 92) (v := .int 0) hx hb hts iX12 hown hw 0 rfl rfl 57 (by decide) (hts _ (List.mem_of_getElem? (i := 5) rfl)) rfl dX12_shift_112 ?_
  refine lv_iconst (v := 1) hx hb dX12_shift_115 (by decide) ?_
  refine lv_iadd hx hb dX12_shift_116 ?_
  refine hk_topi 1 (by decide +kernel) ?_
  refine hk_put (ci := 15) (C := RX12) (T := TX12) (N := 92) (ty := .int) (v := .int 1) hx hb hts iX12 tyX12 tyX12_ok nmX12 hown hw 0 rfl rfl 57 (by decide) (hts _ (List.mem_of_getElem? (i := 5) rfl)) rfl (by decide +kernel) rfl rfl (Nat.le_of_ble_eq_true rfl) dX12_shift_117 (ws' := mw cI cJ ad (upd (upd (upd g 32 3) 34 1) 33 0) lg (va_up ar 18 (upd (ar 18) 2 (((g 33) + 0) &&& 255))) bk) rfl (fun H locs hw => ?_)
  refine lv_aload_n hx hb dX12_shift_120 rfl (lv_at hl 2 rfl) ?_
  refine lv_aload_n hx hb dX12_shift_121 rfl (lv_at hl 2 rfl) ?_
  refine hk_get (ci := 15) (C := RX12) (T := TX12) (N := 92) (v := .long 0) hx hb hts iX12 hown hw 0 rfl rfl 54 (by decide) (hts _ (List.mem_of_getElem? (i := 1) rfl)) (congrArg (fun z => some (Value.long z)) hL2) dX12_shift_122 ?_
  refine lv_ldc2 (v := 16777215) hx hb hown (hts _ (List.mem_of_getElem? (i := 8) rfl)) dX12_shift_125 ?_
  refine lv_land hx hb dX12_shift_128 ?_
  refine hk_topl 0 (by decide +kernel) ?_
  refine lv_bipush (v := 8) hx hb dX12_shift_129 (by decide) ?_
  refine lv_lshl (v := ((0 : Int64) <<< ((8 : Int32).toInt64 &&& 63))) hx hb dX12_shift_131 rfl ?_
  refine hk_topl 0 (by decide +kernel) ?_
  refine hk_put (ci := 15) (C := RX12) (T := TX12) (N := 92) (ty := .long) (v := .long 0) hx hb hts iX12 tyX12 tyX12_ok nmX12 hown hw 0 rfl rfl 54 (by decide) (hts _ (List.mem_of_getElem? (i := 1) rfl)) rfl (by decide +kernel) rfl rfl (Nat.le_of_ble_eq_true rfl) dX12_shift_132 (ws' := mw cI cJ ad (upd (upd (upd g 32 3) 34 1) 33 0) (vp_updL lg 2 0) (va_up ar 18 (upd (ar 18) 2 (((g 33) + 0) &&& 255))) bk) rfl (fun H locs hw => ?_)
  exact hk_vret (u := (upd (ar 18) 2 (((g 33) + 0) &&& 255))) hx hb hr hlocks (show hk_W D [(cI, .int), (cJ, .long)] _ s _ _ (mw cI cJ ad (upd (upd (upd g 32 3) 33 0) 34 1) (vp_updL lg 2 0) (va_up ar 18 (upd (ar 18) 2 (((g 33) + 0) &&& 255))) bk) from hw) (trivial) dX12_shift_135

def ww_cn_shift3 : List Cond := Cond.code yX12_shift cX12_shift 3 none :: ([Cond.fieldLink RX12 264 "LzmaChainsModel" "low" "J", Cond.constantLong RX12 278 4278190080, Cond.constantLong RX12 280 4294967296, Cond.fieldLink RX12 272 "LzmaChainsModel" "held" "I", Cond.fieldLink RX12 275 "LzmaChainsModel" "waits" "I", Cond.fieldLink RX12 86 "LzmaChainsModel" "pk" "[I", Cond.fieldLink RX12 261 "LzmaChainsModel" "pkSize" "I", Cond.constantLong RX12 282 16777215] ++ (wsX120 ++ ([])))
set_option maxHeartbeats 4000000 in
set_option maxRecDepth 100000 in
/-- the reference: shift, 3 packed -/
theorem cn_shift3 (l : Launch) (D : va_G) (cI cJ : ClassId) (ad : Nat → Nat) (g : Nat → Int32) (lg : Nat → Int64) (ar : Nat → Nat → Int32) (bk : Nat → Int64) (sz : Nat)  (h32 : g 32 = 3) (h34 : g 34 = 1) (hL2 : lg 2 = 0) : Met l yX12_shift ww_cn_shift3 { frames := 0, cells := 0, slots := 0, locals := 0 } (va_Pc [.ref (ad 0)] (hk_B D [(cI, .int), (cJ, .long)] sz (mw cI cJ ad g lg ar bk))) (va_Qv (fun u : (Nat → Int32) => True) (fun u : (Nat → Int32) => hk_E D [(cI, .int), (cJ, .long)] (va_A (mw cI cJ ad g lg ar bk) sz) (mw cI cJ ad (upd (upd (upd g 32 4) 33 0) 34 1) (vp_updL lg 2 0) (va_up ar 18 u) bk)) (va_A (mw cI cJ ad g lg ar bk) sz)) 0 0 (va_A (mw cI cJ ad g lg ar bk) sz) := by
  refine hk_met (cc := cX12_shift) (maxL := 3) (ret := none) (by decide) rfl (Nat.le_of_ble_eq_true rfl) ?_
  intro p e s m below meth c ls hx hb hr hml hown hts hlocks hin hA hw hl
  have iX12 : ∀ w ∈ wsX120, w ∈ ww_cn_shift3 := fun _ h => List.mem_cons_of_mem _ (List.mem_append_right _ (List.mem_append_left _ h))
  have hl : lv_has ls 3 [(0, .ref (ad 0))] := hl
  refine lv_aload_n hx hb dX12_shift_0 rfl (lv_at hl 0 rfl) ?_
  refine hk_get (ci := 15) (C := RX12) (T := TX12) (N := 92) (v := .long 0) hx hb hts iX12 hown hw 0 rfl rfl 54 (by decide) (hts _ (List.mem_of_getElem? (i := 1) rfl)) (congrArg (fun z => some (Value.long z)) hL2) dX12_shift_1 ?_
  refine lv_ldc2 (v := 4278190080) hx hb hown (hts _ (List.mem_of_getElem? (i := 2) rfl)) dX12_shift_4 ?_
  refine hk_lcmp_lt (tgt := 22) hx hb dX12_shift_7 dX12_shift_8 (by decide) (fun _ => ?_) (fun cc_1 => absurd (by decide) cc_1)
  refine lv_aload_n hx hb dX12_shift_22 rfl (lv_at hl 0 rfl) ?_
  refine hk_get (ci := 15) (C := RX12) (T := TX12) (N := 92) (v := .long 0) hx hb hts iX12 hown hw 0 rfl rfl 54 (by decide) (hts _ (List.mem_of_getElem? (i := 1) rfl)) (congrArg (fun z => some (Value.long z)) hL2) dX12_shift_23 ?_
  refine lv_ldc2 (v := 4294967296) hx hb hown (hts _ (List.mem_of_getElem? (i := 3) rfl)) dX12_shift_26 ?_
  refine hk_lcmp_lt (tgt := 37) hx hb dX12_shift_29 dX12_shift_30 (by decide) (fun _ => ?_) (fun cc_2 => absurd (by decide) cc_2)
  refine lv_iconst (v := 0) hx hb dX12_shift_37 (by decide) ?_
  refine lv_istore_n (lv' := [(1, .int 0), (0, .ref (ad 0))]) hx hb dX12_shift_38 rfl hl (by decide) rfl (fun ls hl => ?_)
  refine lv_aload_n hx hb dX12_shift_39 rfl (lv_at hl 1 rfl) ?_
  refine hk_get (ci := 15) (C := RX12) (T := TX12) (N := 92) (v := .int (g 33)) hx hb hts iX12 hown hw 0 rfl rfl 56 (by decide) (hts _ (List.mem_of_getElem? (i := 4) rfl)) rfl dX12_shift_40 ?_
  refine lv_istore_n (lv' := [(2, .int (g 33)), (1, .int 0), (0, .ref (ad 0))]) hx hb dX12_shift_43 rfl hl (by decide) rfl (fun ls hl => ?_)
  refine lv_aload_n hx hb dX12_shift_44 rfl (lv_at hl 2 rfl) ?_
  refine hk_get (ci := 15) (C := RX12) (T := TX12) (N := 92) (v := .int 1) hx hb hts iX12 hown hw 0 rfl rfl 57 (by decide) (hts _ (List.mem_of_getElem? (i := 5) rfl)) (congrArg (fun z => some (Value.int z)) h34) dX12_shift_45 ?_
  refine lv_if_le (tgt := 94) hx hb dX12_shift_48 (by decide) (fun cc_3 => absurd cc_3 (by decide)) (fun _ => ?_)
  refine lv_aload_n hx hb dX12_shift_51 rfl (lv_at hl 2 rfl) ?_
  refine hk_get (ci := 15) (C := RX12) (T := TX12) (N := 92) (v := .ref (ad 19)) hx hb hts iX12 hown hw 0 rfl rfl 52 (by decide) (hts _ (List.mem_of_getElem? (i := 6) rfl)) rfl dX12_shift_52 ?_
  refine lv_aload_n hx hb dX12_shift_55 rfl (lv_at hl 2 rfl) ?_
  refine hk_get (ci := 15) (C := RX12) (T := TX12) (N := 92) (v := .int 3) hx hb hts iX12 hown hw 0 rfl rfl 53 (by decide) (hts _ (List.mem_of_getElem? (i := 7) rfl)) (congrArg (fun z => some (Value.int z)) h32) dX12_shift_56 ?_
  refine lv_iload_n hx hb dX12_shift_59 rfl (lv_at hl 0 rfl) ?_
  refine lv_iload_n hx hb dX12_shift_60 rfl (lv_at hl 1 rfl) ?_
  refine lv_iadd hx hb dX12_shift_61 ?_
  refine lv_sipush (v := 255) hx hb dX12_shift_62 (by decide) ?_
  refine lv_iand hx hb dX12_shift_65 ?_
  refine hk_iast hx hb hw 19 0 rfl rfl (show ¬ (_ ∨ _) by decide) dX12_shift_66 (ws' := mw cI cJ ad g lg (va_up ar 18 (upd (ar 18) 3 (((g 33) + 0) &&& 255))) bk) rfl (fun H locs hw => ?_)
  refine lv_aload_n hx hb dX12_shift_67 rfl (lv_at hl 2 rfl) ?_
  refine lv_dup hx hb dX12_shift_68 rfl ?_
  refine hk_get (ci := 15) (C := RX12) (T := TX12) (N := 92) (v := .int 3) hx hb hts iX12 hown hw 0 rfl rfl 53 (by decide) (hts _ (List.mem_of_getElem? (i := 7) rfl)) (congrArg (fun z => some (Value.int z)) h32) dX12_shift_69 ?_
  refine lv_iconst (v := 1) hx hb dX12_shift_72 (by decide) ?_
  refine lv_iadd hx hb dX12_shift_73 ?_
  refine hk_topi 4 (by decide +kernel) ?_
  refine hk_put (ci := 15) (C := RX12) (T := TX12) (N := 92) (ty := .int) (v := .int 4) hx hb hts iX12 tyX12 tyX12_ok nmX12 hown hw 0 rfl rfl 53 (by decide) (hts _ (List.mem_of_getElem? (i := 7) rfl)) rfl (by decide +kernel) rfl rfl (Nat.le_of_ble_eq_true rfl) dX12_shift_74 (ws' := mw cI cJ ad (upd g 32 4) lg (va_up ar 18 (upd (ar 18) 3 (((g 33) + 0) &&& 255))) bk) rfl (fun H locs hw => ?_)
  refine lv_sipush (v := 255) hx hb dX12_shift_77 (by decide) ?_
  refine lv_istore_n (lv' := [(2, .int 255), (1, .int 0), (0, .ref (ad 0))]) hx hb dX12_shift_80 rfl hl (by decide) rfl (fun ls hl => ?_)
  refine lv_aload_n hx hb dX12_shift_81 rfl (lv_at hl 2 rfl) ?_
  refine lv_dup hx hb dX12_shift_82 rfl ?_
  refine hk_get (ci := 15) (C := RX12) (T := TX12) (N := 92) (v := .int 1) hx hb hts iX12 hown hw 0 rfl rfl 57 (by decide) (hts _ (List.mem_of_getElem? (i := 5) rfl)) (congrArg (fun z => some (Value.int z)) h34) dX12_shift_83 ?_
  refine lv_iconst (v := 1) hx hb dX12_shift_86 (by decide) ?_
  refine lv_isub hx hb dX12_shift_87 ?_
  refine hk_topi 0 (by decide +kernel) ?_
  refine hk_put (ci := 15) (C := RX12) (T := TX12) (N := 92) (ty := .int) (v := .int 0) hx hb hts iX12 tyX12 tyX12_ok nmX12 hown hw 0 rfl rfl 57 (by decide) (hts _ (List.mem_of_getElem? (i := 5) rfl)) rfl (by decide +kernel) rfl rfl (Nat.le_of_ble_eq_true rfl) dX12_shift_88 (ws' := mw cI cJ ad (upd (upd g 32 4) 34 0) lg (va_up ar 18 (upd (ar 18) 3 (((g 33) + 0) &&& 255))) bk) rfl (fun H locs hw => ?_)
  refine lv_goto (tgt := 44) hx hb dX12_shift_91 (by decide) ?_
  refine lv_aload_n hx hb dX12_shift_44 rfl (lv_at hl 2 rfl) ?_
  refine hk_get (ci := 15) (C := RX12) (T := TX12) (N := 92) (v := .int 0) hx hb hts iX12 hown hw 0 rfl rfl 57 (by decide) (hts _ (List.mem_of_getElem? (i := 5) rfl)) rfl dX12_shift_45 ?_
  refine lv_if_le (tgt := 94) hx hb dX12_shift_48 (by decide) (fun _ => ?_) (fun cc_4 => absurd (by decide) cc_4)
  refine lv_aload_n hx hb dX12_shift_94 rfl (lv_at hl 2 rfl) ?_
  refine lv_aload_n hx hb dX12_shift_95 rfl (lv_at hl 2 rfl) ?_
  refine hk_get (ci := 15) (C := RX12) (T := TX12) (N := 92) (v := .long 0) hx hb hts iX12 hown hw 0 rfl rfl 54 (by decide) (hts _ (List.mem_of_getElem? (i := 1) rfl)) (congrArg (fun z => some (Value.long z)) hL2) dX12_shift_96 ?_
  refine lv_bipush (v := 24) hx hb dX12_shift_99 (by decide) ?_
  refine lv_lshr (v := ((0 : Int64) >>> ((24 : Int32).toInt64 &&& 63))) hx hb dX12_shift_101 rfl ?_
  refine hk_topl 0 (by decide +kernel) ?_
  refine lv_l2i (v := (0 : Int64).toInt32) hx hb dX12_shift_102 rfl ?_
  refine hk_topi 0 (by decide +kernel) ?_
  refine lv_sipush (v := 255) hx hb dX12_shift_103 (by decide) ?_
  refine lv_iand hx hb dX12_shift_106 ?_
  refine hk_topi 0 (by decide +kernel) ?_
  refine hk_put (ci := 15) (C := RX12) (T := TX12) (N := 92) (ty := .int) (v := .int 0) hx hb hts iX12 tyX12 tyX12_ok nmX12 hown hw 0 rfl rfl 56 (by decide) (hts _ (List.mem_of_getElem? (i := 4) rfl)) rfl (by decide +kernel) rfl rfl (Nat.le_of_ble_eq_true rfl) dX12_shift_107 (ws' := mw cI cJ ad (upd (upd (upd g 32 4) 34 0) 33 0) lg (va_up ar 18 (upd (ar 18) 3 (((g 33) + 0) &&& 255))) bk) rfl (fun H locs hw => ?_)
  refine lv_aload_n hx hb dX12_shift_110 rfl (lv_at hl 2 rfl) ?_
  refine lv_dup hx hb dX12_shift_111 rfl ?_
  refine hk_get (ci := 15) (C := RX12) (T := TX12) (N := 92) (v := .int 0) hx hb hts iX12 hown hw 0 rfl rfl 57 (by decide) (hts _ (List.mem_of_getElem? (i := 5) rfl)) rfl dX12_shift_112 ?_
  refine lv_iconst (v := 1) hx hb dX12_shift_115 (by decide) ?_
  refine lv_iadd hx hb dX12_shift_116 ?_
  refine hk_topi 1 (by decide +kernel) ?_
  refine hk_put (ci := 15) (C := RX12) (T := TX12) (N := 92) (ty := .int) (v := .int 1) hx hb hts iX12 tyX12 tyX12_ok nmX12 hown hw 0 rfl rfl 57 (by decide) (hts _ (List.mem_of_getElem? (i := 5) rfl)) rfl (by decide +kernel) rfl rfl (Nat.le_of_ble_eq_true rfl) dX12_shift_117 (ws' := mw cI cJ ad (upd (upd (upd g 32 4) 34 1) 33 0) lg (va_up ar 18 (upd (ar 18) 3 (((g 33) + 0) &&& 255))) bk) rfl (fun H locs hw => ?_)
  refine lv_aload_n hx hb dX12_shift_120 rfl (lv_at hl 2 rfl) ?_
  refine lv_aload_n hx hb dX12_shift_121 rfl (lv_at hl 2 rfl) ?_
  refine hk_get (ci := 15) (C := RX12) (T := TX12) (N := 92) (v := .long 0) hx hb hts iX12 hown hw 0 rfl rfl 54 (by decide) (hts _ (List.mem_of_getElem? (i := 1) rfl)) (congrArg (fun z => some (Value.long z)) hL2) dX12_shift_122 ?_
  refine lv_ldc2 (v := 16777215) hx hb hown (hts _ (List.mem_of_getElem? (i := 8) rfl)) dX12_shift_125 ?_
  refine lv_land hx hb dX12_shift_128 ?_
  refine hk_topl 0 (by decide +kernel) ?_
  refine lv_bipush (v := 8) hx hb dX12_shift_129 (by decide) ?_
  refine lv_lshl (v := ((0 : Int64) <<< ((8 : Int32).toInt64 &&& 63))) hx hb dX12_shift_131 rfl ?_
  refine hk_topl 0 (by decide +kernel) ?_
  refine hk_put (ci := 15) (C := RX12) (T := TX12) (N := 92) (ty := .long) (v := .long 0) hx hb hts iX12 tyX12 tyX12_ok nmX12 hown hw 0 rfl rfl 54 (by decide) (hts _ (List.mem_of_getElem? (i := 1) rfl)) rfl (by decide +kernel) rfl rfl (Nat.le_of_ble_eq_true rfl) dX12_shift_132 (ws' := mw cI cJ ad (upd (upd (upd g 32 4) 34 1) 33 0) (vp_updL lg 2 0) (va_up ar 18 (upd (ar 18) 3 (((g 33) + 0) &&& 255))) bk) rfl (fun H locs hw => ?_)
  exact hk_vret (u := (upd (ar 18) 3 (((g 33) + 0) &&& 255))) hx hb hr hlocks (show hk_W D [(cI, .int), (cJ, .long)] _ s _ _ (mw cI cJ ad (upd (upd (upd g 32 4) 33 0) 34 1) (vp_updL lg 2 0) (va_up ar 18 (upd (ar 18) 3 (((g 33) + 0) &&& 255))) bk) from hw) (trivial) dX12_shift_135

def ww_cn_shift4 : List Cond := Cond.code yX12_shift cX12_shift 3 none :: ([Cond.fieldLink RX12 264 "LzmaChainsModel" "low" "J", Cond.constantLong RX12 278 4278190080, Cond.constantLong RX12 280 4294967296, Cond.fieldLink RX12 272 "LzmaChainsModel" "held" "I", Cond.fieldLink RX12 275 "LzmaChainsModel" "waits" "I", Cond.fieldLink RX12 86 "LzmaChainsModel" "pk" "[I", Cond.fieldLink RX12 261 "LzmaChainsModel" "pkSize" "I", Cond.constantLong RX12 282 16777215] ++ (wsX120 ++ ([])))
set_option maxHeartbeats 4000000 in
set_option maxRecDepth 100000 in
/-- the reference: shift, 4 packed -/
theorem cn_shift4 (l : Launch) (D : va_G) (cI cJ : ClassId) (ad : Nat → Nat) (g : Nat → Int32) (lg : Nat → Int64) (ar : Nat → Nat → Int32) (bk : Nat → Int64) (sz : Nat)  (h32 : g 32 = 4) (h34 : g 34 = 1) (hL2 : lg 2 = 0) : Met l yX12_shift ww_cn_shift4 { frames := 0, cells := 0, slots := 0, locals := 0 } (va_Pc [.ref (ad 0)] (hk_B D [(cI, .int), (cJ, .long)] sz (mw cI cJ ad g lg ar bk))) (va_Qv (fun u : (Nat → Int32) => True) (fun u : (Nat → Int32) => hk_E D [(cI, .int), (cJ, .long)] (va_A (mw cI cJ ad g lg ar bk) sz) (mw cI cJ ad (upd (upd (upd g 32 5) 33 0) 34 1) (vp_updL lg 2 0) (va_up ar 18 u) bk)) (va_A (mw cI cJ ad g lg ar bk) sz)) 0 0 (va_A (mw cI cJ ad g lg ar bk) sz) := by
  refine hk_met (cc := cX12_shift) (maxL := 3) (ret := none) (by decide) rfl (Nat.le_of_ble_eq_true rfl) ?_
  intro p e s m below meth c ls hx hb hr hml hown hts hlocks hin hA hw hl
  have iX12 : ∀ w ∈ wsX120, w ∈ ww_cn_shift4 := fun _ h => List.mem_cons_of_mem _ (List.mem_append_right _ (List.mem_append_left _ h))
  have hl : lv_has ls 3 [(0, .ref (ad 0))] := hl
  refine lv_aload_n hx hb dX12_shift_0 rfl (lv_at hl 0 rfl) ?_
  refine hk_get (ci := 15) (C := RX12) (T := TX12) (N := 92) (v := .long 0) hx hb hts iX12 hown hw 0 rfl rfl 54 (by decide) (hts _ (List.mem_of_getElem? (i := 1) rfl)) (congrArg (fun z => some (Value.long z)) hL2) dX12_shift_1 ?_
  refine lv_ldc2 (v := 4278190080) hx hb hown (hts _ (List.mem_of_getElem? (i := 2) rfl)) dX12_shift_4 ?_
  refine hk_lcmp_lt (tgt := 22) hx hb dX12_shift_7 dX12_shift_8 (by decide) (fun _ => ?_) (fun cc_1 => absurd (by decide) cc_1)
  refine lv_aload_n hx hb dX12_shift_22 rfl (lv_at hl 0 rfl) ?_
  refine hk_get (ci := 15) (C := RX12) (T := TX12) (N := 92) (v := .long 0) hx hb hts iX12 hown hw 0 rfl rfl 54 (by decide) (hts _ (List.mem_of_getElem? (i := 1) rfl)) (congrArg (fun z => some (Value.long z)) hL2) dX12_shift_23 ?_
  refine lv_ldc2 (v := 4294967296) hx hb hown (hts _ (List.mem_of_getElem? (i := 3) rfl)) dX12_shift_26 ?_
  refine hk_lcmp_lt (tgt := 37) hx hb dX12_shift_29 dX12_shift_30 (by decide) (fun _ => ?_) (fun cc_2 => absurd (by decide) cc_2)
  refine lv_iconst (v := 0) hx hb dX12_shift_37 (by decide) ?_
  refine lv_istore_n (lv' := [(1, .int 0), (0, .ref (ad 0))]) hx hb dX12_shift_38 rfl hl (by decide) rfl (fun ls hl => ?_)
  refine lv_aload_n hx hb dX12_shift_39 rfl (lv_at hl 1 rfl) ?_
  refine hk_get (ci := 15) (C := RX12) (T := TX12) (N := 92) (v := .int (g 33)) hx hb hts iX12 hown hw 0 rfl rfl 56 (by decide) (hts _ (List.mem_of_getElem? (i := 4) rfl)) rfl dX12_shift_40 ?_
  refine lv_istore_n (lv' := [(2, .int (g 33)), (1, .int 0), (0, .ref (ad 0))]) hx hb dX12_shift_43 rfl hl (by decide) rfl (fun ls hl => ?_)
  refine lv_aload_n hx hb dX12_shift_44 rfl (lv_at hl 2 rfl) ?_
  refine hk_get (ci := 15) (C := RX12) (T := TX12) (N := 92) (v := .int 1) hx hb hts iX12 hown hw 0 rfl rfl 57 (by decide) (hts _ (List.mem_of_getElem? (i := 5) rfl)) (congrArg (fun z => some (Value.int z)) h34) dX12_shift_45 ?_
  refine lv_if_le (tgt := 94) hx hb dX12_shift_48 (by decide) (fun cc_3 => absurd cc_3 (by decide)) (fun _ => ?_)
  refine lv_aload_n hx hb dX12_shift_51 rfl (lv_at hl 2 rfl) ?_
  refine hk_get (ci := 15) (C := RX12) (T := TX12) (N := 92) (v := .ref (ad 19)) hx hb hts iX12 hown hw 0 rfl rfl 52 (by decide) (hts _ (List.mem_of_getElem? (i := 6) rfl)) rfl dX12_shift_52 ?_
  refine lv_aload_n hx hb dX12_shift_55 rfl (lv_at hl 2 rfl) ?_
  refine hk_get (ci := 15) (C := RX12) (T := TX12) (N := 92) (v := .int 4) hx hb hts iX12 hown hw 0 rfl rfl 53 (by decide) (hts _ (List.mem_of_getElem? (i := 7) rfl)) (congrArg (fun z => some (Value.int z)) h32) dX12_shift_56 ?_
  refine lv_iload_n hx hb dX12_shift_59 rfl (lv_at hl 0 rfl) ?_
  refine lv_iload_n hx hb dX12_shift_60 rfl (lv_at hl 1 rfl) ?_
  refine lv_iadd hx hb dX12_shift_61 ?_
  refine lv_sipush (v := 255) hx hb dX12_shift_62 (by decide) ?_
  refine lv_iand hx hb dX12_shift_65 ?_
  refine hk_iast hx hb hw 19 0 rfl rfl (show ¬ (_ ∨ _) by decide) dX12_shift_66 (ws' := mw cI cJ ad g lg (va_up ar 18 (upd (ar 18) 4 (((g 33) + 0) &&& 255))) bk) rfl (fun H locs hw => ?_)
  refine lv_aload_n hx hb dX12_shift_67 rfl (lv_at hl 2 rfl) ?_
  refine lv_dup hx hb dX12_shift_68 rfl ?_
  refine hk_get (ci := 15) (C := RX12) (T := TX12) (N := 92) (v := .int 4) hx hb hts iX12 hown hw 0 rfl rfl 53 (by decide) (hts _ (List.mem_of_getElem? (i := 7) rfl)) (congrArg (fun z => some (Value.int z)) h32) dX12_shift_69 ?_
  refine lv_iconst (v := 1) hx hb dX12_shift_72 (by decide) ?_
  refine lv_iadd hx hb dX12_shift_73 ?_
  refine hk_topi 5 (by decide +kernel) ?_
  refine hk_put (ci := 15) (C := RX12) (T := TX12) (N := 92) (ty := .int) (v := .int 5) hx hb hts iX12 tyX12 tyX12_ok nmX12 hown hw 0 rfl rfl 53 (by decide) (hts _ (List.mem_of_getElem? (i := 7) rfl)) rfl (by decide +kernel) rfl rfl (Nat.le_of_ble_eq_true rfl) dX12_shift_74 (ws' := mw cI cJ ad (upd g 32 5) lg (va_up ar 18 (upd (ar 18) 4 (((g 33) + 0) &&& 255))) bk) rfl (fun H locs hw => ?_)
  refine lv_sipush (v := 255) hx hb dX12_shift_77 (by decide) ?_
  refine lv_istore_n (lv' := [(2, .int 255), (1, .int 0), (0, .ref (ad 0))]) hx hb dX12_shift_80 rfl hl (by decide) rfl (fun ls hl => ?_)
  refine lv_aload_n hx hb dX12_shift_81 rfl (lv_at hl 2 rfl) ?_
  refine lv_dup hx hb dX12_shift_82 rfl ?_
  refine hk_get (ci := 15) (C := RX12) (T := TX12) (N := 92) (v := .int 1) hx hb hts iX12 hown hw 0 rfl rfl 57 (by decide) (hts _ (List.mem_of_getElem? (i := 5) rfl)) (congrArg (fun z => some (Value.int z)) h34) dX12_shift_83 ?_
  refine lv_iconst (v := 1) hx hb dX12_shift_86 (by decide) ?_
  refine lv_isub hx hb dX12_shift_87 ?_
  refine hk_topi 0 (by decide +kernel) ?_
  refine hk_put (ci := 15) (C := RX12) (T := TX12) (N := 92) (ty := .int) (v := .int 0) hx hb hts iX12 tyX12 tyX12_ok nmX12 hown hw 0 rfl rfl 57 (by decide) (hts _ (List.mem_of_getElem? (i := 5) rfl)) rfl (by decide +kernel) rfl rfl (Nat.le_of_ble_eq_true rfl) dX12_shift_88 (ws' := mw cI cJ ad (upd (upd g 32 5) 34 0) lg (va_up ar 18 (upd (ar 18) 4 (((g 33) + 0) &&& 255))) bk) rfl (fun H locs hw => ?_)
  refine lv_goto (tgt := 44) hx hb dX12_shift_91 (by decide) ?_
  refine lv_aload_n hx hb dX12_shift_44 rfl (lv_at hl 2 rfl) ?_
  refine hk_get (ci := 15) (C := RX12) (T := TX12) (N := 92) (v := .int 0) hx hb hts iX12 hown hw 0 rfl rfl 57 (by decide) (hts _ (List.mem_of_getElem? (i := 5) rfl)) rfl dX12_shift_45 ?_
  refine lv_if_le (tgt := 94) hx hb dX12_shift_48 (by decide) (fun _ => ?_) (fun cc_4 => absurd (by decide) cc_4)
  refine lv_aload_n hx hb dX12_shift_94 rfl (lv_at hl 2 rfl) ?_
  refine lv_aload_n hx hb dX12_shift_95 rfl (lv_at hl 2 rfl) ?_
  refine hk_get (ci := 15) (C := RX12) (T := TX12) (N := 92) (v := .long 0) hx hb hts iX12 hown hw 0 rfl rfl 54 (by decide) (hts _ (List.mem_of_getElem? (i := 1) rfl)) (congrArg (fun z => some (Value.long z)) hL2) dX12_shift_96 ?_
  refine lv_bipush (v := 24) hx hb dX12_shift_99 (by decide) ?_
  refine lv_lshr (v := ((0 : Int64) >>> ((24 : Int32).toInt64 &&& 63))) hx hb dX12_shift_101 rfl ?_
  refine hk_topl 0 (by decide +kernel) ?_
  refine lv_l2i (v := (0 : Int64).toInt32) hx hb dX12_shift_102 rfl ?_
  refine hk_topi 0 (by decide +kernel) ?_
  refine lv_sipush (v := 255) hx hb dX12_shift_103 (by decide) ?_
  refine lv_iand hx hb dX12_shift_106 ?_
  refine hk_topi 0 (by decide +kernel) ?_
  refine hk_put (ci := 15) (C := RX12) (T := TX12) (N := 92) (ty := .int) (v := .int 0) hx hb hts iX12 tyX12 tyX12_ok nmX12 hown hw 0 rfl rfl 56 (by decide) (hts _ (List.mem_of_getElem? (i := 4) rfl)) rfl (by decide +kernel) rfl rfl (Nat.le_of_ble_eq_true rfl) dX12_shift_107 (ws' := mw cI cJ ad (upd (upd (upd g 32 5) 34 0) 33 0) lg (va_up ar 18 (upd (ar 18) 4 (((g 33) + 0) &&& 255))) bk) rfl (fun H locs hw => ?_)
  refine lv_aload_n hx hb dX12_shift_110 rfl (lv_at hl 2 rfl) ?_
  refine lv_dup hx hb dX12_shift_111 rfl ?_
  refine hk_get (ci := 15) (C := RX12) (T := TX12) (N := 92) (v := .int 0) hx hb hts iX12 hown hw 0 rfl rfl 57 (by decide) (hts _ (List.mem_of_getElem? (i := 5) rfl)) rfl dX12_shift_112 ?_
  refine lv_iconst (v := 1) hx hb dX12_shift_115 (by decide) ?_
  refine lv_iadd hx hb dX12_shift_116 ?_
  refine hk_topi 1 (by decide +kernel) ?_
  refine hk_put (ci := 15) (C := RX12) (T := TX12) (N := 92) (ty := .int) (v := .int 1) hx hb hts iX12 tyX12 tyX12_ok nmX12 hown hw 0 rfl rfl 57 (by decide) (hts _ (List.mem_of_getElem? (i := 5) rfl)) rfl (by decide +kernel) rfl rfl (Nat.le_of_ble_eq_true rfl) dX12_shift_117 (ws' := mw cI cJ ad (upd (upd (upd g 32 5) 34 1) 33 0) lg (va_up ar 18 (upd (ar 18) 4 (((g 33) + 0) &&& 255))) bk) rfl (fun H locs hw => ?_)
  refine lv_aload_n hx hb dX12_shift_120 rfl (lv_at hl 2 rfl) ?_
  refine lv_aload_n hx hb dX12_shift_121 rfl (lv_at hl 2 rfl) ?_
  refine hk_get (ci := 15) (C := RX12) (T := TX12) (N := 92) (v := .long 0) hx hb hts iX12 hown hw 0 rfl rfl 54 (by decide) (hts _ (List.mem_of_getElem? (i := 1) rfl)) (congrArg (fun z => some (Value.long z)) hL2) dX12_shift_122 ?_
  refine lv_ldc2 (v := 16777215) hx hb hown (hts _ (List.mem_of_getElem? (i := 8) rfl)) dX12_shift_125 ?_
  refine lv_land hx hb dX12_shift_128 ?_
  refine hk_topl 0 (by decide +kernel) ?_
  refine lv_bipush (v := 8) hx hb dX12_shift_129 (by decide) ?_
  refine lv_lshl (v := ((0 : Int64) <<< ((8 : Int32).toInt64 &&& 63))) hx hb dX12_shift_131 rfl ?_
  refine hk_topl 0 (by decide +kernel) ?_
  refine hk_put (ci := 15) (C := RX12) (T := TX12) (N := 92) (ty := .long) (v := .long 0) hx hb hts iX12 tyX12 tyX12_ok nmX12 hown hw 0 rfl rfl 54 (by decide) (hts _ (List.mem_of_getElem? (i := 1) rfl)) rfl (by decide +kernel) rfl rfl (Nat.le_of_ble_eq_true rfl) dX12_shift_132 (ws' := mw cI cJ ad (upd (upd (upd g 32 5) 34 1) 33 0) (vp_updL lg 2 0) (va_up ar 18 (upd (ar 18) 4 (((g 33) + 0) &&& 255))) bk) rfl (fun H locs hw => ?_)
  exact hk_vret (u := (upd (ar 18) 4 (((g 33) + 0) &&& 255))) hx hb hr hlocks (show hk_W D [(cI, .int), (cJ, .long)] _ s _ _ (mw cI cJ ad (upd (upd (upd g 32 5) 33 0) 34 1) (vp_updL lg 2 0) (va_up ar 18 (upd (ar 18) 4 (((g 33) + 0) &&& 255))) bk) from hw) (trivial) dX12_shift_135

def ww_cn_endCoder : List Cond := Cond.code yX12_endCoder cX12_endCoder 2 none :: ([Cond.methodLink RX12 286 yX12_shift, Cond.instanceMethod yX12_shift, Cond.selects RX12 yX12_shift yX12_shift, Cond.initialized RX12, Cond.code yX12_shift cX12_shift 3 none, Cond.fieldLink RX12 264 "LzmaChainsModel" "low" "J", Cond.constantLong RX12 278 4278190080, Cond.constantLong RX12 280 4294967296, Cond.fieldLink RX12 272 "LzmaChainsModel" "held" "I", Cond.fieldLink RX12 275 "LzmaChainsModel" "waits" "I", Cond.fieldLink RX12 86 "LzmaChainsModel" "pk" "[I", Cond.fieldLink RX12 261 "LzmaChainsModel" "pkSize" "I", Cond.constantLong RX12 282 16777215] ++ (wsX120 ++ ([])))
set_option maxRecDepth 20000 in
theorem gw_cn_endCoder_0 : GoodIn ww_cn_endCoder (wsV RX12 286 RX12 yX12_shift ww_cn_shift0) := goodIn_r _ [1, 2, 3, 4, 5, 6, 7, 8, 9, 10, 11, 12, 13, 14, 15, 16, 17, 18, 19, 20, 21, 22, 23, 24, 25, 26, 27, 28, 29, 30, 31, 32, 33, 34, 35, 36, 37, 38, 39, 40, 41, 42, 43, 44, 45, 46, 47, 48, 49, 50, 51, 52, 53, 54, 55, 56, 57, 58, 59, 60, 61, 62, 63, 64, 65, 66, 67, 68, 69, 70, 71, 72, 73, 74, 75, 76, 77, 78, 79, 80, 81, 82, 83, 84, 85, 86, 87, 88, 89, 90, 91, 92, 93, 94, 95, 96, 97, 98, 99, 100, 101, 102, 103, 104, 105] rfl (by decide +kernel)
set_option maxRecDepth 20000 in
theorem gw_cn_endCoder_1 : GoodIn ww_cn_endCoder (wsV RX12 286 RX12 yX12_shift ww_cn_shift1) := goodIn_r _ [1, 2, 3, 4, 5, 6, 7, 8, 9, 10, 11, 12, 13, 14, 15, 16, 17, 18, 19, 20, 21, 22, 23, 24, 25, 26, 27, 28, 29, 30, 31, 32, 33, 34, 35, 36, 37, 38, 39, 40, 41, 42, 43, 44, 45, 46, 47, 48, 49, 50, 51, 52, 53, 54, 55, 56, 57, 58, 59, 60, 61, 62, 63, 64, 65, 66, 67, 68, 69, 70, 71, 72, 73, 74, 75, 76, 77, 78, 79, 80, 81, 82, 83, 84, 85, 86, 87, 88, 89, 90, 91, 92, 93, 94, 95, 96, 97, 98, 99, 100, 101, 102, 103, 104, 105] rfl (by decide +kernel)
set_option maxRecDepth 20000 in
theorem gw_cn_endCoder_2 : GoodIn ww_cn_endCoder (wsV RX12 286 RX12 yX12_shift ww_cn_shift2) := goodIn_r _ [1, 2, 3, 4, 5, 6, 7, 8, 9, 10, 11, 12, 13, 14, 15, 16, 17, 18, 19, 20, 21, 22, 23, 24, 25, 26, 27, 28, 29, 30, 31, 32, 33, 34, 35, 36, 37, 38, 39, 40, 41, 42, 43, 44, 45, 46, 47, 48, 49, 50, 51, 52, 53, 54, 55, 56, 57, 58, 59, 60, 61, 62, 63, 64, 65, 66, 67, 68, 69, 70, 71, 72, 73, 74, 75, 76, 77, 78, 79, 80, 81, 82, 83, 84, 85, 86, 87, 88, 89, 90, 91, 92, 93, 94, 95, 96, 97, 98, 99, 100, 101, 102, 103, 104, 105] rfl (by decide +kernel)
set_option maxRecDepth 20000 in
theorem gw_cn_endCoder_3 : GoodIn ww_cn_endCoder (wsV RX12 286 RX12 yX12_shift ww_cn_shift3) := goodIn_r _ [1, 2, 3, 4, 5, 6, 7, 8, 9, 10, 11, 12, 13, 14, 15, 16, 17, 18, 19, 20, 21, 22, 23, 24, 25, 26, 27, 28, 29, 30, 31, 32, 33, 34, 35, 36, 37, 38, 39, 40, 41, 42, 43, 44, 45, 46, 47, 48, 49, 50, 51, 52, 53, 54, 55, 56, 57, 58, 59, 60, 61, 62, 63, 64, 65, 66, 67, 68, 69, 70, 71, 72, 73, 74, 75, 76, 77, 78, 79, 80, 81, 82, 83, 84, 85, 86, 87, 88, 89, 90, 91, 92, 93, 94, 95, 96, 97, 98, 99, 100, 101, 102, 103, 104, 105] rfl (by decide +kernel)
set_option maxRecDepth 20000 in
theorem gw_cn_endCoder_4 : GoodIn ww_cn_endCoder (wsV RX12 286 RX12 yX12_shift ww_cn_shift4) := goodIn_r _ [1, 2, 3, 4, 5, 6, 7, 8, 9, 10, 11, 12, 13, 14, 15, 16, 17, 18, 19, 20, 21, 22, 23, 24, 25, 26, 27, 28, 29, 30, 31, 32, 33, 34, 35, 36, 37, 38, 39, 40, 41, 42, 43, 44, 45, 46, 47, 48, 49, 50, 51, 52, 53, 54, 55, 56, 57, 58, 59, 60, 61, 62, 63, 64, 65, 66, 67, 68, 69, 70, 71, 72, 73, 74, 75, 76, 77, 78, 79, 80, 81, 82, 83, 84, 85, 86, 87, 88, 89, 90, 91, 92, 93, 94, 95, 96, 97, 98, 99, 100, 101, 102, 103, 104, 105] rfl (by decide +kernel)
set_option maxHeartbeats 4000000 in
set_option maxRecDepth 100000 in
/-- the reference: endCoder -/
theorem cn_endCoder (l : Launch) (D : va_G) (cI cJ : ClassId) (ad : Nat → Nat) (g : Nat → Int32) (lg : Nat → Int64) (ar : Nat → Nat → Int32) (bk : Nat → Int64) (sz : Nat)  (h32 : g 32 = 0) (h34 : g 34 = 1) (hL2 : lg 2 = 0) : Met l yX12_endCoder ww_cn_endCoder { frames := 1, cells := 0, slots := 0, locals := 22 } (va_Pc [.ref (ad 0)] (hk_B D [(cI, .int), (cJ, .long)] sz (mw cI cJ ad g lg ar bk))) (va_Qv (fun u : (Nat → Int32) => True) (fun u : (Nat → Int32) => hk_E D [(cI, .int), (cJ, .long)] (va_A (mw cI cJ ad g lg ar bk) sz) (mw cI cJ ad (upd (upd (upd g 32 5) 33 0) 34 1) (vp_updL lg 2 0) (va_up ar 18 u) bk)) (va_A (mw cI cJ ad g lg ar bk) sz)) 0 0 (va_A (mw cI cJ ad g lg ar bk) sz) := by
  refine hk_met (cc := cX12_endCoder) (maxL := 2) (ret := none) (by decide) rfl (Nat.le_of_ble_eq_true rfl) ?_
  intro p e s m below meth c ls hx hb hr hml hown hts hlocks hin hA hw hl
  have iX12 : ∀ w ∈ wsX120, w ∈ ww_cn_endCoder := fun _ h => List.mem_cons_of_mem _ (List.mem_append_right _ (List.mem_append_left _ h))
  have hl : lv_has ls 2 [(0, .ref (ad 0))] := hl
  refine lv_iconst (v := 0) hx hb dX12_endCoder_0 (by decide) ?_
  refine lv_istore_n (lv' := [(1, .int 0), (0, .ref (ad 0))]) hx hb dX12_endCoder_1 rfl hl (by decide) rfl (fun ls hl => ?_)
  refine lv_iload_n hx hb dX12_endCoder_2 rfl (lv_at hl 0 rfl) ?_
  refine lv_iconst (v := 5) hx hb dX12_endCoder_3 (by decide) ?_
  refine lv_icmp_ge (tgt := 17) hx hb dX12_endCoder_4 (by decide) (fun cc_1 => absurd cc_1 (by decide)) (fun _ => ?_)
  refine lv_aload_n hx hb dX12_endCoder_7 rfl (lv_at hl 1 rfl) ?_
  refine hk_Vv (As := []) (rest := []) ⟨hx, hb, hml, hown, hts⟩ hw hA (cn_shift0 l D cI cJ ad g lg ar bk _ h32 h34 hL2) (cwV 0 hts gw_cn_endCoder_0 rfl rfl rfl (by decide +kernel) ⟨Nat.le_of_ble_eq_true rfl, Nat.le_of_ble_eq_true rfl⟩) 0 (ci := 15) (T := TX12) (N := 92) rfl rfl rfl hl.1 rfl (Nat.le_of_ble_eq_true rfl) dX12_endCoder_8 ⟨Nat.le_of_ble_eq_true rfl, Nat.le_of_ble_eq_true rfl⟩ (fun uu_3 H locs hp_4 hw => ?_)
  have hw : hk_W D [(cI, .int), (cJ, .long)] _ s _ _ (mw cI cJ ad (upd (upd (upd g 32 1) 33 0) 34 1) (vp_updL lg 2 0) (va_up ar 18 uu_3) bk) := hw
  refine lv_iinc (v := 1) (lv' := [(1, .int 1), (0, .ref (ad 0))]) hx hb dX12_endCoder_11 hl (k := 0) rfl rfl (by decide) rfl (fun ls hl => ?_)
  refine lv_goto (tgt := 2) hx hb dX12_endCoder_14 (by decide) ?_
  refine lv_iload_n hx hb dX12_endCoder_2 rfl (lv_at hl 0 rfl) ?_
  refine lv_iconst (v := 5) hx hb dX12_endCoder_3 (by decide) ?_
  refine lv_icmp_ge (tgt := 17) hx hb dX12_endCoder_4 (by decide) (fun cc_5 => absurd cc_5 (by decide)) (fun _ => ?_)
  refine lv_aload_n hx hb dX12_endCoder_7 rfl (lv_at hl 1 rfl) ?_
  refine hk_Vv (As := []) (rest := []) ⟨hx, hb, hml, hown, hts⟩ hw hA (cn_shift1 l D cI cJ ad (upd (upd (upd g 32 1) 33 0) 34 1) (vp_updL lg 2 0) (va_up ar 18 uu_3) bk _ rfl rfl rfl) (cwV 0 hts gw_cn_endCoder_1 rfl rfl rfl (by decide +kernel) ⟨Nat.le_of_ble_eq_true rfl, Nat.le_of_ble_eq_true rfl⟩) 0 (ci := 15) (T := TX12) (N := 92) rfl rfl rfl hl.1 rfl (Nat.le_of_ble_eq_true rfl) dX12_endCoder_8 ⟨Nat.le_of_ble_eq_true rfl, Nat.le_of_ble_eq_true rfl⟩ (fun uu_7 H locs hp_8 hw => ?_)
  have hw : hk_W D [(cI, .int), (cJ, .long)] _ s _ _ (mw cI cJ ad (upd (upd (upd g 32 2) 33 0) 34 1) (vp_updL lg 2 0) (va_up ar 18 uu_7) bk) := hw
  refine lv_iinc (v := 2) (lv' := [(1, .int 2), (0, .ref (ad 0))]) hx hb dX12_endCoder_11 hl (k := 0) rfl rfl (by decide) rfl (fun ls hl => ?_)
  refine lv_goto (tgt := 2) hx hb dX12_endCoder_14 (by decide) ?_
  refine lv_iload_n hx hb dX12_endCoder_2 rfl (lv_at hl 0 rfl) ?_
  refine lv_iconst (v := 5) hx hb dX12_endCoder_3 (by decide) ?_
  refine lv_icmp_ge (tgt := 17) hx hb dX12_endCoder_4 (by decide) (fun cc_9 => absurd cc_9 (by decide)) (fun _ => ?_)
  refine lv_aload_n hx hb dX12_endCoder_7 rfl (lv_at hl 1 rfl) ?_
  refine hk_Vv (As := []) (rest := []) ⟨hx, hb, hml, hown, hts⟩ hw hA (cn_shift2 l D cI cJ ad (upd (upd (upd g 32 2) 33 0) 34 1) (vp_updL lg 2 0) (va_up ar 18 uu_7) bk _ rfl rfl rfl) (cwV 0 hts gw_cn_endCoder_2 rfl rfl rfl (by decide +kernel) ⟨Nat.le_of_ble_eq_true rfl, Nat.le_of_ble_eq_true rfl⟩) 0 (ci := 15) (T := TX12) (N := 92) rfl rfl rfl hl.1 rfl (Nat.le_of_ble_eq_true rfl) dX12_endCoder_8 ⟨Nat.le_of_ble_eq_true rfl, Nat.le_of_ble_eq_true rfl⟩ (fun uu_11 H locs hp_12 hw => ?_)
  have hw : hk_W D [(cI, .int), (cJ, .long)] _ s _ _ (mw cI cJ ad (upd (upd (upd g 32 3) 33 0) 34 1) (vp_updL lg 2 0) (va_up ar 18 uu_11) bk) := hw
  refine lv_iinc (v := 3) (lv' := [(1, .int 3), (0, .ref (ad 0))]) hx hb dX12_endCoder_11 hl (k := 0) rfl rfl (by decide) rfl (fun ls hl => ?_)
  refine lv_goto (tgt := 2) hx hb dX12_endCoder_14 (by decide) ?_
  refine lv_iload_n hx hb dX12_endCoder_2 rfl (lv_at hl 0 rfl) ?_
  refine lv_iconst (v := 5) hx hb dX12_endCoder_3 (by decide) ?_
  refine lv_icmp_ge (tgt := 17) hx hb dX12_endCoder_4 (by decide) (fun cc_13 => absurd cc_13 (by decide)) (fun _ => ?_)
  refine lv_aload_n hx hb dX12_endCoder_7 rfl (lv_at hl 1 rfl) ?_
  refine hk_Vv (As := []) (rest := []) ⟨hx, hb, hml, hown, hts⟩ hw hA (cn_shift3 l D cI cJ ad (upd (upd (upd g 32 3) 33 0) 34 1) (vp_updL lg 2 0) (va_up ar 18 uu_11) bk _ rfl rfl rfl) (cwV 0 hts gw_cn_endCoder_3 rfl rfl rfl (by decide +kernel) ⟨Nat.le_of_ble_eq_true rfl, Nat.le_of_ble_eq_true rfl⟩) 0 (ci := 15) (T := TX12) (N := 92) rfl rfl rfl hl.1 rfl (Nat.le_of_ble_eq_true rfl) dX12_endCoder_8 ⟨Nat.le_of_ble_eq_true rfl, Nat.le_of_ble_eq_true rfl⟩ (fun uu_15 H locs hp_16 hw => ?_)
  have hw : hk_W D [(cI, .int), (cJ, .long)] _ s _ _ (mw cI cJ ad (upd (upd (upd g 32 4) 33 0) 34 1) (vp_updL lg 2 0) (va_up ar 18 uu_15) bk) := hw
  refine lv_iinc (v := 4) (lv' := [(1, .int 4), (0, .ref (ad 0))]) hx hb dX12_endCoder_11 hl (k := 0) rfl rfl (by decide) rfl (fun ls hl => ?_)
  refine lv_goto (tgt := 2) hx hb dX12_endCoder_14 (by decide) ?_
  refine lv_iload_n hx hb dX12_endCoder_2 rfl (lv_at hl 0 rfl) ?_
  refine lv_iconst (v := 5) hx hb dX12_endCoder_3 (by decide) ?_
  refine lv_icmp_ge (tgt := 17) hx hb dX12_endCoder_4 (by decide) (fun cc_17 => absurd cc_17 (by decide)) (fun _ => ?_)
  refine lv_aload_n hx hb dX12_endCoder_7 rfl (lv_at hl 1 rfl) ?_
  refine hk_Vv (As := []) (rest := []) ⟨hx, hb, hml, hown, hts⟩ hw hA (cn_shift4 l D cI cJ ad (upd (upd (upd g 32 4) 33 0) 34 1) (vp_updL lg 2 0) (va_up ar 18 uu_15) bk _ rfl rfl rfl) (cwV 0 hts gw_cn_endCoder_4 rfl rfl rfl (by decide +kernel) ⟨Nat.le_of_ble_eq_true rfl, Nat.le_of_ble_eq_true rfl⟩) 0 (ci := 15) (T := TX12) (N := 92) rfl rfl rfl hl.1 rfl (Nat.le_of_ble_eq_true rfl) dX12_endCoder_8 ⟨Nat.le_of_ble_eq_true rfl, Nat.le_of_ble_eq_true rfl⟩ (fun uu_19 H locs hp_20 hw => ?_)
  have hw : hk_W D [(cI, .int), (cJ, .long)] _ s _ _ (mw cI cJ ad (upd (upd (upd g 32 5) 33 0) 34 1) (vp_updL lg 2 0) (va_up ar 18 uu_19) bk) := hw
  refine lv_iinc (v := 5) (lv' := [(1, .int 5), (0, .ref (ad 0))]) hx hb dX12_endCoder_11 hl (k := 0) rfl rfl (by decide) rfl (fun ls hl => ?_)
  refine lv_goto (tgt := 2) hx hb dX12_endCoder_14 (by decide) ?_
  refine lv_iload_n hx hb dX12_endCoder_2 rfl (lv_at hl 0 rfl) ?_
  refine lv_iconst (v := 5) hx hb dX12_endCoder_3 (by decide) ?_
  refine lv_icmp_ge (tgt := 17) hx hb dX12_endCoder_4 (by decide) (fun _ => ?_) (fun cc_21 => absurd (by decide) cc_21)
  exact hk_vret (u := uu_19) hx hb hr hlocks (hw) (trivial) dX12_endCoder_17

def ww_cn_plan : List Cond := Cond.code yX12_plan cX12_plan 5 none :: ([Cond.fieldLink RX12 89 "LzmaChainsModel" "cost" "[I", Cond.fieldLink RX12 303 "LzmaChainsModel" "partEnd" "I"] ++ (wsX120 ++ ([])))
set_option maxHeartbeats 4000000 in
set_option maxRecDepth 100000 in
/-- the reference: plan of nothing -/
theorem cn_plan (l : Launch) (D : va_G) (cI cJ : ClassId) (ad : Nat → Nat) (g : Nat → Int32) (lg : Nat → Int64) (ar : Nat → Nat → Int32) (bk : Nat → Int64) (sz : Nat)  (h35 : g 35 = 0) : Met l yX12_plan ww_cn_plan { frames := 0, cells := 0, slots := 0, locals := 0 } (va_Pc [.ref (ad 0), .int 0] (hk_B D [(cI, .int), (cJ, .long)] sz (mw cI cJ ad g lg ar bk))) (va_Qv (fun u : (Nat → Int32) => True) (fun u : (Nat → Int32) => hk_E D [(cI, .int), (cJ, .long)] (va_A (mw cI cJ ad g lg ar bk) sz) (mw cI cJ ad g lg (va_up ar 19 u) bk)) (va_A (mw cI cJ ad g lg ar bk) sz)) 0 0 (va_A (mw cI cJ ad g lg ar bk) sz) := by
  refine hk_met (cc := cX12_plan) (maxL := 5) (ret := none) (by decide) rfl (Nat.le_of_ble_eq_true rfl) ?_
  intro p e s m below meth c ls hx hb hr hml hown hts hlocks hin hA hw hl
  have iX12 : ∀ w ∈ wsX120, w ∈ ww_cn_plan := fun _ h => List.mem_cons_of_mem _ (List.mem_append_right _ (List.mem_append_left _ h))
  have hl : lv_has ls 5 [(0, .ref (ad 0)), (1, .int 0)] := hl
  refine lv_aload_n hx hb dX12_plan_0 rfl (lv_at hl 0 rfl) ?_
  refine hk_get (ci := 15) (C := RX12) (T := TX12) (N := 92) (v := .ref (ad 20)) hx hb hts iX12 hown hw 0 rfl rfl 64 (by decide) (hts _ (List.mem_of_getElem? (i := 1) rfl)) rfl dX12_plan_1 ?_
  refine lv_aload_n hx hb dX12_plan_4 rfl (lv_at hl 0 rfl) ?_
  refine hk_get (ci := 15) (C := RX12) (T := TX12) (N := 92) (v := .int 0) hx hb hts iX12 hown hw 0 rfl rfl 58 (by decide) (hts _ (List.mem_of_getElem? (i := 2) rfl)) (congrArg (fun z => some (Value.int z)) h35) dX12_plan_5 ?_
  refine lv_iconst (v := 0) hx hb dX12_plan_8 (by decide) ?_
  refine hk_iast hx hb hw 20 0 rfl rfl (show ¬ (_ ∨ _) by decide) dX12_plan_9 (ws' := mw cI cJ ad g lg (va_up ar 19 (upd (ar 19) 0 0)) bk) rfl (fun H locs hw => ?_)
  refine lv_aload_n hx hb dX12_plan_10 rfl (lv_at hl 0 rfl) ?_
  refine hk_get (ci := 15) (C := RX12) (T := TX12) (N := 92) (v := .int 0) hx hb hts iX12 hown hw 0 rfl rfl 58 (by decide) (hts _ (List.mem_of_getElem? (i := 2) rfl)) (congrArg (fun z => some (Value.int z)) h35) dX12_plan_11 ?_
  refine lv_iconst (v := 1) hx hb dX12_plan_14 (by decide) ?_
  refine lv_isub hx hb dX12_plan_15 ?_
  refine hk_topi (-1) (by decide +kernel) ?_
  refine lv_istore_n (lv' := [(2, .int (-1)), (0, .ref (ad 0)), (1, .int 0)]) hx hb dX12_plan_16 rfl hl (by decide) rfl (fun ls hl => ?_)
  refine lv_iload_n hx hb dX12_plan_17 rfl (lv_at hl 0 rfl) ?_
  refine lv_iload_n hx hb dX12_plan_18 rfl (lv_at hl 2 rfl) ?_
  refine lv_icmp_lt (tgt := 161) hx hb dX12_plan_19 (by decide) (fun _ => ?_) (fun cc_1 => absurd (by decide) cc_1)
  exact hk_vret (u := (upd (ar 19) 0 0)) hx hb hr hlocks (hw) (trivial) dX12_plan_161

def ww_cn_putPart : List Cond := Cond.code yX12_putPart cX12_putPart 5 none :: ([Cond.fieldLink RX12 303 "LzmaChainsModel" "partEnd" "I", Cond.fieldLink RX12 360 "LzmaChainsModel" "level" "I", Cond.methodLink RX12 363 yX12_plan, Cond.instanceMethod yX12_plan, Cond.selects RX12 yX12_plan yX12_plan, Cond.initialized RX12, Cond.code yX12_plan cX12_plan 5 none, Cond.fieldLink RX12 89 "LzmaChainsModel" "cost" "[I"] ++ (wsX120 ++ ([])))
set_option maxRecDepth 20000 in
theorem gw_cn_putPart_0 : GoodIn ww_cn_putPart (wsV RX12 363 RX12 yX12_plan ww_cn_plan) := goodIn_r _ [3, 4, 5, 6, 7, 8, 1, 9, 10, 11, 12, 13, 14, 15, 16, 17, 18, 19, 20, 21, 22, 23, 24, 25, 26, 27, 28, 29, 30, 31, 32, 33, 34, 35, 36, 37, 38, 39, 40, 41, 42, 43, 44, 45, 46, 47, 48, 49, 50, 51, 52, 53, 54, 55, 56, 57, 58, 59, 60, 61, 62, 63, 64, 65, 66, 67, 68, 69, 70, 71, 72, 73, 74, 75, 76, 77, 78, 79, 80, 81, 82, 83, 84, 85, 86, 87, 88, 89, 90, 91, 92, 93, 94, 95, 96, 97, 98, 99, 100] rfl (by decide +kernel)
set_option maxHeartbeats 4000000 in
set_option maxRecDepth 100000 in
/-- the reference: putPart of nothing -/
theorem cn_putPart (l : Launch) (D : va_G) (cI cJ : ClassId) (ad : Nat → Nat) (g : Nat → Int32) (lg : Nat → Int64) (ar : Nat → Nat → Int32) (bk : Nat → Int64) (sz : Nat)  : Met l yX12_putPart ww_cn_putPart { frames := 1, cells := 0, slots := 0, locals := 24 } (va_Pc [.ref (ad 0), .int 0, .int 0] (hk_B D [(cI, .int), (cJ, .long)] sz (mw cI cJ ad g lg ar bk))) (va_Qv (fun u : (Nat → Int32) => True) (fun u : (Nat → Int32) => hk_E D [(cI, .int), (cJ, .long)] (va_A (mw cI cJ ad g lg ar bk) sz) (mw cI cJ ad (upd g 35 0) lg (va_up ar 19 u) bk)) (va_A (mw cI cJ ad g lg ar bk) sz)) 0 0 (va_A (mw cI cJ ad g lg ar bk) sz) := by
  refine hk_met (cc := cX12_putPart) (maxL := 5) (ret := none) (by decide) rfl (Nat.le_of_ble_eq_true rfl) ?_
  intro p e s m below meth c ls hx hb hr hml hown hts hlocks hin hA hw hl
  have iX12 : ∀ w ∈ wsX120, w ∈ ww_cn_putPart := fun _ h => List.mem_cons_of_mem _ (List.mem_append_right _ (List.mem_append_left _ h))
  have hl : lv_has ls 5 [(0, .ref (ad 0)), (1, .int 0), (2, .int 0)] := hl
  refine lv_aload_n hx hb dX12_putPart_0 rfl (lv_at hl 0 rfl) ?_
  refine lv_iload_n hx hb dX12_putPart_1 rfl (lv_at hl 2 rfl) ?_
  refine hk_put (ci := 15) (C := RX12) (T := TX12) (N := 92) (ty := .int) (v := .int 0) hx hb hts iX12 tyX12 tyX12_ok nmX12 hown hw 0 rfl rfl 58 (by decide) (hts _ (List.mem_of_getElem? (i := 1) rfl)) rfl (by decide +kernel) rfl rfl (Nat.le_of_ble_eq_true rfl) dX12_putPart_2 (ws' := mw cI cJ ad (upd g 35 0) lg ar bk) rfl (fun H locs hw => ?_)
  refine lv_aload_n hx hb dX12_putPart_5 rfl (lv_at hl 0 rfl) ?_
  refine hk_get (ci := 15) (C := RX12) (T := TX12) (N := 92) (v := .int (g 41)) hx hb hts iX12 hown hw 0 rfl rfl 67 (by decide) (hts _ (List.mem_of_getElem? (i := 2) rfl)) rfl dX12_putPart_6 ?_
  refine lv_iconst (v := 2) hx hb dX12_putPart_9 (by decide) ?_
  refine lv_icmp_ne (tgt := 18) hx hb dX12_putPart_10 (by decide) (fun cc_1 => ?_) (fun cc_1 => ?_)
  · refine lv_iload_n hx hb dX12_putPart_18 rfl (lv_at hl 1 rfl) ?_
    refine lv_istore_n (lv' := [(3, .int 0), (0, .ref (ad 0)), (1, .int 0), (2, .int 0)]) hx hb dX12_putPart_19 rfl hl (by decide) rfl (fun ls hl => ?_)
    refine lv_iload_n hx hb dX12_putPart_20 rfl (lv_at hl 0 rfl) ?_
    refine lv_iload_n hx hb dX12_putPart_21 rfl (lv_at hl 3 rfl) ?_
    refine lv_icmp_ge (tgt := 183) hx hb dX12_putPart_22 (by decide) (fun _ => ?_) (fun cc_2 => absurd (by decide) cc_2)
    exact hk_vret (u := (ar 19)) hx hb hr hlocks (show hk_W D [(cI, .int), (cJ, .long)] _ s _ _ (mw cI cJ ad (upd g 35 0) lg (va_up ar 19 (ar 19)) bk) from hw) (trivial) dX12_putPart_183
  · refine lv_aload_n hx hb dX12_putPart_13 rfl (lv_at hl 0 rfl) ?_
    refine lv_iload_n hx hb dX12_putPart_14 rfl (lv_at hl 1 rfl) ?_
    refine hk_Vv (As := [.int 0]) (rest := []) ⟨hx, hb, hml, hown, hts⟩ hw hA (cn_plan l D cI cJ ad (upd g 35 0) lg ar bk _ rfl) (cwV 1 hts gw_cn_putPart_0 rfl rfl rfl (by decide +kernel) ⟨Nat.le_of_ble_eq_true rfl, Nat.le_of_ble_eq_true rfl⟩) 0 (ci := 15) (T := TX12) (N := 92) rfl rfl rfl hl.1 rfl (Nat.le_of_ble_eq_true rfl) dX12_putPart_15 ⟨Nat.le_of_ble_eq_true rfl, Nat.le_of_ble_eq_true rfl⟩ (fun uu_4 H locs hp_5 hw => ?_)
    have hw : hk_W D [(cI, .int), (cJ, .long)] _ s _ _ (mw cI cJ ad (upd g 35 0) lg (va_up ar 19 uu_4) bk) := hw
    refine lv_iload_n hx hb dX12_putPart_18 rfl (lv_at hl 1 rfl) ?_
    refine lv_istore_n (lv' := [(3, .int 0), (0, .ref (ad 0)), (1, .int 0), (2, .int 0)]) hx hb dX12_putPart_19 rfl hl (by decide) rfl (fun ls hl => ?_)
    refine lv_iload_n hx hb dX12_putPart_20 rfl (lv_at hl 0 rfl) ?_
    refine lv_iload_n hx hb dX12_putPart_21 rfl (lv_at hl 3 rfl) ?_
    refine lv_icmp_ge (tgt := 183) hx hb dX12_putPart_22 (by decide) (fun _ => ?_) (fun cc_6 => absurd (by decide) cc_6)
    exact hk_vret (u := uu_4) hx hb hr hlocks (hw) (trivial) dX12_putPart_183

def ww_cn_packPlain : List Cond := Cond.code yX12_packPlain cX12_packPlain 2 none :: ([Cond.methodLink RX12 397 yX12_propertyByte, Cond.instanceMethod yX12_propertyByte, Cond.selects RX12 yX12_propertyByte yX12_propertyByte, Cond.initialized RX12, Cond.code yX12_propertyByte cX12_propertyByte 1 (some .int), Cond.fieldLink RX12 13 "LzmaChainsModel" "pb" "I", Cond.fieldLink RX12 114 "LzmaChainsModel" "lp" "I", Cond.fieldLink RX12 7 "LzmaChainsModel" "lc" "I", Cond.methodLink RX12 394 yX12_put, Cond.instanceMethod yX12_put, Cond.selects RX12 yX12_put yX12_put, Cond.code yX12_put cX12_put 2 none, Cond.fieldLink RX12 391 "LzmaChainsModel" "rowSize" "I", Cond.fieldLink RX12 98 "LzmaChainsModel" "row" "[I", Cond.fieldLink RX12 16 "LzmaChainsModel" "dictionary" "I", Cond.methodLink RX12 400 yX12_putWide, Cond.instanceMethod yX12_putWide, Cond.selects RX12 yX12_putWide yX12_putWide, Cond.code yX12_putWide cX12_putWide 5 none, Cond.fieldLink RX12 117 "LzmaChainsModel" "mark" "I", Cond.fieldLink RX12 126 "LzmaChainsModel" "inSize" "I", Cond.fieldLink RX12 208 "LzmaChainsModel" "srcSize" "I", Cond.fieldLink RX12 372 "LzmaChainsModel" "stepBase" "I", Cond.methodLink RX12 404 yX12_takeProperties, Cond.instanceMethod yX12_takeProperties, Cond.selects RX12 yX12_takeProperties yX12_takeProperties, Cond.code yX12_takeProperties cX12_takeProperties 1 none, Cond.fieldLink RX12 258 "LzmaChainsModel" "nowLc" "I", Cond.fieldLink RX12 255 "LzmaChainsModel" "nowLp" "I", Cond.fieldLink RX12 252 "LzmaChainsModel" "nowPb" "I", Cond.methodLink RX12 407 yX12_freshState, Cond.instanceMethod yX12_freshState, Cond.selects RX12 yX12_freshState yX12_freshState, Cond.code yX12_freshState cX12_freshState 2 none, Cond.fieldLink RX12 231 "LzmaChainsModel" "st" "I", Cond.fieldLink RX12 234 "LzmaChainsModel" "back0" "I", Cond.fieldLink RX12 237 "LzmaChainsModel" "back1" "I", Cond.fieldLink RX12 240 "LzmaChainsModel" "back2" "I", Cond.fieldLink RX12 243 "LzmaChainsModel" "back3" "I", Cond.fieldLink RX12 80 "LzmaChainsModel" "chance" "[I", Cond.fieldLink RX12 249 "LzmaChainsModel" "pos" "I", Cond.methodLink RX12 410 yX12_beginCoder, Cond.instanceMethod yX12_beginCoder, Cond.selects RX12 yX12_beginCoder yX12_beginCoder, Cond.code yX12_beginCoder cX12_beginCoder 1 none, Cond.fieldLink RX12 261 "LzmaChainsModel" "pkSize" "I", Cond.fieldLink RX12 264 "LzmaChainsModel" "low" "J", Cond.constantLong RX12 267 4294967295, Cond.fieldLink RX12 269 "LzmaChainsModel" "range" "J", Cond.fieldLink RX12 272 "LzmaChainsModel" "held" "I", Cond.fieldLink RX12 275 "LzmaChainsModel" "waits" "I", Cond.methodLink RX12 413 yX12_putPart, Cond.instanceMethod yX12_putPart, Cond.selects RX12 yX12_putPart yX12_putPart, Cond.code yX12_putPart cX12_putPart 5 none, Cond.fieldLink RX12 303 "LzmaChainsModel" "partEnd" "I", Cond.fieldLink RX12 360 "LzmaChainsModel" "level" "I", Cond.methodLink RX12 363 yX12_plan, Cond.instanceMethod yX12_plan, Cond.selects RX12 yX12_plan yX12_plan, Cond.code yX12_plan cX12_plan 5 none, Cond.fieldLink RX12 89 "LzmaChainsModel" "cost" "[I", Cond.methodLink RX12 416 yX12_endCoder, Cond.instanceMethod yX12_endCoder, Cond.selects RX12 yX12_endCoder yX12_endCoder, Cond.code yX12_endCoder cX12_endCoder 2 none, Cond.methodLink RX12 286 yX12_shift, Cond.instanceMethod yX12_shift, Cond.selects RX12 yX12_shift yX12_shift, Cond.code yX12_shift cX12_shift 3 none, Cond.constantLong RX12 278 4278190080, Cond.constantLong RX12 280 4294967296, Cond.fieldLink RX12 86 "LzmaChainsModel" "pk" "[I", Cond.constantLong RX12 282 16777215] ++ (wsX120 ++ ([])))
set_option maxRecDepth 20000 in
theorem gw_cn_packPlain_0 : GoodIn ww_cn_packPlain (wsV RX12 397 RX12 yX12_propertyByte ww_cn_propByte) := goodIn_r _ [1, 2, 3, 4, 5, 6, 7, 8, 75, 76, 77, 78, 79, 80, 81, 82, 83, 84, 85, 86, 87, 88, 89, 90, 91, 92, 93, 94, 95, 96, 97, 98, 99, 100, 101, 102, 103, 104, 105, 106, 107, 108, 109, 110, 111, 112, 113, 114, 115, 116, 117, 118, 119, 120, 121, 122, 123, 124, 125, 126, 127, 128, 129, 130, 131, 132, 133, 134, 135, 136, 137, 138, 139, 140, 141, 142, 143, 144, 145, 146, 147, 148, 149, 150, 151, 152, 153, 154, 155, 156, 157, 158, 159, 160, 161, 162, 163, 164, 165, 166] rfl (by decide +kernel)
set_option maxRecDepth 20000 in
theorem gw_cn_packPlain_1 : GoodIn ww_cn_packPlain (wsV RX12 394 RX12 yX12_put ww_cn_put0) := goodIn_r _ [9, 10, 11, 4, 12, 13, 14, 75, 76, 77, 78, 79, 80, 81, 82, 83, 84, 85, 86, 87, 88, 89, 90, 91, 92, 93, 94, 95, 96, 97, 98, 99, 100, 101, 102, 103, 104, 105, 106, 107, 108, 109, 110, 111, 112, 113, 114, 115, 116, 117, 118, 119, 120, 121, 122, 123, 124, 125, 126, 127, 128, 129, 130, 131, 132, 133, 134, 135, 136, 137, 138, 139, 140, 141, 142, 143, 144, 145, 146, 147, 148, 149, 150, 151, 152, 153, 154, 155, 156, 157, 158, 159, 160, 161, 162, 163, 164, 165, 166] rfl (by decide +kernel)
set_option maxRecDepth 20000 in
theorem gw_cn_packPlain_2 : GoodIn ww_cn_packPlain (wsV RX12 400 RX12 yX12_putWide ww_cn_wide1_4) := goodIn_r _ [16, 17, 18, 4, 19, 9, 10, 11, 4, 12, 13, 14, 75, 76, 77, 78, 79, 80, 81, 82, 83, 84, 85, 86, 87, 88, 89, 90, 91, 92, 93, 94, 95, 96, 97, 98, 99, 100, 101, 102, 103, 104, 105, 106, 107, 108, 109, 110, 111, 112, 113, 114, 115, 116, 117, 118, 119, 120, 121, 122, 123, 124, 125, 126, 127, 128, 129, 130, 131, 132, 133, 134, 135, 136, 137, 138, 139, 140, 141, 142, 143, 144, 145, 146, 147, 148, 149, 150, 151, 152, 153, 154, 155, 156, 157, 158, 159, 160, 161, 162, 163, 164, 165, 166] rfl (by decide +kernel)
set_option maxRecDepth 20000 in
theorem gw_cn_packPlain_3 : GoodIn ww_cn_packPlain (wsV RX12 400 RX12 yX12_putWide ww_cn_wide5_8) := goodIn_r _ [16, 17, 18, 4, 19, 9, 10, 11, 4, 12, 13, 14, 75, 76, 77, 78, 79, 80, 81, 82, 83, 84, 85, 86, 87, 88, 89, 90, 91, 92, 93, 94, 95, 96, 97, 98, 99, 100, 101, 102, 103, 104, 105, 106, 107, 108, 109, 110, 111, 112, 113, 114, 115, 116, 117, 118, 119, 120, 121, 122, 123, 124, 125, 126, 127, 128, 129, 130, 131, 132, 133, 134, 135, 136, 137, 138, 139, 140, 141, 142, 143, 144, 145, 146, 147, 148, 149, 150, 151, 152, 153, 154, 155, 156, 157, 158, 159, 160, 161, 162, 163, 164, 165, 166] rfl (by decide +kernel)
set_option maxRecDepth 20000 in
theorem gw_cn_packPlain_4 : GoodIn ww_cn_packPlain (wsV RX12 404 RX12 yX12_takeProperties ww_cn_take) := goodIn_r _ [24, 25, 26, 4, 27, 8, 28, 7, 29, 6, 30, 75, 76, 77, 78, 79, 80, 81, 82, 83, 84, 85, 86, 87, 88, 89, 90, 91, 92, 93, 94, 95, 96, 97, 98, 99, 100, 101, 102, 103, 104, 105, 106, 107, 108, 109, 110, 111, 112, 113, 114, 115, 116, 117, 118, 119, 120, 121, 122, 123, 124, 125, 126, 127, 128, 129, 130, 131, 132, 133, 134, 135, 136, 137, 138, 139, 140, 141, 142, 143, 144, 145, 146, 147, 148, 149, 150, 151, 152, 153, 154, 155, 156, 157, 158, 159, 160, 161, 162, 163, 164, 165, 166] rfl (by decide +kernel)
set_option maxRecDepth 20000 in
theorem gw_cn_packPlain_5 : GoodIn ww_cn_packPlain (wsV RX12 407 RX12 yX12_freshState ww_cn_fresh) := goodIn_r _ [31, 32, 33, 4, 34, 35, 36, 37, 38, 39, 40, 75, 76, 77, 78, 79, 80, 81, 82, 83, 84, 85, 86, 87, 88, 89, 90, 91, 92, 93, 94, 95, 96, 97, 98, 99, 100, 101, 102, 103, 104, 105, 106, 107, 108, 109, 110, 111, 112, 113, 114, 115, 116, 117, 118, 119, 120, 121, 122, 123, 124, 125, 126, 127, 128, 129, 130, 131, 132, 133, 134, 135, 136, 137, 138, 139, 140, 141, 142, 143, 144, 145, 146, 147, 148, 149, 150, 151, 152, 153, 154, 155, 156, 157, 158, 159, 160, 161, 162, 163, 164, 165, 166] rfl (by decide +kernel)
set_option maxRecDepth 20000 in
theorem gw_cn_packPlain_6 : GoodIn ww_cn_packPlain (wsV RX12 410 RX12 yX12_beginCoder ww_cn_beginCoder) := goodIn_r _ [42, 43, 44, 4, 45, 46, 47, 48, 49, 50, 51, 75, 76, 77, 78, 79, 80, 81, 82, 83, 84, 85, 86, 87, 88, 89, 90, 91, 92, 93, 94, 95, 96, 97, 98, 99, 100, 101, 102, 103, 104, 105, 106, 107, 108, 109, 110, 111, 112, 113, 114, 115, 116, 117, 118, 119, 120, 121, 122, 123, 124, 125, 126, 127, 128, 129, 130, 131, 132, 133, 134, 135, 136, 137, 138, 139, 140, 141, 142, 143, 144, 145, 146, 147, 148, 149, 150, 151, 152, 153, 154, 155, 156, 157, 158, 159, 160, 161, 162, 163, 164, 165, 166] rfl (by decide +kernel)
set_option maxRecDepth 20000 in
theorem gw_cn_packPlain_7 : GoodIn ww_cn_packPlain (wsV RX12 413 RX12 yX12_putPart ww_cn_putPart) := goodIn_r _ [52, 53, 54, 4, 55, 56, 57, 58, 59, 60, 4, 61, 62, 75, 76, 77, 78, 79, 80, 81, 82, 83, 84, 85, 86, 87, 88, 89, 90, 91, 92, 93, 94, 95, 96, 97, 98, 99, 100, 101, 102, 103, 104, 105, 106, 107, 108, 109, 110, 111, 112, 113, 114, 115, 116, 117, 118, 119, 120, 121, 122, 123, 124, 125, 126, 127, 128, 129, 130, 131, 132, 133, 134, 135, 136, 137, 138, 139, 140, 141, 142, 143, 144, 145, 146, 147, 148, 149, 150, 151, 152, 153, 154, 155, 156, 157, 158, 159, 160, 161, 162, 163, 164, 165, 166] rfl (by decide +kernel)
set_option maxRecDepth 20000 in
theorem gw_cn_packPlain_8 : GoodIn ww_cn_packPlain (wsV RX12 416 RX12 yX12_endCoder ww_cn_endCoder) := goodIn_r _ [63, 64, 65, 4, 66, 67, 68, 69, 4, 70, 47, 71, 72, 50, 51, 73, 46, 74, 75, 76, 77, 78, 79, 80, 81, 82, 83, 84, 85, 86, 87, 88, 89, 90, 91, 92, 93, 94, 95, 96, 97, 98, 99, 100, 101, 102, 103, 104, 105, 106, 107, 108, 109, 110, 111, 112, 113, 114, 115, 116, 117, 118, 119, 120, 121, 122, 123, 124, 125, 126, 127, 128, 129, 130, 131, 132, 133, 134, 135, 136, 137, 138, 139, 140, 141, 142, 143, 144, 145, 146, 147, 148, 149, 150, 151, 152, 153, 154, 155, 156, 157, 158, 159, 160, 161, 162, 163, 164, 165, 166] rfl (by decide +kernel)
set_option maxRecDepth 20000 in
theorem gw_cn_packPlain_9 : GoodIn ww_cn_packPlain (wsV RX12 394 RX12 yX12_put ww_cn_put13) := goodIn_r _ [9, 10, 11, 4, 12, 13, 14, 75, 76, 77, 78, 79, 80, 81, 82, 83, 84, 85, 86, 87, 88, 89, 90, 91, 92, 93, 94, 95, 96, 97, 98, 99, 100, 101, 102, 103, 104, 105, 106, 107, 108, 109, 110, 111, 112, 113, 114, 115, 116, 117, 118, 119, 120, 121, 122, 123, 124, 125, 126, 127, 128, 129, 130, 131, 132, 133, 134, 135, 136, 137, 138, 139, 140, 141, 142, 143, 144, 145, 146, 147, 148, 149, 150, 151, 152, 153, 154, 155, 156, 157, 158, 159, 160, 161, 162, 163, 164, 165, 166] rfl (by decide +kernel)
set_option maxRecDepth 20000 in
theorem gw_cn_packPlain_10 : GoodIn ww_cn_packPlain (wsV RX12 394 RX12 yX12_put ww_cn_put14) := goodIn_r _ [9, 10, 11, 4, 12, 13, 14, 75, 76, 77, 78, 79, 80, 81, 82, 83, 84, 85, 86, 87, 88, 89, 90, 91, 92, 93, 94, 95, 96, 97, 98, 99, 100, 101, 102, 103, 104, 105, 106, 107, 108, 109, 110, 111, 112, 113, 114, 115, 116, 117, 118, 119, 120, 121, 122, 123, 124, 125, 126, 127, 128, 129, 130, 131, 132, 133, 134, 135, 136, 137, 138, 139, 140, 141, 142, 143, 144, 145, 146, 147, 148, 149, 150, 151, 152, 153, 154, 155, 156, 157, 158, 159, 160, 161, 162, 163, 164, 165, 166] rfl (by decide +kernel)
set_option maxRecDepth 20000 in
theorem gw_cn_packPlain_11 : GoodIn ww_cn_packPlain (wsV RX12 394 RX12 yX12_put ww_cn_put15) := goodIn_r _ [9, 10, 11, 4, 12, 13, 14, 75, 76, 77, 78, 79, 80, 81, 82, 83, 84, 85, 86, 87, 88, 89, 90, 91, 92, 93, 94, 95, 96, 97, 98, 99, 100, 101, 102, 103, 104, 105, 106, 107, 108, 109, 110, 111, 112, 113, 114, 115, 116, 117, 118, 119, 120, 121, 122, 123, 124, 125, 126, 127, 128, 129, 130, 131, 132, 133, 134, 135, 136, 137, 138, 139, 140, 141, 142, 143, 144, 145, 146, 147, 148, 149, 150, 151, 152, 153, 154, 155, 156, 157, 158, 159, 160, 161, 162, 163, 164, 165, 166] rfl (by decide +kernel)
set_option maxRecDepth 20000 in
theorem gw_cn_packPlain_12 : GoodIn ww_cn_packPlain (wsV RX12 394 RX12 yX12_put ww_cn_put16) := goodIn_r _ [9, 10, 11, 4, 12, 13, 14, 75, 76, 77, 78, 79, 80, 81, 82, 83, 84, 85, 86, 87, 88, 89, 90, 91, 92, 93, 94, 95, 96, 97, 98, 99, 100, 101, 102, 103, 104, 105, 106, 107, 108, 109, 110, 111, 112, 113, 114, 115, 116, 117, 118, 119, 120, 121, 122, 123, 124, 125, 126, 127, 128, 129, 130, 131, 132, 133, 134, 135, 136, 137, 138, 139, 140, 141, 142, 143, 144, 145, 146, 147, 148, 149, 150, 151, 152, 153, 154, 155, 156, 157, 158, 159, 160, 161, 162, 163, 164, 165, 166] rfl (by decide +kernel)
set_option maxRecDepth 20000 in
theorem gw_cn_packPlain_13 : GoodIn ww_cn_packPlain (wsV RX12 394 RX12 yX12_put ww_cn_put17) := goodIn_r _ [9, 10, 11, 4, 12, 13, 14, 75, 76, 77, 78, 79, 80, 81, 82, 83, 84, 85, 86, 87, 88, 89, 90, 91, 92, 93, 94, 95, 96, 97, 98, 99, 100, 101, 102, 103, 104, 105, 106, 107, 108, 109, 110, 111, 112, 113, 114, 115, 116, 117, 118, 119, 120, 121, 122, 123, 124, 125, 126, 127, 128, 129, 130, 131, 132, 133, 134, 135, 136, 137, 138, 139, 140, 141, 142, 143, 144, 145, 146, 147, 148, 149, 150, 151, 152, 153, 154, 155, 156, 157, 158, 159, 160, 161, 162, 163, 164, 165, 166] rfl (by decide +kernel)
set_option maxHeartbeats 4000000 in
set_option maxRecDepth 100000 in
/-- the reference: packPlain of nothing -/
theorem cn_packPlain (l : Launch) (D : va_G) (cI cJ : ClassId) (ad : Nat → Nat) (g : Nat → Int32) (lg : Nat → Int64) (ar : Nat → Nat → Int32) (bk : Nat → Int64) (sz : Nat)  (h42 : g 42 = 0) (h9 : g 9 = 0) (h12 : g 12 = 0) : Met l yX12_packPlain ww_cn_packPlain { frames := 2, cells := 0, slots := 0, locals := 48 } (va_Pc [.ref (ad 0)] (hk_B D [(cI, .int), (cJ, .long)] sz (mw cI cJ ad g lg ar bk))) (va_Qv (fun u : (Nat → Int32) × (Nat → Int32) × (Nat → Int32) × (Nat → Int32) => True) (fun u : (Nat → Int32) × (Nat → Int32) × (Nat → Int32) × (Nat → Int32) => hk_E D [(cI, .int), (cJ, .long)] (va_A (mw cI cJ ad g lg ar bk) sz) (mw cI cJ ad (upd (upd (upd (upd (upd (upd (upd (upd (upd (upd (upd (upd (upd (upd (upd (upd g 42 18) 17 0) 19 0) 29 (g 2)) 30 (g 3)) 31 (g 4)) 23 0) 24 1) 25 1) 26 1) 27 1) 28 0) 32 5) 33 0) 34 1) 35 0) (vp_updL (vp_updL lg 2 0) 3 4294967295) (va_up (va_up (va_up (va_up ar 22 u.1) 16 u.2.1) 18 u.2.2.1) 19 u.2.2.2) bk)) (va_A (mw cI cJ ad g lg ar bk) sz)) 0 0 (va_A (mw cI cJ ad g lg ar bk) sz) := by
  refine hk_met (cc := cX12_packPlain) (maxL := 2) (ret := none) (by decide) rfl (Nat.le_of_ble_eq_true rfl) ?_
  intro p e s m below meth c ls hx hb hr hml hown hts hlocks hin hA hw hl
  have iX12 : ∀ w ∈ wsX120, w ∈ ww_cn_packPlain := fun _ h => List.mem_cons_of_mem _ (List.mem_append_right _ (List.mem_append_left _ h))
  have hl : lv_has ls 2 [(0, .ref (ad 0))] := hl
  refine lv_aload_n hx hb dX12_packPlain_0 rfl (lv_at hl 0 rfl) ?_
  refine lv_aload_n hx hb dX12_packPlain_1 rfl (lv_at hl 0 rfl) ?_
  refine hk_Vi (As := []) (rest := [.ref (ad 0)]) ⟨hx, hb, hml, hown, hts⟩ hw hA (cn_propByte l D cI cJ ad g lg ar bk _) (cwV 0 hts gw_cn_packPlain_0 rfl rfl rfl (by decide +kernel) ⟨Nat.le_of_ble_eq_true rfl, Nat.le_of_ble_eq_true rfl⟩) 0 (ci := 15) (T := TX12) (N := 92) rfl rfl rfl hl.1 rfl (Nat.le_of_ble_eq_true rfl) dX12_packPlain_2 ⟨Nat.le_of_ble_eq_true rfl, Nat.le_of_ble_eq_true rfl⟩ (fun rr_1 uu_2 H locs hp_3 hw => ?_)
  have hw : hk_W D [(cI, .int), (cJ, .long)] _ s _ _ (mw cI cJ ad g lg ar bk) := hw
  refine hk_Vv (As := [.int rr_1]) (rest := []) ⟨hx, hb, hml, hown, hts⟩ hw hA (cn_put0 l D cI cJ ad g lg ar bk _ rr_1 h42) (cwV 1 hts gw_cn_packPlain_1 rfl rfl rfl (by decide +kernel) ⟨Nat.le_of_ble_eq_true rfl, Nat.le_of_ble_eq_true rfl⟩) 0 (ci := 15) (T := TX12) (N := 92) rfl rfl rfl hl.1 rfl (Nat.le_of_ble_eq_true rfl) dX12_packPlain_5 ⟨Nat.le_of_ble_eq_true rfl, Nat.le_of_ble_eq_true rfl⟩ (fun uu_5 H locs hp_6 hw => ?_)
  have hw : hk_W D [(cI, .int), (cJ, .long)] _ s _ _ (mw cI cJ ad (upd g 42 1) lg (va_up ar 22 uu_5) bk) := hw
  refine lv_aload_n hx hb dX12_packPlain_8 rfl (lv_at hl 0 rfl) ?_
  refine lv_aload_n hx hb dX12_packPlain_9 rfl (lv_at hl 0 rfl) ?_
  refine hk_get (ci := 15) (C := RX12) (T := TX12) (N := 92) (v := .int (g 5)) hx hb hts iX12 hown hw 0 rfl rfl 5 (by decide) (hts _ (List.mem_of_getElem? (i := 15) rfl)) rfl dX12_packPlain_10 ?_
  refine lv_i2l (v := ((g 5) : Int32).toInt64) hx hb dX12_packPlain_13 rfl ?_
  refine lv_iconst (v := 4) hx hb dX12_packPlain_14 (by decide) ?_
  refine hk_Vv (As := [.long (((g 5) : Int32).toInt64), .int 4]) (rest := []) ⟨hx, hb, hml, hown, hts⟩ hw hA (cn_wide1_4 l D cI cJ ad (upd g 42 1) lg (va_up ar 22 uu_5) bk _ (((g 5) : Int32).toInt64) rfl) (cwV 2 hts gw_cn_packPlain_2 rfl rfl rfl (by decide +kernel) ⟨Nat.le_of_ble_eq_true rfl, Nat.le_of_ble_eq_true rfl⟩) 0 (ci := 15) (T := TX12) (N := 92) rfl rfl rfl hl.1 rfl (Nat.le_of_ble_eq_true rfl) dX12_packPlain_15 ⟨Nat.le_of_ble_eq_true rfl, Nat.le_of_ble_eq_true rfl⟩ (fun uu_8 H locs hp_9 hw => ?_)
  have hw : hk_W D [(cI, .int), (cJ, .long)] _ s _ _ (mw cI cJ ad (upd g 42 5) lg (va_up ar 22 uu_8) bk) := hw
  refine lv_aload_n hx hb dX12_packPlain_18 rfl (lv_at hl 0 rfl) ?_
  refine lv_aload_n hx hb dX12_packPlain_19 rfl (lv_at hl 0 rfl) ?_
  refine hk_get (ci := 15) (C := RX12) (T := TX12) (N := 92) (v := .int 0) hx hb hts iX12 hown hw 0 rfl rfl 9 (by decide) (hts _ (List.mem_of_getElem? (i := 20) rfl)) (congrArg (fun z => some (Value.int z)) h9) dX12_packPlain_20 ?_
  refine lv_iconst (v := 1) hx hb dX12_packPlain_23 (by decide) ?_
  refine lv_icmp_ne (tgt := 33) hx hb dX12_packPlain_24 (by decide) (fun _ => ?_) (fun cc_10 => absurd cc_10 (by decide))
  refine lv_aload_n hx hb dX12_packPlain_33 rfl (lv_at hl 0 rfl) ?_
  refine hk_get (ci := 15) (C := RX12) (T := TX12) (N := 92) (v := .int 0) hx hb hts iX12 hown hw 0 rfl rfl 13 (by decide) (hts _ (List.mem_of_getElem? (i := 21) rfl)) (congrArg (fun z => some (Value.int z)) h12) dX12_packPlain_34 ?_
  refine lv_i2l (v := (0 : Int32).toInt64) hx hb dX12_packPlain_37 rfl ?_
  refine hk_topl 0 (by decide +kernel) ?_
  refine lv_bipush (v := 8) hx hb dX12_packPlain_38 (by decide) ?_
  refine hk_Vv (As := [.long 0, .int 8]) (rest := []) ⟨hx, hb, hml, hown, hts⟩ hw hA (cn_wide5_8 l D cI cJ ad (upd g 42 5) lg (va_up ar 22 uu_8) bk _ 0 rfl) (cwV 2 hts gw_cn_packPlain_3 rfl rfl rfl (by decide +kernel) ⟨Nat.le_of_ble_eq_true rfl, Nat.le_of_ble_eq_true rfl⟩) 0 (ci := 15) (T := TX12) (N := 92) rfl rfl rfl hl.1 rfl (Nat.le_of_ble_eq_true rfl) dX12_packPlain_40 ⟨Nat.le_of_ble_eq_true rfl, Nat.le_of_ble_eq_true rfl⟩ (fun uu_12 H locs hp_13 hw => ?_)
  have hw : hk_W D [(cI, .int), (cJ, .long)] _ s _ _ (mw cI cJ ad (upd g 42 13) lg (va_up ar 22 uu_12) bk) := hw
  refine lv_aload_n hx hb dX12_packPlain_43 rfl (lv_at hl 0 rfl) ?_
  refine lv_aload_n hx hb dX12_packPlain_44 rfl (lv_at hl 0 rfl) ?_
  refine hk_get (ci := 15) (C := RX12) (T := TX12) (N := 92) (v := .int 0) hx hb hts iX12 hown hw 0 rfl rfl 13 (by decide) (hts _ (List.mem_of_getElem? (i := 21) rfl)) (congrArg (fun z => some (Value.int z)) h12) dX12_packPlain_45 ?_
  refine hk_put (ci := 15) (C := RX12) (T := TX12) (N := 92) (ty := .int) (v := .int 0) hx hb hts iX12 tyX12 tyX12_ok nmX12 hown hw 0 rfl rfl 26 (by decide) (hts _ (List.mem_of_getElem? (i := 22) rfl)) rfl (by decide +kernel) rfl rfl (Nat.le_of_ble_eq_true rfl) dX12_packPlain_48 (ws' := mw cI cJ ad (upd (upd g 42 13) 17 0) lg (va_up ar 22 uu_12) bk) rfl (fun H locs hw => ?_)
  refine lv_iconst (v := 0) hx hb dX12_packPlain_51 (by decide) ?_
  refine lv_istore_n (lv' := [(1, .int 0), (0, .ref (ad 0))]) hx hb dX12_packPlain_52 rfl hl (by decide) rfl (fun ls hl => ?_)
  refine lv_iload_n hx hb dX12_packPlain_53 rfl (lv_at hl 0 rfl) ?_
  refine lv_aload_n hx hb dX12_packPlain_54 rfl (lv_at hl 1 rfl) ?_
  refine hk_get (ci := 15) (C := RX12) (T := TX12) (N := 92) (v := .int 0) hx hb hts iX12 hown hw 0 rfl rfl 13 (by decide) (hts _ (List.mem_of_getElem? (i := 21) rfl)) (congrArg (fun z => some (Value.int z)) h12) dX12_packPlain_55 ?_
  refine lv_icmp_ge (tgt := 79) hx hb dX12_packPlain_58 (by decide) (fun _ => ?_) (fun cc_14 => absurd (by decide) cc_14)
  refine lv_aload_n hx hb dX12_packPlain_79 rfl (lv_at hl 1 rfl) ?_
  refine lv_iconst (v := 0) hx hb dX12_packPlain_80 (by decide) ?_
  refine hk_put (ci := 15) (C := RX12) (T := TX12) (N := 92) (ty := .int) (v := .int 0) hx hb hts iX12 tyX12 tyX12_ok nmX12 hown hw 0 rfl rfl 32 (by decide) (hts _ (List.mem_of_getElem? (i := 23) rfl)) rfl (by decide +kernel) rfl rfl (Nat.le_of_ble_eq_true rfl) dX12_packPlain_81 (ws' := mw cI cJ ad (upd (upd (upd g 42 13) 17 0) 19 0) lg (va_up ar 22 uu_12) bk) rfl (fun H locs hw => ?_)
  refine lv_aload_n hx hb dX12_packPlain_84 rfl (lv_at hl 1 rfl) ?_
  refine hk_Vv (As := []) (rest := []) ⟨hx, hb, hml, hown, hts⟩ hw hA (cn_take l D cI cJ ad (upd (upd (upd g 42 13) 17 0) 19 0) lg (va_up ar 22 uu_12) bk _) (cwV 0 hts gw_cn_packPlain_4 rfl rfl rfl (by decide +kernel) ⟨Nat.le_of_ble_eq_true rfl, Nat.le_of_ble_eq_true rfl⟩) 0 (ci := 15) (T := TX12) (N := 92) rfl rfl rfl hl.1 rfl (Nat.le_of_ble_eq_true rfl) dX12_packPlain_85 ⟨Nat.le_of_ble_eq_true rfl, Nat.le_of_ble_eq_true rfl⟩ (fun uu_16 H locs hp_17 hw => ?_)
  have hw : hk_W D [(cI, .int), (cJ, .long)] _ s _ _ (mw cI cJ ad (upd (upd (upd (upd (upd (upd g 42 13) 17 0) 19 0) 29 (g 2)) 30 (g 3)) 31 (g 4)) lg (va_up ar 22 uu_12) bk) := hw
  refine lv_aload_n hx hb dX12_packPlain_88 rfl (lv_at hl 1 rfl) ?_
  refine hk_Vv (As := []) (rest := []) ⟨hx, hb, hml, hown, hts⟩ hw hA (cn_fresh l D cI cJ ad (upd (upd (upd (upd (upd (upd g 42 13) 17 0) 19 0) 29 (g 2)) 30 (g 3)) 31 (g 4)) lg (va_up ar 22 uu_12) bk _) (cwV 0 hts gw_cn_packPlain_5 rfl rfl rfl (by decide +kernel) ⟨Nat.le_of_ble_eq_true rfl, Nat.le_of_ble_eq_true rfl⟩) 0 (ci := 15) (T := TX12) (N := 92) rfl rfl rfl hl.1 rfl (Nat.le_of_ble_eq_true rfl) dX12_packPlain_89 ⟨Nat.le_of_ble_eq_true rfl, Nat.le_of_ble_eq_true rfl⟩ (fun uu_19 H locs hp_20 hw => ?_)
  have hw : hk_W D [(cI, .int), (cJ, .long)] _ s _ _ (mw cI cJ ad (upd (upd (upd (upd (upd (upd (upd (upd (upd (upd (upd g 42 13) 17 0) 19 0) 29 (g 2)) 30 (g 3)) 31 (g 4)) 23 0) 24 1) 25 1) 26 1) 27 1) lg (va_up (va_up ar 22 uu_12) 16 uu_19) bk) := hw
  refine lv_aload_n hx hb dX12_packPlain_92 rfl (lv_at hl 1 rfl) ?_
  refine lv_iconst (v := 0) hx hb dX12_packPlain_93 (by decide) ?_
  refine hk_put (ci := 15) (C := RX12) (T := TX12) (N := 92) (ty := .int) (v := .int 0) hx hb hts iX12 tyX12 tyX12_ok nmX12 hown hw 0 rfl rfl 48 (by decide) (hts _ (List.mem_of_getElem? (i := 41) rfl)) rfl (by decide +kernel) rfl rfl (Nat.le_of_ble_eq_true rfl) dX12_packPlain_94 (ws' := mw cI cJ ad (upd (upd (upd (upd (upd (upd (upd (upd (upd (upd (upd (upd g 42 13) 17 0) 19 0) 29 (g 2)) 30 (g 3)) 31 (g 4)) 23 0) 24 1) 25 1) 26 1) 27 1) 28 0) lg (va_up (va_up ar 22 uu_12) 16 uu_19) bk) rfl (fun H locs hw => ?_)
  refine lv_aload_n hx hb dX12_packPlain_97 rfl (lv_at hl 1 rfl) ?_
  refine hk_Vv (As := []) (rest := []) ⟨hx, hb, hml, hown, hts⟩ hw hA (cn_beginCoder l D cI cJ ad (upd (upd (upd (upd (upd (upd (upd (upd (upd (upd (upd (upd g 42 13) 17 0) 19 0) 29 (g 2)) 30 (g 3)) 31 (g 4)) 23 0) 24 1) 25 1) 26 1) 27 1) 28 0) lg (va_up (va_up ar 22 uu_12) 16 uu_19) bk _) (cwV 0 hts gw_cn_packPlain_6 rfl rfl rfl (by decide +kernel) ⟨Nat.le_of_ble_eq_true rfl, Nat.le_of_ble_eq_true rfl⟩) 0 (ci := 15) (T := TX12) (N := 92) rfl rfl rfl hl.1 rfl (Nat.le_of_ble_eq_true rfl) dX12_packPlain_98 ⟨Nat.le_of_ble_eq_true rfl, Nat.le_of_ble_eq_true rfl⟩ (fun uu_22 H locs hp_23 hw => ?_)
  have hw : hk_W D [(cI, .int), (cJ, .long)] _ s _ _ (mw cI cJ ad (upd (upd (upd (upd (upd (upd (upd (upd (upd (upd (upd (upd (upd (upd (upd g 42 13) 17 0) 19 0) 29 (g 2)) 30 (g 3)) 31 (g 4)) 23 0) 24 1) 25 1) 26 1) 27 1) 28 0) 32 0) 33 0) 34 1) (vp_updL (vp_updL lg 2 0) 3 4294967295) (va_up (va_up ar 22 uu_12) 16 uu_19) bk) := hw
  refine lv_aload_n hx hb dX12_packPlain_101 rfl (lv_at hl 1 rfl) ?_
  refine lv_iconst (v := 0) hx hb dX12_packPlain_102 (by decide) ?_
  refine lv_aload_n hx hb dX12_packPlain_103 rfl (lv_at hl 1 rfl) ?_
  refine hk_get (ci := 15) (C := RX12) (T := TX12) (N := 92) (v := .int 0) hx hb hts iX12 hown hw 0 rfl rfl 26 (by decide) (hts _ (List.mem_of_getElem? (i := 22) rfl)) rfl dX12_packPlain_104 ?_
  refine hk_Vv (As := [.int 0, .int 0]) (rest := []) ⟨hx, hb, hml, hown, hts⟩ hw hA (cn_putPart l D cI cJ ad (upd (upd (upd (upd (upd (upd (upd (upd (upd (upd (upd (upd (upd (upd (upd g 42 13) 17 0) 19 0) 29 (g 2)) 30 (g 3)) 31 (g 4)) 23 0) 24 1) 25 1) 26 1) 27 1) 28 0) 32 0) 33 0) 34 1) (vp_updL (vp_updL lg 2 0) 3 4294967295) (va_up (va_up ar 22 uu_12) 16 uu_19) bk _) (cwV 2 hts gw_cn_packPlain_7 rfl rfl rfl (by decide +kernel) ⟨Nat.le_of_ble_eq_true rfl, Nat.le_of_ble_eq_true rfl⟩) 0 (ci := 15) (T := TX12) (N := 92) rfl rfl rfl hl.1 rfl (Nat.le_of_ble_eq_true rfl) dX12_packPlain_107 ⟨Nat.le_of_ble_eq_true rfl, Nat.le_of_ble_eq_true rfl⟩ (fun uu_25 H locs hp_26 hw => ?_)
  have hw : hk_W D [(cI, .int), (cJ, .long)] _ s _ _ (mw cI cJ ad (upd (upd (upd (upd (upd (upd (upd (upd (upd (upd (upd (upd (upd (upd (upd (upd g 42 13) 17 0) 19 0) 29 (g 2)) 30 (g 3)) 31 (g 4)) 23 0) 24 1) 25 1) 26 1) 27 1) 28 0) 32 0) 33 0) 34 1) 35 0) (vp_updL (vp_updL lg 2 0) 3 4294967295) (va_up (va_up (va_up ar 22 uu_12) 16 uu_19) 19 uu_25) bk) := hw
  refine lv_aload_n hx hb dX12_packPlain_110 rfl (lv_at hl 1 rfl) ?_
  refine hk_get (ci := 15) (C := RX12) (T := TX12) (N := 92) (v := .int 0) hx hb hts iX12 hown hw 0 rfl rfl 9 (by decide) (hts _ (List.mem_of_getElem? (i := 20) rfl)) (congrArg (fun z => some (Value.int z)) h9) dX12_packPlain_111 ?_
  refine lv_iconst (v := 1) hx hb dX12_packPlain_114 (by decide) ?_
  refine lv_icmp_ne (tgt := 148) hx hb dX12_packPlain_115 (by decide) (fun _ => ?_) (fun cc_27 => absurd cc_27 (by decide))
  refine lv_aload_n hx hb dX12_packPlain_148 rfl (lv_at hl 1 rfl) ?_
  refine hk_Vv (As := []) (rest := []) ⟨hx, hb, hml, hown, hts⟩ hw hA (cn_endCoder l D cI cJ ad (upd (upd (upd (upd (upd (upd (upd (upd (upd (upd (upd (upd (upd (upd (upd (upd g 42 13) 17 0) 19 0) 29 (g 2)) 30 (g 3)) 31 (g 4)) 23 0) 24 1) 25 1) 26 1) 27 1) 28 0) 32 0) 33 0) 34 1) 35 0) (vp_updL (vp_updL lg 2 0) 3 4294967295) (va_up (va_up (va_up ar 22 uu_12) 16 uu_19) 19 uu_25) bk _ rfl rfl rfl) (cwV 0 hts gw_cn_packPlain_8 rfl rfl rfl (by decide +kernel) ⟨Nat.le_of_ble_eq_true rfl, Nat.le_of_ble_eq_true rfl⟩) 0 (ci := 15) (T := TX12) (N := 92) rfl rfl rfl hl.1 rfl (Nat.le_of_ble_eq_true rfl) dX12_packPlain_149 ⟨Nat.le_of_ble_eq_true rfl, Nat.le_of_ble_eq_true rfl⟩ (fun uu_29 H locs hp_30 hw => ?_)
  have hw : hk_W D [(cI, .int), (cJ, .long)] _ s _ _ (mw cI cJ ad (upd (upd (upd (upd (upd (upd (upd (upd (upd (upd (upd (upd (upd (upd (upd (upd g 42 13) 17 0) 19 0) 29 (g 2)) 30 (g 3)) 31 (g 4)) 23 0) 24 1) 25 1) 26 1) 27 1) 28 0) 32 5) 33 0) 34 1) 35 0) (vp_updL (vp_updL lg 2 0) 3 4294967295) (va_up (va_up (va_up (va_up ar 22 uu_12) 16 uu_19) 19 uu_25) 18 uu_29) bk) := hw
  refine lv_iconst (v := 0) hx hb dX12_packPlain_152 (by decide) ?_
  refine lv_istore_n (lv' := [(1, .int 0), (0, .ref (ad 0))]) hx hb dX12_packPlain_153 rfl hl (by decide) rfl (fun ls hl => ?_)
  refine lv_iload_n hx hb dX12_packPlain_154 rfl (lv_at hl 0 rfl) ?_
  refine lv_aload_n hx hb dX12_packPlain_155 rfl (lv_at hl 1 rfl) ?_
  refine hk_get (ci := 15) (C := RX12) (T := TX12) (N := 92) (v := .int 5) hx hb hts iX12 hown hw 0 rfl rfl 53 (by decide) (hts _ (List.mem_of_getElem? (i := 46) rfl)) rfl dX12_packPlain_156 ?_
  refine lv_icmp_ge (tgt := 178) hx hb dX12_packPlain_159 (by decide) (fun cc_31 => absurd cc_31 (by decide)) (fun _ => ?_)
  refine lv_aload_n hx hb dX12_packPlain_162 rfl (lv_at hl 1 rfl) ?_
  refine lv_aload_n hx hb dX12_packPlain_163 rfl (lv_at hl 1 rfl) ?_
  refine hk_get (ci := 15) (C := RX12) (T := TX12) (N := 92) (v := .ref (ad 19)) hx hb hts iX12 hown hw 0 rfl rfl 52 (by decide) (hts _ (List.mem_of_getElem? (i := 73) rfl)) rfl dX12_packPlain_164 ?_
  refine lv_iload_n hx hb dX12_packPlain_167 rfl (lv_at hl 0 rfl) ?_
  refine hk_iald (v := (uu_29 0)) hx hb hw 19 0 rfl rfl (show ¬ (_ ∨ _) by decide) dX12_packPlain_168 rfl ?_
  refine hk_Vv (As := [.int (uu_29 0)]) (rest := []) ⟨hx, hb, hml, hown, hts⟩ hw hA (cn_put13 l D cI cJ ad (upd (upd (upd (upd (upd (upd (upd (upd (upd (upd (upd (upd (upd (upd (upd (upd g 42 13) 17 0) 19 0) 29 (g 2)) 30 (g 3)) 31 (g 4)) 23 0) 24 1) 25 1) 26 1) 27 1) 28 0) 32 5) 33 0) 34 1) 35 0) (vp_updL (vp_updL lg 2 0) 3 4294967295) (va_up (va_up (va_up (va_up ar 22 uu_12) 16 uu_19) 19 uu_25) 18 uu_29) bk _ (uu_29 0) rfl) (cwV 1 hts gw_cn_packPlain_9 rfl rfl rfl (by decide +kernel) ⟨Nat.le_of_ble_eq_true rfl, Nat.le_of_ble_eq_true rfl⟩) 0 (ci := 15) (T := TX12) (N := 92) rfl rfl rfl hl.1 rfl (Nat.le_of_ble_eq_true rfl) dX12_packPlain_169 ⟨Nat.le_of_ble_eq_true rfl, Nat.le_of_ble_eq_true rfl⟩ (fun uu_33 H locs hp_34 hw => ?_)
  have hw : hk_W D [(cI, .int), (cJ, .long)] _ s _ _ (mw cI cJ ad (upd (upd (upd (upd (upd (upd (upd (upd (upd (upd (upd (upd (upd (upd (upd (upd g 42 14) 17 0) 19 0) 29 (g 2)) 30 (g 3)) 31 (g 4)) 23 0) 24 1) 25 1) 26 1) 27 1) 28 0) 32 5) 33 0) 34 1) 35 0) (vp_updL (vp_updL lg 2 0) 3 4294967295) (va_up (va_up (va_up (va_up ar 22 uu_33) 16 uu_19) 19 uu_25) 18 uu_29) bk) := hw
  refine lv_iinc (v := 1) (lv' := [(1, .int 1), (0, .ref (ad 0))]) hx hb dX12_packPlain_172 hl (k := 0) rfl rfl (by decide) rfl (fun ls hl => ?_)
  refine lv_goto (tgt := 154) hx hb dX12_packPlain_175 (by decide) ?_
  refine lv_iload_n hx hb dX12_packPlain_154 rfl (lv_at hl 0 rfl) ?_
  refine lv_aload_n hx hb dX12_packPlain_155 rfl (lv_at hl 1 rfl) ?_
  refine hk_get (ci := 15) (C := RX12) (T := TX12) (N := 92) (v := .int 5) hx hb hts iX12 hown hw 0 rfl rfl 53 (by decide) (hts _ (List.mem_of_getElem? (i := 46) rfl)) rfl dX12_packPlain_156 ?_
  refine lv_icmp_ge (tgt := 178) hx hb dX12_packPlain_159 (by decide) (fun cc_35 => absurd cc_35 (by decide)) (fun _ => ?_)
  refine lv_aload_n hx hb dX12_packPlain_162 rfl (lv_at hl 1 rfl) ?_
  refine lv_aload_n hx hb dX12_packPlain_163 rfl (lv_at hl 1 rfl) ?_
  refine hk_get (ci := 15) (C := RX12) (T := TX12) (N := 92) (v := .ref (ad 19)) hx hb hts iX12 hown hw 0 rfl rfl 52 (by decide) (hts _ (List.mem_of_getElem? (i := 73) rfl)) rfl dX12_packPlain_164 ?_
  refine lv_iload_n hx hb dX12_packPlain_167 rfl (lv_at hl 0 rfl) ?_
  refine hk_iald (v := (uu_29 1)) hx hb hw 19 0 rfl rfl (show ¬ (_ ∨ _) by decide) dX12_packPlain_168 rfl ?_
  refine hk_Vv (As := [.int (uu_29 1)]) (rest := []) ⟨hx, hb, hml, hown, hts⟩ hw hA (cn_put14 l D cI cJ ad (upd (upd (upd (upd (upd (upd (upd (upd (upd (upd (upd (upd (upd (upd (upd (upd g 42 14) 17 0) 19 0) 29 (g 2)) 30 (g 3)) 31 (g 4)) 23 0) 24 1) 25 1) 26 1) 27 1) 28 0) 32 5) 33 0) 34 1) 35 0) (vp_updL (vp_updL lg 2 0) 3 4294967295) (va_up (va_up (va_up (va_up ar 22 uu_33) 16 uu_19) 19 uu_25) 18 uu_29) bk _ (uu_29 1) rfl) (cwV 1 hts gw_cn_packPlain_10 rfl rfl rfl (by decide +kernel) ⟨Nat.le_of_ble_eq_true rfl, Nat.le_of_ble_eq_true rfl⟩) 0 (ci := 15) (T := TX12) (N := 92) rfl rfl rfl hl.1 rfl (Nat.le_of_ble_eq_true rfl) dX12_packPlain_169 ⟨Nat.le_of_ble_eq_true rfl, Nat.le_of_ble_eq_true rfl⟩ (fun uu_37 H locs hp_38 hw => ?_)
  have hw : hk_W D [(cI, .int), (cJ, .long)] _ s _ _ (mw cI cJ ad (upd (upd (upd (upd (upd (upd (upd (upd (upd (upd (upd (upd (upd (upd (upd (upd g 42 15) 17 0) 19 0) 29 (g 2)) 30 (g 3)) 31 (g 4)) 23 0) 24 1) 25 1) 26 1) 27 1) 28 0) 32 5) 33 0) 34 1) 35 0) (vp_updL (vp_updL lg 2 0) 3 4294967295) (va_up (va_up (va_up (va_up ar 22 uu_37) 16 uu_19) 19 uu_25) 18 uu_29) bk) := hw
  refine lv_iinc (v := 2) (lv' := [(1, .int 2), (0, .ref (ad 0))]) hx hb dX12_packPlain_172 hl (k := 0) rfl rfl (by decide) rfl (fun ls hl => ?_)
  refine lv_goto (tgt := 154) hx hb dX12_packPlain_175 (by decide) ?_
  refine lv_iload_n hx hb dX12_packPlain_154 rfl (lv_at hl 0 rfl) ?_
  refine lv_aload_n hx hb dX12_packPlain_155 rfl (lv_at hl 1 rfl) ?_
  refine hk_get (ci := 15) (C := RX12) (T := TX12) (N := 92) (v := .int 5) hx hb hts iX12 hown hw 0 rfl rfl 53 (by decide) (hts _ (List.mem_of_getElem? (i := 46) rfl)) rfl dX12_packPlain_156 ?_
  refine lv_icmp_ge (tgt := 178) hx hb dX12_packPlain_159 (by decide) (fun cc_39 => absurd cc_39 (by decide)) (fun _ => ?_)
  refine lv_aload_n hx hb dX12_packPlain_162 rfl (lv_at hl 1 rfl) ?_
  refine lv_aload_n hx hb dX12_packPlain_163 rfl (lv_at hl 1 rfl) ?_
  refine hk_get (ci := 15) (C := RX12) (T := TX12) (N := 92) (v := .ref (ad 19)) hx hb hts iX12 hown hw 0 rfl rfl 52 (by decide) (hts _ (List.mem_of_getElem? (i := 73) rfl)) rfl dX12_packPlain_164 ?_
  refine lv_iload_n hx hb dX12_packPlain_167 rfl (lv_at hl 0 rfl) ?_
  refine hk_iald (v := (uu_29 2)) hx hb hw 19 0 rfl rfl (show ¬ (_ ∨ _) by decide) dX12_packPlain_168 rfl ?_
  refine hk_Vv (As := [.int (uu_29 2)]) (rest := []) ⟨hx, hb, hml, hown, hts⟩ hw hA (cn_put15 l D cI cJ ad (upd (upd (upd (upd (upd (upd (upd (upd (upd (upd (upd (upd (upd (upd (upd (upd g 42 15) 17 0) 19 0) 29 (g 2)) 30 (g 3)) 31 (g 4)) 23 0) 24 1) 25 1) 26 1) 27 1) 28 0) 32 5) 33 0) 34 1) 35 0) (vp_updL (vp_updL lg 2 0) 3 4294967295) (va_up (va_up (va_up (va_up ar 22 uu_37) 16 uu_19) 19 uu_25) 18 uu_29) bk _ (uu_29 2) rfl) (cwV 1 hts gw_cn_packPlain_11 rfl rfl rfl (by decide +kernel) ⟨Nat.le_of_ble_eq_true rfl, Nat.le_of_ble_eq_true rfl⟩) 0 (ci := 15) (T := TX12) (N := 92) rfl rfl rfl hl.1 rfl (Nat.le_of_ble_eq_true rfl) dX12_packPlain_169 ⟨Nat.le_of_ble_eq_true rfl, Nat.le_of_ble_eq_true rfl⟩ (fun uu_41 H locs hp_42 hw => ?_)
  have hw : hk_W D [(cI, .int), (cJ, .long)] _ s _ _ (mw cI cJ ad (upd (upd (upd (upd (upd (upd (upd (upd (upd (upd (upd (upd (upd (upd (upd (upd g 42 16) 17 0) 19 0) 29 (g 2)) 30 (g 3)) 31 (g 4)) 23 0) 24 1) 25 1) 26 1) 27 1) 28 0) 32 5) 33 0) 34 1) 35 0) (vp_updL (vp_updL lg 2 0) 3 4294967295) (va_up (va_up (va_up (va_up ar 22 uu_41) 16 uu_19) 19 uu_25) 18 uu_29) bk) := hw
  refine lv_iinc (v := 3) (lv' := [(1, .int 3), (0, .ref (ad 0))]) hx hb dX12_packPlain_172 hl (k := 0) rfl rfl (by decide) rfl (fun ls hl => ?_)
  refine lv_goto (tgt := 154) hx hb dX12_packPlain_175 (by decide) ?_
  refine lv_iload_n hx hb dX12_packPlain_154 rfl (lv_at hl 0 rfl) ?_
  refine lv_aload_n hx hb dX12_packPlain_155 rfl (lv_at hl 1 rfl) ?_
  refine hk_get (ci := 15) (C := RX12) (T := TX12) (N := 92) (v := .int 5) hx hb hts iX12 hown hw 0 rfl rfl 53 (by decide) (hts _ (List.mem_of_getElem? (i := 46) rfl)) rfl dX12_packPlain_156 ?_
  refine lv_icmp_ge (tgt := 178) hx hb dX12_packPlain_159 (by decide) (fun cc_43 => absurd cc_43 (by decide)) (fun _ => ?_)
  refine lv_aload_n hx hb dX12_packPlain_162 rfl (lv_at hl 1 rfl) ?_
  refine lv_aload_n hx hb dX12_packPlain_163 rfl (lv_at hl 1 rfl) ?_
  refine hk_get (ci := 15) (C := RX12) (T := TX12) (N := 92) (v := .ref (ad 19)) hx hb hts iX12 hown hw 0 rfl rfl 52 (by decide) (hts _ (List.mem_of_getElem? (i := 73) rfl)) rfl dX12_packPlain_164 ?_
  refine lv_iload_n hx hb dX12_packPlain_167 rfl (lv_at hl 0 rfl) ?_
  refine hk_iald (v := (uu_29 3)) hx hb hw 19 0 rfl rfl (show ¬ (_ ∨ _) by decide) dX12_packPlain_168 rfl ?_
  refine hk_Vv (As := [.int (uu_29 3)]) (rest := []) ⟨hx, hb, hml, hown, hts⟩ hw hA (cn_put16 l D cI cJ ad (upd (upd (upd (upd (upd (upd (upd (upd (upd (upd (upd (upd (upd (upd (upd (upd g 42 16) 17 0) 19 0) 29 (g 2)) 30 (g 3)) 31 (g 4)) 23 0) 24 1) 25 1) 26 1) 27 1) 28 0) 32 5) 33 0) 34 1) 35 0) (vp_updL (vp_updL lg 2 0) 3 4294967295) (va_up (va_up (va_up (va_up ar 22 uu_41) 16 uu_19) 19 uu_25) 18 uu_29) bk _ (uu_29 3) rfl) (cwV 1 hts gw_cn_packPlain_12 rfl rfl rfl (by decide +kernel) ⟨Nat.le_of_ble_eq_true rfl, Nat.le_of_ble_eq_true rfl⟩) 0 (ci := 15) (T := TX12) (N := 92) rfl rfl rfl hl.1 rfl (Nat.le_of_ble_eq_true rfl) dX12_packPlain_169 ⟨Nat.le_of_ble_eq_true rfl, Nat.le_of_ble_eq_true rfl⟩ (fun uu_45 H locs hp_46 hw => ?_)
  have hw : hk_W D [(cI, .int), (cJ, .long)] _ s _ _ (mw cI cJ ad (upd (upd (upd (upd (upd (upd (upd (upd (upd (upd (upd (upd (upd (upd (upd (upd g 42 17) 17 0) 19 0) 29 (g 2)) 30 (g 3)) 31 (g 4)) 23 0) 24 1) 25 1) 26 1) 27 1) 28 0) 32 5) 33 0) 34 1) 35 0) (vp_updL (vp_updL lg 2 0) 3 4294967295) (va_up (va_up (va_up (va_up ar 22 uu_45) 16 uu_19) 19 uu_25) 18 uu_29) bk) := hw
  refine lv_iinc (v := 4) (lv' := [(1, .int 4), (0, .ref (ad 0))]) hx hb dX12_packPlain_172 hl (k := 0) rfl rfl (by decide) rfl (fun ls hl => ?_)
  refine lv_goto (tgt := 154) hx hb dX12_packPlain_175 (by decide) ?_
  refine lv_iload_n hx hb dX12_packPlain_154 rfl (lv_at hl 0 rfl) ?_
  refine lv_aload_n hx hb dX12_packPlain_155 rfl (lv_at hl 1 rfl) ?_
  refine hk_get (ci := 15) (C := RX12) (T := TX12) (N := 92) (v := .int 5) hx hb hts iX12 hown hw 0 rfl rfl 53 (by decide) (hts _ (List.mem_of_getElem? (i := 46) rfl)) rfl dX12_packPlain_156 ?_
  refine lv_icmp_ge (tgt := 178) hx hb dX12_packPlain_159 (by decide) (fun cc_47 => absurd cc_47 (by decide)) (fun _ => ?_)
  refine lv_aload_n hx hb dX12_packPlain_162 rfl (lv_at hl 1 rfl) ?_
  refine lv_aload_n hx hb dX12_packPlain_163 rfl (lv_at hl 1 rfl) ?_
  refine hk_get (ci := 15) (C := RX12) (T := TX12) (N := 92) (v := .ref (ad 19)) hx hb hts iX12 hown hw 0 rfl rfl 52 (by decide) (hts _ (List.mem_of_getElem? (i := 73) rfl)) rfl dX12_packPlain_164 ?_
  refine lv_iload_n hx hb dX12_packPlain_167 rfl (lv_at hl 0 rfl) ?_
  refine hk_iald (v := (uu_29 4)) hx hb hw 19 0 rfl rfl (show ¬ (_ ∨ _) by decide) dX12_packPlain_168 rfl ?_
  refine hk_Vv (As := [.int (uu_29 4)]) (rest := []) ⟨hx, hb, hml, hown, hts⟩ hw hA (cn_put17 l D cI cJ ad (upd (upd (upd (upd (upd (upd (upd (upd (upd (upd (upd (upd (upd (upd (upd (upd g 42 17) 17 0) 19 0) 29 (g 2)) 30 (g 3)) 31 (g 4)) 23 0) 24 1) 25 1) 26 1) 27 1) 28 0) 32 5) 33 0) 34 1) 35 0) (vp_updL (vp_updL lg 2 0) 3 4294967295) (va_up (va_up (va_up (va_up ar 22 uu_45) 16 uu_19) 19 uu_25) 18 uu_29) bk _ (uu_29 4) rfl) (cwV 1 hts gw_cn_packPlain_13 rfl rfl rfl (by decide +kernel) ⟨Nat.le_of_ble_eq_true rfl, Nat.le_of_ble_eq_true rfl⟩) 0 (ci := 15) (T := TX12) (N := 92) rfl rfl rfl hl.1 rfl (Nat.le_of_ble_eq_true rfl) dX12_packPlain_169 ⟨Nat.le_of_ble_eq_true rfl, Nat.le_of_ble_eq_true rfl⟩ (fun uu_49 H locs hp_50 hw => ?_)
  have hw : hk_W D [(cI, .int), (cJ, .long)] _ s _ _ (mw cI cJ ad (upd (upd (upd (upd (upd (upd (upd (upd (upd (upd (upd (upd (upd (upd (upd (upd g 42 18) 17 0) 19 0) 29 (g 2)) 30 (g 3)) 31 (g 4)) 23 0) 24 1) 25 1) 26 1) 27 1) 28 0) 32 5) 33 0) 34 1) 35 0) (vp_updL (vp_updL lg 2 0) 3 4294967295) (va_up (va_up (va_up (va_up ar 22 uu_49) 16 uu_19) 19 uu_25) 18 uu_29) bk) := hw
  refine lv_iinc (v := 5) (lv' := [(1, .int 5), (0, .ref (ad 0))]) hx hb dX12_packPlain_172 hl (k := 0) rfl rfl (by decide) rfl (fun ls hl => ?_)
  refine lv_goto (tgt := 154) hx hb dX12_packPlain_175 (by decide) ?_
  refine lv_iload_n hx hb dX12_packPlain_154 rfl (lv_at hl 0 rfl) ?_
  refine lv_aload_n hx hb dX12_packPlain_155 rfl (lv_at hl 1 rfl) ?_
  refine hk_get (ci := 15) (C := RX12) (T := TX12) (N := 92) (v := .int 5) hx hb hts iX12 hown hw 0 rfl rfl 53 (by decide) (hts _ (List.mem_of_getElem? (i := 46) rfl)) rfl dX12_packPlain_156 ?_
  refine lv_icmp_ge (tgt := 178) hx hb dX12_packPlain_159 (by decide) (fun _ => ?_) (fun cc_51 => absurd (by decide) cc_51)
  exact hk_vret (u := (uu_49, uu_19, uu_29, uu_25)) hx hb hr hlocks (show hk_W D [(cI, .int), (cJ, .long)] _ s _ _ (mw cI cJ ad (upd (upd (upd (upd (upd (upd (upd (upd (upd (upd (upd (upd (upd (upd (upd (upd g 42 18) 17 0) 19 0) 29 (g 2)) 30 (g 3)) 31 (g 4)) 23 0) 24 1) 25 1) 26 1) 27 1) 28 0) 32 5) 33 0) 34 1) 35 0) (vp_updL (vp_updL lg 2 0) 3 4294967295) (va_up (va_up (va_up (va_up ar 22 ((uu_49, uu_19, uu_29, uu_25).1)) 16 ((uu_49, uu_19, uu_29, uu_25).2.1)) 18 ((uu_49, uu_19, uu_29, uu_25).2.2.1)) 19 ((uu_49, uu_19, uu_29, uu_25).2.2.2)) bk) from hw) (trivial) dX12_packPlain_178

def ww_cn_packChunks : List Cond := Cond.code yX12_packChunks cX12_packChunks 10 none :: ([Cond.methodLink RX12 404 yX12_takeProperties, Cond.instanceMethod yX12_takeProperties, Cond.selects RX12 yX12_takeProperties yX12_takeProperties, Cond.initialized RX12, Cond.code yX12_takeProperties cX12_takeProperties 1 none, Cond.fieldLink RX12 7 "LzmaChainsModel" "lc" "I", Cond.fieldLink RX12 258 "LzmaChainsModel" "nowLc" "I", Cond.fieldLink RX12 114 "LzmaChainsModel" "lp" "I", Cond.fieldLink RX12 255 "LzmaChainsModel" "nowLp" "I", Cond.fieldLink RX12 13 "LzmaChainsModel" "pb" "I", Cond.fieldLink RX12 252 "LzmaChainsModel" "nowPb" "I", Cond.methodLink RX12 407 yX12_freshState, Cond.instanceMethod yX12_freshState, Cond.selects RX12 yX12_freshState yX12_freshState, Cond.code yX12_freshState cX12_freshState 2 none, Cond.fieldLink RX12 231 "LzmaChainsModel" "st" "I", Cond.fieldLink RX12 234 "LzmaChainsModel" "back0" "I", Cond.fieldLink RX12 237 "LzmaChainsModel" "back1" "I", Cond.fieldLink RX12 240 "LzmaChainsModel" "back2" "I", Cond.fieldLink RX12 243 "LzmaChainsModel" "back3" "I", Cond.fieldLink RX12 80 "LzmaChainsModel" "chance" "[I", Cond.fieldLink RX12 249 "LzmaChainsModel" "pos" "I", Cond.fieldLink RX12 434 "LzmaChainsModel" "chunkCount" "I", Cond.fieldLink RX12 208 "LzmaChainsModel" "srcSize" "I", Cond.methodLink RX12 394 yX12_put, Cond.instanceMethod yX12_put, Cond.selects RX12 yX12_put yX12_put, Cond.code yX12_put cX12_put 2 none, Cond.fieldLink RX12 391 "LzmaChainsModel" "rowSize" "I", Cond.fieldLink RX12 98 "LzmaChainsModel" "row" "[I"] ++ (wsX120 ++ ([])))
set_option maxRecDepth 20000 in
theorem gw_cn_packChunks_0 : GoodIn ww_cn_packChunks (wsV RX12 404 RX12 yX12_takeProperties ww_cn_take) := goodIn_r _ [1, 2, 3, 4, 5, 6, 7, 8, 9, 10, 11, 31, 32, 33, 34, 35, 36, 37, 38, 39, 40, 41, 42, 43, 44, 45, 46, 47, 48, 49, 50, 51, 52, 53, 54, 55, 56, 57, 58, 59, 60, 61, 62, 63, 64, 65, 66, 67, 68, 69, 70, 71, 72, 73, 74, 75, 76, 77, 78, 79, 80, 81, 82, 83, 84, 85, 86, 87, 88, 89, 90, 91, 92, 93, 94, 95, 96, 97, 98, 99, 100, 101, 102, 103, 104, 105, 106, 107, 108, 109, 110, 111, 112, 113, 114, 115, 116, 117, 118, 119, 120, 121, 122] rfl (by decide +kernel)
set_option maxRecDepth 20000 in
theorem gw_cn_packChunks_1 : GoodIn ww_cn_packChunks (wsV RX12 407 RX12 yX12_freshState ww_cn_fresh) := goodIn_r _ [12, 13, 14, 4, 15, 16, 17, 18, 19, 20, 21, 31, 32, 33, 34, 35, 36, 37, 38, 39, 40, 41, 42, 43, 44, 45, 46, 47, 48, 49, 50, 51, 52, 53, 54, 55, 56, 57, 58, 59, 60, 61, 62, 63, 64, 65, 66, 67, 68, 69, 70, 71, 72, 73, 74, 75, 76, 77, 78, 79, 80, 81, 82, 83, 84, 85, 86, 87, 88, 89, 90, 91, 92, 93, 94, 95, 96, 97, 98, 99, 100, 101, 102, 103, 104, 105, 106, 107, 108, 109, 110, 111, 112, 113, 114, 115, 116, 117, 118, 119, 120, 121, 122] rfl (by decide +kernel)
set_option maxRecDepth 20000 in
theorem gw_cn_packChunks_2 : GoodIn ww_cn_packChunks (wsV RX12 394 RX12 yX12_put ww_cn_put0) := goodIn_r _ [25, 26, 27, 4, 28, 29, 30, 31, 32, 33, 34, 35, 36, 37, 38, 39, 40, 41, 42, 43, 44, 45, 46, 47, 48, 49, 50, 51, 52, 53, 54, 55, 56, 57, 58, 59, 60, 61, 62, 63, 64, 65, 66, 67, 68, 69, 70, 71, 72, 73, 74, 75, 76, 77, 78, 79, 80, 81, 82, 83, 84, 85, 86, 87, 88, 89, 90, 91, 92, 93, 94, 95, 96, 97, 98, 99, 100, 101, 102, 103, 104, 105, 106, 107, 108, 109, 110, 111, 112, 113, 114, 115, 116, 117, 118, 119, 120, 121, 122] rfl (by decide +kernel)
set_option maxHeartbeats 4000000 in
set_option maxRecDepth 100000 in
/-- the reference: packChunks of nothing -/
theorem cn_packChunks (l : Launch) (D : va_G) (cI cJ : ClassId) (ad : Nat → Nat) (g : Nat → Int32) (lg : Nat → Int64) (ar : Nat → Nat → Int32) (bk : Nat → Int64) (sz : Nat)  (h42 : g 42 = 0) (h17 : g 17 = 0) : Met l yX12_packChunks ww_cn_packChunks { frames := 1, cells := 0, slots := 0, locals := 21 } (va_Pc [.ref (ad 0)] (hk_B D [(cI, .int), (cJ, .long)] sz (mw cI cJ ad g lg ar bk))) (va_Qv (fun u : (Nat → Int32) × (Nat → Int32) => True) (fun u : (Nat → Int32) × (Nat → Int32) => hk_E D [(cI, .int), (cJ, .long)] (va_A (mw cI cJ ad g lg ar bk) sz) (mw cI cJ ad (upd (upd (upd (upd (upd (upd (upd (upd (upd (upd (upd g 42 1) 29 (g 2)) 30 (g 3)) 31 (g 4)) 23 0) 24 1) 25 1) 26 1) 27 1) 28 0) 48 0) lg (va_up (va_up ar 22 u.1) 16 u.2) bk)) (va_A (mw cI cJ ad g lg ar bk) sz)) 0 0 (va_A (mw cI cJ ad g lg ar bk) sz) := by
  refine hk_met (cc := cX12_packChunks) (maxL := 10) (ret := none) (by decide) rfl (Nat.le_of_ble_eq_true rfl) ?_
  intro p e s m below meth c ls hx hb hr hml hown hts hlocks hin hA hw hl
  have iX12 : ∀ w ∈ wsX120, w ∈ ww_cn_packChunks := fun _ h => List.mem_cons_of_mem _ (List.mem_append_right _ (List.mem_append_left _ h))
  have hl : lv_has ls 10 [(0, .ref (ad 0))] := hl
  refine lv_aload_n hx hb dX12_packChunks_0 rfl (lv_at hl 0 rfl) ?_
  refine hk_Vv (As := []) (rest := []) ⟨hx, hb, hml, hown, hts⟩ hw hA (cn_take l D cI cJ ad g lg ar bk _) (cwV 0 hts gw_cn_packChunks_0 rfl rfl rfl (by decide +kernel) ⟨Nat.le_of_ble_eq_true rfl, Nat.le_of_ble_eq_true rfl⟩) 0 (ci := 15) (T := TX12) (N := 92) rfl rfl rfl hl.1 rfl (Nat.le_of_ble_eq_true rfl) dX12_packChunks_1 ⟨Nat.le_of_ble_eq_true rfl, Nat.le_of_ble_eq_true rfl⟩ (fun uu_2 H locs hp_3 hw => ?_)
  have hw : hk_W D [(cI, .int), (cJ, .long)] _ s _ _ (mw cI cJ ad (upd (upd (upd g 29 (g 2)) 30 (g 3)) 31 (g 4)) lg ar bk) := hw
  refine lv_aload_n hx hb dX12_packChunks_4 rfl (lv_at hl 0 rfl) ?_
  refine hk_Vv (As := []) (rest := []) ⟨hx, hb, hml, hown, hts⟩ hw hA (cn_fresh l D cI cJ ad (upd (upd (upd g 29 (g 2)) 30 (g 3)) 31 (g 4)) lg ar bk _) (cwV 0 hts gw_cn_packChunks_1 rfl rfl rfl (by decide +kernel) ⟨Nat.le_of_ble_eq_true rfl, Nat.le_of_ble_eq_true rfl⟩) 0 (ci := 15) (T := TX12) (N := 92) rfl rfl rfl hl.1 rfl (Nat.le_of_ble_eq_true rfl) dX12_packChunks_5 ⟨Nat.le_of_ble_eq_true rfl, Nat.le_of_ble_eq_true rfl⟩ (fun uu_5 H locs hp_6 hw => ?_)
  have hw : hk_W D [(cI, .int), (cJ, .long)] _ s _ _ (mw cI cJ ad (upd (upd (upd (upd (upd (upd (upd (upd g 29 (g 2)) 30 (g 3)) 31 (g 4)) 23 0) 24 1) 25 1) 26 1) 27 1) lg (va_up ar 16 uu_5) bk) := hw
  refine lv_aload_n hx hb dX12_packChunks_8 rfl (lv_at hl 0 rfl) ?_
  refine lv_iconst (v := 0) hx hb dX12_packChunks_9 (by decide) ?_
  refine hk_put (ci := 15) (C := RX12) (T := TX12) (N := 92) (ty := .int) (v := .int 0) hx hb hts iX12 tyX12 tyX12_ok nmX12 hown hw 0 rfl rfl 48 (by decide) (hts _ (List.mem_of_getElem? (i := 22) rfl)) rfl (by decide +kernel) rfl rfl (Nat.le_of_ble_eq_true rfl) dX12_packChunks_10 (ws' := mw cI cJ ad (upd (upd (upd (upd (upd (upd (upd (upd (upd g 29 (g 2)) 30 (g 3)) 31 (g 4)) 23 0) 24 1) 25 1) 26 1) 27 1) 28 0) lg (va_up ar 16 uu_5) bk) rfl (fun H locs hw => ?_)
  refine lv_iconst (v := 0) hx hb dX12_packChunks_13 (by decide) ?_
  refine lv_istore_n (lv' := [(1, .int 0), (0, .ref (ad 0))]) hx hb dX12_packChunks_14 rfl hl (by decide) rfl (fun ls hl => ?_)
  refine lv_iconst (v := 0) hx hb dX12_packChunks_15 (by decide) ?_
  refine lv_istore_n (lv' := [(2, .int 0), (1, .int 0), (0, .ref (ad 0))]) hx hb dX12_packChunks_16 rfl hl (by decide) rfl (fun ls hl => ?_)
  refine lv_aload_n hx hb dX12_packChunks_17 rfl (lv_at hl 2 rfl) ?_
  refine lv_iconst (v := 0) hx hb dX12_packChunks_18 (by decide) ?_
  refine hk_put (ci := 15) (C := RX12) (T := TX12) (N := 92) (ty := .int) (v := .int 0) hx hb hts iX12 tyX12 tyX12_ok nmX12 hown hw 0 rfl rfl 75 (by decide) (hts _ (List.mem_of_getElem? (i := 23) rfl)) rfl (by decide +kernel) rfl rfl (Nat.le_of_ble_eq_true rfl) dX12_packChunks_19 (ws' := mw cI cJ ad (upd (upd (upd (upd (upd (upd (upd (upd (upd (upd g 29 (g 2)) 30 (g 3)) 31 (g 4)) 23 0) 24 1) 25 1) 26 1) 27 1) 28 0) 48 0) lg (va_up ar 16 uu_5) bk) rfl (fun H locs hw => ?_)
  refine lv_iconst (v := 0) hx hb dX12_packChunks_22 (by decide) ?_
  refine lv_istore_n (lv' := [(3, .int 0), (2, .int 0), (1, .int 0), (0, .ref (ad 0))]) hx hb dX12_packChunks_23 rfl hl (by decide) rfl (fun ls hl => ?_)
  refine lv_iload_n hx hb dX12_packChunks_24 rfl (lv_at hl 0 rfl) ?_
  refine lv_aload_n hx hb dX12_packChunks_25 rfl (lv_at hl 3 rfl) ?_
  refine hk_get (ci := 15) (C := RX12) (T := TX12) (N := 92) (v := .int 0) hx hb hts iX12 hown hw 0 rfl rfl 26 (by decide) (hts _ (List.mem_of_getElem? (i := 24) rfl)) (congrArg (fun z => some (Value.int z)) h17) dX12_packChunks_26 ?_
  refine lv_icmp_ge (tgt := 354) hx hb dX12_packChunks_29 (by decide) (fun _ => ?_) (fun cc_7 => absurd (by decide) cc_7)
  refine lv_aload_n hx hb dX12_packChunks_354 rfl (lv_at hl 3 rfl) ?_
  refine lv_iconst (v := 0) hx hb dX12_packChunks_355 (by decide) ?_
  refine hk_Vv (As := [.int 0]) (rest := []) ⟨hx, hb, hml, hown, hts⟩ hw hA (cn_put0 l D cI cJ ad (upd (upd (upd (upd (upd (upd (upd (upd (upd (upd g 29 (g 2)) 30 (g 3)) 31 (g 4)) 23 0) 24 1) 25 1) 26 1) 27 1) 28 0) 48 0) lg (va_up ar 16 uu_5) bk _ 0 h42) (cwV 1 hts gw_cn_packChunks_2 rfl rfl rfl (by decide +kernel) ⟨Nat.le_of_ble_eq_true rfl, Nat.le_of_ble_eq_true rfl⟩) 0 (ci := 15) (T := TX12) (N := 92) rfl rfl rfl hl.1 rfl (Nat.le_of_ble_eq_true rfl) dX12_packChunks_356 ⟨Nat.le_of_ble_eq_true rfl, Nat.le_of_ble_eq_true rfl⟩ (fun uu_9 H locs hp_10 hw => ?_)
  have hw : hk_W D [(cI, .int), (cJ, .long)] _ s _ _ (mw cI cJ ad (upd (upd (upd (upd (upd (upd (upd (upd (upd (upd (upd g 29 (g 2)) 30 (g 3)) 31 (g 4)) 23 0) 24 1) 25 1) 26 1) 27 1) 28 0) 48 0) 42 1) lg (va_up (va_up ar 16 uu_5) 22 uu_9) bk) := hw
  exact hk_vret (u := (uu_9, uu_5)) hx hb hr hlocks (show hk_W D [(cI, .int), (cJ, .long)] _ s _ _ (mw cI cJ ad (upd (upd (upd (upd (upd (upd (upd (upd (upd (upd (upd g 42 1) 29 (g 2)) 30 (g 3)) 31 (g 4)) 23 0) 24 1) 25 1) 26 1) 27 1) 28 0) 48 0) lg (va_up (va_up ar 22 ((uu_9, uu_5).1)) 16 ((uu_9, uu_5).2)) bk) from hw) (trivial) dX12_packChunks_359
