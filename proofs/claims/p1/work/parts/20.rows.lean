def ww_cx_in_set : List Cond := Cond.code yX9_set cX9_set 3 none :: ([Cond.fieldLink RX9 7 "LzmaChains$Row" "data" "[I"] ++ (wsX90 ++ ([])))
set_option maxHeartbeats 4000000 in
set_option maxRecDepth 100000 in
/-- Row.set on in: only its array may change -/
theorem cx_in_set (l : Launch) (D : va_G) (cI cJ : ClassId) (ad : Nat → Nat) (g : Nat → Int32) (lg : Nat → Int64) (ar : Nat → Nat → Int32) (bk : Nat → Int64) (sz : Nat) (i b : Int32) : Met l yX9_set ww_cx_in_set { frames := 0, cells := 0, slots := 0, locals := 0 } (va_Pc [.ref (ad 2), .int i, .int b] (hk_B D [(cI, .int), (cJ, .long)] sz (xw cI cJ ad g lg ar bk))) (va_Qv (fun u : Nat → Int32 => True) (fun u : Nat → Int32 => hk_E D [(cI, .int), (cJ, .long)] (va_A (xw cI cJ ad g lg ar bk) sz) (xw cI cJ ad g lg (va_up ar 0 u) bk)) (va_A (xw cI cJ ad g lg ar bk) sz)) 0 0 (va_A (xw cI cJ ad g lg ar bk) sz) := by
  refine hk_met (cc := cX9_set) (maxL := 3) (ret := none) (by decide) rfl (Nat.le_of_ble_eq_true rfl) ?_
  intro p e s m below meth c ls hx hb hr hml hown hts hlocks hin hA hw hl
  have iX9 : ∀ w ∈ wsX90, w ∈ ww_cx_in_set := fun _ h => List.mem_cons_of_mem _ (List.mem_append_right _ (List.mem_append_left _ h))
  have hl : lv_has ls 3 [(0, .ref (ad 2)), (1, .int i), (2, .int b)] := hl
  refine lv_iload_n hx hb dX9_set_0 rfl (lv_at hl 1 rfl) ?_
  refine lv_if_lt (tgt := 24) hx hb dX9_set_1 (by decide) (fun cc_1 => ?_) (fun cc_1 => ?_)
  · exact hk_vret (u := (ar 0)) hx hb hr hlocks (show hk_W D [(cI, .int), (cJ, .long)] _ s _ _ (xw cI cJ ad g lg (va_up ar 0 (ar 0)) bk) from hw) (trivial) dX9_set_24
  · refine lv_iload_n hx hb dX9_set_4 rfl (lv_at hl 1 rfl) ?_
    refine lv_aload_n hx hb dX9_set_5 rfl (lv_at hl 0 rfl) ?_
    refine hk_get (ci := 12) (C := RX9) (T := TX9) (N := 2) (v := .ref (ad 3)) hx hb hts iX9 hown hw 2 rfl rfl 0 (by decide) (hts _ (List.mem_of_getElem? (i := 1) rfl)) rfl dX9_set_6 ?_
    refine hk_alen (v := 1500) hx hb hw 3 0 rfl rfl rfl dX9_set_9 ?_
    refine lv_icmp_ge (tgt := 24) hx hb dX9_set_10 (by decide) (fun cc_2 => ?_) (fun cc_2 => ?_)
    · exact hk_vret (u := (ar 0)) hx hb hr hlocks (show hk_W D [(cI, .int), (cJ, .long)] _ s _ _ (xw cI cJ ad g lg (va_up ar 0 (ar 0)) bk) from hw) (trivial) dX9_set_24
    · refine lv_aload_n hx hb dX9_set_13 rfl (lv_at hl 0 rfl) ?_
      refine hk_get (ci := 12) (C := RX9) (T := TX9) (N := 2) (v := .ref (ad 3)) hx hb hts iX9 hown hw 2 rfl rfl 0 (by decide) (hts _ (List.mem_of_getElem? (i := 1) rfl)) rfl dX9_set_14 ?_
      refine lv_iload_n hx hb dX9_set_17 rfl (lv_at hl 1 rfl) ?_
      refine lv_iload_n hx hb dX9_set_18 rfl (lv_at hl 2 rfl) ?_
      refine lv_sipush (v := 255) hx hb dX9_set_19 (by decide) ?_
      refine lv_iand hx hb dX9_set_22 ?_
      refine hk_iast hx hb hw 3 0 rfl rfl (hk_in (N := 1500) (by decide) cc_1 cc_2) dX9_set_23 (ws' := xw cI cJ ad g lg (va_up ar 0 (upd (ar 0) (i).toNatClampNeg (b &&& 255))) bk) rfl (fun H locs hw => ?_)
      exact hk_vret (u := (upd (ar 0) (i).toNatClampNeg (b &&& 255))) hx hb hr hlocks (hw) (trivial) dX9_set_24

def ww_cx_in_put : List Cond := Cond.code yX9_put cX9_put 2 none :: ([Cond.fieldLink RX9 13 "LzmaChains$Row" "size" "I", Cond.methodLink RX9 17 yX9_set, Cond.instanceMethod yX9_set, Cond.selects RX9 yX9_set yX9_set, Cond.initialized RX9, Cond.code yX9_set cX9_set 3 none, Cond.fieldLink RX9 7 "LzmaChains$Row" "data" "[I"] ++ (wsX90 ++ ([])))
set_option maxRecDepth 20000 in
theorem gw_cx_in_put_0 : GoodIn ww_cx_in_put (wsV RX9 17 RX9 yX9_set ww_cx_in_set) := goodIn_r _ [2, 3, 4, 5, 6, 7, 8, 9] rfl (by decide +kernel)
set_option maxHeartbeats 4000000 in
set_option maxRecDepth 100000 in
/-- Row.put on in: its size is one more, its array may change -/
theorem cx_in_put (l : Launch) (D : va_G) (cI cJ : ClassId) (ad : Nat → Nat) (g : Nat → Int32) (lg : Nat → Int64) (ar : Nat → Nat → Int32) (bk : Nat → Int64) (sz : Nat) (b v v' : Int32) (h1 : g 13 = v) (h2 : v + 1 = v') : Met l yX9_put ww_cx_in_put { frames := 1, cells := 0, slots := 0, locals := 22 } (va_Pc [.ref (ad 2), .int b] (hk_B D [(cI, .int), (cJ, .long)] sz (xw cI cJ ad g lg ar bk))) (va_Qv (fun u : Nat → Int32 => True) (fun u : Nat → Int32 => hk_E D [(cI, .int), (cJ, .long)] (va_A (xw cI cJ ad g lg ar bk) sz) (xw cI cJ ad (upd g 13 (v')) lg (va_up ar 0 u) bk)) (va_A (xw cI cJ ad g lg ar bk) sz)) 0 0 (va_A (xw cI cJ ad g lg ar bk) sz) := by
  refine hk_met (cc := cX9_put) (maxL := 2) (ret := none) (by decide) rfl (Nat.le_of_ble_eq_true rfl) ?_
  intro p e s m below meth c ls hx hb hr hml hown hts hlocks hin hA hw hl
  have iX9 : ∀ w ∈ wsX90, w ∈ ww_cx_in_put := fun _ h => List.mem_cons_of_mem _ (List.mem_append_right _ (List.mem_append_left _ h))
  have hl : lv_has ls 2 [(0, .ref (ad 2)), (1, .int b)] := hl
  refine lv_aload_n hx hb dX9_put_0 rfl (lv_at hl 0 rfl) ?_
  refine lv_aload_n hx hb dX9_put_1 rfl (lv_at hl 0 rfl) ?_
  refine hk_get (ci := 12) (C := RX9) (T := TX9) (N := 2) (v := .int v) hx hb hts iX9 hown hw 2 rfl rfl 1 (by decide) (hts _ (List.mem_of_getElem? (i := 1) rfl)) (congrArg (fun z => some (Value.int z)) h1) dX9_put_2 ?_
  refine lv_iload_n hx hb dX9_put_5 rfl (lv_at hl 1 rfl) ?_
  refine hk_Vv (As := [.int v, .int b]) (rest := []) ⟨hx, hb, hml, hown, hts⟩ hw hA (cx_in_set l D cI cJ ad g lg ar bk _ v b) (cwV 2 hts gw_cx_in_put_0 rfl rfl rfl (by decide +kernel) ⟨Nat.le_of_ble_eq_true rfl, Nat.le_of_ble_eq_true rfl⟩) 2 (ci := 12) (T := TX9) (N := 2) rfl rfl rfl hl.1 rfl (Nat.le_of_ble_eq_true rfl) dX9_put_6 ⟨Nat.le_of_ble_eq_true rfl, Nat.le_of_ble_eq_true rfl⟩ (fun uu_2 H locs hp_3 hw => ?_)
  have hw : hk_W D [(cI, .int), (cJ, .long)] _ s _ _ (xw cI cJ ad g lg (va_up ar 0 uu_2) bk) := hw
  refine lv_aload_n hx hb dX9_put_9 rfl (lv_at hl 0 rfl) ?_
  refine lv_dup hx hb dX9_put_10 rfl ?_
  refine hk_get (ci := 12) (C := RX9) (T := TX9) (N := 2) (v := .int v) hx hb hts iX9 hown hw 2 rfl rfl 1 (by decide) (hts _ (List.mem_of_getElem? (i := 1) rfl)) (congrArg (fun z => some (Value.int z)) h1) dX9_put_11 ?_
  refine lv_iconst (v := 1) hx hb dX9_put_14 (by decide) ?_
  refine lv_iadd hx hb dX9_put_15 ?_
  refine hk_topi (v') h2 ?_
  refine hk_put (ci := 12) (C := RX9) (T := TX9) (N := 2) (ty := .int) (v := .int (v')) hx hb hts iX9 tyX9 tyX9_ok nmX9 hown hw 2 rfl rfl 1 (by decide) (hts _ (List.mem_of_getElem? (i := 1) rfl)) rfl (by decide +kernel) rfl rfl (Nat.le_of_ble_eq_true rfl) dX9_put_16 (ws' := xw cI cJ ad (upd g 13 (v')) lg (va_up ar 0 uu_2) bk) rfl (fun H locs hw => ?_)
  exact hk_vret (u := uu_2) hx hb hr hlocks (hw) (trivial) dX9_put_19

def ww_cx_out_set : List Cond := Cond.code yX9_set cX9_set 3 none :: ([Cond.fieldLink RX9 7 "LzmaChains$Row" "data" "[I"] ++ (wsX90 ++ ([])))
set_option maxHeartbeats 4000000 in
set_option maxRecDepth 100000 in
/-- Row.set on out: only its array may change -/
theorem cx_out_set (l : Launch) (D : va_G) (cI cJ : ClassId) (ad : Nat → Nat) (g : Nat → Int32) (lg : Nat → Int64) (ar : Nat → Nat → Int32) (bk : Nat → Int64) (sz : Nat) (i b : Int32) : Met l yX9_set ww_cx_out_set { frames := 0, cells := 0, slots := 0, locals := 0 } (va_Pc [.ref (ad 4), .int i, .int b] (hk_B D [(cI, .int), (cJ, .long)] sz (xw cI cJ ad g lg ar bk))) (va_Qv (fun u : Nat → Int32 => True) (fun u : Nat → Int32 => hk_E D [(cI, .int), (cJ, .long)] (va_A (xw cI cJ ad g lg ar bk) sz) (xw cI cJ ad g lg (va_up ar 1 u) bk)) (va_A (xw cI cJ ad g lg ar bk) sz)) 0 0 (va_A (xw cI cJ ad g lg ar bk) sz) := by
  refine hk_met (cc := cX9_set) (maxL := 3) (ret := none) (by decide) rfl (Nat.le_of_ble_eq_true rfl) ?_
  intro p e s m below meth c ls hx hb hr hml hown hts hlocks hin hA hw hl
  have iX9 : ∀ w ∈ wsX90, w ∈ ww_cx_out_set := fun _ h => List.mem_cons_of_mem _ (List.mem_append_right _ (List.mem_append_left _ h))
  have hl : lv_has ls 3 [(0, .ref (ad 4)), (1, .int i), (2, .int b)] := hl
  refine lv_iload_n hx hb dX9_set_0 rfl (lv_at hl 1 rfl) ?_
  refine lv_if_lt (tgt := 24) hx hb dX9_set_1 (by decide) (fun cc_1 => ?_) (fun cc_1 => ?_)
  · exact hk_vret (u := (ar 1)) hx hb hr hlocks (show hk_W D [(cI, .int), (cJ, .long)] _ s _ _ (xw cI cJ ad g lg (va_up ar 1 (ar 1)) bk) from hw) (trivial) dX9_set_24
  · refine lv_iload_n hx hb dX9_set_4 rfl (lv_at hl 1 rfl) ?_
    refine lv_aload_n hx hb dX9_set_5 rfl (lv_at hl 0 rfl) ?_
    refine hk_get (ci := 12) (C := RX9) (T := TX9) (N := 2) (v := .ref (ad 5)) hx hb hts iX9 hown hw 4 rfl rfl 0 (by decide) (hts _ (List.mem_of_getElem? (i := 1) rfl)) rfl dX9_set_6 ?_
    refine hk_alen (v := 3000) hx hb hw 5 0 rfl rfl rfl dX9_set_9 ?_
    refine lv_icmp_ge (tgt := 24) hx hb dX9_set_10 (by decide) (fun cc_2 => ?_) (fun cc_2 => ?_)
    · exact hk_vret (u := (ar 1)) hx hb hr hlocks (show hk_W D [(cI, .int), (cJ, .long)] _ s _ _ (xw cI cJ ad g lg (va_up ar 1 (ar 1)) bk) from hw) (trivial) dX9_set_24
    · refine lv_aload_n hx hb dX9_set_13 rfl (lv_at hl 0 rfl) ?_
      refine hk_get (ci := 12) (C := RX9) (T := TX9) (N := 2) (v := .ref (ad 5)) hx hb hts iX9 hown hw 4 rfl rfl 0 (by decide) (hts _ (List.mem_of_getElem? (i := 1) rfl)) rfl dX9_set_14 ?_
      refine lv_iload_n hx hb dX9_set_17 rfl (lv_at hl 1 rfl) ?_
      refine lv_iload_n hx hb dX9_set_18 rfl (lv_at hl 2 rfl) ?_
      refine lv_sipush (v := 255) hx hb dX9_set_19 (by decide) ?_
      refine lv_iand hx hb dX9_set_22 ?_
      refine hk_iast hx hb hw 5 0 rfl rfl (hk_in (N := 3000) (by decide) cc_1 cc_2) dX9_set_23 (ws' := xw cI cJ ad g lg (va_up ar 1 (upd (ar 1) (i).toNatClampNeg (b &&& 255))) bk) rfl (fun H locs hw => ?_)
      exact hk_vret (u := (upd (ar 1) (i).toNatClampNeg (b &&& 255))) hx hb hr hlocks (hw) (trivial) dX9_set_24

def ww_cx_out_get : List Cond := Cond.code yX9_get cX9_get 2 (some .int) :: ([Cond.fieldLink RX9 7 "LzmaChains$Row" "data" "[I"] ++ (wsX90 ++ ([])))
set_option maxHeartbeats 4000000 in
set_option maxRecDepth 100000 in
/-- Row.get on out: it answers, nothing changes -/
theorem cx_out_get (l : Launch) (D : va_G) (cI cJ : ClassId) (ad : Nat → Nat) (g : Nat → Int32) (lg : Nat → Int64) (ar : Nat → Nat → Int32) (bk : Nat → Int64) (sz : Nat) (i : Int32) : Met l yX9_get ww_cx_out_get { frames := 0, cells := 0, slots := 0, locals := 0 } (va_Pc [.ref (ad 4), .int i] (hk_B D [(cI, .int), (cJ, .long)] sz (xw cI cJ ad g lg ar bk))) (va_Qi (fun (r : Int32) (u : Unit) => True) (fun u : Unit => hk_E D [(cI, .int), (cJ, .long)] (va_A (xw cI cJ ad g lg ar bk) sz) (xw cI cJ ad g lg ar bk)) (va_A (xw cI cJ ad g lg ar bk) sz)) 0 0 (va_A (xw cI cJ ad g lg ar bk) sz) := by
  refine hk_met (cc := cX9_get) (maxL := 2) (ret := (some .int)) (by decide) rfl (Nat.le_of_ble_eq_true rfl) ?_
  intro p e s m below meth c ls hx hb hr hml hown hts hlocks hin hA hw hl
  have iX9 : ∀ w ∈ wsX90, w ∈ ww_cx_out_get := fun _ h => List.mem_cons_of_mem _ (List.mem_append_right _ (List.mem_append_left _ h))
  have hl : lv_has ls 2 [(0, .ref (ad 4)), (1, .int i)] := hl
  refine lv_iload_n hx hb dX9_get_0 rfl (lv_at hl 1 rfl) ?_
  refine lv_if_lt (tgt := 22) hx hb dX9_get_1 (by decide) (fun cc_1 => ?_) (fun cc_1 => ?_)
  · refine lv_iconst (v := 0) hx hb dX9_get_22 (by decide) ?_
    exact hk_iret (u := ()) hx hb hr hlocks (hw) (trivial) dX9_get_23
  · refine lv_iload_n hx hb dX9_get_4 rfl (lv_at hl 1 rfl) ?_
    refine lv_aload_n hx hb dX9_get_5 rfl (lv_at hl 0 rfl) ?_
    refine hk_get (ci := 12) (C := RX9) (T := TX9) (N := 2) (v := .ref (ad 5)) hx hb hts iX9 hown hw 4 rfl rfl 0 (by decide) (hts _ (List.mem_of_getElem? (i := 1) rfl)) rfl dX9_get_6 ?_
    refine hk_alen (v := 3000) hx hb hw 5 0 rfl rfl rfl dX9_get_9 ?_
    refine lv_icmp_ge (tgt := 22) hx hb dX9_get_10 (by decide) (fun cc_2 => ?_) (fun cc_2 => ?_)
    · refine lv_iconst (v := 0) hx hb dX9_get_22 (by decide) ?_
      exact hk_iret (u := ()) hx hb hr hlocks (hw) (trivial) dX9_get_23
    · refine lv_aload_n hx hb dX9_get_13 rfl (lv_at hl 0 rfl) ?_
      refine hk_get (ci := 12) (C := RX9) (T := TX9) (N := 2) (v := .ref (ad 5)) hx hb hts iX9 hown hw 4 rfl rfl 0 (by decide) (hts _ (List.mem_of_getElem? (i := 1) rfl)) rfl dX9_get_14 ?_
      refine lv_iload_n hx hb dX9_get_17 rfl (lv_at hl 1 rfl) ?_
      refine hk_iald (v := ((ar 1) (i).toNatClampNeg)) hx hb hw 5 0 rfl rfl (hk_in (N := 3000) (by decide) cc_1 cc_2) dX9_get_18 rfl ?_
      refine lv_goto (tgt := 23) hx hb dX9_get_19 (by decide) ?_
      exact hk_iret (u := ()) hx hb hr hlocks (hw) (trivial) dX9_get_23

def ww_cx_out_put : List Cond := Cond.code yX9_put cX9_put 2 none :: ([Cond.fieldLink RX9 13 "LzmaChains$Row" "size" "I", Cond.methodLink RX9 17 yX9_set, Cond.instanceMethod yX9_set, Cond.selects RX9 yX9_set yX9_set, Cond.initialized RX9, Cond.code yX9_set cX9_set 3 none, Cond.fieldLink RX9 7 "LzmaChains$Row" "data" "[I"] ++ (wsX90 ++ ([])))
set_option maxRecDepth 20000 in
theorem gw_cx_out_put_0 : GoodIn ww_cx_out_put (wsV RX9 17 RX9 yX9_set ww_cx_out_set) := goodIn_r _ [2, 3, 4, 5, 6, 7, 8, 9] rfl (by decide +kernel)
set_option maxHeartbeats 4000000 in
set_option maxRecDepth 100000 in
/-- Row.put on out: its size is one more, its array may change -/
theorem cx_out_put (l : Launch) (D : va_G) (cI cJ : ClassId) (ad : Nat → Nat) (g : Nat → Int32) (lg : Nat → Int64) (ar : Nat → Nat → Int32) (bk : Nat → Int64) (sz : Nat) (b v v' : Int32) (h1 : g 14 = v) (h2 : v + 1 = v') : Met l yX9_put ww_cx_out_put { frames := 1, cells := 0, slots := 0, locals := 22 } (va_Pc [.ref (ad 4), .int b] (hk_B D [(cI, .int), (cJ, .long)] sz (xw cI cJ ad g lg ar bk))) (va_Qv (fun u : Nat → Int32 => True) (fun u : Nat → Int32 => hk_E D [(cI, .int), (cJ, .long)] (va_A (xw cI cJ ad g lg ar bk) sz) (xw cI cJ ad (upd g 14 (v')) lg (va_up ar 1 u) bk)) (va_A (xw cI cJ ad g lg ar bk) sz)) 0 0 (va_A (xw cI cJ ad g lg ar bk) sz) := by
  refine hk_met (cc := cX9_put) (maxL := 2) (ret := none) (by decide) rfl (Nat.le_of_ble_eq_true rfl) ?_
  intro p e s m below meth c ls hx hb hr hml hown hts hlocks hin hA hw hl
  have iX9 : ∀ w ∈ wsX90, w ∈ ww_cx_out_put := fun _ h => List.mem_cons_of_mem _ (List.mem_append_right _ (List.mem_append_left _ h))
  have hl : lv_has ls 2 [(0, .ref (ad 4)), (1, .int b)] := hl
  refine lv_aload_n hx hb dX9_put_0 rfl (lv_at hl 0 rfl) ?_
  refine lv_aload_n hx hb dX9_put_1 rfl (lv_at hl 0 rfl) ?_
  refine hk_get (ci := 12) (C := RX9) (T := TX9) (N := 2) (v := .int v) hx hb hts iX9 hown hw 4 rfl rfl 1 (by decide) (hts _ (List.mem_of_getElem? (i := 1) rfl)) (congrArg (fun z => some (Value.int z)) h1) dX9_put_2 ?_
  refine lv_iload_n hx hb dX9_put_5 rfl (lv_at hl 1 rfl) ?_
  refine hk_Vv (As := [.int v, .int b]) (rest := []) ⟨hx, hb, hml, hown, hts⟩ hw hA (cx_out_set l D cI cJ ad g lg ar bk _ v b) (cwV 2 hts gw_cx_out_put_0 rfl rfl rfl (by decide +kernel) ⟨Nat.le_of_ble_eq_true rfl, Nat.le_of_ble_eq_true rfl⟩) 4 (ci := 12) (T := TX9) (N := 2) rfl rfl rfl hl.1 rfl (Nat.le_of_ble_eq_true rfl) dX9_put_6 ⟨Nat.le_of_ble_eq_true rfl, Nat.le_of_ble_eq_true rfl⟩ (fun uu_2 H locs hp_3 hw => ?_)
  have hw : hk_W D [(cI, .int), (cJ, .long)] _ s _ _ (xw cI cJ ad g lg (va_up ar 1 uu_2) bk) := hw
  refine lv_aload_n hx hb dX9_put_9 rfl (lv_at hl 0 rfl) ?_
  refine lv_dup hx hb dX9_put_10 rfl ?_
  refine hk_get (ci := 12) (C := RX9) (T := TX9) (N := 2) (v := .int v) hx hb hts iX9 hown hw 4 rfl rfl 1 (by decide) (hts _ (List.mem_of_getElem? (i := 1) rfl)) (congrArg (fun z => some (Value.int z)) h1) dX9_put_11 ?_
  refine lv_iconst (v := 1) hx hb dX9_put_14 (by decide) ?_
  refine lv_iadd hx hb dX9_put_15 ?_
  refine hk_topi (v') h2 ?_
  refine hk_put (ci := 12) (C := RX9) (T := TX9) (N := 2) (ty := .int) (v := .int (v')) hx hb hts iX9 tyX9 tyX9_ok nmX9 hown hw 4 rfl rfl 1 (by decide) (hts _ (List.mem_of_getElem? (i := 1) rfl)) rfl (by decide +kernel) rfl rfl (Nat.le_of_ble_eq_true rfl) dX9_put_16 (ws' := xw cI cJ ad (upd g 14 (v')) lg (va_up ar 1 uu_2) bk) rfl (fun H locs hw => ?_)
  exact hk_vret (u := uu_2) hx hb hr hlocks (hw) (trivial) dX9_put_19
