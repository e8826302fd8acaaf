def ww_cx_findLongest : List Cond := Cond.code yX1_findLongest cX1_findLongest 9 none :: ([Cond.fieldLink RX1 9 "LzmaChains$Chooser" "row" "LLzmaChains$Row;", Cond.fieldLink RX1 58 "LzmaChains$Row" "data" "[I", Cond.fieldLink RX1 26 "LzmaChains$Chooser" "runs" "[I", Cond.methodLink RX1 63 yJ7_fill_53178, Cond.static yJ7_fill_53178, Cond.initialized RJ7, Cond.code yJ7_fill_53178 cJ7_fill_53178 4 none, Cond.fieldLink RX1 48 "LzmaChains$Chooser" "to" "I", Cond.methodLink RX1 42 Lib.Math.min.name, Cond.static Lib.Math.min.name, Cond.initialized "java/lang/Math", Cond.code Lib.Math.min.name Lib.Math.min.code 2 (some .int), Cond.fieldLink RX1 39 "LzmaChains$Chooser" "from" "I"] ++ (wsX10 ++ (wsX90 ++ ([]))))
set_option maxRecDepth 20000 in
theorem gw_cx_findLongest_0 : GoodIn ww_cx_findLongest (va_wsS RX1 63 yJ7_fill_53178 ww_cx_fillC) := goodIn_r _ [4, 5, 6, 7] rfl (by decide +kernel)
set_option maxHeartbeats 4000000 in
set_option maxRecDepth 100000 in
/-- Chooser.findLongest, nothing there -/
theorem cx_findLongest (l : Launch) (D : va_G) (cI cJ : ClassId) (ad : Nat → Nat) (g : Nat → Int32) (lg : Nat → Int64) (ar : Nat → Nat → Int32) (bk : Nat → Int64) (sz : Nat) (dc : Int32) (h38 : g 38 = 0) (h39 : g 39 = 0) : Met l yX1_findLongest ww_cx_findLongest { frames := 1, cells := 0, slots := 0, locals := 32 } (va_Pc [.ref (ad 19), .int dc] (hk_B D [(cI, .int), (cJ, .long)] sz (xw cI cJ ad g lg ar bk))) (va_Qv (fun u : (Nat → Int32) => True) (fun u : (Nat → Int32) => hk_E D [(cI, .int), (cJ, .long)] (va_A (xw cI cJ ad g lg ar bk) sz) (xw cI cJ ad g lg (va_up ar 10 u) bk)) (va_A (xw cI cJ ad g lg ar bk) sz)) 0 0 (va_A (xw cI cJ ad g lg ar bk) sz) := by
  refine hk_met (cc := cX1_findLongest) (maxL := 9) (ret := none) (by decide) rfl (Nat.le_of_ble_eq_true rfl) ?_
  intro p e s m below meth c ls hx hb hr hml hown hts hlocks hin hA hw hl
  have iX1 : ∀ w ∈ wsX10, w ∈ ww_cx_findLongest := fun _ h => List.mem_cons_of_mem _ (List.mem_append_right _ (List.mem_append_left _ h))
  have iX9 : ∀ w ∈ wsX90, w ∈ ww_cx_findLongest := fun _ h => List.mem_cons_of_mem _ (List.mem_append_right _ (List.mem_append_right _ (List.mem_append_left _ h)))
  have hl : lv_has ls 9 [(0, .ref (ad 19)), (1, .int dc)] := hl
  refine lv_aload_n hx hb dX1_findLongest_0 rfl (lv_at hl 0 rfl) ?_
  refine hk_get (ci := 4) (C := RX1) (T := TX1) (N := 13) (v := .ref (ad 2)) hx hb hts iX1 hown hw 19 rfl rfl 0 (by decide) (hts _ (List.mem_of_getElem? (i := 1) rfl)) rfl dX1_findLongest_1 ?_
  refine hk_get (ci := 12) (C := RX9) (T := TX9) (N := 2) (v := .ref (ad 3)) hx hb hts iX9 hown hw 2 rfl rfl 0 (by decide) (hts _ (List.mem_of_getElem? (i := 2) rfl)) rfl dX1_findLongest_4 ?_
  refine lv_astore_n (lv' := [(2, .ref (ad 3)), (0, .ref (ad 19)), (1, .int dc)]) hx hb dX1_findLongest_7 rfl hl (by decide) rfl (fun ls hl => ?_)
  refine lv_aload_n hx hb dX1_findLongest_8 rfl (lv_at hl 1 rfl) ?_
  refine hk_get (ci := 4) (C := RX1) (T := TX1) (N := 13) (v := .ref (ad 22)) hx hb hts iX1 hown hw 19 rfl rfl 4 (by decide) (hts _ (List.mem_of_getElem? (i := 3) rfl)) rfl dX1_findLongest_9 ?_
  refine lv_iconst (v := 0) hx hb dX1_findLongest_12 (by decide) ?_
  refine hk_Sv (As := [.ref (ad 22), .int 0]) (rest := []) ⟨hx, hb, hml, hown, hts⟩ hw hA (cx_fillC l D cI cJ ad g lg ar bk _ 0) (va_cwS 2 hts gw_cx_findLongest_0 rfl rfl rfl (by decide +kernel) ⟨Nat.le_of_ble_eq_true rfl, Nat.le_of_ble_eq_true rfl⟩) rfl hl.1 rfl (Nat.le_of_ble_eq_true rfl) dX1_findLongest_13 ⟨Nat.le_of_ble_eq_true rfl, Nat.le_of_ble_eq_true rfl⟩ (fun uu_2 H locs hp_3 hw => ?_)
  have hw : hk_W D [(cI, .int), (cJ, .long)] _ s _ _ (xw cI cJ ad g lg (va_up ar 10 uu_2) bk) := hw
  refine lv_aload_n hx hb dX1_findLongest_16 rfl (lv_at hl 1 rfl) ?_
  refine hk_get (ci := 4) (C := RX1) (T := TX1) (N := 13) (v := .int 0) hx hb hts iX1 hown hw 19 rfl rfl 9 (by decide) (hts _ (List.mem_of_getElem? (i := 8) rfl)) (congrArg (fun z => some (Value.int z)) h39) dX1_findLongest_17 ?_
  refine lv_aload_n hx hb dX1_findLongest_20 rfl (lv_at hl 0 rfl) ?_
  refine hk_alen (v := 1500) hx hb hw 3 0 rfl rfl rfl dX1_findLongest_21 ?_
  refine va_mmin hx hb (by rw [hml]; exact hl.1.symm) hown (hts _ (List.mem_of_getElem? (i := 9) rfl)) (hts _ (List.mem_of_getElem? (i := 10) rfl)) (hts _ (List.mem_of_getElem? (i := 11) rfl)) (hts _ (List.mem_of_getElem? (i := 12) rfl)) (Nat.le_of_ble_eq_true rfl) (Nat.le_of_ble_eq_true rfl) (Nat.le_of_ble_eq_true rfl) (Nat.le_of_ble_eq_true rfl) dX1_findLongest_22 ?_
  refine hk_topi 0 (by decide +kernel) ?_
  refine lv_iconst (v := 1) hx hb dX1_findLongest_25 (by decide) ?_
  refine lv_isub hx hb dX1_findLongest_26 ?_
  refine hk_topi (-1) (by decide +kernel) ?_
  refine lv_istore_n (lv' := [(3, .int (-1)), (2, .ref (ad 3)), (0, .ref (ad 19)), (1, .int dc)]) hx hb dX1_findLongest_27 rfl hl (by decide) rfl (fun ls hl => ?_)
  refine lv_iload_n hx hb dX1_findLongest_28 rfl (lv_at hl 0 rfl) ?_
  refine lv_aload_n hx hb dX1_findLongest_29 rfl (lv_at hl 2 rfl) ?_
  refine hk_get (ci := 4) (C := RX1) (T := TX1) (N := 13) (v := .int 0) hx hb hts iX1 hown hw 19 rfl rfl 8 (by decide) (hts _ (List.mem_of_getElem? (i := 13) rfl)) (congrArg (fun z => some (Value.int z)) h38) dX1_findLongest_30 ?_
  refine lv_icmp_lt (tgt := 173) hx hb dX1_findLongest_33 (by decide) (fun _ => ?_) (fun cc_4 => absurd (by decide) cc_4)
  exact hk_vret (u := uu_2) hx hb hr hlocks (hw) (trivial) dX1_findLongest_173

def ww_cx_weigh : List Cond := Cond.code yX1_weigh cX1_weigh 8 none :: ([Cond.fieldLink RX1 48 "LzmaChains$Chooser" "to" "I", Cond.fieldLink RX1 39 "LzmaChains$Chooser" "from" "I", Cond.fieldLink RX1 29 "LzmaChains$Chooser" "costs" "[I"] ++ (wsX10 ++ ([])))
set_option maxHeartbeats 4000000 in
set_option maxRecDepth 100000 in
/-- Chooser.weigh, nothing there -/
theorem cx_weigh (l : Launch) (D : va_G) (cI cJ : ClassId) (ad : Nat → Nat) (g : Nat → Int32) (lg : Nat → Int64) (ar : Nat → Nat → Int32) (bk : Nat → Int64) (sz : Nat)  (h38 : g 38 = 0) (h39 : g 39 = 0) : Met l yX1_weigh ww_cx_weigh { frames := 0, cells := 0, slots := 0, locals := 0 } (va_Pc [.ref (ad 19)] (hk_B D [(cI, .int), (cJ, .long)] sz (xw cI cJ ad g lg ar bk))) (va_Qv (fun u : (Nat → Int32) => True) (fun u : (Nat → Int32) => hk_E D [(cI, .int), (cJ, .long)] (va_A (xw cI cJ ad g lg ar bk) sz) (xw cI cJ ad g lg (va_up ar 11 u) bk)) (va_A (xw cI cJ ad g lg ar bk) sz)) 0 0 (va_A (xw cI cJ ad g lg ar bk) sz) := by
  refine hk_met (cc := cX1_weigh) (maxL := 8) (ret := none) (by decide) rfl (Nat.le_of_ble_eq_true rfl) ?_
  intro p e s m below meth c ls hx hb hr hml hown hts hlocks hin hA hw hl
  have iX1 : ∀ w ∈ wsX10, w ∈ ww_cx_weigh := fun _ h => List.mem_cons_of_mem _ (List.mem_append_right _ (List.mem_append_left _ h))
  have hl : lv_has ls 8 [(0, .ref (ad 19))] := hl
  refine lv_aload_n hx hb dX1_weigh_0 rfl (lv_at hl 0 rfl) ?_
  refine hk_get (ci := 4) (C := RX1) (T := TX1) (N := 13) (v := .int 0) hx hb hts iX1 hown hw 19 rfl rfl 9 (by decide) (hts _ (List.mem_of_getElem? (i := 1) rfl)) (congrArg (fun z => some (Value.int z)) h39) dX1_weigh_1 ?_
  refine lv_aload_n hx hb dX1_weigh_4 rfl (lv_at hl 0 rfl) ?_
  refine hk_get (ci := 4) (C := RX1) (T := TX1) (N := 13) (v := .int 0) hx hb hts iX1 hown hw 19 rfl rfl 8 (by decide) (hts _ (List.mem_of_getElem? (i := 2) rfl)) (congrArg (fun z => some (Value.int z)) h38) dX1_weigh_5 ?_
  refine lv_isub hx hb dX1_weigh_8 ?_
  refine hk_topi 0 (by decide +kernel) ?_
  refine lv_istore_n (lv' := [(1, .int 0), (0, .ref (ad 19))]) hx hb dX1_weigh_9 rfl hl (by decide) rfl (fun ls hl => ?_)
  refine lv_aload_n hx hb dX1_weigh_10 rfl (lv_at hl 1 rfl) ?_
  refine hk_get (ci := 4) (C := RX1) (T := TX1) (N := 13) (v := .ref (ad 23)) hx hb hts iX1 hown hw 19 rfl rfl 5 (by decide) (hts _ (List.mem_of_getElem? (i := 3) rfl)) rfl dX1_weigh_11 ?_
  refine lv_iload_n hx hb dX1_weigh_14 rfl (lv_at hl 0 rfl) ?_
  refine lv_iconst (v := 0) hx hb dX1_weigh_15 (by decide) ?_
  refine hk_iast hx hb hw 23 0 rfl rfl (show ¬ (_ ∨ _) by decide) dX1_weigh_16 (ws' := xw cI cJ ad g lg (va_up ar 11 (upd (ar 11) 0 0)) bk) rfl (fun H locs hw => ?_)
  refine lv_iload_n hx hb dX1_weigh_17 rfl (lv_at hl 0 rfl) ?_
  refine lv_iconst (v := 1) hx hb dX1_weigh_18 (by decide) ?_
  refine lv_isub hx hb dX1_weigh_19 ?_
  refine hk_topi (-1) (by decide +kernel) ?_
  refine lv_istore_n (lv' := [(2, .int (-1)), (1, .int 0), (0, .ref (ad 19))]) hx hb dX1_weigh_20 rfl hl (by decide) rfl (fun ls hl => ?_)
  refine lv_iload_n hx hb dX1_weigh_21 rfl (lv_at hl 0 rfl) ?_
  refine lv_if_lt (tgt := 159) hx hb dX1_weigh_22 (by decide) (fun _ => ?_) (fun cc_1 => absurd (by decide) cc_1)
  exact hk_vret (u := (upd (ar 11) 0 0)) hx hb hr hlocks (hw) (trivial) dX1_weigh_159

def ww_cx_prepare : List Cond := Cond.code yX1_prepare cX1_prepare 6 none :: ([Cond.fieldLink RX1 35 "LzmaChains$Chooser" "base" "I", Cond.fieldLink RX1 39 "LzmaChains$Chooser" "from" "I", Cond.methodLink RX1 42 Lib.Math.min.name, Cond.static Lib.Math.min.name, Cond.initialized "java/lang/Math", Cond.code Lib.Math.min.name Lib.Math.min.code 2 (some .int), Cond.fieldLink RX1 48 "LzmaChains$Chooser" "to" "I", Cond.methodLink RX1 51 yX1_findLongest, Cond.instanceMethod yX1_findLongest, Cond.selects RX1 yX1_findLongest yX1_findLongest, Cond.initialized RX1, Cond.code yX1_findLongest cX1_findLongest 9 none, Cond.fieldLink RX1 9 "LzmaChains$Chooser" "row" "LLzmaChains$Row;", Cond.fieldLink RX1 58 "LzmaChains$Row" "data" "[I", Cond.fieldLink RX1 26 "LzmaChains$Chooser" "runs" "[I", Cond.methodLink RX1 63 yJ7_fill_53178, Cond.static yJ7_fill_53178, Cond.initialized RJ7, Cond.code yJ7_fill_53178 cJ7_fill_53178 4 none, Cond.methodLink RX1 55 yX1_weigh, Cond.instanceMethod yX1_weigh, Cond.selects RX1 yX1_weigh yX1_weigh, Cond.code yX1_weigh cX1_weigh 8 none, Cond.fieldLink RX1 29 "LzmaChains$Chooser" "costs" "[I"] ++ (wsX10 ++ (wsX90 ++ ([]))))
set_option maxRecDepth 20000 in
theorem gw_cx_prepare_0 : GoodIn ww_cx_prepare (wsV RX1 51 RX1 yX1_findLongest ww_cx_findLongest) := goodIn_r _ [8, 9, 10, 11, 12, 13, 14, 15, 16, 17, 18, 19, 7, 3, 4, 5, 6, 2, 25, 26, 27, 28, 29, 30, 31, 32, 33, 34, 35, 36, 37, 38, 39] rfl (by decide +kernel)
set_option maxRecDepth 20000 in
theorem gw_cx_prepare_1 : GoodIn ww_cx_prepare (wsV RX1 55 RX1 yX1_weigh ww_cx_weigh) := goodIn_r _ [20, 21, 22, 11, 23, 7, 2, 24, 25, 26, 27, 28, 29, 30, 31, 32, 33, 34, 35, 36, 37] rfl (by decide +kernel)
set_option maxHeartbeats 4000000 in
set_option maxRecDepth 100000 in
/-- Chooser.prepare, nothing there -/
theorem cx_prepare (l : Launch) (D : va_G) (cI cJ : ClassId) (ad : Nat → Nat) (g : Nat → Int32) (lg : Nat → Int64) (ar : Nat → Nat → Int32) (bk : Nat → Int64) (sz : Nat) (dc lv : Int32) : Met l yX1_prepare ww_cx_prepare { frames := 2, cells := 0, slots := 0, locals := 60 } (va_Pc [.ref (ad 19), .int 0, .int 0, .int 0, .int dc, .int lv] (hk_B D [(cI, .int), (cJ, .long)] sz (xw cI cJ ad g lg ar bk))) (va_Qv (fun u : (Nat → Int32) × (Nat → Int32) => True) (fun u : (Nat → Int32) × (Nat → Int32) => hk_E D [(cI, .int), (cJ, .long)] (va_A (xw cI cJ ad g lg ar bk) sz) (xw cI cJ ad (upd (upd (upd g 37 0) 38 0) 39 0) lg (va_up (va_up ar 10 u.1) 11 u.2) bk)) (va_A (xw cI cJ ad g lg ar bk) sz)) 0 0 (va_A (xw cI cJ ad g lg ar bk) sz) := by
  refine hk_met (cc := cX1_prepare) (maxL := 6) (ret := none) (by decide) rfl (Nat.le_of_ble_eq_true rfl) ?_
  intro p e s m below meth c ls hx hb hr hml hown hts hlocks hin hA hw hl
  have iX1 : ∀ w ∈ wsX10, w ∈ ww_cx_prepare := fun _ h => List.mem_cons_of_mem _ (List.mem_append_right _ (List.mem_append_left _ h))
  have iX9 : ∀ w ∈ wsX90, w ∈ ww_cx_prepare := fun _ h => List.mem_cons_of_mem _ (List.mem_append_right _ (List.mem_append_right _ (List.mem_append_left _ h)))
  have hl : lv_has ls 6 [(0, .ref (ad 19)), (1, .int 0), (2, .int 0), (3, .int 0), (4, .int dc), (5, .int lv)] := hl
  refine lv_aload_n hx hb dX1_prepare_0 rfl (lv_at hl 0 rfl) ?_
  refine lv_iload_n hx hb dX1_prepare_1 rfl (lv_at hl 1 rfl) ?_
  refine hk_put (ci := 4) (C := RX1) (T := TX1) (N := 13) (ty := .int) (v := .int 0) hx hb hts iX1 tyX1 tyX1_ok nmX1 hown hw 19 rfl rfl 7 (by decide) (hts _ (List.mem_of_getElem? (i := 1) rfl)) rfl (by decide +kernel) rfl rfl (Nat.le_of_ble_eq_true rfl) dX1_prepare_2 (ws' := xw cI cJ ad (upd g 37 0) lg ar bk) rfl (fun H locs hw => ?_)
  refine lv_aload_n hx hb dX1_prepare_5 rfl (lv_at hl 0 rfl) ?_
  refine lv_iload_n hx hb dX1_prepare_6 rfl (lv_at hl 2 rfl) ?_
  refine hk_put (ci := 4) (C := RX1) (T := TX1) (N := 13) (ty := .int) (v := .int 0) hx hb hts iX1 tyX1 tyX1_ok nmX1 hown hw 19 rfl rfl 8 (by decide) (hts _ (List.mem_of_getElem? (i := 2) rfl)) rfl (by decide +kernel) rfl rfl (Nat.le_of_ble_eq_true rfl) dX1_prepare_7 (ws' := xw cI cJ ad (upd (upd g 37 0) 38 0) lg ar bk) rfl (fun H locs hw => ?_)
  refine lv_aload_n hx hb dX1_prepare_10 rfl (lv_at hl 0 rfl) ?_
  refine lv_iload_n hx hb dX1_prepare_11 rfl (lv_at hl 3 rfl) ?_
  refine lv_sipush (v := 1500) hx hb dX1_prepare_12 (by decide) ?_
  refine va_mmin hx hb (by rw [hml]; exact hl.1.symm) hown (hts _ (List.mem_of_getElem? (i := 3) rfl)) (hts _ (List.mem_of_getElem? (i := 4) rfl)) (hts _ (List.mem_of_getElem? (i := 5) rfl)) (hts _ (List.mem_of_getElem? (i := 6) rfl)) (Nat.le_of_ble_eq_true rfl) (Nat.le_of_ble_eq_true rfl) (Nat.le_of_ble_eq_true rfl) (Nat.le_of_ble_eq_true rfl) dX1_prepare_15 ?_
  refine hk_topi 0 (by decide +kernel) ?_
  refine hk_put (ci := 4) (C := RX1) (T := TX1) (N := 13) (ty := .int) (v := .int 0) hx hb hts iX1 tyX1 tyX1_ok nmX1 hown hw 19 rfl rfl 9 (by decide) (hts _ (List.mem_of_getElem? (i := 7) rfl)) rfl (by decide +kernel) rfl rfl (Nat.le_of_ble_eq_true rfl) dX1_prepare_18 (ws' := xw cI cJ ad (upd (upd (upd g 37 0) 38 0) 39 0) lg ar bk) rfl (fun H locs hw => ?_)
  refine lv_aload_n hx hb dX1_prepare_21 rfl (lv_at hl 0 rfl) ?_
  refine lv_iload hx hb dX1_prepare_22 (lv_at hl 4 rfl) ?_
  refine hk_Vv (As := [.int dc]) (rest := []) ⟨hx, hb, hml, hown, hts⟩ hw hA (cx_findLongest l D cI cJ ad (upd (upd (upd g 37 0) 38 0) 39 0) lg ar bk _ dc rfl rfl) (cwV 1 hts gw_cx_prepare_0 rfl rfl rfl (by decide +kernel) ⟨Nat.le_of_ble_eq_true rfl, Nat.le_of_ble_eq_true rfl⟩) 19 (ci := 4) (T := TX1) (N := 13) rfl rfl rfl hl.1 rfl (Nat.le_of_ble_eq_true rfl) dX1_prepare_24 ⟨Nat.le_of_ble_eq_true rfl, Nat.le_of_ble_eq_true rfl⟩ (fun uu_2 H locs hp_3 hw => ?_)
  have hw : hk_W D [(cI, .int), (cJ, .long)] _ s _ _ (xw cI cJ ad (upd (upd (upd g 37 0) 38 0) 39 0) lg (va_up ar 10 uu_2) bk) := hw
  refine lv_iload hx hb dX1_prepare_27 (lv_at hl 5 rfl) ?_
  refine lv_iconst (v := 2) hx hb dX1_prepare_29 (by decide) ?_
  refine lv_icmp_ne (tgt := 37) hx hb dX1_prepare_30 (by decide) (fun cc_4 => ?_) (fun cc_4 => ?_)
  · exact hk_vret (u := (uu_2, (ar 11))) hx hb hr hlocks (show hk_W D [(cI, .int), (cJ, .long)] _ s _ _ (xw cI cJ ad (upd (upd (upd g 37 0) 38 0) 39 0) lg (va_up (va_up ar 10 ((uu_2, (ar 11)).1)) 11 ((uu_2, (ar 11)).2)) bk) from hw) (trivial) dX1_prepare_37
  · refine lv_aload_n hx hb dX1_prepare_33 rfl (lv_at hl 0 rfl) ?_
    refine hk_Vv (As := []) (rest := []) ⟨hx, hb, hml, hown, hts⟩ hw hA (cx_weigh l D cI cJ ad (upd (upd (upd g 37 0) 38 0) 39 0) lg (va_up ar 10 uu_2) bk _ rfl rfl) (cwV 0 hts gw_cx_prepare_1 rfl rfl rfl (by decide +kernel) ⟨Nat.le_of_ble_eq_true rfl, Nat.le_of_ble_eq_true rfl⟩) 19 (ci := 4) (T := TX1) (N := 13) rfl rfl rfl hl.1 rfl (Nat.le_of_ble_eq_true rfl) dX1_prepare_34 ⟨Nat.le_of_ble_eq_true rfl, Nat.le_of_ble_eq_true rfl⟩ (fun uu_6 H locs hp_7 hw => ?_)
    have hw : hk_W D [(cI, .int), (cJ, .long)] _ s _ _ (xw cI cJ ad (upd (upd (upd g 37 0) 38 0) 39 0) lg (va_up (va_up ar 10 uu_2) 11 uu_6) bk) := hw
    exact hk_vret (u := (uu_2, uu_6)) hx hb hr hlocks (show hk_W D [(cI, .int), (cJ, .long)] _ s _ _ (xw cI cJ ad (upd (upd (upd g 37 0) 38 0) 39 0) lg (va_up (va_up ar 10 ((uu_2, uu_6).1)) 11 ((uu_2, uu_6).2)) bk) from hw) (trivial) dX1_prepare_37

def ww_cx_bytesOf1 : List Cond := Cond.code yX0_bytesOf cX0_bytesOf 1 (some .int) :: ([] ++ ([]))
set_option maxHeartbeats 4000000 in
set_option maxRecDepth 100000 in
/-- Checks.bytesOf(1) -/
theorem cx_bytesOf1 (l : Launch) (D : va_G) (cI cJ : ClassId) (ad : Nat → Nat) (g : Nat → Int32) (lg : Nat → Int64) (ar : Nat → Nat → Int32) (bk : Nat → Int64) (sz : Nat)  : Met l yX0_bytesOf ww_cx_bytesOf1 { frames := 0, cells := 0, slots := 0, locals := 0 } (va_Pc [.int 1] (hk_B D [(cI, .int), (cJ, .long)] sz (xw cI cJ ad g lg ar bk))) (va_Qi (fun (r : Int32) (u : Unit) => r = 4) (fun u : Unit => hk_E D [(cI, .int), (cJ, .long)] (va_A (xw cI cJ ad g lg ar bk) sz) (xw cI cJ ad g lg ar bk)) (va_A (xw cI cJ ad g lg ar bk) sz)) 0 0 (va_A (xw cI cJ ad g lg ar bk) sz) := by
  refine hk_met (cc := cX0_bytesOf) (maxL := 1) (ret := (some .int)) (by decide) rfl (Nat.le_of_ble_eq_true rfl) ?_
  intro p e s m below meth c ls hx hb hr hml hown hts hlocks hin hA hw hl
  have hl : lv_has ls 1 [(0, .int 1)] := hl
  refine lv_iload_n hx hb dX0_bytesOf_0 rfl (lv_at hl 0 rfl) ?_
  refine lv_iconst (v := 1) hx hb dX0_bytesOf_1 (by decide) ?_
  refine lv_icmp_ne (tgt := 9) hx hb dX0_bytesOf_2 (by decide) (fun cc_1 => absurd (by decide) cc_1) (fun _ => ?_)
  refine lv_iconst (v := 4) hx hb dX0_bytesOf_5 (by decide) ?_
  refine lv_goto (tgt := 31) hx hb dX0_bytesOf_6 (by decide) ?_
  exact hk_iret (u := ()) hx hb hr hlocks (hw) (rfl) dX0_bytesOf_31

def ww_cx_crc32o : List Cond := Cond.code yX0_crc32 cX0_crc32 6 (some .int) :: ([Cond.methodLink RX0 33 yX9_get, Cond.instanceMethod yX9_get, Cond.selects RX9 yX9_get yX9_get, Cond.initialized RX9, Cond.code yX9_get cX9_get 2 (some .int), Cond.fieldLink RX9 7 "LzmaChains$Row" "data" "[I", Cond.constant RX0 39 (-306674912)] ++ (wsX90 ++ ([])))
set_option maxRecDepth 20000 in
theorem gw_cx_crc32o_0 : GoodIn ww_cx_crc32o (wsV RX0 33 RX9 yX9_get ww_cx_out_get) := goodIn_r _ [1, 2, 3, 4, 5, 6, 8, 9] rfl (by decide +kernel)
set_option maxHeartbeats 4000000 in
set_option maxRecDepth 100000 in
/-- Checks.crc32 of OUT: it answers -/
theorem cx_crc32o (l : Launch) (D : va_G) (cI cJ : ClassId) (ad : Nat → Nat) (g : Nat → Int32) (lg : Nat → Int64) (ar : Nat → Nat → Int32) (bk : Nat → Int64) (sz : Nat) (a1 a2 : Nat) (h1 : a1 ≤ a2) (h2 : a2 < 2 ^ 31) : Met l yX0_crc32 ww_cx_crc32o { frames := 1, cells := 0, slots := 0, locals := 21 } (va_Pc [.ref (ad 4), .int (nI a1), .int (nI a2)] (hk_B D [(cI, .int), (cJ, .long)] sz (xw cI cJ ad g lg ar bk))) (va_Qi (fun (r : Int32) (u : Unit) => True) (fun u : Unit => hk_E D [(cI, .int), (cJ, .long)] (va_A (xw cI cJ ad g lg ar bk) sz) (xw cI cJ ad g lg ar bk)) (va_A (xw cI cJ ad g lg ar bk) sz)) 0 0 (va_A (xw cI cJ ad g lg ar bk) sz) := by
  refine hk_met (cc := cX0_crc32) (maxL := 6) (ret := (some .int)) (by decide) rfl (Nat.le_of_ble_eq_true rfl) ?_
  intro p e s m below meth c ls hx hb hr hml hown hts hlocks hin hA hw hl
  have iX9 : ∀ w ∈ wsX90, w ∈ ww_cx_crc32o := fun _ h => List.mem_cons_of_mem _ (List.mem_append_right _ (List.mem_append_left _ h))
  have hl : lv_has ls 6 [(0, .ref (ad 4)), (1, .int (nI a1)), (2, .int (nI a2))] := hl
  refine lv_iconst (v := (-1)) hx hb dX0_crc32_0 (by decide) ?_
  refine lv_istore_n (lv' := [(3, .int (-1)), (0, .ref (ad 4)), (1, .int (nI a1)), (2, .int (nI a2))]) hx hb dX0_crc32_1 rfl hl (by decide) rfl (fun ls hl => ?_)
  refine lv_iload_n hx hb dX0_crc32_2 rfl (lv_at hl 2 rfl) ?_
  refine lv_istore (lv' := [(4, .int (nI a1)), (3, .int (-1)), (0, .ref (ad 4)), (1, .int (nI a1)), (2, .int (nI a2))]) hx hb dX0_crc32_3 hl (by decide) rfl (fun ls hl => ?_)
  have loop_2 : ∀ (ki i : Nat) (jj_1 : Int32) (ls : Array Slot) (H : Heap) (locs : List Loc), i + ki = a2 → hk_W D [(cI, .int), (cJ, .long)] (va_A (xw cI cJ ad g lg ar bk) sz) s H locs (xw cI cJ ad g lg ar bk) → lv_has ls 6 [(4, .int (nI i)), (3, .int jj_1), (0, .ref (ad 4)), (1, .int (nI a1)), (2, .int (nI a2))] → W p l e { frames := 1, cells := 0, slots := 0, locals := 21 } s m (List.toArray [.ref (ad 4), .int (nI a1), .int (nI a2)]) below meth c H locs 0 0 (MQ below (va_Qi (fun (r : Int32) (u : Unit) => True) (fun u : Unit => hk_E D [(cI, .int), (cJ, .long)] (va_A (xw cI cJ ad g lg ar bk) sz) (xw cI cJ ad g lg ar bk)) (va_A (xw cI cJ ad g lg ar bk) sz)) (List.toArray [.ref (ad 4), .int (nI a1), .int (nI a2)]) s 0 0 (va_A (xw cI cJ ad g lg ar bk) sz)) (F0 m 5 ls []) := by
    intro ki
    induction ki with
    | zero =>
      intro i jj_1 ls H locs hik  hw hl
      refine lv_iload hx hb dX0_crc32_5 (lv_at hl 0 rfl) ?_
      refine lv_iload_n hx hb dX0_crc32_7 rfl (lv_at hl 4 rfl) ?_
      refine lv_icmp_ge (tgt := 54) hx hb dX0_crc32_8 (by decide) (fun _ => ?_) (fun cc_3 => absurd (hk_le (a := a2) (b := i) (by omega) (by omega)) cc_3)
      refine lv_iload_n hx hb dX0_crc32_54 rfl (lv_at hl 1 rfl) ?_
      refine lv_iconst (v := (-1)) hx hb dX0_crc32_55 (by decide) ?_
      refine lv_ixor hx hb dX0_crc32_56 ?_
      exact hk_iret (u := ()) hx hb hr hlocks (hw) (trivial) dX0_crc32_57
    | succ ki ih =>
      intro i jj_1 ls H locs hik  hw hl
      refine lv_iload hx hb dX0_crc32_5 (lv_at hl 0 rfl) ?_
      refine lv_iload_n hx hb dX0_crc32_7 rfl (lv_at hl 4 rfl) ?_
      refine lv_icmp_ge (tgt := 54) hx hb dX0_crc32_8 (by decide) (fun cc_4 => absurd cc_4 (hk_nle (a := i) (b := a2) (by omega) (by omega))) (fun _ => ?_)
      refine lv_iload_n hx hb dX0_crc32_11 rfl (lv_at hl 1 rfl) ?_
      refine lv_aload_n hx hb dX0_crc32_12 rfl (lv_at hl 2 rfl) ?_
      refine lv_iload hx hb dX0_crc32_13 (lv_at hl 0 rfl) ?_
      refine hk_Vi (As := [.int (nI i)]) (rest := [.int jj_1]) ⟨hx, hb, hml, hown, hts⟩ hw hA (cx_out_get l D cI cJ ad g lg ar bk _ (nI i)) (cwV 1 hts gw_cx_crc32o_0 rfl rfl rfl (by decide +kernel) ⟨Nat.le_of_ble_eq_true rfl, Nat.le_of_ble_eq_true rfl⟩) 4 (ci := 12) (T := TX9) (N := 2) rfl rfl rfl hl.1 rfl (Nat.le_of_ble_eq_true rfl) dX0_crc32_15 ⟨Nat.le_of_ble_eq_true rfl, Nat.le_of_ble_eq_true rfl⟩ (fun rr_5 uu_6 H locs hp_7 hw => ?_)
      have hw : hk_W D [(cI, .int), (cJ, .long)] _ s _ _ (xw cI cJ ad g lg ar bk) := hw
      refine lv_ixor hx hb dX0_crc32_18 ?_
      refine lv_istore_n (lv' := [(3, .int (jj_1 ^^^ rr_5)), (4, .int (nI i)), (0, .ref (ad 4)), (1, .int (nI a1)), (2, .int (nI a2))]) hx hb dX0_crc32_19 rfl hl (by decide) rfl (fun ls hl => ?_)
      refine lv_iconst (v := 0) hx hb dX0_crc32_20 (by decide) ?_
      refine lv_istore (lv' := [(5, .int 0), (3, .int (jj_1 ^^^ rr_5)), (4, .int (nI i)), (0, .ref (ad 4)), (1, .int (nI a1)), (2, .int (nI a2))]) hx hb dX0_crc32_21 hl (by decide) rfl (fun ls hl => ?_)
      have loop_9 : ∀ (kj j : Nat) (jj_8 : Int32) (ls : Array Slot) (H : Heap) (locs : List Loc), j + kj = 8 → hk_W D [(cI, .int), (cJ, .long)] (va_A (xw cI cJ ad g lg ar bk) sz) s H locs (xw cI cJ ad g lg ar bk) → lv_has ls 6 [(5, .int (nI j)), (3, .int jj_8), (4, .int (nI i)), (0, .ref (ad 4)), (1, .int (nI a1)), (2, .int (nI a2))] → W p l e { frames := 1, cells := 0, slots := 0, locals := 21 } s m (List.toArray [.ref (ad 4), .int (nI a1), .int (nI a2)]) below meth c H locs 0 0 (MQ below (va_Qi (fun (r : Int32) (u : Unit) => True) (fun u : Unit => hk_E D [(cI, .int), (cJ, .long)] (va_A (xw cI cJ ad g lg ar bk) sz) (xw cI cJ ad g lg ar bk)) (va_A (xw cI cJ ad g lg ar bk) sz)) (List.toArray [.ref (ad 4), .int (nI a1), .int (nI a2)]) s 0 0 (va_A (xw cI cJ ad g lg ar bk) sz)) (F0 m 23 ls []) := by
        intro kj
        induction kj with
        | zero =>
          intro j jj_8 ls H locs hjk  hw hl
          refine lv_iload hx hb dX0_crc32_23 (lv_at hl 0 rfl) ?_
          refine lv_bipush (v := 8) hx hb dX0_crc32_25 (by decide) ?_
          refine lv_icmp_ge (tgt := 48) hx hb dX0_crc32_27 (by decide) (fun _ => ?_) (fun cc_10 => absurd (hk_le (a := 8) (b := j) (by omega) (by omega)) cc_10)
          refine lv_iinc (v := (nI (i + 1))) (lv' := [(4, .int (nI (i + 1))), (5, .int (nI j)), (3, .int jj_8), (0, .ref (ad 4)), (1, .int (nI a1)), (2, .int (nI a2))]) hx hb dX0_crc32_48 hl (k := 2) rfl ((nI_succ i).symm) (by decide) rfl (fun ls hl => ?_)
          refine lv_goto (tgt := 5) hx hb dX0_crc32_51 (by decide) ?_
          exact ih (i + 1) jj_8 ls _ _ (by omega)  hw (lv_sub hl [0, 2, 3, 4, 5] rfl)
        | succ kj ihj =>
          intro j jj_8 ls H locs hjk  hw hl
          refine lv_iload hx hb dX0_crc32_23 (lv_at hl 0 rfl) ?_
          refine lv_bipush (v := 8) hx hb dX0_crc32_25 (by decide) ?_
          refine lv_icmp_ge (tgt := 48) hx hb dX0_crc32_27 (by decide) (fun cc_11 => absurd cc_11 (hk_nle (a := j) (b := 8) (by omega) (by omega))) (fun _ => ?_)
          refine lv_iload_n hx hb dX0_crc32_30 rfl (lv_at hl 1 rfl) ?_
          refine lv_iconst (v := 1) hx hb dX0_crc32_31 (by decide) ?_
          refine lv_iushr (v := ((jj_8 : Int32).toUInt32 >>> ((1 : Int32).toUInt32 &&& Int32.toUInt32 31)).toInt32) hx hb dX0_crc32_32 rfl ?_
          refine lv_ldc (v := (-306674912)) hx hb hown (hts _ (List.mem_of_getElem? (i := 7) rfl)) dX0_crc32_33 ?_
          refine lv_iload_n hx hb dX0_crc32_35 rfl (lv_at hl 1 rfl) ?_
          refine lv_iconst (v := 1) hx hb dX0_crc32_36 (by decide) ?_
          refine lv_iand hx hb dX0_crc32_37 ?_
          refine lv_ineg hx hb dX0_crc32_38 ?_
          refine lv_iand hx hb dX0_crc32_39 ?_
          refine lv_ixor hx hb dX0_crc32_40 ?_
          refine lv_istore_n (lv' := [(3, .int (((jj_8 : Int32).toUInt32 >>> ((1 : Int32).toUInt32 &&& Int32.toUInt32 31)).toInt32 ^^^ ((-306674912) &&& (-(jj_8 &&& 1))))), (5, .int (nI j)), (4, .int (nI i)), (0, .ref (ad 4)), (1, .int (nI a1)), (2, .int (nI a2))]) hx hb dX0_crc32_41 rfl hl (by decide) rfl (fun ls hl => ?_)
          refine lv_iinc (v := (nI (j + 1))) (lv' := [(5, .int (nI (j + 1))), (3, .int (((jj_8 : Int32).toUInt32 >>> ((1 : Int32).toUInt32 &&& Int32.toUInt32 31)).toInt32 ^^^ ((-306674912) &&& (-(jj_8 &&& 1))))), (4, .int (nI i)), (0, .ref (ad 4)), (1, .int (nI a1)), (2, .int (nI a2))]) hx hb dX0_crc32_42 hl (k := 1) rfl ((nI_succ j).symm) (by decide) rfl (fun ls hl => ?_)
          refine lv_goto (tgt := 23) hx hb dX0_crc32_45 (by decide) ?_
          exact ihj (j + 1) (((jj_8 : Int32).toUInt32 >>> ((1 : Int32).toUInt32 &&& Int32.toUInt32 31)).toInt32 ^^^ ((-306674912) &&& (-(jj_8 &&& 1)))) ls _ _ (by omega)  hw (lv_sub hl [0, 1, 2, 3, 4, 5] rfl)
      exact loop_9 (8 - 0) 0 (jj_1 ^^^ rr_5) ls _ _ (by omega)  hw (lv_sub hl [0, 1, 2, 3, 4, 5] rfl)
  exact loop_2 (a2 - a1) a1 (-1) ls _ _ (by omega)  hw (lv_sub hl [0, 1, 2, 3, 4] rfl)

def ww_cx_putNumber0 : List Cond := Cond.code yX9_putNumber cX9_putNumber 4 none :: ([Cond.methodLink RX9 21 yX9_put, Cond.instanceMethod yX9_put, Cond.selects RX9 yX9_put yX9_put, Cond.initialized RX9, Cond.code yX9_put cX9_put 2 none, Cond.fieldLink RX9 13 "LzmaChains$Row" "size" "I", Cond.methodLink RX9 17 yX9_set, Cond.instanceMethod yX9_set, Cond.selects RX9 yX9_set yX9_set, Cond.code yX9_set cX9_set 3 none, Cond.fieldLink RX9 7 "LzmaChains$Row" "data" "[I"] ++ (wsX90 ++ ([])))
set_option maxRecDepth 20000 in
theorem gw_cx_putNumber0_0 : GoodIn ww_cx_putNumber0 (wsV RX9 21 RX9 yX9_put ww_cx_out_put) := goodIn_r _ [1, 2, 3, 4, 5, 6, 7, 8, 9, 4, 10, 11, 12, 13] rfl (by decide +kernel)
set_option maxHeartbeats 4000000 in
set_option maxRecDepth 100000 in
/-- Row.putNumber(0), OUT has 13 -/
theorem cx_putNumber0 (l : Launch) (D : va_G) (cI cJ : ClassId) (ad : Nat → Nat) (g : Nat → Int32) (lg : Nat → Int64) (ar : Nat → Nat → Int32) (bk : Nat → Int64) (sz : Nat)  (h14 : g 14 = 13) : Met l yX9_putNumber ww_cx_putNumber0 { frames := 2, cells := 0, slots := 0, locals := 43 } (va_Pc [.ref (ad 4), .int 0] (hk_B D [(cI, .int), (cJ, .long)] sz (xw cI cJ ad g lg ar bk))) (va_Qv (fun u : (Nat → Int32) => True) (fun u : (Nat → Int32) => hk_E D [(cI, .int), (cJ, .long)] (va_A (xw cI cJ ad g lg ar bk) sz) (xw cI cJ ad (upd g 14 14) lg (va_up ar 1 u) bk)) (va_A (xw cI cJ ad g lg ar bk) sz)) 0 0 (va_A (xw cI cJ ad g lg ar bk) sz) := by
  refine hk_met (cc := cX9_putNumber) (maxL := 4) (ret := none) (by decide) rfl (Nat.le_of_ble_eq_true rfl) ?_
  intro p e s m below meth c ls hx hb hr hml hown hts hlocks hin hA hw hl
  have iX9 : ∀ w ∈ wsX90, w ∈ ww_cx_putNumber0 := fun _ h => List.mem_cons_of_mem _ (List.mem_append_right _ (List.mem_append_left _ h))
  have hl : lv_has ls 4 [(0, .ref (ad 4)), (1, .int 0)] := hl
  refine lv_iload_n hx hb dX9_putNumber_0 rfl (lv_at hl 1 rfl) ?_
  refine lv_istore_n (lv' := [(2, .int 0), (0, .ref (ad 4)), (1, .int 0)]) hx hb dX9_putNumber_1 rfl hl (by decide) rfl (fun ls hl => ?_)
  refine lv_iconst (v := 0) hx hb dX9_putNumber_2 (by decide) ?_
  refine lv_istore_n (lv' := [(3, .int 0), (2, .int 0), (0, .ref (ad 4)), (1, .int 0)]) hx hb dX9_putNumber_3 rfl hl (by decide) rfl (fun ls hl => ?_)
  refine lv_iload_n hx hb dX9_putNumber_4 rfl (lv_at hl 0 rfl) ?_
  refine lv_iconst (v := 4) hx hb dX9_putNumber_5 (by decide) ?_
  refine lv_icmp_ge (tgt := 38) hx hb dX9_putNumber_6 (by decide) (fun cc_1 => absurd cc_1 (by decide)) (fun _ => ?_)
  refine lv_iload_n hx hb dX9_putNumber_9 rfl (lv_at hl 1 rfl) ?_
  refine lv_bipush (v := 127) hx hb dX9_putNumber_10 (by decide) ?_
  refine lv_icmp_le (tgt := 38) hx hb dX9_putNumber_12 (by decide) (fun _ => ?_) (fun cc_2 => absurd (by decide) cc_2)
  refine lv_aload_n hx hb dX9_putNumber_38 rfl (lv_at hl 2 rfl) ?_
  refine lv_iload_n hx hb dX9_putNumber_39 rfl (lv_at hl 1 rfl) ?_
  refine lv_bipush (v := 127) hx hb dX9_putNumber_40 (by decide) ?_
  refine lv_iand hx hb dX9_putNumber_42 ?_
  refine hk_topi 0 (by decide +kernel) ?_
  refine hk_Vv (As := [.int 0]) (rest := []) ⟨hx, hb, hml, hown, hts⟩ hw hA (cx_out_put l D cI cJ ad g lg ar bk _ 0 13 14 h14 (by decide)) (cwV 1 hts gw_cx_putNumber0_0 rfl rfl rfl (by decide +kernel) ⟨Nat.le_of_ble_eq_true rfl, Nat.le_of_ble_eq_true rfl⟩) 4 (ci := 12) (T := TX9) (N := 2) rfl rfl rfl hl.1 rfl (Nat.le_of_ble_eq_true rfl) dX9_putNumber_43 ⟨Nat.le_of_ble_eq_true rfl, Nat.le_of_ble_eq_true rfl⟩ (fun uu_4 H locs hp_5 hw => ?_)
  have hw : hk_W D [(cI, .int), (cJ, .long)] _ s _ _ (xw cI cJ ad (upd g 14 14) lg (va_up ar 1 uu_4) bk) := hw
  exact hk_vret (u := uu_4) hx hb hr hlocks (hw) (trivial) dX9_putNumber_46

def ww_cx_putZeros : List Cond := Cond.code yX9_putZeros cX9_putZeros 3 none :: ([Cond.fieldLink RX9 13 "LzmaChains$Row" "size" "I", Cond.methodLink RX9 21 yX9_put, Cond.instanceMethod yX9_put, Cond.selects RX9 yX9_put yX9_put, Cond.initialized RX9, Cond.code yX9_put cX9_put 2 none, Cond.methodLink RX9 17 yX9_set, Cond.instanceMethod yX9_set, Cond.selects RX9 yX9_set yX9_set, Cond.code yX9_set cX9_set 3 none, Cond.fieldLink RX9 7 "LzmaChains$Row" "data" "[I"] ++ (wsX90 ++ ([])))
set_option maxRecDepth 20000 in
theorem gw_cx_putZeros_0 : GoodIn ww_cx_putZeros (wsV RX9 21 RX9 yX9_put ww_cx_out_put) := goodIn_r _ [2, 3, 4, 5, 6, 1, 7, 8, 9, 5, 10, 11, 12, 13] rfl (by decide +kernel)
set_option maxHeartbeats 4000000 in
set_option maxRecDepth 100000 in
/-- Row.putZeros, OUT has 14 -/
theorem cx_putZeros (l : Launch) (D : va_G) (cI cJ : ClassId) (ad : Nat → Nat) (g : Nat → Int32) (lg : Nat → Int64) (ar : Nat → Nat → Int32) (bk : Nat → Int64) (sz : Nat)  (h14 : g 14 = 14) : Met l yX9_putZeros ww_cx_putZeros { frames := 2, cells := 0, slots := 0, locals := 43 } (va_Pc [.ref (ad 4), .int 12] (hk_B D [(cI, .int), (cJ, .long)] sz (xw cI cJ ad g lg ar bk))) (va_Qv (fun u : (Nat → Int32) => True) (fun u : (Nat → Int32) => hk_E D [(cI, .int), (cJ, .long)] (va_A (xw cI cJ ad g lg ar bk) sz) (xw cI cJ ad (upd g 14 16) lg (va_up ar 1 u) bk)) (va_A (xw cI cJ ad g lg ar bk) sz)) 0 0 (va_A (xw cI cJ ad g lg ar bk) sz) := by
  refine hk_met (cc := cX9_putZeros) (maxL := 3) (ret := none) (by decide) rfl (Nat.le_of_ble_eq_true rfl) ?_
  intro p e s m below meth c ls hx hb hr hml hown hts hlocks hin hA hw hl
  have iX9 : ∀ w ∈ wsX90, w ∈ ww_cx_putZeros := fun _ h => List.mem_cons_of_mem _ (List.mem_append_right _ (List.mem_append_left _ h))
  have hl : lv_has ls 3 [(0, .ref (ad 4)), (1, .int 12)] := hl
  refine lv_iconst (v := 0) hx hb dX9_putZeros_0 (by decide) ?_
  refine lv_istore_n (lv' := [(2, .int 0), (0, .ref (ad 4)), (1, .int 12)]) hx hb dX9_putZeros_1 rfl hl (by decide) rfl (fun ls hl => ?_)
  refine lv_iload_n hx hb dX9_putZeros_2 rfl (lv_at hl 0 rfl) ?_
  refine lv_iconst (v := 3) hx hb dX9_putZeros_3 (by decide) ?_
  refine lv_icmp_ge (tgt := 29) hx hb dX9_putZeros_4 (by decide) (fun cc_1 => absurd cc_1 (by decide)) (fun _ => ?_)
  refine lv_aload_n hx hb dX9_putZeros_7 rfl (lv_at hl 1 rfl) ?_
  refine hk_get (ci := 12) (C := RX9) (T := TX9) (N := 2) (v := .int 14) hx hb hts iX9 hown hw 4 rfl rfl 1 (by decide) (hts _ (List.mem_of_getElem? (i := 1) rfl)) (congrArg (fun z => some (Value.int z)) h14) dX9_putZeros_8 ?_
  refine lv_iload_n hx hb dX9_putZeros_11 rfl (lv_at hl 2 rfl) ?_
  refine lv_isub hx hb dX9_putZeros_12 ?_
  refine hk_topi 2 (by decide +kernel) ?_
  refine lv_iconst (v := 3) hx hb dX9_putZeros_13 (by decide) ?_
  refine lv_iand hx hb dX9_putZeros_14 ?_
  refine hk_topi 2 (by decide +kernel) ?_
  refine lv_if_eq (tgt := 29) hx hb dX9_putZeros_15 (by decide) (fun cc_2 => absurd cc_2 (by decide)) (fun _ => ?_)
  refine lv_aload_n hx hb dX9_putZeros_18 rfl (lv_at hl 1 rfl) ?_
  refine lv_iconst (v := 0) hx hb dX9_putZeros_19 (by decide) ?_
  refine hk_Vv (As := [.int 0]) (rest := []) ⟨hx, hb, hml, hown, hts⟩ hw hA (cx_out_put l D cI cJ ad g lg ar bk _ 0 14 15 h14 (by decide)) (cwV 1 hts gw_cx_putZeros_0 rfl rfl rfl (by decide +kernel) ⟨Nat.le_of_ble_eq_true rfl, Nat.le_of_ble_eq_true rfl⟩) 4 (ci := 12) (T := TX9) (N := 2) rfl rfl rfl hl.1 rfl (Nat.le_of_ble_eq_true rfl) dX9_putZeros_20 ⟨Nat.le_of_ble_eq_true rfl, Nat.le_of_ble_eq_true rfl⟩ (fun uu_4 H locs hp_5 hw => ?_)
  have hw : hk_W D [(cI, .int), (cJ, .long)] _ s _ _ (xw cI cJ ad (upd g 14 15) lg (va_up ar 1 uu_4) bk) := hw
  refine lv_iinc (v := 1) (lv' := [(2, .int 1), (0, .ref (ad 4)), (1, .int 12)]) hx hb dX9_putZeros_23 hl (k := 0) rfl rfl (by decide) rfl (fun ls hl => ?_)
  refine lv_goto (tgt := 2) hx hb dX9_putZeros_26 (by decide) ?_
  refine lv_iload_n hx hb dX9_putZeros_2 rfl (lv_at hl 0 rfl) ?_
  refine lv_iconst (v := 3) hx hb dX9_putZeros_3 (by decide) ?_
  refine lv_icmp_ge (tgt := 29) hx hb dX9_putZeros_4 (by decide) (fun cc_6 => absurd cc_6 (by decide)) (fun _ => ?_)
  refine lv_aload_n hx hb dX9_putZeros_7 rfl (lv_at hl 1 rfl) ?_
  refine hk_get (ci := 12) (C := RX9) (T := TX9) (N := 2) (v := .int 15) hx hb hts iX9 hown hw 4 rfl rfl 1 (by decide) (hts _ (List.mem_of_getElem? (i := 1) rfl)) rfl dX9_putZeros_8 ?_
  refine lv_iload_n hx hb dX9_putZeros_11 rfl (lv_at hl 2 rfl) ?_
  refine lv_isub hx hb dX9_putZeros_12 ?_
  refine hk_topi 3 (by decide +kernel) ?_
  refine lv_iconst (v := 3) hx hb dX9_putZeros_13 (by decide) ?_
  refine lv_iand hx hb dX9_putZeros_14 ?_
  refine hk_topi 3 (by decide +kernel) ?_
  refine lv_if_eq (tgt := 29) hx hb dX9_putZeros_15 (by decide) (fun cc_7 => absurd cc_7 (by decide)) (fun _ => ?_)
  refine lv_aload_n hx hb dX9_putZeros_18 rfl (lv_at hl 1 rfl) ?_
  refine lv_iconst (v := 0) hx hb dX9_putZeros_19 (by decide) ?_
  refine hk_Vv (As := [.int 0]) (rest := []) ⟨hx, hb, hml, hown, hts⟩ hw hA (cx_out_put l D cI cJ ad (upd g 14 15) lg (va_up ar 1 uu_4) bk _ 0 15 16 rfl (by decide)) (cwV 1 hts gw_cx_putZeros_0 rfl rfl rfl (by decide +kernel) ⟨Nat.le_of_ble_eq_true rfl, Nat.le_of_ble_eq_true rfl⟩) 4 (ci := 12) (T := TX9) (N := 2) rfl rfl rfl hl.1 rfl (Nat.le_of_ble_eq_true rfl) dX9_putZeros_20 ⟨Nat.le_of_ble_eq_true rfl, Nat.le_of_ble_eq_true rfl⟩ (fun uu_9 H locs hp_10 hw => ?_)
  have hw : hk_W D [(cI, .int), (cJ, .long)] _ s _ _ (xw cI cJ ad (upd g 14 16) lg (va_up ar 1 uu_9) bk) := hw
  refine lv_iinc (v := 2) (lv' := [(2, .int 2), (0, .ref (ad 4)), (1, .int 12)]) hx hb dX9_putZeros_23 hl (k := 0) rfl rfl (by decide) rfl (fun ls hl => ?_)
  refine lv_goto (tgt := 2) hx hb dX9_putZeros_26 (by decide) ?_
  refine lv_iload_n hx hb dX9_putZeros_2 rfl (lv_at hl 0 rfl) ?_
  refine lv_iconst (v := 3) hx hb dX9_putZeros_3 (by decide) ?_
  refine lv_icmp_ge (tgt := 29) hx hb dX9_putZeros_4 (by decide) (fun cc_11 => absurd cc_11 (by decide)) (fun _ => ?_)
  refine lv_aload_n hx hb dX9_putZeros_7 rfl (lv_at hl 1 rfl) ?_
  refine hk_get (ci := 12) (C := RX9) (T := TX9) (N := 2) (v := .int 16) hx hb hts iX9 hown hw 4 rfl rfl 1 (by decide) (hts _ (List.mem_of_getElem? (i := 1) rfl)) rfl dX9_putZeros_8 ?_
  refine lv_iload_n hx hb dX9_putZeros_11 rfl (lv_at hl 2 rfl) ?_
  refine lv_isub hx hb dX9_putZeros_12 ?_
  refine hk_topi 4 (by decide +kernel) ?_
  refine lv_iconst (v := 3) hx hb dX9_putZeros_13 (by decide) ?_
  refine lv_iand hx hb dX9_putZeros_14 ?_
  refine hk_topi 0 (by decide +kernel) ?_
  refine lv_if_eq (tgt := 29) hx hb dX9_putZeros_15 (by decide) (fun _ => ?_) (fun cc_12 => absurd (by decide) cc_12)
  exact hk_vret (u := uu_9) hx hb hr hlocks (hw) (trivial) dX9_putZeros_29

def ww_cx_putIndex : List Cond := Cond.code yX4_putIndex cX4_putIndex 5 none :: ([Cond.fieldLink RX4 29 "LzmaChains$Row" "size" "I", Cond.methodLink RX4 34 yX9_put, Cond.instanceMethod yX9_put, Cond.selects RX9 yX9_put yX9_put, Cond.initialized RX9, Cond.code yX9_put cX9_put 2 none, Cond.fieldLink RX9 13 "LzmaChains$Row" "size" "I", Cond.methodLink RX9 17 yX9_set, Cond.instanceMethod yX9_set, Cond.selects RX9 yX9_set yX9_set, Cond.code yX9_set cX9_set 3 none, Cond.fieldLink RX9 7 "LzmaChains$Row" "data" "[I", Cond.fieldLink RX4 22 "LzmaChains$Ledger" "blocks" "I", Cond.methodLink RX4 38 yX9_putNumber, Cond.instanceMethod yX9_putNumber, Cond.selects RX9 yX9_putNumber yX9_putNumber, Cond.code yX9_putNumber cX9_putNumber 4 none, Cond.methodLink RX9 21 yX9_put, Cond.methodLink RX4 41 yX9_putZeros, Cond.instanceMethod yX9_putZeros, Cond.selects RX9 yX9_putZeros yX9_putZeros, Cond.code yX9_putZeros cX9_putZeros 3 none] ++ (wsX90 ++ (wsX40 ++ ([]))))
set_option maxRecDepth 20000 in
theorem gw_cx_putIndex_0 : GoodIn ww_cx_putIndex (wsV RX4 34 RX9 yX9_put ww_cx_out_put) := goodIn_r _ [2, 3, 4, 5, 6, 7, 8, 9, 10, 5, 11, 12, 23, 24] rfl (by decide +kernel)
set_option maxRecDepth 20000 in
theorem gw_cx_putIndex_1 : GoodIn ww_cx_putIndex (wsV RX4 38 RX9 yX9_putNumber ww_cx_putNumber0) := goodIn_r _ [14, 15, 16, 5, 17, 18, 3, 4, 5, 6, 7, 8, 9, 10, 11, 12, 23, 24] rfl (by decide +kernel)
set_option maxRecDepth 20000 in
theorem gw_cx_putIndex_2 : GoodIn ww_cx_putIndex (wsV RX4 41 RX9 yX9_putZeros ww_cx_putZeros) := goodIn_r _ [19, 20, 21, 5, 22, 7, 18, 3, 4, 5, 6, 8, 9, 10, 11, 12, 23, 24] rfl (by decide +kernel)
set_option maxHeartbeats 4000000 in
set_option maxRecDepth 100000 in
/-- Ledger.putIndex without blocks, OUT has 12 -/
theorem cx_putIndex (l : Launch) (D : va_G) (cI cJ : ClassId) (ad : Nat → Nat) (g : Nat → Int32) (lg : Nat → Int64) (ar : Nat → Nat → Int32) (bk : Nat → Int64) (sz : Nat)  (h14 : g 14 = 12) (h26 : g 26 = 0) : Met l yX4_putIndex ww_cx_putIndex { frames := 3, cells := 0, slots := 0, locals := 66 } (va_Pc [.ref (ad 15), .ref (ad 4), .int 4] (hk_B D [(cI, .int), (cJ, .long)] sz (xw cI cJ ad g lg ar bk))) (va_Qv (fun u : (Nat → Int32) => True) (fun u : (Nat → Int32) => hk_E D [(cI, .int), (cJ, .long)] (va_A (xw cI cJ ad g lg ar bk) sz) (xw cI cJ ad (upd g 14 16) lg (va_up ar 1 u) bk)) (va_A (xw cI cJ ad g lg ar bk) sz)) 0 0 (va_A (xw cI cJ ad g lg ar bk) sz) := by
  refine hk_met (cc := cX4_putIndex) (maxL := 5) (ret := none) (by decide) rfl (Nat.le_of_ble_eq_true rfl) ?_
  intro p e s m below meth c ls hx hb hr hml hown hts hlocks hin hA hw hl
  have iX9 : ∀ w ∈ wsX90, w ∈ ww_cx_putIndex := fun _ h => List.mem_cons_of_mem _ (List.mem_append_right _ (List.mem_append_left _ h))
  have iX4 : ∀ w ∈ wsX40, w ∈ ww_cx_putIndex := fun _ h => List.mem_cons_of_mem _ (List.mem_append_right _ (List.mem_append_right _ (List.mem_append_left _ h)))
  have hl : lv_has ls 5 [(0, .ref (ad 15)), (1, .ref (ad 4)), (2, .int 4)] := hl
  refine lv_aload_n hx hb dX4_putIndex_0 rfl (lv_at hl 1 rfl) ?_
  refine hk_get (ci := 12) (C := RX9) (T := TX9) (N := 2) (v := .int 12) hx hb hts iX9 hown hw 4 rfl rfl 1 (by decide) (hts _ (List.mem_of_getElem? (i := 1) rfl)) (congrArg (fun z => some (Value.int z)) h14) dX4_putIndex_1 ?_
  refine lv_istore_n (lv' := [(3, .int 12), (0, .ref (ad 15)), (1, .ref (ad 4)), (2, .int 4)]) hx hb dX4_putIndex_4 rfl hl (by decide) rfl (fun ls hl => ?_)
  refine lv_aload_n hx hb dX4_putIndex_5 rfl (lv_at hl 2 rfl) ?_
  refine lv_iconst (v := 0) hx hb dX4_putIndex_6 (by decide) ?_
  refine hk_Vv (As := [.int 0]) (rest := []) ⟨hx, hb, hml, hown, hts⟩ hw hA (cx_out_put l D cI cJ ad g lg ar bk _ 0 12 13 h14 (by decide)) (cwV 1 hts gw_cx_putIndex_0 rfl rfl rfl (by decide +kernel) ⟨Nat.le_of_ble_eq_true rfl, Nat.le_of_ble_eq_true rfl⟩) 4 (ci := 12) (T := TX9) (N := 2) rfl rfl rfl hl.1 rfl (Nat.le_of_ble_eq_true rfl) dX4_putIndex_7 ⟨Nat.le_of_ble_eq_true rfl, Nat.le_of_ble_eq_true rfl⟩ (fun uu_2 H locs hp_3 hw => ?_)
  have hw : hk_W D [(cI, .int), (cJ, .long)] _ s _ _ (xw cI cJ ad (upd g 14 13) lg (va_up ar 1 uu_2) bk) := hw
  refine lv_aload_n hx hb dX4_putIndex_10 rfl (lv_at hl 2 rfl) ?_
  refine lv_aload_n hx hb dX4_putIndex_11 rfl (lv_at hl 1 rfl) ?_
  refine hk_get (ci := 7) (C := RX4) (T := TX4) (N := 4) (v := .int 0) hx hb hts iX4 hown hw 15 rfl rfl 3 (by decide) (hts _ (List.mem_of_getElem? (i := 13) rfl)) (congrArg (fun z => some (Value.int z)) h26) dX4_putIndex_12 ?_
  refine hk_Vv (As := [.int 0]) (rest := []) ⟨hx, hb, hml, hown, hts⟩ hw hA (cx_putNumber0 l D cI cJ ad (upd g 14 13) lg (va_up ar 1 uu_2) bk _ rfl) (cwV 1 hts gw_cx_putIndex_1 rfl rfl rfl (by decide +kernel) ⟨Nat.le_of_ble_eq_true rfl, Nat.le_of_ble_eq_true rfl⟩) 4 (ci := 12) (T := TX9) (N := 2) rfl rfl rfl hl.1 rfl (Nat.le_of_ble_eq_true rfl) dX4_putIndex_15 ⟨Nat.le_of_ble_eq_true rfl, Nat.le_of_ble_eq_true rfl⟩ (fun uu_5 H locs hp_6 hw => ?_)
  have hw : hk_W D [(cI, .int), (cJ, .long)] _ s _ _ (xw cI cJ ad (upd g 14 14) lg (va_up ar 1 uu_5) bk) := hw
  refine lv_iconst (v := 0) hx hb dX4_putIndex_18 (by decide) ?_
  refine lv_istore (lv' := [(4, .int 0), (3, .int 12), (0, .ref (ad 15)), (1, .ref (ad 4)), (2, .int 4)]) hx hb dX4_putIndex_19 hl (by decide) rfl (fun ls hl => ?_)
  refine lv_iload hx hb dX4_putIndex_21 (lv_at hl 0 rfl) ?_
  refine lv_aload_n hx hb dX4_putIndex_23 rfl (lv_at hl 2 rfl) ?_
  refine hk_get (ci := 7) (C := RX4) (T := TX4) (N := 4) (v := .int 0) hx hb hts iX4 hown hw 15 rfl rfl 3 (by decide) (hts _ (List.mem_of_getElem? (i := 13) rfl)) (congrArg (fun z => some (Value.int z)) h26) dX4_putIndex_24 ?_
  refine lv_icmp_ge (tgt := 68) hx hb dX4_putIndex_27 (by decide) (fun _ => ?_) (fun cc_7 => absurd (by decide) cc_7)
  refine lv_aload_n hx hb dX4_putIndex_68 rfl (lv_at hl 3 rfl) ?_
  refine lv_iload_n hx hb dX4_putIndex_69 rfl (lv_at hl 1 rfl) ?_
  refine hk_Vv (As := [.int 12]) (rest := []) ⟨hx, hb, hml, hown, hts⟩ hw hA (cx_putZeros l D cI cJ ad (upd g 14 14) lg (va_up ar 1 uu_5) bk _ rfl) (cwV 1 hts gw_cx_putIndex_2 rfl rfl rfl (by decide +kernel) ⟨Nat.le_of_ble_eq_true rfl, Nat.le_of_ble_eq_true rfl⟩) 4 (ci := 12) (T := TX9) (N := 2) rfl rfl rfl hl.1 rfl (Nat.le_of_ble_eq_true rfl) dX4_putIndex_70 ⟨Nat.le_of_ble_eq_true rfl, Nat.le_of_ble_eq_true rfl⟩ (fun uu_9 H locs hp_10 hw => ?_)
  have hw : hk_W D [(cI, .int), (cJ, .long)] _ s _ _ (xw cI cJ ad (upd g 14 16) lg (va_up ar 1 uu_9) bk) := hw
  exact hk_vret (u := uu_9) hx hb hr hlocks (hw) (trivial) dX4_putIndex_73

def ww_cx_flags6 : List Cond := Cond.code yX7_writeFlags cX7_writeFlags 1 none :: ([Cond.fieldLink RX7 19 "LzmaChains$Packer" "output" "LLzmaChains$Row;", Cond.methodLink RX7 84 yX9_put, Cond.instanceMethod yX9_put, Cond.selects RX9 yX9_put yX9_put, Cond.initialized RX9, Cond.code yX9_put cX9_put 2 none, Cond.fieldLink RX9 13 "LzmaChains$Row" "size" "I", Cond.methodLink RX9 17 yX9_set, Cond.instanceMethod yX9_set, Cond.selects RX9 yX9_set yX9_set, Cond.code yX9_set cX9_set 3 none, Cond.fieldLink RX9 7 "LzmaChains$Row" "data" "[I", Cond.fieldLink RX7 9 "LzmaChains$Packer" "settings" "LLzmaChains$Settings;", Cond.fieldLink RX7 233 "LzmaChains$Settings" "check" "I"] ++ (wsX70 ++ (wsX90 ++ (wsX100 ++ ([])))))
set_option maxRecDepth 20000 in
theorem gw_cx_flags6_0 : GoodIn ww_cx_flags6 (wsV RX7 84 RX9 yX9_put ww_cx_out_put) := goodIn_r _ [2, 3, 4, 5, 6, 7, 8, 9, 10, 5, 11, 12, 32, 33] rfl (by decide +kernel)
set_option maxHeartbeats 4000000 in
set_option maxRecDepth 100000 in
/-- Packer.writeFlags, OUT has 6 -/
theorem cx_flags6 (l : Launch) (D : va_G) (cI cJ : ClassId) (ad : Nat → Nat) (g : Nat → Int32) (lg : Nat → Int64) (ar : Nat → Nat → Int32) (bk : Nat → Int64) (sz : Nat)  (h14 : g 14 = 6) : Met l yX7_writeFlags ww_cx_flags6 { frames := 2, cells := 0, slots := 0, locals := 43 } (va_Pc [.ref (ad 18)] (hk_B D [(cI, .int), (cJ, .long)] sz (xw cI cJ ad g lg ar bk))) (va_Qv (fun u : (Nat → Int32) => True) (fun u : (Nat → Int32) => hk_E D [(cI, .int), (cJ, .long)] (va_A (xw cI cJ ad g lg ar bk) sz) (xw cI cJ ad (upd g 14 8) lg (va_up ar 1 u) bk)) (va_A (xw cI cJ ad g lg ar bk) sz)) 0 0 (va_A (xw cI cJ ad g lg ar bk) sz) := by
  refine hk_met (cc := cX7_writeFlags) (maxL := 1) (ret := none) (by decide) rfl (Nat.le_of_ble_eq_true rfl) ?_
  intro p e s m below meth c ls hx hb hr hml hown hts hlocks hin hA hw hl
  have iX7 : ∀ w ∈ wsX70, w ∈ ww_cx_flags6 := fun _ h => List.mem_cons_of_mem _ (List.mem_append_right _ (List.mem_append_left _ h))
  have iX9 : ∀ w ∈ wsX90, w ∈ ww_cx_flags6 := fun _ h => List.mem_cons_of_mem _ (List.mem_append_right _ (List.mem_append_right _ (List.mem_append_left _ h)))
  have iX10 : ∀ w ∈ wsX100, w ∈ ww_cx_flags6 := fun _ h => List.mem_cons_of_mem _ (List.mem_append_right _ (List.mem_append_right _ (List.mem_append_right _ (List.mem_append_left _ h))))
  have hl : lv_has ls 1 [(0, .ref (ad 18))] := hl
  refine lv_aload_n hx hb dX7_writeFlags_0 rfl (lv_at hl 0 rfl) ?_
  refine hk_get (ci := 10) (C := RX7) (T := TX7) (N := 17) (v := .ref (ad 4)) hx hb hts iX7 hown hw 18 rfl rfl 2 (by decide) (hts _ (List.mem_of_getElem? (i := 1) rfl)) rfl dX7_writeFlags_1 ?_
  refine lv_iconst (v := 0) hx hb dX7_writeFlags_4 (by decide) ?_
  refine hk_Vv (As := [.int 0]) (rest := []) ⟨hx, hb, hml, hown, hts⟩ hw hA (cx_out_put l D cI cJ ad g lg ar bk _ 0 6 7 h14 (by decide)) (cwV 1 hts gw_cx_flags6_0 rfl rfl rfl (by decide +kernel) ⟨Nat.le_of_ble_eq_true rfl, Nat.le_of_ble_eq_true rfl⟩) 4 (ci := 12) (T := TX9) (N := 2) rfl rfl rfl hl.1 rfl (Nat.le_of_ble_eq_true rfl) dX7_writeFlags_5 ⟨Nat.le_of_ble_eq_true rfl, Nat.le_of_ble_eq_true rfl⟩ (fun uu_2 H locs hp_3 hw => ?_)
  have hw : hk_W D [(cI, .int), (cJ, .long)] _ s _ _ (xw cI cJ ad (upd g 14 7) lg (va_up ar 1 uu_2) bk) := hw
  refine lv_aload_n hx hb dX7_writeFlags_8 rfl (lv_at hl 0 rfl) ?_
  refine hk_get (ci := 10) (C := RX7) (T := TX7) (N := 17) (v := .ref (ad 4)) hx hb hts iX7 hown hw 18 rfl rfl 2 (by decide) (hts _ (List.mem_of_getElem? (i := 1) rfl)) rfl dX7_writeFlags_9 ?_
  refine lv_aload_n hx hb dX7_writeFlags_12 rfl (lv_at hl 0 rfl) ?_
  refine hk_get (ci := 10) (C := RX7) (T := TX7) (N := 17) (v := .ref (ad 1)) hx hb hts iX7 hown hw 18 rfl rfl 0 (by decide) (hts _ (List.mem_of_getElem? (i := 13) rfl)) rfl dX7_writeFlags_13 ?_
  refine hk_get (ci := 13) (C := RX10) (T := TX10) (N := 10) (v := .int (g 9)) hx hb hts iX10 hown hw 1 rfl rfl 6 (by decide) (hts _ (List.mem_of_getElem? (i := 14) rfl)) rfl dX7_writeFlags_16 ?_
  refine hk_Vv (As := [.int (g 9)]) (rest := []) ⟨hx, hb, hml, hown, hts⟩ hw hA (cx_out_put l D cI cJ ad (upd g 14 7) lg (va_up ar 1 uu_2) bk _ (g 9) 7 8 rfl (by decide)) (cwV 1 hts gw_cx_flags6_0 rfl rfl rfl (by decide +kernel) ⟨Nat.le_of_ble_eq_true rfl, Nat.le_of_ble_eq_true rfl⟩) 4 (ci := 12) (T := TX9) (N := 2) rfl rfl rfl hl.1 rfl (Nat.le_of_ble_eq_true rfl) dX7_writeFlags_19 ⟨Nat.le_of_ble_eq_true rfl, Nat.le_of_ble_eq_true rfl⟩ (fun uu_5 H locs hp_6 hw => ?_)
  have hw : hk_W D [(cI, .int), (cJ, .long)] _ s _ _ (xw cI cJ ad (upd g 14 8) lg (va_up ar 1 uu_5) bk) := hw
  exact hk_vret (u := uu_5) hx hb hr hlocks (hw) (trivial) dX7_writeFlags_22

def ww_cx_flags28 : List Cond := Cond.code yX7_writeFlags cX7_writeFlags 1 none :: ([Cond.fieldLink RX7 19 "LzmaChains$Packer" "output" "LLzmaChains$Row;", Cond.methodLink RX7 84 yX9_put, Cond.instanceMethod yX9_put, Cond.selects RX9 yX9_put yX9_put, Cond.initialized RX9, Cond.code yX9_put cX9_put 2 none, Cond.fieldLink RX9 13 "LzmaChains$Row" "size" "I", Cond.methodLink RX9 17 yX9_set, Cond.instanceMethod yX9_set, Cond.selects RX9 yX9_set yX9_set, Cond.code yX9_set cX9_set 3 none, Cond.fieldLink RX9 7 "LzmaChains$Row" "data" "[I", Cond.fieldLink RX7 9 "LzmaChains$Packer" "settings" "LLzmaChains$Settings;", Cond.fieldLink RX7 233 "LzmaChains$Settings" "check" "I"] ++ (wsX70 ++ (wsX90 ++ (wsX100 ++ ([])))))
set_option maxRecDepth 20000 in
theorem gw_cx_flags28_0 : GoodIn ww_cx_flags28 (wsV RX7 84 RX9 yX9_put ww_cx_out_put) := goodIn_r _ [2, 3, 4, 5, 6, 7, 8, 9, 10, 5, 11, 12, 32, 33] rfl (by decide +kernel)
set_option maxHeartbeats 4000000 in
set_option maxRecDepth 100000 in
/-- Packer.writeFlags, OUT has 28 -/
theorem cx_flags28 (l : Launch) (D : va_G) (cI cJ : ClassId) (ad : Nat → Nat) (g : Nat → Int32) (lg : Nat → Int64) (ar : Nat → Nat → Int32) (bk : Nat → Int64) (sz : Nat)  (h14 : g 14 = 28) : Met l yX7_writeFlags ww_cx_flags28 { frames := 2, cells := 0, slots := 0, locals := 43 } (va_Pc [.ref (ad 18)] (hk_B D [(cI, .int), (cJ, .long)] sz (xw cI cJ ad g lg ar bk))) (va_Qv (fun u : (Nat → Int32) => True) (fun u : (Nat → Int32) => hk_E D [(cI, .int), (cJ, .long)] (va_A (xw cI cJ ad g lg ar bk) sz) (xw cI cJ ad (upd g 14 30) lg (va_up ar 1 u) bk)) (va_A (xw cI cJ ad g lg ar bk) sz)) 0 0 (va_A (xw cI cJ ad g lg ar bk) sz) := by
  refine hk_met (cc := cX7_writeFlags) (maxL := 1) (ret := none) (by decide) rfl (Nat.le_of_ble_eq_true rfl) ?_
  intro p e s m below meth c ls hx hb hr hml hown hts hlocks hin hA hw hl
  have iX7 : ∀ w ∈ wsX70, w ∈ ww_cx_flags28 := fun _ h => List.mem_cons_of_mem _ (List.mem_append_right _ (List.mem_append_left _ h))
  have iX9 : ∀ w ∈ wsX90, w ∈ ww_cx_flags28 := fun _ h => List.mem_cons_of_mem _ (List.mem_append_right _ (List.mem_append_right _ (List.mem_append_left _ h)))
  have iX10 : ∀ w ∈ wsX100, w ∈ ww_cx_flags28 := fun _ h => List.mem_cons_of_mem _ (List.mem_append_right _ (List.mem_append_right _ (List.mem_append_right _ (List.mem_append_left _ h))))
  have hl : lv_has ls 1 [(0, .ref (ad 18))] := hl
  refine lv_aload_n hx hb dX7_writeFlags_0 rfl (lv_at hl 0 rfl) ?_
  refine hk_get (ci := 10) (C := RX7) (T := TX7) (N := 17) (v := .ref (ad 4)) hx hb hts iX7 hown hw 18 rfl rfl 2 (by decide) (hts _ (List.mem_of_getElem? (i := 1) rfl)) rfl dX7_writeFlags_1 ?_
  refine lv_iconst (v := 0) hx hb dX7_writeFlags_4 (by decide) ?_
  refine hk_Vv (As := [.int 0]) (rest := []) ⟨hx, hb, hml, hown, hts⟩ hw hA (cx_out_put l D cI cJ ad g lg ar bk _ 0 28 29 h14 (by decide)) (cwV 1 hts gw_cx_flags28_0 rfl rfl rfl (by decide +kernel) ⟨Nat.le_of_ble_eq_true rfl, Nat.le_of_ble_eq_true rfl⟩) 4 (ci := 12) (T := TX9) (N := 2) rfl rfl rfl hl.1 rfl (Nat.le_of_ble_eq_true rfl) dX7_writeFlags_5 ⟨Nat.le_of_ble_eq_true rfl, Nat.le_of_ble_eq_true rfl⟩ (fun uu_2 H locs hp_3 hw => ?_)
  have hw : hk_W D [(cI, .int), (cJ, .long)] _ s _ _ (xw cI cJ ad (upd g 14 29) lg (va_up ar 1 uu_2) bk) := hw
  refine lv_aload_n hx hb dX7_writeFlags_8 rfl (lv_at hl 0 rfl) ?_
  refine hk_get (ci := 10) (C := RX7) (T := TX7) (N := 17) (v := .ref (ad 4)) hx hb hts iX7 hown hw 18 rfl rfl 2 (by decide) (hts _ (List.mem_of_getElem? (i := 1) rfl)) rfl dX7_writeFlags_9 ?_
  refine lv_aload_n hx hb dX7_writeFlags_12 rfl (lv_at hl 0 rfl) ?_
  refine hk_get (ci := 10) (C := RX7) (T := TX7) (N := 17) (v := .ref (ad 1)) hx hb hts iX7 hown hw 18 rfl rfl 0 (by decide) (hts _ (List.mem_of_getElem? (i := 13) rfl)) rfl dX7_writeFlags_13 ?_
  refine hk_get (ci := 13) (C := RX10) (T := TX10) (N := 10) (v := .int (g 9)) hx hb hts iX10 hown hw 1 rfl rfl 6 (by decide) (hts _ (List.mem_of_getElem? (i := 14) rfl)) rfl dX7_writeFlags_16 ?_
  refine hk_Vv (As := [.int (g 9)]) (rest := []) ⟨hx, hb, hml, hown, hts⟩ hw hA (cx_out_put l D cI cJ ad (upd g 14 29) lg (va_up ar 1 uu_2) bk _ (g 9) 29 30 rfl (by decide)) (cwV 1 hts gw_cx_flags28_0 rfl rfl rfl (by decide +kernel) ⟨Nat.le_of_ble_eq_true rfl, Nat.le_of_ble_eq_true rfl⟩) 4 (ci := 12) (T := TX9) (N := 2) rfl rfl rfl hl.1 rfl (Nat.le_of_ble_eq_true rfl) dX7_writeFlags_19 ⟨Nat.le_of_ble_eq_true rfl, Nat.le_of_ble_eq_true rfl⟩ (fun uu_5 H locs hp_6 hw => ?_)
  have hw : hk_W D [(cI, .int), (cJ, .long)] _ s _ _ (xw cI cJ ad (upd g 14 30) lg (va_up ar 1 uu_5) bk) := hw
  exact hk_vret (u := uu_5) hx hb hr hlocks (hw) (trivial) dX7_writeFlags_22

def ww_cx_start : List Cond := Cond.code yX7_writeStart cX7_writeStart 1 none :: ([Cond.fieldLink RX7 19 "LzmaChains$Packer" "output" "LLzmaChains$Row;", Cond.methodLink RX7 84 yX9_put, Cond.instanceMethod yX9_put, Cond.selects RX9 yX9_put yX9_put, Cond.initialized RX9, Cond.code yX9_put cX9_put 2 none, Cond.fieldLink RX9 13 "LzmaChains$Row" "size" "I", Cond.methodLink RX9 17 yX9_set, Cond.instanceMethod yX9_set, Cond.selects RX9 yX9_set yX9_set, Cond.code yX9_set cX9_set 3 none, Cond.fieldLink RX9 7 "LzmaChains$Row" "data" "[I", Cond.methodLink RX7 224 yX7_writeFlags, Cond.instanceMethod yX7_writeFlags, Cond.selects RX7 yX7_writeFlags yX7_writeFlags, Cond.initialized RX7, Cond.code yX7_writeFlags cX7_writeFlags 1 none, Cond.fieldLink RX7 9 "LzmaChains$Packer" "settings" "LLzmaChains$Settings;", Cond.fieldLink RX7 233 "LzmaChains$Settings" "check" "I", Cond.methodLink RX7 227 yX0_crc32, Cond.static yX0_crc32, Cond.initialized RX0, Cond.code yX0_crc32 cX0_crc32 6 (some .int), Cond.methodLink RX0 33 yX9_get, Cond.instanceMethod yX9_get, Cond.selects RX9 yX9_get yX9_get, Cond.code yX9_get cX9_get 2 (some .int), Cond.constant RX0 39 (-306674912), Cond.methodLink RX7 91 yX9_putLow, Cond.instanceMethod yX9_putLow, Cond.selects RX9 yX9_putLow yX9_putLow, Cond.code yX9_putLow cX9_putLow 5 none, Cond.methodLink RX9 21 yX9_put] ++ (wsX70 ++ (wsX90 ++ (wsX100 ++ ([])))))
set_option maxRecDepth 20000 in
theorem gw_cx_start_0 : GoodIn ww_cx_start (wsV RX7 84 RX9 yX9_put ww_cx_out_put) := goodIn_r _ [2, 3, 4, 5, 6, 7, 8, 9, 10, 5, 11, 12, 51, 52] rfl (by decide +kernel)
set_option maxRecDepth 20000 in
theorem gw_cx_start_1 : GoodIn ww_cx_start (wsV RX7 224 RX7 yX7_writeFlags ww_cx_flags6) := goodIn_r _ [13, 14, 15, 16, 17, 1, 2, 3, 4, 5, 6, 7, 8, 9, 10, 11, 12, 18, 19, 34, 35, 36, 37, 38, 39, 40, 41, 42, 43, 44, 45, 46, 47, 48, 49, 50, 51, 52, 53, 54, 55, 56, 57, 58, 59, 60, 61, 62] rfl (by decide +kernel)
set_option maxRecDepth 20000 in
theorem gw_cx_start_2 : GoodIn ww_cx_start (va_wsS RX7 227 yX0_crc32 ww_cx_crc32o) := goodIn_r _ [20, 21, 22, 23, 24, 25, 26, 5, 27, 12, 28, 51, 52] rfl (by decide +kernel)
set_option maxRecDepth 20000 in
theorem gw_cx_start_3 : GoodIn ww_cx_start (wsV RX7 91 RX9 yX9_putLow ww_cx_low8_4) := goodIn_r _ [29, 30, 31, 5, 32, 33, 3, 4, 5, 6, 7, 8, 9, 10, 11, 12, 51, 52] rfl (by decide +kernel)
set_option maxHeartbeats 4000000 in
set_option maxRecDepth 100000 in
/-- Packer.writeStart -/
theorem cx_start (l : Launch) (D : va_G) (cI cJ : ClassId) (ad : Nat → Nat) (g : Nat → Int32) (lg : Nat → Int64) (ar : Nat → Nat → Int32) (bk : Nat → Int64) (sz : Nat)  (h14 : g 14 = 0) : Met l yX7_writeStart ww_cx_start { frames := 3, cells := 0, slots := 0, locals := 67 } (va_Pc [.ref (ad 18)] (hk_B D [(cI, .int), (cJ, .long)] sz (xw cI cJ ad g lg ar bk))) (va_Qv (fun u : (Nat → Int32) => True) (fun u : (Nat → Int32) => hk_E D [(cI, .int), (cJ, .long)] (va_A (xw cI cJ ad g lg ar bk) sz) (xw cI cJ ad (upd g 14 12) lg (va_up ar 1 u) bk)) (va_A (xw cI cJ ad g lg ar bk) sz)) 0 0 (va_A (xw cI cJ ad g lg ar bk) sz) := by
  refine hk_met (cc := cX7_writeStart) (maxL := 1) (ret := none) (by decide) rfl (Nat.le_of_ble_eq_true rfl) ?_
  intro p e s m below meth c ls hx hb hr hml hown hts hlocks hin hA hw hl
  have iX7 : ∀ w ∈ wsX70, w ∈ ww_cx_start := fun _ h => List.mem_cons_of_mem _ (List.mem_append_right _ (List.mem_append_left _ h))
  have iX9 : ∀ w ∈ wsX90, w ∈ ww_cx_start := fun _ h => List.mem_cons_of_mem _ (List.mem_append_right _ (List.mem_append_right _ (List.mem_append_left _ h)))
  have iX10 : ∀ w ∈ wsX100, w ∈ ww_cx_start := fun _ h => List.mem_cons_of_mem _ (List.mem_append_right _ (List.mem_append_right _ (List.mem_append_right _ (List.mem_append_left _ h))))
  have hl : lv_has ls 1 [(0, .ref (ad 18))] := hl
  refine lv_aload_n hx hb dX7_writeStart_0 rfl (lv_at hl 0 rfl) ?_
  refine hk_get (ci := 10) (C := RX7) (T := TX7) (N := 17) (v := .ref (ad 4)) hx hb hts iX7 hown hw 18 rfl rfl 2 (by decide) (hts _ (List.mem_of_getElem? (i := 1) rfl)) rfl dX7_writeStart_1 ?_
  refine lv_sipush (v := 253) hx hb dX7_writeStart_4 (by decide) ?_
  refine hk_Vv (As := [.int 253]) (rest := []) ⟨hx, hb, hml, hown, hts⟩ hw hA (cx_out_put l D cI cJ ad g lg ar bk _ 253 0 1 h14 (by decide)) (cwV 1 hts gw_cx_start_0 rfl rfl rfl (by decide +kernel) ⟨Nat.le_of_ble_eq_true rfl, Nat.le_of_ble_eq_true rfl⟩) 4 (ci := 12) (T := TX9) (N := 2) rfl rfl rfl hl.1 rfl (Nat.le_of_ble_eq_true rfl) dX7_writeStart_7 ⟨Nat.le_of_ble_eq_true rfl, Nat.le_of_ble_eq_true rfl⟩ (fun uu_2 H locs hp_3 hw => ?_)
  have hw : hk_W D [(cI, .int), (cJ, .long)] _ s _ _ (xw cI cJ ad (upd g 14 1) lg (va_up ar 1 uu_2) bk) := hw
  refine lv_aload_n hx hb dX7_writeStart_10 rfl (lv_at hl 0 rfl) ?_
  refine hk_get (ci := 10) (C := RX7) (T := TX7) (N := 17) (v := .ref (ad 4)) hx hb hts iX7 hown hw 18 rfl rfl 2 (by decide) (hts _ (List.mem_of_getElem? (i := 1) rfl)) rfl dX7_writeStart_11 ?_
  refine lv_bipush (v := 55) hx hb dX7_writeStart_14 (by decide) ?_
  refine hk_Vv (As := [.int 55]) (rest := []) ⟨hx, hb, hml, hown, hts⟩ hw hA (cx_out_put l D cI cJ ad (upd g 14 1) lg (va_up ar 1 uu_2) bk _ 55 1 2 rfl (by decide)) (cwV 1 hts gw_cx_start_0 rfl rfl rfl (by decide +kernel) ⟨Nat.le_of_ble_eq_true rfl, Nat.le_of_ble_eq_true rfl⟩) 4 (ci := 12) (T := TX9) (N := 2) rfl rfl rfl hl.1 rfl (Nat.le_of_ble_eq_true rfl) dX7_writeStart_16 ⟨Nat.le_of_ble_eq_true rfl, Nat.le_of_ble_eq_true rfl⟩ (fun uu_5 H locs hp_6 hw => ?_)
  have hw : hk_W D [(cI, .int), (cJ, .long)] _ s _ _ (xw cI cJ ad (upd g 14 2) lg (va_up ar 1 uu_5) bk) := hw
  refine lv_aload_n hx hb dX7_writeStart_19 rfl (lv_at hl 0 rfl) ?_
  refine hk_get (ci := 10) (C := RX7) (T := TX7) (N := 17) (v := .ref (ad 4)) hx hb hts iX7 hown hw 18 rfl rfl 2 (by decide) (hts _ (List.mem_of_getElem? (i := 1) rfl)) rfl dX7_writeStart_20 ?_
  refine lv_bipush (v := 122) hx hb dX7_writeStart_23 (by decide) ?_
  refine hk_Vv (As := [.int 122]) (rest := []) ⟨hx, hb, hml, hown, hts⟩ hw hA (cx_out_put l D cI cJ ad (upd g 14 2) lg (va_up ar 1 uu_5) bk _ 122 2 3 rfl (by decide)) (cwV 1 hts gw_cx_start_0 rfl rfl rfl (by decide +kernel) ⟨Nat.le_of_ble_eq_true rfl, Nat.le_of_ble_eq_true rfl⟩) 4 (ci := 12) (T := TX9) (N := 2) rfl rfl rfl hl.1 rfl (Nat.le_of_ble_eq_true rfl) dX7_writeStart_25 ⟨Nat.le_of_ble_eq_true rfl, Nat.le_of_ble_eq_true rfl⟩ (fun uu_8 H locs hp_9 hw => ?_)
  have hw : hk_W D [(cI, .int), (cJ, .long)] _ s _ _ (xw cI cJ ad (upd g 14 3) lg (va_up ar 1 uu_8) bk) := hw
  refine lv_aload_n hx hb dX7_writeStart_28 rfl (lv_at hl 0 rfl) ?_
  refine hk_get (ci := 10) (C := RX7) (T := TX7) (N := 17) (v := .ref (ad 4)) hx hb hts iX7 hown hw 18 rfl rfl 2 (by decide) (hts _ (List.mem_of_getElem? (i := 1) rfl)) rfl dX7_writeStart_29 ?_
  refine lv_bipush (v := 88) hx hb dX7_writeStart_32 (by decide) ?_
  refine hk_Vv (As := [.int 88]) (rest := []) ⟨hx, hb, hml, hown, hts⟩ hw hA (cx_out_put l D cI cJ ad (upd g 14 3) lg (va_up ar 1 uu_8) bk _ 88 3 4 rfl (by decide)) (cwV 1 hts gw_cx_start_0 rfl rfl rfl (by decide +kernel) ⟨Nat.le_of_ble_eq_true rfl, Nat.le_of_ble_eq_true rfl⟩) 4 (ci := 12) (T := TX9) (N := 2) rfl rfl rfl hl.1 rfl (Nat.le_of_ble_eq_true rfl) dX7_writeStart_34 ⟨Nat.le_of_ble_eq_true rfl, Nat.le_of_ble_eq_true rfl⟩ (fun uu_11 H locs hp_12 hw => ?_)
  have hw : hk_W D [(cI, .int), (cJ, .long)] _ s _ _ (xw cI cJ ad (upd g 14 4) lg (va_up ar 1 uu_11) bk) := hw
  refine lv_aload_n hx hb dX7_writeStart_37 rfl (lv_at hl 0 rfl) ?_
  refine hk_get (ci := 10) (C := RX7) (T := TX7) (N := 17) (v := .ref (ad 4)) hx hb hts iX7 hown hw 18 rfl rfl 2 (by decide) (hts _ (List.mem_of_getElem? (i := 1) rfl)) rfl dX7_writeStart_38 ?_
  refine lv_bipush (v := 90) hx hb dX7_writeStart_41 (by decide) ?_
  refine hk_Vv (As := [.int 90]) (rest := []) ⟨hx, hb, hml, hown, hts⟩ hw hA (cx_out_put l D cI cJ ad (upd g 14 4) lg (va_up ar 1 uu_11) bk _ 90 4 5 rfl (by decide)) (cwV 1 hts gw_cx_start_0 rfl rfl rfl (by decide +kernel) ⟨Nat.le_of_ble_eq_true rfl, Nat.le_of_ble_eq_true rfl⟩) 4 (ci := 12) (T := TX9) (N := 2) rfl rfl rfl hl.1 rfl (Nat.le_of_ble_eq_true rfl) dX7_writeStart_43 ⟨Nat.le_of_ble_eq_true rfl, Nat.le_of_ble_eq_true rfl⟩ (fun uu_14 H locs hp_15 hw => ?_)
  have hw : hk_W D [(cI, .int), (cJ, .long)] _ s _ _ (xw cI cJ ad (upd g 14 5) lg (va_up ar 1 uu_14) bk) := hw
  refine lv_aload_n hx hb dX7_writeStart_46 rfl (lv_at hl 0 rfl) ?_
  refine hk_get (ci := 10) (C := RX7) (T := TX7) (N := 17) (v := .ref (ad 4)) hx hb hts iX7 hown hw 18 rfl rfl 2 (by decide) (hts _ (List.mem_of_getElem? (i := 1) rfl)) rfl dX7_writeStart_47 ?_
  refine lv_iconst (v := 0) hx hb dX7_writeStart_50 (by decide) ?_
  refine hk_Vv (As := [.int 0]) (rest := []) ⟨hx, hb, hml, hown, hts⟩ hw hA (cx_out_put l D cI cJ ad (upd g 14 5) lg (va_up ar 1 uu_14) bk _ 0 5 6 rfl (by decide)) (cwV 1 hts gw_cx_start_0 rfl rfl rfl (by decide +kernel) ⟨Nat.le_of_ble_eq_true rfl, Nat.le_of_ble_eq_true rfl⟩) 4 (ci := 12) (T := TX9) (N := 2) rfl rfl rfl hl.1 rfl (Nat.le_of_ble_eq_true rfl) dX7_writeStart_51 ⟨Nat.le_of_ble_eq_true rfl, Nat.le_of_ble_eq_true rfl⟩ (fun uu_17 H locs hp_18 hw => ?_)
  have hw : hk_W D [(cI, .int), (cJ, .long)] _ s _ _ (xw cI cJ ad (upd g 14 6) lg (va_up ar 1 uu_17) bk) := hw
  refine lv_aload_n hx hb dX7_writeStart_54 rfl (lv_at hl 0 rfl) ?_
  refine hk_Vv (As := []) (rest := []) ⟨hx, hb, hml, hown, hts⟩ hw hA (cx_flags6 l D cI cJ ad (upd g 14 6) lg (va_up ar 1 uu_17) bk _ rfl) (cwV 0 hts gw_cx_start_1 rfl rfl rfl (by decide +kernel) ⟨Nat.le_of_ble_eq_true rfl, Nat.le_of_ble_eq_true rfl⟩) 18 (ci := 10) (T := TX7) (N := 17) rfl rfl rfl hl.1 rfl (Nat.le_of_ble_eq_true rfl) dX7_writeStart_55 ⟨Nat.le_of_ble_eq_true rfl, Nat.le_of_ble_eq_true rfl⟩ (fun uu_20 H locs hp_21 hw => ?_)
  have hw : hk_W D [(cI, .int), (cJ, .long)] _ s _ _ (xw cI cJ ad (upd g 14 8) lg (va_up ar 1 uu_20) bk) := hw
  refine lv_aload_n hx hb dX7_writeStart_58 rfl (lv_at hl 0 rfl) ?_
  refine hk_get (ci := 10) (C := RX7) (T := TX7) (N := 17) (v := .ref (ad 4)) hx hb hts iX7 hown hw 18 rfl rfl 2 (by decide) (hts _ (List.mem_of_getElem? (i := 1) rfl)) rfl dX7_writeStart_59 ?_
  refine lv_aload_n hx hb dX7_writeStart_62 rfl (lv_at hl 0 rfl) ?_
  refine hk_get (ci := 10) (C := RX7) (T := TX7) (N := 17) (v := .ref (ad 4)) hx hb hts iX7 hown hw 18 rfl rfl 2 (by decide) (hts _ (List.mem_of_getElem? (i := 1) rfl)) rfl dX7_writeStart_63 ?_
  refine lv_bipush (v := 6) hx hb dX7_writeStart_66 (by decide) ?_
  refine lv_bipush (v := 8) hx hb dX7_writeStart_68 (by decide) ?_
  refine hk_Si (As := [.ref (ad 4), .int 6, .int 8]) (rest := [.ref (ad 4)]) ⟨hx, hb, hml, hown, hts⟩ hw hA (cx_crc32o l D cI cJ ad (upd g 14 8) lg (va_up ar 1 uu_20) bk _ 6 8 (by decide) (by decide)) (va_cwS 3 hts gw_cx_start_2 rfl rfl rfl (by decide +kernel) ⟨Nat.le_of_ble_eq_true rfl, Nat.le_of_ble_eq_true rfl⟩) rfl hl.1 rfl (Nat.le_of_ble_eq_true rfl) dX7_writeStart_70 ⟨Nat.le_of_ble_eq_true rfl, Nat.le_of_ble_eq_true rfl⟩ (fun rr_22 uu_23 H locs hp_24 hw => ?_)
  have hw : hk_W D [(cI, .int), (cJ, .long)] _ s _ _ (xw cI cJ ad (upd g 14 8) lg (va_up ar 1 uu_20) bk) := hw
  refine lv_i2l (v := (rr_22 : Int32).toInt64) hx hb dX7_writeStart_73 rfl ?_
  refine lv_iconst (v := 4) hx hb dX7_writeStart_74 (by decide) ?_
  refine hk_Vv (As := [.long ((rr_22 : Int32).toInt64), .int 4]) (rest := []) ⟨hx, hb, hml, hown, hts⟩ hw hA (cx_low8_4 l D cI cJ ad (upd g 14 8) lg (va_up ar 1 uu_20) bk _ ((rr_22 : Int32).toInt64) rfl) (cwV 2 hts gw_cx_start_3 rfl rfl rfl (by decide +kernel) ⟨Nat.le_of_ble_eq_true rfl, Nat.le_of_ble_eq_true rfl⟩) 4 (ci := 12) (T := TX9) (N := 2) rfl rfl rfl hl.1 rfl (Nat.le_of_ble_eq_true rfl) dX7_writeStart_75 ⟨Nat.le_of_ble_eq_true rfl, Nat.le_of_ble_eq_true rfl⟩ (fun uu_26 H locs hp_27 hw => ?_)
  have hw : hk_W D [(cI, .int), (cJ, .long)] _ s _ _ (xw cI cJ ad (upd g 14 12) lg (va_up ar 1 uu_26) bk) := hw
  exact hk_vret (u := uu_26) hx hb hr hlocks (hw) (trivial) dX7_writeStart_78

def ww_cx_index : List Cond := Cond.code yX7_writeIndex cX7_writeIndex 1 none :: ([Cond.fieldLink RX7 19 "LzmaChains$Packer" "output" "LLzmaChains$Row;", Cond.fieldLink RX7 47 "LzmaChains$Row" "size" "I", Cond.fieldLink RX7 272 "LzmaChains$Packer" "indexPlace" "I", Cond.fieldLink RX7 30 "LzmaChains$Packer" "ledger" "LLzmaChains$Ledger;", Cond.fieldLink RX7 9 "LzmaChains$Packer" "settings" "LLzmaChains$Settings;", Cond.fieldLink RX7 233 "LzmaChains$Settings" "check" "I", Cond.methodLink RX7 266 yX0_bytesOf, Cond.static yX0_bytesOf, Cond.initialized RX0, Cond.code yX0_bytesOf cX0_bytesOf 1 (some .int), Cond.methodLink RX7 275 yX4_putIndex, Cond.instanceMethod yX4_putIndex, Cond.selects RX4 yX4_putIndex yX4_putIndex, Cond.initialized RX4, Cond.code yX4_putIndex cX4_putIndex 5 none, Cond.fieldLink RX4 29 "LzmaChains$Row" "size" "I", Cond.methodLink RX4 34 yX9_put, Cond.instanceMethod yX9_put, Cond.selects RX9 yX9_put yX9_put, Cond.initialized RX9, Cond.code yX9_put cX9_put 2 none, Cond.fieldLink RX9 13 "LzmaChains$Row" "size" "I", Cond.methodLink RX9 17 yX9_set, Cond.instanceMethod yX9_set, Cond.selects RX9 yX9_set yX9_set, Cond.code yX9_set cX9_set 3 none, Cond.fieldLink RX9 7 "LzmaChains$Row" "data" "[I", Cond.fieldLink RX4 22 "LzmaChains$Ledger" "blocks" "I", Cond.methodLink RX4 38 yX9_putNumber, Cond.instanceMethod yX9_putNumber, Cond.selects RX9 yX9_putNumber yX9_putNumber, Cond.code yX9_putNumber cX9_putNumber 4 none, Cond.methodLink RX9 21 yX9_put, Cond.methodLink RX4 41 yX9_putZeros, Cond.instanceMethod yX9_putZeros, Cond.selects RX9 yX9_putZeros yX9_putZeros, Cond.code yX9_putZeros cX9_putZeros 3 none, Cond.methodLink RX7 227 yX0_crc32, Cond.static yX0_crc32, Cond.code yX0_crc32 cX0_crc32 6 (some .int), Cond.methodLink RX0 33 yX9_get, Cond.instanceMethod yX9_get, Cond.selects RX9 yX9_get yX9_get, Cond.code yX9_get cX9_get 2 (some .int), Cond.constant RX0 39 (-306674912), Cond.methodLink RX7 91 yX9_putLow, Cond.instanceMethod yX9_putLow, Cond.selects RX9 yX9_putLow yX9_putLow, Cond.code yX9_putLow cX9_putLow 5 none] ++ (wsX70 ++ (wsX90 ++ (wsX100 ++ (wsX40 ++ ([]))))))
set_option maxRecDepth 20000 in
theorem gw_cx_index_0 : GoodIn ww_cx_index (va_wsS RX7 266 yX0_bytesOf ww_cx_bytesOf1) := goodIn_r _ [7, 8, 9, 10] rfl (by decide +kernel)
set_option maxRecDepth 20000 in
theorem gw_cx_index_1 : GoodIn ww_cx_index (wsV RX7 275 RX4 yX4_putIndex ww_cx_putIndex) := goodIn_r _ [11, 12, 13, 14, 15, 16, 17, 18, 19, 20, 21, 22, 23, 24, 25, 26, 27, 28, 29, 30, 31, 32, 33, 34, 35, 36, 37, 67, 68, 79, 80, 81, 82] rfl (by decide +kernel)
set_option maxRecDepth 20000 in
theorem gw_cx_index_2 : GoodIn ww_cx_index (va_wsS RX7 227 yX0_crc32 ww_cx_crc32o) := goodIn_r _ [38, 39, 9, 40, 41, 42, 43, 20, 44, 27, 45, 67, 68] rfl (by decide +kernel)
set_option maxRecDepth 20000 in
theorem gw_cx_index_3 : GoodIn ww_cx_index (wsV RX7 91 RX9 yX9_putLow ww_cx_low16_4) := goodIn_r _ [46, 47, 48, 20, 49, 33, 18, 19, 20, 21, 22, 23, 24, 25, 26, 27, 67, 68] rfl (by decide +kernel)
set_option maxHeartbeats 4000000 in
set_option maxRecDepth 100000 in
/-- Packer.writeIndex without blocks -/
theorem cx_index (l : Launch) (D : va_G) (cI cJ : ClassId) (ad : Nat → Nat) (g : Nat → Int32) (lg : Nat → Int64) (ar : Nat → Nat → Int32) (bk : Nat → Int64) (sz : Nat)  (h14 : g 14 = 12) (h26 : g 26 = 0) (h9 : g 9 = 1) : Met l yX7_writeIndex ww_cx_index { frames := 4, cells := 0, slots := 0, locals := 90 } (va_Pc [.ref (ad 18)] (hk_B D [(cI, .int), (cJ, .long)] sz (xw cI cJ ad g lg ar bk))) (va_Qv (fun u : (Nat → Int32) => True) (fun u : (Nat → Int32) => hk_E D [(cI, .int), (cJ, .long)] (va_A (xw cI cJ ad g lg ar bk) sz) (xw cI cJ ad (upd (upd g 14 20) 32 12) lg (va_up ar 1 u) bk)) (va_A (xw cI cJ ad g lg ar bk) sz)) 0 0 (va_A (xw cI cJ ad g lg ar bk) sz) := by
  refine hk_met (cc := cX7_writeIndex) (maxL := 1) (ret := none) (by decide) rfl (Nat.le_of_ble_eq_true rfl) ?_
  intro p e s m below meth c ls hx hb hr hml hown hts hlocks hin hA hw hl
  have iX7 : ∀ w ∈ wsX70, w ∈ ww_cx_index := fun _ h => List.mem_cons_of_mem _ (List.mem_append_right _ (List.mem_append_left _ h))
  have iX9 : ∀ w ∈ wsX90, w ∈ ww_cx_index := fun _ h => List.mem_cons_of_mem _ (List.mem_append_right _ (List.mem_append_right _ (List.mem_append_left _ h)))
  have iX10 : ∀ w ∈ wsX100, w ∈ ww_cx_index := fun _ h => List.mem_cons_of_mem _ (List.mem_append_right _ (List.mem_append_right _ (List.mem_append_right _ (List.mem_append_left _ h))))
  have iX4 : ∀ w ∈ wsX40, w ∈ ww_cx_index := fun _ h => List.mem_cons_of_mem _ (List.mem_append_right _ (List.mem_append_right _ (List.mem_append_right _ (List.mem_append_right _ (List.mem_append_left _ h)))))
  have hl : lv_has ls 1 [(0, .ref (ad 18))] := hl
  refine lv_aload_n hx hb dX7_writeIndex_0 rfl (lv_at hl 0 rfl) ?_
  refine lv_aload_n hx hb dX7_writeIndex_1 rfl (lv_at hl 0 rfl) ?_
  refine hk_get (ci := 10) (C := RX7) (T := TX7) (N := 17) (v := .ref (ad 4)) hx hb hts iX7 hown hw 18 rfl rfl 2 (by decide) (hts _ (List.mem_of_getElem? (i := 1) rfl)) rfl dX7_writeIndex_2 ?_
  refine hk_get (ci := 12) (C := RX9) (T := TX9) (N := 2) (v := .int 12) hx hb hts iX9 hown hw 4 rfl rfl 1 (by decide) (hts _ (List.mem_of_getElem? (i := 2) rfl)) (congrArg (fun z => some (Value.int z)) h14) dX7_writeIndex_5 ?_
  refine hk_put (ci := 10) (C := RX7) (T := TX7) (N := 17) (ty := .int) (v := .int 12) hx hb hts iX7 tyX7 tyX7_ok nmX7 hown hw 18 rfl rfl 12 (by decide) (hts _ (List.mem_of_getElem? (i := 3) rfl)) rfl (by decide +kernel) rfl rfl (Nat.le_of_ble_eq_true rfl) dX7_writeIndex_8 (ws' := xw cI cJ ad (upd g 32 12) lg ar bk) rfl (fun H locs hw => ?_)
  refine lv_aload_n hx hb dX7_writeIndex_11 rfl (lv_at hl 0 rfl) ?_
  refine hk_get (ci := 10) (C := RX7) (T := TX7) (N := 17) (v := .ref (ad 15)) hx hb hts iX7 hown hw 18 rfl rfl 5 (by decide) (hts _ (List.mem_of_getElem? (i := 4) rfl)) rfl dX7_writeIndex_12 ?_
  refine lv_aload_n hx hb dX7_writeIndex_15 rfl (lv_at hl 0 rfl) ?_
  refine hk_get (ci := 10) (C := RX7) (T := TX7) (N := 17) (v := .ref (ad 4)) hx hb hts iX7 hown hw 18 rfl rfl 2 (by decide) (hts _ (List.mem_of_getElem? (i := 1) rfl)) rfl dX7_writeIndex_16 ?_
  refine lv_aload_n hx hb dX7_writeIndex_19 rfl (lv_at hl 0 rfl) ?_
  refine hk_get (ci := 10) (C := RX7) (T := TX7) (N := 17) (v := .ref (ad 1)) hx hb hts iX7 hown hw 18 rfl rfl 0 (by decide) (hts _ (List.mem_of_getElem? (i := 5) rfl)) rfl dX7_writeIndex_20 ?_
  refine hk_get (ci := 13) (C := RX10) (T := TX10) (N := 10) (v := .int 1) hx hb hts iX10 hown hw 1 rfl rfl 6 (by decide) (hts _ (List.mem_of_getElem? (i := 6) rfl)) (congrArg (fun z => some (Value.int z)) h9) dX7_writeIndex_23 ?_
  refine hk_Si (As := [.int 1]) (rest := [.ref (ad 4), .ref (ad 15)]) ⟨hx, hb, hml, hown, hts⟩ hw hA (cx_bytesOf1 l D cI cJ ad (upd g 32 12) lg ar bk _) (va_cwS 1 hts gw_cx_index_0 rfl rfl rfl (by decide +kernel) ⟨Nat.le_of_ble_eq_true rfl, Nat.le_of_ble_eq_true rfl⟩) rfl hl.1 rfl (Nat.le_of_ble_eq_true rfl) dX7_writeIndex_26 ⟨Nat.le_of_ble_eq_true rfl, Nat.le_of_ble_eq_true rfl⟩ (fun rr_1 uu_2 H locs hp_3 hw => ?_)
  subst hp_3
  have hw : hk_W D [(cI, .int), (cJ, .long)] _ s _ _ (xw cI cJ ad (upd g 32 12) lg ar bk) := hw
  refine hk_Vv (As := [.ref (ad 4), .int 4]) (rest := []) ⟨hx, hb, hml, hown, hts⟩ hw hA (cx_putIndex l D cI cJ ad (upd g 32 12) lg ar bk _ h14 h26) (cwV 2 hts gw_cx_index_1 rfl rfl rfl (by decide +kernel) ⟨Nat.le_of_ble_eq_true rfl, Nat.le_of_ble_eq_true rfl⟩) 15 (ci := 7) (T := TX4) (N := 4) rfl rfl rfl hl.1 rfl (Nat.le_of_ble_eq_true rfl) dX7_writeIndex_29 ⟨Nat.le_of_ble_eq_true rfl, Nat.le_of_ble_eq_true rfl⟩ (fun uu_5 H locs hp_6 hw => ?_)
  have hw : hk_W D [(cI, .int), (cJ, .long)] _ s _ _ (xw cI cJ ad (upd (upd g 32 12) 14 16) lg (va_up ar 1 uu_5) bk) := hw
  refine lv_aload_n hx hb dX7_writeIndex_32 rfl (lv_at hl 0 rfl) ?_
  refine hk_get (ci := 10) (C := RX7) (T := TX7) (N := 17) (v := .ref (ad 4)) hx hb hts iX7 hown hw 18 rfl rfl 2 (by decide) (hts _ (List.mem_of_getElem? (i := 1) rfl)) rfl dX7_writeIndex_33 ?_
  refine lv_aload_n hx hb dX7_writeIndex_36 rfl (lv_at hl 0 rfl) ?_
  refine hk_get (ci := 10) (C := RX7) (T := TX7) (N := 17) (v := .ref (ad 4)) hx hb hts iX7 hown hw 18 rfl rfl 2 (by decide) (hts _ (List.mem_of_getElem? (i := 1) rfl)) rfl dX7_writeIndex_37 ?_
  refine lv_aload_n hx hb dX7_writeIndex_40 rfl (lv_at hl 0 rfl) ?_
  refine hk_get (ci := 10) (C := RX7) (T := TX7) (N := 17) (v := .int 12) hx hb hts iX7 hown hw 18 rfl rfl 12 (by decide) (hts _ (List.mem_of_getElem? (i := 3) rfl)) rfl dX7_writeIndex_41 ?_
  refine lv_aload_n hx hb dX7_writeIndex_44 rfl (lv_at hl 0 rfl) ?_
  refine hk_get (ci := 10) (C := RX7) (T := TX7) (N := 17) (v := .ref (ad 4)) hx hb hts iX7 hown hw 18 rfl rfl 2 (by decide) (hts _ (List.mem_of_getElem? (i := 1) rfl)) rfl dX7_writeIndex_45 ?_
  refine hk_get (ci := 12) (C := RX9) (T := TX9) (N := 2) (v := .int 16) hx hb hts iX9 hown hw 4 rfl rfl 1 (by decide) (hts _ (List.mem_of_getElem? (i := 2) rfl)) rfl dX7_writeIndex_48 ?_
  refine hk_Si (As := [.ref (ad 4), .int 12, .int 16]) (rest := [.ref (ad 4)]) ⟨hx, hb, hml, hown, hts⟩ hw hA (cx_crc32o l D cI cJ ad (upd (upd g 32 12) 14 16) lg (va_up ar 1 uu_5) bk _ 12 16 (by decide) (by decide)) (va_cwS 3 hts gw_cx_index_2 rfl rfl rfl (by decide +kernel) ⟨Nat.le_of_ble_eq_true rfl, Nat.le_of_ble_eq_true rfl⟩) rfl hl.1 rfl (Nat.le_of_ble_eq_true rfl) dX7_writeIndex_51 ⟨Nat.le_of_ble_eq_true rfl, Nat.le_of_ble_eq_true rfl⟩ (fun rr_7 uu_8 H locs hp_9 hw => ?_)
  have hw : hk_W D [(cI, .int), (cJ, .long)] _ s _ _ (xw cI cJ ad (upd (upd g 32 12) 14 16) lg (va_up ar 1 uu_5) bk) := hw
  refine lv_i2l (v := (rr_7 : Int32).toInt64) hx hb dX7_writeIndex_54 rfl ?_
  refine lv_iconst (v := 4) hx hb dX7_writeIndex_55 (by decide) ?_
  refine hk_Vv (As := [.long ((rr_7 : Int32).toInt64), .int 4]) (rest := []) ⟨hx, hb, hml, hown, hts⟩ hw hA (cx_low16_4 l D cI cJ ad (upd (upd g 32 12) 14 16) lg (va_up ar 1 uu_5) bk _ ((rr_7 : Int32).toInt64) rfl) (cwV 2 hts gw_cx_index_3 rfl rfl rfl (by decide +kernel) ⟨Nat.le_of_ble_eq_true rfl, Nat.le_of_ble_eq_true rfl⟩) 4 (ci := 12) (T := TX9) (N := 2) rfl rfl rfl hl.1 rfl (Nat.le_of_ble_eq_true rfl) dX7_writeIndex_56 ⟨Nat.le_of_ble_eq_true rfl, Nat.le_of_ble_eq_true rfl⟩ (fun uu_11 H locs hp_12 hw => ?_)
  have hw : hk_W D [(cI, .int), (cJ, .long)] _ s _ _ (xw cI cJ ad (upd (upd g 32 12) 14 20) lg (va_up ar 1 uu_11) bk) := hw
  exact hk_vret (u := uu_11) hx hb hr hlocks (show hk_W D [(cI, .int), (cJ, .long)] _ s _ _ (xw cI cJ ad (upd (upd g 14 20) 32 12) lg (va_up ar 1 uu_11) bk) from hw) (trivial) dX7_writeIndex_59

def ww_cx_foot : List Cond := Cond.code yX7_writeFoot cX7_writeFoot 4 none :: ([Cond.fieldLink RX7 19 "LzmaChains$Packer" "output" "LLzmaChains$Row;", Cond.fieldLink RX7 47 "LzmaChains$Row" "size" "I", Cond.methodLink RX7 91 yX9_putLow, Cond.instanceMethod yX9_putLow, Cond.selects RX9 yX9_putLow yX9_putLow, Cond.initialized RX9, Cond.code yX9_putLow cX9_putLow 5 none, Cond.methodLink RX9 21 yX9_put, Cond.instanceMethod yX9_put, Cond.selects RX9 yX9_put yX9_put, Cond.code yX9_put cX9_put 2 none, Cond.fieldLink RX9 13 "LzmaChains$Row" "size" "I", Cond.methodLink RX9 17 yX9_set, Cond.instanceMethod yX9_set, Cond.selects RX9 yX9_set yX9_set, Cond.code yX9_set cX9_set 3 none, Cond.fieldLink RX9 7 "LzmaChains$Row" "data" "[I", Cond.fieldLink RX7 272 "LzmaChains$Packer" "indexPlace" "I", Cond.methodLink RX7 224 yX7_writeFlags, Cond.instanceMethod yX7_writeFlags, Cond.selects RX7 yX7_writeFlags yX7_writeFlags, Cond.initialized RX7, Cond.code yX7_writeFlags cX7_writeFlags 1 none, Cond.methodLink RX7 84 yX9_put, Cond.fieldLink RX7 9 "LzmaChains$Packer" "settings" "LLzmaChains$Settings;", Cond.fieldLink RX7 233 "LzmaChains$Settings" "check" "I", Cond.methodLink RX7 227 yX0_crc32, Cond.static yX0_crc32, Cond.initialized RX0, Cond.code yX0_crc32 cX0_crc32 6 (some .int), Cond.methodLink RX0 33 yX9_get, Cond.instanceMethod yX9_get, Cond.selects RX9 yX9_get yX9_get, Cond.code yX9_get cX9_get 2 (some .int), Cond.constant RX0 39 (-306674912), Cond.methodLink RX7 218 yX9_set] ++ (wsX70 ++ (wsX90 ++ (wsX100 ++ ([])))))
set_option maxRecDepth 20000 in
theorem gw_cx_foot_0 : GoodIn ww_cx_foot (wsV RX7 91 RX9 yX9_putLow ww_cx_low20_4) := goodIn_r _ [3, 4, 5, 6, 7, 8, 9, 10, 6, 11, 12, 13, 14, 15, 16, 17, 54, 55] rfl (by decide +kernel)
set_option maxRecDepth 20000 in
theorem gw_cx_foot_1 : GoodIn ww_cx_foot (wsV RX7 91 RX9 yX9_putLow ww_cx_low24_4) := goodIn_r _ [3, 4, 5, 6, 7, 8, 9, 10, 6, 11, 12, 13, 14, 15, 16, 17, 54, 55] rfl (by decide +kernel)
set_option maxRecDepth 20000 in
theorem gw_cx_foot_2 : GoodIn ww_cx_foot (wsV RX7 224 RX7 yX7_writeFlags ww_cx_flags28) := goodIn_r _ [19, 20, 21, 22, 23, 1, 24, 9, 10, 6, 11, 12, 13, 14, 15, 16, 17, 25, 26, 37, 38, 39, 40, 41, 42, 43, 44, 45, 46, 47, 48, 49, 50, 51, 52, 53, 54, 55, 56, 57, 58, 59, 60, 61, 62, 63, 64, 65] rfl (by decide +kernel)
set_option maxRecDepth 20000 in
theorem gw_cx_foot_3 : GoodIn ww_cx_foot (va_wsS RX7 227 yX0_crc32 ww_cx_crc32o) := goodIn_r _ [27, 28, 29, 30, 31, 32, 33, 6, 34, 17, 35, 54, 55] rfl (by decide +kernel)
set_option maxRecDepth 20000 in
theorem gw_cx_foot_4 : GoodIn ww_cx_foot (wsV RX7 218 RX9 yX9_set ww_cx_out_set) := goodIn_r _ [36, 14, 15, 6, 16, 17, 54, 55] rfl (by decide +kernel)
set_option maxRecDepth 20000 in
theorem gw_cx_foot_5 : GoodIn ww_cx_foot (wsV RX7 84 RX9 yX9_put ww_cx_out_put) := goodIn_r _ [24, 9, 10, 6, 11, 12, 13, 14, 15, 6, 16, 17, 54, 55] rfl (by decide +kernel)
set_option maxHeartbeats 4000000 in
set_option maxRecDepth 100000 in
/-- Packer.writeFoot -/
theorem cx_foot (l : Launch) (D : va_G) (cI cJ : ClassId) (ad : Nat → Nat) (g : Nat → Int32) (lg : Nat → Int64) (ar : Nat → Nat → Int32) (bk : Nat → Int64) (sz : Nat)  (h14 : g 14 = 20) (h32 : g 32 = 12) : Met l yX7_writeFoot ww_cx_foot { frames := 3, cells := 0, slots := 0, locals := 67 } (va_Pc [.ref (ad 18)] (hk_B D [(cI, .int), (cJ, .long)] sz (xw cI cJ ad g lg ar bk))) (va_Qv (fun u : (Nat → Int32) => True) (fun u : (Nat → Int32) => hk_E D [(cI, .int), (cJ, .long)] (va_A (xw cI cJ ad g lg ar bk) sz) (xw cI cJ ad (upd g 14 32) lg (va_up ar 1 u) bk)) (va_A (xw cI cJ ad g lg ar bk) sz)) 0 0 (va_A (xw cI cJ ad g lg ar bk) sz) := by
  refine hk_met (cc := cX7_writeFoot) (maxL := 4) (ret := none) (by decide) rfl (Nat.le_of_ble_eq_true rfl) ?_
  intro p e s m below meth c ls hx hb hr hml hown hts hlocks hin hA hw hl
  have iX7 : ∀ w ∈ wsX70, w ∈ ww_cx_foot := fun _ h => List.mem_cons_of_mem _ (List.mem_append_right _ (List.mem_append_left _ h))
  have iX9 : ∀ w ∈ wsX90, w ∈ ww_cx_foot := fun _ h => List.mem_cons_of_mem _ (List.mem_append_right _ (List.mem_append_right _ (List.mem_append_left _ h)))
  have iX10 : ∀ w ∈ wsX100, w ∈ ww_cx_foot := fun _ h => List.mem_cons_of_mem _ (List.mem_append_right _ (List.mem_append_right _ (List.mem_append_right _ (List.mem_append_left _ h))))
  have hl : lv_has ls 4 [(0, .ref (ad 18))] := hl
  refine lv_aload_n hx hb dX7_writeFoot_0 rfl (lv_at hl 0 rfl) ?_
  refine hk_get (ci := 10) (C := RX7) (T := TX7) (N := 17) (v := .ref (ad 4)) hx hb hts iX7 hown hw 18 rfl rfl 2 (by decide) (hts _ (List.mem_of_getElem? (i := 1) rfl)) rfl dX7_writeFoot_1 ?_
  refine hk_get (ci := 12) (C := RX9) (T := TX9) (N := 2) (v := .int 20) hx hb hts iX9 hown hw 4 rfl rfl 1 (by decide) (hts _ (List.mem_of_getElem? (i := 2) rfl)) (congrArg (fun z => some (Value.int z)) h14) dX7_writeFoot_4 ?_
  refine lv_istore_n (lv' := [(1, .int 20), (0, .ref (ad 18))]) hx hb dX7_writeFoot_7 rfl hl (by decide) rfl (fun ls hl => ?_)
  refine lv_aload_n hx hb dX7_writeFoot_8 rfl (lv_at hl 1 rfl) ?_
  refine hk_get (ci := 10) (C := RX7) (T := TX7) (N := 17) (v := .ref (ad 4)) hx hb hts iX7 hown hw 18 rfl rfl 2 (by decide) (hts _ (List.mem_of_getElem? (i := 1) rfl)) rfl dX7_writeFoot_9 ?_
  refine lv_lconst (v := 0) hx hb dX7_writeFoot_12 (by decide) ?_
  refine lv_iconst (v := 4) hx hb dX7_writeFoot_13 (by decide) ?_
  refine hk_Vv (As := [.long 0, .int 4]) (rest := []) ⟨hx, hb, hml, hown, hts⟩ hw hA (cx_low20_4 l D cI cJ ad g lg ar bk _ 0 h14) (cwV 2 hts gw_cx_foot_0 rfl rfl rfl (by decide +kernel) ⟨Nat.le_of_ble_eq_true rfl, Nat.le_of_ble_eq_true rfl⟩) 4 (ci := 12) (T := TX9) (N := 2) rfl rfl rfl hl.1 rfl (Nat.le_of_ble_eq_true rfl) dX7_writeFoot_14 ⟨Nat.le_of_ble_eq_true rfl, Nat.le_of_ble_eq_true rfl⟩ (fun uu_2 H locs hp_3 hw => ?_)
  have hw : hk_W D [(cI, .int), (cJ, .long)] _ s _ _ (xw cI cJ ad (upd g 14 24) lg (va_up ar 1 uu_2) bk) := hw
  refine lv_aload_n hx hb dX7_writeFoot_17 rfl (lv_at hl 1 rfl) ?_
  refine hk_get (ci := 10) (C := RX7) (T := TX7) (N := 17) (v := .ref (ad 4)) hx hb hts iX7 hown hw 18 rfl rfl 2 (by decide) (hts _ (List.mem_of_getElem? (i := 1) rfl)) rfl dX7_writeFoot_18 ?_
  refine lv_iload_n hx hb dX7_writeFoot_21 rfl (lv_at hl 0 rfl) ?_
  refine lv_aload_n hx hb dX7_writeFoot_22 rfl (lv_at hl 1 rfl) ?_
  refine hk_get (ci := 10) (C := RX7) (T := TX7) (N := 17) (v := .int 12) hx hb hts iX7 hown hw 18 rfl rfl 12 (by decide) (hts _ (List.mem_of_getElem? (i := 18) rfl)) (congrArg (fun z => some (Value.int z)) h32) dX7_writeFoot_23 ?_
  refine lv_isub hx hb dX7_writeFoot_26 ?_
  refine hk_topi 8 (by decide +kernel) ?_
  refine lv_iconst (v := 4) hx hb dX7_writeFoot_27 (by decide) ?_
  refine lv_idiv hx hb dX7_writeFoot_28 (by decide) ?_
  refine hk_topi 2 (by decide +kernel) ?_
  refine lv_iconst (v := 1) hx hb dX7_writeFoot_29 (by decide) ?_
  refine lv_isub hx hb dX7_writeFoot_30 ?_
  refine hk_topi 1 (by decide +kernel) ?_
  refine lv_i2l (v := (1 : Int32).toInt64) hx hb dX7_writeFoot_31 rfl ?_
  refine hk_topl 1 (by decide +kernel) ?_
  refine lv_iconst (v := 4) hx hb dX7_writeFoot_32 (by decide) ?_
  refine hk_Vv (As := [.long 1, .int 4]) (rest := []) ⟨hx, hb, hml, hown, hts⟩ hw hA (cx_low24_4 l D cI cJ ad (upd g 14 24) lg (va_up ar 1 uu_2) bk _ 1 rfl) (cwV 2 hts gw_cx_foot_1 rfl rfl rfl (by decide +kernel) ⟨Nat.le_of_ble_eq_true rfl, Nat.le_of_ble_eq_true rfl⟩) 4 (ci := 12) (T := TX9) (N := 2) rfl rfl rfl hl.1 rfl (Nat.le_of_ble_eq_true rfl) dX7_writeFoot_33 ⟨Nat.le_of_ble_eq_true rfl, Nat.le_of_ble_eq_true rfl⟩ (fun uu_5 H locs hp_6 hw => ?_)
  have hw : hk_W D [(cI, .int), (cJ, .long)] _ s _ _ (xw cI cJ ad (upd g 14 28) lg (va_up ar 1 uu_5) bk) := hw
  refine lv_aload_n hx hb dX7_writeFoot_36 rfl (lv_at hl 1 rfl) ?_
  refine hk_Vv (As := []) (rest := []) ⟨hx, hb, hml, hown, hts⟩ hw hA (cx_flags28 l D cI cJ ad (upd g 14 28) lg (va_up ar 1 uu_5) bk _ rfl) (cwV 0 hts gw_cx_foot_2 rfl rfl rfl (by decide +kernel) ⟨Nat.le_of_ble_eq_true rfl, Nat.le_of_ble_eq_true rfl⟩) 18 (ci := 10) (T := TX7) (N := 17) rfl rfl rfl hl.1 rfl (Nat.le_of_ble_eq_true rfl) dX7_writeFoot_37 ⟨Nat.le_of_ble_eq_true rfl, Nat.le_of_ble_eq_true rfl⟩ (fun uu_8 H locs hp_9 hw => ?_)
  have hw : hk_W D [(cI, .int), (cJ, .long)] _ s _ _ (xw cI cJ ad (upd g 14 30) lg (va_up ar 1 uu_8) bk) := hw
  refine lv_aload_n hx hb dX7_writeFoot_40 rfl (lv_at hl 1 rfl) ?_
  refine hk_get (ci := 10) (C := RX7) (T := TX7) (N := 17) (v := .ref (ad 4)) hx hb hts iX7 hown hw 18 rfl rfl 2 (by decide) (hts _ (List.mem_of_getElem? (i := 1) rfl)) rfl dX7_writeFoot_41 ?_
  refine lv_iload_n hx hb dX7_writeFoot_44 rfl (lv_at hl 0 rfl) ?_
  refine lv_iconst (v := 4) hx hb dX7_writeFoot_45 (by decide) ?_
  refine lv_iadd hx hb dX7_writeFoot_46 ?_
  refine hk_topi 24 (by decide +kernel) ?_
  refine lv_iload_n hx hb dX7_writeFoot_47 rfl (lv_at hl 0 rfl) ?_
  refine lv_bipush (v := 10) hx hb dX7_writeFoot_48 (by decide) ?_
  refine lv_iadd hx hb dX7_writeFoot_50 ?_
  refine hk_topi 30 (by decide +kernel) ?_
  refine hk_Si (As := [.ref (ad 4), .int 24, .int 30]) (rest := []) ⟨hx, hb, hml, hown, hts⟩ hw hA (cx_crc32o l D cI cJ ad (upd g 14 30) lg (va_up ar 1 uu_8) bk _ 24 30 (by decide) (by decide)) (va_cwS 3 hts gw_cx_foot_3 rfl rfl rfl (by decide +kernel) ⟨Nat.le_of_ble_eq_true rfl, Nat.le_of_ble_eq_true rfl⟩) rfl hl.1 rfl (Nat.le_of_ble_eq_true rfl) dX7_writeFoot_51 ⟨Nat.le_of_ble_eq_true rfl, Nat.le_of_ble_eq_true rfl⟩ (fun rr_10 uu_11 H locs hp_12 hw => ?_)
  have hw : hk_W D [(cI, .int), (cJ, .long)] _ s _ _ (xw cI cJ ad (upd g 14 30) lg (va_up ar 1 uu_8) bk) := hw
  refine lv_istore_n (lv' := [(2, .int rr_10), (1, .int 20), (0, .ref (ad 18))]) hx hb dX7_writeFoot_54 rfl hl (by decide) rfl (fun ls hl => ?_)
  refine lv_iconst (v := 0) hx hb dX7_writeFoot_55 (by decide) ?_
  refine lv_istore_n (lv' := [(3, .int 0), (2, .int rr_10), (1, .int 20), (0, .ref (ad 18))]) hx hb dX7_writeFoot_56 rfl hl (by decide) rfl (fun ls hl => ?_)
  refine lv_iload_n hx hb dX7_writeFoot_57 rfl (lv_at hl 0 rfl) ?_
  refine lv_iconst (v := 4) hx hb dX7_writeFoot_58 (by decide) ?_
  refine lv_icmp_ge (tgt := 84) hx hb dX7_writeFoot_59 (by decide) (fun cc_13 => absurd cc_13 (by decide)) (fun _ => ?_)
  refine lv_aload_n hx hb dX7_writeFoot_62 rfl (lv_at hl 3 rfl) ?_
  refine hk_get (ci := 10) (C := RX7) (T := TX7) (N := 17) (v := .ref (ad 4)) hx hb hts iX7 hown hw 18 rfl rfl 2 (by decide) (hts _ (List.mem_of_getElem? (i := 1) rfl)) rfl dX7_writeFoot_63 ?_
  refine lv_iload_n hx hb dX7_writeFoot_66 rfl (lv_at hl 2 rfl) ?_
  refine lv_iload_n hx hb dX7_writeFoot_67 rfl (lv_at hl 0 rfl) ?_
  refine lv_iadd hx hb dX7_writeFoot_68 ?_
  refine hk_topi 20 (by decide +kernel) ?_
  refine lv_iload_n hx hb dX7_writeFoot_69 rfl (lv_at hl 1 rfl) ?_
  refine lv_bipush (v := 8) hx hb dX7_writeFoot_70 (by decide) ?_
  refine lv_iload_n hx hb dX7_writeFoot_72 rfl (lv_at hl 0 rfl) ?_
  refine lv_imul hx hb dX7_writeFoot_73 ?_
  refine hk_topi 0 (by decide +kernel) ?_
  refine lv_iushr (v := ((rr_10 : Int32).toUInt32 >>> ((0 : Int32).toUInt32 &&& Int32.toUInt32 31)).toInt32) hx hb dX7_writeFoot_74 rfl ?_
  refine hk_Vv (As := [.int 20, .int (((rr_10 : Int32).toUInt32 >>> ((0 : Int32).toUInt32 &&& Int32.toUInt32 31)).toInt32)]) (rest := []) ⟨hx, hb, hml, hown, hts⟩ hw hA (cx_out_set l D cI cJ ad (upd g 14 30) lg (va_up ar 1 uu_8) bk _ 20 (((rr_10 : Int32).toUInt32 >>> ((0 : Int32).toUInt32 &&& Int32.toUInt32 31)).toInt32)) (cwV 2 hts gw_cx_foot_4 rfl rfl rfl (by decide +kernel) ⟨Nat.le_of_ble_eq_true rfl, Nat.le_of_ble_eq_true rfl⟩) 4 (ci := 12) (T := TX9) (N := 2) rfl rfl rfl hl.1 rfl (Nat.le_of_ble_eq_true rfl) dX7_writeFoot_75 ⟨Nat.le_of_ble_eq_true rfl, Nat.le_of_ble_eq_true rfl⟩ (fun uu_15 H locs hp_16 hw => ?_)
  have hw : hk_W D [(cI, .int), (cJ, .long)] _ s _ _ (xw cI cJ ad (upd g 14 30) lg (va_up ar 1 uu_15) bk) := hw
  refine lv_iinc (v := 1) (lv' := [(3, .int 1), (2, .int rr_10), (1, .int 20), (0, .ref (ad 18))]) hx hb dX7_writeFoot_78 hl (k := 0) rfl rfl (by decide) rfl (fun ls hl => ?_)
  refine lv_goto (tgt := 57) hx hb dX7_writeFoot_81 (by decide) ?_
  refine lv_iload_n hx hb dX7_writeFoot_57 rfl (lv_at hl 0 rfl) ?_
  refine lv_iconst (v := 4) hx hb dX7_writeFoot_58 (by decide) ?_
  refine lv_icmp_ge (tgt := 84) hx hb dX7_writeFoot_59 (by decide) (fun cc_17 => absurd cc_17 (by decide)) (fun _ => ?_)
  refine lv_aload_n hx hb dX7_writeFoot_62 rfl (lv_at hl 3 rfl) ?_
  refine hk_get (ci := 10) (C := RX7) (T := TX7) (N := 17) (v := .ref (ad 4)) hx hb hts iX7 hown hw 18 rfl rfl 2 (by decide) (hts _ (List.mem_of_getElem? (i := 1) rfl)) rfl dX7_writeFoot_63 ?_
  refine lv_iload_n hx hb dX7_writeFoot_66 rfl (lv_at hl 2 rfl) ?_
  refine lv_iload_n hx hb dX7_writeFoot_67 rfl (lv_at hl 0 rfl) ?_
  refine lv_iadd hx hb dX7_writeFoot_68 ?_
  refine hk_topi 21 (by decide +kernel) ?_
  refine lv_iload_n hx hb dX7_writeFoot_69 rfl (lv_at hl 1 rfl) ?_
  refine lv_bipush (v := 8) hx hb dX7_writeFoot_70 (by decide) ?_
  refine lv_iload_n hx hb dX7_writeFoot_72 rfl (lv_at hl 0 rfl) ?_
  refine lv_imul hx hb dX7_writeFoot_73 ?_
  refine hk_topi 8 (by decide +kernel) ?_
  refine lv_iushr (v := ((rr_10 : Int32).toUInt32 >>> ((8 : Int32).toUInt32 &&& Int32.toUInt32 31)).toInt32) hx hb dX7_writeFoot_74 rfl ?_
  refine hk_Vv (As := [.int 21, .int (((rr_10 : Int32).toUInt32 >>> ((8 : Int32).toUInt32 &&& Int32.toUInt32 31)).toInt32)]) (rest := []) ⟨hx, hb, hml, hown, hts⟩ hw hA (cx_out_set l D cI cJ ad (upd g 14 30) lg (va_up ar 1 uu_15) bk _ 21 (((rr_10 : Int32).toUInt32 >>> ((8 : Int32).toUInt32 &&& Int32.toUInt32 31)).toInt32)) (cwV 2 hts gw_cx_foot_4 rfl rfl rfl (by decide +kernel) ⟨Nat.le_of_ble_eq_true rfl, Nat.le_of_ble_eq_true rfl⟩) 4 (ci := 12) (T := TX9) (N := 2) rfl rfl rfl hl.1 rfl (Nat.le_of_ble_eq_true rfl) dX7_writeFoot_75 ⟨Nat.le_of_ble_eq_true rfl, Nat.le_of_ble_eq_true rfl⟩ (fun uu_19 H locs hp_20 hw => ?_)
  have hw : hk_W D [(cI, .int), (cJ, .long)] _ s _ _ (xw cI cJ ad (upd g 14 30) lg (va_up ar 1 uu_19) bk) := hw
  refine lv_iinc (v := 2) (lv' := [(3, .int 2), (2, .int rr_10), (1, .int 20), (0, .ref (ad 18))]) hx hb dX7_writeFoot_78 hl (k := 0) rfl rfl (by decide) rfl (fun ls hl => ?_)
  refine lv_goto (tgt := 57) hx hb dX7_writeFoot_81 (by decide) ?_
  refine lv_iload_n hx hb dX7_writeFoot_57 rfl (lv_at hl 0 rfl) ?_
  refine lv_iconst (v := 4) hx hb dX7_writeFoot_58 (by decide) ?_
  refine lv_icmp_ge (tgt := 84) hx hb dX7_writeFoot_59 (by decide) (fun cc_21 => absurd cc_21 (by decide)) (fun _ => ?_)
  refine lv_aload_n hx hb dX7_writeFoot_62 rfl (lv_at hl 3 rfl) ?_
  refine hk_get (ci := 10) (C := RX7) (T := TX7) (N := 17) (v := .ref (ad 4)) hx hb hts iX7 hown hw 18 rfl rfl 2 (by decide) (hts _ (List.mem_of_getElem? (i := 1) rfl)) rfl dX7_writeFoot_63 ?_
  refine lv_iload_n hx hb dX7_writeFoot_66 rfl (lv_at hl 2 rfl) ?_
  refine lv_iload_n hx hb dX7_writeFoot_67 rfl (lv_at hl 0 rfl) ?_
  refine lv_iadd hx hb dX7_writeFoot_68 ?_
  refine hk_topi 22 (by decide +kernel) ?_
  refine lv_iload_n hx hb dX7_writeFoot_69 rfl (lv_at hl 1 rfl) ?_
  refine lv_bipush (v := 8) hx hb dX7_writeFoot_70 (by decide) ?_
  refine lv_iload_n hx hb dX7_writeFoot_72 rfl (lv_at hl 0 rfl) ?_
  refine lv_imul hx hb dX7_writeFoot_73 ?_
  refine hk_topi 16 (by decide +kernel) ?_
  refine lv_iushr (v := ((rr_10 : Int32).toUInt32 >>> ((16 : Int32).toUInt32 &&& Int32.toUInt32 31)).toInt32) hx hb dX7_writeFoot_74 rfl ?_
  refine hk_Vv (As := [.int 22, .int (((rr_10 : Int32).toUInt32 >>> ((16 : Int32).toUInt32 &&& Int32.toUInt32 31)).toInt32)]) (rest := []) ⟨hx, hb, hml, hown, hts⟩ hw hA (cx_out_set l D cI cJ ad (upd g 14 30) lg (va_up ar 1 uu_19) bk _ 22 (((rr_10 : Int32).toUInt32 >>> ((16 : Int32).toUInt32 &&& Int32.toUInt32 31)).toInt32)) (cwV 2 hts gw_cx_foot_4 rfl rfl rfl (by decide +kernel) ⟨Nat.le_of_ble_eq_true rfl, Nat.le_of_ble_eq_true rfl⟩) 4 (ci := 12) (T := TX9) (N := 2) rfl rfl rfl hl.1 rfl (Nat.le_of_ble_eq_true rfl) dX7_writeFoot_75 ⟨Nat.le_of_ble_eq_true rfl, Nat.le_of_ble_eq_true rfl⟩ (fun uu_23 H locs hp_24 hw => ?_)
  have hw : hk_W D [(cI, .int), (cJ, .long)] _ s _ _ (xw cI cJ ad (upd g 14 30) lg (va_up ar 1 uu_23) bk) := hw
  refine lv_iinc (v := 3) (lv' := [(3, .int 3), (2, .int rr_10), (1, .int 20), (0, .ref (ad 18))]) hx hb dX7_writeFoot_78 hl (k := 0) rfl rfl (by decide) rfl (fun ls hl => ?_)
  refine lv_goto (tgt := 57) hx hb dX7_writeFoot_81 (by decide) ?_
  refine lv_iload_n hx hb dX7_writeFoot_57 rfl (lv_at hl 0 rfl) ?_
  refine lv_iconst (v := 4) hx hb dX7_writeFoot_58 (by decide) ?_
  refine lv_icmp_ge (tgt := 84) hx hb dX7_writeFoot_59 (by decide) (fun cc_25 => absurd cc_25 (by decide)) (fun _ => ?_)
  refine lv_aload_n hx hb dX7_writeFoot_62 rfl (lv_at hl 3 rfl) ?_
  refine hk_get (ci := 10) (C := RX7) (T := TX7) (N := 17) (v := .ref (ad 4)) hx hb hts iX7 hown hw 18 rfl rfl 2 (by decide) (hts _ (List.mem_of_getElem? (i := 1) rfl)) rfl dX7_writeFoot_63 ?_
  refine lv_iload_n hx hb dX7_writeFoot_66 rfl (lv_at hl 2 rfl) ?_
  refine lv_iload_n hx hb dX7_writeFoot_67 rfl (lv_at hl 0 rfl) ?_
  refine lv_iadd hx hb dX7_writeFoot_68 ?_
  refine hk_topi 23 (by decide +kernel) ?_
  refine lv_iload_n hx hb dX7_writeFoot_69 rfl (lv_at hl 1 rfl) ?_
  refine lv_bipush (v := 8) hx hb dX7_writeFoot_70 (by decide) ?_
  refine lv_iload_n hx hb dX7_writeFoot_72 rfl (lv_at hl 0 rfl) ?_
  refine lv_imul hx hb dX7_writeFoot_73 ?_
  refine hk_topi 24 (by decide +kernel) ?_
  refine lv_iushr (v := ((rr_10 : Int32).toUInt32 >>> ((24 : Int32).toUInt32 &&& Int32.toUInt32 31)).toInt32) hx hb dX7_writeFoot_74 rfl ?_
  refine hk_Vv (As := [.int 23, .int (((rr_10 : Int32).toUInt32 >>> ((24 : Int32).toUInt32 &&& Int32.toUInt32 31)).toInt32)]) (rest := []) ⟨hx, hb, hml, hown, hts⟩ hw hA (cx_out_set l D cI cJ ad (upd g 14 30) lg (va_up ar 1 uu_23) bk _ 23 (((rr_10 : Int32).toUInt32 >>> ((24 : Int32).toUInt32 &&& Int32.toUInt32 31)).toInt32)) (cwV 2 hts gw_cx_foot_4 rfl rfl rfl (by decide +kernel) ⟨Nat.le_of_ble_eq_true rfl, Nat.le_of_ble_eq_true rfl⟩) 4 (ci := 12) (T := TX9) (N := 2) rfl rfl rfl hl.1 rfl (Nat.le_of_ble_eq_true rfl) dX7_writeFoot_75 ⟨Nat.le_of_ble_eq_true rfl, Nat.le_of_ble_eq_true rfl⟩ (fun uu_27 H locs hp_28 hw => ?_)
  have hw : hk_W D [(cI, .int), (cJ, .long)] _ s _ _ (xw cI cJ ad (upd g 14 30) lg (va_up ar 1 uu_27) bk) := hw
  refine lv_iinc (v := 4) (lv' := [(3, .int 4), (2, .int rr_10), (1, .int 20), (0, .ref (ad 18))]) hx hb dX7_writeFoot_78 hl (k := 0) rfl rfl (by decide) rfl (fun ls hl => ?_)
  refine lv_goto (tgt := 57) hx hb dX7_writeFoot_81 (by decide) ?_
  refine lv_iload_n hx hb dX7_writeFoot_57 rfl (lv_at hl 0 rfl) ?_
  refine lv_iconst (v := 4) hx hb dX7_writeFoot_58 (by decide) ?_
  refine lv_icmp_ge (tgt := 84) hx hb dX7_writeFoot_59 (by decide) (fun _ => ?_) (fun cc_29 => absurd (by decide) cc_29)
  refine lv_aload_n hx hb dX7_writeFoot_84 rfl (lv_at hl 3 rfl) ?_
  refine hk_get (ci := 10) (C := RX7) (T := TX7) (N := 17) (v := .ref (ad 4)) hx hb hts iX7 hown hw 18 rfl rfl 2 (by decide) (hts _ (List.mem_of_getElem? (i := 1) rfl)) rfl dX7_writeFoot_85 ?_
  refine lv_bipush (v := 89) hx hb dX7_writeFoot_88 (by decide) ?_
  refine hk_Vv (As := [.int 89]) (rest := []) ⟨hx, hb, hml, hown, hts⟩ hw hA (cx_out_put l D cI cJ ad (upd g 14 30) lg (va_up ar 1 uu_27) bk _ 89 30 31 rfl (by decide)) (cwV 1 hts gw_cx_foot_5 rfl rfl rfl (by decide +kernel) ⟨Nat.le_of_ble_eq_true rfl, Nat.le_of_ble_eq_true rfl⟩) 4 (ci := 12) (T := TX9) (N := 2) rfl rfl rfl hl.1 rfl (Nat.le_of_ble_eq_true rfl) dX7_writeFoot_90 ⟨Nat.le_of_ble_eq_true rfl, Nat.le_of_ble_eq_true rfl⟩ (fun uu_31 H locs hp_32 hw => ?_)
  have hw : hk_W D [(cI, .int), (cJ, .long)] _ s _ _ (xw cI cJ ad (upd g 14 31) lg (va_up ar 1 uu_31) bk) := hw
  refine lv_aload_n hx hb dX7_writeFoot_93 rfl (lv_at hl 3 rfl) ?_
  refine hk_get (ci := 10) (C := RX7) (T := TX7) (N := 17) (v := .ref (ad 4)) hx hb hts iX7 hown hw 18 rfl rfl 2 (by decide) (hts _ (List.mem_of_getElem? (i := 1) rfl)) rfl dX7_writeFoot_94 ?_
  refine lv_bipush (v := 90) hx hb dX7_writeFoot_97 (by decide) ?_
  refine hk_Vv (As := [.int 90]) (rest := []) ⟨hx, hb, hml, hown, hts⟩ hw hA (cx_out_put l D cI cJ ad (upd g 14 31) lg (va_up ar 1 uu_31) bk _ 90 31 32 rfl (by decide)) (cwV 1 hts gw_cx_foot_5 rfl rfl rfl (by decide +kernel) ⟨Nat.le_of_ble_eq_true rfl, Nat.le_of_ble_eq_true rfl⟩) 4 (ci := 12) (T := TX9) (N := 2) rfl rfl rfl hl.1 rfl (Nat.le_of_ble_eq_true rfl) dX7_writeFoot_99 ⟨Nat.le_of_ble_eq_true rfl, Nat.le_of_ble_eq_true rfl⟩ (fun uu_34 H locs hp_35 hw => ?_)
  have hw : hk_W D [(cI, .int), (cJ, .long)] _ s _ _ (xw cI cJ ad (upd g 14 32) lg (va_up ar 1 uu_34) bk) := hw
  exact hk_vret (u := uu_34) hx hb hr hlocks (hw) (trivial) dX7_writeFoot_102

def ww_cx_bits : List Cond := Cond.code yX7_writeBits cX7_writeBits 6 none :: ([Cond.fieldLink RX7 39 "LzmaChains$Packer" "chooser" "LLzmaChains$Chooser;", Cond.fieldLink RX7 9 "LzmaChains$Packer" "settings" "LLzmaChains$Settings;", Cond.fieldLink RX7 88 "LzmaChains$Settings" "dictionary" "I", Cond.fieldLink RX7 43 "LzmaChains$Packer" "level" "I", Cond.methodLink RX7 101 yX1_prepare, Cond.instanceMethod yX1_prepare, Cond.selects RX1 yX1_prepare yX1_prepare, Cond.initialized RX1, Cond.code yX1_prepare cX1_prepare 6 none, Cond.fieldLink RX1 35 "LzmaChains$Chooser" "base" "I", Cond.fieldLink RX1 39 "LzmaChains$Chooser" "from" "I", Cond.methodLink RX1 42 Lib.Math.min.name, Cond.static Lib.Math.min.name, Cond.initialized "java/lang/Math", Cond.code Lib.Math.min.name Lib.Math.min.code 2 (some .int), Cond.fieldLink RX1 48 "LzmaChains$Chooser" "to" "I", Cond.methodLink RX1 51 yX1_findLongest, Cond.instanceMethod yX1_findLongest, Cond.selects RX1 yX1_findLongest yX1_findLongest, Cond.code yX1_findLongest cX1_findLongest 9 none, Cond.fieldLink RX1 9 "LzmaChains$Chooser" "row" "LLzmaChains$Row;", Cond.fieldLink RX1 58 "LzmaChains$Row" "data" "[I", Cond.fieldLink RX1 26 "LzmaChains$Chooser" "runs" "[I", Cond.methodLink RX1 63 yJ7_fill_53178, Cond.static yJ7_fill_53178, Cond.initialized RJ7, Cond.code yJ7_fill_53178 cJ7_fill_53178 4 none, Cond.methodLink RX1 55 yX1_weigh, Cond.instanceMethod yX1_weigh, Cond.selects RX1 yX1_weigh yX1_weigh, Cond.code yX1_weigh cX1_weigh 8 none, Cond.fieldLink RX1 29 "LzmaChains$Chooser" "costs" "[I", Cond.fieldLink RX7 22 "LzmaChains$Packer" "model" "LLzmaChains$Model;", Cond.fieldLink RX7 105 "LzmaChains$Model" "coder" "LLzmaChains$Coder;", Cond.methodLink RX7 109 yX2_beginPacking, Cond.instanceMethod yX2_beginPacking, Cond.selects RX2 yX2_beginPacking yX2_beginPacking, Cond.initialized RX2, Cond.code yX2_beginPacking cX2_beginPacking 1 none, Cond.fieldLink RX2 23 "LzmaChains$Coder" "opening" "Z", Cond.fieldLink RX2 27 "LzmaChains$Coder" "low" "J", Cond.constantLong RX2 31 4294967295, Cond.fieldLink RX2 33 "LzmaChains$Coder" "range" "J", Cond.fieldLink RX2 36 "LzmaChains$Coder" "held" "I", Cond.fieldLink RX2 40 "LzmaChains$Coder" "waiting" "I", Cond.methodLink RX7 133 yX2_flush, Cond.instanceMethod yX2_flush, Cond.selects RX2 yX2_flush yX2_flush, Cond.code yX2_flush cX2_flush 2 none, Cond.methodLink RX2 74 yX2_shift, Cond.instanceMethod yX2_shift, Cond.selects RX2 yX2_shift yX2_shift, Cond.code yX2_shift cX2_shift 4 none, Cond.constantLong RX2 77 4278190080, Cond.constantLong RX2 79 4294967296, Cond.fieldLink RX2 13 "LzmaChains$Coder" "sink" "LLzmaChains$Row;", Cond.fieldLink RX2 81 "LzmaChains$Row" "size" "I", Cond.fieldLink RX2 86 "LzmaChains$Row" "data" "[I", Cond.constantLong RX2 89 16777215] ++ (wsX70 ++ (wsX100 ++ (wsX10 ++ (wsX90 ++ (wsX50 ++ (wsX20 ++ ([]))))))))
set_option maxRecDepth 20000 in
theorem gw_cx_bits_0 : GoodIn ww_cx_bits (wsV RX7 101 RX1 yX1_prepare ww_cx_prepare) := goodIn_r _ [5, 6, 7, 8, 9, 10, 11, 12, 13, 14, 15, 16, 17, 18, 19, 8, 20, 21, 22, 23, 24, 25, 26, 27, 28, 29, 30, 31, 32, 87, 88, 89, 90, 91, 92, 93, 94, 95, 96, 97, 98, 99, 100, 101] rfl (by decide +kernel)
set_option maxRecDepth 20000 in
theorem gw_cx_bits_1 : GoodIn ww_cx_bits (wsV RX7 109 RX2 yX2_beginPacking ww_cx_beginPacking) := goodIn_r _ [35, 36, 37, 38, 39, 40, 41, 42, 43, 44, 45, 108, 109, 110, 111, 112, 113, 114, 115, 116] rfl (by decide +kernel)
set_option maxRecDepth 20000 in
theorem gw_cx_bits_2 : GoodIn ww_cx_bits (wsV RX7 133 RX2 yX2_flush ww_cx_flush13) := goodIn_r _ [46, 47, 48, 38, 49, 50, 51, 52, 38, 53, 41, 54, 55, 45, 44, 56, 57, 58, 59, 108, 109, 110, 111, 112, 113, 114, 115, 116, 100, 101] rfl (by decide +kernel)
set_option maxHeartbeats 4000000 in
set_option maxRecDepth 100000 in
/-- Packer.writeBits of nothing, OUT has 13 -/
theorem cx_bits (l : Launch) (D : va_G) (cI cJ : ClassId) (ad : Nat → Nat) (g : Nat → Int32) (lg : Nat → Int64) (ar : Nat → Nat → Int32) (bk : Nat → Int64) (sz : Nat)  (h14 : g 14 = 13) : Met l yX7_writeBits ww_cx_bits { frames := 3, cells := 0, slots := 0, locals := 85 } (va_Pc [.ref (ad 18), .int 0, .int 0, .int 0, .int 0] (hk_B D [(cI, .int), (cJ, .long)] sz (xw cI cJ ad g lg ar bk))) (va_Qv (fun u : (Nat → Int32) × (Nat → Int32) × (Nat → Int32) => True) (fun u : (Nat → Int32) × (Nat → Int32) × (Nat → Int32) => hk_E D [(cI, .int), (cJ, .long)] (va_A (xw cI cJ ad g lg ar bk) sz) (xw cI cJ ad (upd (upd (upd (upd (upd (upd (upd g 14 18) 37 0) 38 0) 39 0) 18 0) 19 0) 20 1) (vp_updL (vp_updL lg 0 0) 1 4294967295) (va_up (va_up (va_up ar 1 u.1) 10 u.2.1) 11 u.2.2) bk)) (va_A (xw cI cJ ad g lg ar bk) sz)) 0 0 (va_A (xw cI cJ ad g lg ar bk) sz) := by
  refine hk_met (cc := cX7_writeBits) (maxL := 6) (ret := none) (by decide) rfl (Nat.le_of_ble_eq_true rfl) ?_
  intro p e s m below meth c ls hx hb hr hml hown hts hlocks hin hA hw hl
  have iX7 : ∀ w ∈ wsX70, w ∈ ww_cx_bits := fun _ h => List.mem_cons_of_mem _ (List.mem_append_right _ (List.mem_append_left _ h))
  have iX10 : ∀ w ∈ wsX100, w ∈ ww_cx_bits := fun _ h => List.mem_cons_of_mem _ (List.mem_append_right _ (List.mem_append_right _ (List.mem_append_left _ h)))
  have iX1 : ∀ w ∈ wsX10, w ∈ ww_cx_bits := fun _ h => List.mem_cons_of_mem _ (List.mem_append_right _ (List.mem_append_right _ (List.mem_append_right _ (List.mem_append_left _ h))))
  have iX9 : ∀ w ∈ wsX90, w ∈ ww_cx_bits := fun _ h => List.mem_cons_of_mem _ (List.mem_append_right _ (List.mem_append_right _ (List.mem_append_right _ (List.mem_append_right _ (List.mem_append_left _ h)))))
  have iX5 : ∀ w ∈ wsX50, w ∈ ww_cx_bits := fun _ h => List.mem_cons_of_mem _ (List.mem_append_right _ (List.mem_append_right _ (List.mem_append_right _ (List.mem_append_right _ (List.mem_append_right _ (List.mem_append_left _ h))))))
  have iX2 : ∀ w ∈ wsX20, w ∈ ww_cx_bits := fun _ h => List.mem_cons_of_mem _ (List.mem_append_right _ (List.mem_append_right _ (List.mem_append_right _ (List.mem_append_right _ (List.mem_append_right _ (List.mem_append_right _ (List.mem_append_left _ h)))))))
  have hl : lv_has ls 6 [(0, .ref (ad 18)), (1, .int 0), (2, .int 0), (3, .int 0), (4, .int 0)] := hl
  refine lv_aload_n hx hb dX7_writeBits_0 rfl (lv_at hl 0 rfl) ?_
  refine hk_get (ci := 10) (C := RX7) (T := TX7) (N := 17) (v := .ref (ad 19)) hx hb hts iX7 hown hw 18 rfl rfl 6 (by decide) (hts _ (List.mem_of_getElem? (i := 1) rfl)) rfl dX7_writeBits_1 ?_
  refine lv_iload_n hx hb dX7_writeBits_4 rfl (lv_at hl 1 rfl) ?_
  refine lv_iload_n hx hb dX7_writeBits_5 rfl (lv_at hl 2 rfl) ?_
  refine lv_iload_n hx hb dX7_writeBits_6 rfl (lv_at hl 3 rfl) ?_
  refine lv_aload_n hx hb dX7_writeBits_7 rfl (lv_at hl 0 rfl) ?_
  refine hk_get (ci := 10) (C := RX7) (T := TX7) (N := 17) (v := .ref (ad 1)) hx hb hts iX7 hown hw 18 rfl rfl 0 (by decide) (hts _ (List.mem_of_getElem? (i := 2) rfl)) rfl dX7_writeBits_8 ?_
  refine hk_get (ci := 13) (C := RX10) (T := TX10) (N := 10) (v := .int (g 6)) hx hb hts iX10 hown hw 1 rfl rfl 3 (by decide) (hts _ (List.mem_of_getElem? (i := 3) rfl)) rfl dX7_writeBits_11 ?_
  refine lv_aload_n hx hb dX7_writeBits_14 rfl (lv_at hl 0 rfl) ?_
  refine hk_get (ci := 10) (C := RX7) (T := TX7) (N := 17) (v := .int (g 27)) hx hb hts iX7 hown hw 18 rfl rfl 7 (by decide) (hts _ (List.mem_of_getElem? (i := 4) rfl)) rfl dX7_writeBits_15 ?_
  refine hk_Vv (As := [.int 0, .int 0, .int 0, .int (g 6), .int (g 27)]) (rest := []) ⟨hx, hb, hml, hown, hts⟩ hw hA (cx_prepare l D cI cJ ad g lg ar bk _ (g 6) (g 27)) (cwV 5 hts gw_cx_bits_0 rfl rfl rfl (by decide +kernel) ⟨Nat.le_of_ble_eq_true rfl, Nat.le_of_ble_eq_true rfl⟩) 19 (ci := 4) (T := TX1) (N := 13) rfl rfl rfl hl.1 rfl (Nat.le_of_ble_eq_true rfl) dX7_writeBits_18 ⟨Nat.le_of_ble_eq_true rfl, Nat.le_of_ble_eq_true rfl⟩ (fun uu_2 H locs hp_3 hw => ?_)
  have hw : hk_W D [(cI, .int), (cJ, .long)] _ s _ _ (xw cI cJ ad (upd (upd (upd g 37 0) 38 0) 39 0) lg (va_up (va_up ar 10 uu_2.1) 11 uu_2.2) bk) := hw
  refine lv_aload_n hx hb dX7_writeBits_21 rfl (lv_at hl 0 rfl) ?_
  refine hk_get (ci := 10) (C := RX7) (T := TX7) (N := 17) (v := .ref (ad 9)) hx hb hts iX7 hown hw 18 rfl rfl 3 (by decide) (hts _ (List.mem_of_getElem? (i := 33) rfl)) rfl dX7_writeBits_22 ?_
  refine hk_get (ci := 8) (C := RX5) (T := TX5) (N := 6) (v := .ref (ad 7)) hx hb hts iX5 hown hw 9 rfl rfl 0 (by decide) (hts _ (List.mem_of_getElem? (i := 34) rfl)) rfl dX7_writeBits_25 ?_
  refine hk_Vv (As := []) (rest := []) ⟨hx, hb, hml, hown, hts⟩ hw hA (cx_beginPacking l D cI cJ ad (upd (upd (upd g 37 0) 38 0) 39 0) lg (va_up (va_up ar 10 uu_2.1) 11 uu_2.2) bk _) (cwV 0 hts gw_cx_bits_1 rfl rfl rfl (by decide +kernel) ⟨Nat.le_of_ble_eq_true rfl, Nat.le_of_ble_eq_true rfl⟩) 7 (ci := 5) (T := TX2) (N := 9) rfl rfl rfl hl.1 rfl (Nat.le_of_ble_eq_true rfl) dX7_writeBits_28 ⟨Nat.le_of_ble_eq_true rfl, Nat.le_of_ble_eq_true rfl⟩ (fun uu_5 H locs hp_6 hw => ?_)
  have hw : hk_W D [(cI, .int), (cJ, .long)] _ s _ _ (xw cI cJ ad (upd (upd (upd (upd (upd (upd g 37 0) 38 0) 39 0) 18 0) 19 0) 20 1) (vp_updL (vp_updL lg 0 0) 1 4294967295) (va_up (va_up ar 10 uu_2.1) 11 uu_2.2) bk) := hw
  refine lv_iload_n hx hb dX7_writeBits_31 rfl (lv_at hl 2 rfl) ?_
  refine lv_istore (lv' := [(5, .int 0), (0, .ref (ad 18)), (1, .int 0), (2, .int 0), (3, .int 0), (4, .int 0)]) hx hb dX7_writeBits_32 hl (by decide) rfl (fun ls hl => ?_)
  refine lv_iload hx hb dX7_writeBits_34 (lv_at hl 0 rfl) ?_
  refine lv_iload_n hx hb dX7_writeBits_36 rfl (lv_at hl 4 rfl) ?_
  refine lv_icmp_ge (tgt := 79) hx hb dX7_writeBits_37 (by decide) (fun _ => ?_) (fun cc_7 => absurd (by decide) cc_7)
  refine lv_iload hx hb dX7_writeBits_79 (lv_at hl 5 rfl) ?_
  refine lv_if_eq (tgt := 89) hx hb dX7_writeBits_81 (by decide) (fun _ => ?_) (fun cc_8 => absurd (by decide) cc_8)
  refine lv_aload_n hx hb dX7_writeBits_89 rfl (lv_at hl 1 rfl) ?_
  refine hk_get (ci := 10) (C := RX7) (T := TX7) (N := 17) (v := .ref (ad 9)) hx hb hts iX7 hown hw 18 rfl rfl 3 (by decide) (hts _ (List.mem_of_getElem? (i := 33) rfl)) rfl dX7_writeBits_90 ?_
  refine hk_get (ci := 8) (C := RX5) (T := TX5) (N := 6) (v := .ref (ad 7)) hx hb hts iX5 hown hw 9 rfl rfl 0 (by decide) (hts _ (List.mem_of_getElem? (i := 34) rfl)) rfl dX7_writeBits_93 ?_
  refine hk_Vv (As := []) (rest := []) ⟨hx, hb, hml, hown, hts⟩ hw hA (cx_flush13 l D cI cJ ad (upd (upd (upd (upd (upd (upd g 37 0) 38 0) 39 0) 18 0) 19 0) 20 1) (vp_updL (vp_updL lg 0 0) 1 4294967295) (va_up (va_up ar 10 uu_2.1) 11 uu_2.2) bk _ h14 rfl rfl) (cwV 0 hts gw_cx_bits_2 rfl rfl rfl (by decide +kernel) ⟨Nat.le_of_ble_eq_true rfl, Nat.le_of_ble_eq_true rfl⟩) 7 (ci := 5) (T := TX2) (N := 9) rfl rfl rfl hl.1 rfl (Nat.le_of_ble_eq_true rfl) dX7_writeBits_96 ⟨Nat.le_of_ble_eq_true rfl, Nat.le_of_ble_eq_true rfl⟩ (fun uu_10 H locs hp_11 hw => ?_)
  have hw : hk_W D [(cI, .int), (cJ, .long)] _ s _ _ (xw cI cJ ad (upd (upd (upd (upd (upd (upd (upd g 37 0) 38 0) 39 0) 18 0) 19 0) 20 1) 14 18) (vp_updL (vp_updL lg 0 0) 1 4294967295) (va_up (va_up (va_up ar 10 uu_2.1) 11 uu_2.2) 1 uu_10) bk) := hw
  exact hk_vret (u := (uu_10, uu_2.1, uu_2.2)) hx hb hr hlocks (show hk_W D [(cI, .int), (cJ, .long)] _ s _ _ (xw cI cJ ad (upd (upd (upd (upd (upd (upd (upd g 14 18) 37 0) 38 0) 39 0) 18 0) 19 0) 20 1) (vp_updL (vp_updL lg 0 0) 1 4294967295) (va_up (va_up (va_up ar 1 ((uu_10, uu_2.1, uu_2.2).1)) 10 ((uu_10, uu_2.1, uu_2.2).2.1)) 11 ((uu_10, uu_2.1, uu_2.2).2.2)) bk) from hw) (trivial) dX7_writeBits_99

def ww_cx_alone : List Cond := Cond.code yX7_writeAlone cX7_writeAlone 2 none :: ([Cond.fieldLink RX7 9 "LzmaChains$Packer" "settings" "LLzmaChains$Settings;", Cond.fieldLink RX7 77 "LzmaChains$Settings" "mark" "I", Cond.fieldLink RX7 19 "LzmaChains$Packer" "output" "LLzmaChains$Row;", Cond.methodLink RX7 80 yX10_propertyByte, Cond.instanceMethod yX10_propertyByte, Cond.selects RX10 yX10_propertyByte yX10_propertyByte, Cond.initialized RX10, Cond.code yX10_propertyByte cX10_propertyByte 1 (some .int), Cond.fieldLink RX10 18 "LzmaChains$Settings" "pb" "I", Cond.fieldLink RX10 15 "LzmaChains$Settings" "lp" "I", Cond.fieldLink RX10 9 "LzmaChains$Settings" "lc" "I", Cond.methodLink RX7 84 yX9_put, Cond.instanceMethod yX9_put, Cond.selects RX9 yX9_put yX9_put, Cond.initialized RX9, Cond.code yX9_put cX9_put 2 none, Cond.fieldLink RX9 13 "LzmaChains$Row" "size" "I", Cond.methodLink RX9 17 yX9_set, Cond.instanceMethod yX9_set, Cond.selects RX9 yX9_set yX9_set, Cond.code yX9_set cX9_set 3 none, Cond.fieldLink RX9 7 "LzmaChains$Row" "data" "[I", Cond.fieldLink RX7 88 "LzmaChains$Settings" "dictionary" "I", Cond.methodLink RX7 91 yX9_putLow, Cond.instanceMethod yX9_putLow, Cond.selects RX9 yX9_putLow yX9_putLow, Cond.code yX9_putLow cX9_putLow 5 none, Cond.methodLink RX9 21 yX9_put, Cond.fieldLink RX7 15 "LzmaChains$Packer" "input" "LLzmaChains$Row;", Cond.fieldLink RX7 47 "LzmaChains$Row" "size" "I", Cond.methodLink RX7 97 yX7_writeBits, Cond.instanceMethod yX7_writeBits, Cond.selects RX7 yX7_writeBits yX7_writeBits, Cond.initialized RX7, Cond.code yX7_writeBits cX7_writeBits 6 none, Cond.fieldLink RX7 39 "LzmaChains$Packer" "chooser" "LLzmaChains$Chooser;", Cond.fieldLink RX7 43 "LzmaChains$Packer" "level" "I", Cond.methodLink RX7 101 yX1_prepare, Cond.instanceMethod yX1_prepare, Cond.selects RX1 yX1_prepare yX1_prepare, Cond.initialized RX1, Cond.code yX1_prepare cX1_prepare 6 none, Cond.fieldLink RX1 35 "LzmaChains$Chooser" "base" "I", Cond.fieldLink RX1 39 "LzmaChains$Chooser" "from" "I", Cond.methodLink RX1 42 Lib.Math.min.name, Cond.static Lib.Math.min.name, Cond.initialized "java/lang/Math", Cond.code Lib.Math.min.name Lib.Math.min.code 2 (some .int), Cond.fieldLink RX1 48 "LzmaChains$Chooser" "to" "I", Cond.methodLink RX1 51 yX1_findLongest, Cond.instanceMethod yX1_findLongest, Cond.selects RX1 yX1_findLongest yX1_findLongest, Cond.code yX1_findLongest cX1_findLongest 9 none, Cond.fieldLink RX1 9 "LzmaChains$Chooser" "row" "LLzmaChains$Row;", Cond.fieldLink RX1 58 "LzmaChains$Row" "data" "[I", Cond.fieldLink RX1 26 "LzmaChains$Chooser" "runs" "[I", Cond.methodLink RX1 63 yJ7_fill_53178, Cond.static yJ7_fill_53178, Cond.initialized RJ7, Cond.code yJ7_fill_53178 cJ7_fill_53178 4 none, Cond.methodLink RX1 55 yX1_weigh, Cond.instanceMethod yX1_weigh, Cond.selects RX1 yX1_weigh yX1_weigh, Cond.code yX1_weigh cX1_weigh 8 none, Cond.fieldLink RX1 29 "LzmaChains$Chooser" "costs" "[I", Cond.fieldLink RX7 22 "LzmaChains$Packer" "model" "LLzmaChains$Model;", Cond.fieldLink RX7 105 "LzmaChains$Model" "coder" "LLzmaChains$Coder;", Cond.methodLink RX7 109 yX2_beginPacking, Cond.instanceMethod yX2_beginPacking, Cond.selects RX2 yX2_beginPacking yX2_beginPacking, Cond.initialized RX2, Cond.code yX2_beginPacking cX2_beginPacking 1 none, Cond.fieldLink RX2 23 "LzmaChains$Coder" "opening" "Z", Cond.fieldLink RX2 27 "LzmaChains$Coder" "low" "J", Cond.constantLong RX2 31 4294967295, Cond.fieldLink RX2 33 "LzmaChains$Coder" "range" "J", Cond.fieldLink RX2 36 "LzmaChains$Coder" "held" "I", Cond.fieldLink RX2 40 "LzmaChains$Coder" "waiting" "I", Cond.methodLink RX7 133 yX2_flush, Cond.instanceMethod yX2_flush, Cond.selects RX2 yX2_flush yX2_flush, Cond.code yX2_flush cX2_flush 2 none, Cond.methodLink RX2 74 yX2_shift, Cond.instanceMethod yX2_shift, Cond.selects RX2 yX2_shift yX2_shift, Cond.code yX2_shift cX2_shift 4 none, Cond.constantLong RX2 77 4278190080, Cond.constantLong RX2 79 4294967296, Cond.fieldLink RX2 13 "LzmaChains$Coder" "sink" "LLzmaChains$Row;", Cond.fieldLink RX2 81 "LzmaChains$Row" "size" "I", Cond.fieldLink RX2 86 "LzmaChains$Row" "data" "[I", Cond.constantLong RX2 89 16777215] ++ (wsX70 ++ (wsX100 ++ (wsX90 ++ (wsX10 ++ (wsX50 ++ (wsX20 ++ ([]))))))))
set_option maxRecDepth 20000 in
theorem gw_cx_alone_0 : GoodIn ww_cx_alone (wsV RX7 80 RX10 yX10_propertyByte ww_cx_propByte) := goodIn_r _ [4, 5, 6, 7, 8, 9, 10, 11, 110, 111, 112, 113, 114, 115, 116, 117, 118, 119] rfl (by decide +kernel)
set_option maxRecDepth 20000 in
theorem gw_cx_alone_1 : GoodIn ww_cx_alone (wsV RX7 84 RX9 yX9_put ww_cx_out_put) := goodIn_r _ [12, 13, 14, 15, 16, 17, 18, 19, 20, 15, 21, 22, 120, 121] rfl (by decide +kernel)
set_option maxRecDepth 20000 in
theorem gw_cx_alone_2 : GoodIn ww_cx_alone (wsV RX7 91 RX9 yX9_putLow ww_cx_low1_4) := goodIn_r _ [24, 25, 26, 15, 27, 28, 13, 14, 15, 16, 17, 18, 19, 20, 21, 22, 120, 121] rfl (by decide +kernel)
set_option maxRecDepth 20000 in
theorem gw_cx_alone_3 : GoodIn ww_cx_alone (wsV RX7 91 RX9 yX9_putLow ww_cx_low5_8) := goodIn_r _ [24, 25, 26, 15, 27, 28, 13, 14, 15, 16, 17, 18, 19, 20, 21, 22, 120, 121] rfl (by decide +kernel)
set_option maxRecDepth 20000 in
theorem gw_cx_alone_4 : GoodIn ww_cx_alone (wsV RX7 97 RX7 yX7_writeBits ww_cx_bits) := goodIn_r _ [31, 32, 33, 34, 35, 36, 1, 23, 37, 38, 39, 40, 41, 42, 43, 44, 45, 46, 47, 48, 49, 50, 51, 52, 53, 54, 55, 56, 57, 58, 59, 60, 61, 62, 63, 64, 65, 66, 67, 68, 69, 70, 71, 72, 73, 74, 75, 76, 77, 78, 79, 80, 81, 82, 83, 84, 85, 86, 87, 88, 89, 90, 91, 92, 93, 94, 95, 96, 97, 98, 99, 100, 101, 102, 103, 104, 105, 106, 107, 108, 109, 110, 111, 112, 113, 114, 115, 116, 117, 118, 119, 122, 123, 124, 125, 126, 127, 128, 129, 130, 131, 132, 133, 134, 120, 121, 135, 136, 137, 138, 139, 140, 141, 142, 143, 144, 145, 146, 147, 148, 149] rfl (by decide +kernel)
set_option maxHeartbeats 4000000 in
set_option maxRecDepth 100000 in
/-- Packer.writeAlone of nothing -/
theorem cx_alone (l : Launch) (D : va_G) (cI cJ : ClassId) (ad : Nat → Nat) (g : Nat → Int32) (lg : Nat → Int64) (ar : Nat → Nat → Int32) (bk : Nat → Int64) (sz : Nat)  (h14 : g 14 = 0) (h10 : g 10 = 0) (h13 : g 13 = 0) : Met l yX7_writeAlone ww_cx_alone { frames := 4, cells := 0, slots := 0, locals := 110 } (va_Pc [.ref (ad 18)] (hk_B D [(cI, .int), (cJ, .long)] sz (xw cI cJ ad g lg ar bk))) (va_Qv (fun u : (Nat → Int32) × (Nat → Int32) × (Nat → Int32) => True) (fun u : (Nat → Int32) × (Nat → Int32) × (Nat → Int32) => hk_E D [(cI, .int), (cJ, .long)] (va_A (xw cI cJ ad g lg ar bk) sz) (xw cI cJ ad (upd (upd (upd (upd (upd (upd (upd g 14 18) 37 0) 38 0) 39 0) 18 0) 19 0) 20 1) (vp_updL (vp_updL lg 0 0) 1 4294967295) (va_up (va_up (va_up ar 1 u.1) 10 u.2.1) 11 u.2.2) bk)) (va_A (xw cI cJ ad g lg ar bk) sz)) 0 0 (va_A (xw cI cJ ad g lg ar bk) sz) := by
  refine hk_met (cc := cX7_writeAlone) (maxL := 2) (ret := none) (by decide) rfl (Nat.le_of_ble_eq_true rfl) ?_
  intro p e s m below meth c ls hx hb hr hml hown hts hlocks hin hA hw hl
  have iX7 : ∀ w ∈ wsX70, w ∈ ww_cx_alone := fun _ h => List.mem_cons_of_mem _ (List.mem_append_right _ (List.mem_append_left _ h))
  have iX10 : ∀ w ∈ wsX100, w ∈ ww_cx_alone := fun _ h => List.mem_cons_of_mem _ (List.mem_append_right _ (List.mem_append_right _ (List.mem_append_left _ h)))
  have iX9 : ∀ w ∈ wsX90, w ∈ ww_cx_alone := fun _ h => List.mem_cons_of_mem _ (List.mem_append_right _ (List.mem_append_right _ (List.mem_append_right _ (List.mem_append_left _ h))))
  have iX1 : ∀ w ∈ wsX10, w ∈ ww_cx_alone := fun _ h => List.mem_cons_of_mem _ (List.mem_append_right _ (List.mem_append_right _ (List.mem_append_right _ (List.mem_append_right _ (List.mem_append_left _ h)))))
  have iX5 : ∀ w ∈ wsX50, w ∈ ww_cx_alone := fun _ h => List.mem_cons_of_mem _ (List.mem_append_right _ (List.mem_append_right _ (List.mem_append_right _ (List.mem_append_right _ (List.mem_append_right _ (List.mem_append_left _ h))))))
  have iX2 : ∀ w ∈ wsX20, w ∈ ww_cx_alone := fun _ h => List.mem_cons_of_mem _ (List.mem_append_right _ (List.mem_append_right _ (List.mem_append_right _ (List.mem_append_right _ (List.mem_append_right _ (List.mem_append_right _ (List.mem_append_left _ h)))))))
  have hl : lv_has ls 2 [(0, .ref (ad 18))] := hl
  refine lv_aload_n hx hb dX7_writeAlone_0 rfl (lv_at hl 0 rfl) ?_
  refine hk_get (ci := 10) (C := RX7) (T := TX7) (N := 17) (v := .ref (ad 1)) hx hb hts iX7 hown hw 18 rfl rfl 0 (by decide) (hts _ (List.mem_of_getElem? (i := 1) rfl)) rfl dX7_writeAlone_1 ?_
  refine hk_get (ci := 13) (C := RX10) (T := TX10) (N := 10) (v := .int 0) hx hb hts iX10 hown hw 1 rfl rfl 7 (by decide) (hts _ (List.mem_of_getElem? (i := 2) rfl)) (congrArg (fun z => some (Value.int z)) h10) dX7_writeAlone_4 ?_
  refine lv_iconst (v := 1) hx hb dX7_writeAlone_7 (by decide) ?_
  refine lv_icmp_ne (tgt := 15) hx hb dX7_writeAlone_8 (by decide) (fun _ => ?_) (fun cc_1 => absurd cc_1 (by decide))
  refine lv_iconst (v := 0) hx hb dX7_writeAlone_15 (by decide) ?_
  refine lv_istore_n (lv' := [(1, .int 0), (0, .ref (ad 18))]) hx hb dX7_writeAlone_16 rfl hl (by decide) rfl (fun ls hl => ?_)
  refine lv_aload_n hx hb dX7_writeAlone_17 rfl (lv_at hl 1 rfl) ?_
  refine hk_get (ci := 10) (C := RX7) (T := TX7) (N := 17) (v := .ref (ad 4)) hx hb hts iX7 hown hw 18 rfl rfl 2 (by decide) (hts _ (List.mem_of_getElem? (i := 3) rfl)) rfl dX7_writeAlone_18 ?_
  refine lv_aload_n hx hb dX7_writeAlone_21 rfl (lv_at hl 1 rfl) ?_
  refine hk_get (ci := 10) (C := RX7) (T := TX7) (N := 17) (v := .ref (ad 1)) hx hb hts iX7 hown hw 18 rfl rfl 0 (by decide) (hts _ (List.mem_of_getElem? (i := 1) rfl)) rfl dX7_writeAlone_22 ?_
  refine hk_Vi (As := []) (rest := [.ref (ad 4)]) ⟨hx, hb, hml, hown, hts⟩ hw hA (cx_propByte l D cI cJ ad g lg ar bk _) (cwV 0 hts gw_cx_alone_0 rfl rfl rfl (by decide +kernel) ⟨Nat.le_of_ble_eq_true rfl, Nat.le_of_ble_eq_true rfl⟩) 1 (ci := 13) (T := TX10) (N := 10) rfl rfl rfl hl.1 rfl (Nat.le_of_ble_eq_true rfl) dX7_writeAlone_25 ⟨Nat.le_of_ble_eq_true rfl, Nat.le_of_ble_eq_true rfl⟩ (fun rr_2 uu_3 H locs hp_4 hw => ?_)
  have hw : hk_W D [(cI, .int), (cJ, .long)] _ s _ _ (xw cI cJ ad g lg ar bk) := hw
  refine hk_Vv (As := [.int rr_2]) (rest := []) ⟨hx, hb, hml, hown, hts⟩ hw hA (cx_out_put l D cI cJ ad g lg ar bk _ rr_2 0 1 h14 (by decide)) (cwV 1 hts gw_cx_alone_1 rfl rfl rfl (by decide +kernel) ⟨Nat.le_of_ble_eq_true rfl, Nat.le_of_ble_eq_true rfl⟩) 4 (ci := 12) (T := TX9) (N := 2) rfl rfl rfl hl.1 rfl (Nat.le_of_ble_eq_true rfl) dX7_writeAlone_28 ⟨Nat.le_of_ble_eq_true rfl, Nat.le_of_ble_eq_true rfl⟩ (fun uu_6 H locs hp_7 hw => ?_)
  have hw : hk_W D [(cI, .int), (cJ, .long)] _ s _ _ (xw cI cJ ad (upd g 14 1) lg (va_up ar 1 uu_6) bk) := hw
  refine lv_aload_n hx hb dX7_writeAlone_31 rfl (lv_at hl 1 rfl) ?_
  refine hk_get (ci := 10) (C := RX7) (T := TX7) (N := 17) (v := .ref (ad 4)) hx hb hts iX7 hown hw 18 rfl rfl 2 (by decide) (hts _ (List.mem_of_getElem? (i := 3) rfl)) rfl dX7_writeAlone_32 ?_
  refine lv_aload_n hx hb dX7_writeAlone_35 rfl (lv_at hl 1 rfl) ?_
  refine hk_get (ci := 10) (C := RX7) (T := TX7) (N := 17) (v := .ref (ad 1)) hx hb hts iX7 hown hw 18 rfl rfl 0 (by decide) (hts _ (List.mem_of_getElem? (i := 1) rfl)) rfl dX7_writeAlone_36 ?_
  refine hk_get (ci := 13) (C := RX10) (T := TX10) (N := 10) (v := .int (g 6)) hx hb hts iX10 hown hw 1 rfl rfl 3 (by decide) (hts _ (List.mem_of_getElem? (i := 23) rfl)) rfl dX7_writeAlone_39 ?_
  refine lv_i2l (v := ((g 6) : Int32).toInt64) hx hb dX7_writeAlone_42 rfl ?_
  refine lv_iconst (v := 4) hx hb dX7_writeAlone_43 (by decide) ?_
  refine hk_Vv (As := [.long (((g 6) : Int32).toInt64), .int 4]) (rest := []) ⟨hx, hb, hml, hown, hts⟩ hw hA (cx_low1_4 l D cI cJ ad (upd g 14 1) lg (va_up ar 1 uu_6) bk _ (((g 6) : Int32).toInt64) rfl) (cwV 2 hts gw_cx_alone_2 rfl rfl rfl (by decide +kernel) ⟨Nat.le_of_ble_eq_true rfl, Nat.le_of_ble_eq_true rfl⟩) 4 (ci := 12) (T := TX9) (N := 2) rfl rfl rfl hl.1 rfl (Nat.le_of_ble_eq_true rfl) dX7_writeAlone_44 ⟨Nat.le_of_ble_eq_true rfl, Nat.le_of_ble_eq_true rfl⟩ (fun uu_9 H locs hp_10 hw => ?_)
  have hw : hk_W D [(cI, .int), (cJ, .long)] _ s _ _ (xw cI cJ ad (upd g 14 5) lg (va_up ar 1 uu_9) bk) := hw
  refine lv_aload_n hx hb dX7_writeAlone_47 rfl (lv_at hl 1 rfl) ?_
  refine hk_get (ci := 10) (C := RX7) (T := TX7) (N := 17) (v := .ref (ad 4)) hx hb hts iX7 hown hw 18 rfl rfl 2 (by decide) (hts _ (List.mem_of_getElem? (i := 3) rfl)) rfl dX7_writeAlone_48 ?_
  refine lv_iload_n hx hb dX7_writeAlone_51 rfl (lv_at hl 0 rfl) ?_
  refine lv_if_eq (tgt := 61) hx hb dX7_writeAlone_52 (by decide) (fun _ => ?_) (fun cc_11 => absurd (by decide) cc_11)
  refine lv_aload_n hx hb dX7_writeAlone_61 rfl (lv_at hl 1 rfl) ?_
  refine hk_get (ci := 10) (C := RX7) (T := TX7) (N := 17) (v := .ref (ad 2)) hx hb hts iX7 hown hw 18 rfl rfl 1 (by decide) (hts _ (List.mem_of_getElem? (i := 29) rfl)) rfl dX7_writeAlone_62 ?_
  refine hk_get (ci := 12) (C := RX9) (T := TX9) (N := 2) (v := .int 0) hx hb hts iX9 hown hw 2 rfl rfl 1 (by decide) (hts _ (List.mem_of_getElem? (i := 30) rfl)) (congrArg (fun z => some (Value.int z)) h13) dX7_writeAlone_65 ?_
  refine lv_i2l (v := (0 : Int32).toInt64) hx hb dX7_writeAlone_68 rfl ?_
  refine hk_topl 0 (by decide +kernel) ?_
  refine lv_bipush (v := 8) hx hb dX7_writeAlone_69 (by decide) ?_
  refine hk_Vv (As := [.long 0, .int 8]) (rest := []) ⟨hx, hb, hml, hown, hts⟩ hw hA (cx_low5_8 l D cI cJ ad (upd g 14 5) lg (va_up ar 1 uu_9) bk _ 0 rfl) (cwV 2 hts gw_cx_alone_3 rfl rfl rfl (by decide +kernel) ⟨Nat.le_of_ble_eq_true rfl, Nat.le_of_ble_eq_true rfl⟩) 4 (ci := 12) (T := TX9) (N := 2) rfl rfl rfl hl.1 rfl (Nat.le_of_ble_eq_true rfl) dX7_writeAlone_71 ⟨Nat.le_of_ble_eq_true rfl, Nat.le_of_ble_eq_true rfl⟩ (fun uu_13 H locs hp_14 hw => ?_)
  have hw : hk_W D [(cI, .int), (cJ, .long)] _ s _ _ (xw cI cJ ad (upd g 14 13) lg (va_up ar 1 uu_13) bk) := hw
  refine lv_aload_n hx hb dX7_writeAlone_74 rfl (lv_at hl 1 rfl) ?_
  refine lv_iconst (v := 0) hx hb dX7_writeAlone_75 (by decide) ?_
  refine lv_iconst (v := 0) hx hb dX7_writeAlone_76 (by decide) ?_
  refine lv_aload_n hx hb dX7_writeAlone_77 rfl (lv_at hl 1 rfl) ?_
  refine hk_get (ci := 10) (C := RX7) (T := TX7) (N := 17) (v := .ref (ad 2)) hx hb hts iX7 hown hw 18 rfl rfl 1 (by decide) (hts _ (List.mem_of_getElem? (i := 29) rfl)) rfl dX7_writeAlone_78 ?_
  refine hk_get (ci := 12) (C := RX9) (T := TX9) (N := 2) (v := .int 0) hx hb hts iX9 hown hw 2 rfl rfl 1 (by decide) (hts _ (List.mem_of_getElem? (i := 30) rfl)) (congrArg (fun z => some (Value.int z)) h13) dX7_writeAlone_81 ?_
  refine lv_iload_n hx hb dX7_writeAlone_84 rfl (lv_at hl 0 rfl) ?_
  refine hk_Vv (As := [.int 0, .int 0, .int 0, .int 0]) (rest := []) ⟨hx, hb, hml, hown, hts⟩ hw hA (cx_bits l D cI cJ ad (upd g 14 13) lg (va_up ar 1 uu_13) bk _ rfl) (cwV 4 hts gw_cx_alone_4 rfl rfl rfl (by decide +kernel) ⟨Nat.le_of_ble_eq_true rfl, Nat.le_of_ble_eq_true rfl⟩) 18 (ci := 10) (T := TX7) (N := 17) rfl rfl rfl hl.1 rfl (Nat.le_of_ble_eq_true rfl) dX7_writeAlone_85 ⟨Nat.le_of_ble_eq_true rfl, Nat.le_of_ble_eq_true rfl⟩ (fun uu_16 H locs hp_17 hw => ?_)
  have hw : hk_W D [(cI, .int), (cJ, .long)] _ s _ _ (xw cI cJ ad (upd (upd (upd (upd (upd (upd (upd g 14 18) 37 0) 38 0) 39 0) 18 0) 19 0) 20 1) (vp_updL (vp_updL lg 0 0) 1 4294967295) (va_up (va_up (va_up ar 1 uu_16.1) 10 uu_16.2.1) 11 uu_16.2.2) bk) := hw
  exact hk_vret (u := (uu_16.1, uu_16.2.1, uu_16.2.2)) hx hb hr hlocks (show hk_W D [(cI, .int), (cJ, .long)] _ s _ _ (xw cI cJ ad (upd (upd (upd (upd (upd (upd (upd g 14 18) 37 0) 38 0) 39 0) 18 0) 19 0) 20 1) (vp_updL (vp_updL lg 0 0) 1 4294967295) (va_up (va_up (va_up ar 1 ((uu_16.1, uu_16.2.1, uu_16.2.2).1)) 10 ((uu_16.1, uu_16.2.1, uu_16.2.2).2.1)) 11 ((uu_16.1, uu_16.2.1, uu_16.2.2).2.2)) bk) from hw) (trivial) dX7_writeAlone_88

def ww_cx_chunks0 : List Cond := Cond.code yX7_writeChunks cX7_writeChunks 9 none :: ([Cond.fieldLink RX7 19 "LzmaChains$Packer" "output" "LLzmaChains$Row;", Cond.fieldLink RX7 47 "LzmaChains$Row" "size" "I", Cond.fieldLink RX7 175 "LzmaChains$Packer" "chunkPlace" "I", Cond.fieldLink RX7 178 "LzmaChains$Packer" "chunks" "I", Cond.fieldLink RX7 22 "LzmaChains$Packer" "model" "LLzmaChains$Model;", Cond.methodLink RX7 74 yX5_reset, Cond.instanceMethod yX5_reset, Cond.selects RX5 yX5_reset yX5_reset, Cond.initialized RX5, Cond.code yX5_reset cX5_reset 2 none, Cond.fieldLink RX5 19 "LzmaChains$Model" "lc" "I", Cond.fieldLink RX5 23 "LzmaChains$Model" "lp" "I", Cond.fieldLink RX5 11 "LzmaChains$Model" "coder" "LLzmaChains$Coder;", Cond.fieldLink RX5 29 "LzmaChains$Coder" "chances" "[I", Cond.methodLink RX5 35 Lib.Math.min.name, Cond.static Lib.Math.min.name, Cond.initialized "java/lang/Math", Cond.code Lib.Math.min.name Lib.Math.min.code 2 (some .int), Cond.methodLink RX5 41 yJ7_fill_fda19, Cond.static yJ7_fill_fda19, Cond.initialized RJ7, Cond.code yJ7_fill_fda19 cJ7_fill_fda19 5 none, Cond.methodLink RJ7 13 yJ7_rangeCheck_23922, Cond.static yJ7_rangeCheck_23922, Cond.code yJ7_rangeCheck_23922 cJ7_rangeCheck_23922 3 none, Cond.fieldLink RX5 15 "LzmaChains$Model" "backs" "[J", Cond.methodLink RX5 47 yJ7_fill_d0a16, Cond.static yJ7_fill_d0a16, Cond.code yJ7_fill_d0a16 cJ7_fill_d0a16 5 none, Cond.fieldLink RX5 50 "LzmaChains$Model" "state" "I", Cond.fieldLink RX7 9 "LzmaChains$Packer" "settings" "LLzmaChains$Settings;", Cond.fieldLink RX7 181 "LzmaChains$Settings" "chunk" "I", Cond.methodLink RX7 124 Lib.Math.max.name, Cond.static Lib.Math.max.name, Cond.code Lib.Math.max.name Lib.Math.max.code 2 (some .int), Cond.methodLink RX7 84 yX9_put, Cond.instanceMethod yX9_put, Cond.selects RX9 yX9_put yX9_put, Cond.initialized RX9, Cond.code yX9_put cX9_put 2 none, Cond.fieldLink RX9 13 "LzmaChains$Row" "size" "I", Cond.methodLink RX9 17 yX9_set, Cond.instanceMethod yX9_set, Cond.selects RX9 yX9_set yX9_set, Cond.code yX9_set cX9_set 3 none, Cond.fieldLink RX9 7 "LzmaChains$Row" "data" "[I"] ++ (wsX70 ++ (wsX90 ++ (wsX50 ++ (wsX20 ++ (wsX100 ++ ([])))))))
set_option maxRecDepth 20000 in
theorem gw_cx_chunks0_0 : GoodIn ww_cx_chunks0 (wsV RX7 74 RX5 yX5_reset ww_cx_reset30) := goodIn_r _ [6, 7, 8, 9, 10, 11, 12, 13, 14, 15, 16, 17, 18, 19, 20, 21, 22, 23, 24, 25, 26, 27, 28, 29, 30, 66, 67, 68, 69, 70, 71, 72, 73, 74, 75, 76, 77, 78, 79, 80] rfl (by decide +kernel)
set_option maxRecDepth 20000 in
theorem gw_cx_chunks0_1 : GoodIn ww_cx_chunks0 (wsV RX7 84 RX9 yX9_put ww_cx_out_put) := goodIn_r _ [36, 37, 38, 39, 40, 41, 42, 43, 44, 39, 45, 46, 64, 65] rfl (by decide +kernel)
set_option maxHeartbeats 4000000 in
set_option maxRecDepth 100000 in
/-- Packer.writeChunks of nothing -/
theorem cx_chunks0 (l : Launch) (D : va_G) (cI cJ : ClassId) (ad : Nat → Nat) (g : Nat → Int32) (lg : Nat → Int64) (ar : Nat → Nat → Int32) (bk : Nat → Int64) (sz : Nat)  (h14 : g 14 = 0) (h21 : g 21 = 3) (h22 : g 22 = 0) (h7 : g 7 = 512) : Met l yX7_writeChunks ww_cx_chunks0 { frames := 3, cells := 0, slots := 0, locals := 67 } (va_Pc [.ref (ad 18), .int 0, .int 0] (hk_B D [(cI, .int), (cJ, .long)] sz (xw cI cJ ad g lg ar bk))) (va_Qv (fun u : (Nat → Int32) × (Nat → Int32) × (Nat → Int64) => True) (fun u : (Nat → Int32) × (Nat → Int32) × (Nat → Int64) => hk_E D [(cI, .int), (cJ, .long)] (va_A (xw cI cJ ad g lg ar bk) sz) (xw cI cJ ad (upd (upd (upd (upd g 14 1) 30 0) 31 0) 24 0) lg (va_up (va_up ar 1 u.1) 2 u.2.1) u.2.2)) (va_A (xw cI cJ ad g lg ar bk) sz)) 0 0 (va_A (xw cI cJ ad g lg ar bk) sz) := by
  refine hk_met (cc := cX7_writeChunks) (maxL := 9) (ret := none) (by decide) rfl (Nat.le_of_ble_eq_true rfl) ?_
  intro p e s m below meth c ls hx hb hr hml hown hts hlocks hin hA hw hl
  have iX7 : ∀ w ∈ wsX70, w ∈ ww_cx_chunks0 := fun _ h => List.mem_cons_of_mem _ (List.mem_append_right _ (List.mem_append_left _ h))
  have iX9 : ∀ w ∈ wsX90, w ∈ ww_cx_chunks0 := fun _ h => List.mem_cons_of_mem _ (List.mem_append_right _ (List.mem_append_right _ (List.mem_append_left _ h)))
  have iX5 : ∀ w ∈ wsX50, w ∈ ww_cx_chunks0 := fun _ h => List.mem_cons_of_mem _ (List.mem_append_right _ (List.mem_append_right _ (List.mem_append_right _ (List.mem_append_left _ h))))
  have iX2 : ∀ w ∈ wsX20, w ∈ ww_cx_chunks0 := fun _ h => List.mem_cons_of_mem _ (List.mem_append_right _ (List.mem_append_right _ (List.mem_append_right _ (List.mem_append_right _ (List.mem_append_left _ h)))))
  have iX10 : ∀ w ∈ wsX100, w ∈ ww_cx_chunks0 := fun _ h => List.mem_cons_of_mem _ (List.mem_append_right _ (List.mem_append_right _ (List.mem_append_right _ (List.mem_append_right _ (List.mem_append_right _ (List.mem_append_left _ h))))))
  have hl : lv_has ls 9 [(0, .ref (ad 18)), (1, .int 0), (2, .int 0)] := hl
  refine lv_aload_n hx hb dX7_writeChunks_0 rfl (lv_at hl 0 rfl) ?_
  refine lv_aload_n hx hb dX7_writeChunks_1 rfl (lv_at hl 0 rfl) ?_
  refine hk_get (ci := 10) (C := RX7) (T := TX7) (N := 17) (v := .ref (ad 4)) hx hb hts iX7 hown hw 18 rfl rfl 2 (by decide) (hts _ (List.mem_of_getElem? (i := 1) rfl)) rfl dX7_writeChunks_2 ?_
  refine hk_get (ci := 12) (C := RX9) (T := TX9) (N := 2) (v := .int 0) hx hb hts iX9 hown hw 4 rfl rfl 1 (by decide) (hts _ (List.mem_of_getElem? (i := 2) rfl)) (congrArg (fun z => some (Value.int z)) h14) dX7_writeChunks_5 ?_
  refine hk_put (ci := 10) (C := RX7) (T := TX7) (N := 17) (ty := .int) (v := .int 0) hx hb hts iX7 tyX7 tyX7_ok nmX7 hown hw 18 rfl rfl 10 (by decide) (hts _ (List.mem_of_getElem? (i := 3) rfl)) rfl (by decide +kernel) rfl rfl (Nat.le_of_ble_eq_true rfl) dX7_writeChunks_8 (ws' := xw cI cJ ad (upd g 30 0) lg ar bk) rfl (fun H locs hw => ?_)
  refine lv_aload_n hx hb dX7_writeChunks_11 rfl (lv_at hl 0 rfl) ?_
  refine lv_iconst (v := 0) hx hb dX7_writeChunks_12 (by decide) ?_
  refine hk_put (ci := 10) (C := RX7) (T := TX7) (N := 17) (ty := .int) (v := .int 0) hx hb hts iX7 tyX7 tyX7_ok nmX7 hown hw 18 rfl rfl 11 (by decide) (hts _ (List.mem_of_getElem? (i := 4) rfl)) rfl (by decide +kernel) rfl rfl (Nat.le_of_ble_eq_true rfl) dX7_writeChunks_13 (ws' := xw cI cJ ad (upd (upd g 30 0) 31 0) lg ar bk) rfl (fun H locs hw => ?_)
  refine lv_aload_n hx hb dX7_writeChunks_16 rfl (lv_at hl 0 rfl) ?_
  refine hk_get (ci := 10) (C := RX7) (T := TX7) (N := 17) (v := .ref (ad 9)) hx hb hts iX7 hown hw 18 rfl rfl 3 (by decide) (hts _ (List.mem_of_getElem? (i := 5) rfl)) rfl dX7_writeChunks_17 ?_
  refine hk_Vv (As := []) (rest := []) ⟨hx, hb, hml, hown, hts⟩ hw hA (cx_reset30 l D cI cJ ad (upd (upd g 30 0) 31 0) lg ar bk _ h21 h22) (cwV 0 hts gw_cx_chunks0_0 rfl rfl rfl (by decide +kernel) ⟨Nat.le_of_ble_eq_true rfl, Nat.le_of_ble_eq_true rfl⟩) 9 (ci := 8) (T := TX5) (N := 6) rfl rfl rfl hl.1 rfl (Nat.le_of_ble_eq_true rfl) dX7_writeChunks_20 ⟨Nat.le_of_ble_eq_true rfl, Nat.le_of_ble_eq_true rfl⟩ (fun uu_2 H locs hp_3 hw => ?_)
  have hw : hk_W D [(cI, .int), (cJ, .long)] _ s _ _ (xw cI cJ ad (upd (upd (upd g 30 0) 31 0) 24 0) lg (va_up ar 2 uu_2.1) uu_2.2) := hw
  refine lv_iconst (v := (-1)) hx hb dX7_writeChunks_23 (by decide) ?_
  refine lv_istore_n (lv' := [(3, .int (-1)), (0, .ref (ad 18)), (1, .int 0), (2, .int 0)]) hx hb dX7_writeChunks_24 rfl hl (by decide) rfl (fun ls hl => ?_)
  refine lv_iconst (v := 1) hx hb dX7_writeChunks_25 (by decide) ?_
  refine lv_aload_n hx hb dX7_writeChunks_26 rfl (lv_at hl 1 rfl) ?_
  refine hk_get (ci := 10) (C := RX7) (T := TX7) (N := 17) (v := .ref (ad 1)) hx hb hts iX7 hown hw 18 rfl rfl 0 (by decide) (hts _ (List.mem_of_getElem? (i := 31) rfl)) rfl dX7_writeChunks_27 ?_
  refine hk_get (ci := 13) (C := RX10) (T := TX10) (N := 10) (v := .int 512) hx hb hts iX10 hown hw 1 rfl rfl 4 (by decide) (hts _ (List.mem_of_getElem? (i := 32) rfl)) (congrArg (fun z => some (Value.int z)) h7) dX7_writeChunks_30 ?_
  refine va_mmax hx hb (by rw [hml]; exact hl.1.symm) hown (hts _ (List.mem_of_getElem? (i := 33) rfl)) (hts _ (List.mem_of_getElem? (i := 34) rfl)) (hts _ (List.mem_of_getElem? (i := 17) rfl)) (hts _ (List.mem_of_getElem? (i := 35) rfl)) (Nat.le_of_ble_eq_true rfl) (Nat.le_of_ble_eq_true rfl) (Nat.le_of_ble_eq_true rfl) (Nat.le_of_ble_eq_true rfl) dX7_writeChunks_33 ?_
  refine hk_topi 512 (by decide +kernel) ?_
  refine lv_istore (lv' := [(4, .int 512), (3, .int (-1)), (0, .ref (ad 18)), (1, .int 0), (2, .int 0)]) hx hb dX7_writeChunks_36 hl (by decide) rfl (fun ls hl => ?_)
  refine lv_iload_n hx hb dX7_writeChunks_38 rfl (lv_at hl 3 rfl) ?_
  refine lv_istore (lv' := [(5, .int 0), (4, .int 512), (3, .int (-1)), (0, .ref (ad 18)), (1, .int 0), (2, .int 0)]) hx hb dX7_writeChunks_39 hl (by decide) rfl (fun ls hl => ?_)
  refine lv_iload hx hb dX7_writeChunks_41 (lv_at hl 0 rfl) ?_
  refine lv_iload_n hx hb dX7_writeChunks_43 rfl (lv_at hl 5 rfl) ?_
  refine lv_icmp_ge (tgt := 200) hx hb dX7_writeChunks_44 (by decide) (fun _ => ?_) (fun cc_4 => absurd (by decide) cc_4)
  refine lv_aload_n hx hb dX7_writeChunks_200 rfl (lv_at hl 3 rfl) ?_
  refine hk_get (ci := 10) (C := RX7) (T := TX7) (N := 17) (v := .ref (ad 4)) hx hb hts iX7 hown hw 18 rfl rfl 2 (by decide) (hts _ (List.mem_of_getElem? (i := 1) rfl)) rfl dX7_writeChunks_201 ?_
  refine lv_iconst (v := 0) hx hb dX7_writeChunks_204 (by decide) ?_
  refine hk_Vv (As := [.int 0]) (rest := []) ⟨hx, hb, hml, hown, hts⟩ hw hA (cx_out_put l D cI cJ ad (upd (upd (upd g 30 0) 31 0) 24 0) lg (va_up ar 2 uu_2.1) uu_2.2 _ 0 0 1 h14 (by decide)) (cwV 1 hts gw_cx_chunks0_1 rfl rfl rfl (by decide +kernel) ⟨Nat.le_of_ble_eq_true rfl, Nat.le_of_ble_eq_true rfl⟩) 4 (ci := 12) (T := TX9) (N := 2) rfl rfl rfl hl.1 rfl (Nat.le_of_ble_eq_true rfl) dX7_writeChunks_205 ⟨Nat.le_of_ble_eq_true rfl, Nat.le_of_ble_eq_true rfl⟩ (fun uu_6 H locs hp_7 hw => ?_)
  have hw : hk_W D [(cI, .int), (cJ, .long)] _ s _ _ (xw cI cJ ad (upd (upd (upd (upd g 30 0) 31 0) 24 0) 14 1) lg (va_up (va_up ar 2 uu_2.1) 1 uu_6) uu_2.2) := hw
  exact hk_vret (u := (uu_6, uu_2.1, uu_2.2)) hx hb hr hlocks (show hk_W D [(cI, .int), (cJ, .long)] _ s _ _ (xw cI cJ ad (upd (upd (upd (upd g 14 1) 30 0) 31 0) 24 0) lg (va_up (va_up ar 1 ((uu_6, uu_2.1, uu_2.2).1)) 2 ((uu_6, uu_2.1, uu_2.2).2.1)) ((uu_6, uu_2.1, uu_2.2).2.2)) from hw) (trivial) dX7_writeChunks_208

def ww_cx_addBlock : List Cond := Cond.code yX4_addBlock cX4_addBlock 7 none :: ([Cond.fieldLink RX4 22 "LzmaChains$Ledger" "blocks" "I", Cond.fieldLink RX4 15 "LzmaChains$Ledger" "blockParts" "[I"] ++ (wsX40 ++ ([])))
set_option maxHeartbeats 4000000 in
set_option maxRecDepth 100000 in
/-- Ledger.addBlock, the first -/
theorem cx_addBlock (l : Launch) (D : va_G) (cI cJ : ClassId) (ad : Nat → Nat) (g : Nat → Int32) (lg : Nat → Int64) (ar : Nat → Nat → Int32) (bk : Nat → Int64) (sz : Nat) (a1 a2 a3 a4 a5 : Int32) (h26 : g 26 = 0) : Met l yX4_addBlock ww_cx_addBlock { frames := 0, cells := 0, slots := 0, locals := 0 } (va_Pc [.ref (ad 15), .int a1, .int a2, .int a3, .int a4, .int a5] (hk_B D [(cI, .int), (cJ, .long)] sz (xw cI cJ ad g lg ar bk))) (va_Qv (fun u : (Nat → Int32) => True) (fun u : (Nat → Int32) => hk_E D [(cI, .int), (cJ, .long)] (va_A (xw cI cJ ad g lg ar bk) sz) (xw cI cJ ad (upd g 26 1) lg (va_up ar 7 u) bk)) (va_A (xw cI cJ ad g lg ar bk) sz)) 0 0 (va_A (xw cI cJ ad g lg ar bk) sz) := by
  refine hk_met (cc := cX4_addBlock) (maxL := 7) (ret := none) (by decide) rfl (Nat.le_of_ble_eq_true rfl) ?_
  intro p e s m below meth c ls hx hb hr hml hown hts hlocks hin hA hw hl
  have iX4 : ∀ w ∈ wsX40, w ∈ ww_cx_addBlock := fun _ h => List.mem_cons_of_mem _ (List.mem_append_right _ (List.mem_append_left _ h))
  have hl : lv_has ls 7 [(0, .ref (ad 15)), (1, .int a1), (2, .int a2), (3, .int a3), (4, .int a4), (5, .int a5)] := hl
  refine lv_aload_n hx hb dX4_addBlock_0 rfl (lv_at hl 0 rfl) ?_
  refine hk_get (ci := 7) (C := RX4) (T := TX4) (N := 4) (v := .int 0) hx hb hts iX4 hown hw 15 rfl rfl 3 (by decide) (hts _ (List.mem_of_getElem? (i := 1) rfl)) (congrArg (fun z => some (Value.int z)) h26) dX4_addBlock_1 ?_
  refine lv_if_lt (tgt := 85) hx hb dX4_addBlock_4 (by decide) (fun cc_1 => absurd cc_1 (by decide)) (fun _ => ?_)
  refine lv_aload_n hx hb dX4_addBlock_7 rfl (lv_at hl 0 rfl) ?_
  refine hk_get (ci := 7) (C := RX4) (T := TX4) (N := 4) (v := .int 0) hx hb hts iX4 hown hw 15 rfl rfl 3 (by decide) (hts _ (List.mem_of_getElem? (i := 1) rfl)) (congrArg (fun z => some (Value.int z)) h26) dX4_addBlock_8 ?_
  refine lv_sipush (v := 200) hx hb dX4_addBlock_11 (by decide) ?_
  refine lv_icmp_ge (tgt := 85) hx hb dX4_addBlock_14 (by decide) (fun cc_2 => absurd cc_2 (by decide)) (fun _ => ?_)
  refine lv_iconst (v := 5) hx hb dX4_addBlock_17 (by decide) ?_
  refine lv_aload_n hx hb dX4_addBlock_18 rfl (lv_at hl 0 rfl) ?_
  refine hk_get (ci := 7) (C := RX4) (T := TX4) (N := 4) (v := .int 0) hx hb hts iX4 hown hw 15 rfl rfl 3 (by decide) (hts _ (List.mem_of_getElem? (i := 1) rfl)) (congrArg (fun z => some (Value.int z)) h26) dX4_addBlock_19 ?_
  refine lv_imul hx hb dX4_addBlock_22 ?_
  refine hk_topi 0 (by decide +kernel) ?_
  refine lv_istore (lv' := [(6, .int 0), (0, .ref (ad 15)), (1, .int a1), (2, .int a2), (3, .int a3), (4, .int a4), (5, .int a5)]) hx hb dX4_addBlock_23 hl (by decide) rfl (fun ls hl => ?_)
  refine lv_aload_n hx hb dX4_addBlock_25 rfl (lv_at hl 1 rfl) ?_
  refine hk_get (ci := 7) (C := RX4) (T := TX4) (N := 4) (v := .ref (ad 17)) hx hb hts iX4 hown hw 15 rfl rfl 1 (by decide) (hts _ (List.mem_of_getElem? (i := 2) rfl)) rfl dX4_addBlock_26 ?_
  refine lv_iload hx hb dX4_addBlock_29 (lv_at hl 0 rfl) ?_
  refine lv_iload_n hx hb dX4_addBlock_31 rfl (lv_at hl 2 rfl) ?_
  refine hk_iast hx hb hw 17 0 rfl rfl (show ¬ (_ ∨ _) by decide) dX4_addBlock_32 (ws' := xw cI cJ ad g lg (va_up ar 7 (upd (ar 7) 0 a1)) bk) rfl (fun H locs hw => ?_)
  refine lv_aload_n hx hb dX4_addBlock_33 rfl (lv_at hl 1 rfl) ?_
  refine hk_get (ci := 7) (C := RX4) (T := TX4) (N := 4) (v := .ref (ad 17)) hx hb hts iX4 hown hw 15 rfl rfl 1 (by decide) (hts _ (List.mem_of_getElem? (i := 2) rfl)) rfl dX4_addBlock_34 ?_
  refine lv_iload hx hb dX4_addBlock_37 (lv_at hl 0 rfl) ?_
  refine lv_iconst (v := 1) hx hb dX4_addBlock_39 (by decide) ?_
  refine lv_iadd hx hb dX4_addBlock_40 ?_
  refine hk_topi 1 (by decide +kernel) ?_
  refine lv_iload_n hx hb dX4_addBlock_41 rfl (lv_at hl 3 rfl) ?_
  refine hk_iast hx hb hw 17 0 rfl rfl (show ¬ (_ ∨ _) by decide) dX4_addBlock_42 (ws' := xw cI cJ ad g lg (va_up ar 7 (upd (upd (ar 7) 0 a1) 1 a2)) bk) rfl (fun H locs hw => ?_)
  refine lv_aload_n hx hb dX4_addBlock_43 rfl (lv_at hl 1 rfl) ?_
  refine hk_get (ci := 7) (C := RX4) (T := TX4) (N := 4) (v := .ref (ad 17)) hx hb hts iX4 hown hw 15 rfl rfl 1 (by decide) (hts _ (List.mem_of_getElem? (i := 2) rfl)) rfl dX4_addBlock_44 ?_
  refine lv_iload hx hb dX4_addBlock_47 (lv_at hl 0 rfl) ?_
  refine lv_iconst (v := 2) hx hb dX4_addBlock_49 (by decide) ?_
  refine lv_iadd hx hb dX4_addBlock_50 ?_
  refine hk_topi 2 (by decide +kernel) ?_
  refine lv_iload_n hx hb dX4_addBlock_51 rfl (lv_at hl 4 rfl) ?_
  refine hk_iast hx hb hw 17 0 rfl rfl (show ¬ (_ ∨ _) by decide) dX4_addBlock_52 (ws' := xw cI cJ ad g lg (va_up ar 7 (upd (upd (upd (ar 7) 0 a1) 1 a2) 2 a3)) bk) rfl (fun H locs hw => ?_)
  refine lv_aload_n hx hb dX4_addBlock_53 rfl (lv_at hl 1 rfl) ?_
  refine hk_get (ci := 7) (C := RX4) (T := TX4) (N := 4) (v := .ref (ad 17)) hx hb hts iX4 hown hw 15 rfl rfl 1 (by decide) (hts _ (List.mem_of_getElem? (i := 2) rfl)) rfl dX4_addBlock_54 ?_
  refine lv_iload hx hb dX4_addBlock_57 (lv_at hl 0 rfl) ?_
  refine lv_iconst (v := 3) hx hb dX4_addBlock_59 (by decide) ?_
  refine lv_iadd hx hb dX4_addBlock_60 ?_
  refine hk_topi 3 (by decide +kernel) ?_
  refine lv_iload hx hb dX4_addBlock_61 (lv_at hl 5 rfl) ?_
  refine hk_iast hx hb hw 17 0 rfl rfl (show ¬ (_ ∨ _) by decide) dX4_addBlock_63 (ws' := xw cI cJ ad g lg (va_up ar 7 (upd (upd (upd (upd (ar 7) 0 a1) 1 a2) 2 a3) 3 a4)) bk) rfl (fun H locs hw => ?_)
  refine lv_aload_n hx hb dX4_addBlock_64 rfl (lv_at hl 1 rfl) ?_
  refine hk_get (ci := 7) (C := RX4) (T := TX4) (N := 4) (v := .ref (ad 17)) hx hb hts iX4 hown hw 15 rfl rfl 1 (by decide) (hts _ (List.mem_of_getElem? (i := 2) rfl)) rfl dX4_addBlock_65 ?_
  refine lv_iload hx hb dX4_addBlock_68 (lv_at hl 0 rfl) ?_
  refine lv_iconst (v := 4) hx hb dX4_addBlock_70 (by decide) ?_
  refine lv_iadd hx hb dX4_addBlock_71 ?_
  refine hk_topi 4 (by decide +kernel) ?_
  refine lv_iload hx hb dX4_addBlock_72 (lv_at hl 6 rfl) ?_
  refine hk_iast hx hb hw 17 0 rfl rfl (show ¬ (_ ∨ _) by decide) dX4_addBlock_74 (ws' := xw cI cJ ad g lg (va_up ar 7 (upd (upd (upd (upd (upd (ar 7) 0 a1) 1 a2) 2 a3) 3 a4) 4 a5)) bk) rfl (fun H locs hw => ?_)
  refine lv_aload_n hx hb dX4_addBlock_75 rfl (lv_at hl 1 rfl) ?_
  refine lv_dup hx hb dX4_addBlock_76 rfl ?_
  refine hk_get (ci := 7) (C := RX4) (T := TX4) (N := 4) (v := .int 0) hx hb hts iX4 hown hw 15 rfl rfl 3 (by decide) (hts _ (List.mem_of_getElem? (i := 1) rfl)) (congrArg (fun z => some (Value.int z)) h26) dX4_addBlock_77 ?_
  refine lv_iconst (v := 1) hx hb dX4_addBlock_80 (by decide) ?_
  refine lv_iadd hx hb dX4_addBlock_81 ?_
  refine hk_topi 1 (by decide +kernel) ?_
  refine hk_put (ci := 7) (C := RX4) (T := TX4) (N := 4) (ty := .int) (v := .int 1) hx hb hts iX4 tyX4 tyX4_ok nmX4 hown hw 15 rfl rfl 3 (by decide) (hts _ (List.mem_of_getElem? (i := 1) rfl)) rfl (by decide +kernel) rfl rfl (Nat.le_of_ble_eq_true rfl) dX4_addBlock_82 (ws' := xw cI cJ ad (upd g 26 1) lg (va_up ar 7 (upd (upd (upd (upd (upd (ar 7) 0 a1) 1 a2) 2 a3) 3 a4) 4 a5)) bk) rfl (fun H locs hw => ?_)
  exact hk_vret (u := (upd (upd (upd (upd (upd (ar 7) 0 a1) 1 a2) 2 a3) 3 a4) 4 a5)) hx hb hr hlocks (hw) (trivial) dX4_addBlock_85

def ww_cx_note : List Cond := Cond.code yX7_noteChunks cX7_noteChunks 1 none :: ([Cond.fieldLink RX7 30 "LzmaChains$Packer" "ledger" "LLzmaChains$Ledger;", Cond.fieldLink RX7 19 "LzmaChains$Packer" "output" "LLzmaChains$Row;", Cond.fieldLink RX7 47 "LzmaChains$Row" "size" "I", Cond.fieldLink RX7 15 "LzmaChains$Packer" "input" "LLzmaChains$Row;", Cond.fieldLink RX7 178 "LzmaChains$Packer" "chunks" "I", Cond.methodLink RX7 221 yX4_addBlock, Cond.instanceMethod yX4_addBlock, Cond.selects RX4 yX4_addBlock yX4_addBlock, Cond.initialized RX4, Cond.code yX4_addBlock cX4_addBlock 7 none, Cond.fieldLink RX4 22 "LzmaChains$Ledger" "blocks" "I", Cond.fieldLink RX4 15 "LzmaChains$Ledger" "blockParts" "[I"] ++ (wsX70 ++ (wsX90 ++ (wsX40 ++ ([])))))
set_option maxRecDepth 20000 in
theorem gw_cx_note_0 : GoodIn ww_cx_note (wsV RX7 221 RX4 yX4_addBlock ww_cx_addBlock) := goodIn_r _ [6, 7, 8, 9, 10, 11, 12, 32, 33, 34, 35] rfl (by decide +kernel)
set_option maxHeartbeats 4000000 in
set_option maxRecDepth 100000 in
/-- Packer.noteChunks -/
theorem cx_note (l : Launch) (D : va_G) (cI cJ : ClassId) (ad : Nat → Nat) (g : Nat → Int32) (lg : Nat → Int64) (ar : Nat → Nat → Int32) (bk : Nat → Int64) (sz : Nat)  (h26 : g 26 = 0) : Met l yX7_noteChunks ww_cx_note { frames := 1, cells := 0, slots := 0, locals := 26 } (va_Pc [.ref (ad 18)] (hk_B D [(cI, .int), (cJ, .long)] sz (xw cI cJ ad g lg ar bk))) (va_Qv (fun u : (Nat → Int32) => True) (fun u : (Nat → Int32) => hk_E D [(cI, .int), (cJ, .long)] (va_A (xw cI cJ ad g lg ar bk) sz) (xw cI cJ ad (upd g 26 1) lg (va_up ar 7 u) bk)) (va_A (xw cI cJ ad g lg ar bk) sz)) 0 0 (va_A (xw cI cJ ad g lg ar bk) sz) := by
  refine hk_met (cc := cX7_noteChunks) (maxL := 1) (ret := none) (by decide) rfl (Nat.le_of_ble_eq_true rfl) ?_
  intro p e s m below meth c ls hx hb hr hml hown hts hlocks hin hA hw hl
  have iX7 : ∀ w ∈ wsX70, w ∈ ww_cx_note := fun _ h => List.mem_cons_of_mem _ (List.mem_append_right _ (List.mem_append_left _ h))
  have iX9 : ∀ w ∈ wsX90, w ∈ ww_cx_note := fun _ h => List.mem_cons_of_mem _ (List.mem_append_right _ (List.mem_append_right _ (List.mem_append_left _ h)))
  have iX4 : ∀ w ∈ wsX40, w ∈ ww_cx_note := fun _ h => List.mem_cons_of_mem _ (List.mem_append_right _ (List.mem_append_right _ (List.mem_append_right _ (List.mem_append_left _ h))))
  have hl : lv_has ls 1 [(0, .ref (ad 18))] := hl
  refine lv_aload_n hx hb dX7_noteChunks_0 rfl (lv_at hl 0 rfl) ?_
  refine hk_get (ci := 10) (C := RX7) (T := TX7) (N := 17) (v := .ref (ad 15)) hx hb hts iX7 hown hw 18 rfl rfl 5 (by decide) (hts _ (List.mem_of_getElem? (i := 1) rfl)) rfl dX7_noteChunks_1 ?_
  refine lv_iconst (v := 0) hx hb dX7_noteChunks_4 (by decide) ?_
  refine lv_iconst (v := 0) hx hb dX7_noteChunks_5 (by decide) ?_
  refine lv_aload_n hx hb dX7_noteChunks_6 rfl (lv_at hl 0 rfl) ?_
  refine hk_get (ci := 10) (C := RX7) (T := TX7) (N := 17) (v := .ref (ad 4)) hx hb hts iX7 hown hw 18 rfl rfl 2 (by decide) (hts _ (List.mem_of_getElem? (i := 2) rfl)) rfl dX7_noteChunks_7 ?_
  refine hk_get (ci := 12) (C := RX9) (T := TX9) (N := 2) (v := .int (g 14)) hx hb hts iX9 hown hw 4 rfl rfl 1 (by decide) (hts _ (List.mem_of_getElem? (i := 3) rfl)) rfl dX7_noteChunks_10 ?_
  refine lv_aload_n hx hb dX7_noteChunks_13 rfl (lv_at hl 0 rfl) ?_
  refine hk_get (ci := 10) (C := RX7) (T := TX7) (N := 17) (v := .ref (ad 2)) hx hb hts iX7 hown hw 18 rfl rfl 1 (by decide) (hts _ (List.mem_of_getElem? (i := 4) rfl)) rfl dX7_noteChunks_14 ?_
  refine hk_get (ci := 12) (C := RX9) (T := TX9) (N := 2) (v := .int (g 13)) hx hb hts iX9 hown hw 2 rfl rfl 1 (by decide) (hts _ (List.mem_of_getElem? (i := 3) rfl)) rfl dX7_noteChunks_17 ?_
  refine lv_aload_n hx hb dX7_noteChunks_20 rfl (lv_at hl 0 rfl) ?_
  refine hk_get (ci := 10) (C := RX7) (T := TX7) (N := 17) (v := .int (g 31)) hx hb hts iX7 hown hw 18 rfl rfl 11 (by decide) (hts _ (List.mem_of_getElem? (i := 5) rfl)) rfl dX7_noteChunks_21 ?_
  refine hk_Vv (As := [.int 0, .int 0, .int (g 14), .int (g 13), .int (g 31)]) (rest := []) ⟨hx, hb, hml, hown, hts⟩ hw hA (cx_addBlock l D cI cJ ad g lg ar bk _ 0 0 (g 14) (g 13) (g 31) h26) (cwV 5 hts gw_cx_note_0 rfl rfl rfl (by decide +kernel) ⟨Nat.le_of_ble_eq_true rfl, Nat.le_of_ble_eq_true rfl⟩) 15 (ci := 7) (T := TX4) (N := 4) rfl rfl rfl hl.1 rfl (Nat.le_of_ble_eq_true rfl) dX7_noteChunks_24 ⟨Nat.le_of_ble_eq_true rfl, Nat.le_of_ble_eq_true rfl⟩ (fun uu_2 H locs hp_3 hw => ?_)
  have hw : hk_W D [(cI, .int), (cJ, .long)] _ s _ _ (xw cI cJ ad (upd g 26 1) lg (va_up ar 7 uu_2) bk) := hw
  exact hk_vret (u := uu_2) hx hb hr hlocks (hw) (trivial) dX7_noteChunks_27

def ww_cx_finish18 : List Cond := Cond.code yX11_finishPacking cX11_finishPacking 1 (some .int) :: ([Cond.fieldLink RX11 47 "LzmaChains" "model" "LLzmaChains$Model;", Cond.fieldLink RX11 154 "LzmaChains$Model" "state" "I", Cond.fieldLink RX11 86 "LzmaChains" "lastState" "I", Cond.fieldLink RX11 29 "LzmaChains" "output" "LLzmaChains$Row;", Cond.fieldLink RX11 100 "LzmaChains$Row" "size" "I"] ++ (wsX110 ++ (wsX50 ++ (wsX90 ++ ([])))))
set_option maxHeartbeats 4000000 in
set_option maxRecDepth 100000 in
/-- finishPacking, OUT has 18 -/
theorem cx_finish18 (l : Launch) (D : va_G) (cI cJ : ClassId) (ad : Nat → Nat) (g : Nat → Int32) (lg : Nat → Int64) (ar : Nat → Nat → Int32) (bk : Nat → Int64) (sz : Nat)  (h14 : g 14 = 18) : Met l yX11_finishPacking ww_cx_finish18 { frames := 0, cells := 0, slots := 0, locals := 0 } (va_Pc [.ref (ad 0)] (hk_B D [(cI, .int), (cJ, .long)] sz (xw cI cJ ad g lg ar bk))) (va_Qi (fun (r : Int32) (u : Unit) => r = 18) (fun u : Unit => hk_E D [(cI, .int), (cJ, .long)] (va_A (xw cI cJ ad g lg ar bk) sz) (xw cI cJ ad (upd g 2 (g 24)) lg ar bk)) (va_A (xw cI cJ ad g lg ar bk) sz)) 0 0 (va_A (xw cI cJ ad g lg ar bk) sz) := by
  refine hk_met (cc := cX11_finishPacking) (maxL := 1) (ret := (some .int)) (by decide) rfl (Nat.le_of_ble_eq_true rfl) ?_
  intro p e s m below meth c ls hx hb hr hml hown hts hlocks hin hA hw hl
  have iX11 : ∀ w ∈ wsX110, w ∈ ww_cx_finish18 := fun _ h => List.mem_cons_of_mem _ (List.mem_append_right _ (List.mem_append_left _ h))
  have iX5 : ∀ w ∈ wsX50, w ∈ ww_cx_finish18 := fun _ h => List.mem_cons_of_mem _ (List.mem_append_right _ (List.mem_append_right _ (List.mem_append_left _ h)))
  have iX9 : ∀ w ∈ wsX90, w ∈ ww_cx_finish18 := fun _ h => List.mem_cons_of_mem _ (List.mem_append_right _ (List.mem_append_right _ (List.mem_append_right _ (List.mem_append_left _ h))))
  have hl : lv_has ls 1 [(0, .ref (ad 0))] := hl
  refine lv_aload_n hx hb dX11_finishPacking_0 rfl (lv_at hl 0 rfl) ?_
  refine lv_aload_n hx hb dX11_finishPacking_1 rfl (lv_at hl 0 rfl) ?_
  refine hk_get (ci := 14) (C := RX11) (T := TX11) (N := 11) (v := .ref (ad 9)) hx hb hts iX11 hown hw 0 rfl rfl 4 (by decide) (hts _ (List.mem_of_getElem? (i := 1) rfl)) rfl dX11_finishPacking_2 ?_
  refine hk_get (ci := 8) (C := RX5) (T := TX5) (N := 6) (v := .int (g 24)) hx hb hts iX5 hown hw 9 rfl rfl 5 (by decide) (hts _ (List.mem_of_getElem? (i := 2) rfl)) rfl dX11_finishPacking_5 ?_
  refine hk_put (ci := 14) (C := RX11) (T := TX11) (N := 11) (ty := .int) (v := .int (g 24)) hx hb hts iX11 tyX11 tyX11_ok nmX11 hown hw 0 rfl rfl 10 (by decide) (hts _ (List.mem_of_getElem? (i := 3) rfl)) rfl (by decide +kernel) rfl rfl (Nat.le_of_ble_eq_true rfl) dX11_finishPacking_8 (ws' := xw cI cJ ad (upd g 2 (g 24)) lg ar bk) rfl (fun H locs hw => ?_)
  refine lv_aload_n hx hb dX11_finishPacking_11 rfl (lv_at hl 0 rfl) ?_
  refine hk_get (ci := 14) (C := RX11) (T := TX11) (N := 11) (v := .ref (ad 4)) hx hb hts iX11 hown hw 0 rfl rfl 3 (by decide) (hts _ (List.mem_of_getElem? (i := 4) rfl)) rfl dX11_finishPacking_12 ?_
  refine hk_get (ci := 12) (C := RX9) (T := TX9) (N := 2) (v := .int 18) hx hb hts iX9 hown hw 4 rfl rfl 1 (by decide) (hts _ (List.mem_of_getElem? (i := 5) rfl)) (congrArg (fun z => some (Value.int z)) h14) dX11_finishPacking_15 ?_
  refine lv_sipush (v := 3000) hx hb dX11_finishPacking_18 (by decide) ?_
  refine lv_icmp_le (tgt := 47) hx hb dX11_finishPacking_21 (by decide) (fun _ => ?_) (fun cc_1 => absurd (by decide) cc_1)
  refine lv_aload_n hx hb dX11_finishPacking_47 rfl (lv_at hl 0 rfl) ?_
  refine hk_get (ci := 14) (C := RX11) (T := TX11) (N := 11) (v := .ref (ad 4)) hx hb hts iX11 hown hw 0 rfl rfl 3 (by decide) (hts _ (List.mem_of_getElem? (i := 4) rfl)) rfl dX11_finishPacking_48 ?_
  refine hk_get (ci := 12) (C := RX9) (T := TX9) (N := 2) (v := .int 18) hx hb hts iX9 hown hw 4 rfl rfl 1 (by decide) (hts _ (List.mem_of_getElem? (i := 5) rfl)) (congrArg (fun z => some (Value.int z)) h14) dX11_finishPacking_51 ?_
  exact hk_iret (u := ()) hx hb hr hlocks (hw) (rfl) dX11_finishPacking_54

def ww_cx_finish1 : List Cond := Cond.code yX11_finishPacking cX11_finishPacking 1 (some .int) :: ([Cond.fieldLink RX11 47 "LzmaChains" "model" "LLzmaChains$Model;", Cond.fieldLink RX11 154 "LzmaChains$Model" "state" "I", Cond.fieldLink RX11 86 "LzmaChains" "lastState" "I", Cond.fieldLink RX11 29 "LzmaChains" "output" "LLzmaChains$Row;", Cond.fieldLink RX11 100 "LzmaChains$Row" "size" "I"] ++ (wsX110 ++ (wsX50 ++ (wsX90 ++ ([])))))
set_option maxHeartbeats 4000000 in
set_option maxRecDepth 100000 in
/-- finishPacking, OUT has 1 -/
theorem cx_finish1 (l : Launch) (D : va_G) (cI cJ : ClassId) (ad : Nat → Nat) (g : Nat → Int32) (lg : Nat → Int64) (ar : Nat → Nat → Int32) (bk : Nat → Int64) (sz : Nat)  (h14 : g 14 = 1) : Met l yX11_finishPacking ww_cx_finish1 { frames := 0, cells := 0, slots := 0, locals := 0 } (va_Pc [.ref (ad 0)] (hk_B D [(cI, .int), (cJ, .long)] sz (xw cI cJ ad g lg ar bk))) (va_Qi (fun (r : Int32) (u : Unit) => r = 1) (fun u : Unit => hk_E D [(cI, .int), (cJ, .long)] (va_A (xw cI cJ ad g lg ar bk) sz) (xw cI cJ ad (upd g 2 (g 24)) lg ar bk)) (va_A (xw cI cJ ad g lg ar bk) sz)) 0 0 (va_A (xw cI cJ ad g lg ar bk) sz) := by
  refine hk_met (cc := cX11_finishPacking) (maxL := 1) (ret := (some .int)) (by decide) rfl (Nat.le_of_ble_eq_true rfl) ?_
  intro p e s m below meth c ls hx hb hr hml hown hts hlocks hin hA hw hl
  have iX11 : ∀ w ∈ wsX110, w ∈ ww_cx_finish1 := fun _ h => List.mem_cons_of_mem _ (List.mem_append_right _ (List.mem_append_left _ h))
  have iX5 : ∀ w ∈ wsX50, w ∈ ww_cx_finish1 := fun _ h => List.mem_cons_of_mem _ (List.mem_append_right _ (List.mem_append_right _ (List.mem_append_left _ h)))
  have iX9 : ∀ w ∈ wsX90, w ∈ ww_cx_finish1 := fun _ h => List.mem_cons_of_mem _ (List.mem_append_right _ (List.mem_append_right _ (List.mem_append_right _ (List.mem_append_left _ h))))
  have hl : lv_has ls 1 [(0, .ref (ad 0))] := hl
  refine lv_aload_n hx hb dX11_finishPacking_0 rfl (lv_at hl 0 rfl) ?_
  refine lv_aload_n hx hb dX11_finishPacking_1 rfl (lv_at hl 0 rfl) ?_
  refine hk_get (ci := 14) (C := RX11) (T := TX11) (N := 11) (v := .ref (ad 9)) hx hb hts iX11 hown hw 0 rfl rfl 4 (by decide) (hts _ (List.mem_of_getElem? (i := 1) rfl)) rfl dX11_finishPacking_2 ?_
  refine hk_get (ci := 8) (C := RX5) (T := TX5) (N := 6) (v := .int (g 24)) hx hb hts iX5 hown hw 9 rfl rfl 5 (by decide) (hts _ (List.mem_of_getElem? (i := 2) rfl)) rfl dX11_finishPacking_5 ?_
  refine hk_put (ci := 14) (C := RX11) (T := TX11) (N := 11) (ty := .int) (v := .int (g 24)) hx hb hts iX11 tyX11 tyX11_ok nmX11 hown hw 0 rfl rfl 10 (by decide) (hts _ (List.mem_of_getElem? (i := 3) rfl)) rfl (by decide +kernel) rfl rfl (Nat.le_of_ble_eq_true rfl) dX11_finishPacking_8 (ws' := xw cI cJ ad (upd g 2 (g 24)) lg ar bk) rfl (fun H locs hw => ?_)
  refine lv_aload_n hx hb dX11_finishPacking_11 rfl (lv_at hl 0 rfl) ?_
  refine hk_get (ci := 14) (C := RX11) (T := TX11) (N := 11) (v := .ref (ad 4)) hx hb hts iX11 hown hw 0 rfl rfl 3 (by decide) (hts _ (List.mem_of_getElem? (i := 4) rfl)) rfl dX11_finishPacking_12 ?_
  refine hk_get (ci := 12) (C := RX9) (T := TX9) (N := 2) (v := .int 1) hx hb hts iX9 hown hw 4 rfl rfl 1 (by decide) (hts _ (List.mem_of_getElem? (i := 5) rfl)) (congrArg (fun z => some (Value.int z)) h14) dX11_finishPacking_15 ?_
  refine lv_sipush (v := 3000) hx hb dX11_finishPacking_18 (by decide) ?_
  refine lv_icmp_le (tgt := 47) hx hb dX11_finishPacking_21 (by decide) (fun _ => ?_) (fun cc_1 => absurd (by decide) cc_1)
  refine lv_aload_n hx hb dX11_finishPacking_47 rfl (lv_at hl 0 rfl) ?_
  refine hk_get (ci := 14) (C := RX11) (T := TX11) (N := 11) (v := .ref (ad 4)) hx hb hts iX11 hown hw 0 rfl rfl 3 (by decide) (hts _ (List.mem_of_getElem? (i := 4) rfl)) rfl dX11_finishPacking_48 ?_
  refine hk_get (ci := 12) (C := RX9) (T := TX9) (N := 2) (v := .int 1) hx hb hts iX9 hown hw 4 rfl rfl 1 (by decide) (hts _ (List.mem_of_getElem? (i := 5) rfl)) (congrArg (fun z => some (Value.int z)) h14) dX11_finishPacking_51 ?_
  exact hk_iret (u := ()) hx hb hr hlocks (hw) (rfl) dX11_finishPacking_54

def ww_cx_finish32 : List Cond := Cond.code yX11_finishPacking cX11_finishPacking 1 (some .int) :: ([Cond.fieldLink RX11 47 "LzmaChains" "model" "LLzmaChains$Model;", Cond.fieldLink RX11 154 "LzmaChains$Model" "state" "I", Cond.fieldLink RX11 86 "LzmaChains" "lastState" "I", Cond.fieldLink RX11 29 "LzmaChains" "output" "LLzmaChains$Row;", Cond.fieldLink RX11 100 "LzmaChains$Row" "size" "I"] ++ (wsX110 ++ (wsX50 ++ (wsX90 ++ ([])))))
set_option maxHeartbeats 4000000 in
set_option maxRecDepth 100000 in
/-- finishPacking, OUT has 32 -/
theorem cx_finish32 (l : Launch) (D : va_G) (cI cJ : ClassId) (ad : Nat → Nat) (g : Nat → Int32) (lg : Nat → Int64) (ar : Nat → Nat → Int32) (bk : Nat → Int64) (sz : Nat)  (h14 : g 14 = 32) : Met l yX11_finishPacking ww_cx_finish32 { frames := 0, cells := 0, slots := 0, locals := 0 } (va_Pc [.ref (ad 0)] (hk_B D [(cI, .int), (cJ, .long)] sz (xw cI cJ ad g lg ar bk))) (va_Qi (fun (r : Int32) (u : Unit) => r = 32) (fun u : Unit => hk_E D [(cI, .int), (cJ, .long)] (va_A (xw cI cJ ad g lg ar bk) sz) (xw cI cJ ad (upd g 2 (g 24)) lg ar bk)) (va_A (xw cI cJ ad g lg ar bk) sz)) 0 0 (va_A (xw cI cJ ad g lg ar bk) sz) := by
  refine hk_met (cc := cX11_finishPacking) (maxL := 1) (ret := (some .int)) (by decide) rfl (Nat.le_of_ble_eq_true rfl) ?_
  intro p e s m below meth c ls hx hb hr hml hown hts hlocks hin hA hw hl
  have iX11 : ∀ w ∈ wsX110, w ∈ ww_cx_finish32 := fun _ h => List.mem_cons_of_mem _ (List.mem_append_right _ (List.mem_append_left _ h))
  have iX5 : ∀ w ∈ wsX50, w ∈ ww_cx_finish32 := fun _ h => List.mem_cons_of_mem _ (List.mem_append_right _ (List.mem_append_right _ (List.mem_append_left _ h)))
  have iX9 : ∀ w ∈ wsX90, w ∈ ww_cx_finish32 := fun _ h => List.mem_cons_of_mem _ (List.mem_append_right _ (List.mem_append_right _ (List.mem_append_right _ (List.mem_append_left _ h))))
  have hl : lv_has ls 1 [(0, .ref (ad 0))] := hl
  refine lv_aload_n hx hb dX11_finishPacking_0 rfl (lv_at hl 0 rfl) ?_
  refine lv_aload_n hx hb dX11_finishPacking_1 rfl (lv_at hl 0 rfl) ?_
  refine hk_get (ci := 14) (C := RX11) (T := TX11) (N := 11) (v := .ref (ad 9)) hx hb hts iX11 hown hw 0 rfl rfl 4 (by decide) (hts _ (List.mem_of_getElem? (i := 1) rfl)) rfl dX11_finishPacking_2 ?_
  refine hk_get (ci := 8) (C := RX5) (T := TX5) (N := 6) (v := .int (g 24)) hx hb hts iX5 hown hw 9 rfl rfl 5 (by decide) (hts _ (List.mem_of_getElem? (i := 2) rfl)) rfl dX11_finishPacking_5 ?_
  refine hk_put (ci := 14) (C := RX11) (T := TX11) (N := 11) (ty := .int) (v := .int (g 24)) hx hb hts iX11 tyX11 tyX11_ok nmX11 hown hw 0 rfl rfl 10 (by decide) (hts _ (List.mem_of_getElem? (i := 3) rfl)) rfl (by decide +kernel) rfl rfl (Nat.le_of_ble_eq_true rfl) dX11_finishPacking_8 (ws' := xw cI cJ ad (upd g 2 (g 24)) lg ar bk) rfl (fun H locs hw => ?_)
  refine lv_aload_n hx hb dX11_finishPacking_11 rfl (lv_at hl 0 rfl) ?_
  refine hk_get (ci := 14) (C := RX11) (T := TX11) (N := 11) (v := .ref (ad 4)) hx hb hts iX11 hown hw 0 rfl rfl 3 (by decide) (hts _ (List.mem_of_getElem? (i := 4) rfl)) rfl dX11_finishPacking_12 ?_
  refine hk_get (ci := 12) (C := RX9) (T := TX9) (N := 2) (v := .int 32) hx hb hts iX9 hown hw 4 rfl rfl 1 (by decide) (hts _ (List.mem_of_getElem? (i := 5) rfl)) (congrArg (fun z => some (Value.int z)) h14) dX11_finishPacking_15 ?_
  refine lv_sipush (v := 3000) hx hb dX11_finishPacking_18 (by decide) ?_
  refine lv_icmp_le (tgt := 47) hx hb dX11_finishPacking_21 (by decide) (fun _ => ?_) (fun cc_1 => absurd (by decide) cc_1)
  refine lv_aload_n hx hb dX11_finishPacking_47 rfl (lv_at hl 0 rfl) ?_
  refine hk_get (ci := 14) (C := RX11) (T := TX11) (N := 11) (v := .ref (ad 4)) hx hb hts iX11 hown hw 0 rfl rfl 3 (by decide) (hts _ (List.mem_of_getElem? (i := 4) rfl)) rfl dX11_finishPacking_48 ?_
  refine hk_get (ci := 12) (C := RX9) (T := TX9) (N := 2) (v := .int 32) hx hb hts iX9 hown hw 4 rfl rfl 1 (by decide) (hts _ (List.mem_of_getElem? (i := 5) rfl)) (congrArg (fun z => some (Value.int z)) h14) dX11_finishPacking_51 ?_
  exact hk_iret (u := ()) hx hb hr hlocks (hw) (rfl) dX11_finishPacking_54

def ww_ct_pack : List Cond := Cond.code yX11_pack cX11_pack 5 (some .int) :: ([Cond.fieldLink RX11 70 "LzmaChains" "packer" "LLzmaChains$Packer;", Cond.methodLink RX11 110 yX7_begin, Cond.instanceMethod yX7_begin, Cond.selects RX7 yX7_begin yX7_begin, Cond.initialized RX7, Cond.code yX7_begin cX7_begin 2 none, Cond.fieldLink RX7 43 "LzmaChains$Packer" "level" "I", Cond.fieldLink RX7 19 "LzmaChains$Packer" "output" "LLzmaChains$Row;", Cond.fieldLink RX7 47 "LzmaChains$Row" "size" "I", Cond.fieldLink RX7 30 "LzmaChains$Packer" "ledger" "LLzmaChains$Ledger;", Cond.methodLink RX7 52 yX4_clear, Cond.instanceMethod yX4_clear, Cond.selects RX4 yX4_clear yX4_clear, Cond.initialized RX4, Cond.code yX4_clear cX4_clear 1 none, Cond.fieldLink RX4 18 "LzmaChains$Ledger" "steps" "I", Cond.fieldLink RX4 22 "LzmaChains$Ledger" "blocks" "I", Cond.fieldLink RX7 22 "LzmaChains$Packer" "model" "LLzmaChains$Model;", Cond.fieldLink RX7 9 "LzmaChains$Packer" "settings" "LLzmaChains$Settings;", Cond.fieldLink RX7 57 "LzmaChains$Settings" "lc" "I", Cond.fieldLink RX7 62 "LzmaChains$Settings" "lp" "I", Cond.fieldLink RX7 65 "LzmaChains$Settings" "pb" "I", Cond.methodLink RX7 68 yX5_use, Cond.instanceMethod yX5_use, Cond.selects RX5 yX5_use yX5_use, Cond.initialized RX5, Cond.code yX5_use cX5_use 4 none, Cond.fieldLink RX5 19 "LzmaChains$Model" "lc" "I", Cond.fieldLink RX5 23 "LzmaChains$Model" "lp" "I", Cond.fieldLink RX5 26 "LzmaChains$Model" "pb" "I", Cond.methodLink RX7 74 yX5_reset, Cond.instanceMethod yX5_reset, Cond.selects RX5 yX5_reset yX5_reset, Cond.code yX5_reset cX5_reset 2 none, Cond.fieldLink RX5 11 "LzmaChains$Model" "coder" "LLzmaChains$Coder;", Cond.fieldLink RX5 29 "LzmaChains$Coder" "chances" "[I", Cond.methodLink RX5 35 Lib.Math.min.name, Cond.static Lib.Math.min.name, Cond.initialized "java/lang/Math", Cond.code Lib.Math.min.name Lib.Math.min.code 2 (some .int), Cond.methodLink RX5 41 yJ7_fill_fda19, Cond.static yJ7_fill_fda19, Cond.initialized RJ7, Cond.code yJ7_fill_fda19 cJ7_fill_fda19 5 none, Cond.methodLink RJ7 13 yJ7_rangeCheck_23922, Cond.static yJ7_rangeCheck_23922, Cond.code yJ7_rangeCheck_23922 cJ7_rangeCheck_23922 3 none, Cond.fieldLink RX5 15 "LzmaChains$Model" "backs" "[J", Cond.methodLink RX5 47 yJ7_fill_d0a16, Cond.static yJ7_fill_d0a16, Cond.code yJ7_fill_d0a16 cJ7_fill_d0a16 5 none, Cond.fieldLink RX5 50 "LzmaChains$Model" "state" "I", Cond.fieldLink RX11 9 "LzmaChains" "form" "I", Cond.methodLink RX11 123 yX7_writeStart, Cond.instanceMethod yX7_writeStart, Cond.selects RX7 yX7_writeStart yX7_writeStart, Cond.code yX7_writeStart cX7_writeStart 1 none, Cond.methodLink RX7 84 yX9_put, Cond.instanceMethod yX9_put, Cond.selects RX9 yX9_put yX9_put, Cond.initialized RX9, Cond.code yX9_put cX9_put 2 none, Cond.fieldLink RX9 13 "LzmaChains$Row" "size" "I", Cond.methodLink RX9 17 yX9_set, Cond.instanceMethod yX9_set, Cond.selects RX9 yX9_set yX9_set, Cond.code yX9_set cX9_set 3 none, Cond.fieldLink RX9 7 "LzmaChains$Row" "data" "[I", Cond.methodLink RX7 224 yX7_writeFlags, Cond.instanceMethod yX7_writeFlags, Cond.selects RX7 yX7_writeFlags yX7_writeFlags, Cond.code yX7_writeFlags cX7_writeFlags 1 none, Cond.fieldLink RX7 233 "LzmaChains$Settings" "check" "I", Cond.methodLink RX7 227 yX0_crc32, Cond.static yX0_crc32, Cond.initialized RX0, Cond.code yX0_crc32 cX0_crc32 6 (some .int), Cond.methodLink RX0 33 yX9_get, Cond.instanceMethod yX9_get, Cond.selects RX9 yX9_get yX9_get, Cond.code yX9_get cX9_get 2 (some .int), Cond.constant RX0 39 (-306674912), Cond.methodLink RX7 91 yX9_putLow, Cond.instanceMethod yX9_putLow, Cond.selects RX9 yX9_putLow yX9_putLow, Cond.code yX9_putLow cX9_putLow 5 none, Cond.methodLink RX9 21 yX9_put, Cond.fieldLink RX11 16 "LzmaChains" "settings" "LLzmaChains$Settings;", Cond.fieldLink RX11 126 "LzmaChains$Settings" "block" "I", Cond.methodLink RX11 129 Lib.Math.max.name, Cond.static Lib.Math.max.name, Cond.code Lib.Math.max.name Lib.Math.max.code 2 (some .int), Cond.fieldLink RX11 25 "LzmaChains" "input" "LLzmaChains$Row;", Cond.fieldLink RX11 100 "LzmaChains$Row" "size" "I", Cond.methodLink RX11 144 yX7_writeIndex, Cond.instanceMethod yX7_writeIndex, Cond.selects RX7 yX7_writeIndex yX7_writeIndex, Cond.code yX7_writeIndex cX7_writeIndex 1 none, Cond.fieldLink RX7 272 "LzmaChains$Packer" "indexPlace" "I", Cond.methodLink RX7 266 yX0_bytesOf, Cond.static yX0_bytesOf, Cond.code yX0_bytesOf cX0_bytesOf 1 (some .int), Cond.methodLink RX7 275 yX4_putIndex, Cond.instanceMethod yX4_putIndex, Cond.selects RX4 yX4_putIndex yX4_putIndex, Cond.code yX4_putIndex cX4_putIndex 5 none, Cond.fieldLink RX4 29 "LzmaChains$Row" "size" "I", Cond.methodLink RX4 34 yX9_put, Cond.methodLink RX4 38 yX9_putNumber, Cond.instanceMethod yX9_putNumber, Cond.selects RX9 yX9_putNumber yX9_putNumber, Cond.code yX9_putNumber cX9_putNumber 4 none, Cond.methodLink RX4 41 yX9_putZeros, Cond.instanceMethod yX9_putZeros, Cond.selects RX9 yX9_putZeros yX9_putZeros, Cond.code yX9_putZeros cX9_putZeros 3 none, Cond.methodLink RX11 147 yX7_writeFoot, Cond.instanceMethod yX7_writeFoot, Cond.selects RX7 yX7_writeFoot yX7_writeFoot, Cond.code yX7_writeFoot cX7_writeFoot 4 none, Cond.methodLink RX7 218 yX9_set, Cond.fieldLink RX11 83 "LzmaChains" "broken" "I", Cond.methodLink RX11 150 yX11_finishPacking, Cond.instanceMethod yX11_finishPacking, Cond.selects RX11 yX11_finishPacking yX11_finishPacking, Cond.initialized RX11, Cond.code yX11_finishPacking cX11_finishPacking 1 (some .int), Cond.fieldLink RX11 47 "LzmaChains" "model" "LLzmaChains$Model;", Cond.fieldLink RX11 154 "LzmaChains$Model" "state" "I", Cond.fieldLink RX11 86 "LzmaChains" "lastState" "I", Cond.fieldLink RX11 29 "LzmaChains" "output" "LLzmaChains$Row;", Cond.methodLink RX11 116 yX7_writeChunks, Cond.instanceMethod yX7_writeChunks, Cond.selects RX7 yX7_writeChunks yX7_writeChunks, Cond.code yX7_writeChunks cX7_writeChunks 9 none, Cond.fieldLink RX7 175 "LzmaChains$Packer" "chunkPlace" "I", Cond.fieldLink RX7 178 "LzmaChains$Packer" "chunks" "I", Cond.fieldLink RX7 181 "LzmaChains$Settings" "chunk" "I", Cond.methodLink RX7 124 Lib.Math.max.name, Cond.methodLink RX11 120 yX7_noteChunks, Cond.instanceMethod yX7_noteChunks, Cond.selects RX7 yX7_noteChunks yX7_noteChunks, Cond.code yX7_noteChunks cX7_noteChunks 1 none, Cond.fieldLink RX7 15 "LzmaChains$Packer" "input" "LLzmaChains$Row;", Cond.methodLink RX7 221 yX4_addBlock, Cond.instanceMethod yX4_addBlock, Cond.selects RX4 yX4_addBlock yX4_addBlock, Cond.code yX4_addBlock cX4_addBlock 7 none, Cond.fieldLink RX4 15 "LzmaChains$Ledger" "blockParts" "[I", Cond.methodLink RX11 113 yX7_writeAlone, Cond.instanceMethod yX7_writeAlone, Cond.selects RX7 yX7_writeAlone yX7_writeAlone, Cond.code yX7_writeAlone cX7_writeAlone 2 none, Cond.fieldLink RX7 77 "LzmaChains$Settings" "mark" "I", Cond.methodLink RX7 80 yX10_propertyByte, Cond.instanceMethod yX10_propertyByte, Cond.selects RX10 yX10_propertyByte yX10_propertyByte, Cond.initialized RX10, Cond.code yX10_propertyByte cX10_propertyByte 1 (some .int), Cond.fieldLink RX10 18 "LzmaChains$Settings" "pb" "I", Cond.fieldLink RX10 15 "LzmaChains$Settings" "lp" "I", Cond.fieldLink RX10 9 "LzmaChains$Settings" "lc" "I", Cond.fieldLink RX7 88 "LzmaChains$Settings" "dictionary" "I", Cond.methodLink RX7 97 yX7_writeBits, Cond.instanceMethod yX7_writeBits, Cond.selects RX7 yX7_writeBits yX7_writeBits, Cond.code yX7_writeBits cX7_writeBits 6 none, Cond.fieldLink RX7 39 "LzmaChains$Packer" "chooser" "LLzmaChains$Chooser;", Cond.methodLink RX7 101 yX1_prepare, Cond.instanceMethod yX1_prepare, Cond.selects RX1 yX1_prepare yX1_prepare, Cond.initialized RX1, Cond.code yX1_prepare cX1_prepare 6 none, Cond.fieldLink RX1 35 "LzmaChains$Chooser" "base" "I", Cond.fieldLink RX1 39 "LzmaChains$Chooser" "from" "I", Cond.methodLink RX1 42 Lib.Math.min.name, Cond.fieldLink RX1 48 "LzmaChains$Chooser" "to" "I", Cond.methodLink RX1 51 yX1_findLongest, Cond.instanceMethod yX1_findLongest, Cond.selects RX1 yX1_findLongest yX1_findLongest, Cond.code yX1_findLongest cX1_findLongest 9 none, Cond.fieldLink RX1 9 "LzmaChains$Chooser" "row" "LLzmaChains$Row;", Cond.fieldLink RX1 58 "LzmaChains$Row" "data" "[I", Cond.fieldLink RX1 26 "LzmaChains$Chooser" "runs" "[I", Cond.methodLink RX1 63 yJ7_fill_53178, Cond.static yJ7_fill_53178, Cond.code yJ7_fill_53178 cJ7_fill_53178 4 none, Cond.methodLink RX1 55 yX1_weigh, Cond.instanceMethod yX1_weigh, Cond.selects RX1 yX1_weigh yX1_weigh, Cond.code yX1_weigh cX1_weigh 8 none, Cond.fieldLink RX1 29 "LzmaChains$Chooser" "costs" "[I", Cond.fieldLink RX7 105 "LzmaChains$Model" "coder" "LLzmaChains$Coder;", Cond.methodLink RX7 109 yX2_beginPacking, Cond.instanceMethod yX2_beginPacking, Cond.selects RX2 yX2_beginPacking yX2_beginPacking, Cond.initialized RX2, Cond.code yX2_beginPacking cX2_beginPacking 1 none, Cond.fieldLink RX2 23 "LzmaChains$Coder" "opening" "Z", Cond.fieldLink RX2 27 "LzmaChains$Coder" "low" "J", Cond.constantLong RX2 31 4294967295, Cond.fieldLink RX2 33 "LzmaChains$Coder" "range" "J", Cond.fieldLink RX2 36 "LzmaChains$Coder" "held" "I", Cond.fieldLink RX2 40 "LzmaChains$Coder" "waiting" "I", Cond.methodLink RX7 133 yX2_flush, Cond.instanceMethod yX2_flush, Cond.selects RX2 yX2_flush yX2_flush, Cond.code yX2_flush cX2_flush 2 none, Cond.methodLink RX2 74 yX2_shift, Cond.instanceMethod yX2_shift, Cond.selects RX2 yX2_shift yX2_shift, Cond.code yX2_shift cX2_shift 4 none, Cond.constantLong RX2 77 4278190080, Cond.constantLong RX2 79 4294967296, Cond.fieldLink RX2 13 "LzmaChains$Coder" "sink" "LLzmaChains$Row;", Cond.fieldLink RX2 81 "LzmaChains$Row" "size" "I", Cond.fieldLink RX2 86 "LzmaChains$Row" "data" "[I", Cond.constantLong RX2 89 16777215] ++ (wsX110 ++ (wsX70 ++ (wsX90 ++ (wsX40 ++ (wsX100 ++ (wsX50 ++ (wsX20 ++ (wsX10 ++ ([]))))))))))
set_option maxRecDepth 20000 in
theorem gw_ct_pack_0 : GoodIn ww_ct_pack (wsV RX11 110 RX7 yX7_begin ww_cx_pbegin) := goodIn_r _ [2, 3, 4, 5, 6, 7, 8, 9, 10, 11, 12, 13, 14, 15, 16, 17, 18, 19, 20, 21, 22, 23, 24, 25, 26, 27, 28, 29, 30, 31, 32, 33, 34, 35, 36, 37, 38, 39, 40, 41, 42, 43, 44, 45, 46, 47, 48, 49, 50, 51, 52, 230, 231, 232, 233, 234, 235, 236, 237, 238, 239, 240, 241, 242, 243, 244, 245, 246, 247, 248, 249, 250, 251, 252, 253, 254, 255, 256, 257, 258, 259, 260, 261, 262, 263, 264, 265, 266, 267, 268, 269, 270, 271, 272, 273, 274, 275, 276, 277] rfl (by decide +kernel)
set_option maxRecDepth 20000 in
theorem gw_ct_pack_1 : GoodIn ww_ct_pack (wsV RX11 123 RX7 yX7_writeStart ww_cx_start) := goodIn_r _ [54, 55, 56, 5, 57, 8, 58, 59, 60, 61, 62, 63, 64, 65, 66, 67, 68, 69, 70, 71, 5, 72, 19, 73, 74, 75, 76, 77, 78, 79, 80, 81, 82, 83, 84, 85, 86, 87, 230, 231, 232, 233, 234, 235, 236, 237, 238, 239, 240, 241, 242, 243, 244, 245, 246, 247, 248, 253, 254, 255, 256, 257, 258, 259, 260, 261, 262] rfl (by decide +kernel)
set_option maxRecDepth 20000 in
theorem gw_ct_pack_2 : GoodIn ww_ct_pack (wsV RX11 144 RX7 yX7_writeIndex ww_cx_index) := goodIn_r _ [95, 96, 97, 5, 98, 8, 9, 99, 10, 19, 73, 100, 101, 76, 102, 103, 104, 105, 14, 106, 107, 108, 59, 60, 61, 62, 63, 64, 65, 66, 67, 68, 17, 109, 110, 111, 112, 87, 113, 114, 115, 116, 74, 75, 77, 78, 79, 80, 81, 82, 83, 84, 85, 86, 230, 231, 232, 233, 234, 235, 236, 237, 238, 239, 240, 241, 242, 243, 244, 245, 246, 247, 248, 253, 254, 255, 256, 257, 258, 259, 260, 261, 262, 249, 250, 251, 252] rfl (by decide +kernel)
set_option maxRecDepth 20000 in
theorem gw_ct_pack_3 : GoodIn ww_ct_pack (wsV RX11 147 RX7 yX7_writeFoot ww_cx_foot) := goodIn_r _ [117, 118, 119, 5, 120, 8, 9, 83, 84, 85, 61, 86, 87, 59, 60, 62, 63, 64, 65, 66, 67, 68, 99, 69, 70, 71, 5, 72, 58, 19, 73, 74, 75, 76, 77, 78, 79, 80, 81, 82, 121, 230, 231, 232, 233, 234, 235, 236, 237, 238, 239, 240, 241, 242, 243, 244, 245, 246, 247, 248, 253, 254, 255, 256, 257, 258, 259, 260, 261, 262] rfl (by decide +kernel)
set_option maxRecDepth 20000 in
theorem gw_ct_pack_4 : GoodIn ww_ct_pack (wsV RX11 150 RX11 yX11_finishPacking ww_cx_finish32) := goodIn_r _ [123, 124, 125, 126, 127, 128, 129, 130, 131, 94, 219, 220, 221, 222, 223, 224, 225, 226, 227, 228, 229, 263, 264, 265, 266, 267, 268, 247, 248] rfl (by decide +kernel)
set_option maxRecDepth 20000 in
theorem gw_ct_pack_5 : GoodIn ww_ct_pack (wsV RX11 116 RX7 yX7_writeChunks ww_cx_chunks0) := goodIn_r _ [132, 133, 134, 5, 135, 8, 9, 136, 137, 18, 31, 32, 33, 26, 34, 28, 29, 35, 36, 37, 38, 39, 40, 41, 42, 43, 44, 45, 46, 47, 48, 49, 50, 51, 52, 19, 138, 139, 91, 92, 58, 59, 60, 61, 62, 63, 64, 65, 66, 67, 68, 230, 231, 232, 233, 234, 235, 236, 237, 238, 239, 240, 241, 242, 243, 244, 245, 246, 247, 248, 263, 264, 265, 266, 267, 268, 269, 270, 271, 272, 273, 274, 275, 276, 277, 253, 254, 255, 256, 257, 258, 259, 260, 261, 262] rfl (by decide +kernel)
set_option maxRecDepth 20000 in
theorem gw_ct_pack_6 : GoodIn ww_ct_pack (wsV RX11 120 RX7 yX7_noteChunks ww_cx_note) := goodIn_r _ [140, 141, 142, 5, 143, 10, 8, 9, 144, 137, 145, 146, 147, 14, 148, 17, 149, 230, 231, 232, 233, 234, 235, 236, 237, 238, 239, 240, 241, 242, 243, 244, 245, 246, 247, 248, 249, 250, 251, 252] rfl (by decide +kernel)
set_option maxRecDepth 20000 in
theorem gw_ct_pack_7 : GoodIn ww_ct_pack (wsV RX11 150 RX11 yX11_finishPacking ww_cx_finish1) := goodIn_r _ [123, 124, 125, 126, 127, 128, 129, 130, 131, 94, 219, 220, 221, 222, 223, 224, 225, 226, 227, 228, 229, 263, 264, 265, 266, 267, 268, 247, 248] rfl (by decide +kernel)
set_option maxRecDepth 20000 in
theorem gw_ct_pack_8 : GoodIn ww_ct_pack (wsV RX11 113 RX7 yX7_writeAlone ww_cx_alone) := goodIn_r _ [150, 151, 152, 5, 153, 19, 154, 8, 155, 156, 157, 158, 159, 160, 161, 162, 58, 59, 60, 61, 62, 63, 64, 65, 66, 67, 68, 163, 83, 84, 85, 86, 87, 144, 9, 164, 165, 166, 5, 167, 168, 7, 169, 170, 171, 172, 173, 174, 175, 176, 38, 39, 40, 177, 178, 179, 180, 181, 182, 183, 184, 185, 186, 43, 187, 188, 189, 190, 191, 192, 18, 193, 194, 195, 196, 197, 198, 199, 200, 201, 202, 203, 204, 205, 206, 207, 208, 209, 210, 211, 212, 213, 214, 215, 216, 217, 218, 230, 231, 232, 233, 234, 235, 236, 237, 238, 239, 240, 241, 242, 243, 244, 245, 246, 253, 254, 255, 256, 257, 258, 259, 260, 261, 262, 247, 248, 278, 279, 280, 281, 282, 283, 284, 285, 286, 287, 288, 289, 290, 263, 264, 265, 266, 267, 268, 269, 270, 271, 272, 273, 274, 275, 276, 277] rfl (by decide +kernel)
set_option maxRecDepth 20000 in
theorem gw_ct_pack_9 : GoodIn ww_ct_pack (wsV RX11 150 RX11 yX11_finishPacking ww_cx_finish18) := goodIn_r _ [123, 124, 125, 126, 127, 128, 129, 130, 131, 94, 219, 220, 221, 222, 223, 224, 225, 226, 227, 228, 229, 263, 264, 265, 266, 267, 268, 247, 248] rfl (by decide +kernel)
set_option maxHeartbeats 4000000 in
set_option maxRecDepth 100000 in
/-- pack on a new object -/
theorem ct_pack (l : Launch) (D : va_G) (cI cJ : ClassId) (ad : Nat → Nat) (fm : Int32) (ar : Nat → Nat → Int32) (bk : Nat → Int64) (sz : Nat) (lv : Int32) : Met l yX11_pack ww_ct_pack { frames := 5, cells := 0, slots := 0, locals := 131 } (va_Pc [.ref (ad 0), .int lv] (hk_B D [(cI, .int), (cJ, .long)] sz (xw cI cJ ad (xf_g fm) xf_l ar bk))) (va_Qi (fun (r : Int32) (u : (Nat → Int32) × (Nat → Int64) × (Nat → Nat → Int32) × (Nat → Int64)) => (r.toInt = -1 ∧ ¬ (0 ≤ lv.toInt ∧ lv.toInt ≤ 2)) ∨ ((0 ≤ lv.toInt ∧ lv.toInt ≤ 2) ∧ (r.toInt = 18 ∧ fm.toInt = 0 ∨ r.toInt = 1 ∧ fm.toInt = 1 ∨ r.toInt = 32 ∧ fm.toInt ≠ 0 ∧ fm.toInt ≠ 1))) (fun u : (Nat → Int32) × (Nat → Int64) × (Nat → Nat → Int32) × (Nat → Int64) => hk_E D [(cI, .int), (cJ, .long)] (va_A (xw cI cJ ad (xf_g fm) xf_l ar bk) sz) (xw cI cJ ad u.1 u.2.1 u.2.2.1 u.2.2.2)) (va_A (xw cI cJ ad (xf_g fm) xf_l ar bk) sz)) 0 0 (va_A (xw cI cJ ad (xf_g fm) xf_l ar bk) sz) := by
  refine hk_met (cc := cX11_pack) (maxL := 5) (ret := (some .int)) (by decide) rfl (Nat.le_of_ble_eq_true rfl) ?_
  intro p e s m below meth c ls hx hb hr hml hown hts hlocks hin hA hw hl
  have iX11 : ∀ w ∈ wsX110, w ∈ ww_ct_pack := fun _ h => List.mem_cons_of_mem _ (List.mem_append_right _ (List.mem_append_left _ h))
  have iX7 : ∀ w ∈ wsX70, w ∈ ww_ct_pack := fun _ h => List.mem_cons_of_mem _ (List.mem_append_right _ (List.mem_append_right _ (List.mem_append_left _ h)))
  have iX9 : ∀ w ∈ wsX90, w ∈ ww_ct_pack := fun _ h => List.mem_cons_of_mem _ (List.mem_append_right _ (List.mem_append_right _ (List.mem_append_right _ (List.mem_append_left _ h))))
  have iX4 : ∀ w ∈ wsX40, w ∈ ww_ct_pack := fun _ h => List.mem_cons_of_mem _ (List.mem_append_right _ (List.mem_append_right _ (List.mem_append_right _ (List.mem_append_right _ (List.mem_append_left _ h)))))
  have iX10 : ∀ w ∈ wsX100, w ∈ ww_ct_pack := fun _ h => List.mem_cons_of_mem _ (List.mem_append_right _ (List.mem_append_right _ (List.mem_append_right _ (List.mem_append_right _ (List.mem_append_right _ (List.mem_append_left _ h))))))
  have iX5 : ∀ w ∈ wsX50, w ∈ ww_ct_pack := fun _ h => List.mem_cons_of_mem _ (List.mem_append_right _ (List.mem_append_right _ (List.mem_append_right _ (List.mem_append_right _ (List.mem_append_right _ (List.mem_append_right _ (List.mem_append_left _ h)))))))
  have iX2 : ∀ w ∈ wsX20, w ∈ ww_ct_pack := fun _ h => List.mem_cons_of_mem _ (List.mem_append_right _ (List.mem_append_right _ (List.mem_append_right _ (List.mem_append_right _ (List.mem_append_right _ (List.mem_append_right _ (List.mem_append_right _ (List.mem_append_left _ h))))))))
  have iX1 : ∀ w ∈ wsX10, w ∈ ww_ct_pack := fun _ h => List.mem_cons_of_mem _ (List.mem_append_right _ (List.mem_append_right _ (List.mem_append_right _ (List.mem_append_right _ (List.mem_append_right _ (List.mem_append_right _ (List.mem_append_right _ (List.mem_append_right _ (List.mem_append_left _ h)))))))))
  have hl : lv_has ls 5 [(0, .ref (ad 0)), (1, .int lv)] := hl
  refine lv_iload_n hx hb dX11_pack_0 rfl (lv_at hl 1 rfl) ?_
  refine lv_if_lt (tgt := 9) hx hb dX11_pack_1 (by decide) (fun cc_1 => ?_) (fun cc_1 => ?_)
  · refine lv_iconst (v := (-1)) hx hb dX11_pack_9 (by decide) ?_
    exact hk_iret (u := ((xf_g fm), xf_l, ar, bk)) hx hb hr hlocks (hw) (by simp only [Int32.lt_iff_toInt_lt, Int32.le_iff_toInt_le, ← Int32.toInt_inj, hk_t0, hk_t1, hk_t2, hk_t3, hk_t4, hk_t5, hk_t6, hk_t7, hk_t8, hk_t9, hk_t10, hk_t11, hk_t12, hk_t13, hk_t14, hk_t15, hk_t16, hk_t17, hk_t18, hk_t20, hk_t32, hk_tm1, hk_t256, hk_t1500, hk_t4096, hk_t2000, hk_t3000, hk_t512, hk_t1024, true_and, and_true, false_and, and_false, true_or, or_true, false_or, or_false, not_true_eq_false, not_false_eq_true] at cc_1 ⊢; omega) dX11_pack_10
  · refine lv_iload_n hx hb dX11_pack_4 rfl (lv_at hl 1 rfl) ?_
    refine lv_iconst (v := 2) hx hb dX11_pack_5 (by decide) ?_
    refine lv_icmp_le (tgt := 11) hx hb dX11_pack_6 (by decide) (fun cc_2 => ?_) (fun cc_2 => ?_)
    · refine lv_aload_n hx hb dX11_pack_11 rfl (lv_at hl 0 rfl) ?_
      refine hk_get (ci := 14) (C := RX11) (T := TX11) (N := 11) (v := .ref (ad 18)) hx hb hts iX11 hown hw 0 rfl rfl 7 (by decide) (hts _ (List.mem_of_getElem? (i := 1) rfl)) rfl dX11_pack_12 ?_
      refine lv_iload_n hx hb dX11_pack_15 rfl (lv_at hl 1 rfl) ?_
      refine hk_Vv (As := [.int lv]) (rest := []) ⟨hx, hb, hml, hown, hts⟩ hw hA (cx_pbegin l D cI cJ ad (xf_g fm) xf_l ar bk _ lv rfl rfl rfl) (cwV 1 hts gw_ct_pack_0 rfl rfl rfl (by decide +kernel) ⟨Nat.le_of_ble_eq_true rfl, Nat.le_of_ble_eq_true rfl⟩) 18 (ci := 10) (T := TX7) (N := 17) rfl rfl rfl hl.1 rfl (Nat.le_of_ble_eq_true rfl) dX11_pack_16 ⟨Nat.le_of_ble_eq_true rfl, Nat.le_of_ble_eq_true rfl⟩ (fun uu_4 H locs hp_5 hw => ?_)
      have hw : hk_W D [(cI, .int), (cJ, .long)] _ s _ _ (xw cI cJ ad (upd (upd (upd (upd (upd (upd (upd (upd (xf_g fm) 27 lv) 14 0) 25 0) 26 0) 21 3) 22 0) 23 2) 24 0) xf_l (va_up ar 2 uu_4.1) uu_4.2) := hw
      refine lv_aload_n hx hb dX11_pack_19 rfl (lv_at hl 0 rfl) ?_
      refine hk_get (ci := 14) (C := RX11) (T := TX11) (N := 11) (v := .int fm) hx hb hts iX11 hown hw 0 rfl rfl 0 (by decide) (hts _ (List.mem_of_getElem? (i := 53) rfl)) rfl dX11_pack_20 ?_
      refine lv_if_ne (tgt := 36) hx hb dX11_pack_23 (by decide) (fun cc_6 => ?_) (fun cc_6 => ?_)
      · refine lv_aload_n hx hb dX11_pack_36 rfl (lv_at hl 0 rfl) ?_
        refine hk_get (ci := 14) (C := RX11) (T := TX11) (N := 11) (v := .int fm) hx hb hts iX11 hown hw 0 rfl rfl 0 (by decide) (hts _ (List.mem_of_getElem? (i := 53) rfl)) rfl dX11_pack_37 ?_
        refine lv_iconst (v := 1) hx hb dX11_pack_40 (by decide) ?_
        refine lv_icmp_ne (tgt := 69) hx hb dX11_pack_41 (by decide) (fun cc_7 => ?_) (fun cc_7 => ?_)
        · refine lv_aload_n hx hb dX11_pack_69 rfl (lv_at hl 0 rfl) ?_
          refine hk_get (ci := 14) (C := RX11) (T := TX11) (N := 11) (v := .ref (ad 18)) hx hb hts iX11 hown hw 0 rfl rfl 7 (by decide) (hts _ (List.mem_of_getElem? (i := 1) rfl)) rfl dX11_pack_70 ?_
          refine hk_Vv (As := []) (rest := []) ⟨hx, hb, hml, hown, hts⟩ hw hA (cx_start l D cI cJ ad (upd (upd (upd (upd (upd (upd (upd (upd (xf_g fm) 27 lv) 14 0) 25 0) 26 0) 21 3) 22 0) 23 2) 24 0) xf_l (va_up ar 2 uu_4.1) uu_4.2 _ rfl) (cwV 0 hts gw_ct_pack_1 rfl rfl rfl (by decide +kernel) ⟨Nat.le_of_ble_eq_true rfl, Nat.le_of_ble_eq_true rfl⟩) 18 (ci := 10) (T := TX7) (N := 17) rfl rfl rfl hl.1 rfl (Nat.le_of_ble_eq_true rfl) dX11_pack_73 ⟨Nat.le_of_ble_eq_true rfl, Nat.le_of_ble_eq_true rfl⟩ (fun uu_9 H locs hp_10 hw => ?_)
          have hw : hk_W D [(cI, .int), (cJ, .long)] _ s _ _ (xw cI cJ ad (upd (upd (upd (upd (upd (upd (upd (upd (xf_g fm) 27 lv) 14 12) 25 0) 26 0) 21 3) 22 0) 23 2) 24 0) xf_l (va_up (va_up ar 2 uu_4.1) 1 uu_9) uu_4.2) := hw
          refine lv_iconst (v := 1) hx hb dX11_pack_76 (by decide) ?_
          refine lv_aload_n hx hb dX11_pack_77 rfl (lv_at hl 0 rfl) ?_
          refine hk_get (ci := 14) (C := RX11) (T := TX11) (N := 11) (v := .ref (ad 1)) hx hb hts iX11 hown hw 0 rfl rfl 1 (by decide) (hts _ (List.mem_of_getElem? (i := 88) rfl)) rfl dX11_pack_78 ?_
          refine hk_get (ci := 13) (C := RX10) (T := TX10) (N := 10) (v := .int 1024) hx hb hts iX10 hown hw 1 rfl rfl 5 (by decide) (hts _ (List.mem_of_getElem? (i := 89) rfl)) rfl dX11_pack_81 ?_
          refine va_mmax hx hb (by rw [hml]; exact hl.1.symm) hown (hts _ (List.mem_of_getElem? (i := 90) rfl)) (hts _ (List.mem_of_getElem? (i := 91) rfl)) (hts _ (List.mem_of_getElem? (i := 39) rfl)) (hts _ (List.mem_of_getElem? (i := 92) rfl)) (Nat.le_of_ble_eq_true rfl) (Nat.le_of_ble_eq_true rfl) (Nat.le_of_ble_eq_true rfl) (Nat.le_of_ble_eq_true rfl) dX11_pack_84 ?_
          refine hk_topi 1024 (by decide +kernel) ?_
          refine lv_istore_n (lv' := [(2, .int 1024), (0, .ref (ad 0)), (1, .int lv)]) hx hb dX11_pack_87 rfl hl (by decide) rfl (fun ls hl => ?_)
          refine lv_iconst (v := 0) hx hb dX11_pack_88 (by decide) ?_
          refine lv_istore_n (lv' := [(3, .int 0), (2, .int 1024), (0, .ref (ad 0)), (1, .int lv)]) hx hb dX11_pack_89 rfl hl (by decide) rfl (fun ls hl => ?_)
          refine lv_iload_n hx hb dX11_pack_90 rfl (lv_at hl 0 rfl) ?_
          refine lv_aload_n hx hb dX11_pack_91 rfl (lv_at hl 2 rfl) ?_
          refine hk_get (ci := 14) (C := RX11) (T := TX11) (N := 11) (v := .ref (ad 2)) hx hb hts iX11 hown hw 0 rfl rfl 2 (by decide) (hts _ (List.mem_of_getElem? (i := 93) rfl)) rfl dX11_pack_92 ?_
          refine hk_get (ci := 12) (C := RX9) (T := TX9) (N := 2) (v := .int 0) hx hb hts iX9 hown hw 2 rfl rfl 1 (by decide) (hts _ (List.mem_of_getElem? (i := 94) rfl)) rfl dX11_pack_95 ?_
          refine lv_icmp_ge (tgt := 166) hx hb dX11_pack_98 (by decide) (fun _ => ?_) (fun cc_11 => absurd (by decide) cc_11)
          refine lv_aload_n hx hb dX11_pack_166 rfl (lv_at hl 2 rfl) ?_
          refine hk_get (ci := 14) (C := RX11) (T := TX11) (N := 11) (v := .ref (ad 18)) hx hb hts iX11 hown hw 0 rfl rfl 7 (by decide) (hts _ (List.mem_of_getElem? (i := 1) rfl)) rfl dX11_pack_167 ?_
          refine hk_Vv (As := []) (rest := []) ⟨hx, hb, hml, hown, hts⟩ hw hA (cx_index l D cI cJ ad (upd (upd (upd (upd (upd (upd (upd (upd (xf_g fm) 27 lv) 14 12) 25 0) 26 0) 21 3) 22 0) 23 2) 24 0) xf_l (va_up (va_up ar 2 uu_4.1) 1 uu_9) uu_4.2 _ rfl rfl rfl) (cwV 0 hts gw_ct_pack_2 rfl rfl rfl (by decide +kernel) ⟨Nat.le_of_ble_eq_true rfl, Nat.le_of_ble_eq_true rfl⟩) 18 (ci := 10) (T := TX7) (N := 17) rfl rfl rfl hl.1 rfl (Nat.le_of_ble_eq_true rfl) dX11_pack_170 ⟨Nat.le_of_ble_eq_true rfl, Nat.le_of_ble_eq_true rfl⟩ (fun uu_13 H locs hp_14 hw => ?_)
          have hw : hk_W D [(cI, .int), (cJ, .long)] _ s _ _ (xw cI cJ ad (upd (upd (upd (upd (upd (upd (upd (upd (upd (xf_g fm) 27 lv) 14 20) 25 0) 26 0) 21 3) 22 0) 23 2) 24 0) 32 12) xf_l (va_up (va_up ar 2 uu_4.1) 1 uu_13) uu_4.2) := hw
          refine lv_aload_n hx hb dX11_pack_173 rfl (lv_at hl 2 rfl) ?_
          refine hk_get (ci := 14) (C := RX11) (T := TX11) (N := 11) (v := .ref (ad 18)) hx hb hts iX11 hown hw 0 rfl rfl 7 (by decide) (hts _ (List.mem_of_getElem? (i := 1) rfl)) rfl dX11_pack_174 ?_
          refine hk_Vv (As := []) (rest := []) ⟨hx, hb, hml, hown, hts⟩ hw hA (cx_foot l D cI cJ ad (upd (upd (upd (upd (upd (upd (upd (upd (upd (xf_g fm) 27 lv) 14 20) 25 0) 26 0) 21 3) 22 0) 23 2) 24 0) 32 12) xf_l (va_up (va_up ar 2 uu_4.1) 1 uu_13) uu_4.2 _ rfl rfl) (cwV 0 hts gw_ct_pack_3 rfl rfl rfl (by decide +kernel) ⟨Nat.le_of_ble_eq_true rfl, Nat.le_of_ble_eq_true rfl⟩) 18 (ci := 10) (T := TX7) (N := 17) rfl rfl rfl hl.1 rfl (Nat.le_of_ble_eq_true rfl) dX11_pack_177 ⟨Nat.le_of_ble_eq_true rfl, Nat.le_of_ble_eq_true rfl⟩ (fun uu_16 H locs hp_17 hw => ?_)
          have hw : hk_W D [(cI, .int), (cJ, .long)] _ s _ _ (xw cI cJ ad (upd (upd (upd (upd (upd (upd (upd (upd (upd (xf_g fm) 27 lv) 14 32) 25 0) 26 0) 21 3) 22 0) 23 2) 24 0) 32 12) xf_l (va_up (va_up ar 2 uu_4.1) 1 uu_16) uu_4.2) := hw
          refine lv_aload_n hx hb dX11_pack_180 rfl (lv_at hl 2 rfl) ?_
          refine hk_get (ci := 14) (C := RX11) (T := TX11) (N := 11) (v := .ref (ad 2)) hx hb hts iX11 hown hw 0 rfl rfl 2 (by decide) (hts _ (List.mem_of_getElem? (i := 93) rfl)) rfl dX11_pack_181 ?_
          refine lv_iconst (v := 0) hx hb dX11_pack_184 (by decide) ?_
          refine hk_put (ci := 12) (C := RX9) (T := TX9) (N := 2) (ty := .int) (v := .int 0) hx hb hts iX9 tyX9 tyX9_ok nmX9 hown hw 2 rfl rfl 1 (by decide) (hts _ (List.mem_of_getElem? (i := 94) rfl)) rfl (by decide +kernel) rfl rfl (Nat.le_of_ble_eq_true rfl) dX11_pack_185 (ws' := xw cI cJ ad (upd (upd (upd (upd (upd (upd (upd (upd (upd (upd (xf_g fm) 27 lv) 14 32) 25 0) 26 0) 21 3) 22 0) 23 2) 24 0) 32 12) 13 0) xf_l (va_up (va_up ar 2 uu_4.1) 1 uu_16) uu_4.2) rfl (fun H locs hw => ?_)
          refine lv_aload_n hx hb dX11_pack_188 rfl (lv_at hl 2 rfl) ?_
          refine lv_iconst (v := 0) hx hb dX11_pack_189 (by decide) ?_
          refine hk_put (ci := 14) (C := RX11) (T := TX11) (N := 11) (ty := .int) (v := .int 0) hx hb hts iX11 tyX11 tyX11_ok nmX11 hown hw 0 rfl rfl 9 (by decide) (hts _ (List.mem_of_getElem? (i := 122) rfl)) rfl (by decide +kernel) rfl rfl (Nat.le_of_ble_eq_true rfl) dX11_pack_190 (ws' := xw cI cJ ad (upd (upd (upd (upd (upd (upd (upd (upd (upd (upd (upd (xf_g fm) 27 lv) 14 32) 25 0) 26 0) 21 3) 22 0) 23 2) 24 0) 32 12) 13 0) 1 0) xf_l (va_up (va_up ar 2 uu_4.1) 1 uu_16) uu_4.2) rfl (fun H locs hw => ?_)
          refine lv_aload_n hx hb dX11_pack_193 rfl (lv_at hl 2 rfl) ?_
          refine hk_Vi (As := []) (rest := []) ⟨hx, hb, hml, hown, hts⟩ hw hA (cx_finish32 l D cI cJ ad (upd (upd (upd (upd (upd (upd (upd (upd (upd (upd (upd (xf_g fm) 27 lv) 14 32) 25 0) 26 0) 21 3) 22 0) 23 2) 24 0) 32 12) 13 0) 1 0) xf_l (va_up (va_up ar 2 uu_4.1) 1 uu_16) uu_4.2 _ rfl) (cwV 0 hts gw_ct_pack_4 rfl rfl rfl (by decide +kernel) ⟨Nat.le_of_ble_eq_true rfl, Nat.le_of_ble_eq_true rfl⟩) 0 (ci := 14) (T := TX11) (N := 11) rfl rfl rfl hl.1 rfl (Nat.le_of_ble_eq_true rfl) dX11_pack_194 ⟨Nat.le_of_ble_eq_true rfl, Nat.le_of_ble_eq_true rfl⟩ (fun rr_18 uu_19 H locs hp_20 hw => ?_)
          subst hp_20
          have hw : hk_W D [(cI, .int), (cJ, .long)] _ s _ _ (xw cI cJ ad (upd (upd (upd (upd (upd (upd (upd (upd (upd (upd (upd (upd (xf_g fm) 27 lv) 14 32) 25 0) 26 0) 21 3) 22 0) 23 2) 24 0) 32 12) 13 0) 1 0) 2 0) xf_l (va_up (va_up ar 2 uu_4.1) 1 uu_16) uu_4.2) := hw
          exact hk_iret (u := ((upd (upd (upd (upd (upd (upd (upd (upd (upd (upd (upd (upd (xf_g fm) 27 lv) 14 32) 25 0) 26 0) 21 3) 22 0) 23 2) 24 0) 32 12) 13 0) 1 0) 2 0), xf_l, (va_up (va_up ar 2 uu_4.1) 1 uu_16), uu_4.2)) hx hb hr hlocks (hw) (by simp only [Int32.lt_iff_toInt_lt, Int32.le_iff_toInt_le, ← Int32.toInt_inj, hk_t0, hk_t1, hk_t2, hk_t3, hk_t4, hk_t5, hk_t6, hk_t7, hk_t8, hk_t9, hk_t10, hk_t11, hk_t12, hk_t13, hk_t14, hk_t15, hk_t16, hk_t17, hk_t18, hk_t20, hk_t32, hk_tm1, hk_t256, hk_t1500, hk_t4096, hk_t2000, hk_t3000, hk_t512, hk_t1024, true_and, and_true, false_and, and_false, true_or, or_true, false_or, or_false, not_true_eq_false, not_false_eq_true] at cc_1 cc_2 cc_6 cc_7 ⊢; omega) dX11_pack_197
        · refine lv_aload_n hx hb dX11_pack_44 rfl (lv_at hl 0 rfl) ?_
          refine hk_get (ci := 14) (C := RX11) (T := TX11) (N := 11) (v := .ref (ad 18)) hx hb hts iX11 hown hw 0 rfl rfl 7 (by decide) (hts _ (List.mem_of_getElem? (i := 1) rfl)) rfl dX11_pack_45 ?_
          refine lv_iconst (v := 0) hx hb dX11_pack_48 (by decide) ?_
          refine lv_aload_n hx hb dX11_pack_49 rfl (lv_at hl 0 rfl) ?_
          refine hk_get (ci := 14) (C := RX11) (T := TX11) (N := 11) (v := .ref (ad 2)) hx hb hts iX11 hown hw 0 rfl rfl 2 (by decide) (hts _ (List.mem_of_getElem? (i := 93) rfl)) rfl dX11_pack_50 ?_
          refine hk_get (ci := 12) (C := RX9) (T := TX9) (N := 2) (v := .int 0) hx hb hts iX9 hown hw 2 rfl rfl 1 (by decide) (hts _ (List.mem_of_getElem? (i := 94) rfl)) rfl dX11_pack_53 ?_
          refine hk_Vv (As := [.int 0, .int 0]) (rest := []) ⟨hx, hb, hml, hown, hts⟩ hw hA (cx_chunks0 l D cI cJ ad (upd (upd (upd (upd (upd (upd (upd (upd (xf_g fm) 27 lv) 14 0) 25 0) 26 0) 21 3) 22 0) 23 2) 24 0) xf_l (va_up ar 2 uu_4.1) uu_4.2 _ rfl rfl rfl rfl) (cwV 2 hts gw_ct_pack_5 rfl rfl rfl (by decide +kernel) ⟨Nat.le_of_ble_eq_true rfl, Nat.le_of_ble_eq_true rfl⟩) 18 (ci := 10) (T := TX7) (N := 17) rfl rfl rfl hl.1 rfl (Nat.le_of_ble_eq_true rfl) dX11_pack_56 ⟨Nat.le_of_ble_eq_true rfl, Nat.le_of_ble_eq_true rfl⟩ (fun uu_22 H locs hp_23 hw => ?_)
          have hw : hk_W D [(cI, .int), (cJ, .long)] _ s _ _ (xw cI cJ ad (upd (upd (upd (upd (upd (upd (upd (upd (upd (upd (xf_g fm) 27 lv) 14 1) 25 0) 26 0) 21 3) 22 0) 23 2) 24 0) 30 0) 31 0) xf_l (va_up (va_up ar 2 uu_22.2.1) 1 uu_22.1) uu_22.2.2) := hw
          refine lv_aload_n hx hb dX11_pack_59 rfl (lv_at hl 0 rfl) ?_
          refine hk_get (ci := 14) (C := RX11) (T := TX11) (N := 11) (v := .ref (ad 18)) hx hb hts iX11 hown hw 0 rfl rfl 7 (by decide) (hts _ (List.mem_of_getElem? (i := 1) rfl)) rfl dX11_pack_60 ?_
          refine hk_Vv (As := []) (rest := []) ⟨hx, hb, hml, hown, hts⟩ hw hA (cx_note l D cI cJ ad (upd (upd (upd (upd (upd (upd (upd (upd (upd (upd (xf_g fm) 27 lv) 14 1) 25 0) 26 0) 21 3) 22 0) 23 2) 24 0) 30 0) 31 0) xf_l (va_up (va_up ar 2 uu_22.2.1) 1 uu_22.1) uu_22.2.2 _ rfl) (cwV 0 hts gw_ct_pack_6 rfl rfl rfl (by decide +kernel) ⟨Nat.le_of_ble_eq_true rfl, Nat.le_of_ble_eq_true rfl⟩) 18 (ci := 10) (T := TX7) (N := 17) rfl rfl rfl hl.1 rfl (Nat.le_of_ble_eq_true rfl) dX11_pack_63 ⟨Nat.le_of_ble_eq_true rfl, Nat.le_of_ble_eq_true rfl⟩ (fun uu_25 H locs hp_26 hw => ?_)
          have hw : hk_W D [(cI, .int), (cJ, .long)] _ s _ _ (xw cI cJ ad (upd (upd (upd (upd (upd (upd (upd (upd (upd (upd (xf_g fm) 27 lv) 14 1) 25 0) 26 1) 21 3) 22 0) 23 2) 24 0) 30 0) 31 0) xf_l (va_up (va_up (va_up ar 2 uu_22.2.1) 1 uu_22.1) 7 uu_25) uu_22.2.2) := hw
          refine lv_goto (tgt := 180) hx hb dX11_pack_66 (by decide) ?_
          refine lv_aload_n hx hb dX11_pack_180 rfl (lv_at hl 0 rfl) ?_
          refine hk_get (ci := 14) (C := RX11) (T := TX11) (N := 11) (v := .ref (ad 2)) hx hb hts iX11 hown hw 0 rfl rfl 2 (by decide) (hts _ (List.mem_of_getElem? (i := 93) rfl)) rfl dX11_pack_181 ?_
          refine lv_iconst (v := 0) hx hb dX11_pack_184 (by decide) ?_
          refine hk_put (ci := 12) (C := RX9) (T := TX9) (N := 2) (ty := .int) (v := .int 0) hx hb hts iX9 tyX9 tyX9_ok nmX9 hown hw 2 rfl rfl 1 (by decide) (hts _ (List.mem_of_getElem? (i := 94) rfl)) rfl (by decide +kernel) rfl rfl (Nat.le_of_ble_eq_true rfl) dX11_pack_185 (ws' := xw cI cJ ad (upd (upd (upd (upd (upd (upd (upd (upd (upd (upd (upd (xf_g fm) 27 lv) 14 1) 25 0) 26 1) 21 3) 22 0) 23 2) 24 0) 30 0) 31 0) 13 0) xf_l (va_up (va_up (va_up ar 2 uu_22.2.1) 1 uu_22.1) 7 uu_25) uu_22.2.2) rfl (fun H locs hw => ?_)
          refine lv_aload_n hx hb dX11_pack_188 rfl (lv_at hl 0 rfl) ?_
          refine lv_iconst (v := 0) hx hb dX11_pack_189 (by decide) ?_
          refine hk_put (ci := 14) (C := RX11) (T := TX11) (N := 11) (ty := .int) (v := .int 0) hx hb hts iX11 tyX11 tyX11_ok nmX11 hown hw 0 rfl rfl 9 (by decide) (hts _ (List.mem_of_getElem? (i := 122) rfl)) rfl (by decide +kernel) rfl rfl (Nat.le_of_ble_eq_true rfl) dX11_pack_190 (ws' := xw cI cJ ad (upd (upd (upd (upd (upd (upd (upd (upd (upd (upd (upd (upd (xf_g fm) 27 lv) 14 1) 25 0) 26 1) 21 3) 22 0) 23 2) 24 0) 30 0) 31 0) 13 0) 1 0) xf_l (va_up (va_up (va_up ar 2 uu_22.2.1) 1 uu_22.1) 7 uu_25) uu_22.2.2) rfl (fun H locs hw => ?_)
          refine lv_aload_n hx hb dX11_pack_193 rfl (lv_at hl 0 rfl) ?_
          refine hk_Vi (As := []) (rest := []) ⟨hx, hb, hml, hown, hts⟩ hw hA (cx_finish1 l D cI cJ ad (upd (upd (upd (upd (upd (upd (upd (upd (upd (upd (upd (upd (xf_g fm) 27 lv) 14 1) 25 0) 26 1) 21 3) 22 0) 23 2) 24 0) 30 0) 31 0) 13 0) 1 0) xf_l (va_up (va_up (va_up ar 2 uu_22.2.1) 1 uu_22.1) 7 uu_25) uu_22.2.2 _ rfl) (cwV 0 hts gw_ct_pack_7 rfl rfl rfl (by decide +kernel) ⟨Nat.le_of_ble_eq_true rfl, Nat.le_of_ble_eq_true rfl⟩) 0 (ci := 14) (T := TX11) (N := 11) rfl rfl rfl hl.1 rfl (Nat.le_of_ble_eq_true rfl) dX11_pack_194 ⟨Nat.le_of_ble_eq_true rfl, Nat.le_of_ble_eq_true rfl⟩ (fun rr_27 uu_28 H locs hp_29 hw => ?_)
          subst hp_29
          have hw : hk_W D [(cI, .int), (cJ, .long)] _ s _ _ (xw cI cJ ad (upd (upd (upd (upd (upd (upd (upd (upd (upd (upd (upd (upd (upd (xf_g fm) 27 lv) 14 1) 25 0) 26 1) 21 3) 22 0) 23 2) 24 0) 30 0) 31 0) 13 0) 1 0) 2 0) xf_l (va_up (va_up (va_up ar 2 uu_22.2.1) 1 uu_22.1) 7 uu_25) uu_22.2.2) := hw
          exact hk_iret (u := ((upd (upd (upd (upd (upd (upd (upd (upd (upd (upd (upd (upd (upd (xf_g fm) 27 lv) 14 1) 25 0) 26 1) 21 3) 22 0) 23 2) 24 0) 30 0) 31 0) 13 0) 1 0) 2 0), xf_l, (va_up (va_up (va_up ar 2 uu_22.2.1) 1 uu_22.1) 7 uu_25), uu_22.2.2)) hx hb hr hlocks (hw) (by simp only [Int32.lt_iff_toInt_lt, Int32.le_iff_toInt_le, ← Int32.toInt_inj, hk_t0, hk_t1, hk_t2, hk_t3, hk_t4, hk_t5, hk_t6, hk_t7, hk_t8, hk_t9, hk_t10, hk_t11, hk_t12, hk_t13, hk_t14, hk_t15, hk_t16, hk_t17, hk_t18, hk_t20, hk_t32, hk_tm1, hk_t256, hk_t1500, hk_t4096, hk_t2000, hk_t3000, hk_t512, hk_t1024, true_and, and_true, false_and, and_false, true_or, or_true, false_or, or_false, not_true_eq_false, not_false_eq_true] at cc_1 cc_2 cc_6 cc_7 ⊢; omega) dX11_pack_197
      · refine lv_aload_n hx hb dX11_pack_26 rfl (lv_at hl 0 rfl) ?_
        refine hk_get (ci := 14) (C := RX11) (T := TX11) (N := 11) (v := .ref (ad 18)) hx hb hts iX11 hown hw 0 rfl rfl 7 (by decide) (hts _ (List.mem_of_getElem? (i := 1) rfl)) rfl dX11_pack_27 ?_
        refine hk_Vv (As := []) (rest := []) ⟨hx, hb, hml, hown, hts⟩ hw hA (cx_alone l D cI cJ ad (upd (upd (upd (upd (upd (upd (upd (upd (xf_g fm) 27 lv) 14 0) 25 0) 26 0) 21 3) 22 0) 23 2) 24 0) xf_l (va_up ar 2 uu_4.1) uu_4.2 _ rfl rfl rfl) (cwV 0 hts gw_ct_pack_8 rfl rfl rfl (by decide +kernel) ⟨Nat.le_of_ble_eq_true rfl, Nat.le_of_ble_eq_true rfl⟩) 18 (ci := 10) (T := TX7) (N := 17) rfl rfl rfl hl.1 rfl (Nat.le_of_ble_eq_true rfl) dX11_pack_30 ⟨Nat.le_of_ble_eq_true rfl, Nat.le_of_ble_eq_true rfl⟩ (fun uu_31 H locs hp_32 hw => ?_)
        have hw : hk_W D [(cI, .int), (cJ, .long)] _ s _ _ (xw cI cJ ad (upd (upd (upd (upd (upd (upd (upd (upd (upd (upd (upd (upd (upd (upd (xf_g fm) 27 lv) 14 18) 25 0) 26 0) 21 3) 22 0) 23 2) 24 0) 37 0) 38 0) 39 0) 18 0) 19 0) 20 1) (vp_updL (vp_updL xf_l 0 0) 1 4294967295) (va_up (va_up (va_up (va_up ar 2 uu_4.1) 1 uu_31.1) 10 uu_31.2.1) 11 uu_31.2.2) uu_4.2) := hw
        refine lv_goto (tgt := 180) hx hb dX11_pack_33 (by decide) ?_
        refine lv_aload_n hx hb dX11_pack_180 rfl (lv_at hl 0 rfl) ?_
        refine hk_get (ci := 14) (C := RX11) (T := TX11) (N := 11) (v := .ref (ad 2)) hx hb hts iX11 hown hw 0 rfl rfl 2 (by decide) (hts _ (List.mem_of_getElem? (i := 93) rfl)) rfl dX11_pack_181 ?_
        refine lv_iconst (v := 0) hx hb dX11_pack_184 (by decide) ?_
        refine hk_put (ci := 12) (C := RX9) (T := TX9) (N := 2) (ty := .int) (v := .int 0) hx hb hts iX9 tyX9 tyX9_ok nmX9 hown hw 2 rfl rfl 1 (by decide) (hts _ (List.mem_of_getElem? (i := 94) rfl)) rfl (by decide +kernel) rfl rfl (Nat.le_of_ble_eq_true rfl) dX11_pack_185 (ws' := xw cI cJ ad (upd (upd (upd (upd (upd (upd (upd (upd (upd (upd (upd (upd (upd (upd (upd (xf_g fm) 27 lv) 14 18) 25 0) 26 0) 21 3) 22 0) 23 2) 24 0) 37 0) 38 0) 39 0) 18 0) 19 0) 20 1) 13 0) (vp_updL (vp_updL xf_l 0 0) 1 4294967295) (va_up (va_up (va_up (va_up ar 2 uu_4.1) 1 uu_31.1) 10 uu_31.2.1) 11 uu_31.2.2) uu_4.2) rfl (fun H locs hw => ?_)
        refine lv_aload_n hx hb dX11_pack_188 rfl (lv_at hl 0 rfl) ?_
        refine lv_iconst (v := 0) hx hb dX11_pack_189 (by decide) ?_
        refine hk_put (ci := 14) (C := RX11) (T := TX11) (N := 11) (ty := .int) (v := .int 0) hx hb hts iX11 tyX11 tyX11_ok nmX11 hown hw 0 rfl rfl 9 (by decide) (hts _ (List.mem_of_getElem? (i := 122) rfl)) rfl (by decide +kernel) rfl rfl (Nat.le_of_ble_eq_true rfl) dX11_pack_190 (ws' := xw cI cJ ad (upd (upd (upd (upd (upd (upd (upd (upd (upd (upd (upd (upd (upd (upd (upd (upd (xf_g fm) 27 lv) 14 18) 25 0) 26 0) 21 3) 22 0) 23 2) 24 0) 37 0) 38 0) 39 0) 18 0) 19 0) 20 1) 13 0) 1 0) (vp_updL (vp_updL xf_l 0 0) 1 4294967295) (va_up (va_up (va_up (va_up ar 2 uu_4.1) 1 uu_31.1) 10 uu_31.2.1) 11 uu_31.2.2) uu_4.2) rfl (fun H locs hw => ?_)
        refine lv_aload_n hx hb dX11_pack_193 rfl (lv_at hl 0 rfl) ?_
        refine hk_Vi (As := []) (rest := []) ⟨hx, hb, hml, hown, hts⟩ hw hA (cx_finish18 l D cI cJ ad (upd (upd (upd (upd (upd (upd (upd (upd (upd (upd (upd (upd (upd (upd (upd (upd (xf_g fm) 27 lv) 14 18) 25 0) 26 0) 21 3) 22 0) 23 2) 24 0) 37 0) 38 0) 39 0) 18 0) 19 0) 20 1) 13 0) 1 0) (vp_updL (vp_updL xf_l 0 0) 1 4294967295) (va_up (va_up (va_up (va_up ar 2 uu_4.1) 1 uu_31.1) 10 uu_31.2.1) 11 uu_31.2.2) uu_4.2 _ rfl) (cwV 0 hts gw_ct_pack_9 rfl rfl rfl (by decide +kernel) ⟨Nat.le_of_ble_eq_true rfl, Nat.le_of_ble_eq_true rfl⟩) 0 (ci := 14) (T := TX11) (N := 11) rfl rfl rfl hl.1 rfl (Nat.le_of_ble_eq_true rfl) dX11_pack_194 ⟨Nat.le_of_ble_eq_true rfl, Nat.le_of_ble_eq_true rfl⟩ (fun rr_33 uu_34 H locs hp_35 hw => ?_)
        subst hp_35
        have hw : hk_W D [(cI, .int), (cJ, .long)] _ s _ _ (xw cI cJ ad (upd (upd (upd (upd (upd (upd (upd (upd (upd (upd (upd (upd (upd (upd (upd (upd (upd (xf_g fm) 27 lv) 14 18) 25 0) 26 0) 21 3) 22 0) 23 2) 24 0) 37 0) 38 0) 39 0) 18 0) 19 0) 20 1) 13 0) 1 0) 2 0) (vp_updL (vp_updL xf_l 0 0) 1 4294967295) (va_up (va_up (va_up (va_up ar 2 uu_4.1) 1 uu_31.1) 10 uu_31.2.1) 11 uu_31.2.2) uu_4.2) := hw
        exact hk_iret (u := ((upd (upd (upd (upd (upd (upd (upd (upd (upd (upd (upd (upd (upd (upd (upd (upd (upd (xf_g fm) 27 lv) 14 18) 25 0) 26 0) 21 3) 22 0) 23 2) 24 0) 37 0) 38 0) 39 0) 18 0) 19 0) 20 1) 13 0) 1 0) 2 0), (vp_updL (vp_updL xf_l 0 0) 1 4294967295), (va_up (va_up (va_up (va_up ar 2 uu_4.1) 1 uu_31.1) 10 uu_31.2.1) 11 uu_31.2.2), uu_4.2)) hx hb hr hlocks (hw) (by simp only [Int32.lt_iff_toInt_lt, Int32.le_iff_toInt_le, ← Int32.toInt_inj, hk_t0, hk_t1, hk_t2, hk_t3, hk_t4, hk_t5, hk_t6, hk_t7, hk_t8, hk_t9, hk_t10, hk_t11, hk_t12, hk_t13, hk_t14, hk_t15, hk_t16, hk_t17, hk_t18, hk_t20, hk_t32, hk_tm1, hk_t256, hk_t1500, hk_t4096, hk_t2000, hk_t3000, hk_t512, hk_t1024, true_and, and_true, false_and, and_false, true_or, or_true, false_or, or_false, not_true_eq_false, not_false_eq_true] at cc_1 cc_2 cc_6 ⊢; omega) dX11_pack_197
    · refine lv_iconst (v := (-1)) hx hb dX11_pack_9 (by decide) ?_
      exact hk_iret (u := ((xf_g fm), xf_l, ar, bk)) hx hb hr hlocks (hw) (by simp only [Int32.lt_iff_toInt_lt, Int32.le_iff_toInt_le, ← Int32.toInt_inj, hk_t0, hk_t1, hk_t2, hk_t3, hk_t4, hk_t5, hk_t6, hk_t7, hk_t8, hk_t9, hk_t10, hk_t11, hk_t12, hk_t13, hk_t14, hk_t15, hk_t16, hk_t17, hk_t18, hk_t20, hk_t32, hk_tm1, hk_t256, hk_t1500, hk_t4096, hk_t2000, hk_t3000, hk_t512, hk_t1024, true_and, and_true, false_and, and_false, true_or, or_true, false_or, or_false, not_true_eq_false, not_false_eq_true] at cc_1 cc_2 ⊢; omega) dX11_pack_10
