def ww_cn_fail : List Cond := Cond.code yX12_fail cX12_fail 2 none :: ([Cond.fieldLink RX12 470 "LzmaChainsModel" "broken" "I"] ++ (wsX120 ++ ([])))
set_option maxHeartbeats 4000000 in
set_option maxRecDepth 100000 in
/-- the reference: fail, the first -/
theorem cn_fail (l : Launch) (D : va_G) (cI cJ : ClassId) (ad : Nat → Nat) (g : Nat → Int32) (lg : Nat → Int64) (ar : Nat → Nat → Int32) (bk : Nat → Int64) (sz : Nat) (n : Int32) (h51 : g 51 = 0) : Met l yX12_fail ww_cn_fail { frames := 0, cells := 0, slots := 0, locals := 0 } (va_Pc [.ref (ad 0), .int n] (hk_B D [(cI, .int), (cJ, .long)] sz (mw cI cJ ad g lg ar bk))) (va_Qv (fun u : Unit => True) (fun u : Unit => hk_E D [(cI, .int), (cJ, .long)] (va_A (mw cI cJ ad g lg ar bk) sz) (mw cI cJ ad (upd g 51 n) lg ar bk)) (va_A (mw cI cJ ad g lg ar bk) sz)) 0 0 (va_A (mw cI cJ ad g lg ar bk) sz) := by
  refine hk_met (cc := cX12_fail) (maxL := 2) (ret := none) (by decide) rfl (Nat.le_of_ble_eq_true rfl) ?_
  intro p e s m below meth c ls hx hb hr hml hown hts hlocks hin hA hw hl
  have iX12 : ∀ w ∈ wsX120, w ∈ ww_cn_fail := fun _ h => List.mem_cons_of_mem _ (List.mem_append_right _ (List.mem_append_left _ h))
  have hl : lv_has ls 2 [(0, .ref (ad 0)), (1, .int n)] := hl
  refine lv_aload_n hx hb dX12_fail_0 rfl (lv_at hl 0 rfl) ?_
  refine hk_get (ci := 15) (C := RX12) (T := TX12) (N := 92) (v := .int 0) hx hb hts iX12 hown hw 0 rfl rfl 78 (by decide) (hts _ (List.mem_of_getElem? (i := 1) rfl)) (congrArg (fun z => some (Value.int z)) h51) dX12_fail_1 ?_
  refine lv_if_ne (tgt := 12) hx hb dX12_fail_4 (by decide) (fun cc_1 => absurd (by decide) cc_1) (fun _ => ?_)
  refine lv_aload_n hx hb dX12_fail_7 rfl (lv_at hl 0 rfl) ?_
  refine lv_iload_n hx hb dX12_fail_8 rfl (lv_at hl 1 rfl) ?_
  refine hk_put (ci := 15) (C := RX12) (T := TX12) (N := 92) (ty := .int) (v := .int n) hx hb hts iX12 tyX12 tyX12_ok nmX12 hown hw 0 rfl rfl 78 (by decide) (hts _ (List.mem_of_getElem? (i := 1) rfl)) rfl (by decide +kernel) rfl rfl (Nat.le_of_ble_eq_true rfl) dX12_fail_9 (ws' := mw cI cJ ad (upd g 51 n) lg ar bk) rfl (fun H locs hw => ?_)
  exact hk_vret (u := ()) hx hb hr hlocks (hw) (trivial) dX12_fail_12

def ww_cn_next0 : List Cond := Cond.code yX12_next cX12_next 1 (some .int) :: ([Cond.fieldLink RX12 470 "LzmaChainsModel" "broken" "I", Cond.fieldLink RX12 473 "LzmaChainsModel" "at" "I", Cond.fieldLink RX12 476 "LzmaChainsModel" "limit" "I", Cond.methodLink RX12 479 yX12_fail, Cond.instanceMethod yX12_fail, Cond.selects RX12 yX12_fail yX12_fail, Cond.initialized RX12, Cond.code yX12_fail cX12_fail 2 none] ++ (wsX120 ++ ([])))
set_option maxRecDepth 20000 in
theorem gw_cn_next0_0 : GoodIn ww_cn_next0 (wsV RX12 479 RX12 yX12_fail ww_cn_fail) := goodIn_r _ [4, 5, 6, 7, 8, 1, 9, 10, 11, 12, 13, 14, 15, 16, 17, 18, 19, 20, 21, 22, 23, 24, 25, 26, 27, 28, 29, 30, 31, 32, 33, 34, 35, 36, 37, 38, 39, 40, 41, 42, 43, 44, 45, 46, 47, 48, 49, 50, 51, 52, 53, 54, 55, 56, 57, 58, 59, 60, 61, 62, 63, 64, 65, 66, 67, 68, 69, 70, 71, 72, 73, 74, 75, 76, 77, 78, 79, 80, 81, 82, 83, 84, 85, 86, 87, 88, 89, 90, 91, 92, 93, 94, 95, 96, 97, 98, 99, 100] rfl (by decide +kernel)
set_option maxHeartbeats 4000000 in
set_option maxRecDepth 100000 in
/-- the reference: next, nothing is there -/
theorem cn_next0 (l : Launch) (D : va_G) (cI cJ : ClassId) (ad : Nat → Nat) (g : Nat → Int32) (lg : Nat → Int64) (ar : Nat → Nat → Int32) (bk : Nat → Int64) (sz : Nat)  (h51 : g 51 = 0) (h49 : g 49 = 0) (h50 : g 50 = 0) : Met l yX12_next ww_cn_next0 { frames := 1, cells := 0, slots := 0, locals := 21 } (va_Pc [.ref (ad 0)] (hk_B D [(cI, .int), (cJ, .long)] sz (mw cI cJ ad g lg ar bk))) (va_Qi (fun (r : Int32) (u : Unit) => r = 0) (fun u : Unit => hk_E D [(cI, .int), (cJ, .long)] (va_A (mw cI cJ ad g lg ar bk) sz) (mw cI cJ ad (upd g 51 1) lg ar bk)) (va_A (mw cI cJ ad g lg ar bk) sz)) 0 0 (va_A (mw cI cJ ad g lg ar bk) sz) := by
  refine hk_met (cc := cX12_next) (maxL := 1) (ret := (some .int)) (by decide) rfl (Nat.le_of_ble_eq_true rfl) ?_
  intro p e s m below meth c ls hx hb hr hml hown hts hlocks hin hA hw hl
  have iX12 : ∀ w ∈ wsX120, w ∈ ww_cn_next0 := fun _ h => List.mem_cons_of_mem _ (List.mem_append_right _ (List.mem_append_left _ h))
  have hl : lv_has ls 1 [(0, .ref (ad 0))] := hl
  refine lv_aload_n hx hb dX12_next_0 rfl (lv_at hl 0 rfl) ?_
  refine hk_get (ci := 15) (C := RX12) (T := TX12) (N := 92) (v := .int 0) hx hb hts iX12 hown hw 0 rfl rfl 78 (by decide) (hts _ (List.mem_of_getElem? (i := 1) rfl)) (congrArg (fun z => some (Value.int z)) h51) dX12_next_1 ?_
  refine lv_if_le (tgt := 9) hx hb dX12_next_4 (by decide) (fun _ => ?_) (fun cc_1 => absurd (by decide) cc_1)
  refine lv_aload_n hx hb dX12_next_9 rfl (lv_at hl 0 rfl) ?_
  refine hk_get (ci := 15) (C := RX12) (T := TX12) (N := 92) (v := .int 0) hx hb hts iX12 hown hw 0 rfl rfl 76 (by decide) (hts _ (List.mem_of_getElem? (i := 2) rfl)) (congrArg (fun z => some (Value.int z)) h49) dX12_next_10 ?_
  refine lv_aload_n hx hb dX12_next_13 rfl (lv_at hl 0 rfl) ?_
  refine hk_get (ci := 15) (C := RX12) (T := TX12) (N := 92) (v := .int 0) hx hb hts iX12 hown hw 0 rfl rfl 77 (by decide) (hts _ (List.mem_of_getElem? (i := 3) rfl)) (congrArg (fun z => some (Value.int z)) h50) dX12_next_14 ?_
  refine lv_icmp_ge (tgt := 31) hx hb dX12_next_17 (by decide) (fun _ => ?_) (fun cc_2 => absurd (by decide) cc_2)
  refine lv_aload_n hx hb dX12_next_31 rfl (lv_at hl 0 rfl) ?_
  refine lv_iconst (v := 1) hx hb dX12_next_32 (by decide) ?_
  refine hk_Vv (As := [.int 1]) (rest := []) ⟨hx, hb, hml, hown, hts⟩ hw hA (cn_fail l D cI cJ ad g lg ar bk _ 1 h51) (cwV 1 hts gw_cn_next0_0 rfl rfl rfl (by decide +kernel) ⟨Nat.le_of_ble_eq_true rfl, Nat.le_of_ble_eq_true rfl⟩) 0 (ci := 15) (T := TX12) (N := 92) rfl rfl rfl hl.1 rfl (Nat.le_of_ble_eq_true rfl) dX12_next_33 ⟨Nat.le_of_ble_eq_true rfl, Nat.le_of_ble_eq_true rfl⟩ (fun uu_4 H locs hp_5 hw => ?_)
  have hw : hk_W D [(cI, .int), (cJ, .long)] _ s _ _ (mw cI cJ ad (upd g 51 1) lg ar bk) := hw
  refine lv_iconst (v := 0) hx hb dX12_next_36 (by decide) ?_
  exact hk_iret (u := ()) hx hb hr hlocks (hw) (rfl) dX12_next_37

def ww_cn_next1 : List Cond := Cond.code yX12_next cX12_next 1 (some .int) :: ([Cond.fieldLink RX12 470 "LzmaChainsModel" "broken" "I"] ++ (wsX120 ++ ([])))
set_option maxHeartbeats 4000000 in
set_option maxRecDepth 100000 in
/-- the reference: next, broken -/
theorem cn_next1 (l : Launch) (D : va_G) (cI cJ : ClassId) (ad : Nat → Nat) (g : Nat → Int32) (lg : Nat → Int64) (ar : Nat → Nat → Int32) (bk : Nat → Int64) (sz : Nat)  (h51 : g 51 = 1) : Met l yX12_next ww_cn_next1 { frames := 0, cells := 0, slots := 0, locals := 0 } (va_Pc [.ref (ad 0)] (hk_B D [(cI, .int), (cJ, .long)] sz (mw cI cJ ad g lg ar bk))) (va_Qi (fun (r : Int32) (u : Unit) => r = 0) (fun u : Unit => hk_E D [(cI, .int), (cJ, .long)] (va_A (mw cI cJ ad g lg ar bk) sz) (mw cI cJ ad g lg ar bk)) (va_A (mw cI cJ ad g lg ar bk) sz)) 0 0 (va_A (mw cI cJ ad g lg ar bk) sz) := by
  refine hk_met (cc := cX12_next) (maxL := 1) (ret := (some .int)) (by decide) rfl (Nat.le_of_ble_eq_true rfl) ?_
  intro p e s m below meth c ls hx hb hr hml hown hts hlocks hin hA hw hl
  have iX12 : ∀ w ∈ wsX120, w ∈ ww_cn_next1 := fun _ h => List.mem_cons_of_mem _ (List.mem_append_right _ (List.mem_append_left _ h))
  have hl : lv_has ls 1 [(0, .ref (ad 0))] := hl
  refine lv_aload_n hx hb dX12_next_0 rfl (lv_at hl 0 rfl) ?_
  refine hk_get (ci := 15) (C := RX12) (T := TX12) (N := 92) (v := .int 1) hx hb hts iX12 hown hw 0 rfl rfl 78 (by decide) (hts _ (List.mem_of_getElem? (i := 1) rfl)) (congrArg (fun z => some (Value.int z)) h51) dX12_next_1 ?_
  refine lv_if_le (tgt := 9) hx hb dX12_next_4 (by decide) (fun cc_1 => absurd cc_1 (by decide)) (fun _ => ?_)
  refine lv_iconst (v := 0) hx hb dX12_next_7 (by decide) ?_
  exact hk_iret (u := ()) hx hb hr hlocks (hw) (rfl) dX12_next_8

def ww_cn_readProp : List Cond := Cond.code yX12_readProperty cX12_readProperty 2 (some .boolean) :: ([Cond.methodLink RX12 482 yX12_next, Cond.instanceMethod yX12_next, Cond.selects RX12 yX12_next yX12_next, Cond.initialized RX12, Cond.code yX12_next cX12_next 1 (some .int), Cond.fieldLink RX12 470 "LzmaChainsModel" "broken" "I", Cond.fieldLink RX12 473 "LzmaChainsModel" "at" "I", Cond.fieldLink RX12 476 "LzmaChainsModel" "limit" "I", Cond.methodLink RX12 479 yX12_fail, Cond.instanceMethod yX12_fail, Cond.selects RX12 yX12_fail yX12_fail, Cond.code yX12_fail cX12_fail 2 none] ++ (wsX120 ++ ([])))
set_option maxRecDepth 20000 in
theorem gw_cn_readProp_0 : GoodIn ww_cn_readProp (wsV RX12 482 RX12 yX12_next ww_cn_next0) := goodIn_r _ [1, 2, 3, 4, 5, 6, 7, 8, 9, 10, 11, 4, 12, 13, 14, 15, 16, 17, 18, 19, 20, 21, 22, 23, 24, 25, 26, 27, 28, 29, 30, 31, 32, 33, 34, 35, 36, 37, 38, 39, 40, 41, 42, 43, 44, 45, 46, 47, 48, 49, 50, 51, 52, 53, 54, 55, 56, 57, 58, 59, 60, 61, 62, 63, 64, 65, 66, 67, 68, 69, 70, 71, 72, 73, 74, 75, 76, 77, 78, 79, 80, 81, 82, 83, 84, 85, 86, 87, 88, 89, 90, 91, 92, 93, 94, 95, 96, 97, 98, 99, 100, 101, 102, 103, 104] rfl (by decide +kernel)
set_option maxHeartbeats 4000000 in
set_option maxRecDepth 100000 in
/-- the reference: readProperty, nothing is there -/
theorem cn_readProp (l : Launch) (D : va_G) (cI cJ : ClassId) (ad : Nat → Nat) (g : Nat → Int32) (lg : Nat → Int64) (ar : Nat → Nat → Int32) (bk : Nat → Int64) (sz : Nat)  (h51 : g 51 = 0) (h49 : g 49 = 0) (h50 : g 50 = 0) : Met l yX12_readProperty ww_cn_readProp { frames := 2, cells := 0, slots := 0, locals := 41 } (va_Pc [.ref (ad 0)] (hk_B D [(cI, .int), (cJ, .long)] sz (mw cI cJ ad g lg ar bk))) (va_Qi (fun (r : Int32) (u : Unit) => r = 0) (fun u : Unit => hk_E D [(cI, .int), (cJ, .long)] (va_A (mw cI cJ ad g lg ar bk) sz) (mw cI cJ ad (upd g 51 1) lg ar bk)) (va_A (mw cI cJ ad g lg ar bk) sz)) 0 0 (va_A (mw cI cJ ad g lg ar bk) sz) := by
  refine hk_met (cc := cX12_readProperty) (maxL := 2) (ret := (some .boolean)) (by decide) rfl (Nat.le_of_ble_eq_true rfl) ?_
  intro p e s m below meth c ls hx hb hr hml hown hts hlocks hin hA hw hl
  have iX12 : ∀ w ∈ wsX120, w ∈ ww_cn_readProp := fun _ h => List.mem_cons_of_mem _ (List.mem_append_right _ (List.mem_append_left _ h))
  have hl : lv_has ls 2 [(0, .ref (ad 0))] := hl
  refine lv_aload_n hx hb dX12_readProperty_0 rfl (lv_at hl 0 rfl) ?_
  refine hk_Vi (As := []) (rest := []) ⟨hx, hb, hml, hown, hts⟩ hw hA (cn_next0 l D cI cJ ad g lg ar bk _ h51 h49 h50) (cwV 0 hts gw_cn_readProp_0 rfl rfl rfl (by decide +kernel) ⟨Nat.le_of_ble_eq_true rfl, Nat.le_of_ble_eq_true rfl⟩) 0 (ci := 15) (T := TX12) (N := 92) rfl rfl rfl hl.1 rfl (Nat.le_of_ble_eq_true rfl) dX12_readProperty_1 ⟨Nat.le_of_ble_eq_true rfl, Nat.le_of_ble_eq_true rfl⟩ (fun rr_1 uu_2 H locs hp_3 hw => ?_)
  subst hp_3
  have hw : hk_W D [(cI, .int), (cJ, .long)] _ s _ _ (mw cI cJ ad (upd g 51 1) lg ar bk) := hw
  refine lv_istore_n (lv' := [(1, .int 0), (0, .ref (ad 0))]) hx hb dX12_readProperty_4 rfl hl (by decide) rfl (fun ls hl => ?_)
  refine lv_aload_n hx hb dX12_readProperty_5 rfl (lv_at hl 1 rfl) ?_
  refine hk_get (ci := 15) (C := RX12) (T := TX12) (N := 92) (v := .int 1) hx hb hts iX12 hown hw 0 rfl rfl 78 (by decide) (hts _ (List.mem_of_getElem? (i := 6) rfl)) rfl dX12_readProperty_6 ?_
  refine lv_if_le (tgt := 14) hx hb dX12_readProperty_9 (by decide) (fun cc_4 => absurd cc_4 (by decide)) (fun _ => ?_)
  refine lv_iconst (v := 0) hx hb dX12_readProperty_12 (by decide) ?_
  exact hk_zret (u := ()) hx hb hr rfl hlocks (hw) (rfl) dX12_readProperty_13

def ww_cn_openPlain : List Cond := Cond.code yX12_openPlain cX12_openPlain 4 none :: ([Cond.methodLink RX12 542 yX12_readProperty, Cond.instanceMethod yX12_readProperty, Cond.selects RX12 yX12_readProperty yX12_readProperty, Cond.initialized RX12, Cond.code yX12_readProperty cX12_readProperty 2 (some .boolean), Cond.methodLink RX12 482 yX12_next, Cond.instanceMethod yX12_next, Cond.selects RX12 yX12_next yX12_next, Cond.code yX12_next cX12_next 1 (some .int), Cond.fieldLink RX12 470 "LzmaChainsModel" "broken" "I", Cond.fieldLink RX12 473 "LzmaChainsModel" "at" "I", Cond.fieldLink RX12 476 "LzmaChainsModel" "limit" "I", Cond.methodLink RX12 479 yX12_fail, Cond.instanceMethod yX12_fail, Cond.selects RX12 yX12_fail yX12_fail, Cond.code yX12_fail cX12_fail 2 none] ++ (wsX120 ++ ([])))
set_option maxRecDepth 20000 in
theorem gw_cn_openPlain_0 : GoodIn ww_cn_openPlain (wsV RX12 542 RX12 yX12_readProperty ww_cn_readProp) := goodIn_r _ [1, 2, 3, 4, 5, 6, 7, 8, 4, 9, 10, 11, 12, 13, 14, 15, 16, 17, 18, 19, 20, 21, 22, 23, 24, 25, 26, 27, 28, 29, 30, 31, 32, 33, 34, 35, 36, 37, 38, 39, 40, 41, 42, 43, 44, 45, 46, 47, 48, 49, 50, 51, 52, 53, 54, 55, 56, 57, 58, 59, 60, 61, 62, 63, 64, 65, 66, 67, 68, 69, 70, 71, 72, 73, 74, 75, 76, 77, 78, 79, 80, 81, 82, 83, 84, 85, 86, 87, 88, 89, 90, 91, 92, 93, 94, 95, 96, 97, 98, 99, 100, 101, 102, 103, 104, 105, 106, 107, 108] rfl (by decide +kernel)
set_option maxHeartbeats 4000000 in
set_option maxRecDepth 100000 in
/-- the reference: openPlain, nothing is there -/
theorem cn_openPlain (l : Launch) (D : va_G) (cI cJ : ClassId) (ad : Nat → Nat) (g : Nat → Int32) (lg : Nat → Int64) (ar : Nat → Nat → Int32) (bk : Nat → Int64) (sz : Nat) (mm : Int32) (h51 : g 51 = 0) (h49 : g 49 = 0) (h50 : g 50 = 0) : Met l yX12_openPlain ww_cn_openPlain { frames := 3, cells := 0, slots := 0, locals := 62 } (va_Pc [.ref (ad 0), .int mm] (hk_B D [(cI, .int), (cJ, .long)] sz (mw cI cJ ad g lg ar bk))) (va_Qv (fun u : Unit => True) (fun u : Unit => hk_E D [(cI, .int), (cJ, .long)] (va_A (mw cI cJ ad g lg ar bk) sz) (mw cI cJ ad (upd g 51 1) lg ar bk)) (va_A (mw cI cJ ad g lg ar bk) sz)) 0 0 (va_A (mw cI cJ ad g lg ar bk) sz) := by
  refine hk_met (cc := cX12_openPlain) (maxL := 4) (ret := none) (by decide) rfl (Nat.le_of_ble_eq_true rfl) ?_
  intro p e s m below meth c ls hx hb hr hml hown hts hlocks hin hA hw hl
  have iX12 : ∀ w ∈ wsX120, w ∈ ww_cn_openPlain := fun _ h => List.mem_cons_of_mem _ (List.mem_append_right _ (List.mem_append_left _ h))
  have hl : lv_has ls 4 [(0, .ref (ad 0)), (1, .int mm)] := hl
  refine lv_aload_n hx hb dX12_openPlain_0 rfl (lv_at hl 0 rfl) ?_
  refine hk_Vi (As := []) (rest := []) ⟨hx, hb, hml, hown, hts⟩ hw hA (cn_readProp l D cI cJ ad g lg ar bk _ h51 h49 h50) (cwV 0 hts gw_cn_openPlain_0 rfl rfl rfl (by decide +kernel) ⟨Nat.le_of_ble_eq_true rfl, Nat.le_of_ble_eq_true rfl⟩) 0 (ci := 15) (T := TX12) (N := 92) rfl rfl rfl hl.1 rfl (Nat.le_of_ble_eq_true rfl) dX12_openPlain_1 ⟨Nat.le_of_ble_eq_true rfl, Nat.le_of_ble_eq_true rfl⟩ (fun rr_1 uu_2 H locs hp_3 hw => ?_)
  subst hp_3
  have hw : hk_W D [(cI, .int), (cJ, .long)] _ s _ _ (mw cI cJ ad (upd g 51 1) lg ar bk) := hw
  refine lv_if_ne (tgt := 8) hx hb dX12_openPlain_4 (by decide) (fun cc_4 => absurd (by decide) cc_4) (fun _ => ?_)
  exact hk_vret (u := ()) hx hb hr hlocks (hw) (trivial) dX12_openPlain_7

def ww_cn_openChunks : List Cond := Cond.code yX12_openChunks cX12_openChunks 4 none :: ([Cond.fieldLink RX12 557 "LzmaChainsModel" "need" "I", Cond.fieldLink RX12 434 "LzmaChainsModel" "chunkCount" "I", Cond.fieldLink RX12 208 "LzmaChainsModel" "srcSize" "I", Cond.fieldLink RX12 508 "LzmaChainsModel" "dictionaryFrom" "I", Cond.methodLink RX12 407 yX12_freshState, Cond.instanceMethod yX12_freshState, Cond.selects RX12 yX12_freshState yX12_freshState, Cond.initialized RX12, Cond.code yX12_freshState cX12_freshState 2 none, Cond.fieldLink RX12 231 "LzmaChainsModel" "st" "I", Cond.fieldLink RX12 234 "LzmaChainsModel" "back0" "I", Cond.fieldLink RX12 237 "LzmaChainsModel" "back1" "I", Cond.fieldLink RX12 240 "LzmaChainsModel" "back2" "I", Cond.fieldLink RX12 243 "LzmaChainsModel" "back3" "I", Cond.fieldLink RX12 80 "LzmaChainsModel" "chance" "[I", Cond.fieldLink RX12 470 "LzmaChainsModel" "broken" "I", Cond.methodLink RX12 482 yX12_next, Cond.instanceMethod yX12_next, Cond.selects RX12 yX12_next yX12_next, Cond.code yX12_next cX12_next 1 (some .int), Cond.fieldLink RX12 473 "LzmaChainsModel" "at" "I", Cond.fieldLink RX12 476 "LzmaChainsModel" "limit" "I", Cond.methodLink RX12 479 yX12_fail, Cond.instanceMethod yX12_fail, Cond.selects RX12 yX12_fail yX12_fail, Cond.code yX12_fail cX12_fail 2 none] ++ (wsX120 ++ ([])))
set_option maxRecDepth 20000 in
theorem gw_cn_openChunks_0 : GoodIn ww_cn_openChunks (wsV RX12 407 RX12 yX12_freshState ww_cn_fresh) := goodIn_r _ [5, 6, 7, 8, 9, 10, 11, 12, 13, 14, 15, 27, 28, 29, 30, 31, 32, 33, 34, 35, 36, 37, 38, 39, 40, 41, 42, 43, 44, 45, 46, 47, 48, 49, 50, 51, 52, 53, 54, 55, 56, 57, 58, 59, 60, 61, 62, 63, 64, 65, 66, 67, 68, 69, 70, 71, 72, 73, 74, 75, 76, 77, 78, 79, 80, 81, 82, 83, 84, 85, 86, 87, 88, 89, 90, 91, 92, 93, 94, 95, 96, 97, 98, 99, 100, 101, 102, 103, 104, 105, 106, 107, 108, 109, 110, 111, 112, 113, 114, 115, 116, 117, 118] rfl (by decide +kernel)
set_option maxRecDepth 20000 in
theorem gw_cn_openChunks_1 : GoodIn ww_cn_openChunks (wsV RX12 482 RX12 yX12_next ww_cn_next0) := goodIn_r _ [17, 18, 19, 8, 20, 16, 21, 22, 23, 24, 25, 8, 26, 27, 28, 29, 30, 31, 32, 33, 34, 35, 36, 37, 38, 39, 40, 41, 42, 43, 44, 45, 46, 47, 48, 49, 50, 51, 52, 53, 54, 55, 56, 57, 58, 59, 60, 61, 62, 63, 64, 65, 66, 67, 68, 69, 70, 71, 72, 73, 74, 75, 76, 77, 78, 79, 80, 81, 82, 83, 84, 85, 86, 87, 88, 89, 90, 91, 92, 93, 94, 95, 96, 97, 98, 99, 100, 101, 102, 103, 104, 105, 106, 107, 108, 109, 110, 111, 112, 113, 114, 115, 116, 117, 118] rfl (by decide +kernel)
set_option maxHeartbeats 4000000 in
set_option maxRecDepth 100000 in
/-- the reference: openChunks, nothing is there -/
theorem cn_openChunks (l : Launch) (D : va_G) (cI cJ : ClassId) (ad : Nat → Nat) (g : Nat → Int32) (lg : Nat → Int64) (ar : Nat → Nat → Int32) (bk : Nat → Int64) (sz : Nat)  (h51 : g 51 = 0) (h49 : g 49 = 0) (h50 : g 50 = 0) : Met l yX12_openChunks ww_cn_openChunks { frames := 2, cells := 0, slots := 0, locals := 41 } (va_Pc [.ref (ad 0)] (hk_B D [(cI, .int), (cJ, .long)] sz (mw cI cJ ad g lg ar bk))) (va_Qv (fun u : (Nat → Int32) => True) (fun u : (Nat → Int32) => hk_E D [(cI, .int), (cJ, .long)] (va_A (mw cI cJ ad g lg ar bk) sz) (mw cI cJ ad (upd (upd (upd (upd (upd (upd (upd (upd (upd g 51 1) 56 3) 48 0) 52 (g 17)) 23 0) 24 1) 25 1) 26 1) 27 1) lg (va_up ar 16 u) bk)) (va_A (mw cI cJ ad g lg ar bk) sz)) 0 0 (va_A (mw cI cJ ad g lg ar bk) sz) := by
  refine hk_met (cc := cX12_openChunks) (maxL := 4) (ret := none) (by decide) rfl (Nat.le_of_ble_eq_true rfl) ?_
  intro p e s m below meth c ls hx hb hr hml hown hts hlocks hin hA hw hl
  have iX12 : ∀ w ∈ wsX120, w ∈ ww_cn_openChunks := fun _ h => List.mem_cons_of_mem _ (List.mem_append_right _ (List.mem_append_left _ h))
  have hl : lv_has ls 4 [(0, .ref (ad 0))] := hl
  refine lv_aload_n hx hb dX12_openChunks_0 rfl (lv_at hl 0 rfl) ?_
  refine lv_iconst (v := 3) hx hb dX12_openChunks_1 (by decide) ?_
  refine hk_put (ci := 15) (C := RX12) (T := TX12) (N := 92) (ty := .int) (v := .int 3) hx hb hts iX12 tyX12 tyX12_ok nmX12 hown hw 0 rfl rfl 85 (by decide) (hts _ (List.mem_of_getElem? (i := 1) rfl)) rfl (by decide +kernel) rfl rfl (Nat.le_of_ble_eq_true rfl) dX12_openChunks_2 (ws' := mw cI cJ ad (upd g 56 3) lg ar bk) rfl (fun H locs hw => ?_)
  refine lv_aload_n hx hb dX12_openChunks_5 rfl (lv_at hl 0 rfl) ?_
  refine lv_iconst (v := 0) hx hb dX12_openChunks_6 (by decide) ?_
  refine hk_put (ci := 15) (C := RX12) (T := TX12) (N := 92) (ty := .int) (v := .int 0) hx hb hts iX12 tyX12 tyX12_ok nmX12 hown hw 0 rfl rfl 75 (by decide) (hts _ (List.mem_of_getElem? (i := 2) rfl)) rfl (by decide +kernel) rfl rfl (Nat.le_of_ble_eq_true rfl) dX12_openChunks_7 (ws' := mw cI cJ ad (upd (upd g 56 3) 48 0) lg ar bk) rfl (fun H locs hw => ?_)
  refine lv_aload_n hx hb dX12_openChunks_10 rfl (lv_at hl 0 rfl) ?_
  refine lv_aload_n hx hb dX12_openChunks_11 rfl (lv_at hl 0 rfl) ?_
  refine hk_get (ci := 15) (C := RX12) (T := TX12) (N := 92) (v := .int (g 17)) hx hb hts iX12 hown hw 0 rfl rfl 26 (by decide) (hts _ (List.mem_of_getElem? (i := 3) rfl)) rfl dX12_openChunks_12 ?_
  refine hk_put (ci := 15) (C := RX12) (T := TX12) (N := 92) (ty := .int) (v := .int (g 17)) hx hb hts iX12 tyX12 tyX12_ok nmX12 hown hw 0 rfl rfl 81 (by decide) (hts _ (List.mem_of_getElem? (i := 4) rfl)) rfl (by decide +kernel) rfl rfl (Nat.le_of_ble_eq_true rfl) dX12_openChunks_15 (ws' := mw cI cJ ad (upd (upd (upd g 56 3) 48 0) 52 (g 17)) lg ar bk) rfl (fun H locs hw => ?_)
  refine lv_iconst (v := 1) hx hb dX12_openChunks_18 (by decide) ?_
  refine lv_istore_n (lv' := [(1, .int 1), (0, .ref (ad 0))]) hx hb dX12_openChunks_19 rfl hl (by decide) rfl (fun ls hl => ?_)
  refine lv_iconst (v := 0) hx hb dX12_openChunks_20 (by decide) ?_
  refine lv_istore_n (lv' := [(2, .int 0), (1, .int 1), (0, .ref (ad 0))]) hx hb dX12_openChunks_21 rfl hl (by decide) rfl (fun ls hl => ?_)
  refine lv_aload_n hx hb dX12_openChunks_22 rfl (lv_at hl 2 rfl) ?_
  refine hk_Vv (As := []) (rest := []) ⟨hx, hb, hml, hown, hts⟩ hw hA (cn_fresh l D cI cJ ad (upd (upd (upd g 56 3) 48 0) 52 (g 17)) lg ar bk _) (cwV 0 hts gw_cn_openChunks_0 rfl rfl rfl (by decide +kernel) ⟨Nat.le_of_ble_eq_true rfl, Nat.le_of_ble_eq_true rfl⟩) 0 (ci := 15) (T := TX12) (N := 92) rfl rfl rfl hl.1 rfl (Nat.le_of_ble_eq_true rfl) dX12_openChunks_23 ⟨Nat.le_of_ble_eq_true rfl, Nat.le_of_ble_eq_true rfl⟩ (fun uu_2 H locs hp_3 hw => ?_)
  have hw : hk_W D [(cI, .int), (cJ, .long)] _ s _ _ (mw cI cJ ad (upd (upd (upd (upd (upd (upd (upd (upd g 56 3) 48 0) 52 (g 17)) 23 0) 24 1) 25 1) 26 1) 27 1) lg (va_up ar 16 uu_2) bk) := hw
  refine lv_iload_n hx hb dX12_openChunks_26 rfl (lv_at hl 1 rfl) ?_
  refine lv_if_eq (tgt := 132) hx hb dX12_openChunks_27 (by decide) (fun cc_4 => absurd cc_4 (by decide)) (fun _ => ?_)
  refine lv_aload_n hx hb dX12_openChunks_30 rfl (lv_at hl 2 rfl) ?_
  refine hk_get (ci := 15) (C := RX12) (T := TX12) (N := 92) (v := .int 0) hx hb hts iX12 hown hw 0 rfl rfl 78 (by decide) (hts _ (List.mem_of_getElem? (i := 16) rfl)) (congrArg (fun z => some (Value.int z)) h51) dX12_openChunks_31 ?_
  refine lv_if_ne (tgt := 132) hx hb dX12_openChunks_34 (by decide) (fun cc_5 => absurd (by decide) cc_5) (fun _ => ?_)
  refine lv_aload_n hx hb dX12_openChunks_37 rfl (lv_at hl 2 rfl) ?_
  refine hk_Vi (As := []) (rest := []) ⟨hx, hb, hml, hown, hts⟩ hw hA (cn_next0 l D cI cJ ad (upd (upd (upd (upd (upd (upd (upd (upd g 56 3) 48 0) 52 (g 17)) 23 0) 24 1) 25 1) 26 1) 27 1) lg (va_up ar 16 uu_2) bk _ h51 h49 h50) (cwV 0 hts gw_cn_openChunks_1 rfl rfl rfl (by decide +kernel) ⟨Nat.le_of_ble_eq_true rfl, Nat.le_of_ble_eq_true rfl⟩) 0 (ci := 15) (T := TX12) (N := 92) rfl rfl rfl hl.1 rfl (Nat.le_of_ble_eq_true rfl) dX12_openChunks_38 ⟨Nat.le_of_ble_eq_true rfl, Nat.le_of_ble_eq_true rfl⟩ (fun rr_6 uu_7 H locs hp_8 hw => ?_)
  subst hp_8
  have hw : hk_W D [(cI, .int), (cJ, .long)] _ s _ _ (mw cI cJ ad (upd (upd (upd (upd (upd (upd (upd (upd (upd g 56 3) 48 0) 52 (g 17)) 23 0) 24 1) 25 1) 26 1) 27 1) 51 1) lg (va_up ar 16 uu_2) bk) := hw
  refine lv_istore_n (lv' := [(3, .int 0), (2, .int 0), (1, .int 1), (0, .ref (ad 0))]) hx hb dX12_openChunks_41 rfl hl (by decide) rfl (fun ls hl => ?_)
  refine lv_aload_n hx hb dX12_openChunks_42 rfl (lv_at hl 3 rfl) ?_
  refine hk_get (ci := 15) (C := RX12) (T := TX12) (N := 92) (v := .int 1) hx hb hts iX12 hown hw 0 rfl rfl 78 (by decide) (hts _ (List.mem_of_getElem? (i := 16) rfl)) rfl dX12_openChunks_43 ?_
  refine lv_if_gt (tgt := 53) hx hb dX12_openChunks_46 (by decide) (fun _ => ?_) (fun cc_9 => absurd (by decide) cc_9)
  refine lv_iconst (v := 0) hx hb dX12_openChunks_53 (by decide) ?_
  refine lv_istore_n (lv' := [(1, .int 0), (3, .int 0), (2, .int 0), (0, .ref (ad 0))]) hx hb dX12_openChunks_54 rfl hl (by decide) rfl (fun ls hl => ?_)
  refine lv_goto (tgt := 129) hx hb dX12_openChunks_55 (by decide) ?_
  refine lv_goto (tgt := 26) hx hb dX12_openChunks_129 (by decide) ?_
  refine lv_iload_n hx hb dX12_openChunks_26 rfl (lv_at hl 0 rfl) ?_
  refine lv_if_eq (tgt := 132) hx hb dX12_openChunks_27 (by decide) (fun _ => ?_) (fun cc_10 => absurd (by decide) cc_10)
  exact hk_vret (u := uu_2) hx hb hr hlocks (show hk_W D [(cI, .int), (cJ, .long)] _ s _ _ (mw cI cJ ad (upd (upd (upd (upd (upd (upd (upd (upd (upd g 51 1) 56 3) 48 0) 52 (g 17)) 23 0) 24 1) 25 1) 26 1) 27 1) lg (va_up ar 16 uu_2) bk) from hw) (trivial) dX12_openChunks_132

def ww_cn_magic : List Cond := Cond.code yX12_magic cX12_magic 1 (some .int) :: ([] ++ ([]))
set_option maxHeartbeats 4000000 in
set_option maxRecDepth 100000 in
/-- the reference: magic -/
theorem cn_magic (l : Launch) (D : va_G) (cI cJ : ClassId) (ad : Nat → Nat) (g : Nat → Int32) (lg : Nat → Int64) (ar : Nat → Nat → Int32) (bk : Nat → Int64) (sz : Nat) (n : Int32) : Met l yX12_magic ww_cn_magic { frames := 0, cells := 0, slots := 0, locals := 0 } (va_Pc [.int n] (hk_B D [(cI, .int), (cJ, .long)] sz (mw cI cJ ad g lg ar bk))) (va_Qi (fun (r : Int32) (u : Unit) => True) (fun u : Unit => hk_E D [(cI, .int), (cJ, .long)] (va_A (mw cI cJ ad g lg ar bk) sz) (mw cI cJ ad g lg ar bk)) (va_A (mw cI cJ ad g lg ar bk) sz)) 0 0 (va_A (mw cI cJ ad g lg ar bk) sz) := by
  refine hk_met (cc := cX12_magic) (maxL := 1) (ret := (some .int)) (by decide) rfl (Nat.le_of_ble_eq_true rfl) ?_
  intro p e s m below meth c ls hx hb hr hml hown hts hlocks hin hA hw hl
  have hl : lv_has ls 1 [(0, .int n)] := hl
  refine lv_iload_n hx hb dX12_magic_0 rfl (lv_at hl 0 rfl) ?_
  refine lv_if_ne (tgt := 10) hx hb dX12_magic_1 (by decide) (fun cc_1 => ?_) (fun cc_1 => ?_)
  · refine lv_iload_n hx hb dX12_magic_10 rfl (lv_at hl 0 rfl) ?_
    refine lv_iconst (v := 1) hx hb dX12_magic_11 (by decide) ?_
    refine lv_icmp_ne (tgt := 20) hx hb dX12_magic_12 (by decide) (fun cc_2 => ?_) (fun cc_2 => ?_)
    · refine lv_iload_n hx hb dX12_magic_20 rfl (lv_at hl 0 rfl) ?_
      refine lv_iconst (v := 2) hx hb dX12_magic_21 (by decide) ?_
      refine lv_icmp_ne (tgt := 30) hx hb dX12_magic_22 (by decide) (fun cc_3 => ?_) (fun cc_3 => ?_)
      · refine lv_iload_n hx hb dX12_magic_30 rfl (lv_at hl 0 rfl) ?_
        refine lv_iconst (v := 3) hx hb dX12_magic_31 (by decide) ?_
        refine lv_icmp_ne (tgt := 40) hx hb dX12_magic_32 (by decide) (fun cc_4 => ?_) (fun cc_4 => ?_)
        · refine lv_iload_n hx hb dX12_magic_40 rfl (lv_at hl 0 rfl) ?_
          refine lv_iconst (v := 4) hx hb dX12_magic_41 (by decide) ?_
          refine lv_icmp_ne (tgt := 50) hx hb dX12_magic_42 (by decide) (fun cc_5 => ?_) (fun cc_5 => ?_)
          · refine lv_iconst (v := 0) hx hb dX12_magic_50 (by decide) ?_
            exact hk_iret (u := ()) hx hb hr hlocks (hw) (trivial) dX12_magic_51
          · refine lv_bipush (v := 90) hx hb dX12_magic_45 (by decide) ?_
            refine lv_goto (tgt := 51) hx hb dX12_magic_47 (by decide) ?_
            exact hk_iret (u := ()) hx hb hr hlocks (hw) (trivial) dX12_magic_51
        · refine lv_bipush (v := 88) hx hb dX12_magic_35 (by decide) ?_
          refine lv_goto (tgt := 51) hx hb dX12_magic_37 (by decide) ?_
          exact hk_iret (u := ()) hx hb hr hlocks (hw) (trivial) dX12_magic_51
      · refine lv_bipush (v := 122) hx hb dX12_magic_25 (by decide) ?_
        refine lv_goto (tgt := 51) hx hb dX12_magic_27 (by decide) ?_
        exact hk_iret (u := ()) hx hb hr hlocks (hw) (trivial) dX12_magic_51
    · refine lv_bipush (v := 55) hx hb dX12_magic_15 (by decide) ?_
      refine lv_goto (tgt := 51) hx hb dX12_magic_17 (by decide) ?_
      exact hk_iret (u := ()) hx hb hr hlocks (hw) (trivial) dX12_magic_51
  · refine lv_sipush (v := 253) hx hb dX12_magic_4 (by decide) ?_
    refine lv_goto (tgt := 51) hx hb dX12_magic_7 (by decide) ?_
    exact hk_iret (u := ()) hx hb hr hlocks (hw) (trivial) dX12_magic_51

def ww_cn_want0 : List Cond := Cond.code yX12_wantByte cX12_wantByte 4 none :: ([Cond.methodLink RX12 482 yX12_next, Cond.instanceMethod yX12_next, Cond.selects RX12 yX12_next yX12_next, Cond.initialized RX12, Cond.code yX12_next cX12_next 1 (some .int), Cond.fieldLink RX12 470 "LzmaChainsModel" "broken" "I", Cond.fieldLink RX12 473 "LzmaChainsModel" "at" "I", Cond.fieldLink RX12 476 "LzmaChainsModel" "limit" "I", Cond.methodLink RX12 479 yX12_fail, Cond.instanceMethod yX12_fail, Cond.selects RX12 yX12_fail yX12_fail, Cond.code yX12_fail cX12_fail 2 none] ++ (wsX120 ++ ([])))
set_option maxRecDepth 20000 in
theorem gw_cn_want0_0 : GoodIn ww_cn_want0 (wsV RX12 482 RX12 yX12_next ww_cn_next0) := goodIn_r _ [1, 2, 3, 4, 5, 6, 7, 8, 9, 10, 11, 4, 12, 13, 14, 15, 16, 17, 18, 19, 20, 21, 22, 23, 24, 25, 26, 27, 28, 29, 30, 31, 32, 33, 34, 35, 36, 37, 38, 39, 40, 41, 42, 43, 44, 45, 46, 47, 48, 49, 50, 51, 52, 53, 54, 55, 56, 57, 58, 59, 60, 61, 62, 63, 64, 65, 66, 67, 68, 69, 70, 71, 72, 73, 74, 75, 76, 77, 78, 79, 80, 81, 82, 83, 84, 85, 86, 87, 88, 89, 90, 91, 92, 93, 94, 95, 96, 97, 98, 99, 100, 101, 102, 103, 104] rfl (by decide +kernel)
set_option maxHeartbeats 4000000 in
set_option maxRecDepth 100000 in
/-- the reference: wantByte, nothing is there -/
theorem cn_want0 (l : Launch) (D : va_G) (cI cJ : ClassId) (ad : Nat → Nat) (g : Nat → Int32) (lg : Nat → Int64) (ar : Nat → Nat → Int32) (bk : Nat → Int64) (sz : Nat) (v n : Int32) (h51 : g 51 = 0) (h49 : g 49 = 0) (h50 : g 50 = 0) : Met l yX12_wantByte ww_cn_want0 { frames := 2, cells := 0, slots := 0, locals := 41 } (va_Pc [.ref (ad 0), .int v, .int n] (hk_B D [(cI, .int), (cJ, .long)] sz (mw cI cJ ad g lg ar bk))) (va_Qv (fun u : Unit => True) (fun u : Unit => hk_E D [(cI, .int), (cJ, .long)] (va_A (mw cI cJ ad g lg ar bk) sz) (mw cI cJ ad (upd g 51 1) lg ar bk)) (va_A (mw cI cJ ad g lg ar bk) sz)) 0 0 (va_A (mw cI cJ ad g lg ar bk) sz) := by
  refine hk_met (cc := cX12_wantByte) (maxL := 4) (ret := none) (by decide) rfl (Nat.le_of_ble_eq_true rfl) ?_
  intro p e s m below meth c ls hx hb hr hml hown hts hlocks hin hA hw hl
  have iX12 : ∀ w ∈ wsX120, w ∈ ww_cn_want0 := fun _ h => List.mem_cons_of_mem _ (List.mem_append_right _ (List.mem_append_left _ h))
  have hl : lv_has ls 4 [(0, .ref (ad 0)), (1, .int v), (2, .int n)] := hl
  refine lv_aload_n hx hb dX12_wantByte_0 rfl (lv_at hl 0 rfl) ?_
  refine hk_Vi (As := []) (rest := []) ⟨hx, hb, hml, hown, hts⟩ hw hA (cn_next0 l D cI cJ ad g lg ar bk _ h51 h49 h50) (cwV 0 hts gw_cn_want0_0 rfl rfl rfl (by decide +kernel) ⟨Nat.le_of_ble_eq_true rfl, Nat.le_of_ble_eq_true rfl⟩) 0 (ci := 15) (T := TX12) (N := 92) rfl rfl rfl hl.1 rfl (Nat.le_of_ble_eq_true rfl) dX12_wantByte_1 ⟨Nat.le_of_ble_eq_true rfl, Nat.le_of_ble_eq_true rfl⟩ (fun rr_1 uu_2 H locs hp_3 hw => ?_)
  subst hp_3
  have hw : hk_W D [(cI, .int), (cJ, .long)] _ s _ _ (mw cI cJ ad (upd g 51 1) lg ar bk) := hw
  refine lv_istore_n (lv' := [(3, .int 0), (0, .ref (ad 0)), (1, .int v), (2, .int n)]) hx hb dX12_wantByte_4 rfl hl (by decide) rfl (fun ls hl => ?_)
  refine lv_aload_n hx hb dX12_wantByte_5 rfl (lv_at hl 1 rfl) ?_
  refine hk_get (ci := 15) (C := RX12) (T := TX12) (N := 92) (v := .int 1) hx hb hts iX12 hown hw 0 rfl rfl 78 (by decide) (hts _ (List.mem_of_getElem? (i := 6) rfl)) rfl dX12_wantByte_6 ?_
  refine lv_if_ne (tgt := 22) hx hb dX12_wantByte_9 (by decide) (fun _ => ?_) (fun cc_4 => absurd cc_4 (by decide))
  exact hk_vret (u := ()) hx hb hr hlocks (hw) (trivial) dX12_wantByte_22

def ww_cn_want1 : List Cond := Cond.code yX12_wantByte cX12_wantByte 4 none :: ([Cond.methodLink RX12 482 yX12_next, Cond.instanceMethod yX12_next, Cond.selects RX12 yX12_next yX12_next, Cond.initialized RX12, Cond.code yX12_next cX12_next 1 (some .int), Cond.fieldLink RX12 470 "LzmaChainsModel" "broken" "I"] ++ (wsX120 ++ ([])))
set_option maxRecDepth 20000 in
theorem gw_cn_want1_0 : GoodIn ww_cn_want1 (wsV RX12 482 RX12 yX12_next ww_cn_next1) := goodIn_r _ [1, 2, 3, 4, 5, 6, 7, 8, 9, 10, 11, 12, 13, 14, 15, 16, 17, 18, 19, 20, 21, 22, 23, 24, 25, 26, 27, 28, 29, 30, 31, 32, 33, 34, 35, 36, 37, 38, 39, 40, 41, 42, 43, 44, 45, 46, 47, 48, 49, 50, 51, 52, 53, 54, 55, 56, 57, 58, 59, 60, 61, 62, 63, 64, 65, 66, 67, 68, 69, 70, 71, 72, 73, 74, 75, 76, 77, 78, 79, 80, 81, 82, 83, 84, 85, 86, 87, 88, 89, 90, 91, 92, 93, 94, 95, 96, 97, 98] rfl (by decide +kernel)
set_option maxHeartbeats 4000000 in
set_option maxRecDepth 100000 in
/-- the reference: wantByte, broken -/
theorem cn_want1 (l : Launch) (D : va_G) (cI cJ : ClassId) (ad : Nat → Nat) (g : Nat → Int32) (lg : Nat → Int64) (ar : Nat → Nat → Int32) (bk : Nat → Int64) (sz : Nat) (v n : Int32) (h51 : g 51 = 1) : Met l yX12_wantByte ww_cn_want1 { frames := 1, cells := 0, slots := 0, locals := 20 } (va_Pc [.ref (ad 0), .int v, .int n] (hk_B D [(cI, .int), (cJ, .long)] sz (mw cI cJ ad g lg ar bk))) (va_Qv (fun u : Unit => True) (fun u : Unit => hk_E D [(cI, .int), (cJ, .long)] (va_A (mw cI cJ ad g lg ar bk) sz) (mw cI cJ ad g lg ar bk)) (va_A (mw cI cJ ad g lg ar bk) sz)) 0 0 (va_A (mw cI cJ ad g lg ar bk) sz) := by
  refine hk_met (cc := cX12_wantByte) (maxL := 4) (ret := none) (by decide) rfl (Nat.le_of_ble_eq_true rfl) ?_
  intro p e s m below meth c ls hx hb hr hml hown hts hlocks hin hA hw hl
  have iX12 : ∀ w ∈ wsX120, w ∈ ww_cn_want1 := fun _ h => List.mem_cons_of_mem _ (List.mem_append_right _ (List.mem_append_left _ h))
  have hl : lv_has ls 4 [(0, .ref (ad 0)), (1, .int v), (2, .int n)] := hl
  refine lv_aload_n hx hb dX12_wantByte_0 rfl (lv_at hl 0 rfl) ?_
  refine hk_Vi (As := []) (rest := []) ⟨hx, hb, hml, hown, hts⟩ hw hA (cn_next1 l D cI cJ ad g lg ar bk _ h51) (cwV 0 hts gw_cn_want1_0 rfl rfl rfl (by decide +kernel) ⟨Nat.le_of_ble_eq_true rfl, Nat.le_of_ble_eq_true rfl⟩) 0 (ci := 15) (T := TX12) (N := 92) rfl rfl rfl hl.1 rfl (Nat.le_of_ble_eq_true rfl) dX12_wantByte_1 ⟨Nat.le_of_ble_eq_true rfl, Nat.le_of_ble_eq_true rfl⟩ (fun rr_1 uu_2 H locs hp_3 hw => ?_)
  subst hp_3
  have hw : hk_W D [(cI, .int), (cJ, .long)] _ s _ _ (mw cI cJ ad g lg ar bk) := hw
  refine lv_istore_n (lv' := [(3, .int 0), (0, .ref (ad 0)), (1, .int v), (2, .int n)]) hx hb dX12_wantByte_4 rfl hl (by decide) rfl (fun ls hl => ?_)
  refine lv_aload_n hx hb dX12_wantByte_5 rfl (lv_at hl 1 rfl) ?_
  refine hk_get (ci := 15) (C := RX12) (T := TX12) (N := 92) (v := .int 1) hx hb hts iX12 hown hw 0 rfl rfl 78 (by decide) (hts _ (List.mem_of_getElem? (i := 6) rfl)) (congrArg (fun z => some (Value.int z)) h51) dX12_wantByte_6 ?_
  refine lv_if_ne (tgt := 22) hx hb dX12_wantByte_9 (by decide) (fun _ => ?_) (fun cc_4 => absurd cc_4 (by decide))
  exact hk_vret (u := ()) hx hb hr hlocks (hw) (trivial) dX12_wantByte_22

def ww_cn_nextWide : List Cond := Cond.code yX12_nextWide cX12_nextWide 5 (some .long) :: ([Cond.methodLink RX12 482 yX12_next, Cond.instanceMethod yX12_next, Cond.selects RX12 yX12_next yX12_next, Cond.initialized RX12, Cond.code yX12_next cX12_next 1 (some .int), Cond.fieldLink RX12 470 "LzmaChainsModel" "broken" "I"] ++ (wsX120 ++ ([])))
set_option maxRecDepth 20000 in
theorem gw_cn_nextWide_0 : GoodIn ww_cn_nextWide (wsV RX12 482 RX12 yX12_next ww_cn_next1) := goodIn_r _ [1, 2, 3, 4, 5, 6, 7, 8, 9, 10, 11, 12, 13, 14, 15, 16, 17, 18, 19, 20, 21, 22, 23, 24, 25, 26, 27, 28, 29, 30, 31, 32, 33, 34, 35, 36, 37, 38, 39, 40, 41, 42, 43, 44, 45, 46, 47, 48, 49, 50, 51, 52, 53, 54, 55, 56, 57, 58, 59, 60, 61, 62, 63, 64, 65, 66, 67, 68, 69, 70, 71, 72, 73, 74, 75, 76, 77, 78, 79, 80, 81, 82, 83, 84, 85, 86, 87, 88, 89, 90, 91, 92, 93, 94, 95, 96, 97, 98] rfl (by decide +kernel)
set_option maxHeartbeats 4000000 in
set_option maxRecDepth 100000 in
/-- the reference: nextWide, broken -/
theorem cn_nextWide (l : Launch) (D : va_G) (cI cJ : ClassId) (ad : Nat → Nat) (g : Nat → Int32) (lg : Nat → Int64) (ar : Nat → Nat → Int32) (bk : Nat → Int64) (sz : Nat)  (h51 : g 51 = 1) : Met l yX12_nextWide ww_cn_nextWide { frames := 1, cells := 0, slots := 0, locals := 20 } (va_Pc [.ref (ad 0), .int 4] (hk_B D [(cI, .int), (cJ, .long)] sz (mw cI cJ ad g lg ar bk))) (va_Ql (fun (r : Int64) (u : Unit) => True) (fun u : Unit => hk_E D [(cI, .int), (cJ, .long)] (va_A (mw cI cJ ad g lg ar bk) sz) (mw cI cJ ad g lg ar bk)) (va_A (mw cI cJ ad g lg ar bk) sz)) 0 0 (va_A (mw cI cJ ad g lg ar bk) sz) := by
  refine hk_met (cc := cX12_nextWide) (maxL := 5) (ret := (some .long)) (by decide) rfl (Nat.le_of_ble_eq_true rfl) ?_
  intro p e s m below meth c ls hx hb hr hml hown hts hlocks hin hA hw hl
  have iX12 : ∀ w ∈ wsX120, w ∈ ww_cn_nextWide := fun _ h => List.mem_cons_of_mem _ (List.mem_append_right _ (List.mem_append_left _ h))
  have hl : lv_has ls 5 [(0, .ref (ad 0)), (1, .int 4)] := hl
  refine lv_lconst (v := 0) hx hb dX12_nextWide_0 (by decide) ?_
  refine lv_lstore_n (lv' := [(2, .long 0), (0, .ref (ad 0)), (1, .int 4)]) hx hb dX12_nextWide_1 rfl hl (by decide) rfl (fun ls hl => ?_)
  refine lv_iconst (v := 0) hx hb dX12_nextWide_2 (by decide) ?_
  refine lv_istore (lv' := [(4, .int 0), (2, .long 0), (0, .ref (ad 0)), (1, .int 4)]) hx hb dX12_nextWide_3 hl (by decide) rfl (fun ls hl => ?_)
  refine lv_iload hx hb dX12_nextWide_5 (lv_at hl 0 rfl) ?_
  refine lv_iload_n hx hb dX12_nextWide_7 rfl (lv_at hl 3 rfl) ?_
  refine lv_icmp_ge (tgt := 31) hx hb dX12_nextWide_8 (by decide) (fun cc_1 => absurd cc_1 (by decide)) (fun _ => ?_)
  refine lv_lload_n hx hb dX12_nextWide_11 rfl (lv_at hl 1 rfl) ?_
  refine lv_aload_n hx hb dX12_nextWide_12 rfl (lv_at hl 2 rfl) ?_
  refine hk_Vi (As := []) (rest := [.long 0]) ⟨hx, hb, hml, hown, hts⟩ hw hA (cn_next1 l D cI cJ ad g lg ar bk _ h51) (cwV 0 hts gw_cn_nextWide_0 rfl rfl rfl (by decide +kernel) ⟨Nat.le_of_ble_eq_true rfl, Nat.le_of_ble_eq_true rfl⟩) 0 (ci := 15) (T := TX12) (N := 92) rfl rfl rfl hl.1 rfl (Nat.le_of_ble_eq_true rfl) dX12_nextWide_13 ⟨Nat.le_of_ble_eq_true rfl, Nat.le_of_ble_eq_true rfl⟩ (fun rr_2 uu_3 H locs hp_4 hw => ?_)
  subst hp_4
  have hw : hk_W D [(cI, .int), (cJ, .long)] _ s _ _ (mw cI cJ ad g lg ar bk) := hw
  refine lv_i2l (v := (0 : Int32).toInt64) hx hb dX12_nextWide_16 rfl ?_
  refine hk_topl 0 (by decide +kernel) ?_
  refine lv_bipush (v := 8) hx hb dX12_nextWide_17 (by decide) ?_
  refine lv_iload hx hb dX12_nextWide_19 (lv_at hl 0 rfl) ?_
  refine lv_imul hx hb dX12_nextWide_21 ?_
  refine hk_topi 0 (by decide +kernel) ?_
  refine lv_lshl (v := ((0 : Int64) <<< ((0 : Int32).toInt64 &&& 63))) hx hb dX12_nextWide_22 rfl ?_
  refine hk_topl 0 (by decide +kernel) ?_
  refine lv_lor hx hb dX12_nextWide_23 ?_
  refine hk_topl 0 (by decide +kernel) ?_
  refine lv_lstore_n (lv' := [(2, .long 0), (4, .int 0), (0, .ref (ad 0)), (1, .int 4)]) hx hb dX12_nextWide_24 rfl hl (by decide) rfl (fun ls hl => ?_)
  refine lv_iinc (v := 1) (lv' := [(4, .int 1), (2, .long 0), (0, .ref (ad 0)), (1, .int 4)]) hx hb dX12_nextWide_25 hl (k := 1) rfl rfl (by decide) rfl (fun ls hl => ?_)
  refine lv_goto (tgt := 5) hx hb dX12_nextWide_28 (by decide) ?_
  refine lv_iload hx hb dX12_nextWide_5 (lv_at hl 0 rfl) ?_
  refine lv_iload_n hx hb dX12_nextWide_7 rfl (lv_at hl 3 rfl) ?_
  refine lv_icmp_ge (tgt := 31) hx hb dX12_nextWide_8 (by decide) (fun cc_5 => absurd cc_5 (by decide)) (fun _ => ?_)
  refine lv_lload_n hx hb dX12_nextWide_11 rfl (lv_at hl 1 rfl) ?_
  refine lv_aload_n hx hb dX12_nextWide_12 rfl (lv_at hl 2 rfl) ?_
  refine hk_Vi (As := []) (rest := [.long 0]) ⟨hx, hb, hml, hown, hts⟩ hw hA (cn_next1 l D cI cJ ad g lg ar bk _ h51) (cwV 0 hts gw_cn_nextWide_0 rfl rfl rfl (by decide +kernel) ⟨Nat.le_of_ble_eq_true rfl, Nat.le_of_ble_eq_true rfl⟩) 0 (ci := 15) (T := TX12) (N := 92) rfl rfl rfl hl.1 rfl (Nat.le_of_ble_eq_true rfl) dX12_nextWide_13 ⟨Nat.le_of_ble_eq_true rfl, Nat.le_of_ble_eq_true rfl⟩ (fun rr_6 uu_7 H locs hp_8 hw => ?_)
  subst hp_8
  have hw : hk_W D [(cI, .int), (cJ, .long)] _ s _ _ (mw cI cJ ad g lg ar bk) := hw
  refine lv_i2l (v := (0 : Int32).toInt64) hx hb dX12_nextWide_16 rfl ?_
  refine hk_topl 0 (by decide +kernel) ?_
  refine lv_bipush (v := 8) hx hb dX12_nextWide_17 (by decide) ?_
  refine lv_iload hx hb dX12_nextWide_19 (lv_at hl 0 rfl) ?_
  refine lv_imul hx hb dX12_nextWide_21 ?_
  refine hk_topi 8 (by decide +kernel) ?_
  refine lv_lshl (v := ((0 : Int64) <<< ((8 : Int32).toInt64 &&& 63))) hx hb dX12_nextWide_22 rfl ?_
  refine hk_topl 0 (by decide +kernel) ?_
  refine lv_lor hx hb dX12_nextWide_23 ?_
  refine hk_topl 0 (by decide +kernel) ?_
  refine lv_lstore_n (lv' := [(2, .long 0), (4, .int 1), (0, .ref (ad 0)), (1, .int 4)]) hx hb dX12_nextWide_24 rfl hl (by decide) rfl (fun ls hl => ?_)
  refine lv_iinc (v := 2) (lv' := [(4, .int 2), (2, .long 0), (0, .ref (ad 0)), (1, .int 4)]) hx hb dX12_nextWide_25 hl (k := 1) rfl rfl (by decide) rfl (fun ls hl => ?_)
  refine lv_goto (tgt := 5) hx hb dX12_nextWide_28 (by decide) ?_
  refine lv_iload hx hb dX12_nextWide_5 (lv_at hl 0 rfl) ?_
  refine lv_iload_n hx hb dX12_nextWide_7 rfl (lv_at hl 3 rfl) ?_
  refine lv_icmp_ge (tgt := 31) hx hb dX12_nextWide_8 (by decide) (fun cc_9 => absurd cc_9 (by decide)) (fun _ => ?_)
  refine lv_lload_n hx hb dX12_nextWide_11 rfl (lv_at hl 1 rfl) ?_
  refine lv_aload_n hx hb dX12_nextWide_12 rfl (lv_at hl 2 rfl) ?_
  refine hk_Vi (As := []) (rest := [.long 0]) ⟨hx, hb, hml, hown, hts⟩ hw hA (cn_next1 l D cI cJ ad g lg ar bk _ h51) (cwV 0 hts gw_cn_nextWide_0 rfl rfl rfl (by decide +kernel) ⟨Nat.le_of_ble_eq_true rfl, Nat.le_of_ble_eq_true rfl⟩) 0 (ci := 15) (T := TX12) (N := 92) rfl rfl rfl hl.1 rfl (Nat.le_of_ble_eq_true rfl) dX12_nextWide_13 ⟨Nat.le_of_ble_eq_true rfl, Nat.le_of_ble_eq_true rfl⟩ (fun rr_10 uu_11 H locs hp_12 hw => ?_)
  subst hp_12
  have hw : hk_W D [(cI, .int), (cJ, .long)] _ s _ _ (mw cI cJ ad g lg ar bk) := hw
  refine lv_i2l (v := (0 : Int32).toInt64) hx hb dX12_nextWide_16 rfl ?_
  refine hk_topl 0 (by decide +kernel) ?_
  refine lv_bipush (v := 8) hx hb dX12_nextWide_17 (by decide) ?_
  refine lv_iload hx hb dX12_nextWide_19 (lv_at hl 0 rfl) ?_
  refine lv_imul hx hb dX12_nextWide_21 ?_
  refine hk_topi 16 (by decide +kernel) ?_
  refine lv_lshl (v := ((0 : Int64) <<< ((16 : Int32).toInt64 &&& 63))) hx hb dX12_nextWide_22 rfl ?_
  refine hk_topl 0 (by decide +kernel) ?_
  refine lv_lor hx hb dX12_nextWide_23 ?_
  refine hk_topl 0 (by decide +kernel) ?_
  refine lv_lstore_n (lv' := [(2, .long 0), (4, .int 2), (0, .ref (ad 0)), (1, .int 4)]) hx hb dX12_nextWide_24 rfl hl (by decide) rfl (fun ls hl => ?_)
  refine lv_iinc (v := 3) (lv' := [(4, .int 3), (2, .long 0), (0, .ref (ad 0)), (1, .int 4)]) hx hb dX12_nextWide_25 hl (k := 1) rfl rfl (by decide) rfl (fun ls hl => ?_)
  refine lv_goto (tgt := 5) hx hb dX12_nextWide_28 (by decide) ?_
  refine lv_iload hx hb dX12_nextWide_5 (lv_at hl 0 rfl) ?_
  refine lv_iload_n hx hb dX12_nextWide_7 rfl (lv_at hl 3 rfl) ?_
  refine lv_icmp_ge (tgt := 31) hx hb dX12_nextWide_8 (by decide) (fun cc_13 => absurd cc_13 (by decide)) (fun _ => ?_)
  refine lv_lload_n hx hb dX12_nextWide_11 rfl (lv_at hl 1 rfl) ?_
  refine lv_aload_n hx hb dX12_nextWide_12 rfl (lv_at hl 2 rfl) ?_
  refine hk_Vi (As := []) (rest := [.long 0]) ⟨hx, hb, hml, hown, hts⟩ hw hA (cn_next1 l D cI cJ ad g lg ar bk _ h51) (cwV 0 hts gw_cn_nextWide_0 rfl rfl rfl (by decide +kernel) ⟨Nat.le_of_ble_eq_true rfl, Nat.le_of_ble_eq_true rfl⟩) 0 (ci := 15) (T := TX12) (N := 92) rfl rfl rfl hl.1 rfl (Nat.le_of_ble_eq_true rfl) dX12_nextWide_13 ⟨Nat.le_of_ble_eq_true rfl, Nat.le_of_ble_eq_true rfl⟩ (fun rr_14 uu_15 H locs hp_16 hw => ?_)
  subst hp_16
  have hw : hk_W D [(cI, .int), (cJ, .long)] _ s _ _ (mw cI cJ ad g lg ar bk) := hw
  refine lv_i2l (v := (0 : Int32).toInt64) hx hb dX12_nextWide_16 rfl ?_
  refine hk_topl 0 (by decide +kernel) ?_
  refine lv_bipush (v := 8) hx hb dX12_nextWide_17 (by decide) ?_
  refine lv_iload hx hb dX12_nextWide_19 (lv_at hl 0 rfl) ?_
  refine lv_imul hx hb dX12_nextWide_21 ?_
  refine hk_topi 24 (by decide +kernel) ?_
  refine lv_lshl (v := ((0 : Int64) <<< ((24 : Int32).toInt64 &&& 63))) hx hb dX12_nextWide_22 rfl ?_
  refine hk_topl 0 (by decide +kernel) ?_
  refine lv_lor hx hb dX12_nextWide_23 ?_
  refine hk_topl 0 (by decide +kernel) ?_
  refine lv_lstore_n (lv' := [(2, .long 0), (4, .int 3), (0, .ref (ad 0)), (1, .int 4)]) hx hb dX12_nextWide_24 rfl hl (by decide) rfl (fun ls hl => ?_)
  refine lv_iinc (v := 4) (lv' := [(4, .int 4), (2, .long 0), (0, .ref (ad 0)), (1, .int 4)]) hx hb dX12_nextWide_25 hl (k := 1) rfl rfl (by decide) rfl (fun ls hl => ?_)
  refine lv_goto (tgt := 5) hx hb dX12_nextWide_28 (by decide) ?_
  refine lv_iload hx hb dX12_nextWide_5 (lv_at hl 0 rfl) ?_
  refine lv_iload_n hx hb dX12_nextWide_7 rfl (lv_at hl 3 rfl) ?_
  refine lv_icmp_ge (tgt := 31) hx hb dX12_nextWide_8 (by decide) (fun _ => ?_) (fun cc_17 => absurd (by decide) cc_17)
  refine lv_lload_n hx hb dX12_nextWide_31 rfl (lv_at hl 1 rfl) ?_
  exact hk_lret (u := ()) hx hb hr hlocks (hw) (trivial) dX12_nextWide_32

def ww_cn_wantSum : List Cond := Cond.code yX12_wantSum cX12_wantSum 3 none :: ([Cond.methodLink RX12 546 yX12_nextWide, Cond.instanceMethod yX12_nextWide, Cond.selects RX12 yX12_nextWide yX12_nextWide, Cond.initialized RX12, Cond.code yX12_nextWide cX12_nextWide 5 (some .long), Cond.methodLink RX12 482 yX12_next, Cond.instanceMethod yX12_next, Cond.selects RX12 yX12_next yX12_next, Cond.code yX12_next cX12_next 1 (some .int), Cond.fieldLink RX12 470 "LzmaChainsModel" "broken" "I"] ++ (wsX120 ++ ([])))
set_option maxRecDepth 20000 in
theorem gw_cn_wantSum_0 : GoodIn ww_cn_wantSum (wsV RX12 546 RX12 yX12_nextWide ww_cn_nextWide) := goodIn_r _ [1, 2, 3, 4, 5, 6, 7, 8, 4, 9, 10, 11, 12, 13, 14, 15, 16, 17, 18, 19, 20, 21, 22, 23, 24, 25, 26, 27, 28, 29, 30, 31, 32, 33, 34, 35, 36, 37, 38, 39, 40, 41, 42, 43, 44, 45, 46, 47, 48, 49, 50, 51, 52, 53, 54, 55, 56, 57, 58, 59, 60, 61, 62, 63, 64, 65, 66, 67, 68, 69, 70, 71, 72, 73, 74, 75, 76, 77, 78, 79, 80, 81, 82, 83, 84, 85, 86, 87, 88, 89, 90, 91, 92, 93, 94, 95, 96, 97, 98, 99, 100, 101, 102] rfl (by decide +kernel)
set_option maxHeartbeats 4000000 in
set_option maxRecDepth 100000 in
/-- the reference: wantSum, broken -/
theorem cn_wantSum (l : Launch) (D : va_G) (cI cJ : ClassId) (ad : Nat → Nat) (g : Nat → Int32) (lg : Nat → Int64) (ar : Nat → Nat → Int32) (bk : Nat → Int64) (sz : Nat) (n : Int32) (h51 : g 51 = 1) : Met l yX12_wantSum ww_cn_wantSum { frames := 2, cells := 0, slots := 0, locals := 44 } (va_Pc [.ref (ad 0), .int n] (hk_B D [(cI, .int), (cJ, .long)] sz (mw cI cJ ad g lg ar bk))) (va_Qv (fun u : Unit => True) (fun u : Unit => hk_E D [(cI, .int), (cJ, .long)] (va_A (mw cI cJ ad g lg ar bk) sz) (mw cI cJ ad g lg ar bk)) (va_A (mw cI cJ ad g lg ar bk) sz)) 0 0 (va_A (mw cI cJ ad g lg ar bk) sz) := by
  refine hk_met (cc := cX12_wantSum) (maxL := 3) (ret := none) (by decide) rfl (Nat.le_of_ble_eq_true rfl) ?_
  intro p e s m below meth c ls hx hb hr hml hown hts hlocks hin hA hw hl
  have iX12 : ∀ w ∈ wsX120, w ∈ ww_cn_wantSum := fun _ h => List.mem_cons_of_mem _ (List.mem_append_right _ (List.mem_append_left _ h))
  have hl : lv_has ls 3 [(0, .ref (ad 0)), (1, .int n)] := hl
  refine lv_aload_n hx hb dX12_wantSum_0 rfl (lv_at hl 0 rfl) ?_
  refine lv_iconst (v := 4) hx hb dX12_wantSum_1 (by decide) ?_
  refine hk_Vl (As := [.int 4]) (rest := []) ⟨hx, hb, hml, hown, hts⟩ hw hA (cn_nextWide l D cI cJ ad g lg ar bk _ h51) (cwV 1 hts gw_cn_wantSum_0 rfl rfl rfl (by decide +kernel) ⟨Nat.le_of_ble_eq_true rfl, Nat.le_of_ble_eq_true rfl⟩) 0 (ci := 15) (T := TX12) (N := 92) rfl rfl rfl hl.1 rfl (Nat.le_of_ble_eq_true rfl) dX12_wantSum_2 ⟨Nat.le_of_ble_eq_true rfl, Nat.le_of_ble_eq_true rfl⟩ (fun rr_1 uu_2 H locs hp_3 hw => ?_)
  have hw : hk_W D [(cI, .int), (cJ, .long)] _ s _ _ (mw cI cJ ad g lg ar bk) := hw
  refine lv_l2i (v := (rr_1 : Int64).toInt32) hx hb dX12_wantSum_5 rfl ?_
  refine lv_istore_n (lv' := [(2, .int ((rr_1 : Int64).toInt32)), (0, .ref (ad 0)), (1, .int n)]) hx hb dX12_wantSum_6 rfl hl (by decide) rfl (fun ls hl => ?_)
  refine lv_aload_n hx hb dX12_wantSum_7 rfl (lv_at hl 1 rfl) ?_
  refine hk_get (ci := 15) (C := RX12) (T := TX12) (N := 92) (v := .int 1) hx hb hts iX12 hown hw 0 rfl rfl 78 (by decide) (hts _ (List.mem_of_getElem? (i := 10) rfl)) (congrArg (fun z => some (Value.int z)) h51) dX12_wantSum_8 ?_
  refine lv_if_ne (tgt := 25) hx hb dX12_wantSum_11 (by decide) (fun _ => ?_) (fun cc_4 => absurd cc_4 (by decide))
  exact hk_vret (u := ()) hx hb hr hlocks (hw) (trivial) dX12_wantSum_25

def ww_cn_openBox : List Cond := Cond.code yX12_openBox cX12_openBox 5 none :: ([Cond.methodLink RX12 566 yX12_magic, Cond.static yX12_magic, Cond.initialized RX12, Cond.code yX12_magic cX12_magic 1 (some .int), Cond.methodLink RX12 569 yX12_wantByte, Cond.instanceMethod yX12_wantByte, Cond.selects RX12 yX12_wantByte yX12_wantByte, Cond.code yX12_wantByte cX12_wantByte 4 none, Cond.methodLink RX12 482 yX12_next, Cond.instanceMethod yX12_next, Cond.selects RX12 yX12_next yX12_next, Cond.code yX12_next cX12_next 1 (some .int), Cond.fieldLink RX12 470 "LzmaChainsModel" "broken" "I", Cond.fieldLink RX12 473 "LzmaChainsModel" "at" "I", Cond.fieldLink RX12 476 "LzmaChainsModel" "limit" "I", Cond.methodLink RX12 479 yX12_fail, Cond.instanceMethod yX12_fail, Cond.selects RX12 yX12_fail yX12_fail, Cond.code yX12_fail cX12_fail 2 none, Cond.fieldLink RX12 572 "LzmaChainsModel" "boxKind" "I", Cond.methodLink RX12 575 yX12_sum, Cond.instanceMethod yX12_sum, Cond.selects RX12 yX12_sum yX12_sum, Cond.code yX12_sum cX12_sum 4 (some .int), Cond.methodLink RX12 174 yX12_begin32, Cond.instanceMethod yX12_begin32, Cond.selects RX12 yX12_begin32 yX12_begin32, Cond.code yX12_begin32 cX12_begin32 1 none, Cond.fieldLink RX12 132 "LzmaChainsModel" "sum32" "I", Cond.methodLink RX12 195 yX12_end32, Cond.instanceMethod yX12_end32, Cond.selects RX12 yX12_end32 yX12_end32, Cond.code yX12_end32 cX12_end32 1 (some .int), Cond.fieldLink RX12 28 "LzmaChainsModel" "in" "[I", Cond.methodLink RX12 182 yX12_add32, Cond.instanceMethod yX12_add32, Cond.selects RX12 yX12_add32 yX12_add32, Cond.code yX12_add32 cX12_add32 2 none, Cond.fieldLink RX12 35 "LzmaChainsModel" "table32" "[I", Cond.methodLink RX12 578 yX12_wantSum, Cond.instanceMethod yX12_wantSum, Cond.selects RX12 yX12_wantSum yX12_wantSum, Cond.code yX12_wantSum cX12_wantSum 3 none, Cond.methodLink RX12 546 yX12_nextWide, Cond.instanceMethod yX12_nextWide, Cond.selects RX12 yX12_nextWide yX12_nextWide, Cond.code yX12_nextWide cX12_nextWide 5 (some .long)] ++ (wsX120 ++ ([])))
set_option maxRecDepth 20000 in
theorem gw_cn_openBox_0 : GoodIn ww_cn_openBox (va_wsS RX12 566 yX12_magic ww_cn_magic) := goodIn_r _ [1, 2, 3, 4] rfl (by decide +kernel)
set_option maxRecDepth 20000 in
theorem gw_cn_openBox_1 : GoodIn ww_cn_openBox (wsV RX12 569 RX12 yX12_wantByte ww_cn_want0) := goodIn_r _ [5, 6, 7, 3, 8, 9, 10, 11, 3, 12, 13, 14, 15, 16, 17, 18, 19, 48, 49, 50, 51, 52, 53, 54, 55, 56, 57, 58, 59, 60, 61, 62, 63, 64, 65, 66, 67, 68, 69, 70, 71, 72, 73, 74, 75, 76, 77, 78, 79, 80, 81, 82, 83, 84, 85, 86, 87, 88, 89, 90, 91, 92, 93, 94, 95, 96, 97, 98, 99, 100, 101, 102, 103, 104, 105, 106, 107, 108, 109, 110, 111, 112, 113, 114, 115, 116, 117, 118, 119, 120, 121, 122, 123, 124, 125, 126, 127, 128, 129, 130, 131, 132, 133, 134, 135, 136, 137, 138, 139] rfl (by decide +kernel)
set_option maxRecDepth 20000 in
theorem gw_cn_openBox_2 : GoodIn ww_cn_openBox (wsV RX12 569 RX12 yX12_wantByte ww_cn_want1) := goodIn_r _ [5, 6, 7, 3, 8, 9, 10, 11, 3, 12, 13, 48, 49, 50, 51, 52, 53, 54, 55, 56, 57, 58, 59, 60, 61, 62, 63, 64, 65, 66, 67, 68, 69, 70, 71, 72, 73, 74, 75, 76, 77, 78, 79, 80, 81, 82, 83, 84, 85, 86, 87, 88, 89, 90, 91, 92, 93, 94, 95, 96, 97, 98, 99, 100, 101, 102, 103, 104, 105, 106, 107, 108, 109, 110, 111, 112, 113, 114, 115, 116, 117, 118, 119, 120, 121, 122, 123, 124, 125, 126, 127, 128, 129, 130, 131, 132, 133, 134, 135, 136, 137, 138, 139] rfl (by decide +kernel)
set_option maxRecDepth 20000 in
theorem gw_cn_openBox_3 : GoodIn ww_cn_openBox (wsV RX12 482 RX12 yX12_next ww_cn_next1) := goodIn_r _ [9, 10, 11, 3, 12, 13, 48, 49, 50, 51, 52, 53, 54, 55, 56, 57, 58, 59, 60, 61, 62, 63, 64, 65, 66, 67, 68, 69, 70, 71, 72, 73, 74, 75, 76, 77, 78, 79, 80, 81, 82, 83, 84, 85, 86, 87, 88, 89, 90, 91, 92, 93, 94, 95, 96, 97, 98, 99, 100, 101, 102, 103, 104, 105, 106, 107, 108, 109, 110, 111, 112, 113, 114, 115, 116, 117, 118, 119, 120, 121, 122, 123, 124, 125, 126, 127, 128, 129, 130, 131, 132, 133, 134, 135, 136, 137, 138, 139] rfl (by decide +kernel)
set_option maxRecDepth 20000 in
theorem gw_cn_openBox_4 : GoodIn ww_cn_openBox (wsV RX12 575 RX12 yX12_sum ww_cn_sum) := goodIn_r _ [21, 22, 23, 3, 24, 25, 26, 27, 3, 28, 29, 30, 31, 32, 33, 34, 35, 36, 37, 38, 39, 48, 49, 50, 51, 52, 53, 54, 55, 56, 57, 58, 59, 60, 61, 62, 63, 64, 65, 66, 67, 68, 69, 70, 71, 72, 73, 74, 75, 76, 77, 78, 79, 80, 81, 82, 83, 84, 85, 86, 87, 88, 89, 90, 91, 92, 93, 94, 95, 96, 97, 98, 99, 100, 101, 102, 103, 104, 105, 106, 107, 108, 109, 110, 111, 112, 113, 114, 115, 116, 117, 118, 119, 120, 121, 122, 123, 124, 125, 126, 127, 128, 129, 130, 131, 132, 133, 134, 135, 136, 137, 138, 139] rfl (by decide +kernel)
set_option maxRecDepth 20000 in
theorem gw_cn_openBox_5 : GoodIn ww_cn_openBox (wsV RX12 578 RX12 yX12_wantSum ww_cn_wantSum) := goodIn_r _ [40, 41, 42, 3, 43, 44, 45, 46, 3, 47, 9, 10, 11, 12, 13, 48, 49, 50, 51, 52, 53, 54, 55, 56, 57, 58, 59, 60, 61, 62, 63, 64, 65, 66, 67, 68, 69, 70, 71, 72, 73, 74, 75, 76, 77, 78, 79, 80, 81, 82, 83, 84, 85, 86, 87, 88, 89, 90, 91, 92, 93, 94, 95, 96, 97, 98, 99, 100, 101, 102, 103, 104, 105, 106, 107, 108, 109, 110, 111, 112, 113, 114, 115, 116, 117, 118, 119, 120, 121, 122, 123, 124, 125, 126, 127, 128, 129, 130, 131, 132, 133, 134, 135, 136, 137, 138, 139] rfl (by decide +kernel)
set_option maxHeartbeats 4000000 in
set_option maxRecDepth 100000 in
/-- the reference: openBox, nothing is there -/
theorem cn_openBox (l : Launch) (D : va_G) (cI cJ : ClassId) (ad : Nat → Nat) (g : Nat → Int32) (lg : Nat → Int64) (ar : Nat → Nat → Int32) (bk : Nat → Int64) (sz : Nat) (mm : Int32) (h51 : g 51 = 0) (h49 : g 49 = 0) (h50 : g 50 = 0) : Met l yX12_openBox ww_cn_openBox { frames := 3, cells := 0, slots := 0, locals := 66 } (va_Pc [.ref (ad 0), .int mm] (hk_B D [(cI, .int), (cJ, .long)] sz (mw cI cJ ad g lg ar bk))) (va_Qv (fun u : Int32 => True) (fun u : Int32 => hk_E D [(cI, .int), (cJ, .long)] (va_A (mw cI cJ ad g lg ar bk) sz) (mw cI cJ ad (upd (upd (upd g 51 1) 57 0) 14 u) lg ar bk)) (va_A (mw cI cJ ad g lg ar bk) sz)) 0 0 (va_A (mw cI cJ ad g lg ar bk) sz) := by
  refine hk_met (cc := cX12_openBox) (maxL := 5) (ret := none) (by decide) rfl (Nat.le_of_ble_eq_true rfl) ?_
  intro p e s m below meth c ls hx hb hr hml hown hts hlocks hin hA hw hl
  have iX12 : ∀ w ∈ wsX120, w ∈ ww_cn_openBox := fun _ h => List.mem_cons_of_mem _ (List.mem_append_right _ (List.mem_append_left _ h))
  have hl : lv_has ls 5 [(0, .ref (ad 0)), (1, .int mm)] := hl
  refine lv_iconst (v := 0) hx hb dX12_openBox_0 (by decide) ?_
  refine lv_istore_n (lv' := [(2, .int 0), (0, .ref (ad 0)), (1, .int mm)]) hx hb dX12_openBox_1 rfl hl (by decide) rfl (fun ls hl => ?_)
  refine lv_iload_n hx hb dX12_openBox_2 rfl (lv_at hl 0 rfl) ?_
  refine lv_bipush (v := 6) hx hb dX12_openBox_3 (by decide) ?_
  refine lv_icmp_ge (tgt := 23) hx hb dX12_openBox_5 (by decide) (fun cc_1 => absurd cc_1 (by decide)) (fun _ => ?_)
  refine lv_aload_n hx hb dX12_openBox_8 rfl (lv_at hl 1 rfl) ?_
  refine lv_iload_n hx hb dX12_openBox_9 rfl (lv_at hl 0 rfl) ?_
  refine hk_Si (As := [.int 0]) (rest := [.ref (ad 0)]) ⟨hx, hb, hml, hown, hts⟩ hw hA (cn_magic l D cI cJ ad g lg ar bk _ 0) (va_cwS 1 hts gw_cn_openBox_0 rfl rfl rfl (by decide +kernel) ⟨Nat.le_of_ble_eq_true rfl, Nat.le_of_ble_eq_true rfl⟩) rfl hl.1 rfl (Nat.le_of_ble_eq_true rfl) dX12_openBox_10 ⟨Nat.le_of_ble_eq_true rfl, Nat.le_of_ble_eq_true rfl⟩ (fun rr_2 uu_3 H locs hp_4 hw => ?_)
  have hw : hk_W D [(cI, .int), (cJ, .long)] _ s _ _ (mw cI cJ ad g lg ar bk) := hw
  refine lv_iconst (v := 2) hx hb dX12_openBox_13 (by decide) ?_
  refine hk_Vv (As := [.int rr_2, .int 2]) (rest := []) ⟨hx, hb, hml, hown, hts⟩ hw hA (cn_want0 l D cI cJ ad g lg ar bk _ rr_2 2 h51 h49 h50) (cwV 2 hts gw_cn_openBox_1 rfl rfl rfl (by decide +kernel) ⟨Nat.le_of_ble_eq_true rfl, Nat.le_of_ble_eq_true rfl⟩) 0 (ci := 15) (T := TX12) (N := 92) rfl rfl rfl hl.1 rfl (Nat.le_of_ble_eq_true rfl) dX12_openBox_14 ⟨Nat.le_of_ble_eq_true rfl, Nat.le_of_ble_eq_true rfl⟩ (fun uu_6 H locs hp_7 hw => ?_)
  have hw : hk_W D [(cI, .int), (cJ, .long)] _ s _ _ (mw cI cJ ad (upd g 51 1) lg ar bk) := hw
  refine lv_iinc (v := 1) (lv' := [(2, .int 1), (0, .ref (ad 0)), (1, .int mm)]) hx hb dX12_openBox_17 hl (k := 0) rfl rfl (by decide) rfl (fun ls hl => ?_)
  refine lv_goto (tgt := 2) hx hb dX12_openBox_20 (by decide) ?_
  refine lv_iload_n hx hb dX12_openBox_2 rfl (lv_at hl 0 rfl) ?_
  refine lv_bipush (v := 6) hx hb dX12_openBox_3 (by decide) ?_
  refine lv_icmp_ge (tgt := 23) hx hb dX12_openBox_5 (by decide) (fun cc_8 => absurd cc_8 (by decide)) (fun _ => ?_)
  refine lv_aload_n hx hb dX12_openBox_8 rfl (lv_at hl 1 rfl) ?_
  refine lv_iload_n hx hb dX12_openBox_9 rfl (lv_at hl 0 rfl) ?_
  refine hk_Si (As := [.int 1]) (rest := [.ref (ad 0)]) ⟨hx, hb, hml, hown, hts⟩ hw hA (cn_magic l D cI cJ ad (upd g 51 1) lg ar bk _ 1) (va_cwS 1 hts gw_cn_openBox_0 rfl rfl rfl (by decide +kernel) ⟨Nat.le_of_ble_eq_true rfl, Nat.le_of_ble_eq_true rfl⟩) rfl hl.1 rfl (Nat.le_of_ble_eq_true rfl) dX12_openBox_10 ⟨Nat.le_of_ble_eq_true rfl, Nat.le_of_ble_eq_true rfl⟩ (fun rr_9 uu_10 H locs hp_11 hw => ?_)
  have hw : hk_W D [(cI, .int), (cJ, .long)] _ s _ _ (mw cI cJ ad (upd g 51 1) lg ar bk) := hw
  refine lv_iconst (v := 2) hx hb dX12_openBox_13 (by decide) ?_
  refine hk_Vv (As := [.int rr_9, .int 2]) (rest := []) ⟨hx, hb, hml, hown, hts⟩ hw hA (cn_want1 l D cI cJ ad (upd g 51 1) lg ar bk _ rr_9 2 rfl) (cwV 2 hts gw_cn_openBox_2 rfl rfl rfl (by decide +kernel) ⟨Nat.le_of_ble_eq_true rfl, Nat.le_of_ble_eq_true rfl⟩) 0 (ci := 15) (T := TX12) (N := 92) rfl rfl rfl hl.1 rfl (Nat.le_of_ble_eq_true rfl) dX12_openBox_14 ⟨Nat.le_of_ble_eq_true rfl, Nat.le_of_ble_eq_true rfl⟩ (fun uu_13 H locs hp_14 hw => ?_)
  have hw : hk_W D [(cI, .int), (cJ, .long)] _ s _ _ (mw cI cJ ad (upd g 51 1) lg ar bk) := hw
  refine lv_iinc (v := 2) (lv' := [(2, .int 2), (0, .ref (ad 0)), (1, .int mm)]) hx hb dX12_openBox_17 hl (k := 0) rfl rfl (by decide) rfl (fun ls hl => ?_)
  refine lv_goto (tgt := 2) hx hb dX12_openBox_20 (by decide) ?_
  refine lv_iload_n hx hb dX12_openBox_2 rfl (lv_at hl 0 rfl) ?_
  refine lv_bipush (v := 6) hx hb dX12_openBox_3 (by decide) ?_
  refine lv_icmp_ge (tgt := 23) hx hb dX12_openBox_5 (by decide) (fun cc_15 => absurd cc_15 (by decide)) (fun _ => ?_)
  refine lv_aload_n hx hb dX12_openBox_8 rfl (lv_at hl 1 rfl) ?_
  refine lv_iload_n hx hb dX12_openBox_9 rfl (lv_at hl 0 rfl) ?_
  refine hk_Si (As := [.int 2]) (rest := [.ref (ad 0)]) ⟨hx, hb, hml, hown, hts⟩ hw hA (cn_magic l D cI cJ ad (upd g 51 1) lg ar bk _ 2) (va_cwS 1 hts gw_cn_openBox_0 rfl rfl rfl (by decide +kernel) ⟨Nat.le_of_ble_eq_true rfl, Nat.le_of_ble_eq_true rfl⟩) rfl hl.1 rfl (Nat.le_of_ble_eq_true rfl) dX12_openBox_10 ⟨Nat.le_of_ble_eq_true rfl, Nat.le_of_ble_eq_true rfl⟩ (fun rr_16 uu_17 H locs hp_18 hw => ?_)
  have hw : hk_W D [(cI, .int), (cJ, .long)] _ s _ _ (mw cI cJ ad (upd g 51 1) lg ar bk) := hw
  refine lv_iconst (v := 2) hx hb dX12_openBox_13 (by decide) ?_
  refine hk_Vv (As := [.int rr_16, .int 2]) (rest := []) ⟨hx, hb, hml, hown, hts⟩ hw hA (cn_want1 l D cI cJ ad (upd g 51 1) lg ar bk _ rr_16 2 rfl) (cwV 2 hts gw_cn_openBox_2 rfl rfl rfl (by decide +kernel) ⟨Nat.le_of_ble_eq_true rfl, Nat.le_of_ble_eq_true rfl⟩) 0 (ci := 15) (T := TX12) (N := 92) rfl rfl rfl hl.1 rfl (Nat.le_of_ble_eq_true rfl) dX12_openBox_14 ⟨Nat.le_of_ble_eq_true rfl, Nat.le_of_ble_eq_true rfl⟩ (fun uu_20 H locs hp_21 hw => ?_)
  have hw : hk_W D [(cI, .int), (cJ, .long)] _ s _ _ (mw cI cJ ad (upd g 51 1) lg ar bk) := hw
  refine lv_iinc (v := 3) (lv' := [(2, .int 3), (0, .ref (ad 0)), (1, .int mm)]) hx hb dX12_openBox_17 hl (k := 0) rfl rfl (by decide) rfl (fun ls hl => ?_)
  refine lv_goto (tgt := 2) hx hb dX12_openBox_20 (by decide) ?_
  refine lv_iload_n hx hb dX12_openBox_2 rfl (lv_at hl 0 rfl) ?_
  refine lv_bipush (v := 6) hx hb dX12_openBox_3 (by decide) ?_
  refine lv_icmp_ge (tgt := 23) hx hb dX12_openBox_5 (by decide) (fun cc_22 => absurd cc_22 (by decide)) (fun _ => ?_)
  refine lv_aload_n hx hb dX12_openBox_8 rfl (lv_at hl 1 rfl) ?_
  refine lv_iload_n hx hb dX12_openBox_9 rfl (lv_at hl 0 rfl) ?_
  refine hk_Si (As := [.int 3]) (rest := [.ref (ad 0)]) ⟨hx, hb, hml, hown, hts⟩ hw hA (cn_magic l D cI cJ ad (upd g 51 1) lg ar bk _ 3) (va_cwS 1 hts gw_cn_openBox_0 rfl rfl rfl (by decide +kernel) ⟨Nat.le_of_ble_eq_true rfl, Nat.le_of_ble_eq_true rfl⟩) rfl hl.1 rfl (Nat.le_of_ble_eq_true rfl) dX12_openBox_10 ⟨Nat.le_of_ble_eq_true rfl, Nat.le_of_ble_eq_true rfl⟩ (fun rr_23 uu_24 H locs hp_25 hw => ?_)
  have hw : hk_W D [(cI, .int), (cJ, .long)] _ s _ _ (mw cI cJ ad (upd g 51 1) lg ar bk) := hw
  refine lv_iconst (v := 2) hx hb dX12_openBox_13 (by decide) ?_
  refine hk_Vv (As := [.int rr_23, .int 2]) (rest := []) ⟨hx, hb, hml, hown, hts⟩ hw hA (cn_want1 l D cI cJ ad (upd g 51 1) lg ar bk _ rr_23 2 rfl) (cwV 2 hts gw_cn_openBox_2 rfl rfl rfl (by decide +kernel) ⟨Nat.le_of_ble_eq_true rfl, Nat.le_of_ble_eq_true rfl⟩) 0 (ci := 15) (T := TX12) (N := 92) rfl rfl rfl hl.1 rfl (Nat.le_of_ble_eq_true rfl) dX12_openBox_14 ⟨Nat.le_of_ble_eq_true rfl, Nat.le_of_ble_eq_true rfl⟩ (fun uu_27 H locs hp_28 hw => ?_)
  have hw : hk_W D [(cI, .int), (cJ, .long)] _ s _ _ (mw cI cJ ad (upd g 51 1) lg ar bk) := hw
  refine lv_iinc (v := 4) (lv' := [(2, .int 4), (0, .ref (ad 0)), (1, .int mm)]) hx hb dX12_openBox_17 hl (k := 0) rfl rfl (by decide) rfl (fun ls hl => ?_)
  refine lv_goto (tgt := 2) hx hb dX12_openBox_20 (by decide) ?_
  refine lv_iload_n hx hb dX12_openBox_2 rfl (lv_at hl 0 rfl) ?_
  refine lv_bipush (v := 6) hx hb dX12_openBox_3 (by decide) ?_
  refine lv_icmp_ge (tgt := 23) hx hb dX12_openBox_5 (by decide) (fun cc_29 => absurd cc_29 (by decide)) (fun _ => ?_)
  refine lv_aload_n hx hb dX12_openBox_8 rfl (lv_at hl 1 rfl) ?_
  refine lv_iload_n hx hb dX12_openBox_9 rfl (lv_at hl 0 rfl) ?_
  refine hk_Si (As := [.int 4]) (rest := [.ref (ad 0)]) ⟨hx, hb, hml, hown, hts⟩ hw hA (cn_magic l D cI cJ ad (upd g 51 1) lg ar bk _ 4) (va_cwS 1 hts gw_cn_openBox_0 rfl rfl rfl (by decide +kernel) ⟨Nat.le_of_ble_eq_true rfl, Nat.le_of_ble_eq_true rfl⟩) rfl hl.1 rfl (Nat.le_of_ble_eq_true rfl) dX12_openBox_10 ⟨Nat.le_of_ble_eq_true rfl, Nat.le_of_ble_eq_true rfl⟩ (fun rr_30 uu_31 H locs hp_32 hw => ?_)
  have hw : hk_W D [(cI, .int), (cJ, .long)] _ s _ _ (mw cI cJ ad (upd g 51 1) lg ar bk) := hw
  refine lv_iconst (v := 2) hx hb dX12_openBox_13 (by decide) ?_
  refine hk_Vv (As := [.int rr_30, .int 2]) (rest := []) ⟨hx, hb, hml, hown, hts⟩ hw hA (cn_want1 l D cI cJ ad (upd g 51 1) lg ar bk _ rr_30 2 rfl) (cwV 2 hts gw_cn_openBox_2 rfl rfl rfl (by decide +kernel) ⟨Nat.le_of_ble_eq_true rfl, Nat.le_of_ble_eq_true rfl⟩) 0 (ci := 15) (T := TX12) (N := 92) rfl rfl rfl hl.1 rfl (Nat.le_of_ble_eq_true rfl) dX12_openBox_14 ⟨Nat.le_of_ble_eq_true rfl, Nat.le_of_ble_eq_true rfl⟩ (fun uu_34 H locs hp_35 hw => ?_)
  have hw : hk_W D [(cI, .int), (cJ, .long)] _ s _ _ (mw cI cJ ad (upd g 51 1) lg ar bk) := hw
  refine lv_iinc (v := 5) (lv' := [(2, .int 5), (0, .ref (ad 0)), (1, .int mm)]) hx hb dX12_openBox_17 hl (k := 0) rfl rfl (by decide) rfl (fun ls hl => ?_)
  refine lv_goto (tgt := 2) hx hb dX12_openBox_20 (by decide) ?_
  refine lv_iload_n hx hb dX12_openBox_2 rfl (lv_at hl 0 rfl) ?_
  refine lv_bipush (v := 6) hx hb dX12_openBox_3 (by decide) ?_
  refine lv_icmp_ge (tgt := 23) hx hb dX12_openBox_5 (by decide) (fun cc_36 => absurd cc_36 (by decide)) (fun _ => ?_)
  refine lv_aload_n hx hb dX12_openBox_8 rfl (lv_at hl 1 rfl) ?_
  refine lv_iload_n hx hb dX12_openBox_9 rfl (lv_at hl 0 rfl) ?_
  refine hk_Si (As := [.int 5]) (rest := [.ref (ad 0)]) ⟨hx, hb, hml, hown, hts⟩ hw hA (cn_magic l D cI cJ ad (upd g 51 1) lg ar bk _ 5) (va_cwS 1 hts gw_cn_openBox_0 rfl rfl rfl (by decide +kernel) ⟨Nat.le_of_ble_eq_true rfl, Nat.le_of_ble_eq_true rfl⟩) rfl hl.1 rfl (Nat.le_of_ble_eq_true rfl) dX12_openBox_10 ⟨Nat.le_of_ble_eq_true rfl, Nat.le_of_ble_eq_true rfl⟩ (fun rr_37 uu_38 H locs hp_39 hw => ?_)
  have hw : hk_W D [(cI, .int), (cJ, .long)] _ s _ _ (mw cI cJ ad (upd g 51 1) lg ar bk) := hw
  refine lv_iconst (v := 2) hx hb dX12_openBox_13 (by decide) ?_
  refine hk_Vv (As := [.int rr_37, .int 2]) (rest := []) ⟨hx, hb, hml, hown, hts⟩ hw hA (cn_want1 l D cI cJ ad (upd g 51 1) lg ar bk _ rr_37 2 rfl) (cwV 2 hts gw_cn_openBox_2 rfl rfl rfl (by decide +kernel) ⟨Nat.le_of_ble_eq_true rfl, Nat.le_of_ble_eq_true rfl⟩) 0 (ci := 15) (T := TX12) (N := 92) rfl rfl rfl hl.1 rfl (Nat.le_of_ble_eq_true rfl) dX12_openBox_14 ⟨Nat.le_of_ble_eq_true rfl, Nat.le_of_ble_eq_true rfl⟩ (fun uu_41 H locs hp_42 hw => ?_)
  have hw : hk_W D [(cI, .int), (cJ, .long)] _ s _ _ (mw cI cJ ad (upd g 51 1) lg ar bk) := hw
  refine lv_iinc (v := 6) (lv' := [(2, .int 6), (0, .ref (ad 0)), (1, .int mm)]) hx hb dX12_openBox_17 hl (k := 0) rfl rfl (by decide) rfl (fun ls hl => ?_)
  refine lv_goto (tgt := 2) hx hb dX12_openBox_20 (by decide) ?_
  refine lv_iload_n hx hb dX12_openBox_2 rfl (lv_at hl 0 rfl) ?_
  refine lv_bipush (v := 6) hx hb dX12_openBox_3 (by decide) ?_
  refine lv_icmp_ge (tgt := 23) hx hb dX12_openBox_5 (by decide) (fun _ => ?_) (fun cc_43 => absurd (by decide) cc_43)
  refine lv_aload_n hx hb dX12_openBox_23 rfl (lv_at hl 1 rfl) ?_
  refine lv_iconst (v := 0) hx hb dX12_openBox_24 (by decide) ?_
  refine lv_bipush (v := 8) hx hb dX12_openBox_25 (by decide) ?_
  refine hk_Vv (As := [.int 0, .int 8]) (rest := []) ⟨hx, hb, hml, hown, hts⟩ hw hA (cn_want1 l D cI cJ ad (upd g 51 1) lg ar bk _ 0 8 rfl) (cwV 2 hts gw_cn_openBox_2 rfl rfl rfl (by decide +kernel) ⟨Nat.le_of_ble_eq_true rfl, Nat.le_of_ble_eq_true rfl⟩) 0 (ci := 15) (T := TX12) (N := 92) rfl rfl rfl hl.1 rfl (Nat.le_of_ble_eq_true rfl) dX12_openBox_27 ⟨Nat.le_of_ble_eq_true rfl, Nat.le_of_ble_eq_true rfl⟩ (fun uu_45 H locs hp_46 hw => ?_)
  have hw : hk_W D [(cI, .int), (cJ, .long)] _ s _ _ (mw cI cJ ad (upd g 51 1) lg ar bk) := hw
  refine lv_aload_n hx hb dX12_openBox_30 rfl (lv_at hl 1 rfl) ?_
  refine lv_aload_n hx hb dX12_openBox_31 rfl (lv_at hl 1 rfl) ?_
  refine hk_Vi (As := []) (rest := [.ref (ad 0)]) ⟨hx, hb, hml, hown, hts⟩ hw hA (cn_next1 l D cI cJ ad (upd g 51 1) lg ar bk _ rfl) (cwV 0 hts gw_cn_openBox_3 rfl rfl rfl (by decide +kernel) ⟨Nat.le_of_ble_eq_true rfl, Nat.le_of_ble_eq_true rfl⟩) 0 (ci := 15) (T := TX12) (N := 92) rfl rfl rfl hl.1 rfl (Nat.le_of_ble_eq_true rfl) dX12_openBox_32 ⟨Nat.le_of_ble_eq_true rfl, Nat.le_of_ble_eq_true rfl⟩ (fun rr_47 uu_48 H locs hp_49 hw => ?_)
  subst hp_49
  have hw : hk_W D [(cI, .int), (cJ, .long)] _ s _ _ (mw cI cJ ad (upd g 51 1) lg ar bk) := hw
  refine hk_put (ci := 15) (C := RX12) (T := TX12) (N := 92) (ty := .int) (v := .int 0) hx hb hts iX12 tyX12 tyX12_ok nmX12 hown hw 0 rfl rfl 86 (by decide) (hts _ (List.mem_of_getElem? (i := 20) rfl)) rfl (by decide +kernel) rfl rfl (Nat.le_of_ble_eq_true rfl) dX12_openBox_35 (ws' := mw cI cJ ad (upd (upd g 51 1) 57 0) lg ar bk) rfl (fun H locs hw => ?_)
  refine lv_aload_n hx hb dX12_openBox_38 rfl (lv_at hl 1 rfl) ?_
  refine hk_get (ci := 15) (C := RX12) (T := TX12) (N := 92) (v := .int 1) hx hb hts iX12 hown hw 0 rfl rfl 78 (by decide) (hts _ (List.mem_of_getElem? (i := 13) rfl)) rfl dX12_openBox_39 ?_
  refine lv_if_ne (tgt := 68) hx hb dX12_openBox_42 (by decide) (fun _ => ?_) (fun cc_50 => absurd cc_50 (by decide))
  refine lv_aload_n hx hb dX12_openBox_68 rfl (lv_at hl 1 rfl) ?_
  refine lv_aload_n hx hb dX12_openBox_69 rfl (lv_at hl 1 rfl) ?_
  refine lv_bipush (v := 6) hx hb dX12_openBox_70 (by decide) ?_
  refine lv_bipush (v := 8) hx hb dX12_openBox_72 (by decide) ?_
  refine hk_Vi (As := [.int 6, .int 8]) (rest := [.ref (ad 0)]) ⟨hx, hb, hml, hown, hts⟩ hw hA (cn_sum l D cI cJ ad (upd (upd g 51 1) 57 0) lg ar bk _ 6 8 (by decide) (by decide)) (cwV 2 hts gw_cn_openBox_4 rfl rfl rfl (by decide +kernel) ⟨Nat.le_of_ble_eq_true rfl, Nat.le_of_ble_eq_true rfl⟩) 0 (ci := 15) (T := TX12) (N := 92) rfl rfl rfl hl.1 rfl (Nat.le_of_ble_eq_true rfl) dX12_openBox_74 ⟨Nat.le_of_ble_eq_true rfl, Nat.le_of_ble_eq_true rfl⟩ (fun rr_51 uu_52 H locs hp_53 hw => ?_)
  have hw : hk_W D [(cI, .int), (cJ, .long)] _ s _ _ (mw cI cJ ad (upd (upd (upd g 51 1) 57 0) 14 uu_52) lg ar bk) := hw
  refine hk_Vv (As := [.int rr_51]) (rest := []) ⟨hx, hb, hml, hown, hts⟩ hw hA (cn_wantSum l D cI cJ ad (upd (upd (upd g 51 1) 57 0) 14 uu_52) lg ar bk _ rr_51 rfl) (cwV 1 hts gw_cn_openBox_5 rfl rfl rfl (by decide +kernel) ⟨Nat.le_of_ble_eq_true rfl, Nat.le_of_ble_eq_true rfl⟩) 0 (ci := 15) (T := TX12) (N := 92) rfl rfl rfl hl.1 rfl (Nat.le_of_ble_eq_true rfl) dX12_openBox_77 ⟨Nat.le_of_ble_eq_true rfl, Nat.le_of_ble_eq_true rfl⟩ (fun uu_55 H locs hp_56 hw => ?_)
  have hw : hk_W D [(cI, .int), (cJ, .long)] _ s _ _ (mw cI cJ ad (upd (upd (upd g 51 1) 57 0) 14 uu_52) lg ar bk) := hw
  refine lv_aload_n hx hb dX12_openBox_80 rfl (lv_at hl 1 rfl) ?_
  refine hk_get (ci := 15) (C := RX12) (T := TX12) (N := 92) (v := .int 1) hx hb hts iX12 hown hw 0 rfl rfl 78 (by decide) (hts _ (List.mem_of_getElem? (i := 13) rfl)) rfl dX12_openBox_81 ?_
  refine lv_if_ne (tgt := 91) hx hb dX12_openBox_84 (by decide) (fun _ => ?_) (fun cc_57 => absurd cc_57 (by decide))
  refine lv_iconst (v := 0) hx hb dX12_openBox_91 (by decide) ?_
  refine lv_istore_n (lv' := [(2, .int 0), (0, .ref (ad 0)), (1, .int mm)]) hx hb dX12_openBox_92 rfl hl (by decide) rfl (fun ls hl => ?_)
  refine lv_iload_n hx hb dX12_openBox_93 rfl (lv_at hl 0 rfl) ?_
  refine lv_if_eq (tgt := 155) hx hb dX12_openBox_94 (by decide) (fun _ => ?_) (fun cc_58 => absurd (by decide) cc_58)
  exact hk_vret (u := uu_52) hx hb hr hlocks (hw) (trivial) dX12_openBox_155

def ww_cm_open : List Cond := Cond.code yX12_open cX12_open 3 (some .int) :: ([Cond.fieldLink RX12 111 "LzmaChainsModel" "thrown" "I", Cond.methodLink RX12 461 yX12_clearTold, Cond.instanceMethod yX12_clearTold, Cond.selects RX12 yX12_clearTold yX12_clearTold, Cond.initialized RX12, Cond.code yX12_clearTold cX12_clearTold 1 none, Cond.fieldLink RX12 222 "LzmaChainsModel" "steps" "I", Cond.fieldLink RX12 228 "LzmaChainsModel" "blocks" "I", Cond.fieldLink RX12 372 "LzmaChainsModel" "stepBase" "I", Cond.fieldLink RX12 129 "LzmaChainsModel" "outSize" "I", Cond.fieldLink RX12 225 "LzmaChainsModel" "rule" "I", Cond.fieldLink RX12 473 "LzmaChainsModel" "at" "I", Cond.fieldLink RX12 126 "LzmaChainsModel" "inSize" "I", Cond.fieldLink RX12 476 "LzmaChainsModel" "limit" "I", Cond.fieldLink RX12 470 "LzmaChainsModel" "broken" "I", Cond.fieldLink RX12 208 "LzmaChainsModel" "srcSize" "I", Cond.fieldLink RX12 249 "LzmaChainsModel" "pos" "I", Cond.fieldLink RX12 505 "LzmaChainsModel" "outBase" "I", Cond.fieldLink RX12 508 "LzmaChainsModel" "dictionaryFrom" "I", Cond.fieldLink RX12 538 "LzmaChainsModel" "isMarked" "Z", Cond.fieldLink RX12 518 "LzmaChainsModel" "target" "I", Cond.methodLink RX12 407 yX12_freshState, Cond.instanceMethod yX12_freshState, Cond.selects RX12 yX12_freshState yX12_freshState, Cond.code yX12_freshState cX12_freshState 2 none, Cond.fieldLink RX12 231 "LzmaChainsModel" "st" "I", Cond.fieldLink RX12 234 "LzmaChainsModel" "back0" "I", Cond.fieldLink RX12 237 "LzmaChainsModel" "back1" "I", Cond.fieldLink RX12 240 "LzmaChainsModel" "back2" "I", Cond.fieldLink RX12 243 "LzmaChainsModel" "back3" "I", Cond.fieldLink RX12 80 "LzmaChainsModel" "chance" "[I", Cond.fieldLink RX12 107 "LzmaChainsModel" "form" "I", Cond.methodLink RX12 620 yX12_openBox, Cond.instanceMethod yX12_openBox, Cond.selects RX12 yX12_openBox yX12_openBox, Cond.code yX12_openBox cX12_openBox 5 none, Cond.methodLink RX12 566 yX12_magic, Cond.static yX12_magic, Cond.code yX12_magic cX12_magic 1 (some .int), Cond.methodLink RX12 569 yX12_wantByte, Cond.instanceMethod yX12_wantByte, Cond.selects RX12 yX12_wantByte yX12_wantByte, Cond.code yX12_wantByte cX12_wantByte 4 none, Cond.methodLink RX12 482 yX12_next, Cond.instanceMethod yX12_next, Cond.selects RX12 yX12_next yX12_next, Cond.code yX12_next cX12_next 1 (some .int), Cond.methodLink RX12 479 yX12_fail, Cond.instanceMethod yX12_fail, Cond.selects RX12 yX12_fail yX12_fail, Cond.code yX12_fail cX12_fail 2 none, Cond.fieldLink RX12 572 "LzmaChainsModel" "boxKind" "I", Cond.methodLink RX12 575 yX12_sum, Cond.instanceMethod yX12_sum, Cond.selects RX12 yX12_sum yX12_sum, Cond.code yX12_sum cX12_sum 4 (some .int), Cond.methodLink RX12 174 yX12_begin32, Cond.instanceMethod yX12_begin32, Cond.selects RX12 yX12_begin32 yX12_begin32, Cond.code yX12_begin32 cX12_begin32 1 none, Cond.fieldLink RX12 132 "LzmaChainsModel" "sum32" "I", Cond.methodLink RX12 195 yX12_end32, Cond.instanceMethod yX12_end32, Cond.selects RX12 yX12_end32 yX12_end32, Cond.code yX12_end32 cX12_end32 1 (some .int), Cond.fieldLink RX12 28 "LzmaChainsModel" "in" "[I", Cond.methodLink RX12 182 yX12_add32, Cond.instanceMethod yX12_add32, Cond.selects RX12 yX12_add32 yX12_add32, Cond.code yX12_add32 cX12_add32 2 none, Cond.fieldLink RX12 35 "LzmaChainsModel" "table32" "[I", Cond.methodLink RX12 578 yX12_wantSum, Cond.instanceMethod yX12_wantSum, Cond.selects RX12 yX12_wantSum yX12_wantSum, Cond.code yX12_wantSum cX12_wantSum 3 none, Cond.methodLink RX12 546 yX12_nextWide, Cond.instanceMethod yX12_nextWide, Cond.selects RX12 yX12_nextWide yX12_nextWide, Cond.code yX12_nextWide cX12_nextWide 5 (some .long), Cond.fieldLink RX12 77 "LzmaChainsModel" "told" "I", Cond.fieldLink RX12 16 "LzmaChainsModel" "dictionary" "I", Cond.fieldLink RX12 515 "LzmaChainsModel" "dictionarySize" "J", Cond.methodLink RX12 611 yX12_openChunks, Cond.instanceMethod yX12_openChunks, Cond.selects RX12 yX12_openChunks yX12_openChunks, Cond.code yX12_openChunks cX12_openChunks 4 none, Cond.fieldLink RX12 557 "LzmaChainsModel" "need" "I", Cond.fieldLink RX12 434 "LzmaChainsModel" "chunkCount" "I", Cond.fieldLink RX12 62 "LzmaChainsModel" "blockAt" "[I", Cond.fieldLink RX12 65 "LzmaChainsModel" "blockHead" "[I", Cond.fieldLink RX12 68 "LzmaChainsModel" "blockPacked" "[I", Cond.fieldLink RX12 71 "LzmaChainsModel" "blockSize" "[I", Cond.fieldLink RX12 74 "LzmaChainsModel" "blockChunks" "[I", Cond.methodLink RX12 617 yX12_openPlain, Cond.instanceMethod yX12_openPlain, Cond.selects RX12 yX12_openPlain yX12_openPlain, Cond.code yX12_openPlain cX12_openPlain 4 none, Cond.methodLink RX12 542 yX12_readProperty, Cond.instanceMethod yX12_readProperty, Cond.selects RX12 yX12_readProperty yX12_readProperty, Cond.code yX12_readProperty cX12_readProperty 2 (some .boolean)] ++ (wsX120 ++ ([])))
set_option maxRecDepth 20000 in
theorem gw_cm_open_0 : GoodIn ww_cm_open (wsV RX12 461 RX12 yX12_clearTold ww_cn_clear) := goodIn_r _ [2, 3, 4, 5, 6, 7, 8, 9, 10, 102, 103, 104, 105, 106, 107, 108, 109, 110, 111, 112, 113, 114, 115, 116, 117, 118, 119, 120, 121, 122, 123, 124, 125, 126, 127, 128, 129, 130, 131, 132, 133, 134, 135, 136, 137, 138, 139, 140, 141, 142, 143, 144, 145, 146, 147, 148, 149, 150, 151, 152, 153, 154, 155, 156, 157, 158, 159, 160, 161, 162, 163, 164, 165, 166, 167, 168, 169, 170, 171, 172, 173, 174, 175, 176, 177, 178, 179, 180, 181, 182, 183, 184, 185, 186, 187, 188, 189, 190, 191, 192, 193] rfl (by decide +kernel)
set_option maxRecDepth 20000 in
theorem gw_cm_open_1 : GoodIn ww_cm_open (wsV RX12 407 RX12 yX12_freshState ww_cn_fresh) := goodIn_r _ [22, 23, 24, 5, 25, 26, 27, 28, 29, 30, 31, 102, 103, 104, 105, 106, 107, 108, 109, 110, 111, 112, 113, 114, 115, 116, 117, 118, 119, 120, 121, 122, 123, 124, 125, 126, 127, 128, 129, 130, 131, 132, 133, 134, 135, 136, 137, 138, 139, 140, 141, 142, 143, 144, 145, 146, 147, 148, 149, 150, 151, 152, 153, 154, 155, 156, 157, 158, 159, 160, 161, 162, 163, 164, 165, 166, 167, 168, 169, 170, 171, 172, 173, 174, 175, 176, 177, 178, 179, 180, 181, 182, 183, 184, 185, 186, 187, 188, 189, 190, 191, 192, 193] rfl (by decide +kernel)
set_option maxRecDepth 20000 in
theorem gw_cm_open_2 : GoodIn ww_cm_open (wsV RX12 620 RX12 yX12_openBox ww_cn_openBox) := goodIn_r _ [33, 34, 35, 5, 36, 37, 38, 5, 39, 40, 41, 42, 43, 44, 45, 46, 47, 15, 12, 14, 48, 49, 50, 51, 52, 53, 54, 55, 56, 57, 58, 59, 60, 61, 62, 63, 64, 65, 66, 67, 68, 69, 70, 71, 72, 73, 74, 75, 76, 77, 78, 79, 102, 103, 104, 105, 106, 107, 108, 109, 110, 111, 112, 113, 114, 115, 116, 117, 118, 119, 120, 121, 122, 123, 124, 125, 126, 127, 128, 129, 130, 131, 132, 133, 134, 135, 136, 137, 138, 139, 140, 141, 142, 143, 144, 145, 146, 147, 148, 149, 150, 151, 152, 153, 154, 155, 156, 157, 158, 159, 160, 161, 162, 163, 164, 165, 166, 167, 168, 169, 170, 171, 172, 173, 174, 175, 176, 177, 178, 179, 180, 181, 182, 183, 184, 185, 186, 187, 188, 189, 190, 191, 192, 193] rfl (by decide +kernel)
set_option maxRecDepth 20000 in
theorem gw_cm_open_3 : GoodIn ww_cm_open (wsV RX12 611 RX12 yX12_openChunks ww_cn_openChunks) := goodIn_r _ [83, 84, 85, 5, 86, 87, 88, 16, 19, 22, 23, 24, 5, 25, 26, 27, 28, 29, 30, 31, 15, 44, 45, 46, 47, 12, 14, 48, 49, 50, 51, 102, 103, 104, 105, 106, 107, 108, 109, 110, 111, 112, 113, 114, 115, 116, 117, 118, 119, 120, 121, 122, 123, 124, 125, 126, 127, 128, 129, 130, 131, 132, 133, 134, 135, 136, 137, 138, 139, 140, 141, 142, 143, 144, 145, 146, 147, 148, 149, 150, 151, 152, 153, 154, 155, 156, 157, 158, 159, 160, 161, 162, 163, 164, 165, 166, 167, 168, 169, 170, 171, 172, 173, 174, 175, 176, 177, 178, 179, 180, 181, 182, 183, 184, 185, 186, 187, 188, 189, 190, 191, 192, 193] rfl (by decide +kernel)
set_option maxRecDepth 20000 in
theorem gw_cm_open_4 : GoodIn ww_cm_open (wsV RX12 479 RX12 yX12_fail ww_cn_fail) := goodIn_r _ [48, 49, 50, 5, 51, 15, 102, 103, 104, 105, 106, 107, 108, 109, 110, 111, 112, 113, 114, 115, 116, 117, 118, 119, 120, 121, 122, 123, 124, 125, 126, 127, 128, 129, 130, 131, 132, 133, 134, 135, 136, 137, 138, 139, 140, 141, 142, 143, 144, 145, 146, 147, 148, 149, 150, 151, 152, 153, 154, 155, 156, 157, 158, 159, 160, 161, 162, 163, 164, 165, 166, 167, 168, 169, 170, 171, 172, 173, 174, 175, 176, 177, 178, 179, 180, 181, 182, 183, 184, 185, 186, 187, 188, 189, 190, 191, 192, 193] rfl (by decide +kernel)
set_option maxRecDepth 20000 in
theorem gw_cm_open_5 : GoodIn ww_cm_open (wsV RX12 617 RX12 yX12_openPlain ww_cn_openPlain) := goodIn_r _ [94, 95, 96, 5, 97, 98, 99, 100, 5, 101, 44, 45, 46, 47, 15, 12, 14, 48, 49, 50, 51, 102, 103, 104, 105, 106, 107, 108, 109, 110, 111, 112, 113, 114, 115, 116, 117, 118, 119, 120, 121, 122, 123, 124, 125, 126, 127, 128, 129, 130, 131, 132, 133, 134, 135, 136, 137, 138, 139, 140, 141, 142, 143, 144, 145, 146, 147, 148, 149, 150, 151, 152, 153, 154, 155, 156, 157, 158, 159, 160, 161, 162, 163, 164, 165, 166, 167, 168, 169, 170, 171, 172, 173, 174, 175, 176, 177, 178, 179, 180, 181, 182, 183, 184, 185, 186, 187, 188, 189, 190, 191, 192, 193] rfl (by decide +kernel)
set_option maxHeartbeats 4000000 in
set_option maxRecDepth 100000 in
/-- the reference: open, new -/
theorem cm_open (l : Launch) (D : va_G) (cI cJ : ClassId) (ad : Nat → Nat) (fm : Int32) (ar : Nat → Nat → Int32) (bk : Nat → Int64) (sz : Nat) (mm : Int32) : Met l yX12_open ww_cm_open { frames := 4, cells := 0, slots := 0, locals := 90 } (va_Pc [.ref (ad 0), .int mm] (hk_B D [(cI, .int), (cJ, .long)] sz (mw cI cJ ad (mf_g fm) mf_l ar bk))) (va_Qi (fun (r : Int32) (u : (Nat → Int32) × (Nat → Int64) × (Nat → Nat → Int32) × (Nat → Int64)) => r = -10) (fun u : (Nat → Int32) × (Nat → Int64) × (Nat → Nat → Int32) × (Nat → Int64) => hk_E D [(cI, .int), (cJ, .long)] (va_A (mw cI cJ ad (mf_g fm) mf_l ar bk) sz) (mw cI cJ ad u.1 u.2.1 u.2.2.1 u.2.2.2)) (va_A (mw cI cJ ad (mf_g fm) mf_l ar bk) sz)) 0 0 (va_A (mw cI cJ ad (mf_g fm) mf_l ar bk) sz) := by
  refine hk_met (cc := cX12_open) (maxL := 3) (ret := (some .int)) (by decide) rfl (Nat.le_of_ble_eq_true rfl) ?_
  intro p e s m below meth c ls hx hb hr hml hown hts hlocks hin hA hw hl
  have iX12 : ∀ w ∈ wsX120, w ∈ ww_cm_open := fun _ h => List.mem_cons_of_mem _ (List.mem_append_right _ (List.mem_append_left _ h))
  have hl : lv_has ls 3 [(0, .ref (ad 0)), (1, .int mm)] := hl
  refine lv_aload_n hx hb dX12_open_0 rfl (lv_at hl 0 rfl) ?_
  refine lv_iconst (v := 0) hx hb dX12_open_1 (by decide) ?_
  refine hk_put (ci := 15) (C := RX12) (T := TX12) (N := 92) (ty := .int) (v := .int 0) hx hb hts iX12 tyX12 tyX12_ok nmX12 hown hw 0 rfl rfl 1 (by decide) (hts _ (List.mem_of_getElem? (i := 1) rfl)) rfl (by decide +kernel) rfl rfl (Nat.le_of_ble_eq_true rfl) dX12_open_2 (ws' := mw cI cJ ad (upd (mf_g fm) 1 0) mf_l ar bk) rfl (fun H locs hw => ?_)
  refine lv_aload_n hx hb dX12_open_5 rfl (lv_at hl 0 rfl) ?_
  refine hk_Vv (As := []) (rest := []) ⟨hx, hb, hml, hown, hts⟩ hw hA (cn_clear l D cI cJ ad (upd (mf_g fm) 1 0) mf_l ar bk _) (cwV 0 hts gw_cm_open_0 rfl rfl rfl (by decide +kernel) ⟨Nat.le_of_ble_eq_true rfl, Nat.le_of_ble_eq_true rfl⟩) 0 (ci := 15) (T := TX12) (N := 92) rfl rfl rfl hl.1 rfl (Nat.le_of_ble_eq_true rfl) dX12_open_6 ⟨Nat.le_of_ble_eq_true rfl, Nat.le_of_ble_eq_true rfl⟩ (fun uu_2 H locs hp_3 hw => ?_)
  have hw : hk_W D [(cI, .int), (cJ, .long)] _ s _ _ (mw cI cJ ad (upd (upd (upd (upd (upd (mf_g fm) 1 0) 18 0) 20 0) 19 0) 13 0) mf_l ar bk) := hw
  obtain ⟨gq_4, hgq_4⟩ : ∃ q : Nat → Int32, q = (upd (upd (upd (upd (upd (mf_g fm) 1 0) 18 0) 20 0) 19 0) 13 0) := ⟨_, rfl⟩
  have hgq_4_0 : gq_4 0 = fm := by rw [hgq_4]; rfl
  have hgq_4_1 : gq_4 1 = 0 := by rw [hgq_4]; rfl
  have hgq_4_2 : gq_4 2 = 3 := by rw [hgq_4]; rfl
  have hgq_4_3 : gq_4 3 = 0 := by rw [hgq_4]; rfl
  have hgq_4_4 : gq_4 4 = 2 := by rw [hgq_4]; rfl
  have hgq_4_5 : gq_4 5 = 4096 := by rw [hgq_4]; rfl
  have hgq_4_6 : gq_4 6 = 512 := by rw [hgq_4]; rfl
  have hgq_4_7 : gq_4 7 = 1024 := by rw [hgq_4]; rfl
  have hgq_4_8 : gq_4 8 = 1 := by rw [hgq_4]; rfl
  have hgq_4_9 : gq_4 9 = 0 := by rw [hgq_4]; rfl
  have hgq_4_10 : gq_4 10 = 0 := by rw [hgq_4]; rfl
  have hgq_4_11 : gq_4 11 = 0 := by rw [hgq_4]; rfl
  have hgq_4_12 : gq_4 12 = 0 := by rw [hgq_4]; rfl
  have hgq_4_13 : gq_4 13 = 0 := by rw [hgq_4]; rfl
  have hgq_4_14 : gq_4 14 = 0 := by rw [hgq_4]; rfl
  have hgq_4_15 : gq_4 15 = 0 := by rw [hgq_4]; rfl
  have hgq_4_16 : gq_4 16 = 0 := by rw [hgq_4]; rfl
  have hgq_4_17 : gq_4 17 = 0 := by rw [hgq_4]; rfl
  have hgq_4_18 : gq_4 18 = 0 := by rw [hgq_4]; rfl
  have hgq_4_19 : gq_4 19 = 0 := by rw [hgq_4]; rfl
  have hgq_4_20 : gq_4 20 = 0 := by rw [hgq_4]; rfl
  have hgq_4_21 : gq_4 21 = (-1) := by rw [hgq_4]; rfl
  have hgq_4_22 : gq_4 22 = 0 := by rw [hgq_4]; rfl
  have hgq_4_23 : gq_4 23 = 0 := by rw [hgq_4]; rfl
  have hgq_4_24 : gq_4 24 = 0 := by rw [hgq_4]; rfl
  have hgq_4_25 : gq_4 25 = 0 := by rw [hgq_4]; rfl
  have hgq_4_26 : gq_4 26 = 0 := by rw [hgq_4]; rfl
  have hgq_4_27 : gq_4 27 = 0 := by rw [hgq_4]; rfl
  have hgq_4_28 : gq_4 28 = 0 := by rw [hgq_4]; rfl
  have hgq_4_29 : gq_4 29 = 0 := by rw [hgq_4]; rfl
  have hgq_4_30 : gq_4 30 = 0 := by rw [hgq_4]; rfl
  have hgq_4_31 : gq_4 31 = 0 := by rw [hgq_4]; rfl
  have hgq_4_32 : gq_4 32 = 0 := by rw [hgq_4]; rfl
  have hgq_4_33 : gq_4 33 = 0 := by rw [hgq_4]; rfl
  have hgq_4_34 : gq_4 34 = 0 := by rw [hgq_4]; rfl
  have hgq_4_35 : gq_4 35 = 0 := by rw [hgq_4]; rfl
  have hgq_4_36 : gq_4 36 = 0 := by rw [hgq_4]; rfl
  have hgq_4_37 : gq_4 37 = 0 := by rw [hgq_4]; rfl
  have hgq_4_38 : gq_4 38 = 0 := by rw [hgq_4]; rfl
  have hgq_4_39 : gq_4 39 = 0 := by rw [hgq_4]; rfl
  have hgq_4_40 : gq_4 40 = 0 := by rw [hgq_4]; rfl
  have hgq_4_41 : gq_4 41 = 0 := by rw [hgq_4]; rfl
  have hgq_4_42 : gq_4 42 = 0 := by rw [hgq_4]; rfl
  have hgq_4_43 : gq_4 43 = 0 := by rw [hgq_4]; rfl
  have hgq_4_44 : gq_4 44 = 0 := by rw [hgq_4]; rfl
  have hgq_4_45 : gq_4 45 = 0 := by rw [hgq_4]; rfl
  have hgq_4_46 : gq_4 46 = 0 := by rw [hgq_4]; rfl
  have hgq_4_47 : gq_4 47 = 0 := by rw [hgq_4]; rfl
  have hgq_4_48 : gq_4 48 = 0 := by rw [hgq_4]; rfl
  have hgq_4_49 : gq_4 49 = 0 := by rw [hgq_4]; rfl
  have hgq_4_50 : gq_4 50 = 0 := by rw [hgq_4]; rfl
  have hgq_4_51 : gq_4 51 = 0 := by rw [hgq_4]; rfl
  have hgq_4_52 : gq_4 52 = 0 := by rw [hgq_4]; rfl
  have hgq_4_53 : gq_4 53 = 0 := by rw [hgq_4]; rfl
  have hgq_4_54 : gq_4 54 = 0 := by rw [hgq_4]; rfl
  have hgq_4_55 : gq_4 55 = 0 := by rw [hgq_4]; rfl
  have hgq_4_56 : gq_4 56 = 0 := by rw [hgq_4]; rfl
  have hgq_4_57 : gq_4 57 = 0 := by rw [hgq_4]; rfl
  have hgq_4_58 : gq_4 58 = 0 := by rw [hgq_4]; rfl
  rw [← hgq_4] at hw
  refine lv_aload_n hx hb dX12_open_9 rfl (lv_at hl 0 rfl) ?_
  refine lv_iconst (v := 0) hx hb dX12_open_10 (by decide) ?_
  refine hk_put (ci := 15) (C := RX12) (T := TX12) (N := 92) (ty := .int) (v := .int 0) hx hb hts iX12 tyX12 tyX12_ok nmX12 hown hw 0 rfl rfl 40 (by decide) (hts _ (List.mem_of_getElem? (i := 11) rfl)) rfl (by decide +kernel) rfl rfl (Nat.le_of_ble_eq_true rfl) dX12_open_11 (ws' := mw cI cJ ad (upd gq_4 22 0) mf_l ar bk) rfl (fun H locs hw => ?_)
  refine lv_aload_n hx hb dX12_open_14 rfl (lv_at hl 0 rfl) ?_
  refine lv_iconst (v := 0) hx hb dX12_open_15 (by decide) ?_
  refine hk_put (ci := 15) (C := RX12) (T := TX12) (N := 92) (ty := .int) (v := .int 0) hx hb hts iX12 tyX12 tyX12_ok nmX12 hown hw 0 rfl rfl 76 (by decide) (hts _ (List.mem_of_getElem? (i := 12) rfl)) rfl (by decide +kernel) rfl rfl (Nat.le_of_ble_eq_true rfl) dX12_open_16 (ws' := mw cI cJ ad (upd (upd gq_4 22 0) 49 0) mf_l ar bk) rfl (fun H locs hw => ?_)
  refine lv_aload_n hx hb dX12_open_19 rfl (lv_at hl 0 rfl) ?_
  refine lv_aload_n hx hb dX12_open_20 rfl (lv_at hl 0 rfl) ?_
  refine hk_get (ci := 15) (C := RX12) (T := TX12) (N := 92) (v := .int 0) hx hb hts iX12 hown hw 0 rfl rfl 13 (by decide) (hts _ (List.mem_of_getElem? (i := 13) rfl)) (congrArg (fun z => some (Value.int z)) hgq_4_12) dX12_open_21 ?_
  refine hk_put (ci := 15) (C := RX12) (T := TX12) (N := 92) (ty := .int) (v := .int 0) hx hb hts iX12 tyX12 tyX12_ok nmX12 hown hw 0 rfl rfl 77 (by decide) (hts _ (List.mem_of_getElem? (i := 14) rfl)) rfl (by decide +kernel) rfl rfl (Nat.le_of_ble_eq_true rfl) dX12_open_24 (ws' := mw cI cJ ad (upd (upd (upd gq_4 22 0) 49 0) 50 0) mf_l ar bk) rfl (fun H locs hw => ?_)
  refine lv_aload_n hx hb dX12_open_27 rfl (lv_at hl 0 rfl) ?_
  refine lv_iconst (v := 0) hx hb dX12_open_28 (by decide) ?_
  refine hk_put (ci := 15) (C := RX12) (T := TX12) (N := 92) (ty := .int) (v := .int 0) hx hb hts iX12 tyX12 tyX12_ok nmX12 hown hw 0 rfl rfl 78 (by decide) (hts _ (List.mem_of_getElem? (i := 15) rfl)) rfl (by decide +kernel) rfl rfl (Nat.le_of_ble_eq_true rfl) dX12_open_29 (ws' := mw cI cJ ad (upd (upd (upd (upd gq_4 22 0) 49 0) 50 0) 51 0) mf_l ar bk) rfl (fun H locs hw => ?_)
  refine lv_aload_n hx hb dX12_open_32 rfl (lv_at hl 0 rfl) ?_
  refine lv_iconst (v := 0) hx hb dX12_open_33 (by decide) ?_
  refine hk_put (ci := 15) (C := RX12) (T := TX12) (N := 92) (ty := .int) (v := .int 0) hx hb hts iX12 tyX12 tyX12_ok nmX12 hown hw 0 rfl rfl 26 (by decide) (hts _ (List.mem_of_getElem? (i := 16) rfl)) rfl (by decide +kernel) rfl rfl (Nat.le_of_ble_eq_true rfl) dX12_open_34 (ws' := mw cI cJ ad (upd (upd (upd (upd (upd gq_4 22 0) 49 0) 50 0) 51 0) 17 0) mf_l ar bk) rfl (fun H locs hw => ?_)
  refine lv_aload_n hx hb dX12_open_37 rfl (lv_at hl 0 rfl) ?_
  refine lv_iconst (v := 0) hx hb dX12_open_38 (by decide) ?_
  refine hk_put (ci := 15) (C := RX12) (T := TX12) (N := 92) (ty := .int) (v := .int 0) hx hb hts iX12 tyX12 tyX12_ok nmX12 hown hw 0 rfl rfl 48 (by decide) (hts _ (List.mem_of_getElem? (i := 17) rfl)) rfl (by decide +kernel) rfl rfl (Nat.le_of_ble_eq_true rfl) dX12_open_39 (ws' := mw cI cJ ad (upd (upd (upd (upd (upd (upd gq_4 22 0) 49 0) 50 0) 51 0) 17 0) 28 0) mf_l ar bk) rfl (fun H locs hw => ?_)
  refine lv_aload_n hx hb dX12_open_42 rfl (lv_at hl 0 rfl) ?_
  refine lv_iconst (v := 0) hx hb dX12_open_43 (by decide) ?_
  refine hk_put (ci := 15) (C := RX12) (T := TX12) (N := 92) (ty := .int) (v := .int 0) hx hb hts iX12 tyX12 tyX12_ok nmX12 hown hw 0 rfl rfl 82 (by decide) (hts _ (List.mem_of_getElem? (i := 18) rfl)) rfl (by decide +kernel) rfl rfl (Nat.le_of_ble_eq_true rfl) dX12_open_44 (ws' := mw cI cJ ad (upd (upd (upd (upd (upd (upd (upd gq_4 22 0) 49 0) 50 0) 51 0) 17 0) 28 0) 53 0) mf_l ar bk) rfl (fun H locs hw => ?_)
  refine lv_aload_n hx hb dX12_open_47 rfl (lv_at hl 0 rfl) ?_
  refine lv_iconst (v := 0) hx hb dX12_open_48 (by decide) ?_
  refine hk_put (ci := 15) (C := RX12) (T := TX12) (N := 92) (ty := .int) (v := .int 0) hx hb hts iX12 tyX12 tyX12_ok nmX12 hown hw 0 rfl rfl 81 (by decide) (hts _ (List.mem_of_getElem? (i := 19) rfl)) rfl (by decide +kernel) rfl rfl (Nat.le_of_ble_eq_true rfl) dX12_open_49 (ws' := mw cI cJ ad (upd (upd (upd (upd (upd (upd (upd (upd gq_4 22 0) 49 0) 50 0) 51 0) 17 0) 28 0) 53 0) 52 0) mf_l ar bk) rfl (fun H locs hw => ?_)
  refine lv_aload_n hx hb dX12_open_52 rfl (lv_at hl 0 rfl) ?_
  refine lv_iconst (v := 0) hx hb dX12_open_53 (by decide) ?_
  refine hk_put (ci := 15) (C := RX12) (T := TX12) (N := 92) (ty := .boolean) (v := .int 0) hx hb hts iX12 tyX12 tyX12_ok nmX12 hown hw 0 rfl rfl 84 (by decide) (hts _ (List.mem_of_getElem? (i := 20) rfl)) rfl (by decide +kernel) rfl rfl (Nat.le_of_ble_eq_true rfl) dX12_open_54 (ws' := mw cI cJ ad (upd (upd (upd (upd (upd (upd (upd (upd (upd gq_4 22 0) 49 0) 50 0) 51 0) 17 0) 28 0) 53 0) 52 0) 55 0) mf_l ar bk) rfl (fun H locs hw => ?_)
  refine lv_aload_n hx hb dX12_open_57 rfl (lv_at hl 0 rfl) ?_
  refine lv_iconst (v := (-1)) hx hb dX12_open_58 (by decide) ?_
  refine hk_put (ci := 15) (C := RX12) (T := TX12) (N := 92) (ty := .int) (v := .int (-1)) hx hb hts iX12 tyX12 tyX12_ok nmX12 hown hw 0 rfl rfl 83 (by decide) (hts _ (List.mem_of_getElem? (i := 21) rfl)) rfl (by decide +kernel) rfl rfl (Nat.le_of_ble_eq_true rfl) dX12_open_59 (ws' := mw cI cJ ad (upd (upd (upd (upd (upd (upd (upd (upd (upd (upd gq_4 22 0) 49 0) 50 0) 51 0) 17 0) 28 0) 53 0) 52 0) 55 0) 54 (-1)) mf_l ar bk) rfl (fun H locs hw => ?_)
  refine lv_aload_n hx hb dX12_open_62 rfl (lv_at hl 0 rfl) ?_
  refine hk_Vv (As := []) (rest := []) ⟨hx, hb, hml, hown, hts⟩ hw hA (cn_fresh l D cI cJ ad (upd (upd (upd (upd (upd (upd (upd (upd (upd (upd gq_4 22 0) 49 0) 50 0) 51 0) 17 0) 28 0) 53 0) 52 0) 55 0) 54 (-1)) mf_l ar bk _) (cwV 0 hts gw_cm_open_1 rfl rfl rfl (by decide +kernel) ⟨Nat.le_of_ble_eq_true rfl, Nat.le_of_ble_eq_true rfl⟩) 0 (ci := 15) (T := TX12) (N := 92) rfl rfl rfl hl.1 rfl (Nat.le_of_ble_eq_true rfl) dX12_open_63 ⟨Nat.le_of_ble_eq_true rfl, Nat.le_of_ble_eq_true rfl⟩ (fun uu_6 H locs hp_7 hw => ?_)
  have hw : hk_W D [(cI, .int), (cJ, .long)] _ s _ _ (mw cI cJ ad (upd (upd (upd (upd (upd (upd (upd (upd (upd (upd (upd (upd (upd (upd (upd gq_4 22 0) 49 0) 50 0) 51 0) 17 0) 28 0) 53 0) 52 0) 55 0) 54 (-1)) 23 0) 24 1) 25 1) 26 1) 27 1) mf_l (va_up ar 16 uu_6) bk) := hw
  obtain ⟨gq_8, hgq_8⟩ : ∃ q : Nat → Int32, q = (upd (upd (upd (upd (upd (upd (upd (upd (upd (upd (upd (upd (upd (upd (upd gq_4 22 0) 49 0) 50 0) 51 0) 17 0) 28 0) 53 0) 52 0) 55 0) 54 (-1)) 23 0) 24 1) 25 1) 26 1) 27 1) := ⟨_, rfl⟩
  have hgq_8_0 : gq_8 0 = fm := by rw [hgq_8]; exact hgq_4_0
  have hgq_8_1 : gq_8 1 = 0 := by rw [hgq_8]; exact hgq_4_1
  have hgq_8_2 : gq_8 2 = 3 := by rw [hgq_8]; exact hgq_4_2
  have hgq_8_3 : gq_8 3 = 0 := by rw [hgq_8]; exact hgq_4_3
  have hgq_8_4 : gq_8 4 = 2 := by rw [hgq_8]; exact hgq_4_4
  have hgq_8_5 : gq_8 5 = 4096 := by rw [hgq_8]; exact hgq_4_5
  have hgq_8_6 : gq_8 6 = 512 := by rw [hgq_8]; exact hgq_4_6
  have hgq_8_7 : gq_8 7 = 1024 := by rw [hgq_8]; exact hgq_4_7
  have hgq_8_8 : gq_8 8 = 1 := by rw [hgq_8]; exact hgq_4_8
  have hgq_8_9 : gq_8 9 = 0 := by rw [hgq_8]; exact hgq_4_9
  have hgq_8_10 : gq_8 10 = 0 := by rw [hgq_8]; exact hgq_4_10
  have hgq_8_11 : gq_8 11 = 0 := by rw [hgq_8]; exact hgq_4_11
  have hgq_8_12 : gq_8 12 = 0 := by rw [hgq_8]; exact hgq_4_12
  have hgq_8_13 : gq_8 13 = 0 := by rw [hgq_8]; exact hgq_4_13
  have hgq_8_14 : gq_8 14 = 0 := by rw [hgq_8]; exact hgq_4_14
  have hgq_8_15 : gq_8 15 = 0 := by rw [hgq_8]; exact hgq_4_15
  have hgq_8_16 : gq_8 16 = 0 := by rw [hgq_8]; exact hgq_4_16
  have hgq_8_17 : gq_8 17 = 0 := by rw [hgq_8]; rfl
  have hgq_8_18 : gq_8 18 = 0 := by rw [hgq_8]; exact hgq_4_18
  have hgq_8_19 : gq_8 19 = 0 := by rw [hgq_8]; exact hgq_4_19
  have hgq_8_20 : gq_8 20 = 0 := by rw [hgq_8]; exact hgq_4_20
  have hgq_8_21 : gq_8 21 = (-1) := by rw [hgq_8]; exact hgq_4_21
  have hgq_8_22 : gq_8 22 = 0 := by rw [hgq_8]; rfl
  have hgq_8_23 : gq_8 23 = 0 := by rw [hgq_8]; rfl
  have hgq_8_24 : gq_8 24 = 1 := by rw [hgq_8]; rfl
  have hgq_8_25 : gq_8 25 = 1 := by rw [hgq_8]; rfl
  have hgq_8_26 : gq_8 26 = 1 := by rw [hgq_8]; rfl
  have hgq_8_27 : gq_8 27 = 1 := by rw [hgq_8]; rfl
  have hgq_8_28 : gq_8 28 = 0 := by rw [hgq_8]; rfl
  have hgq_8_29 : gq_8 29 = 0 := by rw [hgq_8]; exact hgq_4_29
  have hgq_8_30 : gq_8 30 = 0 := by rw [hgq_8]; exact hgq_4_30
  have hgq_8_31 : gq_8 31 = 0 := by rw [hgq_8]; exact hgq_4_31
  have hgq_8_32 : gq_8 32 = 0 := by rw [hgq_8]; exact hgq_4_32
  have hgq_8_33 : gq_8 33 = 0 := by rw [hgq_8]; exact hgq_4_33
  have hgq_8_34 : gq_8 34 = 0 := by rw [hgq_8]; exact hgq_4_34
  have hgq_8_35 : gq_8 35 = 0 := by rw [hgq_8]; exact hgq_4_35
  have hgq_8_36 : gq_8 36 = 0 := by rw [hgq_8]; exact hgq_4_36
  have hgq_8_37 : gq_8 37 = 0 := by rw [hgq_8]; exact hgq_4_37
  have hgq_8_38 : gq_8 38 = 0 := by rw [hgq_8]; exact hgq_4_38
  have hgq_8_39 : gq_8 39 = 0 := by rw [hgq_8]; exact hgq_4_39
  have hgq_8_40 : gq_8 40 = 0 := by rw [hgq_8]; exact hgq_4_40
  have hgq_8_41 : gq_8 41 = 0 := by rw [hgq_8]; exact hgq_4_41
  have hgq_8_42 : gq_8 42 = 0 := by rw [hgq_8]; exact hgq_4_42
  have hgq_8_43 : gq_8 43 = 0 := by rw [hgq_8]; exact hgq_4_43
  have hgq_8_44 : gq_8 44 = 0 := by rw [hgq_8]; exact hgq_4_44
  have hgq_8_45 : gq_8 45 = 0 := by rw [hgq_8]; exact hgq_4_45
  have hgq_8_46 : gq_8 46 = 0 := by rw [hgq_8]; exact hgq_4_46
  have hgq_8_47 : gq_8 47 = 0 := by rw [hgq_8]; exact hgq_4_47
  have hgq_8_48 : gq_8 48 = 0 := by rw [hgq_8]; exact hgq_4_48
  have hgq_8_49 : gq_8 49 = 0 := by rw [hgq_8]; rfl
  have hgq_8_50 : gq_8 50 = 0 := by rw [hgq_8]; rfl
  have hgq_8_51 : gq_8 51 = 0 := by rw [hgq_8]; rfl
  have hgq_8_52 : gq_8 52 = 0 := by rw [hgq_8]; rfl
  have hgq_8_53 : gq_8 53 = 0 := by rw [hgq_8]; rfl
  have hgq_8_54 : gq_8 54 = (-1) := by rw [hgq_8]; rfl
  have hgq_8_55 : gq_8 55 = 0 := by rw [hgq_8]; rfl
  have hgq_8_56 : gq_8 56 = 0 := by rw [hgq_8]; exact hgq_4_56
  have hgq_8_57 : gq_8 57 = 0 := by rw [hgq_8]; exact hgq_4_57
  have hgq_8_58 : gq_8 58 = 0 := by rw [hgq_8]; exact hgq_4_58
  rw [← hgq_8] at hw
  refine lv_aload_n hx hb dX12_open_66 rfl (lv_at hl 0 rfl) ?_
  refine hk_get (ci := 15) (C := RX12) (T := TX12) (N := 92) (v := .int fm) hx hb hts iX12 hown hw 0 rfl rfl 0 (by decide) (hts _ (List.mem_of_getElem? (i := 32) rfl)) (congrArg (fun z => some (Value.int z)) hgq_8_0) dX12_open_67 ?_
  refine lv_if_ne (tgt := 81) hx hb dX12_open_70 (by decide) (fun cc_9 => ?_) (fun cc_9 => ?_)
  · refine lv_aload_n hx hb dX12_open_81 rfl (lv_at hl 0 rfl) ?_
    refine hk_get (ci := 15) (C := RX12) (T := TX12) (N := 92) (v := .int fm) hx hb hts iX12 hown hw 0 rfl rfl 0 (by decide) (hts _ (List.mem_of_getElem? (i := 32) rfl)) (congrArg (fun z => some (Value.int z)) hgq_8_0) dX12_open_82 ?_
    refine lv_iconst (v := 1) hx hb dX12_open_85 (by decide) ?_
    refine lv_icmp_ne (tgt := 184) hx hb dX12_open_86 (by decide) (fun cc_10 => ?_) (fun cc_10 => ?_)
    · refine lv_aload_n hx hb dX12_open_184 rfl (lv_at hl 0 rfl) ?_
      refine lv_iload_n hx hb dX12_open_185 rfl (lv_at hl 1 rfl) ?_
      refine hk_Vv (As := [.int mm]) (rest := []) ⟨hx, hb, hml, hown, hts⟩ hw hA (cn_openBox l D cI cJ ad gq_8 mf_l (va_up ar 16 uu_6) bk _ mm hgq_8_51 hgq_8_49 hgq_8_50) (cwV 1 hts gw_cm_open_2 rfl rfl rfl (by decide +kernel) ⟨Nat.le_of_ble_eq_true rfl, Nat.le_of_ble_eq_true rfl⟩) 0 (ci := 15) (T := TX12) (N := 92) rfl rfl rfl hl.1 rfl (Nat.le_of_ble_eq_true rfl) dX12_open_186 ⟨Nat.le_of_ble_eq_true rfl, Nat.le_of_ble_eq_true rfl⟩ (fun uu_12 H locs hp_13 hw => ?_)
      have hw : hk_W D [(cI, .int), (cJ, .long)] _ s _ _ (mw cI cJ ad (upd (upd (upd gq_8 51 1) 57 0) 14 uu_12) mf_l (va_up ar 16 uu_6) bk) := hw
      obtain ⟨gq_14, hgq_14⟩ : ∃ q : Nat → Int32, q = (upd (upd (upd gq_8 51 1) 57 0) 14 uu_12) := ⟨_, rfl⟩
      have hgq_14_0 : gq_14 0 = fm := by rw [hgq_14]; exact hgq_8_0
      have hgq_14_1 : gq_14 1 = 0 := by rw [hgq_14]; exact hgq_8_1
      have hgq_14_2 : gq_14 2 = 3 := by rw [hgq_14]; exact hgq_8_2
      have hgq_14_3 : gq_14 3 = 0 := by rw [hgq_14]; exact hgq_8_3
      have hgq_14_4 : gq_14 4 = 2 := by rw [hgq_14]; exact hgq_8_4
      have hgq_14_5 : gq_14 5 = 4096 := by rw [hgq_14]; exact hgq_8_5
      have hgq_14_6 : gq_14 6 = 512 := by rw [hgq_14]; exact hgq_8_6
      have hgq_14_7 : gq_14 7 = 1024 := by rw [hgq_14]; exact hgq_8_7
      have hgq_14_8 : gq_14 8 = 1 := by rw [hgq_14]; exact hgq_8_8
      have hgq_14_9 : gq_14 9 = 0 := by rw [hgq_14]; exact hgq_8_9
      have hgq_14_10 : gq_14 10 = 0 := by rw [hgq_14]; exact hgq_8_10
      have hgq_14_11 : gq_14 11 = 0 := by rw [hgq_14]; exact hgq_8_11
      have hgq_14_12 : gq_14 12 = 0 := by rw [hgq_14]; exact hgq_8_12
      have hgq_14_13 : gq_14 13 = 0 := by rw [hgq_14]; exact hgq_8_13
      have hgq_14_14 : gq_14 14 = uu_12 := by rw [hgq_14]; rfl
      have hgq_14_15 : gq_14 15 = 0 := by rw [hgq_14]; exact hgq_8_15
      have hgq_14_16 : gq_14 16 = 0 := by rw [hgq_14]; exact hgq_8_16
      have hgq_14_17 : gq_14 17 = 0 := by rw [hgq_14]; exact hgq_8_17
      have hgq_14_18 : gq_14 18 = 0 := by rw [hgq_14]; exact hgq_8_18
      have hgq_14_19 : gq_14 19 = 0 := by rw [hgq_14]; exact hgq_8_19
      have hgq_14_20 : gq_14 20 = 0 := by rw [hgq_14]; exact hgq_8_20
      have hgq_14_21 : gq_14 21 = (-1) := by rw [hgq_14]; exact hgq_8_21
      have hgq_14_22 : gq_14 22 = 0 := by rw [hgq_14]; exact hgq_8_22
      have hgq_14_23 : gq_14 23 = 0 := by rw [hgq_14]; exact hgq_8_23
      have hgq_14_24 : gq_14 24 = 1 := by rw [hgq_14]; exact hgq_8_24
      have hgq_14_25 : gq_14 25 = 1 := by rw [hgq_14]; exact hgq_8_25
      have hgq_14_26 : gq_14 26 = 1 := by rw [hgq_14]; exact hgq_8_26
      have hgq_14_27 : gq_14 27 = 1 := by rw [hgq_14]; exact hgq_8_27
      have hgq_14_28 : gq_14 28 = 0 := by rw [hgq_14]; exact hgq_8_28
      have hgq_14_29 : gq_14 29 = 0 := by rw [hgq_14]; exact hgq_8_29
      have hgq_14_30 : gq_14 30 = 0 := by rw [hgq_14]; exact hgq_8_30
      have hgq_14_31 : gq_14 31 = 0 := by rw [hgq_14]; exact hgq_8_31
      have hgq_14_32 : gq_14 32 = 0 := by rw [hgq_14]; exact hgq_8_32
      have hgq_14_33 : gq_14 33 = 0 := by rw [hgq_14]; exact hgq_8_33
      have hgq_14_34 : gq_14 34 = 0 := by rw [hgq_14]; exact hgq_8_34
      have hgq_14_35 : gq_14 35 = 0 := by rw [hgq_14]; exact hgq_8_35
      have hgq_14_36 : gq_14 36 = 0 := by rw [hgq_14]; exact hgq_8_36
      have hgq_14_37 : gq_14 37 = 0 := by rw [hgq_14]; exact hgq_8_37
      have hgq_14_38 : gq_14 38 = 0 := by rw [hgq_14]; exact hgq_8_38
      have hgq_14_39 : gq_14 39 = 0 := by rw [hgq_14]; exact hgq_8_39
      have hgq_14_40 : gq_14 40 = 0 := by rw [hgq_14]; exact hgq_8_40
      have hgq_14_41 : gq_14 41 = 0 := by rw [hgq_14]; exact hgq_8_41
      have hgq_14_42 : gq_14 42 = 0 := by rw [hgq_14]; exact hgq_8_42
      have hgq_14_43 : gq_14 43 = 0 := by rw [hgq_14]; exact hgq_8_43
      have hgq_14_44 : gq_14 44 = 0 := by rw [hgq_14]; exact hgq_8_44
      have hgq_14_45 : gq_14 45 = 0 := by rw [hgq_14]; exact hgq_8_45
      have hgq_14_46 : gq_14 46 = 0 := by rw [hgq_14]; exact hgq_8_46
      have hgq_14_47 : gq_14 47 = 0 := by rw [hgq_14]; exact hgq_8_47
      have hgq_14_48 : gq_14 48 = 0 := by rw [hgq_14]; exact hgq_8_48
      have hgq_14_49 : gq_14 49 = 0 := by rw [hgq_14]; exact hgq_8_49
      have hgq_14_50 : gq_14 50 = 0 := by rw [hgq_14]; exact hgq_8_50
      have hgq_14_51 : gq_14 51 = 1 := by rw [hgq_14]; rfl
      have hgq_14_52 : gq_14 52 = 0 := by rw [hgq_14]; exact hgq_8_52
      have hgq_14_53 : gq_14 53 = 0 := by rw [hgq_14]; exact hgq_8_53
      have hgq_14_54 : gq_14 54 = (-1) := by rw [hgq_14]; exact hgq_8_54
      have hgq_14_55 : gq_14 55 = 0 := by rw [hgq_14]; exact hgq_8_55
      have hgq_14_56 : gq_14 56 = 0 := by rw [hgq_14]; exact hgq_8_56
      have hgq_14_57 : gq_14 57 = 0 := by rw [hgq_14]; rfl
      have hgq_14_58 : gq_14 58 = 0 := by rw [hgq_14]; exact hgq_8_58
      rw [← hgq_14] at hw
      refine lv_aload_n hx hb dX12_open_189 rfl (lv_at hl 0 rfl) ?_
      refine hk_get (ci := 15) (C := RX12) (T := TX12) (N := 92) (v := .int 1) hx hb hts iX12 hown hw 0 rfl rfl 78 (by decide) (hts _ (List.mem_of_getElem? (i := 15) rfl)) (congrArg (fun z => some (Value.int z)) hgq_14_51) dX12_open_190 ?_
      refine lv_if_ne (tgt := 213) hx hb dX12_open_193 (by decide) (fun _ => ?_) (fun cc_15 => absurd cc_15 (by decide))
      refine lv_aload_n hx hb dX12_open_213 rfl (lv_at hl 0 rfl) ?_
      refine hk_get (ci := 15) (C := RX12) (T := TX12) (N := 92) (v := .int fm) hx hb hts iX12 hown hw 0 rfl rfl 0 (by decide) (hts _ (List.mem_of_getElem? (i := 32) rfl)) (congrArg (fun z => some (Value.int z)) hgq_14_0) dX12_open_214 ?_
      refine lv_iconst (v := 2) hx hb dX12_open_217 (by decide) ?_
      refine lv_icmp_ge (tgt := 257) hx hb dX12_open_218 (by decide) (fun cc_16 => ?_) (fun cc_16 => ?_)
      · refine lv_aload_n hx hb dX12_open_257 rfl (lv_at hl 0 rfl) ?_
        refine lv_iconst (v := 0) hx hb dX12_open_258 (by decide) ?_
        refine hk_put (ci := 15) (C := RX12) (T := TX12) (N := 92) (ty := .int) (v := .int 0) hx hb hts iX12 tyX12 tyX12_ok nmX12 hown hw 0 rfl rfl 13 (by decide) (hts _ (List.mem_of_getElem? (i := 13) rfl)) rfl (by decide +kernel) rfl rfl (Nat.le_of_ble_eq_true rfl) dX12_open_259 (ws' := mw cI cJ ad (upd gq_14 12 0) mf_l (va_up ar 16 uu_6) bk) rfl (fun H locs hw => ?_)
        refine lv_aload_n hx hb dX12_open_262 rfl (lv_at hl 0 rfl) ?_
        refine lv_aload_n hx hb dX12_open_263 rfl (lv_at hl 0 rfl) ?_
        refine hk_get (ci := 15) (C := RX12) (T := TX12) (N := 92) (v := .int 0) hx hb hts iX12 hown hw 0 rfl rfl 43 (by decide) (hts _ (List.mem_of_getElem? (i := 26) rfl)) (congrArg (fun z => some (Value.int z)) hgq_14_23) dX12_open_264 ?_
        refine hk_put (ci := 15) (C := RX12) (T := TX12) (N := 92) (ty := .int) (v := .int 0) hx hb hts iX12 tyX12 tyX12_ok nmX12 hown hw 0 rfl rfl 39 (by decide) (hts _ (List.mem_of_getElem? (i := 80) rfl)) rfl (by decide +kernel) rfl rfl (Nat.le_of_ble_eq_true rfl) dX12_open_267 (ws' := mw cI cJ ad (upd (upd gq_14 12 0) 21 0) mf_l (va_up ar 16 uu_6) bk) rfl (fun H locs hw => ?_)
        refine lv_aload_n hx hb dX12_open_270 rfl (lv_at hl 0 rfl) ?_
        refine lv_aload_n hx hb dX12_open_271 rfl (lv_at hl 0 rfl) ?_
        refine hk_get (ci := 15) (C := RX12) (T := TX12) (N := 92) (v := .int 1) hx hb hts iX12 hown hw 0 rfl rfl 78 (by decide) (hts _ (List.mem_of_getElem? (i := 15) rfl)) (congrArg (fun z => some (Value.int z)) hgq_14_51) dX12_open_272 ?_
        refine hk_put (ci := 15) (C := RX12) (T := TX12) (N := 92) (ty := .int) (v := .int 1) hx hb hts iX12 tyX12 tyX12_ok nmX12 hown hw 0 rfl rfl 40 (by decide) (hts _ (List.mem_of_getElem? (i := 11) rfl)) rfl (by decide +kernel) rfl rfl (Nat.le_of_ble_eq_true rfl) dX12_open_275 (ws' := mw cI cJ ad (upd (upd (upd gq_14 12 0) 21 0) 22 1) mf_l (va_up ar 16 uu_6) bk) rfl (fun H locs hw => ?_)
        refine lv_aload_n hx hb dX12_open_278 rfl (lv_at hl 0 rfl) ?_
        refine hk_get (ci := 15) (C := RX12) (T := TX12) (N := 92) (v := .int 1) hx hb hts iX12 hown hw 0 rfl rfl 78 (by decide) (hts _ (List.mem_of_getElem? (i := 15) rfl)) (congrArg (fun z => some (Value.int z)) hgq_14_51) dX12_open_279 ?_
        refine lv_if_le (tgt := 295) hx hb dX12_open_282 (by decide) (fun cc_17 => absurd cc_17 (by decide)) (fun _ => ?_)
        refine lv_bipush (v := (-10)) hx hb dX12_open_285 (by decide) ?_
        refine lv_aload_n hx hb dX12_open_287 rfl (lv_at hl 0 rfl) ?_
        refine hk_get (ci := 15) (C := RX12) (T := TX12) (N := 92) (v := .int 0) hx hb hts iX12 hown hw 0 rfl rfl 76 (by decide) (hts _ (List.mem_of_getElem? (i := 12) rfl)) (congrArg (fun z => some (Value.int z)) hgq_14_49) dX12_open_288 ?_
        refine lv_isub hx hb dX12_open_291 ?_
        refine hk_topi (-10) (by decide +kernel) ?_
        refine lv_goto (tgt := 299) hx hb dX12_open_292 (by decide) ?_
        exact hk_iret (u := ((upd (upd (upd gq_14 12 0) 21 0) 22 1), mf_l, (va_up ar 16 uu_6), bk)) hx hb hr hlocks (hw) (rfl) dX12_open_299
      · refine lv_aload_n hx hb dX12_open_221 rfl (lv_at hl 0 rfl) ?_
        refine lv_aload_n hx hb dX12_open_222 rfl (lv_at hl 0 rfl) ?_
        refine hk_get (ci := 15) (C := RX12) (T := TX12) (N := 92) (v := .int 0) hx hb hts iX12 hown hw 0 rfl rfl 26 (by decide) (hts _ (List.mem_of_getElem? (i := 16) rfl)) (congrArg (fun z => some (Value.int z)) hgq_14_17) dX12_open_223 ?_
        refine hk_put (ci := 15) (C := RX12) (T := TX12) (N := 92) (ty := .int) (v := .int 0) hx hb hts iX12 tyX12 tyX12_ok nmX12 hown hw 0 rfl rfl 15 (by decide) (hts _ (List.mem_of_getElem? (i := 10) rfl)) rfl (by decide +kernel) rfl rfl (Nat.le_of_ble_eq_true rfl) dX12_open_226 (ws' := mw cI cJ ad (upd gq_14 13 0) mf_l (va_up ar 16 uu_6) bk) rfl (fun H locs hw => ?_)
        refine lv_iconst (v := 0) hx hb dX12_open_229 (by decide) ?_
        refine lv_istore_n (lv' := [(2, .int 0), (0, .ref (ad 0)), (1, .int mm)]) hx hb dX12_open_230 rfl hl (by decide) rfl (fun ls hl => ?_)
        refine lv_iload_n hx hb dX12_open_231 rfl (lv_at hl 0 rfl) ?_
        refine lv_aload_n hx hb dX12_open_232 rfl (lv_at hl 1 rfl) ?_
        refine hk_get (ci := 15) (C := RX12) (T := TX12) (N := 92) (v := .int 0) hx hb hts iX12 hown hw 0 rfl rfl 26 (by decide) (hts _ (List.mem_of_getElem? (i := 16) rfl)) (congrArg (fun z => some (Value.int z)) hgq_14_17) dX12_open_233 ?_
        refine lv_icmp_ge (tgt := 257) hx hb dX12_open_236 (by decide) (fun _ => ?_) (fun cc_18 => absurd (by decide) cc_18)
        refine lv_aload_n hx hb dX12_open_257 rfl (lv_at hl 1 rfl) ?_
        refine lv_iconst (v := 0) hx hb dX12_open_258 (by decide) ?_
        refine hk_put (ci := 15) (C := RX12) (T := TX12) (N := 92) (ty := .int) (v := .int 0) hx hb hts iX12 tyX12 tyX12_ok nmX12 hown hw 0 rfl rfl 13 (by decide) (hts _ (List.mem_of_getElem? (i := 13) rfl)) rfl (by decide +kernel) rfl rfl (Nat.le_of_ble_eq_true rfl) dX12_open_259 (ws' := mw cI cJ ad (upd (upd gq_14 13 0) 12 0) mf_l (va_up ar 16 uu_6) bk) rfl (fun H locs hw => ?_)
        refine lv_aload_n hx hb dX12_open_262 rfl (lv_at hl 1 rfl) ?_
        refine lv_aload_n hx hb dX12_open_263 rfl (lv_at hl 1 rfl) ?_
        refine hk_get (ci := 15) (C := RX12) (T := TX12) (N := 92) (v := .int 0) hx hb hts iX12 hown hw 0 rfl rfl 43 (by decide) (hts _ (List.mem_of_getElem? (i := 26) rfl)) (congrArg (fun z => some (Value.int z)) hgq_14_23) dX12_open_264 ?_
        refine hk_put (ci := 15) (C := RX12) (T := TX12) (N := 92) (ty := .int) (v := .int 0) hx hb hts iX12 tyX12 tyX12_ok nmX12 hown hw 0 rfl rfl 39 (by decide) (hts _ (List.mem_of_getElem? (i := 80) rfl)) rfl (by decide +kernel) rfl rfl (Nat.le_of_ble_eq_true rfl) dX12_open_267 (ws' := mw cI cJ ad (upd (upd (upd gq_14 13 0) 12 0) 21 0) mf_l (va_up ar 16 uu_6) bk) rfl (fun H locs hw => ?_)
        refine lv_aload_n hx hb dX12_open_270 rfl (lv_at hl 1 rfl) ?_
        refine lv_aload_n hx hb dX12_open_271 rfl (lv_at hl 1 rfl) ?_
        refine hk_get (ci := 15) (C := RX12) (T := TX12) (N := 92) (v := .int 1) hx hb hts iX12 hown hw 0 rfl rfl 78 (by decide) (hts _ (List.mem_of_getElem? (i := 15) rfl)) (congrArg (fun z => some (Value.int z)) hgq_14_51) dX12_open_272 ?_
        refine hk_put (ci := 15) (C := RX12) (T := TX12) (N := 92) (ty := .int) (v := .int 1) hx hb hts iX12 tyX12 tyX12_ok nmX12 hown hw 0 rfl rfl 40 (by decide) (hts _ (List.mem_of_getElem? (i := 11) rfl)) rfl (by decide +kernel) rfl rfl (Nat.le_of_ble_eq_true rfl) dX12_open_275 (ws' := mw cI cJ ad (upd (upd (upd (upd gq_14 13 0) 12 0) 21 0) 22 1) mf_l (va_up ar 16 uu_6) bk) rfl (fun H locs hw => ?_)
        refine lv_aload_n hx hb dX12_open_278 rfl (lv_at hl 1 rfl) ?_
        refine hk_get (ci := 15) (C := RX12) (T := TX12) (N := 92) (v := .int 1) hx hb hts iX12 hown hw 0 rfl rfl 78 (by decide) (hts _ (List.mem_of_getElem? (i := 15) rfl)) (congrArg (fun z => some (Value.int z)) hgq_14_51) dX12_open_279 ?_
        refine lv_if_le (tgt := 295) hx hb dX12_open_282 (by decide) (fun cc_19 => absurd cc_19 (by decide)) (fun _ => ?_)
        refine lv_bipush (v := (-10)) hx hb dX12_open_285 (by decide) ?_
        refine lv_aload_n hx hb dX12_open_287 rfl (lv_at hl 1 rfl) ?_
        refine hk_get (ci := 15) (C := RX12) (T := TX12) (N := 92) (v := .int 0) hx hb hts iX12 hown hw 0 rfl rfl 76 (by decide) (hts _ (List.mem_of_getElem? (i := 12) rfl)) (congrArg (fun z => some (Value.int z)) hgq_14_49) dX12_open_288 ?_
        refine lv_isub hx hb dX12_open_291 ?_
        refine hk_topi (-10) (by decide +kernel) ?_
        refine lv_goto (tgt := 299) hx hb dX12_open_292 (by decide) ?_
        exact hk_iret (u := ((upd (upd (upd (upd gq_14 13 0) 12 0) 21 0) 22 1), mf_l, (va_up ar 16 uu_6), bk)) hx hb hr hlocks (hw) (rfl) dX12_open_299
    · refine lv_aload_n hx hb dX12_open_89 rfl (lv_at hl 0 rfl) ?_
      refine lv_aload_n hx hb dX12_open_90 rfl (lv_at hl 0 rfl) ?_
      refine hk_get (ci := 15) (C := RX12) (T := TX12) (N := 92) (v := .int 4096) hx hb hts iX12 hown hw 0 rfl rfl 5 (by decide) (hts _ (List.mem_of_getElem? (i := 81) rfl)) (congrArg (fun z => some (Value.int z)) hgq_8_5) dX12_open_91 ?_
      refine lv_i2l (v := (4096 : Int32).toInt64) hx hb dX12_open_94 rfl ?_
      refine hk_topl 4096 (by decide +kernel) ?_
      refine hk_put (ci := 15) (C := RX12) (T := TX12) (N := 92) (ty := .long) (v := .long 4096) hx hb hts iX12 tyX12 tyX12_ok nmX12 hown hw 0 rfl rfl 80 (by decide) (hts _ (List.mem_of_getElem? (i := 82) rfl)) rfl (by decide +kernel) rfl rfl (Nat.le_of_ble_eq_true rfl) dX12_open_95 (ws' := mw cI cJ ad gq_8 (vp_updL mf_l 5 4096) (va_up ar 16 uu_6) bk) rfl (fun H locs hw => ?_)
      refine lv_aload_n hx hb dX12_open_98 rfl (lv_at hl 0 rfl) ?_
      refine hk_get (ci := 15) (C := RX12) (T := TX12) (N := 92) (v := .long 4096) hx hb hts iX12 hown hw 0 rfl rfl 80 (by decide) (hts _ (List.mem_of_getElem? (i := 82) rfl)) rfl dX12_open_99 ?_
      refine lv_iload_n hx hb dX12_open_102 rfl (lv_at hl 1 rfl) ?_
      refine lv_i2l (v := (mm : Int32).toInt64) hx hb dX12_open_103 rfl ?_
      refine hk_lcmp_le (tgt := 117) hx hb dX12_open_104 dX12_open_105 (by decide) (fun cc_20 => ?_) (fun cc_20 => ?_)
      · refine lv_aload_n hx hb dX12_open_117 rfl (lv_at hl 0 rfl) ?_
        refine hk_Vv (As := []) (rest := []) ⟨hx, hb, hml, hown, hts⟩ hw hA (cn_openChunks l D cI cJ ad gq_8 (vp_updL mf_l 5 4096) (va_up ar 16 uu_6) bk _ hgq_8_51 hgq_8_49 hgq_8_50) (cwV 0 hts gw_cm_open_3 rfl rfl rfl (by decide +kernel) ⟨Nat.le_of_ble_eq_true rfl, Nat.le_of_ble_eq_true rfl⟩) 0 (ci := 15) (T := TX12) (N := 92) rfl rfl rfl hl.1 rfl (Nat.le_of_ble_eq_true rfl) dX12_open_118 ⟨Nat.le_of_ble_eq_true rfl, Nat.le_of_ble_eq_true rfl⟩ (fun uu_22 H locs hp_23 hw => ?_)
        have hw : hk_W D [(cI, .int), (cJ, .long)] _ s _ _ (mw cI cJ ad (upd (upd (upd (upd (upd (upd (upd (upd (upd gq_8 51 1) 56 3) 48 0) 52 (gq_8 17)) 23 0) 24 1) 25 1) 26 1) 27 1) (vp_updL mf_l 5 4096) (va_up (va_up ar 16 uu_6) 16 uu_22) bk) := hw
        refine lv_aload_n hx hb dX12_open_121 rfl (lv_at hl 0 rfl) ?_
        refine hk_get (ci := 15) (C := RX12) (T := TX12) (N := 92) (v := .ref (ad 12)) hx hb hts iX12 hown hw 0 rfl rfl 34 (by decide) (hts _ (List.mem_of_getElem? (i := 89) rfl)) rfl dX12_open_122 ?_
        refine lv_iconst (v := 0) hx hb dX12_open_125 (by decide) ?_
        refine lv_iconst (v := 0) hx hb dX12_open_126 (by decide) ?_
        refine hk_iast hx hb hw 12 0 rfl rfl (show ¬ (_ ∨ _) by decide) dX12_open_127 (ws' := mw cI cJ ad (upd (upd (upd (upd (upd (upd (upd (upd (upd gq_8 51 1) 56 3) 48 0) 52 (gq_8 17)) 23 0) 24 1) 25 1) 26 1) 27 1) (vp_updL mf_l 5 4096) (va_up (va_up ar 16 uu_22) 11 (upd (ar 11) 0 0)) bk) rfl (fun H locs hw => ?_)
        refine lv_aload_n hx hb dX12_open_128 rfl (lv_at hl 0 rfl) ?_
        refine hk_get (ci := 15) (C := RX12) (T := TX12) (N := 92) (v := .ref (ad 13)) hx hb hts iX12 hown hw 0 rfl rfl 35 (by decide) (hts _ (List.mem_of_getElem? (i := 90) rfl)) rfl dX12_open_129 ?_
        refine lv_iconst (v := 0) hx hb dX12_open_132 (by decide) ?_
        refine lv_iconst (v := 0) hx hb dX12_open_133 (by decide) ?_
        refine hk_iast hx hb hw 13 0 rfl rfl (show ¬ (_ ∨ _) by decide) dX12_open_134 (ws' := mw cI cJ ad (upd (upd (upd (upd (upd (upd (upd (upd (upd gq_8 51 1) 56 3) 48 0) 52 (gq_8 17)) 23 0) 24 1) 25 1) 26 1) 27 1) (vp_updL mf_l 5 4096) (va_up (va_up (va_up ar 16 uu_22) 11 (upd (ar 11) 0 0)) 12 (upd (ar 12) 0 0)) bk) rfl (fun H locs hw => ?_)
        refine lv_aload_n hx hb dX12_open_135 rfl (lv_at hl 0 rfl) ?_
        refine hk_get (ci := 15) (C := RX12) (T := TX12) (N := 92) (v := .ref (ad 14)) hx hb hts iX12 hown hw 0 rfl rfl 36 (by decide) (hts _ (List.mem_of_getElem? (i := 91) rfl)) rfl dX12_open_136 ?_
        refine lv_iconst (v := 0) hx hb dX12_open_139 (by decide) ?_
        refine lv_aload_n hx hb dX12_open_140 rfl (lv_at hl 0 rfl) ?_
        refine hk_get (ci := 15) (C := RX12) (T := TX12) (N := 92) (v := .int 0) hx hb hts iX12 hown hw 0 rfl rfl 76 (by decide) (hts _ (List.mem_of_getElem? (i := 12) rfl)) (congrArg (fun z => some (Value.int z)) hgq_8_49) dX12_open_141 ?_
        refine hk_iast hx hb hw 14 0 rfl rfl (show ¬ (_ ∨ _) by decide) dX12_open_144 (ws' := mw cI cJ ad (upd (upd (upd (upd (upd (upd (upd (upd (upd gq_8 51 1) 56 3) 48 0) 52 (gq_8 17)) 23 0) 24 1) 25 1) 26 1) 27 1) (vp_updL mf_l 5 4096) (va_up (va_up (va_up (va_up ar 16 uu_22) 11 (upd (ar 11) 0 0)) 12 (upd (ar 12) 0 0)) 13 (upd (ar 13) 0 0)) bk) rfl (fun H locs hw => ?_)
        refine lv_aload_n hx hb dX12_open_145 rfl (lv_at hl 0 rfl) ?_
        refine hk_get (ci := 15) (C := RX12) (T := TX12) (N := 92) (v := .ref (ad 15)) hx hb hts iX12 hown hw 0 rfl rfl 37 (by decide) (hts _ (List.mem_of_getElem? (i := 92) rfl)) rfl dX12_open_146 ?_
        refine lv_iconst (v := 0) hx hb dX12_open_149 (by decide) ?_
        refine lv_aload_n hx hb dX12_open_150 rfl (lv_at hl 0 rfl) ?_
        refine hk_get (ci := 15) (C := RX12) (T := TX12) (N := 92) (v := .int 0) hx hb hts iX12 hown hw 0 rfl rfl 26 (by decide) (hts _ (List.mem_of_getElem? (i := 16) rfl)) (congrArg (fun z => some (Value.int z)) hgq_8_17) dX12_open_151 ?_
        refine hk_iast hx hb hw 15 0 rfl rfl (show ¬ (_ ∨ _) by decide) dX12_open_154 (ws' := mw cI cJ ad (upd (upd (upd (upd (upd (upd (upd (upd (upd gq_8 51 1) 56 3) 48 0) 52 (gq_8 17)) 23 0) 24 1) 25 1) 26 1) 27 1) (vp_updL mf_l 5 4096) (va_up (va_up (va_up (va_up (va_up ar 16 uu_22) 11 (upd (ar 11) 0 0)) 12 (upd (ar 12) 0 0)) 13 (upd (ar 13) 0 0)) 14 (upd (ar 14) 0 0)) bk) rfl (fun H locs hw => ?_)
        refine lv_aload_n hx hb dX12_open_155 rfl (lv_at hl 0 rfl) ?_
        refine hk_get (ci := 15) (C := RX12) (T := TX12) (N := 92) (v := .ref (ad 16)) hx hb hts iX12 hown hw 0 rfl rfl 38 (by decide) (hts _ (List.mem_of_getElem? (i := 93) rfl)) rfl dX12_open_156 ?_
        refine lv_iconst (v := 0) hx hb dX12_open_159 (by decide) ?_
        refine lv_aload_n hx hb dX12_open_160 rfl (lv_at hl 0 rfl) ?_
        refine hk_get (ci := 15) (C := RX12) (T := TX12) (N := 92) (v := .int 0) hx hb hts iX12 hown hw 0 rfl rfl 75 (by decide) (hts _ (List.mem_of_getElem? (i := 88) rfl)) rfl dX12_open_161 ?_
        refine hk_iast hx hb hw 16 0 rfl rfl (show ¬ (_ ∨ _) by decide) dX12_open_164 (ws' := mw cI cJ ad (upd (upd (upd (upd (upd (upd (upd (upd (upd gq_8 51 1) 56 3) 48 0) 52 (gq_8 17)) 23 0) 24 1) 25 1) 26 1) 27 1) (vp_updL mf_l 5 4096) (va_up (va_up (va_up (va_up (va_up (va_up ar 16 uu_22) 11 (upd (ar 11) 0 0)) 12 (upd (ar 12) 0 0)) 13 (upd (ar 13) 0 0)) 14 (upd (ar 14) 0 0)) 15 (upd (ar 15) 0 0)) bk) rfl (fun H locs hw => ?_)
        refine lv_aload_n hx hb dX12_open_165 rfl (lv_at hl 0 rfl) ?_
        refine lv_aload_n hx hb dX12_open_166 rfl (lv_at hl 0 rfl) ?_
        refine hk_get (ci := 15) (C := RX12) (T := TX12) (N := 92) (v := .int 1) hx hb hts iX12 hown hw 0 rfl rfl 78 (by decide) (hts _ (List.mem_of_getElem? (i := 15) rfl)) rfl dX12_open_167 ?_
        refine lv_if_ne (tgt := 177) hx hb dX12_open_170 (by decide) (fun _ => ?_) (fun cc_24 => absurd cc_24 (by decide))
        refine lv_iconst (v := 0) hx hb dX12_open_177 (by decide) ?_
        refine hk_put (ci := 15) (C := RX12) (T := TX12) (N := 92) (ty := .int) (v := .int 0) hx hb hts iX12 tyX12 tyX12_ok nmX12 hown hw 0 rfl rfl 33 (by decide) (hts _ (List.mem_of_getElem? (i := 8) rfl)) rfl (by decide +kernel) rfl rfl (Nat.le_of_ble_eq_true rfl) dX12_open_178 (ws' := mw cI cJ ad (upd (upd (upd (upd (upd (upd (upd (upd (upd (upd gq_8 51 1) 56 3) 48 0) 52 (gq_8 17)) 23 0) 24 1) 25 1) 26 1) 27 1) 20 0) (vp_updL mf_l 5 4096) (va_up (va_up (va_up (va_up (va_up (va_up ar 16 uu_22) 11 (upd (ar 11) 0 0)) 12 (upd (ar 12) 0 0)) 13 (upd (ar 13) 0 0)) 14 (upd (ar 14) 0 0)) 15 (upd (ar 15) 0 0)) bk) rfl (fun H locs hw => ?_)
        refine lv_goto (tgt := 189) hx hb dX12_open_181 (by decide) ?_
        obtain ⟨gq_25, hgq_25⟩ : ∃ q : Nat → Int32, q = (upd (upd (upd (upd (upd (upd (upd (upd (upd (upd gq_8 51 1) 56 3) 48 0) 52 (gq_8 17)) 23 0) 24 1) 25 1) 26 1) 27 1) 20 0) := ⟨_, rfl⟩
        have hgq_25_0 : gq_25 0 = fm := by rw [hgq_25]; exact hgq_8_0
        have hgq_25_1 : gq_25 1 = 0 := by rw [hgq_25]; exact hgq_8_1
        have hgq_25_2 : gq_25 2 = 3 := by rw [hgq_25]; exact hgq_8_2
        have hgq_25_3 : gq_25 3 = 0 := by rw [hgq_25]; exact hgq_8_3
        have hgq_25_4 : gq_25 4 = 2 := by rw [hgq_25]; exact hgq_8_4
        have hgq_25_5 : gq_25 5 = 4096 := by rw [hgq_25]; exact hgq_8_5
        have hgq_25_6 : gq_25 6 = 512 := by rw [hgq_25]; exact hgq_8_6
        have hgq_25_7 : gq_25 7 = 1024 := by rw [hgq_25]; exact hgq_8_7
        have hgq_25_8 : gq_25 8 = 1 := by rw [hgq_25]; exact hgq_8_8
        have hgq_25_9 : gq_25 9 = 0 := by rw [hgq_25]; exact hgq_8_9
        have hgq_25_10 : gq_25 10 = 0 := by rw [hgq_25]; exact hgq_8_10
        have hgq_25_11 : gq_25 11 = 0 := by rw [hgq_25]; exact hgq_8_11
        have hgq_25_12 : gq_25 12 = 0 := by rw [hgq_25]; exact hgq_8_12
        have hgq_25_13 : gq_25 13 = 0 := by rw [hgq_25]; exact hgq_8_13
        have hgq_25_14 : gq_25 14 = 0 := by rw [hgq_25]; exact hgq_8_14
        have hgq_25_15 : gq_25 15 = 0 := by rw [hgq_25]; exact hgq_8_15
        have hgq_25_16 : gq_25 16 = 0 := by rw [hgq_25]; exact hgq_8_16
        have hgq_25_17 : gq_25 17 = 0 := by rw [hgq_25]; exact hgq_8_17
        have hgq_25_18 : gq_25 18 = 0 := by rw [hgq_25]; exact hgq_8_18
        have hgq_25_19 : gq_25 19 = 0 := by rw [hgq_25]; exact hgq_8_19
        have hgq_25_20 : gq_25 20 = 0 := by rw [hgq_25]; rfl
        have hgq_25_21 : gq_25 21 = (-1) := by rw [hgq_25]; exact hgq_8_21
        have hgq_25_22 : gq_25 22 = 0 := by rw [hgq_25]; exact hgq_8_22
        have hgq_25_23 : gq_25 23 = 0 := by rw [hgq_25]; rfl
        have hgq_25_24 : gq_25 24 = 1 := by rw [hgq_25]; rfl
        have hgq_25_25 : gq_25 25 = 1 := by rw [hgq_25]; rfl
        have hgq_25_26 : gq_25 26 = 1 := by rw [hgq_25]; rfl
        have hgq_25_27 : gq_25 27 = 1 := by rw [hgq_25]; rfl
        have hgq_25_28 : gq_25 28 = 0 := by rw [hgq_25]; exact hgq_8_28
        have hgq_25_29 : gq_25 29 = 0 := by rw [hgq_25]; exact hgq_8_29
        have hgq_25_30 : gq_25 30 = 0 := by rw [hgq_25]; exact hgq_8_30
        have hgq_25_31 : gq_25 31 = 0 := by rw [hgq_25]; exact hgq_8_31
        have hgq_25_32 : gq_25 32 = 0 := by rw [hgq_25]; exact hgq_8_32
        have hgq_25_33 : gq_25 33 = 0 := by rw [hgq_25]; exact hgq_8_33
        have hgq_25_34 : gq_25 34 = 0 := by rw [hgq_25]; exact hgq_8_34
        have hgq_25_35 : gq_25 35 = 0 := by rw [hgq_25]; exact hgq_8_35
        have hgq_25_36 : gq_25 36 = 0 := by rw [hgq_25]; exact hgq_8_36
        have hgq_25_37 : gq_25 37 = 0 := by rw [hgq_25]; exact hgq_8_37
        have hgq_25_38 : gq_25 38 = 0 := by rw [hgq_25]; exact hgq_8_38
        have hgq_25_39 : gq_25 39 = 0 := by rw [hgq_25]; exact hgq_8_39
        have hgq_25_40 : gq_25 40 = 0 := by rw [hgq_25]; exact hgq_8_40
        have hgq_25_41 : gq_25 41 = 0 := by rw [hgq_25]; exact hgq_8_41
        have hgq_25_42 : gq_25 42 = 0 := by rw [hgq_25]; exact hgq_8_42
        have hgq_25_43 : gq_25 43 = 0 := by rw [hgq_25]; exact hgq_8_43
        have hgq_25_44 : gq_25 44 = 0 := by rw [hgq_25]; exact hgq_8_44
        have hgq_25_45 : gq_25 45 = 0 := by rw [hgq_25]; exact hgq_8_45
        have hgq_25_46 : gq_25 46 = 0 := by rw [hgq_25]; exact hgq_8_46
        have hgq_25_47 : gq_25 47 = 0 := by rw [hgq_25]; exact hgq_8_47
        have hgq_25_48 : gq_25 48 = 0 := by rw [hgq_25]; rfl
        have hgq_25_49 : gq_25 49 = 0 := by rw [hgq_25]; exact hgq_8_49
        have hgq_25_50 : gq_25 50 = 0 := by rw [hgq_25]; exact hgq_8_50
        have hgq_25_51 : gq_25 51 = 1 := by rw [hgq_25]; rfl
        have hgq_25_52 : gq_25 52 = 0 := by rw [hgq_25]; exact hgq_8_17
        have hgq_25_53 : gq_25 53 = 0 := by rw [hgq_25]; exact hgq_8_53
        have hgq_25_54 : gq_25 54 = (-1) := by rw [hgq_25]; exact hgq_8_54
        have hgq_25_55 : gq_25 55 = 0 := by rw [hgq_25]; exact hgq_8_55
        have hgq_25_56 : gq_25 56 = 3 := by rw [hgq_25]; rfl
        have hgq_25_57 : gq_25 57 = 0 := by rw [hgq_25]; exact hgq_8_57
        have hgq_25_58 : gq_25 58 = 0 := by rw [hgq_25]; exact hgq_8_58
        rw [← hgq_25] at hw
        refine lv_aload_n hx hb dX12_open_189 rfl (lv_at hl 0 rfl) ?_
        refine hk_get (ci := 15) (C := RX12) (T := TX12) (N := 92) (v := .int 1) hx hb hts iX12 hown hw 0 rfl rfl 78 (by decide) (hts _ (List.mem_of_getElem? (i := 15) rfl)) (congrArg (fun z => some (Value.int z)) hgq_25_51) dX12_open_190 ?_
        refine lv_if_ne (tgt := 213) hx hb dX12_open_193 (by decide) (fun _ => ?_) (fun cc_26 => absurd cc_26 (by decide))
        refine lv_aload_n hx hb dX12_open_213 rfl (lv_at hl 0 rfl) ?_
        refine hk_get (ci := 15) (C := RX12) (T := TX12) (N := 92) (v := .int fm) hx hb hts iX12 hown hw 0 rfl rfl 0 (by decide) (hts _ (List.mem_of_getElem? (i := 32) rfl)) (congrArg (fun z => some (Value.int z)) hgq_25_0) dX12_open_214 ?_
        refine lv_iconst (v := 2) hx hb dX12_open_217 (by decide) ?_
        refine lv_icmp_ge (tgt := 257) hx hb dX12_open_218 (by decide) (fun cc_27 => ?_) (fun cc_27 => ?_)
        · refine lv_aload_n hx hb dX12_open_257 rfl (lv_at hl 0 rfl) ?_
          refine lv_iconst (v := 0) hx hb dX12_open_258 (by decide) ?_
          refine hk_put (ci := 15) (C := RX12) (T := TX12) (N := 92) (ty := .int) (v := .int 0) hx hb hts iX12 tyX12 tyX12_ok nmX12 hown hw 0 rfl rfl 13 (by decide) (hts _ (List.mem_of_getElem? (i := 13) rfl)) rfl (by decide +kernel) rfl rfl (Nat.le_of_ble_eq_true rfl) dX12_open_259 (ws' := mw cI cJ ad (upd gq_25 12 0) (vp_updL mf_l 5 4096) (va_up (va_up (va_up (va_up (va_up (va_up ar 16 uu_22) 11 (upd (ar 11) 0 0)) 12 (upd (ar 12) 0 0)) 13 (upd (ar 13) 0 0)) 14 (upd (ar 14) 0 0)) 15 (upd (ar 15) 0 0)) bk) rfl (fun H locs hw => ?_)
          refine lv_aload_n hx hb dX12_open_262 rfl (lv_at hl 0 rfl) ?_
          refine lv_aload_n hx hb dX12_open_263 rfl (lv_at hl 0 rfl) ?_
          refine hk_get (ci := 15) (C := RX12) (T := TX12) (N := 92) (v := .int 0) hx hb hts iX12 hown hw 0 rfl rfl 43 (by decide) (hts _ (List.mem_of_getElem? (i := 26) rfl)) (congrArg (fun z => some (Value.int z)) hgq_25_23) dX12_open_264 ?_
          refine hk_put (ci := 15) (C := RX12) (T := TX12) (N := 92) (ty := .int) (v := .int 0) hx hb hts iX12 tyX12 tyX12_ok nmX12 hown hw 0 rfl rfl 39 (by decide) (hts _ (List.mem_of_getElem? (i := 80) rfl)) rfl (by decide +kernel) rfl rfl (Nat.le_of_ble_eq_true rfl) dX12_open_267 (ws' := mw cI cJ ad (upd (upd gq_25 12 0) 21 0) (vp_updL mf_l 5 4096) (va_up (va_up (va_up (va_up (va_up (va_up ar 16 uu_22) 11 (upd (ar 11) 0 0)) 12 (upd (ar 12) 0 0)) 13 (upd (ar 13) 0 0)) 14 (upd (ar 14) 0 0)) 15 (upd (ar 15) 0 0)) bk) rfl (fun H locs hw => ?_)
          refine lv_aload_n hx hb dX12_open_270 rfl (lv_at hl 0 rfl) ?_
          refine lv_aload_n hx hb dX12_open_271 rfl (lv_at hl 0 rfl) ?_
          refine hk_get (ci := 15) (C := RX12) (T := TX12) (N := 92) (v := .int 1) hx hb hts iX12 hown hw 0 rfl rfl 78 (by decide) (hts _ (List.mem_of_getElem? (i := 15) rfl)) (congrArg (fun z => some (Value.int z)) hgq_25_51) dX12_open_272 ?_
          refine hk_put (ci := 15) (C := RX12) (T := TX12) (N := 92) (ty := .int) (v := .int 1) hx hb hts iX12 tyX12 tyX12_ok nmX12 hown hw 0 rfl rfl 40 (by decide) (hts _ (List.mem_of_getElem? (i := 11) rfl)) rfl (by decide +kernel) rfl rfl (Nat.le_of_ble_eq_true rfl) dX12_open_275 (ws' := mw cI cJ ad (upd (upd (upd gq_25 12 0) 21 0) 22 1) (vp_updL mf_l 5 4096) (va_up (va_up (va_up (va_up (va_up (va_up ar 16 uu_22) 11 (upd (ar 11) 0 0)) 12 (upd (ar 12) 0 0)) 13 (upd (ar 13) 0 0)) 14 (upd (ar 14) 0 0)) 15 (upd (ar 15) 0 0)) bk) rfl (fun H locs hw => ?_)
          refine lv_aload_n hx hb dX12_open_278 rfl (lv_at hl 0 rfl) ?_
          refine hk_get (ci := 15) (C := RX12) (T := TX12) (N := 92) (v := .int 1) hx hb hts iX12 hown hw 0 rfl rfl 78 (by decide) (hts _ (List.mem_of_getElem? (i := 15) rfl)) (congrArg (fun z => some (Value.int z)) hgq_25_51) dX12_open_279 ?_
          refine lv_if_le (tgt := 295) hx hb dX12_open_282 (by decide) (fun cc_28 => absurd cc_28 (by decide)) (fun _ => ?_)
          refine lv_bipush (v := (-10)) hx hb dX12_open_285 (by decide) ?_
          refine lv_aload_n hx hb dX12_open_287 rfl (lv_at hl 0 rfl) ?_
          refine hk_get (ci := 15) (C := RX12) (T := TX12) (N := 92) (v := .int 0) hx hb hts iX12 hown hw 0 rfl rfl 76 (by decide) (hts _ (List.mem_of_getElem? (i := 12) rfl)) (congrArg (fun z => some (Value.int z)) hgq_25_49) dX12_open_288 ?_
          refine lv_isub hx hb dX12_open_291 ?_
          refine hk_topi (-10) (by decide +kernel) ?_
          refine lv_goto (tgt := 299) hx hb dX12_open_292 (by decide) ?_
          exact hk_iret (u := ((upd (upd (upd gq_25 12 0) 21 0) 22 1), (vp_updL mf_l 5 4096), (va_up (va_up (va_up (va_up (va_up (va_up ar 16 uu_22) 11 (upd (ar 11) 0 0)) 12 (upd (ar 12) 0 0)) 13 (upd (ar 13) 0 0)) 14 (upd (ar 14) 0 0)) 15 (upd (ar 15) 0 0)), bk)) hx hb hr hlocks (hw) (rfl) dX12_open_299
        · refine lv_aload_n hx hb dX12_open_221 rfl (lv_at hl 0 rfl) ?_
          refine lv_aload_n hx hb dX12_open_222 rfl (lv_at hl 0 rfl) ?_
          refine hk_get (ci := 15) (C := RX12) (T := TX12) (N := 92) (v := .int 0) hx hb hts iX12 hown hw 0 rfl rfl 26 (by decide) (hts _ (List.mem_of_getElem? (i := 16) rfl)) (congrArg (fun z => some (Value.int z)) hgq_25_17) dX12_open_223 ?_
          refine hk_put (ci := 15) (C := RX12) (T := TX12) (N := 92) (ty := .int) (v := .int 0) hx hb hts iX12 tyX12 tyX12_ok nmX12 hown hw 0 rfl rfl 15 (by decide) (hts _ (List.mem_of_getElem? (i := 10) rfl)) rfl (by decide +kernel) rfl rfl (Nat.le_of_ble_eq_true rfl) dX12_open_226 (ws' := mw cI cJ ad (upd gq_25 13 0) (vp_updL mf_l 5 4096) (va_up (va_up (va_up (va_up (va_up (va_up ar 16 uu_22) 11 (upd (ar 11) 0 0)) 12 (upd (ar 12) 0 0)) 13 (upd (ar 13) 0 0)) 14 (upd (ar 14) 0 0)) 15 (upd (ar 15) 0 0)) bk) rfl (fun H locs hw => ?_)
          refine lv_iconst (v := 0) hx hb dX12_open_229 (by decide) ?_
          refine lv_istore_n (lv' := [(2, .int 0), (0, .ref (ad 0)), (1, .int mm)]) hx hb dX12_open_230 rfl hl (by decide) rfl (fun ls hl => ?_)
          refine lv_iload_n hx hb dX12_open_231 rfl (lv_at hl 0 rfl) ?_
          refine lv_aload_n hx hb dX12_open_232 rfl (lv_at hl 1 rfl) ?_
          refine hk_get (ci := 15) (C := RX12) (T := TX12) (N := 92) (v := .int 0) hx hb hts iX12 hown hw 0 rfl rfl 26 (by decide) (hts _ (List.mem_of_getElem? (i := 16) rfl)) (congrArg (fun z => some (Value.int z)) hgq_25_17) dX12_open_233 ?_
          refine lv_icmp_ge (tgt := 257) hx hb dX12_open_236 (by decide) (fun _ => ?_) (fun cc_29 => absurd (by decide) cc_29)
          refine lv_aload_n hx hb dX12_open_257 rfl (lv_at hl 1 rfl) ?_
          refine lv_iconst (v := 0) hx hb dX12_open_258 (by decide) ?_
          refine hk_put (ci := 15) (C := RX12) (T := TX12) (N := 92) (ty := .int) (v := .int 0) hx hb hts iX12 tyX12 tyX12_ok nmX12 hown hw 0 rfl rfl 13 (by decide) (hts _ (List.mem_of_getElem? (i := 13) rfl)) rfl (by decide +kernel) rfl rfl (Nat.le_of_ble_eq_true rfl) dX12_open_259 (ws' := mw cI cJ ad (upd (upd gq_25 13 0) 12 0) (vp_updL mf_l 5 4096) (va_up (va_up (va_up (va_up (va_up (va_up ar 16 uu_22) 11 (upd (ar 11) 0 0)) 12 (upd (ar 12) 0 0)) 13 (upd (ar 13) 0 0)) 14 (upd (ar 14) 0 0)) 15 (upd (ar 15) 0 0)) bk) rfl (fun H locs hw => ?_)
          refine lv_aload_n hx hb dX12_open_262 rfl (lv_at hl 1 rfl) ?_
          refine lv_aload_n hx hb dX12_open_263 rfl (lv_at hl 1 rfl) ?_
          refine hk_get (ci := 15) (C := RX12) (T := TX12) (N := 92) (v := .int 0) hx hb hts iX12 hown hw 0 rfl rfl 43 (by decide) (hts _ (List.mem_of_getElem? (i := 26) rfl)) (congrArg (fun z => some (Value.int z)) hgq_25_23) dX12_open_264 ?_
          refine hk_put (ci := 15) (C := RX12) (T := TX12) (N := 92) (ty := .int) (v := .int 0) hx hb hts iX12 tyX12 tyX12_ok nmX12 hown hw 0 rfl rfl 39 (by decide) (hts _ (List.mem_of_getElem? (i := 80) rfl)) rfl (by decide +kernel) rfl rfl (Nat.le_of_ble_eq_true rfl) dX12_open_267 (ws' := mw cI cJ ad (upd (upd (upd gq_25 13 0) 12 0) 21 0) (vp_updL mf_l 5 4096) (va_up (va_up (va_up (va_up (va_up (va_up ar 16 uu_22) 11 (upd (ar 11) 0 0)) 12 (upd (ar 12) 0 0)) 13 (upd (ar 13) 0 0)) 14 (upd (ar 14) 0 0)) 15 (upd (ar 15) 0 0)) bk) rfl (fun H locs hw => ?_)
          refine lv_aload_n hx hb dX12_open_270 rfl (lv_at hl 1 rfl) ?_
          refine lv_aload_n hx hb dX12_open_271 rfl (lv_at hl 1 rfl) ?_
          refine hk_get (ci := 15) (C := RX12) (T := TX12) (N := 92) (v := .int 1) hx hb hts iX12 hown hw 0 rfl rfl 78 (by decide) (hts _ (List.mem_of_getElem? (i := 15) rfl)) (congrArg (fun z => some (Value.int z)) hgq_25_51) dX12_open_272 ?_
          refine hk_put (ci := 15) (C := RX12) (T := TX12) (N := 92) (ty := .int) (v := .int 1) hx hb hts iX12 tyX12 tyX12_ok nmX12 hown hw 0 rfl rfl 40 (by decide) (hts _ (List.mem_of_getElem? (i := 11) rfl)) rfl (by decide +kernel) rfl rfl (Nat.le_of_ble_eq_true rfl) dX12_open_275 (ws' := mw cI cJ ad (upd (upd (upd (upd gq_25 13 0) 12 0) 21 0) 22 1) (vp_updL mf_l 5 4096) (va_up (va_up (va_up (va_up (va_up (va_up ar 16 uu_22) 11 (upd (ar 11) 0 0)) 12 (upd (ar 12) 0 0)) 13 (upd (ar 13) 0 0)) 14 (upd (ar 14) 0 0)) 15 (upd (ar 15) 0 0)) bk) rfl (fun H locs hw => ?_)
          refine lv_aload_n hx hb dX12_open_278 rfl (lv_at hl 1 rfl) ?_
          refine hk_get (ci := 15) (C := RX12) (T := TX12) (N := 92) (v := .int 1) hx hb hts iX12 hown hw 0 rfl rfl 78 (by decide) (hts _ (List.mem_of_getElem? (i := 15) rfl)) (congrArg (fun z => some (Value.int z)) hgq_25_51) dX12_open_279 ?_
          refine lv_if_le (tgt := 295) hx hb dX12_open_282 (by decide) (fun cc_30 => absurd cc_30 (by decide)) (fun _ => ?_)
          refine lv_bipush (v := (-10)) hx hb dX12_open_285 (by decide) ?_
          refine lv_aload_n hx hb dX12_open_287 rfl (lv_at hl 1 rfl) ?_
          refine hk_get (ci := 15) (C := RX12) (T := TX12) (N := 92) (v := .int 0) hx hb hts iX12 hown hw 0 rfl rfl 76 (by decide) (hts _ (List.mem_of_getElem? (i := 12) rfl)) (congrArg (fun z => some (Value.int z)) hgq_25_49) dX12_open_288 ?_
          refine lv_isub hx hb dX12_open_291 ?_
          refine hk_topi (-10) (by decide +kernel) ?_
          refine lv_goto (tgt := 299) hx hb dX12_open_292 (by decide) ?_
          exact hk_iret (u := ((upd (upd (upd (upd gq_25 13 0) 12 0) 21 0) 22 1), (vp_updL mf_l 5 4096), (va_up (va_up (va_up (va_up (va_up (va_up ar 16 uu_22) 11 (upd (ar 11) 0 0)) 12 (upd (ar 12) 0 0)) 13 (upd (ar 13) 0 0)) 14 (upd (ar 14) 0 0)) 15 (upd (ar 15) 0 0)), bk)) hx hb hr hlocks (hw) (rfl) dX12_open_299
      · refine lv_aload_n hx hb dX12_open_108 rfl (lv_at hl 0 rfl) ?_
        refine lv_bipush (v := 15) hx hb dX12_open_109 (by decide) ?_
        refine hk_Vv (As := [.int 15]) (rest := []) ⟨hx, hb, hml, hown, hts⟩ hw hA (cn_fail l D cI cJ ad gq_8 (vp_updL mf_l 5 4096) (va_up ar 16 uu_6) bk _ 15 hgq_8_51) (cwV 1 hts gw_cm_open_4 rfl rfl rfl (by decide +kernel) ⟨Nat.le_of_ble_eq_true rfl, Nat.le_of_ble_eq_true rfl⟩) 0 (ci := 15) (T := TX12) (N := 92) rfl rfl rfl hl.1 rfl (Nat.le_of_ble_eq_true rfl) dX12_open_111 ⟨Nat.le_of_ble_eq_true rfl, Nat.le_of_ble_eq_true rfl⟩ (fun uu_32 H locs hp_33 hw => ?_)
        have hw : hk_W D [(cI, .int), (cJ, .long)] _ s _ _ (mw cI cJ ad (upd gq_8 51 15) (vp_updL mf_l 5 4096) (va_up ar 16 uu_6) bk) := hw
        refine lv_goto (tgt := 121) hx hb dX12_open_114 (by decide) ?_
        refine lv_aload_n hx hb dX12_open_121 rfl (lv_at hl 0 rfl) ?_
        refine hk_get (ci := 15) (C := RX12) (T := TX12) (N := 92) (v := .ref (ad 12)) hx hb hts iX12 hown hw 0 rfl rfl 34 (by decide) (hts _ (List.mem_of_getElem? (i := 89) rfl)) rfl dX12_open_122 ?_
        refine lv_iconst (v := 0) hx hb dX12_open_125 (by decide) ?_
        refine lv_iconst (v := 0) hx hb dX12_open_126 (by decide) ?_
        refine hk_iast hx hb hw 12 0 rfl rfl (show ¬ (_ ∨ _) by decide) dX12_open_127 (ws' := mw cI cJ ad (upd gq_8 51 15) (vp_updL mf_l 5 4096) (va_up (va_up ar 16 uu_6) 11 (upd (ar 11) 0 0)) bk) rfl (fun H locs hw => ?_)
        refine lv_aload_n hx hb dX12_open_128 rfl (lv_at hl 0 rfl) ?_
        refine hk_get (ci := 15) (C := RX12) (T := TX12) (N := 92) (v := .ref (ad 13)) hx hb hts iX12 hown hw 0 rfl rfl 35 (by decide) (hts _ (List.mem_of_getElem? (i := 90) rfl)) rfl dX12_open_129 ?_
        refine lv_iconst (v := 0) hx hb dX12_open_132 (by decide) ?_
        refine lv_iconst (v := 0) hx hb dX12_open_133 (by decide) ?_
        refine hk_iast hx hb hw 13 0 rfl rfl (show ¬ (_ ∨ _) by decide) dX12_open_134 (ws' := mw cI cJ ad (upd gq_8 51 15) (vp_updL mf_l 5 4096) (va_up (va_up (va_up ar 16 uu_6) 11 (upd (ar 11) 0 0)) 12 (upd (ar 12) 0 0)) bk) rfl (fun H locs hw => ?_)
        refine lv_aload_n hx hb dX12_open_135 rfl (lv_at hl 0 rfl) ?_
        refine hk_get (ci := 15) (C := RX12) (T := TX12) (N := 92) (v := .ref (ad 14)) hx hb hts iX12 hown hw 0 rfl rfl 36 (by decide) (hts _ (List.mem_of_getElem? (i := 91) rfl)) rfl dX12_open_136 ?_
        refine lv_iconst (v := 0) hx hb dX12_open_139 (by decide) ?_
        refine lv_aload_n hx hb dX12_open_140 rfl (lv_at hl 0 rfl) ?_
        refine hk_get (ci := 15) (C := RX12) (T := TX12) (N := 92) (v := .int 0) hx hb hts iX12 hown hw 0 rfl rfl 76 (by decide) (hts _ (List.mem_of_getElem? (i := 12) rfl)) (congrArg (fun z => some (Value.int z)) hgq_8_49) dX12_open_141 ?_
        refine hk_iast hx hb hw 14 0 rfl rfl (show ¬ (_ ∨ _) by decide) dX12_open_144 (ws' := mw cI cJ ad (upd gq_8 51 15) (vp_updL mf_l 5 4096) (va_up (va_up (va_up (va_up ar 16 uu_6) 11 (upd (ar 11) 0 0)) 12 (upd (ar 12) 0 0)) 13 (upd (ar 13) 0 0)) bk) rfl (fun H locs hw => ?_)
        refine lv_aload_n hx hb dX12_open_145 rfl (lv_at hl 0 rfl) ?_
        refine hk_get (ci := 15) (C := RX12) (T := TX12) (N := 92) (v := .ref (ad 15)) hx hb hts iX12 hown hw 0 rfl rfl 37 (by decide) (hts _ (List.mem_of_getElem? (i := 92) rfl)) rfl dX12_open_146 ?_
        refine lv_iconst (v := 0) hx hb dX12_open_149 (by decide) ?_
        refine lv_aload_n hx hb dX12_open_150 rfl (lv_at hl 0 rfl) ?_
        refine hk_get (ci := 15) (C := RX12) (T := TX12) (N := 92) (v := .int 0) hx hb hts iX12 hown hw 0 rfl rfl 26 (by decide) (hts _ (List.mem_of_getElem? (i := 16) rfl)) (congrArg (fun z => some (Value.int z)) hgq_8_17) dX12_open_151 ?_
        refine hk_iast hx hb hw 15 0 rfl rfl (show ¬ (_ ∨ _) by decide) dX12_open_154 (ws' := mw cI cJ ad (upd gq_8 51 15) (vp_updL mf_l 5 4096) (va_up (va_up (va_up (va_up (va_up ar 16 uu_6) 11 (upd (ar 11) 0 0)) 12 (upd (ar 12) 0 0)) 13 (upd (ar 13) 0 0)) 14 (upd (ar 14) 0 0)) bk) rfl (fun H locs hw => ?_)
        refine lv_aload_n hx hb dX12_open_155 rfl (lv_at hl 0 rfl) ?_
        refine hk_get (ci := 15) (C := RX12) (T := TX12) (N := 92) (v := .ref (ad 16)) hx hb hts iX12 hown hw 0 rfl rfl 38 (by decide) (hts _ (List.mem_of_getElem? (i := 93) rfl)) rfl dX12_open_156 ?_
        refine lv_iconst (v := 0) hx hb dX12_open_159 (by decide) ?_
        refine lv_aload_n hx hb dX12_open_160 rfl (lv_at hl 0 rfl) ?_
        refine hk_get (ci := 15) (C := RX12) (T := TX12) (N := 92) (v := .int 0) hx hb hts iX12 hown hw 0 rfl rfl 75 (by decide) (hts _ (List.mem_of_getElem? (i := 88) rfl)) (congrArg (fun z => some (Value.int z)) hgq_8_48) dX12_open_161 ?_
        refine hk_iast hx hb hw 16 0 rfl rfl (show ¬ (_ ∨ _) by decide) dX12_open_164 (ws' := mw cI cJ ad (upd gq_8 51 15) (vp_updL mf_l 5 4096) (va_up (va_up (va_up (va_up (va_up (va_up ar 16 uu_6) 11 (upd (ar 11) 0 0)) 12 (upd (ar 12) 0 0)) 13 (upd (ar 13) 0 0)) 14 (upd (ar 14) 0 0)) 15 (upd (ar 15) 0 0)) bk) rfl (fun H locs hw => ?_)
        refine lv_aload_n hx hb dX12_open_165 rfl (lv_at hl 0 rfl) ?_
        refine lv_aload_n hx hb dX12_open_166 rfl (lv_at hl 0 rfl) ?_
        refine hk_get (ci := 15) (C := RX12) (T := TX12) (N := 92) (v := .int 15) hx hb hts iX12 hown hw 0 rfl rfl 78 (by decide) (hts _ (List.mem_of_getElem? (i := 15) rfl)) rfl dX12_open_167 ?_
        refine lv_if_ne (tgt := 177) hx hb dX12_open_170 (by decide) (fun _ => ?_) (fun cc_34 => absurd cc_34 (by decide))
        refine lv_iconst (v := 0) hx hb dX12_open_177 (by decide) ?_
        refine hk_put (ci := 15) (C := RX12) (T := TX12) (N := 92) (ty := .int) (v := .int 0) hx hb hts iX12 tyX12 tyX12_ok nmX12 hown hw 0 rfl rfl 33 (by decide) (hts _ (List.mem_of_getElem? (i := 8) rfl)) rfl (by decide +kernel) rfl rfl (Nat.le_of_ble_eq_true rfl) dX12_open_178 (ws' := mw cI cJ ad (upd (upd gq_8 51 15) 20 0) (vp_updL mf_l 5 4096) (va_up (va_up (va_up (va_up (va_up (va_up ar 16 uu_6) 11 (upd (ar 11) 0 0)) 12 (upd (ar 12) 0 0)) 13 (upd (ar 13) 0 0)) 14 (upd (ar 14) 0 0)) 15 (upd (ar 15) 0 0)) bk) rfl (fun H locs hw => ?_)
        refine lv_goto (tgt := 189) hx hb dX12_open_181 (by decide) ?_
        obtain ⟨gq_35, hgq_35⟩ : ∃ q : Nat → Int32, q = (upd (upd gq_8 51 15) 20 0) := ⟨_, rfl⟩
        have hgq_35_0 : gq_35 0 = fm := by rw [hgq_35]; exact hgq_8_0
        have hgq_35_1 : gq_35 1 = 0 := by rw [hgq_35]; exact hgq_8_1
        have hgq_35_2 : gq_35 2 = 3 := by rw [hgq_35]; exact hgq_8_2
        have hgq_35_3 : gq_35 3 = 0 := by rw [hgq_35]; exact hgq_8_3
        have hgq_35_4 : gq_35 4 = 2 := by rw [hgq_35]; exact hgq_8_4
        have hgq_35_5 : gq_35 5 = 4096 := by rw [hgq_35]; exact hgq_8_5
        have hgq_35_6 : gq_35 6 = 512 := by rw [hgq_35]; exact hgq_8_6
        have hgq_35_7 : gq_35 7 = 1024 := by rw [hgq_35]; exact hgq_8_7
        have hgq_35_8 : gq_35 8 = 1 := by rw [hgq_35]; exact hgq_8_8
        have hgq_35_9 : gq_35 9 = 0 := by rw [hgq_35]; exact hgq_8_9
        have hgq_35_10 : gq_35 10 = 0 := by rw [hgq_35]; exact hgq_8_10
        have hgq_35_11 : gq_35 11 = 0 := by rw [hgq_35]; exact hgq_8_11
        have hgq_35_12 : gq_35 12 = 0 := by rw [hgq_35]; exact hgq_8_12
        have hgq_35_13 : gq_35 13 = 0 := by rw [hgq_35]; exact hgq_8_13
        have hgq_35_14 : gq_35 14 = 0 := by rw [hgq_35]; exact hgq_8_14
        have hgq_35_15 : gq_35 15 = 0 := by rw [hgq_35]; exact hgq_8_15
        have hgq_35_16 : gq_35 16 = 0 := by rw [hgq_35]; exact hgq_8_16
        have hgq_35_17 : gq_35 17 = 0 := by rw [hgq_35]; exact hgq_8_17
        have hgq_35_18 : gq_35 18 = 0 := by rw [hgq_35]; exact hgq_8_18
        have hgq_35_19 : gq_35 19 = 0 := by rw [hgq_35]; exact hgq_8_19
        have hgq_35_20 : gq_35 20 = 0 := by rw [hgq_35]; rfl
        have hgq_35_21 : gq_35 21 = (-1) := by rw [hgq_35]; exact hgq_8_21
        have hgq_35_22 : gq_35 22 = 0 := by rw [hgq_35]; exact hgq_8_22
        have hgq_35_23 : gq_35 23 = 0 := by rw [hgq_35]; exact hgq_8_23
        have hgq_35_24 : gq_35 24 = 1 := by rw [hgq_35]; exact hgq_8_24
        have hgq_35_25 : gq_35 25 = 1 := by rw [hgq_35]; exact hgq_8_25
        have hgq_35_26 : gq_35 26 = 1 := by rw [hgq_35]; exact hgq_8_26
        have hgq_35_27 : gq_35 27 = 1 := by rw [hgq_35]; exact hgq_8_27
        have hgq_35_28 : gq_35 28 = 0 := by rw [hgq_35]; exact hgq_8_28
        have hgq_35_29 : gq_35 29 = 0 := by rw [hgq_35]; exact hgq_8_29
        have hgq_35_30 : gq_35 30 = 0 := by rw [hgq_35]; exact hgq_8_30
        have hgq_35_31 : gq_35 31 = 0 := by rw [hgq_35]; exact hgq_8_31
        have hgq_35_32 : gq_35 32 = 0 := by rw [hgq_35]; exact hgq_8_32
        have hgq_35_33 : gq_35 33 = 0 := by rw [hgq_35]; exact hgq_8_33
        have hgq_35_34 : gq_35 34 = 0 := by rw [hgq_35]; exact hgq_8_34
        have hgq_35_35 : gq_35 35 = 0 := by rw [hgq_35]; exact hgq_8_35
        have hgq_35_36 : gq_35 36 = 0 := by rw [hgq_35]; exact hgq_8_36
        have hgq_35_37 : gq_35 37 = 0 := by rw [hgq_35]; exact hgq_8_37
        have hgq_35_38 : gq_35 38 = 0 := by rw [hgq_35]; exact hgq_8_38
        have hgq_35_39 : gq_35 39 = 0 := by rw [hgq_35]; exact hgq_8_39
        have hgq_35_40 : gq_35 40 = 0 := by rw [hgq_35]; exact hgq_8_40
        have hgq_35_41 : gq_35 41 = 0 := by rw [hgq_35]; exact hgq_8_41
        have hgq_35_42 : gq_35 42 = 0 := by rw [hgq_35]; exact hgq_8_42
        have hgq_35_43 : gq_35 43 = 0 := by rw [hgq_35]; exact hgq_8_43
        have hgq_35_44 : gq_35 44 = 0 := by rw [hgq_35]; exact hgq_8_44
        have hgq_35_45 : gq_35 45 = 0 := by rw [hgq_35]; exact hgq_8_45
        have hgq_35_46 : gq_35 46 = 0 := by rw [hgq_35]; exact hgq_8_46
        have hgq_35_47 : gq_35 47 = 0 := by rw [hgq_35]; exact hgq_8_47
        have hgq_35_48 : gq_35 48 = 0 := by rw [hgq_35]; exact hgq_8_48
        have hgq_35_49 : gq_35 49 = 0 := by rw [hgq_35]; exact hgq_8_49
        have hgq_35_50 : gq_35 50 = 0 := by rw [hgq_35]; exact hgq_8_50
        have hgq_35_51 : gq_35 51 = 15 := by rw [hgq_35]; rfl
        have hgq_35_52 : gq_35 52 = 0 := by rw [hgq_35]; exact hgq_8_52
        have hgq_35_53 : gq_35 53 = 0 := by rw [hgq_35]; exact hgq_8_53
        have hgq_35_54 : gq_35 54 = (-1) := by rw [hgq_35]; exact hgq_8_54
        have hgq_35_55 : gq_35 55 = 0 := by rw [hgq_35]; exact hgq_8_55
        have hgq_35_56 : gq_35 56 = 0 := by rw [hgq_35]; exact hgq_8_56
        have hgq_35_57 : gq_35 57 = 0 := by rw [hgq_35]; exact hgq_8_57
        have hgq_35_58 : gq_35 58 = 0 := by rw [hgq_35]; exact hgq_8_58
        rw [← hgq_35] at hw
        refine lv_aload_n hx hb dX12_open_189 rfl (lv_at hl 0 rfl) ?_
        refine hk_get (ci := 15) (C := RX12) (T := TX12) (N := 92) (v := .int 15) hx hb hts iX12 hown hw 0 rfl rfl 78 (by decide) (hts _ (List.mem_of_getElem? (i := 15) rfl)) (congrArg (fun z => some (Value.int z)) hgq_35_51) dX12_open_190 ?_
        refine lv_if_ne (tgt := 213) hx hb dX12_open_193 (by decide) (fun _ => ?_) (fun cc_36 => absurd cc_36 (by decide))
        refine lv_aload_n hx hb dX12_open_213 rfl (lv_at hl 0 rfl) ?_
        refine hk_get (ci := 15) (C := RX12) (T := TX12) (N := 92) (v := .int fm) hx hb hts iX12 hown hw 0 rfl rfl 0 (by decide) (hts _ (List.mem_of_getElem? (i := 32) rfl)) (congrArg (fun z => some (Value.int z)) hgq_35_0) dX12_open_214 ?_
        refine lv_iconst (v := 2) hx hb dX12_open_217 (by decide) ?_
        refine lv_icmp_ge (tgt := 257) hx hb dX12_open_218 (by decide) (fun cc_37 => ?_) (fun cc_37 => ?_)
        · refine lv_aload_n hx hb dX12_open_257 rfl (lv_at hl 0 rfl) ?_
          refine lv_iconst (v := 0) hx hb dX12_open_258 (by decide) ?_
          refine hk_put (ci := 15) (C := RX12) (T := TX12) (N := 92) (ty := .int) (v := .int 0) hx hb hts iX12 tyX12 tyX12_ok nmX12 hown hw 0 rfl rfl 13 (by decide) (hts _ (List.mem_of_getElem? (i := 13) rfl)) rfl (by decide +kernel) rfl rfl (Nat.le_of_ble_eq_true rfl) dX12_open_259 (ws' := mw cI cJ ad (upd gq_35 12 0) (vp_updL mf_l 5 4096) (va_up (va_up (va_up (va_up (va_up (va_up ar 16 uu_6) 11 (upd (ar 11) 0 0)) 12 (upd (ar 12) 0 0)) 13 (upd (ar 13) 0 0)) 14 (upd (ar 14) 0 0)) 15 (upd (ar 15) 0 0)) bk) rfl (fun H locs hw => ?_)
          refine lv_aload_n hx hb dX12_open_262 rfl (lv_at hl 0 rfl) ?_
          refine lv_aload_n hx hb dX12_open_263 rfl (lv_at hl 0 rfl) ?_
          refine hk_get (ci := 15) (C := RX12) (T := TX12) (N := 92) (v := .int 0) hx hb hts iX12 hown hw 0 rfl rfl 43 (by decide) (hts _ (List.mem_of_getElem? (i := 26) rfl)) (congrArg (fun z => some (Value.int z)) hgq_35_23) dX12_open_264 ?_
          refine hk_put (ci := 15) (C := RX12) (T := TX12) (N := 92) (ty := .int) (v := .int 0) hx hb hts iX12 tyX12 tyX12_ok nmX12 hown hw 0 rfl rfl 39 (by decide) (hts _ (List.mem_of_getElem? (i := 80) rfl)) rfl (by decide +kernel) rfl rfl (Nat.le_of_ble_eq_true rfl) dX12_open_267 (ws' := mw cI cJ ad (upd (upd gq_35 12 0) 21 0) (vp_updL mf_l 5 4096) (va_up (va_up (va_up (va_up (va_up (va_up ar 16 uu_6) 11 (upd (ar 11) 0 0)) 12 (upd (ar 12) 0 0)) 13 (upd (ar 13) 0 0)) 14 (upd (ar 14) 0 0)) 15 (upd (ar 15) 0 0)) bk) rfl (fun H locs hw => ?_)
          refine lv_aload_n hx hb dX12_open_270 rfl (lv_at hl 0 rfl) ?_
          refine lv_aload_n hx hb dX12_open_271 rfl (lv_at hl 0 rfl) ?_
          refine hk_get (ci := 15) (C := RX12) (T := TX12) (N := 92) (v := .int 15) hx hb hts iX12 hown hw 0 rfl rfl 78 (by decide) (hts _ (List.mem_of_getElem? (i := 15) rfl)) (congrArg (fun z => some (Value.int z)) hgq_35_51) dX12_open_272 ?_
          refine hk_put (ci := 15) (C := RX12) (T := TX12) (N := 92) (ty := .int) (v := .int 15) hx hb hts iX12 tyX12 tyX12_ok nmX12 hown hw 0 rfl rfl 40 (by decide) (hts _ (List.mem_of_getElem? (i := 11) rfl)) rfl (by decide +kernel) rfl rfl (Nat.le_of_ble_eq_true rfl) dX12_open_275 (ws' := mw cI cJ ad (upd (upd (upd gq_35 12 0) 21 0) 22 15) (vp_updL mf_l 5 4096) (va_up (va_up (va_up (va_up (va_up (va_up ar 16 uu_6) 11 (upd (ar 11) 0 0)) 12 (upd (ar 12) 0 0)) 13 (upd (ar 13) 0 0)) 14 (upd (ar 14) 0 0)) 15 (upd (ar 15) 0 0)) bk) rfl (fun H locs hw => ?_)
          refine lv_aload_n hx hb dX12_open_278 rfl (lv_at hl 0 rfl) ?_
          refine hk_get (ci := 15) (C := RX12) (T := TX12) (N := 92) (v := .int 15) hx hb hts iX12 hown hw 0 rfl rfl 78 (by decide) (hts _ (List.mem_of_getElem? (i := 15) rfl)) (congrArg (fun z => some (Value.int z)) hgq_35_51) dX12_open_279 ?_
          refine lv_if_le (tgt := 295) hx hb dX12_open_282 (by decide) (fun cc_38 => absurd cc_38 (by decide)) (fun _ => ?_)
          refine lv_bipush (v := (-10)) hx hb dX12_open_285 (by decide) ?_
          refine lv_aload_n hx hb dX12_open_287 rfl (lv_at hl 0 rfl) ?_
          refine hk_get (ci := 15) (C := RX12) (T := TX12) (N := 92) (v := .int 0) hx hb hts iX12 hown hw 0 rfl rfl 76 (by decide) (hts _ (List.mem_of_getElem? (i := 12) rfl)) (congrArg (fun z => some (Value.int z)) hgq_35_49) dX12_open_288 ?_
          refine lv_isub hx hb dX12_open_291 ?_
          refine hk_topi (-10) (by decide +kernel) ?_
          refine lv_goto (tgt := 299) hx hb dX12_open_292 (by decide) ?_
          exact hk_iret (u := ((upd (upd (upd gq_35 12 0) 21 0) 22 15), (vp_updL mf_l 5 4096), (va_up (va_up (va_up (va_up (va_up (va_up ar 16 uu_6) 11 (upd (ar 11) 0 0)) 12 (upd (ar 12) 0 0)) 13 (upd (ar 13) 0 0)) 14 (upd (ar 14) 0 0)) 15 (upd (ar 15) 0 0)), bk)) hx hb hr hlocks (hw) (rfl) dX12_open_299
        · refine lv_aload_n hx hb dX12_open_221 rfl (lv_at hl 0 rfl) ?_
          refine lv_aload_n hx hb dX12_open_222 rfl (lv_at hl 0 rfl) ?_
          refine hk_get (ci := 15) (C := RX12) (T := TX12) (N := 92) (v := .int 0) hx hb hts iX12 hown hw 0 rfl rfl 26 (by decide) (hts _ (List.mem_of_getElem? (i := 16) rfl)) (congrArg (fun z => some (Value.int z)) hgq_35_17) dX12_open_223 ?_
          refine hk_put (ci := 15) (C := RX12) (T := TX12) (N := 92) (ty := .int) (v := .int 0) hx hb hts iX12 tyX12 tyX12_ok nmX12 hown hw 0 rfl rfl 15 (by decide) (hts _ (List.mem_of_getElem? (i := 10) rfl)) rfl (by decide +kernel) rfl rfl (Nat.le_of_ble_eq_true rfl) dX12_open_226 (ws' := mw cI cJ ad (upd gq_35 13 0) (vp_updL mf_l 5 4096) (va_up (va_up (va_up (va_up (va_up (va_up ar 16 uu_6) 11 (upd (ar 11) 0 0)) 12 (upd (ar 12) 0 0)) 13 (upd (ar 13) 0 0)) 14 (upd (ar 14) 0 0)) 15 (upd (ar 15) 0 0)) bk) rfl (fun H locs hw => ?_)
          refine lv_iconst (v := 0) hx hb dX12_open_229 (by decide) ?_
          refine lv_istore_n (lv' := [(2, .int 0), (0, .ref (ad 0)), (1, .int mm)]) hx hb dX12_open_230 rfl hl (by decide) rfl (fun ls hl => ?_)
          refine lv_iload_n hx hb dX12_open_231 rfl (lv_at hl 0 rfl) ?_
          refine lv_aload_n hx hb dX12_open_232 rfl (lv_at hl 1 rfl) ?_
          refine hk_get (ci := 15) (C := RX12) (T := TX12) (N := 92) (v := .int 0) hx hb hts iX12 hown hw 0 rfl rfl 26 (by decide) (hts _ (List.mem_of_getElem? (i := 16) rfl)) (congrArg (fun z => some (Value.int z)) hgq_35_17) dX12_open_233 ?_
          refine lv_icmp_ge (tgt := 257) hx hb dX12_open_236 (by decide) (fun _ => ?_) (fun cc_39 => absurd (by decide) cc_39)
          refine lv_aload_n hx hb dX12_open_257 rfl (lv_at hl 1 rfl) ?_
          refine lv_iconst (v := 0) hx hb dX12_open_258 (by decide) ?_
          refine hk_put (ci := 15) (C := RX12) (T := TX12) (N := 92) (ty := .int) (v := .int 0) hx hb hts iX12 tyX12 tyX12_ok nmX12 hown hw 0 rfl rfl 13 (by decide) (hts _ (List.mem_of_getElem? (i := 13) rfl)) rfl (by decide +kernel) rfl rfl (Nat.le_of_ble_eq_true rfl) dX12_open_259 (ws' := mw cI cJ ad (upd (upd gq_35 13 0) 12 0) (vp_updL mf_l 5 4096) (va_up (va_up (va_up (va_up (va_up (va_up ar 16 uu_6) 11 (upd (ar 11) 0 0)) 12 (upd (ar 12) 0 0)) 13 (upd (ar 13) 0 0)) 14 (upd (ar 14) 0 0)) 15 (upd (ar 15) 0 0)) bk) rfl (fun H locs hw => ?_)
          refine lv_aload_n hx hb dX12_open_262 rfl (lv_at hl 1 rfl) ?_
          refine lv_aload_n hx hb dX12_open_263 rfl (lv_at hl 1 rfl) ?_
          refine hk_get (ci := 15) (C := RX12) (T := TX12) (N := 92) (v := .int 0) hx hb hts iX12 hown hw 0 rfl rfl 43 (by decide) (hts _ (List.mem_of_getElem? (i := 26) rfl)) (congrArg (fun z => some (Value.int z)) hgq_35_23) dX12_open_264 ?_
          refine hk_put (ci := 15) (C := RX12) (T := TX12) (N := 92) (ty := .int) (v := .int 0) hx hb hts iX12 tyX12 tyX12_ok nmX12 hown hw 0 rfl rfl 39 (by decide) (hts _ (List.mem_of_getElem? (i := 80) rfl)) rfl (by decide +kernel) rfl rfl (Nat.le_of_ble_eq_true rfl) dX12_open_267 (ws' := mw cI cJ ad (upd (upd (upd gq_35 13 0) 12 0) 21 0) (vp_updL mf_l 5 4096) (va_up (va_up (va_up (va_up (va_up (va_up ar 16 uu_6) 11 (upd (ar 11) 0 0)) 12 (upd (ar 12) 0 0)) 13 (upd (ar 13) 0 0)) 14 (upd (ar 14) 0 0)) 15 (upd (ar 15) 0 0)) bk) rfl (fun H locs hw => ?_)
          refine lv_aload_n hx hb dX12_open_270 rfl (lv_at hl 1 rfl) ?_
          refine lv_aload_n hx hb dX12_open_271 rfl (lv_at hl 1 rfl) ?_
          refine hk_get (ci := 15) (C := RX12) (T := TX12) (N := 92) (v := .int 15) hx hb hts iX12 hown hw 0 rfl rfl 78 (by decide) (hts _ (List.mem_of_getElem? (i := 15) rfl)) (congrArg (fun z => some (Value.int z)) hgq_35_51) dX12_open_272 ?_
          refine hk_put (ci := 15) (C := RX12) (T := TX12) (N := 92) (ty := .int) (v := .int 15) hx hb hts iX12 tyX12 tyX12_ok nmX12 hown hw 0 rfl rfl 40 (by decide) (hts _ (List.mem_of_getElem? (i := 11) rfl)) rfl (by decide +kernel) rfl rfl (Nat.le_of_ble_eq_true rfl) dX12_open_275 (ws' := mw cI cJ ad (upd (upd (upd (upd gq_35 13 0) 12 0) 21 0) 22 15) (vp_updL mf_l 5 4096) (va_up (va_up (va_up (va_up (va_up (va_up ar 16 uu_6) 11 (upd (ar 11) 0 0)) 12 (upd (ar 12) 0 0)) 13 (upd (ar 13) 0 0)) 14 (upd (ar 14) 0 0)) 15 (upd (ar 15) 0 0)) bk) rfl (fun H locs hw => ?_)
          refine lv_aload_n hx hb dX12_open_278 rfl (lv_at hl 1 rfl) ?_
          refine hk_get (ci := 15) (C := RX12) (T := TX12) (N := 92) (v := .int 15) hx hb hts iX12 hown hw 0 rfl rfl 78 (by decide) (hts _ (List.mem_of_getElem? (i := 15) rfl)) (congrArg (fun z => some (Value.int z)) hgq_35_51) dX12_open_279 ?_
          refine lv_if_le (tgt := 295) hx hb dX12_open_282 (by decide) (fun cc_40 => absurd cc_40 (by decide)) (fun _ => ?_)
          refine lv_bipush (v := (-10)) hx hb dX12_open_285 (by decide) ?_
          refine lv_aload_n hx hb dX12_open_287 rfl (lv_at hl 1 rfl) ?_
          refine hk_get (ci := 15) (C := RX12) (T := TX12) (N := 92) (v := .int 0) hx hb hts iX12 hown hw 0 rfl rfl 76 (by decide) (hts _ (List.mem_of_getElem? (i := 12) rfl)) (congrArg (fun z => some (Value.int z)) hgq_35_49) dX12_open_288 ?_
          refine lv_isub hx hb dX12_open_291 ?_
          refine hk_topi (-10) (by decide +kernel) ?_
          refine lv_goto (tgt := 299) hx hb dX12_open_292 (by decide) ?_
          exact hk_iret (u := ((upd (upd (upd (upd gq_35 13 0) 12 0) 21 0) 22 15), (vp_updL mf_l 5 4096), (va_up (va_up (va_up (va_up (va_up (va_up ar 16 uu_6) 11 (upd (ar 11) 0 0)) 12 (upd (ar 12) 0 0)) 13 (upd (ar 13) 0 0)) 14 (upd (ar 14) 0 0)) 15 (upd (ar 15) 0 0)), bk)) hx hb hr hlocks (hw) (rfl) dX12_open_299
  · refine lv_aload_n hx hb dX12_open_73 rfl (lv_at hl 0 rfl) ?_
    refine lv_iload_n hx hb dX12_open_74 rfl (lv_at hl 1 rfl) ?_
    refine hk_Vv (As := [.int mm]) (rest := []) ⟨hx, hb, hml, hown, hts⟩ hw hA (cn_openPlain l D cI cJ ad gq_8 mf_l (va_up ar 16 uu_6) bk _ mm hgq_8_51 hgq_8_49 hgq_8_50) (cwV 1 hts gw_cm_open_5 rfl rfl rfl (by decide +kernel) ⟨Nat.le_of_ble_eq_true rfl, Nat.le_of_ble_eq_true rfl⟩) 0 (ci := 15) (T := TX12) (N := 92) rfl rfl rfl hl.1 rfl (Nat.le_of_ble_eq_true rfl) dX12_open_75 ⟨Nat.le_of_ble_eq_true rfl, Nat.le_of_ble_eq_true rfl⟩ (fun uu_42 H locs hp_43 hw => ?_)
    have hw : hk_W D [(cI, .int), (cJ, .long)] _ s _ _ (mw cI cJ ad (upd gq_8 51 1) mf_l (va_up ar 16 uu_6) bk) := hw
    refine lv_goto (tgt := 189) hx hb dX12_open_78 (by decide) ?_
    obtain ⟨gq_44, hgq_44⟩ : ∃ q : Nat → Int32, q = (upd gq_8 51 1) := ⟨_, rfl⟩
    have hgq_44_0 : gq_44 0 = fm := by rw [hgq_44]; exact hgq_8_0
    have hgq_44_1 : gq_44 1 = 0 := by rw [hgq_44]; exact hgq_8_1
    have hgq_44_2 : gq_44 2 = 3 := by rw [hgq_44]; exact hgq_8_2
    have hgq_44_3 : gq_44 3 = 0 := by rw [hgq_44]; exact hgq_8_3
    have hgq_44_4 : gq_44 4 = 2 := by rw [hgq_44]; exact hgq_8_4
    have hgq_44_5 : gq_44 5 = 4096 := by rw [hgq_44]; exact hgq_8_5
    have hgq_44_6 : gq_44 6 = 512 := by rw [hgq_44]; exact hgq_8_6
    have hgq_44_7 : gq_44 7 = 1024 := by rw [hgq_44]; exact hgq_8_7
    have hgq_44_8 : gq_44 8 = 1 := by rw [hgq_44]; exact hgq_8_8
    have hgq_44_9 : gq_44 9 = 0 := by rw [hgq_44]; exact hgq_8_9
    have hgq_44_10 : gq_44 10 = 0 := by rw [hgq_44]; exact hgq_8_10
    have hgq_44_11 : gq_44 11 = 0 := by rw [hgq_44]; exact hgq_8_11
    have hgq_44_12 : gq_44 12 = 0 := by rw [hgq_44]; exact hgq_8_12
    have hgq_44_13 : gq_44 13 = 0 := by rw [hgq_44]; exact hgq_8_13
    have hgq_44_14 : gq_44 14 = 0 := by rw [hgq_44]; exact hgq_8_14
    have hgq_44_15 : gq_44 15 = 0 := by rw [hgq_44]; exact hgq_8_15
    have hgq_44_16 : gq_44 16 = 0 := by rw [hgq_44]; exact hgq_8_16
    have hgq_44_17 : gq_44 17 = 0 := by rw [hgq_44]; exact hgq_8_17
    have hgq_44_18 : gq_44 18 = 0 := by rw [hgq_44]; exact hgq_8_18
    have hgq_44_19 : gq_44 19 = 0 := by rw [hgq_44]; exact hgq_8_19
    have hgq_44_20 : gq_44 20 = 0 := by rw [hgq_44]; exact hgq_8_20
    have hgq_44_21 : gq_44 21 = (-1) := by rw [hgq_44]; exact hgq_8_21
    have hgq_44_22 : gq_44 22 = 0 := by rw [hgq_44]; exact hgq_8_22
    have hgq_44_23 : gq_44 23 = 0 := by rw [hgq_44]; exact hgq_8_23
    have hgq_44_24 : gq_44 24 = 1 := by rw [hgq_44]; exact hgq_8_24
    have hgq_44_25 : gq_44 25 = 1 := by rw [hgq_44]; exact hgq_8_25
    have hgq_44_26 : gq_44 26 = 1 := by rw [hgq_44]; exact hgq_8_26
    have hgq_44_27 : gq_44 27 = 1 := by rw [hgq_44]; exact hgq_8_27
    have hgq_44_28 : gq_44 28 = 0 := by rw [hgq_44]; exact hgq_8_28
    have hgq_44_29 : gq_44 29 = 0 := by rw [hgq_44]; exact hgq_8_29
    have hgq_44_30 : gq_44 30 = 0 := by rw [hgq_44]; exact hgq_8_30
    have hgq_44_31 : gq_44 31 = 0 := by rw [hgq_44]; exact hgq_8_31
    have hgq_44_32 : gq_44 32 = 0 := by rw [hgq_44]; exact hgq_8_32
    have hgq_44_33 : gq_44 33 = 0 := by rw [hgq_44]; exact hgq_8_33
    have hgq_44_34 : gq_44 34 = 0 := by rw [hgq_44]; exact hgq_8_34
    have hgq_44_35 : gq_44 35 = 0 := by rw [hgq_44]; exact hgq_8_35
    have hgq_44_36 : gq_44 36 = 0 := by rw [hgq_44]; exact hgq_8_36
    have hgq_44_37 : gq_44 37 = 0 := by rw [hgq_44]; exact hgq_8_37
    have hgq_44_38 : gq_44 38 = 0 := by rw [hgq_44]; exact hgq_8_38
    have hgq_44_39 : gq_44 39 = 0 := by rw [hgq_44]; exact hgq_8_39
    have hgq_44_40 : gq_44 40 = 0 := by rw [hgq_44]; exact hgq_8_40
    have hgq_44_41 : gq_44 41 = 0 := by rw [hgq_44]; exact hgq_8_41
    have hgq_44_42 : gq_44 42 = 0 := by rw [hgq_44]; exact hgq_8_42
    have hgq_44_43 : gq_44 43 = 0 := by rw [hgq_44]; exact hgq_8_43
    have hgq_44_44 : gq_44 44 = 0 := by rw [hgq_44]; exact hgq_8_44
    have hgq_44_45 : gq_44 45 = 0 := by rw [hgq_44]; exact hgq_8_45
    have hgq_44_46 : gq_44 46 = 0 := by rw [hgq_44]; exact hgq_8_46
    have hgq_44_47 : gq_44 47 = 0 := by rw [hgq_44]; exact hgq_8_47
    have hgq_44_48 : gq_44 48 = 0 := by rw [hgq_44]; exact hgq_8_48
    have hgq_44_49 : gq_44 49 = 0 := by rw [hgq_44]; exact hgq_8_49
    have hgq_44_50 : gq_44 50 = 0 := by rw [hgq_44]; exact hgq_8_50
    have hgq_44_51 : gq_44 51 = 1 := by rw [hgq_44]; rfl
    have hgq_44_52 : gq_44 52 = 0 := by rw [hgq_44]; exact hgq_8_52
    have hgq_44_53 : gq_44 53 = 0 := by rw [hgq_44]; exact hgq_8_53
    have hgq_44_54 : gq_44 54 = (-1) := by rw [hgq_44]; exact hgq_8_54
    have hgq_44_55 : gq_44 55 = 0 := by rw [hgq_44]; exact hgq_8_55
    have hgq_44_56 : gq_44 56 = 0 := by rw [hgq_44]; exact hgq_8_56
    have hgq_44_57 : gq_44 57 = 0 := by rw [hgq_44]; exact hgq_8_57
    have hgq_44_58 : gq_44 58 = 0 := by rw [hgq_44]; exact hgq_8_58
    rw [← hgq_44] at hw
    refine lv_aload_n hx hb dX12_open_189 rfl (lv_at hl 0 rfl) ?_
    refine hk_get (ci := 15) (C := RX12) (T := TX12) (N := 92) (v := .int 1) hx hb hts iX12 hown hw 0 rfl rfl 78 (by decide) (hts _ (List.mem_of_getElem? (i := 15) rfl)) (congrArg (fun z => some (Value.int z)) hgq_44_51) dX12_open_190 ?_
    refine lv_if_ne (tgt := 213) hx hb dX12_open_193 (by decide) (fun _ => ?_) (fun cc_45 => absurd cc_45 (by decide))
    refine lv_aload_n hx hb dX12_open_213 rfl (lv_at hl 0 rfl) ?_
    refine hk_get (ci := 15) (C := RX12) (T := TX12) (N := 92) (v := .int fm) hx hb hts iX12 hown hw 0 rfl rfl 0 (by decide) (hts _ (List.mem_of_getElem? (i := 32) rfl)) (congrArg (fun z => some (Value.int z)) hgq_44_0) dX12_open_214 ?_
    refine lv_iconst (v := 2) hx hb dX12_open_217 (by decide) ?_
    refine lv_icmp_ge (tgt := 257) hx hb dX12_open_218 (by decide) (fun cc_46 => ?_) (fun cc_46 => ?_)
    · refine lv_aload_n hx hb dX12_open_257 rfl (lv_at hl 0 rfl) ?_
      refine lv_iconst (v := 0) hx hb dX12_open_258 (by decide) ?_
      refine hk_put (ci := 15) (C := RX12) (T := TX12) (N := 92) (ty := .int) (v := .int 0) hx hb hts iX12 tyX12 tyX12_ok nmX12 hown hw 0 rfl rfl 13 (by decide) (hts _ (List.mem_of_getElem? (i := 13) rfl)) rfl (by decide +kernel) rfl rfl (Nat.le_of_ble_eq_true rfl) dX12_open_259 (ws' := mw cI cJ ad (upd gq_44 12 0) mf_l (va_up ar 16 uu_6) bk) rfl (fun H locs hw => ?_)
      refine lv_aload_n hx hb dX12_open_262 rfl (lv_at hl 0 rfl) ?_
      refine lv_aload_n hx hb dX12_open_263 rfl (lv_at hl 0 rfl) ?_
      refine hk_get (ci := 15) (C := RX12) (T := TX12) (N := 92) (v := .int 0) hx hb hts iX12 hown hw 0 rfl rfl 43 (by decide) (hts _ (List.mem_of_getElem? (i := 26) rfl)) (congrArg (fun z => some (Value.int z)) hgq_44_23) dX12_open_264 ?_
      refine hk_put (ci := 15) (C := RX12) (T := TX12) (N := 92) (ty := .int) (v := .int 0) hx hb hts iX12 tyX12 tyX12_ok nmX12 hown hw 0 rfl rfl 39 (by decide) (hts _ (List.mem_of_getElem? (i := 80) rfl)) rfl (by decide +kernel) rfl rfl (Nat.le_of_ble_eq_true rfl) dX12_open_267 (ws' := mw cI cJ ad (upd (upd gq_44 12 0) 21 0) mf_l (va_up ar 16 uu_6) bk) rfl (fun H locs hw => ?_)
      refine lv_aload_n hx hb dX12_open_270 rfl (lv_at hl 0 rfl) ?_
      refine lv_aload_n hx hb dX12_open_271 rfl (lv_at hl 0 rfl) ?_
      refine hk_get (ci := 15) (C := RX12) (T := TX12) (N := 92) (v := .int 1) hx hb hts iX12 hown hw 0 rfl rfl 78 (by decide) (hts _ (List.mem_of_getElem? (i := 15) rfl)) (congrArg (fun z => some (Value.int z)) hgq_44_51) dX12_open_272 ?_
      refine hk_put (ci := 15) (C := RX12) (T := TX12) (N := 92) (ty := .int) (v := .int 1) hx hb hts iX12 tyX12 tyX12_ok nmX12 hown hw 0 rfl rfl 40 (by decide) (hts _ (List.mem_of_getElem? (i := 11) rfl)) rfl (by decide +kernel) rfl rfl (Nat.le_of_ble_eq_true rfl) dX12_open_275 (ws' := mw cI cJ ad (upd (upd (upd gq_44 12 0) 21 0) 22 1) mf_l (va_up ar 16 uu_6) bk) rfl (fun H locs hw => ?_)
      refine lv_aload_n hx hb dX12_open_278 rfl (lv_at hl 0 rfl) ?_
      refine hk_get (ci := 15) (C := RX12) (T := TX12) (N := 92) (v := .int 1) hx hb hts iX12 hown hw 0 rfl rfl 78 (by decide) (hts _ (List.mem_of_getElem? (i := 15) rfl)) (congrArg (fun z => some (Value.int z)) hgq_44_51) dX12_open_279 ?_
      refine lv_if_le (tgt := 295) hx hb dX12_open_282 (by decide) (fun cc_47 => absurd cc_47 (by decide)) (fun _ => ?_)
      refine lv_bipush (v := (-10)) hx hb dX12_open_285 (by decide) ?_
      refine lv_aload_n hx hb dX12_open_287 rfl (lv_at hl 0 rfl) ?_
      refine hk_get (ci := 15) (C := RX12) (T := TX12) (N := 92) (v := .int 0) hx hb hts iX12 hown hw 0 rfl rfl 76 (by decide) (hts _ (List.mem_of_getElem? (i := 12) rfl)) (congrArg (fun z => some (Value.int z)) hgq_44_49) dX12_open_288 ?_
      refine lv_isub hx hb dX12_open_291 ?_
      refine hk_topi (-10) (by decide +kernel) ?_
      refine lv_goto (tgt := 299) hx hb dX12_open_292 (by decide) ?_
      exact hk_iret (u := ((upd (upd (upd gq_44 12 0) 21 0) 22 1), mf_l, (va_up ar 16 uu_6), bk)) hx hb hr hlocks (hw) (rfl) dX12_open_299
    · refine lv_aload_n hx hb dX12_open_221 rfl (lv_at hl 0 rfl) ?_
      refine lv_aload_n hx hb dX12_open_222 rfl (lv_at hl 0 rfl) ?_
      refine hk_get (ci := 15) (C := RX12) (T := TX12) (N := 92) (v := .int 0) hx hb hts iX12 hown hw 0 rfl rfl 26 (by decide) (hts _ (List.mem_of_getElem? (i := 16) rfl)) (congrArg (fun z => some (Value.int z)) hgq_44_17) dX12_open_223 ?_
      refine hk_put (ci := 15) (C := RX12) (T := TX12) (N := 92) (ty := .int) (v := .int 0) hx hb hts iX12 tyX12 tyX12_ok nmX12 hown hw 0 rfl rfl 15 (by decide) (hts _ (List.mem_of_getElem? (i := 10) rfl)) rfl (by decide +kernel) rfl rfl (Nat.le_of_ble_eq_true rfl) dX12_open_226 (ws' := mw cI cJ ad (upd gq_44 13 0) mf_l (va_up ar 16 uu_6) bk) rfl (fun H locs hw => ?_)
      refine lv_iconst (v := 0) hx hb dX12_open_229 (by decide) ?_
      refine lv_istore_n (lv' := [(2, .int 0), (0, .ref (ad 0)), (1, .int mm)]) hx hb dX12_open_230 rfl hl (by decide) rfl (fun ls hl => ?_)
      refine lv_iload_n hx hb dX12_open_231 rfl (lv_at hl 0 rfl) ?_
      refine lv_aload_n hx hb dX12_open_232 rfl (lv_at hl 1 rfl) ?_
      refine hk_get (ci := 15) (C := RX12) (T := TX12) (N := 92) (v := .int 0) hx hb hts iX12 hown hw 0 rfl rfl 26 (by decide) (hts _ (List.mem_of_getElem? (i := 16) rfl)) (congrArg (fun z => some (Value.int z)) hgq_44_17) dX12_open_233 ?_
      refine lv_icmp_ge (tgt := 257) hx hb dX12_open_236 (by decide) (fun _ => ?_) (fun cc_48 => absurd (by decide) cc_48)
      refine lv_aload_n hx hb dX12_open_257 rfl (lv_at hl 1 rfl) ?_
      refine lv_iconst (v := 0) hx hb dX12_open_258 (by decide) ?_
      refine hk_put (ci := 15) (C := RX12) (T := TX12) (N := 92) (ty := .int) (v := .int 0) hx hb hts iX12 tyX12 tyX12_ok nmX12 hown hw 0 rfl rfl 13 (by decide) (hts _ (List.mem_of_getElem? (i := 13) rfl)) rfl (by decide +kernel) rfl rfl (Nat.le_of_ble_eq_true rfl) dX12_open_259 (ws' := mw cI cJ ad (upd (upd gq_44 13 0) 12 0) mf_l (va_up ar 16 uu_6) bk) rfl (fun H locs hw => ?_)
      refine lv_aload_n hx hb dX12_open_262 rfl (lv_at hl 1 rfl) ?_
      refine lv_aload_n hx hb dX12_open_263 rfl (lv_at hl 1 rfl) ?_
      refine hk_get (ci := 15) (C := RX12) (T := TX12) (N := 92) (v := .int 0) hx hb hts iX12 hown hw 0 rfl rfl 43 (by decide) (hts _ (List.mem_of_getElem? (i := 26) rfl)) (congrArg (fun z => some (Value.int z)) hgq_44_23) dX12_open_264 ?_
      refine hk_put (ci := 15) (C := RX12) (T := TX12) (N := 92) (ty := .int) (v := .int 0) hx hb hts iX12 tyX12 tyX12_ok nmX12 hown hw 0 rfl rfl 39 (by decide) (hts _ (List.mem_of_getElem? (i := 80) rfl)) rfl (by decide +kernel) rfl rfl (Nat.le_of_ble_eq_true rfl) dX12_open_267 (ws' := mw cI cJ ad (upd (upd (upd gq_44 13 0) 12 0) 21 0) mf_l (va_up ar 16 uu_6) bk) rfl (fun H locs hw => ?_)
      refine lv_aload_n hx hb dX12_open_270 rfl (lv_at hl 1 rfl) ?_
      refine lv_aload_n hx hb dX12_open_271 rfl (lv_at hl 1 rfl) ?_
      refine hk_get (ci := 15) (C := RX12) (T := TX12) (N := 92) (v := .int 1) hx hb hts iX12 hown hw 0 rfl rfl 78 (by decide) (hts _ (List.mem_of_getElem? (i := 15) rfl)) (congrArg (fun z => some (Value.int z)) hgq_44_51) dX12_open_272 ?_
      refine hk_put (ci := 15) (C := RX12) (T := TX12) (N := 92) (ty := .int) (v := .int 1) hx hb hts iX12 tyX12 tyX12_ok nmX12 hown hw 0 rfl rfl 40 (by decide) (hts _ (List.mem_of_getElem? (i := 11) rfl)) rfl (by decide +kernel) rfl rfl (Nat.le_of_ble_eq_true rfl) dX12_open_275 (ws' := mw cI cJ ad (upd (upd (upd (upd gq_44 13 0) 12 0) 21 0) 22 1) mf_l (va_up ar 16 uu_6) bk) rfl (fun H locs hw => ?_)
      refine lv_aload_n hx hb dX12_open_278 rfl (lv_at hl 1 rfl) ?_
      refine hk_get (ci := 15) (C := RX12) (T := TX12) (N := 92) (v := .int 1) hx hb hts iX12 hown hw 0 rfl rfl 78 (by decide) (hts _ (List.mem_of_getElem? (i := 15) rfl)) (congrArg (fun z => some (Value.int z)) hgq_44_51) dX12_open_279 ?_
      refine lv_if_le (tgt := 295) hx hb dX12_open_282 (by decide) (fun cc_49 => absurd cc_49 (by decide)) (fun _ => ?_)
      refine lv_bipush (v := (-10)) hx hb dX12_open_285 (by decide) ?_
      refine lv_aload_n hx hb dX12_open_287 rfl (lv_at hl 1 rfl) ?_
      refine hk_get (ci := 15) (C := RX12) (T := TX12) (N := 92) (v := .int 0) hx hb hts iX12 hown hw 0 rfl rfl 76 (by decide) (hts _ (List.mem_of_getElem? (i := 12) rfl)) (congrArg (fun z => some (Value.int z)) hgq_44_49) dX12_open_288 ?_
      refine lv_isub hx hb dX12_open_291 ?_
      refine hk_topi (-10) (by decide +kernel) ?_
      refine lv_goto (tgt := 299) hx hb dX12_open_292 (by decide) ?_
      exact hk_iret (u := ((upd (upd (upd (upd gq_44 13 0) 12 0) 21 0) 22 1), mf_l, (va_up ar 16 uu_6), bk)) hx hb hr hlocks (hw) (rfl) dX12_open_299
