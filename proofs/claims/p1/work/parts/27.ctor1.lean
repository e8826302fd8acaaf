def ww_cc_X9_1500 : List Cond := Cond.code yX9_init cX9_init 2 none :: ([Cond.methodLink RX9 1 objectInit, Cond.instanceMethod objectInit, Cond.code objectInit ⟨#[0xb1]⟩ 1 none, Cond.arrayClass .int, Cond.fieldLink RX9 7 "LzmaChains$Row" "data" "[I"] ++ (wsX90 ++ ([])))
set_option maxHeartbeats 4000000 in
set_option maxRecDepth 100000 in
/-- Row(1500) -/
theorem cc_X9_1500 (l : Launch) (D : va_G) (cI cJ : ClassId) (sz : Nat) (h0 : Nat) : Met l yX9_init ww_cc_X9_1500 { frames := 1, cells := 1, slots := 1500, locals := 20 } (va_Pc [.ref h0, .int 1500] (hk_B D [(cI, .int), (cJ, .long)] sz [(h0, .inr (12, [.null, .int 0]))])) (va_Qv (fun u : Nat => True) (fun u : Nat => hk_E D [(cI, .int), (cJ, .long)] (va_A [(h0, .inr (12, [.null, .int 0]))] sz) [(h0, .inr (12, [.ref u, .int 0])), (u, .inl (cI, 1500, .inl (fun _ => 0)))]) (va_A [(h0, .inr (12, [.null, .int 0]))] sz)) 1 1500 (va_A [(h0, .inr (12, [.null, .int 0]))] sz) := by
  refine hk_met (cc := cX9_init) (maxL := 2) (ret := none) (by decide) rfl (Nat.le_of_ble_eq_true rfl) ?_
  intro p e s m below meth c ls hx hb hr hml hown hts hlocks hin hA hw hl
  have iX9 : ∀ w ∈ wsX90, w ∈ ww_cc_X9_1500 := fun _ h => List.mem_cons_of_mem _ (List.mem_append_right _ (List.mem_append_left _ h))
  have hl : lv_has ls 2 [(0, .ref h0), (1, .int 1500)] := hl
  refine lv_aload_n hx hb dX9_init_0 rfl (lv_at hl 0 rfl) ?_
  refine W.objInit hx hb hown (hts _ (List.mem_of_getElem? (i := 1) rfl)) (hts _ (List.mem_of_getElem? (i := 2) rfl)) (hts _ (List.mem_of_getElem? (i := 3) rfl)) rfl (by rw [hml]; exact hl.1) rfl dX9_init_1 (Nat.le_of_ble_eq_true rfl) (Nat.le_of_ble_eq_true rfl) ?_
  refine W.eq (g2 := F0 m 4 ls []) rfl ?_
  refine lv_aload_n hx hb dX9_init_4 rfl (lv_at hl 0 rfl) ?_
  refine lv_iload_n hx hb dX9_init_5 rfl (lv_at hl 1 rfl) ?_
  refine hk_newi (N := 1500) hx hb (hts _ (List.mem_of_getElem? (i := 4) rfl)) hw hA 0 rfl (by decide) (by decide) (by decide) (Nat.le_of_ble_eq_true rfl) (Nat.le_of_ble_eq_true rfl) dX9_init_6 (fun q_1 H hw => ?_)
  have hw : hk_W D [(cI, .int), (cJ, .long)] _ s _ _ [(h0, .inr (12, [.null, .int 0])), (q_1, .inl (cI, 1500, .inl (fun _ => 0)))] := hw
  refine W.widen (k := 1) (n := 1500) (by omega) (by omega) ?_
  refine hk_putF (ci := 12) (C := RX9) (T := TX9) (N := 2) (ty := (.array .int)) (v := .ref q_1) hx hb hts iX9 tyX9 tyX9_ok nmX9 hown hw 0 rfl rfl 0 (by decide) (hts _ (List.mem_of_getElem? (i := 5) rfl)) rfl hin rfl (by decide +kernel) rfl rfl (Nat.le_of_ble_eq_true rfl) dX9_init_8 (ws' := [(h0, .inr (12, [.ref q_1, .int 0])), (q_1, .inl (cI, 1500, .inl (fun _ => 0)))]) rfl (fun H locs hw => ?_)
  exact hk_vret (u := q_1) (w' := fun u : Nat => [(h0, .inr (12, [.ref u, .int 0])), (u, .inl (cI, 1500, .inl (fun _ => 0)))]) hx hb hr hlocks hw trivial dX9_init_11

def ww_cc_X9_3000 : List Cond := Cond.code yX9_init cX9_init 2 none :: ([Cond.methodLink RX9 1 objectInit, Cond.instanceMethod objectInit, Cond.code objectInit ⟨#[0xb1]⟩ 1 none, Cond.arrayClass .int, Cond.fieldLink RX9 7 "LzmaChains$Row" "data" "[I"] ++ (wsX90 ++ ([])))
set_option maxHeartbeats 4000000 in
set_option maxRecDepth 100000 in
/-- Row(3000) -/
theorem cc_X9_3000 (l : Launch) (D : va_G) (cI cJ : ClassId) (sz : Nat) (h0 : Nat) : Met l yX9_init ww_cc_X9_3000 { frames := 1, cells := 1, slots := 3000, locals := 20 } (va_Pc [.ref h0, .int 3000] (hk_B D [(cI, .int), (cJ, .long)] sz [(h0, .inr (12, [.null, .int 0]))])) (va_Qv (fun u : Nat => True) (fun u : Nat => hk_E D [(cI, .int), (cJ, .long)] (va_A [(h0, .inr (12, [.null, .int 0]))] sz) [(h0, .inr (12, [.ref u, .int 0])), (u, .inl (cI, 3000, .inl (fun _ => 0)))]) (va_A [(h0, .inr (12, [.null, .int 0]))] sz)) 1 3000 (va_A [(h0, .inr (12, [.null, .int 0]))] sz) := by
  refine hk_met (cc := cX9_init) (maxL := 2) (ret := none) (by decide) rfl (Nat.le_of_ble_eq_true rfl) ?_
  intro p e s m below meth c ls hx hb hr hml hown hts hlocks hin hA hw hl
  have iX9 : ∀ w ∈ wsX90, w ∈ ww_cc_X9_3000 := fun _ h => List.mem_cons_of_mem _ (List.mem_append_right _ (List.mem_append_left _ h))
  have hl : lv_has ls 2 [(0, .ref h0), (1, .int 3000)] := hl
  refine lv_aload_n hx hb dX9_init_0 rfl (lv_at hl 0 rfl) ?_
  refine W.objInit hx hb hown (hts _ (List.mem_of_getElem? (i := 1) rfl)) (hts _ (List.mem_of_getElem? (i := 2) rfl)) (hts _ (List.mem_of_getElem? (i := 3) rfl)) rfl (by rw [hml]; exact hl.1) rfl dX9_init_1 (Nat.le_of_ble_eq_true rfl) (Nat.le_of_ble_eq_true rfl) ?_
  refine W.eq (g2 := F0 m 4 ls []) rfl ?_
  refine lv_aload_n hx hb dX9_init_4 rfl (lv_at hl 0 rfl) ?_
  refine lv_iload_n hx hb dX9_init_5 rfl (lv_at hl 1 rfl) ?_
  refine hk_newi (N := 3000) hx hb (hts _ (List.mem_of_getElem? (i := 4) rfl)) hw hA 0 rfl (by decide) (by decide) (by decide) (Nat.le_of_ble_eq_true rfl) (Nat.le_of_ble_eq_true rfl) dX9_init_6 (fun q_1 H hw => ?_)
  have hw : hk_W D [(cI, .int), (cJ, .long)] _ s _ _ [(h0, .inr (12, [.null, .int 0])), (q_1, .inl (cI, 3000, .inl (fun _ => 0)))] := hw
  refine W.widen (k := 1) (n := 3000) (by omega) (by omega) ?_
  refine hk_putF (ci := 12) (C := RX9) (T := TX9) (N := 2) (ty := (.array .int)) (v := .ref q_1) hx hb hts iX9 tyX9 tyX9_ok nmX9 hown hw 0 rfl rfl 0 (by decide) (hts _ (List.mem_of_getElem? (i := 5) rfl)) rfl hin rfl (by decide +kernel) rfl rfl (Nat.le_of_ble_eq_true rfl) dX9_init_8 (ws' := [(h0, .inr (12, [.ref q_1, .int 0])), (q_1, .inl (cI, 3000, .inl (fun _ => 0)))]) rfl (fun H locs hw => ?_)
  exact hk_vret (u := q_1) (w' := fun u : Nat => [(h0, .inr (12, [.ref u, .int 0])), (u, .inl (cI, 3000, .inl (fun _ => 0)))]) hx hb hr hlocks hw trivial dX9_init_11

def ww_cc_X9_1024 : List Cond := Cond.code yX9_init cX9_init 2 none :: ([Cond.methodLink RX9 1 objectInit, Cond.instanceMethod objectInit, Cond.code objectInit ⟨#[0xb1]⟩ 1 none, Cond.arrayClass .int, Cond.fieldLink RX9 7 "LzmaChains$Row" "data" "[I"] ++ (wsX90 ++ ([])))
set_option maxHeartbeats 4000000 in
set_option maxRecDepth 100000 in
/-- Row(1024) -/
theorem cc_X9_1024 (l : Launch) (D : va_G) (cI cJ : ClassId) (sz : Nat) (h0 : Nat) : Met l yX9_init ww_cc_X9_1024 { frames := 1, cells := 1, slots := 1024, locals := 20 } (va_Pc [.ref h0, .int 1024] (hk_B D [(cI, .int), (cJ, .long)] sz [(h0, .inr (12, [.null, .int 0]))])) (va_Qv (fun u : Nat => True) (fun u : Nat => hk_E D [(cI, .int), (cJ, .long)] (va_A [(h0, .inr (12, [.null, .int 0]))] sz) [(h0, .inr (12, [.ref u, .int 0])), (u, .inl (cI, 1024, .inl (fun _ => 0)))]) (va_A [(h0, .inr (12, [.null, .int 0]))] sz)) 1 1024 (va_A [(h0, .inr (12, [.null, .int 0]))] sz) := by
  refine hk_met (cc := cX9_init) (maxL := 2) (ret := none) (by decide) rfl (Nat.le_of_ble_eq_true rfl) ?_
  intro p e s m below meth c ls hx hb hr hml hown hts hlocks hin hA hw hl
  have iX9 : ∀ w ∈ wsX90, w ∈ ww_cc_X9_1024 := fun _ h => List.mem_cons_of_mem _ (List.mem_append_right _ (List.mem_append_left _ h))
  have hl : lv_has ls 2 [(0, .ref h0), (1, .int 1024)] := hl
  refine lv_aload_n hx hb dX9_init_0 rfl (lv_at hl 0 rfl) ?_
  refine W.objInit hx hb hown (hts _ (List.mem_of_getElem? (i := 1) rfl)) (hts _ (List.mem_of_getElem? (i := 2) rfl)) (hts _ (List.mem_of_getElem? (i := 3) rfl)) rfl (by rw [hml]; exact hl.1) rfl dX9_init_1 (Nat.le_of_ble_eq_true rfl) (Nat.le_of_ble_eq_true rfl) ?_
  refine W.eq (g2 := F0 m 4 ls []) rfl ?_
  refine lv_aload_n hx hb dX9_init_4 rfl (lv_at hl 0 rfl) ?_
  refine lv_iload_n hx hb dX9_init_5 rfl (lv_at hl 1 rfl) ?_
  refine hk_newi (N := 1024) hx hb (hts _ (List.mem_of_getElem? (i := 4) rfl)) hw hA 0 rfl (by decide) (by decide) (by decide) (Nat.le_of_ble_eq_true rfl) (Nat.le_of_ble_eq_true rfl) dX9_init_6 (fun q_1 H hw => ?_)
  have hw : hk_W D [(cI, .int), (cJ, .long)] _ s _ _ [(h0, .inr (12, [.null, .int 0])), (q_1, .inl (cI, 1024, .inl (fun _ => 0)))] := hw
  refine W.widen (k := 1) (n := 1024) (by omega) (by omega) ?_
  refine hk_putF (ci := 12) (C := RX9) (T := TX9) (N := 2) (ty := (.array .int)) (v := .ref q_1) hx hb hts iX9 tyX9 tyX9_ok nmX9 hown hw 0 rfl rfl 0 (by decide) (hts _ (List.mem_of_getElem? (i := 5) rfl)) rfl hin rfl (by decide +kernel) rfl rfl (Nat.le_of_ble_eq_true rfl) dX9_init_8 (ws' := [(h0, .inr (12, [.ref q_1, .int 0])), (q_1, .inl (cI, 1024, .inl (fun _ => 0)))]) rfl (fun H locs hw => ?_)
  exact hk_vret (u := q_1) (w' := fun u : Nat => [(h0, .inr (12, [.ref u, .int 0])), (u, .inl (cI, 1024, .inl (fun _ => 0)))]) hx hb hr hlocks hw trivial dX9_init_11

def ww_cc_X10 : List Cond := Cond.code yX10_init cX10_init 1 none :: ([Cond.methodLink RX10 3 objectInit, Cond.instanceMethod objectInit, Cond.code objectInit ⟨#[0xb1]⟩ 1 none, Cond.fieldLink RX10 9 "LzmaChains$Settings" "lc" "I", Cond.fieldLink RX10 15 "LzmaChains$Settings" "lp" "I", Cond.fieldLink RX10 18 "LzmaChains$Settings" "pb" "I", Cond.fieldLink RX10 21 "LzmaChains$Settings" "dictionary" "I", Cond.fieldLink RX10 24 "LzmaChains$Settings" "chunk" "I", Cond.fieldLink RX10 27 "LzmaChains$Settings" "block" "I", Cond.fieldLink RX10 30 "LzmaChains$Settings" "check" "I"] ++ (wsX100 ++ ([])))
set_option maxHeartbeats 4000000 in
set_option maxRecDepth 100000 in
/-- Settings() -/
theorem cc_X10 (l : Launch) (D : va_G) (cI cJ : ClassId) (sz : Nat) (h0 : Nat) : Met l yX10_init ww_cc_X10 { frames := 1, cells := 0, slots := 0, locals := 20 } (va_Pc [.ref h0] (hk_B D [(cI, .int), (cJ, .long)] sz [(h0, .inr (13, [.int 0, .int 0, .int 0, .int 0, .int 0, .int 0, .int 0, .int 0, .int 0, .int 0]))])) (va_Qv (fun u : Unit => True) (fun u : Unit => hk_E D [(cI, .int), (cJ, .long)] (va_A [(h0, .inr (13, [.int 0, .int 0, .int 0, .int 0, .int 0, .int 0, .int 0, .int 0, .int 0, .int 0]))] sz) [(h0, .inr (13, [.int 3, .int 0, .int 2, .int 4096, .int 512, .int 1024, .int 1, .int 0, .int 0, .int 0]))]) (va_A [(h0, .inr (13, [.int 0, .int 0, .int 0, .int 0, .int 0, .int 0, .int 0, .int 0, .int 0, .int 0]))] sz)) 0 0 (va_A [(h0, .inr (13, [.int 0, .int 0, .int 0, .int 0, .int 0, .int 0, .int 0, .int 0, .int 0, .int 0]))] sz) := by
  refine hk_met (cc := cX10_init) (maxL := 1) (ret := none) (by decide) rfl (Nat.le_of_ble_eq_true rfl) ?_
  intro p e s m below meth c ls hx hb hr hml hown hts hlocks hin hA hw hl
  have iX10 : ∀ w ∈ wsX100, w ∈ ww_cc_X10 := fun _ h => List.mem_cons_of_mem _ (List.mem_append_right _ (List.mem_append_left _ h))
  have hl : lv_has ls 1 [(0, .ref h0)] := hl
  refine lv_aload_n hx hb dX10_init_0 rfl (lv_at hl 0 rfl) ?_
  refine W.objInit hx hb hown (hts _ (List.mem_of_getElem? (i := 1) rfl)) (hts _ (List.mem_of_getElem? (i := 2) rfl)) (hts _ (List.mem_of_getElem? (i := 3) rfl)) rfl (by rw [hml]; exact hl.1) rfl dX10_init_1 (Nat.le_of_ble_eq_true rfl) (Nat.le_of_ble_eq_true rfl) ?_
  refine W.eq (g2 := F0 m 4 ls []) rfl ?_
  refine lv_aload_n hx hb dX10_init_4 rfl (lv_at hl 0 rfl) ?_
  refine lv_iconst (v := 3) hx hb dX10_init_5 (by decide) ?_
  refine hk_put (ci := 13) (C := RX10) (T := TX10) (N := 10) (ty := .int) (v := .int 3) hx hb hts iX10 tyX10 tyX10_ok nmX10 hown hw 0 rfl rfl 0 (by decide) (hts _ (List.mem_of_getElem? (i := 4) rfl)) rfl (by decide +kernel) rfl rfl (Nat.le_of_ble_eq_true rfl) dX10_init_6 (ws' := [(h0, .inr (13, [.int 3, .int 0, .int 0, .int 0, .int 0, .int 0, .int 0, .int 0, .int 0, .int 0]))]) rfl (fun H locs hw => ?_)
  refine lv_aload_n hx hb dX10_init_9 rfl (lv_at hl 0 rfl) ?_
  refine lv_iconst (v := 0) hx hb dX10_init_10 (by decide) ?_
  refine hk_put (ci := 13) (C := RX10) (T := TX10) (N := 10) (ty := .int) (v := .int 0) hx hb hts iX10 tyX10 tyX10_ok nmX10 hown hw 0 rfl rfl 1 (by decide) (hts _ (List.mem_of_getElem? (i := 5) rfl)) rfl (by decide +kernel) rfl rfl (Nat.le_of_ble_eq_true rfl) dX10_init_11 (ws' := [(h0, .inr (13, [.int 3, .int 0, .int 0, .int 0, .int 0, .int 0, .int 0, .int 0, .int 0, .int 0]))]) rfl (fun H locs hw => ?_)
  refine lv_aload_n hx hb dX10_init_14 rfl (lv_at hl 0 rfl) ?_
  refine lv_iconst (v := 2) hx hb dX10_init_15 (by decide) ?_
  refine hk_put (ci := 13) (C := RX10) (T := TX10) (N := 10) (ty := .int) (v := .int 2) hx hb hts iX10 tyX10 tyX10_ok nmX10 hown hw 0 rfl rfl 2 (by decide) (hts _ (List.mem_of_getElem? (i := 6) rfl)) rfl (by decide +kernel) rfl rfl (Nat.le_of_ble_eq_true rfl) dX10_init_16 (ws' := [(h0, .inr (13, [.int 3, .int 0, .int 2, .int 0, .int 0, .int 0, .int 0, .int 0, .int 0, .int 0]))]) rfl (fun H locs hw => ?_)
  refine lv_aload_n hx hb dX10_init_19 rfl (lv_at hl 0 rfl) ?_
  refine lv_sipush (v := 4096) hx hb dX10_init_20 (by decide) ?_
  refine hk_put (ci := 13) (C := RX10) (T := TX10) (N := 10) (ty := .int) (v := .int 4096) hx hb hts iX10 tyX10 tyX10_ok nmX10 hown hw 0 rfl rfl 3 (by decide) (hts _ (List.mem_of_getElem? (i := 7) rfl)) rfl (by decide +kernel) rfl rfl (Nat.le_of_ble_eq_true rfl) dX10_init_23 (ws' := [(h0, .inr (13, [.int 3, .int 0, .int 2, .int 4096, .int 0, .int 0, .int 0, .int 0, .int 0, .int 0]))]) rfl (fun H locs hw => ?_)
  refine lv_aload_n hx hb dX10_init_26 rfl (lv_at hl 0 rfl) ?_
  refine lv_sipush (v := 512) hx hb dX10_init_27 (by decide) ?_
  refine hk_put (ci := 13) (C := RX10) (T := TX10) (N := 10) (ty := .int) (v := .int 512) hx hb hts iX10 tyX10 tyX10_ok nmX10 hown hw 0 rfl rfl 4 (by decide) (hts _ (List.mem_of_getElem? (i := 8) rfl)) rfl (by decide +kernel) rfl rfl (Nat.le_of_ble_eq_true rfl) dX10_init_30 (ws' := [(h0, .inr (13, [.int 3, .int 0, .int 2, .int 4096, .int 512, .int 0, .int 0, .int 0, .int 0, .int 0]))]) rfl (fun H locs hw => ?_)
  refine lv_aload_n hx hb dX10_init_33 rfl (lv_at hl 0 rfl) ?_
  refine lv_sipush (v := 1024) hx hb dX10_init_34 (by decide) ?_
  refine hk_put (ci := 13) (C := RX10) (T := TX10) (N := 10) (ty := .int) (v := .int 1024) hx hb hts iX10 tyX10 tyX10_ok nmX10 hown hw 0 rfl rfl 5 (by decide) (hts _ (List.mem_of_getElem? (i := 9) rfl)) rfl (by decide +kernel) rfl rfl (Nat.le_of_ble_eq_true rfl) dX10_init_37 (ws' := [(h0, .inr (13, [.int 3, .int 0, .int 2, .int 4096, .int 512, .int 1024, .int 0, .int 0, .int 0, .int 0]))]) rfl (fun H locs hw => ?_)
  refine lv_aload_n hx hb dX10_init_40 rfl (lv_at hl 0 rfl) ?_
  refine lv_iconst (v := 1) hx hb dX10_init_41 (by decide) ?_
  refine hk_put (ci := 13) (C := RX10) (T := TX10) (N := 10) (ty := .int) (v := .int 1) hx hb hts iX10 tyX10 tyX10_ok nmX10 hown hw 0 rfl rfl 6 (by decide) (hts _ (List.mem_of_getElem? (i := 10) rfl)) rfl (by decide +kernel) rfl rfl (Nat.le_of_ble_eq_true rfl) dX10_init_42 (ws' := [(h0, .inr (13, [.int 3, .int 0, .int 2, .int 4096, .int 512, .int 1024, .int 1, .int 0, .int 0, .int 0]))]) rfl (fun H locs hw => ?_)
  exact hk_vret (u := ()) (w' := fun u : Unit => [(h0, .inr (13, [.int 3, .int 0, .int 2, .int 4096, .int 512, .int 1024, .int 1, .int 0, .int 0, .int 0]))]) hx hb hr hlocks hw trivial dX10_init_45

def ww_cc_X8 : List Cond := Cond.code yX8_init cX8_init 2 none :: ([Cond.methodLink RX8 1 objectInit, Cond.instanceMethod objectInit, Cond.code objectInit ⟨#[0xb1]⟩ 1 none, Cond.fieldLink RX8 7 "LzmaChains$Reader" "row" "LLzmaChains$Row;"] ++ (wsX80 ++ ([])))
set_option maxHeartbeats 4000000 in
set_option maxRecDepth 100000 in
/-- Reader(row) -/
theorem cc_X8 (l : Launch) (D : va_G) (cI cJ : ClassId) (sz : Nat) (h0 : Nat) (a1 : Nat) : Met l yX8_init ww_cc_X8 { frames := 1, cells := 0, slots := 0, locals := 20 } (va_Pc [.ref h0, .ref a1] (hk_B D [(cI, .int), (cJ, .long)] sz [(h0, .inr (11, [.null, .int 0, .int 0, .int 0]))])) (va_Qv (fun u : Unit => True) (fun u : Unit => hk_E D [(cI, .int), (cJ, .long)] (va_A [(h0, .inr (11, [.null, .int 0, .int 0, .int 0]))] sz) [(h0, .inr (11, [.ref a1, .int 0, .int 0, .int 0]))]) (va_A [(h0, .inr (11, [.null, .int 0, .int 0, .int 0]))] sz)) 0 0 (va_A [(h0, .inr (11, [.null, .int 0, .int 0, .int 0]))] sz) := by
  refine hk_met (cc := cX8_init) (maxL := 2) (ret := none) (by decide) rfl (Nat.le_of_ble_eq_true rfl) ?_
  intro p e s m below meth c ls hx hb hr hml hown hts hlocks hin hA hw hl
  have iX8 : ∀ w ∈ wsX80, w ∈ ww_cc_X8 := fun _ h => List.mem_cons_of_mem _ (List.mem_append_right _ (List.mem_append_left _ h))
  have hl : lv_has ls 2 [(0, .ref h0), (1, .ref a1)] := hl
  refine lv_aload_n hx hb dX8_init_0 rfl (lv_at hl 0 rfl) ?_
  refine W.objInit hx hb hown (hts _ (List.mem_of_getElem? (i := 1) rfl)) (hts _ (List.mem_of_getElem? (i := 2) rfl)) (hts _ (List.mem_of_getElem? (i := 3) rfl)) rfl (by rw [hml]; exact hl.1) rfl dX8_init_1 (Nat.le_of_ble_eq_true rfl) (Nat.le_of_ble_eq_true rfl) ?_
  refine W.eq (g2 := F0 m 4 ls []) rfl ?_
  refine lv_aload_n hx hb dX8_init_4 rfl (lv_at hl 0 rfl) ?_
  refine lv_aload_n hx hb dX8_init_5 rfl (lv_at hl 1 rfl) ?_
  refine hk_putF (ci := 11) (C := RX8) (T := TX8) (N := 4) (ty := (.object "LzmaChains$Row")) (v := .ref a1) hx hb hts iX8 tyX8 tyX8_ok nmX8 hown hw 0 rfl rfl 0 (by decide) (hts _ (List.mem_of_getElem? (i := 4) rfl)) rfl hin rfl (by decide +kernel) rfl rfl (Nat.le_of_ble_eq_true rfl) dX8_init_6 (ws' := [(h0, .inr (11, [.ref a1, .int 0, .int 0, .int 0]))]) rfl (fun H locs hw => ?_)
  exact hk_vret (u := ()) (w' := fun u : Unit => [(h0, .inr (11, [.ref a1, .int 0, .int 0, .int 0]))]) hx hb hr hlocks hw trivial dX8_init_9

def ww_cc_X2 : List Cond := Cond.code yX2_init cX2_init 3 none :: ([Cond.methodLink RX2 1 objectInit, Cond.instanceMethod objectInit, Cond.code objectInit ⟨#[0xb1]⟩ 1 none, Cond.fieldLink RX2 7 "LzmaChains$Coder" "source" "LLzmaChains$Reader;", Cond.fieldLink RX2 13 "LzmaChains$Coder" "sink" "LLzmaChains$Row;", Cond.arrayClass .int, Cond.fieldLink RX2 19 "LzmaChains$Coder" "chances" "[I"] ++ (wsX20 ++ ([])))
set_option maxHeartbeats 4000000 in
set_option maxRecDepth 100000 in
/-- Coder(source, sink) -/
theorem cc_X2 (l : Launch) (D : va_G) (cI cJ : ClassId) (sz : Nat) (h0 : Nat) (a1 a2 : Nat) : Met l yX2_init ww_cc_X2 { frames := 1, cells := 1, slots := 14340, locals := 20 } (va_Pc [.ref h0, .ref a1, .ref a2] (hk_B D [(cI, .int), (cJ, .long)] sz [(h0, .inr (5, [.null, .null, .null, .int 0, .long 0, .long 0, .long 0, .int 0, .int 0]))])) (va_Qv (fun u : Nat => True) (fun u : Nat => hk_E D [(cI, .int), (cJ, .long)] (va_A [(h0, .inr (5, [.null, .null, .null, .int 0, .long 0, .long 0, .long 0, .int 0, .int 0]))] sz) [(h0, .inr (5, [.ref u, .ref a1, .ref a2, .int 0, .long 0, .long 0, .long 0, .int 0, .int 0])), (u, .inl (cI, 14340, .inl (fun _ => 0)))]) (va_A [(h0, .inr (5, [.null, .null, .null, .int 0, .long 0, .long 0, .long 0, .int 0, .int 0]))] sz)) 1 14340 (va_A [(h0, .inr (5, [.null, .null, .null, .int 0, .long 0, .long 0, .long 0, .int 0, .int 0]))] sz) := by
  refine hk_met (cc := cX2_init) (maxL := 3) (ret := none) (by decide) rfl (Nat.le_of_ble_eq_true rfl) ?_
  intro p e s m below meth c ls hx hb hr hml hown hts hlocks hin hA hw hl
  have iX2 : ∀ w ∈ wsX20, w ∈ ww_cc_X2 := fun _ h => List.mem_cons_of_mem _ (List.mem_append_right _ (List.mem_append_left _ h))
  have hl : lv_has ls 3 [(0, .ref h0), (1, .ref a1), (2, .ref a2)] := hl
  refine lv_aload_n hx hb dX2_init_0 rfl (lv_at hl 0 rfl) ?_
  refine W.objInit hx hb hown (hts _ (List.mem_of_getElem? (i := 1) rfl)) (hts _ (List.mem_of_getElem? (i := 2) rfl)) (hts _ (List.mem_of_getElem? (i := 3) rfl)) rfl (by rw [hml]; exact hl.1) rfl dX2_init_1 (Nat.le_of_ble_eq_true rfl) (Nat.le_of_ble_eq_true rfl) ?_
  refine W.eq (g2 := F0 m 4 ls []) rfl ?_
  refine lv_aload_n hx hb dX2_init_4 rfl (lv_at hl 0 rfl) ?_
  refine lv_aload_n hx hb dX2_init_5 rfl (lv_at hl 1 rfl) ?_
  refine hk_putF (ci := 5) (C := RX2) (T := TX2) (N := 9) (ty := (.object "LzmaChains$Reader")) (v := .ref a1) hx hb hts iX2 tyX2 tyX2_ok nmX2 hown hw 0 rfl rfl 1 (by decide) (hts _ (List.mem_of_getElem? (i := 4) rfl)) rfl hin rfl (by decide +kernel) rfl rfl (Nat.le_of_ble_eq_true rfl) dX2_init_6 (ws' := [(h0, .inr (5, [.null, .ref a1, .null, .int 0, .long 0, .long 0, .long 0, .int 0, .int 0]))]) rfl (fun H locs hw => ?_)
  refine lv_aload_n hx hb dX2_init_9 rfl (lv_at hl 0 rfl) ?_
  refine lv_aload_n hx hb dX2_init_10 rfl (lv_at hl 2 rfl) ?_
  refine hk_putF (ci := 5) (C := RX2) (T := TX2) (N := 9) (ty := (.object "LzmaChains$Row")) (v := .ref a2) hx hb hts iX2 tyX2 tyX2_ok nmX2 hown hw 0 rfl rfl 2 (by decide) (hts _ (List.mem_of_getElem? (i := 5) rfl)) rfl hin rfl (by decide +kernel) rfl rfl (Nat.le_of_ble_eq_true rfl) dX2_init_11 (ws' := [(h0, .inr (5, [.null, .ref a1, .ref a2, .int 0, .long 0, .long 0, .long 0, .int 0, .int 0]))]) rfl (fun H locs hw => ?_)
  refine lv_aload_n hx hb dX2_init_14 rfl (lv_at hl 0 rfl) ?_
  refine lv_sipush (v := 14340) hx hb dX2_init_15 (by decide) ?_
  refine hk_newi (N := 14340) hx hb (hts _ (List.mem_of_getElem? (i := 6) rfl)) hw hA 0 rfl (by decide) (by decide) (by decide) (Nat.le_of_ble_eq_true rfl) (Nat.le_of_ble_eq_true rfl) dX2_init_18 (fun q_1 H hw => ?_)
  have hw : hk_W D [(cI, .int), (cJ, .long)] _ s _ _ [(h0, .inr (5, [.null, .ref a1, .ref a2, .int 0, .long 0, .long 0, .long 0, .int 0, .int 0])), (q_1, .inl (cI, 14340, .inl (fun _ => 0)))] := hw
  refine W.widen (k := 1) (n := 14340) (by omega) (by omega) ?_
  refine hk_putF (ci := 5) (C := RX2) (T := TX2) (N := 9) (ty := (.array .int)) (v := .ref q_1) hx hb hts iX2 tyX2 tyX2_ok nmX2 hown hw 0 rfl rfl 0 (by decide) (hts _ (List.mem_of_getElem? (i := 7) rfl)) rfl hin rfl (by decide +kernel) rfl rfl (Nat.le_of_ble_eq_true rfl) dX2_init_20 (ws' := [(h0, .inr (5, [.ref q_1, .ref a1, .ref a2, .int 0, .long 0, .long 0, .long 0, .int 0, .int 0])), (q_1, .inl (cI, 14340, .inl (fun _ => 0)))]) rfl (fun H locs hw => ?_)
  exact hk_vret (u := q_1) (w' := fun u : Nat => [(h0, .inr (5, [.ref u, .ref a1, .ref a2, .int 0, .long 0, .long 0, .long 0, .int 0, .int 0])), (u, .inl (cI, 14340, .inl (fun _ => 0)))]) hx hb hr hlocks hw trivial dX2_init_23

def ww_cc_X5 : List Cond := Cond.code yX5_init cX5_init 2 none :: ([Cond.methodLink RX5 5 objectInit, Cond.instanceMethod objectInit, Cond.code objectInit ⟨#[0xb1]⟩ 1 none, Cond.fieldLink RX5 11 "LzmaChains$Model" "coder" "LLzmaChains$Coder;", Cond.arrayClass .long, Cond.fieldLink RX5 15 "LzmaChains$Model" "backs" "[J"] ++ (wsX50 ++ ([])))
set_option maxHeartbeats 4000000 in
set_option maxRecDepth 100000 in
/-- Model(coder) -/
theorem cc_X5 (l : Launch) (D : va_G) (cI cJ : ClassId) (sz : Nat) (h0 : Nat) (a1 : Nat) : Met l yX5_init ww_cc_X5 { frames := 1, cells := 1, slots := 4, locals := 20 } (va_Pc [.ref h0, .ref a1] (hk_B D [(cI, .int), (cJ, .long)] sz [(h0, .inr (8, [.null, .null, .int 0, .int 0, .int 0, .int 0]))])) (va_Qv (fun u : Nat => True) (fun u : Nat => hk_E D [(cI, .int), (cJ, .long)] (va_A [(h0, .inr (8, [.null, .null, .int 0, .int 0, .int 0, .int 0]))] sz) [(h0, .inr (8, [.ref a1, .ref u, .int 0, .int 0, .int 0, .int 0])), (u, .inl (cJ, 4, .inr (.inl (fun _ => 0))))]) (va_A [(h0, .inr (8, [.null, .null, .int 0, .int 0, .int 0, .int 0]))] sz)) 1 4 (va_A [(h0, .inr (8, [.null, .null, .int 0, .int 0, .int 0, .int 0]))] sz) := by
  refine hk_met (cc := cX5_init) (maxL := 2) (ret := none) (by decide) rfl (Nat.le_of_ble_eq_true rfl) ?_
  intro p e s m below meth c ls hx hb hr hml hown hts hlocks hin hA hw hl
  have iX5 : ∀ w ∈ wsX50, w ∈ ww_cc_X5 := fun _ h => List.mem_cons_of_mem _ (List.mem_append_right _ (List.mem_append_left _ h))
  have hl : lv_has ls 2 [(0, .ref h0), (1, .ref a1)] := hl
  refine lv_aload_n hx hb dX5_init_0 rfl (lv_at hl 0 rfl) ?_
  refine W.objInit hx hb hown (hts _ (List.mem_of_getElem? (i := 1) rfl)) (hts _ (List.mem_of_getElem? (i := 2) rfl)) (hts _ (List.mem_of_getElem? (i := 3) rfl)) rfl (by rw [hml]; exact hl.1) rfl dX5_init_1 (Nat.le_of_ble_eq_true rfl) (Nat.le_of_ble_eq_true rfl) ?_
  refine W.eq (g2 := F0 m 4 ls []) rfl ?_
  refine lv_aload_n hx hb dX5_init_4 rfl (lv_at hl 0 rfl) ?_
  refine lv_aload_n hx hb dX5_init_5 rfl (lv_at hl 1 rfl) ?_
  refine hk_putF (ci := 8) (C := RX5) (T := TX5) (N := 6) (ty := (.object "LzmaChains$Coder")) (v := .ref a1) hx hb hts iX5 tyX5 tyX5_ok nmX5 hown hw 0 rfl rfl 0 (by decide) (hts _ (List.mem_of_getElem? (i := 4) rfl)) rfl hin rfl (by decide +kernel) rfl rfl (Nat.le_of_ble_eq_true rfl) dX5_init_6 (ws' := [(h0, .inr (8, [.ref a1, .null, .int 0, .int 0, .int 0, .int 0]))]) rfl (fun H locs hw => ?_)
  refine lv_aload_n hx hb dX5_init_9 rfl (lv_at hl 0 rfl) ?_
  refine lv_iconst (v := 4) hx hb dX5_init_10 (by decide) ?_
  refine hk_newl (N := 4) hx hb (hts _ (List.mem_of_getElem? (i := 5) rfl)) hw hA 1 rfl (by decide) (by decide) (by decide) (Nat.le_of_ble_eq_true rfl) (Nat.le_of_ble_eq_true rfl) dX5_init_11 (fun q_1 H hw => ?_)
  have hw : hk_W D [(cI, .int), (cJ, .long)] _ s _ _ [(h0, .inr (8, [.ref a1, .null, .int 0, .int 0, .int 0, .int 0])), (q_1, .inl (cJ, 4, .inr (.inl (fun _ => 0))))] := hw
  refine W.widen (k := 1) (n := 4) (by omega) (by omega) ?_
  refine hk_putF (ci := 8) (C := RX5) (T := TX5) (N := 6) (ty := (.array .long)) (v := .ref q_1) hx hb hts iX5 tyX5 tyX5_ok nmX5 hown hw 0 rfl rfl 1 (by decide) (hts _ (List.mem_of_getElem? (i := 6) rfl)) rfl hin rfl (by decide +kernel) rfl rfl (Nat.le_of_ble_eq_true rfl) dX5_init_13 (ws' := [(h0, .inr (8, [.ref a1, .ref q_1, .int 0, .int 0, .int 0, .int 0])), (q_1, .inl (cJ, 4, .inr (.inl (fun _ => 0))))]) rfl (fun H locs hw => ?_)
  exact hk_vret (u := q_1) (w' := fun u : Nat => [(h0, .inr (8, [.ref a1, .ref u, .int 0, .int 0, .int 0, .int 0])), (u, .inl (cJ, 4, .inr (.inl (fun _ => 0))))]) hx hb hr hlocks hw trivial dX5_init_16

def ww_cc_X0 : List Cond := Cond.code yX0_init cX0_init 1 none :: ([Cond.methodLink RX0 3 objectInit, Cond.instanceMethod objectInit, Cond.code objectInit ⟨#[0xb1]⟩ 1 none, Cond.arrayClass .int, Cond.fieldLink RX0 9 "LzmaChains$Checks" "words" "[I", Cond.fieldLink RX0 15 "LzmaChains$Checks" "mixed" "[I", Cond.fieldLink RX0 18 "LzmaChains$Checks" "schedule" "[I"] ++ (wsX00 ++ ([])))
set_option maxHeartbeats 4000000 in
set_option maxRecDepth 100000 in
/-- Checks() -/
theorem cc_X0 (l : Launch) (D : va_G) (cI cJ : ClassId) (sz : Nat) (h0 : Nat) : Met l yX0_init ww_cc_X0 { frames := 1, cells := 3, slots := 80, locals := 20 } (va_Pc [.ref h0] (hk_B D [(cI, .int), (cJ, .long)] sz [(h0, .inr (3, [.null, .null, .null]))])) (va_Qv (fun u : Nat × Nat × Nat => True) (fun u : Nat × Nat × Nat => hk_E D [(cI, .int), (cJ, .long)] (va_A [(h0, .inr (3, [.null, .null, .null]))] sz) [(h0, .inr (3, [.ref u.1, .ref u.2.1, .ref u.2.2])), (u.1, .inl (cI, 8, .inl (fun _ => 0))), (u.2.1, .inl (cI, 8, .inl (fun _ => 0))), (u.2.2, .inl (cI, 64, .inl (fun _ => 0)))]) (va_A [(h0, .inr (3, [.null, .null, .null]))] sz)) 3 80 (va_A [(h0, .inr (3, [.null, .null, .null]))] sz) := by
  refine hk_met (cc := cX0_init) (maxL := 1) (ret := none) (by decide) rfl (Nat.le_of_ble_eq_true rfl) ?_
  intro p e s m below meth c ls hx hb hr hml hown hts hlocks hin hA hw hl
  have iX0 : ∀ w ∈ wsX00, w ∈ ww_cc_X0 := fun _ h => List.mem_cons_of_mem _ (List.mem_append_right _ (List.mem_append_left _ h))
  have hl : lv_has ls 1 [(0, .ref h0)] := hl
  refine lv_aload_n hx hb dX0_init_0 rfl (lv_at hl 0 rfl) ?_
  refine W.objInit hx hb hown (hts _ (List.mem_of_getElem? (i := 1) rfl)) (hts _ (List.mem_of_getElem? (i := 2) rfl)) (hts _ (List.mem_of_getElem? (i := 3) rfl)) rfl (by rw [hml]; exact hl.1) rfl dX0_init_1 (Nat.le_of_ble_eq_true rfl) (Nat.le_of_ble_eq_true rfl) ?_
  refine W.eq (g2 := F0 m 4 ls []) rfl ?_
  refine lv_aload_n hx hb dX0_init_4 rfl (lv_at hl 0 rfl) ?_
  refine lv_bipush (v := 8) hx hb dX0_init_5 (by decide) ?_
  refine hk_newi (N := 8) hx hb (hts _ (List.mem_of_getElem? (i := 4) rfl)) hw hA 0 rfl (by decide) (by decide) (by decide) (Nat.le_of_ble_eq_true rfl) (Nat.le_of_ble_eq_true rfl) dX0_init_7 (fun q_1 H hw => ?_)
  have hw : hk_W D [(cI, .int), (cJ, .long)] _ s _ _ [(h0, .inr (3, [.null, .null, .null])), (q_1, .inl (cI, 8, .inl (fun _ => 0)))] := hw
  refine W.widen (k := 1) (n := 8) (by omega) (by omega) ?_
  refine hk_putF (ci := 3) (C := RX0) (T := TX0) (N := 3) (ty := (.array .int)) (v := .ref q_1) hx hb hts iX0 tyX0 tyX0_ok nmX0 hown hw 0 rfl rfl 0 (by decide) (hts _ (List.mem_of_getElem? (i := 5) rfl)) rfl hin rfl (by decide +kernel) rfl rfl (Nat.le_of_ble_eq_true rfl) dX0_init_9 (ws' := [(h0, .inr (3, [.ref q_1, .null, .null])), (q_1, .inl (cI, 8, .inl (fun _ => 0)))]) rfl (fun H locs hw => ?_)
  refine lv_aload_n hx hb dX0_init_12 rfl (lv_at hl 0 rfl) ?_
  refine lv_bipush (v := 8) hx hb dX0_init_13 (by decide) ?_
  refine hk_newi (N := 8) hx hb (hts _ (List.mem_of_getElem? (i := 4) rfl)) hw hA 0 rfl (by decide) (by decide) (by decide) (Nat.le_of_ble_eq_true rfl) (Nat.le_of_ble_eq_true rfl) dX0_init_15 (fun q_2 H hw => ?_)
  have hw : hk_W D [(cI, .int), (cJ, .long)] _ s _ _ [(h0, .inr (3, [.ref q_1, .null, .null])), (q_1, .inl (cI, 8, .inl (fun _ => 0))), (q_2, .inl (cI, 8, .inl (fun _ => 0)))] := hw
  refine W.widen (k := 2) (n := 16) (by omega) (by omega) ?_
  refine hk_putF (ci := 3) (C := RX0) (T := TX0) (N := 3) (ty := (.array .int)) (v := .ref q_2) hx hb hts iX0 tyX0 tyX0_ok nmX0 hown hw 0 rfl rfl 1 (by decide) (hts _ (List.mem_of_getElem? (i := 6) rfl)) rfl hin rfl (by decide +kernel) rfl rfl (Nat.le_of_ble_eq_true rfl) dX0_init_17 (ws' := [(h0, .inr (3, [.ref q_1, .ref q_2, .null])), (q_1, .inl (cI, 8, .inl (fun _ => 0))), (q_2, .inl (cI, 8, .inl (fun _ => 0)))]) rfl (fun H locs hw => ?_)
  refine lv_aload_n hx hb dX0_init_20 rfl (lv_at hl 0 rfl) ?_
  refine lv_bipush (v := 64) hx hb dX0_init_21 (by decide) ?_
  refine hk_newi (N := 64) hx hb (hts _ (List.mem_of_getElem? (i := 4) rfl)) hw hA 0 rfl (by decide) (by decide) (by decide) (Nat.le_of_ble_eq_true rfl) (Nat.le_of_ble_eq_true rfl) dX0_init_23 (fun q_3 H hw => ?_)
  have hw : hk_W D [(cI, .int), (cJ, .long)] _ s _ _ [(h0, .inr (3, [.ref q_1, .ref q_2, .null])), (q_1, .inl (cI, 8, .inl (fun _ => 0))), (q_2, .inl (cI, 8, .inl (fun _ => 0))), (q_3, .inl (cI, 64, .inl (fun _ => 0)))] := hw
  refine W.widen (k := 3) (n := 80) (by omega) (by omega) ?_
  refine hk_putF (ci := 3) (C := RX0) (T := TX0) (N := 3) (ty := (.array .int)) (v := .ref q_3) hx hb hts iX0 tyX0 tyX0_ok nmX0 hown hw 0 rfl rfl 2 (by decide) (hts _ (List.mem_of_getElem? (i := 7) rfl)) rfl hin rfl (by decide +kernel) rfl rfl (Nat.le_of_ble_eq_true rfl) dX0_init_25 (ws' := [(h0, .inr (3, [.ref q_1, .ref q_2, .ref q_3])), (q_1, .inl (cI, 8, .inl (fun _ => 0))), (q_2, .inl (cI, 8, .inl (fun _ => 0))), (q_3, .inl (cI, 64, .inl (fun _ => 0)))]) rfl (fun H locs hw => ?_)
  exact hk_vret (u := (q_1, q_2, q_3)) (w' := fun u : Nat × Nat × Nat => [(h0, .inr (3, [.ref u.1, .ref u.2.1, .ref u.2.2])), (u.1, .inl (cI, 8, .inl (fun _ => 0))), (u.2.1, .inl (cI, 8, .inl (fun _ => 0))), (u.2.2, .inl (cI, 64, .inl (fun _ => 0)))]) hx hb hr hlocks hw trivial dX0_init_28

def ww_cc_X4 : List Cond := Cond.code yX4_init cX4_init 1 none :: ([Cond.methodLink RX4 3 objectInit, Cond.instanceMethod objectInit, Cond.code objectInit ⟨#[0xb1]⟩ 1 none, Cond.arrayClass .int, Cond.fieldLink RX4 9 "LzmaChains$Ledger" "stepParts" "[I", Cond.fieldLink RX4 15 "LzmaChains$Ledger" "blockParts" "[I"] ++ (wsX40 ++ ([])))
set_option maxHeartbeats 4000000 in
set_option maxRecDepth 100000 in
/-- Ledger() -/
theorem cc_X4 (l : Launch) (D : va_G) (cI cJ : ClassId) (sz : Nat) (h0 : Nat) : Met l yX4_init ww_cc_X4 { frames := 1, cells := 2, slots := 9000, locals := 20 } (va_Pc [.ref h0] (hk_B D [(cI, .int), (cJ, .long)] sz [(h0, .inr (7, [.null, .null, .int 0, .int 0]))])) (va_Qv (fun u : Nat × Nat => True) (fun u : Nat × Nat => hk_E D [(cI, .int), (cJ, .long)] (va_A [(h0, .inr (7, [.null, .null, .int 0, .int 0]))] sz) [(h0, .inr (7, [.ref u.1, .ref u.2, .int 0, .int 0])), (u.1, .inl (cI, 8000, .inl (fun _ => 0))), (u.2, .inl (cI, 1000, .inl (fun _ => 0)))]) (va_A [(h0, .inr (7, [.null, .null, .int 0, .int 0]))] sz)) 2 9000 (va_A [(h0, .inr (7, [.null, .null, .int 0, .int 0]))] sz) := by
  refine hk_met (cc := cX4_init) (maxL := 1) (ret := none) (by decide) rfl (Nat.le_of_ble_eq_true rfl) ?_
  intro p e s m below meth c ls hx hb hr hml hown hts hlocks hin hA hw hl
  have iX4 : ∀ w ∈ wsX40, w ∈ ww_cc_X4 := fun _ h => List.mem_cons_of_mem _ (List.mem_append_right _ (List.mem_append_left _ h))
  have hl : lv_has ls 1 [(0, .ref h0)] := hl
  refine lv_aload_n hx hb dX4_init_0 rfl (lv_at hl 0 rfl) ?_
  refine W.objInit hx hb hown (hts _ (List.mem_of_getElem? (i := 1) rfl)) (hts _ (List.mem_of_getElem? (i := 2) rfl)) (hts _ (List.mem_of_getElem? (i := 3) rfl)) rfl (by rw [hml]; exact hl.1) rfl dX4_init_1 (Nat.le_of_ble_eq_true rfl) (Nat.le_of_ble_eq_true rfl) ?_
  refine W.eq (g2 := F0 m 4 ls []) rfl ?_
  refine lv_aload_n hx hb dX4_init_4 rfl (lv_at hl 0 rfl) ?_
  refine lv_sipush (v := 8000) hx hb dX4_init_5 (by decide) ?_
  refine hk_newi (N := 8000) hx hb (hts _ (List.mem_of_getElem? (i := 4) rfl)) hw hA 0 rfl (by decide) (by decide) (by decide) (Nat.le_of_ble_eq_true rfl) (Nat.le_of_ble_eq_true rfl) dX4_init_8 (fun q_1 H hw => ?_)
  have hw : hk_W D [(cI, .int), (cJ, .long)] _ s _ _ [(h0, .inr (7, [.null, .null, .int 0, .int 0])), (q_1, .inl (cI, 8000, .inl (fun _ => 0)))] := hw
  refine W.widen (k := 1) (n := 8000) (by omega) (by omega) ?_
  refine hk_putF (ci := 7) (C := RX4) (T := TX4) (N := 4) (ty := (.array .int)) (v := .ref q_1) hx hb hts iX4 tyX4 tyX4_ok nmX4 hown hw 0 rfl rfl 0 (by decide) (hts _ (List.mem_of_getElem? (i := 5) rfl)) rfl hin rfl (by decide +kernel) rfl rfl (Nat.le_of_ble_eq_true rfl) dX4_init_10 (ws' := [(h0, .inr (7, [.ref q_1, .null, .int 0, .int 0])), (q_1, .inl (cI, 8000, .inl (fun _ => 0)))]) rfl (fun H locs hw => ?_)
  refine lv_aload_n hx hb dX4_init_13 rfl (lv_at hl 0 rfl) ?_
  refine lv_sipush (v := 1000) hx hb dX4_init_14 (by decide) ?_
  refine hk_newi (N := 1000) hx hb (hts _ (List.mem_of_getElem? (i := 4) rfl)) hw hA 0 rfl (by decide) (by decide) (by decide) (Nat.le_of_ble_eq_true rfl) (Nat.le_of_ble_eq_true rfl) dX4_init_17 (fun q_2 H hw => ?_)
  have hw : hk_W D [(cI, .int), (cJ, .long)] _ s _ _ [(h0, .inr (7, [.ref q_1, .null, .int 0, .int 0])), (q_1, .inl (cI, 8000, .inl (fun _ => 0))), (q_2, .inl (cI, 1000, .inl (fun _ => 0)))] := hw
  refine W.widen (k := 2) (n := 9000) (by omega) (by omega) ?_
  refine hk_putF (ci := 7) (C := RX4) (T := TX4) (N := 4) (ty := (.array .int)) (v := .ref q_2) hx hb hts iX4 tyX4 tyX4_ok nmX4 hown hw 0 rfl rfl 1 (by decide) (hts _ (List.mem_of_getElem? (i := 6) rfl)) rfl hin rfl (by decide +kernel) rfl rfl (Nat.le_of_ble_eq_true rfl) dX4_init_19 (ws' := [(h0, .inr (7, [.ref q_1, .ref q_2, .int 0, .int 0])), (q_1, .inl (cI, 8000, .inl (fun _ => 0))), (q_2, .inl (cI, 1000, .inl (fun _ => 0)))]) rfl (fun H locs hw => ?_)
  exact hk_vret (u := (q_1, q_2)) (w' := fun u : Nat × Nat => [(h0, .inr (7, [.ref u.1, .ref u.2, .int 0, .int 0])), (u.1, .inl (cI, 8000, .inl (fun _ => 0))), (u.2, .inl (cI, 1000, .inl (fun _ => 0)))]) hx hb hr hlocks hw trivial dX4_init_22

def ww_cc_X1 : List Cond := Cond.code yX1_init cX1_init 3 none :: ([Cond.methodLink RX1 3 objectInit, Cond.instanceMethod objectInit, Cond.code objectInit ⟨#[0xb1]⟩ 1 none, Cond.fieldLink RX1 9 "LzmaChains$Chooser" "row" "LLzmaChains$Row;", Cond.fieldLink RX1 15 "LzmaChains$Chooser" "model" "LLzmaChains$Model;", Cond.arrayClass .int, Cond.fieldLink RX1 19 "LzmaChains$Chooser" "longest" "[I", Cond.fieldLink RX1 23 "LzmaChains$Chooser" "nearest" "[I", Cond.fieldLink RX1 26 "LzmaChains$Chooser" "runs" "[I", Cond.fieldLink RX1 29 "LzmaChains$Chooser" "costs" "[I", Cond.fieldLink RX1 32 "LzmaChains$Chooser" "strides" "[I"] ++ (wsX10 ++ ([])))
set_option maxHeartbeats 4000000 in
set_option maxRecDepth 100000 in
/-- Chooser(row, model) -/
theorem cc_X1 (l : Launch) (D : va_G) (cI cJ : ClassId) (sz : Nat) (h0 : Nat) (a1 a2 : Nat) : Met l yX1_init ww_cc_X1 { frames := 1, cells := 5, slots := 7505, locals := 20 } (va_Pc [.ref h0, .ref a1, .ref a2] (hk_B D [(cI, .int), (cJ, .long)] sz [(h0, .inr (4, [.null, .null, .null, .null, .null, .null, .null, .int 0, .int 0, .int 0, .int 0, .int 0, .int 0]))])) (va_Qv (fun u : Nat × Nat × Nat × Nat × Nat => True) (fun u : Nat × Nat × Nat × Nat × Nat => hk_E D [(cI, .int), (cJ, .long)] (va_A [(h0, .inr (4, [.null, .null, .null, .null, .null, .null, .null, .int 0, .int 0, .int 0, .int 0, .int 0, .int 0]))] sz) [(h0, .inr (4, [.ref a1, .ref a2, .ref u.1, .ref u.2.1, .ref u.2.2.1, .ref u.2.2.2.1, .ref u.2.2.2.2, .int 0, .int 0, .int 0, .int 0, .int 0, .int 0])), (u.1, .inl (cI, 1501, .inl (fun _ => 0))), (u.2.1, .inl (cI, 1501, .inl (fun _ => 0))), (u.2.2.1, .inl (cI, 1501, .inl (fun _ => 0))), (u.2.2.2.1, .inl (cI, 1501, .inl (fun _ => 0))), (u.2.2.2.2, .inl (cI, 1501, .inl (fun _ => 0)))]) (va_A [(h0, .inr (4, [.null, .null, .null, .null, .null, .null, .null, .int 0, .int 0, .int 0, .int 0, .int 0, .int 0]))] sz)) 5 7505 (va_A [(h0, .inr (4, [.null, .null, .null, .null, .null, .null, .null, .int 0, .int 0, .int 0, .int 0, .int 0, .int 0]))] sz) := by
  refine hk_met (cc := cX1_init) (maxL := 3) (ret := none) (by decide) rfl (Nat.le_of_ble_eq_true rfl) ?_
  intro p e s m below meth c ls hx hb hr hml hown hts hlocks hin hA hw hl
  have iX1 : ∀ w ∈ wsX10, w ∈ ww_cc_X1 := fun _ h => List.mem_cons_of_mem _ (List.mem_append_right _ (List.mem_append_left _ h))
  have hl : lv_has ls 3 [(0, .ref h0), (1, .ref a1), (2, .ref a2)] := hl
  refine lv_aload_n hx hb dX1_init_0 rfl (lv_at hl 0 rfl) ?_
  refine W.objInit hx hb hown (hts _ (List.mem_of_getElem? (i := 1) rfl)) (hts _ (List.mem_of_getElem? (i := 2) rfl)) (hts _ (List.mem_of_getElem? (i := 3) rfl)) rfl (by rw [hml]; exact hl.1) rfl dX1_init_1 (Nat.le_of_ble_eq_true rfl) (Nat.le_of_ble_eq_true rfl) ?_
  refine W.eq (g2 := F0 m 4 ls []) rfl ?_
  refine lv_aload_n hx hb dX1_init_4 rfl (lv_at hl 0 rfl) ?_
  refine lv_aload_n hx hb dX1_init_5 rfl (lv_at hl 1 rfl) ?_
  refine hk_putF (ci := 4) (C := RX1) (T := TX1) (N := 13) (ty := (.object "LzmaChains$Row")) (v := .ref a1) hx hb hts iX1 tyX1 tyX1_ok nmX1 hown hw 0 rfl rfl 0 (by decide) (hts _ (List.mem_of_getElem? (i := 4) rfl)) rfl hin rfl (by decide +kernel) rfl rfl (Nat.le_of_ble_eq_true rfl) dX1_init_6 (ws' := [(h0, .inr (4, [.ref a1, .null, .null, .null, .null, .null, .null, .int 0, .int 0, .int 0, .int 0, .int 0, .int 0]))]) rfl (fun H locs hw => ?_)
  refine lv_aload_n hx hb dX1_init_9 rfl (lv_at hl 0 rfl) ?_
  refine lv_aload_n hx hb dX1_init_10 rfl (lv_at hl 2 rfl) ?_
  refine hk_putF (ci := 4) (C := RX1) (T := TX1) (N := 13) (ty := (.object "LzmaChains$Model")) (v := .ref a2) hx hb hts iX1 tyX1 tyX1_ok nmX1 hown hw 0 rfl rfl 1 (by decide) (hts _ (List.mem_of_getElem? (i := 5) rfl)) rfl hin rfl (by decide +kernel) rfl rfl (Nat.le_of_ble_eq_true rfl) dX1_init_11 (ws' := [(h0, .inr (4, [.ref a1, .ref a2, .null, .null, .null, .null, .null, .int 0, .int 0, .int 0, .int 0, .int 0, .int 0]))]) rfl (fun H locs hw => ?_)
  refine lv_aload_n hx hb dX1_init_14 rfl (lv_at hl 0 rfl) ?_
  refine lv_sipush (v := 1501) hx hb dX1_init_15 (by decide) ?_
  refine hk_newi (N := 1501) hx hb (hts _ (List.mem_of_getElem? (i := 6) rfl)) hw hA 0 rfl (by decide) (by decide) (by decide) (Nat.le_of_ble_eq_true rfl) (Nat.le_of_ble_eq_true rfl) dX1_init_18 (fun q_1 H hw => ?_)
  have hw : hk_W D [(cI, .int), (cJ, .long)] _ s _ _ [(h0, .inr (4, [.ref a1, .ref a2, .null, .null, .null, .null, .null, .int 0, .int 0, .int 0, .int 0, .int 0, .int 0])), (q_1, .inl (cI, 1501, .inl (fun _ => 0)))] := hw
  refine W.widen (k := 1) (n := 1501) (by omega) (by omega) ?_
  refine hk_putF (ci := 4) (C := RX1) (T := TX1) (N := 13) (ty := (.array .int)) (v := .ref q_1) hx hb hts iX1 tyX1 tyX1_ok nmX1 hown hw 0 rfl rfl 2 (by decide) (hts _ (List.mem_of_getElem? (i := 7) rfl)) rfl hin rfl (by decide +kernel) rfl rfl (Nat.le_of_ble_eq_true rfl) dX1_init_20 (ws' := [(h0, .inr (4, [.ref a1, .ref a2, .ref q_1, .null, .null, .null, .null, .int 0, .int 0, .int 0, .int 0, .int 0, .int 0])), (q_1, .inl (cI, 1501, .inl (fun _ => 0)))]) rfl (fun H locs hw => ?_)
  refine lv_aload_n hx hb dX1_init_23 rfl (lv_at hl 0 rfl) ?_
  refine lv_sipush (v := 1501) hx hb dX1_init_24 (by decide) ?_
  refine hk_newi (N := 1501) hx hb (hts _ (List.mem_of_getElem? (i := 6) rfl)) hw hA 0 rfl (by decide) (by decide) (by decide) (Nat.le_of_ble_eq_true rfl) (Nat.le_of_ble_eq_true rfl) dX1_init_27 (fun q_2 H hw => ?_)
  have hw : hk_W D [(cI, .int), (cJ, .long)] _ s _ _ [(h0, .inr (4, [.ref a1, .ref a2, .ref q_1, .null, .null, .null, .null, .int 0, .int 0, .int 0, .int 0, .int 0, .int 0])), (q_1, .inl (cI, 1501, .inl (fun _ => 0))), (q_2, .inl (cI, 1501, .inl (fun _ => 0)))] := hw
  refine W.widen (k := 2) (n := 3002) (by omega) (by omega) ?_
  refine hk_putF (ci := 4) (C := RX1) (T := TX1) (N := 13) (ty := (.array .int)) (v := .ref q_2) hx hb hts iX1 tyX1 tyX1_ok nmX1 hown hw 0 rfl rfl 3 (by decide) (hts _ (List.mem_of_getElem? (i := 8) rfl)) rfl hin rfl (by decide +kernel) rfl rfl (Nat.le_of_ble_eq_true rfl) dX1_init_29 (ws' := [(h0, .inr (4, [.ref a1, .ref a2, .ref q_1, .ref q_2, .null, .null, .null, .int 0, .int 0, .int 0, .int 0, .int 0, .int 0])), (q_1, .inl (cI, 1501, .inl (fun _ => 0))), (q_2, .inl (cI, 1501, .inl (fun _ => 0)))]) rfl (fun H locs hw => ?_)
  refine lv_aload_n hx hb dX1_init_32 rfl (lv_at hl 0 rfl) ?_
  refine lv_sipush (v := 1501) hx hb dX1_init_33 (by decide) ?_
  refine hk_newi (N := 1501) hx hb (hts _ (List.mem_of_getElem? (i := 6) rfl)) hw hA 0 rfl (by decide) (by decide) (by decide) (Nat.le_of_ble_eq_true rfl) (Nat.le_of_ble_eq_true rfl) dX1_init_36 (fun q_3 H hw => ?_)
  have hw : hk_W D [(cI, .int), (cJ, .long)] _ s _ _ [(h0, .inr (4, [.ref a1, .ref a2, .ref q_1, .ref q_2, .null, .null, .null, .int 0, .int 0, .int 0, .int 0, .int 0, .int 0])), (q_1, .inl (cI, 1501, .inl (fun _ => 0))), (q_2, .inl (cI, 1501, .inl (fun _ => 0))), (q_3, .inl (cI, 1501, .inl (fun _ => 0)))] := hw
  refine W.widen (k := 3) (n := 4503) (by omega) (by omega) ?_
  refine hk_putF (ci := 4) (C := RX1) (T := TX1) (N := 13) (ty := (.array .int)) (v := .ref q_3) hx hb hts iX1 tyX1 tyX1_ok nmX1 hown hw 0 rfl rfl 4 (by decide) (hts _ (List.mem_of_getElem? (i := 9) rfl)) rfl hin rfl (by decide +kernel) rfl rfl (Nat.le_of_ble_eq_true rfl) dX1_init_38 (ws' := [(h0, .inr (4, [.ref a1, .ref a2, .ref q_1, .ref q_2, .ref q_3, .null, .null, .int 0, .int 0, .int 0, .int 0, .int 0, .int 0])), (q_1, .inl (cI, 1501, .inl (fun _ => 0))), (q_2, .inl (cI, 1501, .inl (fun _ => 0))), (q_3, .inl (cI, 1501, .inl (fun _ => 0)))]) rfl (fun H locs hw => ?_)
  refine lv_aload_n hx hb dX1_init_41 rfl (lv_at hl 0 rfl) ?_
  refine lv_sipush (v := 1501) hx hb dX1_init_42 (by decide) ?_
  refine hk_newi (N := 1501) hx hb (hts _ (List.mem_of_getElem? (i := 6) rfl)) hw hA 0 rfl (by decide) (by decide) (by decide) (Nat.le_of_ble_eq_true rfl) (Nat.le_of_ble_eq_true rfl) dX1_init_45 (fun q_4 H hw => ?_)
  have hw : hk_W D [(cI, .int), (cJ, .long)] _ s _ _ [(h0, .inr (4, [.ref a1, .ref a2, .ref q_1, .ref q_2, .ref q_3, .null, .null, .int 0, .int 0, .int 0, .int 0, .int 0, .int 0])), (q_1, .inl (cI, 1501, .inl (fun _ => 0))), (q_2, .inl (cI, 1501, .inl (fun _ => 0))), (q_3, .inl (cI, 1501, .inl (fun _ => 0))), (q_4, .inl (cI, 1501, .inl (fun _ => 0)))] := hw
  refine W.widen (k := 4) (n := 6004) (by omega) (by omega) ?_
  refine hk_putF (ci := 4) (C := RX1) (T := TX1) (N := 13) (ty := (.array .int)) (v := .ref q_4) hx hb hts iX1 tyX1 tyX1_ok nmX1 hown hw 0 rfl rfl 5 (by decide) (hts _ (List.mem_of_getElem? (i := 10) rfl)) rfl hin rfl (by decide +kernel) rfl rfl (Nat.le_of_ble_eq_true rfl) dX1_init_47 (ws' := [(h0, .inr (4, [.ref a1, .ref a2, .ref q_1, .ref q_2, .ref q_3, .ref q_4, .null, .int 0, .int 0, .int 0, .int 0, .int 0, .int 0])), (q_1, .inl (cI, 1501, .inl (fun _ => 0))), (q_2, .inl (cI, 1501, .inl (fun _ => 0))), (q_3, .inl (cI, 1501, .inl (fun _ => 0))), (q_4, .inl (cI, 1501, .inl (fun _ => 0)))]) rfl (fun H locs hw => ?_)
  refine lv_aload_n hx hb dX1_init_50 rfl (lv_at hl 0 rfl) ?_
  refine lv_sipush (v := 1501) hx hb dX1_init_51 (by decide) ?_
  refine hk_newi (N := 1501) hx hb (hts _ (List.mem_of_getElem? (i := 6) rfl)) hw hA 0 rfl (by decide) (by decide) (by decide) (Nat.le_of_ble_eq_true rfl) (Nat.le_of_ble_eq_true rfl) dX1_init_54 (fun q_5 H hw => ?_)
  have hw : hk_W D [(cI, .int), (cJ, .long)] _ s _ _ [(h0, .inr (4, [.ref a1, .ref a2, .ref q_1, .ref q_2, .ref q_3, .ref q_4, .null, .int 0, .int 0, .int 0, .int 0, .int 0, .int 0])), (q_1, .inl (cI, 1501, .inl (fun _ => 0))), (q_2, .inl (cI, 1501, .inl (fun _ => 0))), (q_3, .inl (cI, 1501, .inl (fun _ => 0))), (q_4, .inl (cI, 1501, .inl (fun _ => 0))), (q_5, .inl (cI, 1501, .inl (fun _ => 0)))] := hw
  refine W.widen (k := 5) (n := 7505) (by omega) (by omega) ?_
  refine hk_putF (ci := 4) (C := RX1) (T := TX1) (N := 13) (ty := (.array .int)) (v := .ref q_5) hx hb hts iX1 tyX1 tyX1_ok nmX1 hown hw 0 rfl rfl 6 (by decide) (hts _ (List.mem_of_getElem? (i := 11) rfl)) rfl hin rfl (by decide +kernel) rfl rfl (Nat.le_of_ble_eq_true rfl) dX1_init_56 (ws' := [(h0, .inr (4, [.ref a1, .ref a2, .ref q_1, .ref q_2, .ref q_3, .ref q_4, .ref q_5, .int 0, .int 0, .int 0, .int 0, .int 0, .int 0])), (q_1, .inl (cI, 1501, .inl (fun _ => 0))), (q_2, .inl (cI, 1501, .inl (fun _ => 0))), (q_3, .inl (cI, 1501, .inl (fun _ => 0))), (q_4, .inl (cI, 1501, .inl (fun _ => 0))), (q_5, .inl (cI, 1501, .inl (fun _ => 0)))]) rfl (fun H locs hw => ?_)
  exact hk_vret (u := (q_1, q_2, q_3, q_4, q_5)) (w' := fun u : Nat × Nat × Nat × Nat × Nat => [(h0, .inr (4, [.ref a1, .ref a2, .ref u.1, .ref u.2.1, .ref u.2.2.1, .ref u.2.2.2.1, .ref u.2.2.2.2, .int 0, .int 0, .int 0, .int 0, .int 0, .int 0])), (u.1, .inl (cI, 1501, .inl (fun _ => 0))), (u.2.1, .inl (cI, 1501, .inl (fun _ => 0))), (u.2.2.1, .inl (cI, 1501, .inl (fun _ => 0))), (u.2.2.2.1, .inl (cI, 1501, .inl (fun _ => 0))), (u.2.2.2.2, .inl (cI, 1501, .inl (fun _ => 0)))]) hx hb hr hlocks hw trivial dX1_init_59

def ww_cc_X3 : List Cond := Cond.code yX3_init cX3_init 2 none :: ([Cond.methodLink RX3 3 objectInit, Cond.instanceMethod objectInit, Cond.code objectInit ⟨#[0xb1]⟩ 1 none, Cond.fieldLink RX3 9 "LzmaChains$Head" "source" "LLzmaChains$Reader;", Cond.arrayClass .int, Cond.fieldLink RX3 15 "LzmaChains$Head" "kinds" "[I", Cond.fieldLink RX3 19 "LzmaChains$Head" "values" "[I"] ++ (wsX30 ++ ([])))
set_option maxHeartbeats 4000000 in
set_option maxRecDepth 100000 in
/-- Head(source) -/
theorem cc_X3 (l : Launch) (D : va_G) (cI cJ : ClassId) (sz : Nat) (h0 : Nat) (a1 : Nat) : Met l yX3_init ww_cc_X3 { frames := 1, cells := 2, slots := 8, locals := 20 } (va_Pc [.ref h0, .ref a1] (hk_B D [(cI, .int), (cJ, .long)] sz [(h0, .inr (6, [.null, .null, .null, .int 0, .int 0, .int 0, .long 0, .long 0, .long 0]))])) (va_Qv (fun u : Nat × Nat => True) (fun u : Nat × Nat => hk_E D [(cI, .int), (cJ, .long)] (va_A [(h0, .inr (6, [.null, .null, .null, .int 0, .int 0, .int 0, .long 0, .long 0, .long 0]))] sz) [(h0, .inr (6, [.ref a1, .ref u.1, .ref u.2, .int 0, .int 0, .int 0, .long 0, .long 0, .long 0])), (u.1, .inl (cI, 4, .inl (fun _ => 0))), (u.2, .inl (cI, 4, .inl (fun _ => 0)))]) (va_A [(h0, .inr (6, [.null, .null, .null, .int 0, .int 0, .int 0, .long 0, .long 0, .long 0]))] sz)) 2 8 (va_A [(h0, .inr (6, [.null, .null, .null, .int 0, .int 0, .int 0, .long 0, .long 0, .long 0]))] sz) := by
  refine hk_met (cc := cX3_init) (maxL := 2) (ret := none) (by decide) rfl (Nat.le_of_ble_eq_true rfl) ?_
  intro p e s m below meth c ls hx hb hr hml hown hts hlocks hin hA hw hl
  have iX3 : ∀ w ∈ wsX30, w ∈ ww_cc_X3 := fun _ h => List.mem_cons_of_mem _ (List.mem_append_right _ (List.mem_append_left _ h))
  have hl : lv_has ls 2 [(0, .ref h0), (1, .ref a1)] := hl
  refine lv_aload_n hx hb dX3_init_0 rfl (lv_at hl 0 rfl) ?_
  refine W.objInit hx hb hown (hts _ (List.mem_of_getElem? (i := 1) rfl)) (hts _ (List.mem_of_getElem? (i := 2) rfl)) (hts _ (List.mem_of_getElem? (i := 3) rfl)) rfl (by rw [hml]; exact hl.1) rfl dX3_init_1 (Nat.le_of_ble_eq_true rfl) (Nat.le_of_ble_eq_true rfl) ?_
  refine W.eq (g2 := F0 m 4 ls []) rfl ?_
  refine lv_aload_n hx hb dX3_init_4 rfl (lv_at hl 0 rfl) ?_
  refine lv_aload_n hx hb dX3_init_5 rfl (lv_at hl 1 rfl) ?_
  refine hk_putF (ci := 6) (C := RX3) (T := TX3) (N := 9) (ty := (.object "LzmaChains$Reader")) (v := .ref a1) hx hb hts iX3 tyX3 tyX3_ok nmX3 hown hw 0 rfl rfl 0 (by decide) (hts _ (List.mem_of_getElem? (i := 4) rfl)) rfl hin rfl (by decide +kernel) rfl rfl (Nat.le_of_ble_eq_true rfl) dX3_init_6 (ws' := [(h0, .inr (6, [.ref a1, .null, .null, .int 0, .int 0, .int 0, .long 0, .long 0, .long 0]))]) rfl (fun H locs hw => ?_)
  refine lv_aload_n hx hb dX3_init_9 rfl (lv_at hl 0 rfl) ?_
  refine lv_iconst (v := 4) hx hb dX3_init_10 (by decide) ?_
  refine hk_newi (N := 4) hx hb (hts _ (List.mem_of_getElem? (i := 5) rfl)) hw hA 0 rfl (by decide) (by decide) (by decide) (Nat.le_of_ble_eq_true rfl) (Nat.le_of_ble_eq_true rfl) dX3_init_11 (fun q_1 H hw => ?_)
  have hw : hk_W D [(cI, .int), (cJ, .long)] _ s _ _ [(h0, .inr (6, [.ref a1, .null, .null, .int 0, .int 0, .int 0, .long 0, .long 0, .long 0])), (q_1, .inl (cI, 4, .inl (fun _ => 0)))] := hw
  refine W.widen (k := 1) (n := 4) (by omega) (by omega) ?_
  refine hk_putF (ci := 6) (C := RX3) (T := TX3) (N := 9) (ty := (.array .int)) (v := .ref q_1) hx hb hts iX3 tyX3 tyX3_ok nmX3 hown hw 0 rfl rfl 1 (by decide) (hts _ (List.mem_of_getElem? (i := 6) rfl)) rfl hin rfl (by decide +kernel) rfl rfl (Nat.le_of_ble_eq_true rfl) dX3_init_13 (ws' := [(h0, .inr (6, [.ref a1, .ref q_1, .null, .int 0, .int 0, .int 0, .long 0, .long 0, .long 0])), (q_1, .inl (cI, 4, .inl (fun _ => 0)))]) rfl (fun H locs hw => ?_)
  refine lv_aload_n hx hb dX3_init_16 rfl (lv_at hl 0 rfl) ?_
  refine lv_iconst (v := 4) hx hb dX3_init_17 (by decide) ?_
  refine hk_newi (N := 4) hx hb (hts _ (List.mem_of_getElem? (i := 5) rfl)) hw hA 0 rfl (by decide) (by decide) (by decide) (Nat.le_of_ble_eq_true rfl) (Nat.le_of_ble_eq_true rfl) dX3_init_18 (fun q_2 H hw => ?_)
  have hw : hk_W D [(cI, .int), (cJ, .long)] _ s _ _ [(h0, .inr (6, [.ref a1, .ref q_1, .null, .int 0, .int 0, .int 0, .long 0, .long 0, .long 0])), (q_1, .inl (cI, 4, .inl (fun _ => 0))), (q_2, .inl (cI, 4, .inl (fun _ => 0)))] := hw
  refine W.widen (k := 2) (n := 8) (by omega) (by omega) ?_
  refine hk_putF (ci := 6) (C := RX3) (T := TX3) (N := 9) (ty := (.array .int)) (v := .ref q_2) hx hb hts iX3 tyX3 tyX3_ok nmX3 hown hw 0 rfl rfl 2 (by decide) (hts _ (List.mem_of_getElem? (i := 7) rfl)) rfl hin rfl (by decide +kernel) rfl rfl (Nat.le_of_ble_eq_true rfl) dX3_init_20 (ws' := [(h0, .inr (6, [.ref a1, .ref q_1, .ref q_2, .int 0, .int 0, .int 0, .long 0, .long 0, .long 0])), (q_1, .inl (cI, 4, .inl (fun _ => 0))), (q_2, .inl (cI, 4, .inl (fun _ => 0)))]) rfl (fun H locs hw => ?_)
  exact hk_vret (u := (q_1, q_2)) (w' := fun u : Nat × Nat => [(h0, .inr (6, [.ref a1, .ref u.1, .ref u.2, .int 0, .int 0, .int 0, .long 0, .long 0, .long 0])), (u.1, .inl (cI, 4, .inl (fun _ => 0))), (u.2, .inl (cI, 4, .inl (fun _ => 0)))]) hx hb hr hlocks hw trivial dX3_init_23

def ww_cc_X7 : List Cond := Cond.code yX7_init cX7_init 7 none :: ([Cond.methodLink RX7 3 objectInit, Cond.instanceMethod objectInit, Cond.code objectInit ⟨#[0xb1]⟩ 1 none, Cond.fieldLink RX7 9 "LzmaChains$Packer" "settings" "LLzmaChains$Settings;", Cond.fieldLink RX7 15 "LzmaChains$Packer" "input" "LLzmaChains$Row;", Cond.fieldLink RX7 19 "LzmaChains$Packer" "output" "LLzmaChains$Row;", Cond.fieldLink RX7 22 "LzmaChains$Packer" "model" "LLzmaChains$Model;", Cond.fieldLink RX7 26 "LzmaChains$Packer" "checks" "LLzmaChains$Checks;", Cond.fieldLink RX7 30 "LzmaChains$Packer" "ledger" "LLzmaChains$Ledger;", Cond.classLink RX7 34 RX1, Cond.instantiable RX1 13, Cond.initialized RX1, Cond.code yX1_init cX1_init 3 none, Cond.methodLink RX1 3 objectInit, Cond.fieldLink RX1 9 "LzmaChains$Chooser" "row" "LLzmaChains$Row;", Cond.fieldLink RX1 15 "LzmaChains$Chooser" "model" "LLzmaChains$Model;", Cond.arrayClass .int, Cond.fieldLink RX1 19 "LzmaChains$Chooser" "longest" "[I", Cond.fieldLink RX1 23 "LzmaChains$Chooser" "nearest" "[I", Cond.fieldLink RX1 26 "LzmaChains$Chooser" "runs" "[I", Cond.fieldLink RX1 29 "LzmaChains$Chooser" "costs" "[I", Cond.fieldLink RX1 32 "LzmaChains$Chooser" "strides" "[I", Cond.methodLink RX7 36 yX1_init, Cond.instanceMethod yX1_init, Cond.fieldLink RX7 39 "LzmaChains$Packer" "chooser" "LLzmaChains$Chooser;"] ++ (wsX70 ++ (wsX10 ++ ([]))))
set_option maxRecDepth 20000 in
theorem gw_cc_X7_0 : GoodIn ww_cc_X7 (ww_cc_X1) := goodIn_r _ [13, 14, 2, 3, 15, 16, 17, 18, 19, 20, 21, 22, 43, 44, 45, 46, 47, 48, 49, 50, 51, 52, 53, 54, 55] rfl (by decide +kernel)
set_option maxHeartbeats 4000000 in
set_option maxRecDepth 100000 in
/-- Packer(..) -/
theorem cc_X7 (l : Launch) (D : va_G) (cI cJ : ClassId) (sz : Nat) (h0 : Nat) (a1 a2 a3 a4 a5 a6 : Nat) : Met l yX7_init ww_cc_X7 { frames := 2, cells := 6, slots := 7518, locals := 42 } (va_Pc [.ref h0, .ref a1, .ref a2, .ref a3, .ref a4, .ref a5, .ref a6] (hk_B D [(cI, .int), (cJ, .long)] sz [(h0, .inr (10, [.null, .null, .null, .null, .null, .null, .null, .int 0, .int 0, .int 0, .int 0, .int 0, .int 0, .int 0, .int 0, .int 0, .int 0]))])) (va_Qv (fun u : Nat × Nat × Nat × Nat × Nat × Nat => True) (fun u : Nat × Nat × Nat × Nat × Nat × Nat => hk_E D [(cI, .int), (cJ, .long)] (va_A [(h0, .inr (10, [.null, .null, .null, .null, .null, .null, .null, .int 0, .int 0, .int 0, .int 0, .int 0, .int 0, .int 0, .int 0, .int 0, .int 0]))] sz) [(h0, .inr (10, [.ref a1, .ref a2, .ref a3, .ref a4, .ref a5, .ref a6, .ref u.1, .int 0, .int 0, .int 0, .int 0, .int 0, .int 0, .int 0, .int 0, .int 0, .int 0])), (u.1, .inr (4, [.ref a2, .ref a4, .ref u.2.1, .ref u.2.2.1, .ref u.2.2.2.1, .ref u.2.2.2.2.1, .ref u.2.2.2.2.2, .int 0, .int 0, .int 0, .int 0, .int 0, .int 0])), (u.2.1, .inl (cI, 1501, .inl (fun _ => 0))), (u.2.2.1, .inl (cI, 1501, .inl (fun _ => 0))), (u.2.2.2.1, .inl (cI, 1501, .inl (fun _ => 0))), (u.2.2.2.2.1, .inl (cI, 1501, .inl (fun _ => 0))), (u.2.2.2.2.2, .inl (cI, 1501, .inl (fun _ => 0)))]) (va_A [(h0, .inr (10, [.null, .null, .null, .null, .null, .null, .null, .int 0, .int 0, .int 0, .int 0, .int 0, .int 0, .int 0, .int 0, .int 0, .int 0]))] sz)) 6 7518 (va_A [(h0, .inr (10, [.null, .null, .null, .null, .null, .null, .null, .int 0, .int 0, .int 0, .int 0, .int 0, .int 0, .int 0, .int 0, .int 0, .int 0]))] sz) := by
  refine hk_met (cc := cX7_init) (maxL := 7) (ret := none) (by decide) rfl (Nat.le_of_ble_eq_true rfl) ?_
  intro p e s m below meth c ls hx hb hr hml hown hts hlocks hin hA hw hl
  have iX7 : ∀ w ∈ wsX70, w ∈ ww_cc_X7 := fun _ h => List.mem_cons_of_mem _ (List.mem_append_right _ (List.mem_append_left _ h))
  have iX1 : ∀ w ∈ wsX10, w ∈ ww_cc_X7 := fun _ h => List.mem_cons_of_mem _ (List.mem_append_right _ (List.mem_append_right _ (List.mem_append_left _ h)))
  have hl : lv_has ls 7 [(0, .ref h0), (1, .ref a1), (2, .ref a2), (3, .ref a3), (4, .ref a4), (5, .ref a5), (6, .ref a6)] := hl
  refine lv_aload_n hx hb dX7_init_0 rfl (lv_at hl 0 rfl) ?_
  refine W.objInit hx hb hown (hts _ (List.mem_of_getElem? (i := 1) rfl)) (hts _ (List.mem_of_getElem? (i := 2) rfl)) (hts _ (List.mem_of_getElem? (i := 3) rfl)) rfl (by rw [hml]; exact hl.1) rfl dX7_init_1 (Nat.le_of_ble_eq_true rfl) (Nat.le_of_ble_eq_true rfl) ?_
  refine W.eq (g2 := F0 m 4 ls []) rfl ?_
  refine lv_aload_n hx hb dX7_init_4 rfl (lv_at hl 0 rfl) ?_
  refine lv_aload_n hx hb dX7_init_5 rfl (lv_at hl 1 rfl) ?_
  refine hk_putF (ci := 10) (C := RX7) (T := TX7) (N := 17) (ty := (.object "LzmaChains$Settings")) (v := .ref a1) hx hb hts iX7 tyX7 tyX7_ok nmX7 hown hw 0 rfl rfl 0 (by decide) (hts _ (List.mem_of_getElem? (i := 4) rfl)) rfl hin rfl (by decide +kernel) rfl rfl (Nat.le_of_ble_eq_true rfl) dX7_init_6 (ws' := [(h0, .inr (10, [.ref a1, .null, .null, .null, .null, .null, .null, .int 0, .int 0, .int 0, .int 0, .int 0, .int 0, .int 0, .int 0, .int 0, .int 0]))]) rfl (fun H locs hw => ?_)
  refine lv_aload_n hx hb dX7_init_9 rfl (lv_at hl 0 rfl) ?_
  refine lv_aload_n hx hb dX7_init_10 rfl (lv_at hl 2 rfl) ?_
  refine hk_putF (ci := 10) (C := RX7) (T := TX7) (N := 17) (ty := (.object "LzmaChains$Row")) (v := .ref a2) hx hb hts iX7 tyX7 tyX7_ok nmX7 hown hw 0 rfl rfl 1 (by decide) (hts _ (List.mem_of_getElem? (i := 5) rfl)) rfl hin rfl (by decide +kernel) rfl rfl (Nat.le_of_ble_eq_true rfl) dX7_init_11 (ws' := [(h0, .inr (10, [.ref a1, .ref a2, .null, .null, .null, .null, .null, .int 0, .int 0, .int 0, .int 0, .int 0, .int 0, .int 0, .int 0, .int 0, .int 0]))]) rfl (fun H locs hw => ?_)
  refine lv_aload_n hx hb dX7_init_14 rfl (lv_at hl 0 rfl) ?_
  refine lv_aload_n hx hb dX7_init_15 rfl (lv_at hl 3 rfl) ?_
  refine hk_putF (ci := 10) (C := RX7) (T := TX7) (N := 17) (ty := (.object "LzmaChains$Row")) (v := .ref a3) hx hb hts iX7 tyX7 tyX7_ok nmX7 hown hw 0 rfl rfl 2 (by decide) (hts _ (List.mem_of_getElem? (i := 6) rfl)) rfl hin rfl (by decide +kernel) rfl rfl (Nat.le_of_ble_eq_true rfl) dX7_init_16 (ws' := [(h0, .inr (10, [.ref a1, .ref a2, .ref a3, .null, .null, .null, .null, .int 0, .int 0, .int 0, .int 0, .int 0, .int 0, .int 0, .int 0, .int 0, .int 0]))]) rfl (fun H locs hw => ?_)
  refine lv_aload_n hx hb dX7_init_19 rfl (lv_at hl 0 rfl) ?_
  refine lv_aload hx hb dX7_init_20 (lv_at hl 4 rfl) ?_
  refine hk_putF (ci := 10) (C := RX7) (T := TX7) (N := 17) (ty := (.object "LzmaChains$Model")) (v := .ref a4) hx hb hts iX7 tyX7 tyX7_ok nmX7 hown hw 0 rfl rfl 3 (by decide) (hts _ (List.mem_of_getElem? (i := 7) rfl)) rfl hin rfl (by decide +kernel) rfl rfl (Nat.le_of_ble_eq_true rfl) dX7_init_22 (ws' := [(h0, .inr (10, [.ref a1, .ref a2, .ref a3, .ref a4, .null, .null, .null, .int 0, .int 0, .int 0, .int 0, .int 0, .int 0, .int 0, .int 0, .int 0, .int 0]))]) rfl (fun H locs hw => ?_)
  refine lv_aload_n hx hb dX7_init_25 rfl (lv_at hl 0 rfl) ?_
  refine lv_aload hx hb dX7_init_26 (lv_at hl 5 rfl) ?_
  refine hk_putF (ci := 10) (C := RX7) (T := TX7) (N := 17) (ty := (.object "LzmaChains$Checks")) (v := .ref a5) hx hb hts iX7 tyX7 tyX7_ok nmX7 hown hw 0 rfl rfl 4 (by decide) (hts _ (List.mem_of_getElem? (i := 8) rfl)) rfl hin rfl (by decide +kernel) rfl rfl (Nat.le_of_ble_eq_true rfl) dX7_init_28 (ws' := [(h0, .inr (10, [.ref a1, .ref a2, .ref a3, .ref a4, .ref a5, .null, .null, .int 0, .int 0, .int 0, .int 0, .int 0, .int 0, .int 0, .int 0, .int 0, .int 0]))]) rfl (fun H locs hw => ?_)
  refine lv_aload_n hx hb dX7_init_31 rfl (lv_at hl 0 rfl) ?_
  refine lv_aload hx hb dX7_init_32 (lv_at hl 6 rfl) ?_
  refine hk_putF (ci := 10) (C := RX7) (T := TX7) (N := 17) (ty := (.object "LzmaChains$Ledger")) (v := .ref a6) hx hb hts iX7 tyX7 tyX7_ok nmX7 hown hw 0 rfl rfl 5 (by decide) (hts _ (List.mem_of_getElem? (i := 9) rfl)) rfl hin rfl (by decide +kernel) rfl rfl (Nat.le_of_ble_eq_true rfl) dX7_init_34 (ws' := [(h0, .inr (10, [.ref a1, .ref a2, .ref a3, .ref a4, .ref a5, .ref a6, .null, .int 0, .int 0, .int 0, .int 0, .int 0, .int 0, .int 0, .int 0, .int 0, .int 0]))]) rfl (fun H locs hw => ?_)
  refine lv_aload_n hx hb dX7_init_37 rfl (lv_at hl 0 rfl) ?_
  refine hk_new (ci := 4) (fs := [.null, .null, .null, .null, .null, .null, .null, .int 0, .int 0, .int 0, .int 0, .int 0, .int 0]) (C := RX1) (T := TX1) (N := 13) hx hb hts iX1 tyX1 tyX1_ok hown (hts _ (List.mem_of_getElem? (i := 10) rfl)) (hts _ (List.mem_of_getElem? (i := 11) rfl)) (hts _ (List.mem_of_getElem? (i := 12) rfl)) hw hA rfl (fun j hj => by rcases (show j = 0 ∨ j = 1 ∨ j = 2 ∨ j = 3 ∨ j = 4 ∨ j = 5 ∨ j = 6 ∨ j = 7 ∨ j = 8 ∨ j = 9 ∨ j = 10 ∨ j = 11 ∨ j = 12 by omega) with rfl | rfl | rfl | rfl | rfl | rfl | rfl | rfl | rfl | rfl | rfl | rfl | rfl <;> rfl) (Nat.le_of_ble_eq_true rfl) (Nat.le_of_ble_eq_true rfl) dX7_init_38 (fun q_1 H hw => ?_)
  have hw : hk_W D [(cI, .int), (cJ, .long)] _ s _ _ [(h0, .inr (10, [.ref a1, .ref a2, .ref a3, .ref a4, .ref a5, .ref a6, .null, .int 0, .int 0, .int 0, .int 0, .int 0, .int 0, .int 0, .int 0, .int 0, .int 0])), (q_1, .inr (4, [.null, .null, .null, .null, .null, .null, .null, .int 0, .int 0, .int 0, .int 0, .int 0, .int 0]))] := hw
  refine W.widen (k := 1) (n := 13) (by omega) (by omega) ?_
  refine lv_dup hx hb dX7_init_41 rfl ?_
  refine lv_aload_n hx hb dX7_init_42 rfl (lv_at hl 2 rfl) ?_
  refine lv_aload hx hb dX7_init_43 (lv_at hl 4 rfl) ?_
  refine hk_Iv (As := [.ref a2, .ref a4]) (rest := [.ref q_1, .ref h0]) (wc := [(q_1, .inr (4, [.null, .null, .null, .null, .null, .null, .null, .int 0, .int 0, .int 0, .int 0, .int 0, .int 0]))]) (wr := [(h0, .inr (10, [.ref a1, .ref a2, .ref a3, .ref a4, .ref a5, .ref a6, .null, .int 0, .int 0, .int 0, .int 0, .int 0, .int 0, .int 0, .int 0, .int 0, .int 0]))]) ⟨hx, hb, hml, hown, hts⟩ hw hA [1] [0] rfl rfl (by decide) (by decide) (by decide) (cc_X1 l D cI cJ _ q_1 a2 a4) (cwI 2 hts gw_cc_X7_0 rfl rfl rfl (hts _ (List.mem_of_getElem? (i := 12) rfl)) (hts _ (List.mem_of_getElem? (i := 23) rfl)) (hts _ (List.mem_of_getElem? (i := 24) rfl)) rfl (by decide +kernel) ⟨Nat.le_of_ble_eq_true rfl, Nat.le_of_ble_eq_true rfl⟩) rfl hl.1 rfl (Nat.le_of_ble_eq_true rfl) dX7_init_45 ⟨Nat.le_of_ble_eq_true rfl, Nat.le_of_ble_eq_true rfl⟩ (fun uu_2 H locs _ hw => ?_)
  obtain ⟨q_3, q_4, q_5, q_6, q_7⟩ := uu_2
  have hw : hk_W D [(cI, .int), (cJ, .long)] _ s _ _ [(h0, .inr (10, [.ref a1, .ref a2, .ref a3, .ref a4, .ref a5, .ref a6, .null, .int 0, .int 0, .int 0, .int 0, .int 0, .int 0, .int 0, .int 0, .int 0, .int 0])), (q_1, .inr (4, [.ref a2, .ref a4, .ref q_3, .ref q_4, .ref q_5, .ref q_6, .ref q_7, .int 0, .int 0, .int 0, .int 0, .int 0, .int 0])), (q_3, .inl (cI, 1501, .inl (fun _ => 0))), (q_4, .inl (cI, 1501, .inl (fun _ => 0))), (q_5, .inl (cI, 1501, .inl (fun _ => 0))), (q_6, .inl (cI, 1501, .inl (fun _ => 0))), (q_7, .inl (cI, 1501, .inl (fun _ => 0)))] := hw
  refine W.widen (k := 6) (n := 7518) (by omega) (by omega) ?_
  refine hk_putF (ci := 10) (C := RX7) (T := TX7) (N := 17) (ty := (.object "LzmaChains$Chooser")) (v := .ref q_1) hx hb hts iX7 tyX7 tyX7_ok nmX7 hown hw 0 rfl rfl 6 (by decide) (hts _ (List.mem_of_getElem? (i := 25) rfl)) rfl hin rfl (by decide +kernel) rfl rfl (Nat.le_of_ble_eq_true rfl) dX7_init_48 (ws' := [(h0, .inr (10, [.ref a1, .ref a2, .ref a3, .ref a4, .ref a5, .ref a6, .ref q_1, .int 0, .int 0, .int 0, .int 0, .int 0, .int 0, .int 0, .int 0, .int 0, .int 0])), (q_1, .inr (4, [.ref a2, .ref a4, .ref q_3, .ref q_4, .ref q_5, .ref q_6, .ref q_7, .int 0, .int 0, .int 0, .int 0, .int 0, .int 0])), (q_3, .inl (cI, 1501, .inl (fun _ => 0))), (q_4, .inl (cI, 1501, .inl (fun _ => 0))), (q_5, .inl (cI, 1501, .inl (fun _ => 0))), (q_6, .inl (cI, 1501, .inl (fun _ => 0))), (q_7, .inl (cI, 1501, .inl (fun _ => 0)))]) rfl (fun H locs hw => ?_)
  exact hk_vret (u := (q_1, q_3, q_4, q_5, q_6, q_7)) (w' := fun u : Nat × Nat × Nat × Nat × Nat × Nat => [(h0, .inr (10, [.ref a1, .ref a2, .ref a3, .ref a4, .ref a5, .ref a6, .ref u.1, .int 0, .int 0, .int 0, .int 0, .int 0, .int 0, .int 0, .int 0, .int 0, .int 0])), (u.1, .inr (4, [.ref a2, .ref a4, .ref u.2.1, .ref u.2.2.1, .ref u.2.2.2.1, .ref u.2.2.2.2.1, .ref u.2.2.2.2.2, .int 0, .int 0, .int 0, .int 0, .int 0, .int 0])), (u.2.1, .inl (cI, 1501, .inl (fun _ => 0))), (u.2.2.1, .inl (cI, 1501, .inl (fun _ => 0))), (u.2.2.2.1, .inl (cI, 1501, .inl (fun _ => 0))), (u.2.2.2.2.1, .inl (cI, 1501, .inl (fun _ => 0))), (u.2.2.2.2.2, .inl (cI, 1501, .inl (fun _ => 0)))]) hx hb hr hlocks hw trivial dX7_init_51

def ww_cc_X6 : List Cond := Cond.code yX6_init cX6_init 6 none :: ([Cond.methodLink RX6 3 objectInit, Cond.instanceMethod objectInit, Cond.code objectInit ⟨#[0xb1]⟩ 1 none, Cond.fieldLink RX6 9 "LzmaChains$Opener" "source" "LLzmaChains$Reader;", Cond.fieldLink RX6 15 "LzmaChains$Opener" "output" "LLzmaChains$Row;", Cond.fieldLink RX6 19 "LzmaChains$Opener" "model" "LLzmaChains$Model;", Cond.fieldLink RX6 23 "LzmaChains$Opener" "checks" "LLzmaChains$Checks;", Cond.fieldLink RX6 27 "LzmaChains$Opener" "ledger" "LLzmaChains$Ledger;", Cond.classLink RX6 31 RX3, Cond.instantiable RX3 9, Cond.initialized RX3, Cond.code yX3_init cX3_init 2 none, Cond.methodLink RX3 3 objectInit, Cond.fieldLink RX3 9 "LzmaChains$Head" "source" "LLzmaChains$Reader;", Cond.arrayClass .int, Cond.fieldLink RX3 15 "LzmaChains$Head" "kinds" "[I", Cond.fieldLink RX3 19 "LzmaChains$Head" "values" "[I", Cond.methodLink RX6 33 yX3_init, Cond.instanceMethod yX3_init, Cond.fieldLink RX6 36 "LzmaChains$Opener" "head" "LLzmaChains$Head;", Cond.classLink RX6 40 RX9, Cond.instantiable RX9 2, Cond.initialized RX9, Cond.code yX9_init cX9_init 2 none, Cond.methodLink RX9 1 objectInit, Cond.fieldLink RX9 7 "LzmaChains$Row" "data" "[I", Cond.methodLink RX6 42 yX9_init, Cond.instanceMethod yX9_init, Cond.fieldLink RX6 45 "LzmaChains$Opener" "expected" "LLzmaChains$Row;"] ++ (wsX60 ++ (wsX30 ++ (wsX90 ++ ([])))))
set_option maxRecDepth 20000 in
theorem gw_cc_X6_0 : GoodIn ww_cc_X6 (ww_cc_X3) := goodIn_r _ [12, 13, 2, 3, 14, 15, 16, 17, 46, 47, 48, 49, 50, 51, 52, 53, 54] rfl (by decide +kernel)
set_option maxRecDepth 20000 in
theorem gw_cc_X6_1 : GoodIn ww_cc_X6 (ww_cc_X9_1024) := goodIn_r _ [24, 25, 2, 3, 15, 26, 55, 56] rfl (by decide +kernel)
set_option maxHeartbeats 4000000 in
set_option maxRecDepth 100000 in
/-- Opener(..) -/
theorem cc_X6 (l : Launch) (D : va_G) (cI cJ : ClassId) (sz : Nat) (h0 : Nat) (a1 a2 a3 a4 a5 : Nat) : Met l yX6_init ww_cc_X6 { frames := 2, cells := 5, slots := 1043, locals := 41 } (va_Pc [.ref h0, .ref a1, .ref a2, .ref a3, .ref a4, .ref a5] (hk_B D [(cI, .int), (cJ, .long)] sz [(h0, .inr (9, [.null, .null, .null, .null, .null, .null, .null, .long 0, .long 0, .int 0, .int 0, .int 0, .int 0, .int 0, .int 0, .int 0]))])) (va_Qv (fun u : Nat × Nat × Nat × Nat × Nat => True) (fun u : Nat × Nat × Nat × Nat × Nat => hk_E D [(cI, .int), (cJ, .long)] (va_A [(h0, .inr (9, [.null, .null, .null, .null, .null, .null, .null, .long 0, .long 0, .int 0, .int 0, .int 0, .int 0, .int 0, .int 0, .int 0]))] sz) [(h0, .inr (9, [.ref a1, .ref a2, .ref a3, .ref a4, .ref a5, .ref u.1, .ref u.2.2.2.1, .long 0, .long 0, .int 0, .int 0, .int 0, .int 0, .int 0, .int 0, .int 0])), (u.1, .inr (6, [.ref a1, .ref u.2.1, .ref u.2.2.1, .int 0, .int 0, .int 0, .long 0, .long 0, .long 0])), (u.2.1, .inl (cI, 4, .inl (fun _ => 0))), (u.2.2.1, .inl (cI, 4, .inl (fun _ => 0))), (u.2.2.2.1, .inr (12, [.ref u.2.2.2.2, .int 0])), (u.2.2.2.2, .inl (cI, 1024, .inl (fun _ => 0)))]) (va_A [(h0, .inr (9, [.null, .null, .null, .null, .null, .null, .null, .long 0, .long 0, .int 0, .int 0, .int 0, .int 0, .int 0, .int 0, .int 0]))] sz)) 5 1043 (va_A [(h0, .inr (9, [.null, .null, .null, .null, .null, .null, .null, .long 0, .long 0, .int 0, .int 0, .int 0, .int 0, .int 0, .int 0, .int 0]))] sz) := by
  refine hk_met (cc := cX6_init) (maxL := 6) (ret := none) (by decide) rfl (Nat.le_of_ble_eq_true rfl) ?_
  intro p e s m below meth c ls hx hb hr hml hown hts hlocks hin hA hw hl
  have iX6 : ∀ w ∈ wsX60, w ∈ ww_cc_X6 := fun _ h => List.mem_cons_of_mem _ (List.mem_append_right _ (List.mem_append_left _ h))
  have iX3 : ∀ w ∈ wsX30, w ∈ ww_cc_X6 := fun _ h => List.mem_cons_of_mem _ (List.mem_append_right _ (List.mem_append_right _ (List.mem_append_left _ h)))
  have iX9 : ∀ w ∈ wsX90, w ∈ ww_cc_X6 := fun _ h => List.mem_cons_of_mem _ (List.mem_append_right _ (List.mem_append_right _ (List.mem_append_right _ (List.mem_append_left _ h))))
  have hl : lv_has ls 6 [(0, .ref h0), (1, .ref a1), (2, .ref a2), (3, .ref a3), (4, .ref a4), (5, .ref a5)] := hl
  refine lv_aload_n hx hb dX6_init_0 rfl (lv_at hl 0 rfl) ?_
  refine W.objInit hx hb hown (hts _ (List.mem_of_getElem? (i := 1) rfl)) (hts _ (List.mem_of_getElem? (i := 2) rfl)) (hts _ (List.mem_of_getElem? (i := 3) rfl)) rfl (by rw [hml]; exact hl.1) rfl dX6_init_1 (Nat.le_of_ble_eq_true rfl) (Nat.le_of_ble_eq_true rfl) ?_
  refine W.eq (g2 := F0 m 4 ls []) rfl ?_
  refine lv_aload_n hx hb dX6_init_4 rfl (lv_at hl 0 rfl) ?_
  refine lv_aload_n hx hb dX6_init_5 rfl (lv_at hl 1 rfl) ?_
  refine hk_putF (ci := 9) (C := RX6) (T := TX6) (N := 16) (ty := (.object "LzmaChains$Reader")) (v := .ref a1) hx hb hts iX6 tyX6 tyX6_ok nmX6 hown hw 0 rfl rfl 0 (by decide) (hts _ (List.mem_of_getElem? (i := 4) rfl)) rfl hin rfl (by decide +kernel) rfl rfl (Nat.le_of_ble_eq_true rfl) dX6_init_6 (ws' := [(h0, .inr (9, [.ref a1, .null, .null, .null, .null, .null, .null, .long 0, .long 0, .int 0, .int 0, .int 0, .int 0, .int 0, .int 0, .int 0]))]) rfl (fun H locs hw => ?_)
  refine lv_aload_n hx hb dX6_init_9 rfl (lv_at hl 0 rfl) ?_
  refine lv_aload_n hx hb dX6_init_10 rfl (lv_at hl 2 rfl) ?_
  refine hk_putF (ci := 9) (C := RX6) (T := TX6) (N := 16) (ty := (.object "LzmaChains$Row")) (v := .ref a2) hx hb hts iX6 tyX6 tyX6_ok nmX6 hown hw 0 rfl rfl 1 (by decide) (hts _ (List.mem_of_getElem? (i := 5) rfl)) rfl hin rfl (by decide +kernel) rfl rfl (Nat.le_of_ble_eq_true rfl) dX6_init_11 (ws' := [(h0, .inr (9, [.ref a1, .ref a2, .null, .null, .null, .null, .null, .long 0, .long 0, .int 0, .int 0, .int 0, .int 0, .int 0, .int 0, .int 0]))]) rfl (fun H locs hw => ?_)
  refine lv_aload_n hx hb dX6_init_14 rfl (lv_at hl 0 rfl) ?_
  refine lv_aload_n hx hb dX6_init_15 rfl (lv_at hl 3 rfl) ?_
  refine hk_putF (ci := 9) (C := RX6) (T := TX6) (N := 16) (ty := (.object "LzmaChains$Model")) (v := .ref a3) hx hb hts iX6 tyX6 tyX6_ok nmX6 hown hw 0 rfl rfl 2 (by decide) (hts _ (List.mem_of_getElem? (i := 6) rfl)) rfl hin rfl (by decide +kernel) rfl rfl (Nat.le_of_ble_eq_true rfl) dX6_init_16 (ws' := [(h0, .inr (9, [.ref a1, .ref a2, .ref a3, .null, .null, .null, .null, .long 0, .long 0, .int 0, .int 0, .int 0, .int 0, .int 0, .int 0, .int 0]))]) rfl (fun H locs hw => ?_)
  refine lv_aload_n hx hb dX6_init_19 rfl (lv_at hl 0 rfl) ?_
  refine lv_aload hx hb dX6_init_20 (lv_at hl 4 rfl) ?_
  refine hk_putF (ci := 9) (C := RX6) (T := TX6) (N := 16) (ty := (.object "LzmaChains$Checks")) (v := .ref a4) hx hb hts iX6 tyX6 tyX6_ok nmX6 hown hw 0 rfl rfl 3 (by decide) (hts _ (List.mem_of_getElem? (i := 7) rfl)) rfl hin rfl (by decide +kernel) rfl rfl (Nat.le_of_ble_eq_true rfl) dX6_init_22 (ws' := [(h0, .inr (9, [.ref a1, .ref a2, .ref a3, .ref a4, .null, .null, .null, .long 0, .long 0, .int 0, .int 0, .int 0, .int 0, .int 0, .int 0, .int 0]))]) rfl (fun H locs hw => ?_)
  refine lv_aload_n hx hb dX6_init_25 rfl (lv_at hl 0 rfl) ?_
  refine lv_aload hx hb dX6_init_26 (lv_at hl 5 rfl) ?_
  refine hk_putF (ci := 9) (C := RX6) (T := TX6) (N := 16) (ty := (.object "LzmaChains$Ledger")) (v := .ref a5) hx hb hts iX6 tyX6 tyX6_ok nmX6 hown hw 0 rfl rfl 4 (by decide) (hts _ (List.mem_of_getElem? (i := 8) rfl)) rfl hin rfl (by decide +kernel) rfl rfl (Nat.le_of_ble_eq_true rfl) dX6_init_28 (ws' := [(h0, .inr (9, [.ref a1, .ref a2, .ref a3, .ref a4, .ref a5, .null, .null, .long 0, .long 0, .int 0, .int 0, .int 0, .int 0, .int 0, .int 0, .int 0]))]) rfl (fun H locs hw => ?_)
  refine lv_aload_n hx hb dX6_init_31 rfl (lv_at hl 0 rfl) ?_
  refine hk_new (ci := 6) (fs := [.null, .null, .null, .int 0, .int 0, .int 0, .long 0, .long 0, .long 0]) (C := RX3) (T := TX3) (N := 9) hx hb hts iX3 tyX3 tyX3_ok hown (hts _ (List.mem_of_getElem? (i := 9) rfl)) (hts _ (List.mem_of_getElem? (i := 10) rfl)) (hts _ (List.mem_of_getElem? (i := 11) rfl)) hw hA rfl (fun j hj => by rcases (show j = 0 ∨ j = 1 ∨ j = 2 ∨ j = 3 ∨ j = 4 ∨ j = 5 ∨ j = 6 ∨ j = 7 ∨ j = 8 by omega) with rfl | rfl | rfl | rfl | rfl | rfl | rfl | rfl | rfl <;> rfl) (Nat.le_of_ble_eq_true rfl) (Nat.le_of_ble_eq_true rfl) dX6_init_32 (fun q_1 H hw => ?_)
  have hw : hk_W D [(cI, .int), (cJ, .long)] _ s _ _ [(h0, .inr (9, [.ref a1, .ref a2, .ref a3, .ref a4, .ref a5, .null, .null, .long 0, .long 0, .int 0, .int 0, .int 0, .int 0, .int 0, .int 0, .int 0])), (q_1, .inr (6, [.null, .null, .null, .int 0, .int 0, .int 0, .long 0, .long 0, .long 0]))] := hw
  refine W.widen (k := 1) (n := 9) (by omega) (by omega) ?_
  refine lv_dup hx hb dX6_init_35 rfl ?_
  refine lv_aload_n hx hb dX6_init_36 rfl (lv_at hl 1 rfl) ?_
  refine hk_Iv (As := [.ref a1]) (rest := [.ref q_1, .ref h0]) (wc := [(q_1, .inr (6, [.null, .null, .null, .int 0, .int 0, .int 0, .long 0, .long 0, .long 0]))]) (wr := [(h0, .inr (9, [.ref a1, .ref a2, .ref a3, .ref a4, .ref a5, .null, .null, .long 0, .long 0, .int 0, .int 0, .int 0, .int 0, .int 0, .int 0, .int 0]))]) ⟨hx, hb, hml, hown, hts⟩ hw hA [1] [0] rfl rfl (by decide) (by decide) (by decide) (cc_X3 l D cI cJ _ q_1 a1) (cwI 1 hts gw_cc_X6_0 rfl rfl rfl (hts _ (List.mem_of_getElem? (i := 11) rfl)) (hts _ (List.mem_of_getElem? (i := 18) rfl)) (hts _ (List.mem_of_getElem? (i := 19) rfl)) rfl (by decide +kernel) ⟨Nat.le_of_ble_eq_true rfl, Nat.le_of_ble_eq_true rfl⟩) rfl hl.1 rfl (Nat.le_of_ble_eq_true rfl) dX6_init_37 ⟨Nat.le_of_ble_eq_true rfl, Nat.le_of_ble_eq_true rfl⟩ (fun uu_2 H locs _ hw => ?_)
  obtain ⟨q_3, q_4⟩ := uu_2
  have hw : hk_W D [(cI, .int), (cJ, .long)] _ s _ _ [(h0, .inr (9, [.ref a1, .ref a2, .ref a3, .ref a4, .ref a5, .null, .null, .long 0, .long 0, .int 0, .int 0, .int 0, .int 0, .int 0, .int 0, .int 0])), (q_1, .inr (6, [.ref a1, .ref q_3, .ref q_4, .int 0, .int 0, .int 0, .long 0, .long 0, .long 0])), (q_3, .inl (cI, 4, .inl (fun _ => 0))), (q_4, .inl (cI, 4, .inl (fun _ => 0)))] := hw
  refine W.widen (k := 3) (n := 17) (by omega) (by omega) ?_
  refine hk_putF (ci := 9) (C := RX6) (T := TX6) (N := 16) (ty := (.object "LzmaChains$Head")) (v := .ref q_1) hx hb hts iX6 tyX6 tyX6_ok nmX6 hown hw 0 rfl rfl 5 (by decide) (hts _ (List.mem_of_getElem? (i := 20) rfl)) rfl hin rfl (by decide +kernel) rfl rfl (Nat.le_of_ble_eq_true rfl) dX6_init_40 (ws' := [(h0, .inr (9, [.ref a1, .ref a2, .ref a3, .ref a4, .ref a5, .ref q_1, .null, .long 0, .long 0, .int 0, .int 0, .int 0, .int 0, .int 0, .int 0, .int 0])), (q_1, .inr (6, [.ref a1, .ref q_3, .ref q_4, .int 0, .int 0, .int 0, .long 0, .long 0, .long 0])), (q_3, .inl (cI, 4, .inl (fun _ => 0))), (q_4, .inl (cI, 4, .inl (fun _ => 0)))]) rfl (fun H locs hw => ?_)
  refine lv_aload_n hx hb dX6_init_43 rfl (lv_at hl 0 rfl) ?_
  refine hk_new (ci := 12) (fs := [.null, .int 0]) (C := RX9) (T := TX9) (N := 2) hx hb hts iX9 tyX9 tyX9_ok hown (hts _ (List.mem_of_getElem? (i := 21) rfl)) (hts _ (List.mem_of_getElem? (i := 22) rfl)) (hts _ (List.mem_of_getElem? (i := 23) rfl)) hw hA rfl (fun j hj => by rcases (show j = 0 ∨ j = 1 by omega) with rfl | rfl <;> rfl) (Nat.le_of_ble_eq_true rfl) (Nat.le_of_ble_eq_true rfl) dX6_init_44 (fun q_5 H hw => ?_)
  have hw : hk_W D [(cI, .int), (cJ, .long)] _ s _ _ [(h0, .inr (9, [.ref a1, .ref a2, .ref a3, .ref a4, .ref a5, .ref q_1, .null, .long 0, .long 0, .int 0, .int 0, .int 0, .int 0, .int 0, .int 0, .int 0])), (q_1, .inr (6, [.ref a1, .ref q_3, .ref q_4, .int 0, .int 0, .int 0, .long 0, .long 0, .long 0])), (q_3, .inl (cI, 4, .inl (fun _ => 0))), (q_4, .inl (cI, 4, .inl (fun _ => 0))), (q_5, .inr (12, [.null, .int 0]))] := hw
  refine W.widen (k := 4) (n := 19) (by omega) (by omega) ?_
  refine lv_dup hx hb dX6_init_47 rfl ?_
  refine lv_sipush (v := 1024) hx hb dX6_init_48 (by decide) ?_
  refine hk_Iv (As := [.int 1024]) (rest := [.ref q_5, .ref h0]) (wc := [(q_5, .inr (12, [.null, .int 0]))]) (wr := [(h0, .inr (9, [.ref a1, .ref a2, .ref a3, .ref a4, .ref a5, .ref q_1, .null, .long 0, .long 0, .int 0, .int 0, .int 0, .int 0, .int 0, .int 0, .int 0])), (q_1, .inr (6, [.ref a1, .ref q_3, .ref q_4, .int 0, .int 0, .int 0, .long 0, .long 0, .long 0])), (q_3, .inl (cI, 4, .inl (fun _ => 0))), (q_4, .inl (cI, 4, .inl (fun _ => 0)))]) ⟨hx, hb, hml, hown, hts⟩ hw hA [4] [0, 1, 2, 3] rfl rfl (by decide) (by decide) (by decide) (cc_X9_1024 l D cI cJ _ q_5) (cwI 1 hts gw_cc_X6_1 rfl rfl rfl (hts _ (List.mem_of_getElem? (i := 23) rfl)) (hts _ (List.mem_of_getElem? (i := 27) rfl)) (hts _ (List.mem_of_getElem? (i := 28) rfl)) rfl (by decide +kernel) ⟨Nat.le_of_ble_eq_true rfl, Nat.le_of_ble_eq_true rfl⟩) rfl hl.1 rfl (Nat.le_of_ble_eq_true rfl) dX6_init_51 ⟨Nat.le_of_ble_eq_true rfl, Nat.le_of_ble_eq_true rfl⟩ (fun uu_6 H locs _ hw => ?_)
  obtain ⟨q_7, rfl⟩ : ∃ z, z = uu_6 := ⟨_, rfl⟩
  have hw : hk_W D [(cI, .int), (cJ, .long)] _ s _ _ [(h0, .inr (9, [.ref a1, .ref a2, .ref a3, .ref a4, .ref a5, .ref q_1, .null, .long 0, .long 0, .int 0, .int 0, .int 0, .int 0, .int 0, .int 0, .int 0])), (q_1, .inr (6, [.ref a1, .ref q_3, .ref q_4, .int 0, .int 0, .int 0, .long 0, .long 0, .long 0])), (q_3, .inl (cI, 4, .inl (fun _ => 0))), (q_4, .inl (cI, 4, .inl (fun _ => 0))), (q_5, .inr (12, [.ref q_7, .int 0])), (q_7, .inl (cI, 1024, .inl (fun _ => 0)))] := hw
  refine W.widen (k := 5) (n := 1043) (by omega) (by omega) ?_
  refine hk_putF (ci := 9) (C := RX6) (T := TX6) (N := 16) (ty := (.object "LzmaChains$Row")) (v := .ref q_5) hx hb hts iX6 tyX6 tyX6_ok nmX6 hown hw 0 rfl rfl 6 (by decide) (hts _ (List.mem_of_getElem? (i := 29) rfl)) rfl hin rfl (by decide +kernel) rfl rfl (Nat.le_of_ble_eq_true rfl) dX6_init_54 (ws' := [(h0, .inr (9, [.ref a1, .ref a2, .ref a3, .ref a4, .ref a5, .ref q_1, .ref q_5, .long 0, .long 0, .int 0, .int 0, .int 0, .int 0, .int 0, .int 0, .int 0])), (q_1, .inr (6, [.ref a1, .ref q_3, .ref q_4, .int 0, .int 0, .int 0, .long 0, .long 0, .long 0])), (q_3, .inl (cI, 4, .inl (fun _ => 0))), (q_4, .inl (cI, 4, .inl (fun _ => 0))), (q_5, .inr (12, [.ref q_7, .int 0])), (q_7, .inl (cI, 1024, .inl (fun _ => 0)))]) rfl (fun H locs hw => ?_)
  exact hk_vret (u := (q_1, q_3, q_4, q_5, q_7)) (w' := fun u : Nat × Nat × Nat × Nat × Nat => [(h0, .inr (9, [.ref a1, .ref a2, .ref a3, .ref a4, .ref a5, .ref u.1, .ref u.2.2.2.1, .long 0, .long 0, .int 0, .int 0, .int 0, .int 0, .int 0, .int 0, .int 0])), (u.1, .inr (6, [.ref a1, .ref u.2.1, .ref u.2.2.1, .int 0, .int 0, .int 0, .long 0, .long 0, .long 0])), (u.2.1, .inl (cI, 4, .inl (fun _ => 0))), (u.2.2.1, .inl (cI, 4, .inl (fun _ => 0))), (u.2.2.2.1, .inr (12, [.ref u.2.2.2.2, .int 0])), (u.2.2.2.2, .inl (cI, 1024, .inl (fun _ => 0)))]) hx hb hr hlocks hw trivial dX6_init_57
