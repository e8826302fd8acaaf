def ww_cx_clear : List Cond := Cond.code yX4_clear cX4_clear 1 none :: ([Cond.fieldLink RX4 18 "LzmaChains$Ledger" "steps" "I", Cond.fieldLink RX4 22 "LzmaChains$Ledger" "blocks" "I"] ++ (wsX40 ++ ([])))
set_option maxHeartbeats 4000000 in
set_option maxRecDepth 100000 in
/-- Ledger.clear -/
theorem cx_clear (l : Launch) (D : va_G) (cI cJ : ClassId) (ad : Nat → Nat) (g : Nat → Int32) (lg : Nat → Int64) (ar : Nat → Nat → Int32) (bk : Nat → Int64) (sz : Nat)  : Met l yX4_clear ww_cx_clear { frames := 0, cells := 0, slots := 0, locals := 0 } (va_Pc [.ref (ad 15)] (hk_B D [(cI, .int), (cJ, .long)] sz (xw cI cJ ad g lg ar bk))) (va_Qv (fun u : Unit => True) (fun u : Unit => hk_E D [(cI, .int), (cJ, .long)] (va_A (xw cI cJ ad g lg ar bk) sz) (xw cI cJ ad (upd (upd g 25 0) 26 0) lg ar bk)) (va_A (xw cI cJ ad g lg ar bk) sz)) 0 0 (va_A (xw cI cJ ad g lg ar bk) sz) := by
  refine hk_met (cc := cX4_clear) (maxL := 1) (ret := none) (by decide) rfl (Nat.le_of_ble_eq_true rfl) ?_
  intro p e s m below meth c ls hx hb hr hml hown hts hlocks hin hA hw hl
  have iX4 : ∀ w ∈ wsX40, w ∈ ww_cx_clear := fun _ h => List.mem_cons_of_mem _ (List.mem_append_right _ (List.mem_append_left _ h))
  have hl : lv_has ls 1 [(0, .ref (ad 15))] := hl
  refine lv_aload_n hx hb dX4_clear_0 rfl (lv_at hl 0 rfl) ?_
  refine lv_iconst (v := 0) hx hb dX4_clear_1 (by decide) ?_
  refine hk_put (ci := 7) (C := RX4) (T := TX4) (N := 4) (ty := .int) (v := .int 0) hx hb hts iX4 tyX4 tyX4_ok nmX4 hown hw 15 rfl rfl 2 (by decide) (hts _ (List.mem_of_getElem? (i := 1) rfl)) rfl (by decide +kernel) rfl rfl (Nat.le_of_ble_eq_true rfl) dX4_clear_2 (ws' := xw cI cJ ad (upd g 25 0) lg ar bk) rfl (fun H locs hw => ?_)
  refine lv_aload_n hx hb dX4_clear_5 rfl (lv_at hl 0 rfl) ?_
  refine lv_iconst (v := 0) hx hb dX4_clear_6 (by decide) ?_
  refine hk_put (ci := 7) (C := RX4) (T := TX4) (N := 4) (ty := .int) (v := .int 0) hx hb hts iX4 tyX4 tyX4_ok nmX4 hown hw 15 rfl rfl 3 (by decide) (hts _ (List.mem_of_getElem? (i := 2) rfl)) rfl (by decide +kernel) rfl rfl (Nat.le_of_ble_eq_true rfl) dX4_clear_7 (ws' := xw cI cJ ad (upd (upd g 25 0) 26 0) lg ar bk) rfl (fun H locs hw => ?_)
  exact hk_vret (u := ()) hx hb hr hlocks (hw) (trivial) dX4_clear_10

def ww_cx_use : List Cond := Cond.code yX5_use cX5_use 4 none :: ([Cond.fieldLink RX5 19 "LzmaChains$Model" "lc" "I", Cond.fieldLink RX5 23 "LzmaChains$Model" "lp" "I", Cond.fieldLink RX5 26 "LzmaChains$Model" "pb" "I"] ++ (wsX50 ++ ([])))
set_option maxHeartbeats 4000000 in
set_option maxRecDepth 100000 in
/-- Model.use -/
theorem cx_use (l : Launch) (D : va_G) (cI cJ : ClassId) (ad : Nat → Nat) (g : Nat → Int32) (lg : Nat → Int64) (ar : Nat → Nat → Int32) (bk : Nat → Int64) (sz : Nat) (a1 a2 a3 : Int32) : Met l yX5_use ww_cx_use { frames := 0, cells := 0, slots := 0, locals := 0 } (va_Pc [.ref (ad 9), .int a1, .int a2, .int a3] (hk_B D [(cI, .int), (cJ, .long)] sz (xw cI cJ ad g lg ar bk))) (va_Qv (fun u : Unit => True) (fun u : Unit => hk_E D [(cI, .int), (cJ, .long)] (va_A (xw cI cJ ad g lg ar bk) sz) (xw cI cJ ad (upd (upd (upd g 21 a1) 22 a2) 23 a3) lg ar bk)) (va_A (xw cI cJ ad g lg ar bk) sz)) 0 0 (va_A (xw cI cJ ad g lg ar bk) sz) := by
  refine hk_met (cc := cX5_use) (maxL := 4) (ret := none) (by decide) rfl (Nat.le_of_ble_eq_true rfl) ?_
  intro p e s m below meth c ls hx hb hr hml hown hts hlocks hin hA hw hl
  have iX5 : ∀ w ∈ wsX50, w ∈ ww_cx_use := fun _ h => List.mem_cons_of_mem _ (List.mem_append_right _ (List.mem_append_left _ h))
  have hl : lv_has ls 4 [(0, .ref (ad 9)), (1, .int a1), (2, .int a2), (3, .int a3)] := hl
  refine lv_aload_n hx hb dX5_use_0 rfl (lv_at hl 0 rfl) ?_
  refine lv_iload_n hx hb dX5_use_1 rfl (lv_at hl 1 rfl) ?_
  refine hk_put (ci := 8) (C := RX5) (T := TX5) (N := 6) (ty := .int) (v := .int a1) hx hb hts iX5 tyX5 tyX5_ok nmX5 hown hw 9 rfl rfl 2 (by decide) (hts _ (List.mem_of_getElem? (i := 1) rfl)) rfl (by decide +kernel) rfl rfl (Nat.le_of_ble_eq_true rfl) dX5_use_2 (ws' := xw cI cJ ad (upd g 21 a1) lg ar bk) rfl (fun H locs hw => ?_)
  refine lv_aload_n hx hb dX5_use_5 rfl (lv_at hl 0 rfl) ?_
  refine lv_iload_n hx hb dX5_use_6 rfl (lv_at hl 2 rfl) ?_
  refine hk_put (ci := 8) (C := RX5) (T := TX5) (N := 6) (ty := .int) (v := .int a2) hx hb hts iX5 tyX5 tyX5_ok nmX5 hown hw 9 rfl rfl 3 (by decide) (hts _ (List.mem_of_getElem? (i := 2) rfl)) rfl (by decide +kernel) rfl rfl (Nat.le_of_ble_eq_true rfl) dX5_use_7 (ws' := xw cI cJ ad (upd (upd g 21 a1) 22 a2) lg ar bk) rfl (fun H locs hw => ?_)
  refine lv_aload_n hx hb dX5_use_10 rfl (lv_at hl 0 rfl) ?_
  refine lv_iload_n hx hb dX5_use_11 rfl (lv_at hl 3 rfl) ?_
  refine hk_put (ci := 8) (C := RX5) (T := TX5) (N := 6) (ty := .int) (v := .int a3) hx hb hts iX5 tyX5 tyX5_ok nmX5 hown hw 9 rfl rfl 4 (by decide) (hts _ (List.mem_of_getElem? (i := 3) rfl)) rfl (by decide +kernel) rfl rfl (Nat.le_of_ble_eq_true rfl) dX5_use_12 (ws' := xw cI cJ ad (upd (upd (upd g 21 a1) 22 a2) 23 a3) lg ar bk) rfl (fun H locs hw => ?_)
  exact hk_vret (u := ()) hx hb hr hlocks (hw) (trivial) dX5_use_15

def ww_cx_fillB : List Cond := Cond.code yJ7_fill_d0a16 cJ7_fill_d0a16 5 none :: ([] ++ ([]))
set_option maxHeartbeats 4000000 in
set_option maxRecDepth 100000 in
/-- Arrays.fill(backs, x) -/
theorem cx_fillB (l : Launch) (D : va_G) (cI cJ : ClassId) (ad : Nat → Nat) (g : Nat → Int32) (lg : Nat → Int64) (ar : Nat → Nat → Int32) (bk : Nat → Int64) (sz : Nat) (x : Int64) : Met l yJ7_fill_d0a16 ww_cx_fillB { frames := 0, cells := 0, slots := 0, locals := 0 } (va_Pc [.ref (ad 10), .long x] (hk_B D [(cI, .int), (cJ, .long)] sz (xw cI cJ ad g lg ar bk))) (va_Qv (fun u : Nat → Int64 => True) (fun u : Nat → Int64 => hk_E D [(cI, .int), (cJ, .long)] (va_A (xw cI cJ ad g lg ar bk) sz) (xw cI cJ ad g lg ar u)) (va_A (xw cI cJ ad g lg ar bk) sz)) 0 0 (va_A (xw cI cJ ad g lg ar bk) sz) := by
  refine hk_met (cc := cJ7_fill_d0a16) (maxL := 5) (ret := none) (by decide) rfl (Nat.le_of_ble_eq_true rfl) ?_
  intro p e s m below meth c ls hx hb hr hml hown hts hlocks hin hA hw hl
  have hl : lv_has ls 5 [(0, .ref (ad 10)), (1, .long x)] := hl
  refine lv_iconst (v := 0) hx hb dJ7_fill_d0a16_0 (by decide) ?_
  refine lv_istore_n (lv' := [(3, .int 0), (0, .ref (ad 10)), (1, .long x)]) hx hb dJ7_fill_d0a16_1 rfl hl (by decide) rfl (fun ls hl => ?_)
  refine lv_aload_n hx hb dJ7_fill_d0a16_2 rfl (lv_at hl 1 rfl) ?_
  refine hk_alen (v := 4) hx hb hw 10 1 rfl rfl rfl dJ7_fill_d0a16_3 ?_
  refine lv_istore (lv' := [(4, .int 4), (3, .int 0), (0, .ref (ad 10)), (1, .long x)]) hx hb dJ7_fill_d0a16_4 hl (by decide) rfl (fun ls hl => ?_)
  have loop_2 : ∀ (ki i : Nat) (jj_1 : Nat → Int64) (ls : Array Slot) (H : Heap) (locs : List Loc), i + ki = 4 → hk_W D [(cI, .int), (cJ, .long)] (va_A (xw cI cJ ad g lg ar bk) sz) s H locs (xw cI cJ ad g lg ar jj_1) → lv_has ls 5 [(4, .int 4), (3, .int (nI i)), (0, .ref (ad 10)), (1, .long x)] → W p l e { frames := 0, cells := 0, slots := 0, locals := 0 } s m (List.toArray [.ref (ad 10), .long x]) below meth c H locs 0 0 (MQ below (va_Qv (fun u : Nat → Int64 => True) (fun u : Nat → Int64 => hk_E D [(cI, .int), (cJ, .long)] (va_A (xw cI cJ ad g lg ar bk) sz) (xw cI cJ ad g lg ar u)) (va_A (xw cI cJ ad g lg ar bk) sz)) (List.toArray [.ref (ad 10), .long x]) s 0 0 (va_A (xw cI cJ ad g lg ar bk) sz)) (F0 m 6 ls []) := by
    intro ki
    induction ki with
    | zero =>
      intro i jj_1 ls H locs hik  hw hl
      refine lv_iload_n hx hb dJ7_fill_d0a16_6 rfl (lv_at hl 1 rfl) ?_
      refine lv_iload hx hb dJ7_fill_d0a16_7 (lv_at hl 0 rfl) ?_
      refine lv_icmp_ge (tgt := 22) hx hb dJ7_fill_d0a16_9 (by decide) (fun _ => ?_) (fun cc_3 => absurd (hk_le (a := 4) (b := i) (by omega) (by omega)) cc_3)
      exact hk_vret (u := jj_1) hx hb hr hlocks (hw) (trivial) dJ7_fill_d0a16_22
    | succ ki ih =>
      intro i jj_1 ls H locs hik  hw hl
      refine lv_iload_n hx hb dJ7_fill_d0a16_6 rfl (lv_at hl 1 rfl) ?_
      refine lv_iload hx hb dJ7_fill_d0a16_7 (lv_at hl 0 rfl) ?_
      refine lv_icmp_ge (tgt := 22) hx hb dJ7_fill_d0a16_9 (by decide) (fun cc_4 => absurd cc_4 (hk_nle (a := i) (b := 4) (by omega) (by omega))) (fun _ => ?_)
      refine lv_aload_n hx hb dJ7_fill_d0a16_12 rfl (lv_at hl 2 rfl) ?_
      refine lv_iload_n hx hb dJ7_fill_d0a16_13 rfl (lv_at hl 1 rfl) ?_
      refine lv_lload_n hx hb dJ7_fill_d0a16_14 rfl (lv_at hl 3 rfl) ?_
      refine hk_last hx hb hw 10 1 rfl rfl (vp_in_nI (by omega) (by omega)) dJ7_fill_d0a16_15 (ws' := xw cI cJ ad g lg ar (vp_updL jj_1 ((nI i)).toNatClampNeg x)) rfl (fun H locs hw => ?_)
      refine lv_iinc (v := (nI (i + 1))) (lv' := [(3, .int (nI (i + 1))), (4, .int 4), (0, .ref (ad 10)), (1, .long x)]) hx hb dJ7_fill_d0a16_16 hl (k := 1) rfl ((nI_succ i).symm) (by decide) rfl (fun ls hl => ?_)
      refine lv_goto (tgt := 6) hx hb dJ7_fill_d0a16_19 (by decide) ?_
      exact ih (i + 1) (vp_updL jj_1 ((nI i)).toNatClampNeg x) ls _ _ (by omega)  hw (lv_sub hl [1, 0, 2, 3] rfl)
  exact loop_2 (4 - 0) 0 bk ls _ _ (by omega)  hw (lv_sub hl [0, 1, 2, 3] rfl)

def ww_cx_reset30 : List Cond := Cond.code yX5_reset cX5_reset 2 none :: ([Cond.fieldLink RX5 19 "LzmaChains$Model" "lc" "I", Cond.fieldLink RX5 23 "LzmaChains$Model" "lp" "I", Cond.fieldLink RX5 11 "LzmaChains$Model" "coder" "LLzmaChains$Coder;", Cond.fieldLink RX5 29 "LzmaChains$Coder" "chances" "[I", Cond.methodLink RX5 35 Lib.Math.min.name, Cond.static Lib.Math.min.name, Cond.initialized "java/lang/Math", Cond.code Lib.Math.min.name Lib.Math.min.code 2 (some .int), Cond.methodLink RX5 41 yJ7_fill_fda19, Cond.static yJ7_fill_fda19, Cond.initialized RJ7, Cond.code yJ7_fill_fda19 cJ7_fill_fda19 5 none, Cond.methodLink RJ7 13 yJ7_rangeCheck_23922, Cond.static yJ7_rangeCheck_23922, Cond.code yJ7_rangeCheck_23922 cJ7_rangeCheck_23922 3 none, Cond.fieldLink RX5 15 "LzmaChains$Model" "backs" "[J", Cond.methodLink RX5 47 yJ7_fill_d0a16, Cond.static yJ7_fill_d0a16, Cond.code yJ7_fill_d0a16 cJ7_fill_d0a16 5 none, Cond.fieldLink RX5 50 "LzmaChains$Model" "state" "I"] ++ (wsX50 ++ (wsX20 ++ ([]))))
set_option maxRecDepth 20000 in
theorem gw_cx_reset30_0 : GoodIn ww_cx_reset30 (va_wsS RX5 41 yJ7_fill_fda19 ww_cx_fillR) := goodIn_r _ [9, 10, 11, 12, 13, 14, 11, 15] rfl (by decide +kernel)
set_option maxRecDepth 20000 in
theorem gw_cx_reset30_1 : GoodIn ww_cx_reset30 (va_wsS RX5 47 yJ7_fill_d0a16 ww_cx_fillB) := goodIn_r _ [17, 18, 11, 19] rfl (by decide +kernel)
set_option maxHeartbeats 4000000 in
set_option maxRecDepth 100000 in
/-- Model.reset at lc 3, lp 0 -/
theorem cx_reset30 (l : Launch) (D : va_G) (cI cJ : ClassId) (ad : Nat → Nat) (g : Nat → Int32) (lg : Nat → Int64) (ar : Nat → Nat → Int32) (bk : Nat → Int64) (sz : Nat)  (h21 : g 21 = 3) (h22 : g 22 = 0) : Met l yX5_reset ww_cx_reset30 { frames := 2, cells := 0, slots := 0, locals := 46 } (va_Pc [.ref (ad 9)] (hk_B D [(cI, .int), (cJ, .long)] sz (xw cI cJ ad g lg ar bk))) (va_Qv (fun u : (Nat → Int32) × (Nat → Int64) => True) (fun u : (Nat → Int32) × (Nat → Int64) => hk_E D [(cI, .int), (cJ, .long)] (va_A (xw cI cJ ad g lg ar bk) sz) (xw cI cJ ad (upd g 24 0) lg (va_up ar 2 u.1) u.2)) (va_A (xw cI cJ ad g lg ar bk) sz)) 0 0 (va_A (xw cI cJ ad g lg ar bk) sz) := by
  refine hk_met (cc := cX5_reset) (maxL := 2) (ret := none) (by decide) rfl (Nat.le_of_ble_eq_true rfl) ?_
  intro p e s m below meth c ls hx hb hr hml hown hts hlocks hin hA hw hl
  have iX5 : ∀ w ∈ wsX50, w ∈ ww_cx_reset30 := fun _ h => List.mem_cons_of_mem _ (List.mem_append_right _ (List.mem_append_left _ h))
  have iX2 : ∀ w ∈ wsX20, w ∈ ww_cx_reset30 := fun _ h => List.mem_cons_of_mem _ (List.mem_append_right _ (List.mem_append_right _ (List.mem_append_left _ h)))
  have hl : lv_has ls 2 [(0, .ref (ad 9))] := hl
  refine lv_sipush (v := 2052) hx hb dX5_reset_0 (by decide) ?_
  refine lv_sipush (v := 768) hx hb dX5_reset_3 (by decide) ?_
  refine lv_aload_n hx hb dX5_reset_6 rfl (lv_at hl 0 rfl) ?_
  refine hk_get (ci := 8) (C := RX5) (T := TX5) (N := 6) (v := .int 3) hx hb hts iX5 hown hw 9 rfl rfl 2 (by decide) (hts _ (List.mem_of_getElem? (i := 1) rfl)) (congrArg (fun z => some (Value.int z)) h21) dX5_reset_7 ?_
  refine lv_aload_n hx hb dX5_reset_10 rfl (lv_at hl 0 rfl) ?_
  refine hk_get (ci := 8) (C := RX5) (T := TX5) (N := 6) (v := .int 0) hx hb hts iX5 hown hw 9 rfl rfl 3 (by decide) (hts _ (List.mem_of_getElem? (i := 2) rfl)) (congrArg (fun z => some (Value.int z)) h22) dX5_reset_11 ?_
  refine lv_iadd hx hb dX5_reset_14 ?_
  refine hk_topi 3 (by decide +kernel) ?_
  refine lv_ishl hx hb dX5_reset_15 ?_
  refine hk_topi 6144 (by decide +kernel) ?_
  refine lv_iadd hx hb dX5_reset_16 ?_
  refine hk_topi 8196 (by decide +kernel) ?_
  refine lv_istore_n (lv' := [(1, .int 8196), (0, .ref (ad 9))]) hx hb dX5_reset_17 rfl hl (by decide) rfl (fun ls hl => ?_)
  refine lv_aload_n hx hb dX5_reset_18 rfl (lv_at hl 1 rfl) ?_
  refine hk_get (ci := 8) (C := RX5) (T := TX5) (N := 6) (v := .ref (ad 7)) hx hb hts iX5 hown hw 9 rfl rfl 0 (by decide) (hts _ (List.mem_of_getElem? (i := 3) rfl)) rfl dX5_reset_19 ?_
  refine hk_get (ci := 5) (C := RX2) (T := TX2) (N := 9) (v := .ref (ad 8)) hx hb hts iX2 hown hw 7 rfl rfl 0 (by decide) (hts _ (List.mem_of_getElem? (i := 4) rfl)) rfl dX5_reset_22 ?_
  refine lv_iconst (v := 0) hx hb dX5_reset_25 (by decide) ?_
  refine lv_iload_n hx hb dX5_reset_26 rfl (lv_at hl 0 rfl) ?_
  refine lv_sipush (v := 14340) hx hb dX5_reset_27 (by decide) ?_
  refine va_mmin hx hb (by rw [hml]; exact hl.1.symm) hown (hts _ (List.mem_of_getElem? (i := 5) rfl)) (hts _ (List.mem_of_getElem? (i := 6) rfl)) (hts _ (List.mem_of_getElem? (i := 7) rfl)) (hts _ (List.mem_of_getElem? (i := 8) rfl)) (Nat.le_of_ble_eq_true rfl) (Nat.le_of_ble_eq_true rfl) (Nat.le_of_ble_eq_true rfl) (Nat.le_of_ble_eq_true rfl) dX5_reset_30 ?_
  refine hk_topi 8196 (by decide +kernel) ?_
  refine lv_sipush (v := 1024) hx hb dX5_reset_33 (by decide) ?_
  refine hk_Sv (As := [.ref (ad 8), .int 0, .int 8196, .int 1024]) (rest := []) ⟨hx, hb, hml, hown, hts⟩ hw hA (cx_fillR l D cI cJ ad g lg ar bk _ 8196 (by decide) 1024) (va_cwS 4 hts gw_cx_reset30_0 rfl rfl rfl (by decide +kernel) ⟨Nat.le_of_ble_eq_true rfl, Nat.le_of_ble_eq_true rfl⟩) rfl hl.1 rfl (Nat.le_of_ble_eq_true rfl) dX5_reset_36 ⟨Nat.le_of_ble_eq_true rfl, Nat.le_of_ble_eq_true rfl⟩ (fun uu_2 H locs hp_3 hw => ?_)
  have hw : hk_W D [(cI, .int), (cJ, .long)] _ s _ _ (xw cI cJ ad g lg (va_up ar 2 uu_2) bk) := hw
  refine lv_aload_n hx hb dX5_reset_39 rfl (lv_at hl 1 rfl) ?_
  refine hk_get (ci := 8) (C := RX5) (T := TX5) (N := 6) (v := .ref (ad 10)) hx hb hts iX5 hown hw 9 rfl rfl 1 (by decide) (hts _ (List.mem_of_getElem? (i := 16) rfl)) rfl dX5_reset_40 ?_
  refine lv_lconst (v := 1) hx hb dX5_reset_43 (by decide) ?_
  refine hk_Sv (As := [.ref (ad 10), .long 1]) (rest := []) ⟨hx, hb, hml, hown, hts⟩ hw hA (cx_fillB l D cI cJ ad g lg (va_up ar 2 uu_2) bk _ 1) (va_cwS 2 hts gw_cx_reset30_1 rfl rfl rfl (by decide +kernel) ⟨Nat.le_of_ble_eq_true rfl, Nat.le_of_ble_eq_true rfl⟩) rfl hl.1 rfl (Nat.le_of_ble_eq_true rfl) dX5_reset_44 ⟨Nat.le_of_ble_eq_true rfl, Nat.le_of_ble_eq_true rfl⟩ (fun uu_5 H locs hp_6 hw => ?_)
  have hw : hk_W D [(cI, .int), (cJ, .long)] _ s _ _ (xw cI cJ ad g lg (va_up ar 2 uu_2) uu_5) := hw
  refine lv_aload_n hx hb dX5_reset_47 rfl (lv_at hl 1 rfl) ?_
  refine lv_iconst (v := 0) hx hb dX5_reset_48 (by decide) ?_
  refine hk_put (ci := 8) (C := RX5) (T := TX5) (N := 6) (ty := .int) (v := .int 0) hx hb hts iX5 tyX5 tyX5_ok nmX5 hown hw 9 rfl rfl 5 (by decide) (hts _ (List.mem_of_getElem? (i := 20) rfl)) rfl (by decide +kernel) rfl rfl (Nat.le_of_ble_eq_true rfl) dX5_reset_49 (ws' := xw cI cJ ad (upd g 24 0) lg (va_up ar 2 uu_2) uu_5) rfl (fun H locs hw => ?_)
  exact hk_vret (u := (uu_2, uu_5)) hx hb hr hlocks (show hk_W D [(cI, .int), (cJ, .long)] _ s _ _ (xw cI cJ ad (upd g 24 0) lg (va_up ar 2 ((uu_2, uu_5).1)) ((uu_2, uu_5).2)) from hw) (trivial) dX5_reset_52

def ww_cx_reset00 : List Cond := Cond.code yX5_reset cX5_reset 2 none :: ([Cond.fieldLink RX5 19 "LzmaChains$Model" "lc" "I", Cond.fieldLink RX5 23 "LzmaChains$Model" "lp" "I", Cond.fieldLink RX5 11 "LzmaChains$Model" "coder" "LLzmaChains$Coder;", Cond.fieldLink RX5 29 "LzmaChains$Coder" "chances" "[I", Cond.methodLink RX5 35 Lib.Math.min.name, Cond.static Lib.Math.min.name, Cond.initialized "java/lang/Math", Cond.code Lib.Math.min.name Lib.Math.min.code 2 (some .int), Cond.methodLink RX5 41 yJ7_fill_fda19, Cond.static yJ7_fill_fda19, Cond.initialized RJ7, Cond.code yJ7_fill_fda19 cJ7_fill_fda19 5 none, Cond.methodLink RJ7 13 yJ7_rangeCheck_23922, Cond.static yJ7_rangeCheck_23922, Cond.code yJ7_rangeCheck_23922 cJ7_rangeCheck_23922 3 none, Cond.fieldLink RX5 15 "LzmaChains$Model" "backs" "[J", Cond.methodLink RX5 47 yJ7_fill_d0a16, Cond.static yJ7_fill_d0a16, Cond.code yJ7_fill_d0a16 cJ7_fill_d0a16 5 none, Cond.fieldLink RX5 50 "LzmaChains$Model" "state" "I"] ++ (wsX50 ++ (wsX20 ++ ([]))))
set_option maxRecDepth 20000 in
theorem gw_cx_reset00_0 : GoodIn ww_cx_reset00 (va_wsS RX5 41 yJ7_fill_fda19 ww_cx_fillR) := goodIn_r _ [9, 10, 11, 12, 13, 14, 11, 15] rfl (by decide +kernel)
set_option maxRecDepth 20000 in
theorem gw_cx_reset00_1 : GoodIn ww_cx_reset00 (va_wsS RX5 47 yJ7_fill_d0a16 ww_cx_fillB) := goodIn_r _ [17, 18, 11, 19] rfl (by decide +kernel)
set_option maxHeartbeats 4000000 in
set_option maxRecDepth 100000 in
/-- Model.reset at lc 0, lp 0 -/
theorem cx_reset00 (l : Launch) (D : va_G) (cI cJ : ClassId) (ad : Nat → Nat) (g : Nat → Int32) (lg : Nat → Int64) (ar : Nat → Nat → Int32) (bk : Nat → Int64) (sz : Nat)  (h21 : g 21 = 0) (h22 : g 22 = 0) : Met l yX5_reset ww_cx_reset00 { frames := 2, cells := 0, slots := 0, locals := 46 } (va_Pc [.ref (ad 9)] (hk_B D [(cI, .int), (cJ, .long)] sz (xw cI cJ ad g lg ar bk))) (va_Qv (fun u : (Nat → Int32) × (Nat → Int64) => True) (fun u : (Nat → Int32) × (Nat → Int64) => hk_E D [(cI, .int), (cJ, .long)] (va_A (xw cI cJ ad g lg ar bk) sz) (xw cI cJ ad (upd g 24 0) lg (va_up ar 2 u.1) u.2)) (va_A (xw cI cJ ad g lg ar bk) sz)) 0 0 (va_A (xw cI cJ ad g lg ar bk) sz) := by
  refine hk_met (cc := cX5_reset) (maxL := 2) (ret := none) (by decide) rfl (Nat.le_of_ble_eq_true rfl) ?_
  intro p e s m below meth c ls hx hb hr hml hown hts hlocks hin hA hw hl
  have iX5 : ∀ w ∈ wsX50, w ∈ ww_cx_reset00 := fun _ h => List.mem_cons_of_mem _ (List.mem_append_right _ (List.mem_append_left _ h))
  have iX2 : ∀ w ∈ wsX20, w ∈ ww_cx_reset00 := fun _ h => List.mem_cons_of_mem _ (List.mem_append_right _ (List.mem_append_right _ (List.mem_append_left _ h)))
  have hl : lv_has ls 2 [(0, .ref (ad 9))] := hl
  refine lv_sipush (v := 2052) hx hb dX5_reset_0 (by decide) ?_
  refine lv_sipush (v := 768) hx hb dX5_reset_3 (by decide) ?_
  refine lv_aload_n hx hb dX5_reset_6 rfl (lv_at hl 0 rfl) ?_
  refine hk_get (ci := 8) (C := RX5) (T := TX5) (N := 6) (v := .int 0) hx hb hts iX5 hown hw 9 rfl rfl 2 (by decide) (hts _ (List.mem_of_getElem? (i := 1) rfl)) (congrArg (fun z => some (Value.int z)) h21) dX5_reset_7 ?_
  refine lv_aload_n hx hb dX5_reset_10 rfl (lv_at hl 0 rfl) ?_
  refine hk_get (ci := 8) (C := RX5) (T := TX5) (N := 6) (v := .int 0) hx hb hts iX5 hown hw 9 rfl rfl 3 (by decide) (hts _ (List.mem_of_getElem? (i := 2) rfl)) (congrArg (fun z => some (Value.int z)) h22) dX5_reset_11 ?_
  refine lv_iadd hx hb dX5_reset_14 ?_
  refine hk_topi 0 (by decide +kernel) ?_
  refine lv_ishl hx hb dX5_reset_15 ?_
  refine hk_topi 768 (by decide +kernel) ?_
  refine lv_iadd hx hb dX5_reset_16 ?_
  refine hk_topi 2820 (by decide +kernel) ?_
  refine lv_istore_n (lv' := [(1, .int 2820), (0, .ref (ad 9))]) hx hb dX5_reset_17 rfl hl (by decide) rfl (fun ls hl => ?_)
  refine lv_aload_n hx hb dX5_reset_18 rfl (lv_at hl 1 rfl) ?_
  refine hk_get (ci := 8) (C := RX5) (T := TX5) (N := 6) (v := .ref (ad 7)) hx hb hts iX5 hown hw 9 rfl rfl 0 (by decide) (hts _ (List.mem_of_getElem? (i := 3) rfl)) rfl dX5_reset_19 ?_
  refine hk_get (ci := 5) (C := RX2) (T := TX2) (N := 9) (v := .ref (ad 8)) hx hb hts iX2 hown hw 7 rfl rfl 0 (by decide) (hts _ (List.mem_of_getElem? (i := 4) rfl)) rfl dX5_reset_22 ?_
  refine lv_iconst (v := 0) hx hb dX5_reset_25 (by decide) ?_
  refine lv_iload_n hx hb dX5_reset_26 rfl (lv_at hl 0 rfl) ?_
  refine lv_sipush (v := 14340) hx hb dX5_reset_27 (by decide) ?_
  refine va_mmin hx hb (by rw [hml]; exact hl.1.symm) hown (hts _ (List.mem_of_getElem? (i := 5) rfl)) (hts _ (List.mem_of_getElem? (i := 6) rfl)) (hts _ (List.mem_of_getElem? (i := 7) rfl)) (hts _ (List.mem_of_getElem? (i := 8) rfl)) (Nat.le_of_ble_eq_true rfl) (Nat.le_of_ble_eq_true rfl) (Nat.le_of_ble_eq_true rfl) (Nat.le_of_ble_eq_true rfl) dX5_reset_30 ?_
  refine hk_topi 2820 (by decide +kernel) ?_
  refine lv_sipush (v := 1024) hx hb dX5_reset_33 (by decide) ?_
  refine hk_Sv (As := [.ref (ad 8), .int 0, .int 2820, .int 1024]) (rest := []) ⟨hx, hb, hml, hown, hts⟩ hw hA (cx_fillR l D cI cJ ad g lg ar bk _ 2820 (by decide) 1024) (va_cwS 4 hts gw_cx_reset00_0 rfl rfl rfl (by decide +kernel) ⟨Nat.le_of_ble_eq_true rfl, Nat.le_of_ble_eq_true rfl⟩) rfl hl.1 rfl (Nat.le_of_ble_eq_true rfl) dX5_reset_36 ⟨Nat.le_of_ble_eq_true rfl, Nat.le_of_ble_eq_true rfl⟩ (fun uu_2 H locs hp_3 hw => ?_)
  have hw : hk_W D [(cI, .int), (cJ, .long)] _ s _ _ (xw cI cJ ad g lg (va_up ar 2 uu_2) bk) := hw
  refine lv_aload_n hx hb dX5_reset_39 rfl (lv_at hl 1 rfl) ?_
  refine hk_get (ci := 8) (C := RX5) (T := TX5) (N := 6) (v := .ref (ad 10)) hx hb hts iX5 hown hw 9 rfl rfl 1 (by decide) (hts _ (List.mem_of_getElem? (i := 16) rfl)) rfl dX5_reset_40 ?_
  refine lv_lconst (v := 1) hx hb dX5_reset_43 (by decide) ?_
  refine hk_Sv (As := [.ref (ad 10), .long 1]) (rest := []) ⟨hx, hb, hml, hown, hts⟩ hw hA (cx_fillB l D cI cJ ad g lg (va_up ar 2 uu_2) bk _ 1) (va_cwS 2 hts gw_cx_reset00_1 rfl rfl rfl (by decide +kernel) ⟨Nat.le_of_ble_eq_true rfl, Nat.le_of_ble_eq_true rfl⟩) rfl hl.1 rfl (Nat.le_of_ble_eq_true rfl) dX5_reset_44 ⟨Nat.le_of_ble_eq_true rfl, Nat.le_of_ble_eq_true rfl⟩ (fun uu_5 H locs hp_6 hw => ?_)
  have hw : hk_W D [(cI, .int), (cJ, .long)] _ s _ _ (xw cI cJ ad g lg (va_up ar 2 uu_2) uu_5) := hw
  refine lv_aload_n hx hb dX5_reset_47 rfl (lv_at hl 1 rfl) ?_
  refine lv_iconst (v := 0) hx hb dX5_reset_48 (by decide) ?_
  refine hk_put (ci := 8) (C := RX5) (T := TX5) (N := 6) (ty := .int) (v := .int 0) hx hb hts iX5 tyX5 tyX5_ok nmX5 hown hw 9 rfl rfl 5 (by decide) (hts _ (List.mem_of_getElem? (i := 20) rfl)) rfl (by decide +kernel) rfl rfl (Nat.le_of_ble_eq_true rfl) dX5_reset_49 (ws' := xw cI cJ ad (upd g 24 0) lg (va_up ar 2 uu_2) uu_5) rfl (fun H locs hw => ?_)
  exact hk_vret (u := (uu_2, uu_5)) hx hb hr hlocks (show hk_W D [(cI, .int), (cJ, .long)] _ s _ _ (xw cI cJ ad (upd g 24 0) lg (va_up ar 2 ((uu_2, uu_5).1)) ((uu_2, uu_5).2)) from hw) (trivial) dX5_reset_52

def ww_cx_pbegin : List Cond := Cond.code yX7_begin cX7_begin 2 none :: ([Cond.fieldLink RX7 43 "LzmaChains$Packer" "level" "I", Cond.fieldLink RX7 19 "LzmaChains$Packer" "output" "LLzmaChains$Row;", Cond.fieldLink RX7 47 "LzmaChains$Row" "size" "I", Cond.fieldLink RX7 30 "LzmaChains$Packer" "ledger" "LLzmaChains$Ledger;", Cond.methodLink RX7 52 yX4_clear, Cond.instanceMethod yX4_clear, Cond.selects RX4 yX4_clear yX4_clear, Cond.initialized RX4, Cond.code yX4_clear cX4_clear 1 none, Cond.fieldLink RX4 18 "LzmaChains$Ledger" "steps" "I", Cond.fieldLink RX4 22 "LzmaChains$Ledger" "blocks" "I", Cond.fieldLink RX7 22 "LzmaChains$Packer" "model" "LLzmaChains$Model;", Cond.fieldLink RX7 9 "LzmaChains$Packer" "settings" "LLzmaChains$Settings;", Cond.fieldLink RX7 57 "LzmaChains$Settings" "lc" "I", Cond.fieldLink RX7 62 "LzmaChains$Settings" "lp" "I", Cond.fieldLink RX7 65 "LzmaChains$Settings" "pb" "I", Cond.methodLink RX7 68 yX5_use, Cond.instanceMethod yX5_use, Cond.selects RX5 yX5_use yX5_use, Cond.initialized RX5, Cond.code yX5_use cX5_use 4 none, Cond.fieldLink RX5 19 "LzmaChains$Model" "lc" "I", Cond.fieldLink RX5 23 "LzmaChains$Model" "lp" "I", Cond.fieldLink RX5 26 "LzmaChains$Model" "pb" "I", Cond.methodLink RX7 74 yX5_reset, Cond.instanceMethod yX5_reset, Cond.selects RX5 yX5_reset yX5_reset, Cond.code yX5_reset cX5_reset 2 none, Cond.fieldLink RX5 11 "LzmaChains$Model" "coder" "LLzmaChains$Coder;", Cond.fieldLink RX5 29 "LzmaChains$Coder" "chances" "[I", Cond.methodLink RX5 35 Lib.Math.min.name, Cond.static Lib.Math.min.name, Cond.initialized "java/lang/Math", Cond.code Lib.Math.min.name Lib.Math.min.code 2 (some .int), Cond.methodLink RX5 41 yJ7_fill_fda19, Cond.static yJ7_fill_fda19, Cond.initialized RJ7, Cond.code yJ7_fill_fda19 cJ7_fill_fda19 5 none, Cond.methodLink RJ7 13 yJ7_rangeCheck_23922, Cond.static yJ7_rangeCheck_23922, Cond.code yJ7_rangeCheck_23922 cJ7_rangeCheck_23922 3 none, Cond.fieldLink RX5 15 "LzmaChains$Model" "backs" "[J", Cond.methodLink RX5 47 yJ7_fill_d0a16, Cond.static yJ7_fill_d0a16, Cond.code yJ7_fill_d0a16 cJ7_fill_d0a16 5 none, Cond.fieldLink RX5 50 "LzmaChains$Model" "state" "I"] ++ (wsX70 ++ (wsX90 ++ (wsX40 ++ (wsX100 ++ (wsX50 ++ (wsX20 ++ ([]))))))))
set_option maxRecDepth 20000 in
theorem gw_cx_pbegin_0 : GoodIn ww_cx_pbegin (wsV RX7 52 RX4 yX4_clear ww_cx_clear) := goodIn_r _ [5, 6, 7, 8, 9, 10, 11, 66, 67, 68, 69] rfl (by decide +kernel)
set_option maxRecDepth 20000 in
theorem gw_cx_pbegin_1 : GoodIn ww_cx_pbegin (wsV RX7 68 RX5 yX5_use ww_cx_use) := goodIn_r _ [17, 18, 19, 20, 21, 22, 23, 24, 80, 81, 82, 83, 84, 85] rfl (by decide +kernel)
set_option maxRecDepth 20000 in
theorem gw_cx_pbegin_2 : GoodIn ww_cx_pbegin (wsV RX7 74 RX5 yX5_reset ww_cx_reset30) := goodIn_r _ [25, 26, 27, 20, 28, 22, 23, 29, 30, 31, 32, 33, 34, 35, 36, 37, 38, 39, 40, 41, 42, 43, 44, 45, 46, 80, 81, 82, 83, 84, 85, 86, 87, 88, 89, 90, 91, 92, 93, 94] rfl (by decide +kernel)
set_option maxHeartbeats 4000000 in
set_option maxRecDepth 100000 in
/-- Packer.begin -/
theorem cx_pbegin (l : Launch) (D : va_G) (cI cJ : ClassId) (ad : Nat → Nat) (g : Nat → Int32) (lg : Nat → Int64) (ar : Nat → Nat → Int32) (bk : Nat → Int64) (sz : Nat) (lv : Int32) (h3 : g 3 = 3) (h4 : g 4 = 0) (h5 : g 5 = 2) : Met l yX7_begin ww_cx_pbegin { frames := 3, cells := 0, slots := 0, locals := 67 } (va_Pc [.ref (ad 18), .int lv] (hk_B D [(cI, .int), (cJ, .long)] sz (xw cI cJ ad g lg ar bk))) (va_Qv (fun u : (Nat → Int32) × (Nat → Int64) => True) (fun u : (Nat → Int32) × (Nat → Int64) => hk_E D [(cI, .int), (cJ, .long)] (va_A (xw cI cJ ad g lg ar bk) sz) (xw cI cJ ad (upd (upd (upd (upd (upd (upd (upd (upd g 27 lv) 14 0) 25 0) 26 0) 21 3) 22 0) 23 2) 24 0) lg (va_up ar 2 u.1) u.2)) (va_A (xw cI cJ ad g lg ar bk) sz)) 0 0 (va_A (xw cI cJ ad g lg ar bk) sz) := by
  refine hk_met (cc := cX7_begin) (maxL := 2) (ret := none) (by decide) rfl (Nat.le_of_ble_eq_true rfl) ?_
  intro p e s m below meth c ls hx hb hr hml hown hts hlocks hin hA hw hl
  have iX7 : ∀ w ∈ wsX70, w ∈ ww_cx_pbegin := fun _ h => List.mem_cons_of_mem _ (List.mem_append_right _ (List.mem_append_left _ h))
  have iX9 : ∀ w ∈ wsX90, w ∈ ww_cx_pbegin := fun _ h => List.mem_cons_of_mem _ (List.mem_append_right _ (List.mem_append_right _ (List.mem_append_left _ h)))
  have iX4 : ∀ w ∈ wsX40, w ∈ ww_cx_pbegin := fun _ h => List.mem_cons_of_mem _ (List.mem_append_right _ (List.mem_append_right _ (List.mem_append_right _ (List.mem_append_left _ h))))
  have iX10 : ∀ w ∈ wsX100, w ∈ ww_cx_pbegin := fun _ h => List.mem_cons_of_mem _ (List.mem_append_right _ (List.mem_append_right _ (List.mem_append_right _ (List.mem_append_right _ (List.mem_append_left _ h)))))
  have iX5 : ∀ w ∈ wsX50, w ∈ ww_cx_pbegin := fun _ h => List.mem_cons_of_mem _ (List.mem_append_right _ (List.mem_append_right _ (List.mem_append_right _ (List.mem_append_right _ (List.mem_append_right _ (List.mem_append_left _ h))))))
  have iX2 : ∀ w ∈ wsX20, w ∈ ww_cx_pbegin := fun _ h => List.mem_cons_of_mem _ (List.mem_append_right _ (List.mem_append_right _ (List.mem_append_right _ (List.mem_append_right _ (List.mem_append_right _ (List.mem_append_right _ (List.mem_append_left _ h)))))))
  have hl : lv_has ls 2 [(0, .ref (ad 18)), (1, .int lv)] := hl
  refine lv_aload_n hx hb dX7_begin_0 rfl (lv_at hl 0 rfl) ?_
  refine lv_iload_n hx hb dX7_begin_1 rfl (lv_at hl 1 rfl) ?_
  refine hk_put (ci := 10) (C := RX7) (T := TX7) (N := 17) (ty := .int) (v := .int lv) hx hb hts iX7 tyX7 tyX7_ok nmX7 hown hw 18 rfl rfl 7 (by decide) (hts _ (List.mem_of_getElem? (i := 1) rfl)) rfl (by decide +kernel) rfl rfl (Nat.le_of_ble_eq_true rfl) dX7_begin_2 (ws' := xw cI cJ ad (upd g 27 lv) lg ar bk) rfl (fun H locs hw => ?_)
  refine lv_aload_n hx hb dX7_begin_5 rfl (lv_at hl 0 rfl) ?_
  refine hk_get (ci := 10) (C := RX7) (T := TX7) (N := 17) (v := .ref (ad 4)) hx hb hts iX7 hown hw 18 rfl rfl 2 (by decide) (hts _ (List.mem_of_getElem? (i := 2) rfl)) rfl dX7_begin_6 ?_
  refine lv_iconst (v := 0) hx hb dX7_begin_9 (by decide) ?_
  refine hk_put (ci := 12) (C := RX9) (T := TX9) (N := 2) (ty := .int) (v := .int 0) hx hb hts iX9 tyX9 tyX9_ok nmX9 hown hw 4 rfl rfl 1 (by decide) (hts _ (List.mem_of_getElem? (i := 3) rfl)) rfl (by decide +kernel) rfl rfl (Nat.le_of_ble_eq_true rfl) dX7_begin_10 (ws' := xw cI cJ ad (upd (upd g 27 lv) 14 0) lg ar bk) rfl (fun H locs hw => ?_)
  refine lv_aload_n hx hb dX7_begin_13 rfl (lv_at hl 0 rfl) ?_
  refine hk_get (ci := 10) (C := RX7) (T := TX7) (N := 17) (v := .ref (ad 15)) hx hb hts iX7 hown hw 18 rfl rfl 5 (by decide) (hts _ (List.mem_of_getElem? (i := 4) rfl)) rfl dX7_begin_14 ?_
  refine hk_Vv (As := []) (rest := []) ⟨hx, hb, hml, hown, hts⟩ hw hA (cx_clear l D cI cJ ad (upd (upd g 27 lv) 14 0) lg ar bk _) (cwV 0 hts gw_cx_pbegin_0 rfl rfl rfl (by decide +kernel) ⟨Nat.le_of_ble_eq_true rfl, Nat.le_of_ble_eq_true rfl⟩) 15 (ci := 7) (T := TX4) (N := 4) rfl rfl rfl hl.1 rfl (Nat.le_of_ble_eq_true rfl) dX7_begin_17 ⟨Nat.le_of_ble_eq_true rfl, Nat.le_of_ble_eq_true rfl⟩ (fun uu_2 H locs hp_3 hw => ?_)
  have hw : hk_W D [(cI, .int), (cJ, .long)] _ s _ _ (xw cI cJ ad (upd (upd (upd (upd g 27 lv) 14 0) 25 0) 26 0) lg ar bk) := hw
  refine lv_aload_n hx hb dX7_begin_20 rfl (lv_at hl 0 rfl) ?_
  refine hk_get (ci := 10) (C := RX7) (T := TX7) (N := 17) (v := .ref (ad 9)) hx hb hts iX7 hown hw 18 rfl rfl 3 (by decide) (hts _ (List.mem_of_getElem? (i := 12) rfl)) rfl dX7_begin_21 ?_
  refine lv_aload_n hx hb dX7_begin_24 rfl (lv_at hl 0 rfl) ?_
  refine hk_get (ci := 10) (C := RX7) (T := TX7) (N := 17) (v := .ref (ad 1)) hx hb hts iX7 hown hw 18 rfl rfl 0 (by decide) (hts _ (List.mem_of_getElem? (i := 13) rfl)) rfl dX7_begin_25 ?_
  refine hk_get (ci := 13) (C := RX10) (T := TX10) (N := 10) (v := .int 3) hx hb hts iX10 hown hw 1 rfl rfl 0 (by decide) (hts _ (List.mem_of_getElem? (i := 14) rfl)) (congrArg (fun z => some (Value.int z)) h3) dX7_begin_28 ?_
  refine lv_aload_n hx hb dX7_begin_31 rfl (lv_at hl 0 rfl) ?_
  refine hk_get (ci := 10) (C := RX7) (T := TX7) (N := 17) (v := .ref (ad 1)) hx hb hts iX7 hown hw 18 rfl rfl 0 (by decide) (hts _ (List.mem_of_getElem? (i := 13) rfl)) rfl dX7_begin_32 ?_
  refine hk_get (ci := 13) (C := RX10) (T := TX10) (N := 10) (v := .int 0) hx hb hts iX10 hown hw 1 rfl rfl 1 (by decide) (hts _ (List.mem_of_getElem? (i := 15) rfl)) (congrArg (fun z => some (Value.int z)) h4) dX7_begin_35 ?_
  refine lv_aload_n hx hb dX7_begin_38 rfl (lv_at hl 0 rfl) ?_
  refine hk_get (ci := 10) (C := RX7) (T := TX7) (N := 17) (v := .ref (ad 1)) hx hb hts iX7 hown hw 18 rfl rfl 0 (by decide) (hts _ (List.mem_of_getElem? (i := 13) rfl)) rfl dX7_begin_39 ?_
  refine hk_get (ci := 13) (C := RX10) (T := TX10) (N := 10) (v := .int 2) hx hb hts iX10 hown hw 1 rfl rfl 2 (by decide) (hts _ (List.mem_of_getElem? (i := 16) rfl)) (congrArg (fun z => some (Value.int z)) h5) dX7_begin_42 ?_
  refine hk_Vv (As := [.int 3, .int 0, .int 2]) (rest := []) ⟨hx, hb, hml, hown, hts⟩ hw hA (cx_use l D cI cJ ad (upd (upd (upd (upd g 27 lv) 14 0) 25 0) 26 0) lg ar bk _ 3 0 2) (cwV 3 hts gw_cx_pbegin_1 rfl rfl rfl (by decide +kernel) ⟨Nat.le_of_ble_eq_true rfl, Nat.le_of_ble_eq_true rfl⟩) 9 (ci := 8) (T := TX5) (N := 6) rfl rfl rfl hl.1 rfl (Nat.le_of_ble_eq_true rfl) dX7_begin_45 ⟨Nat.le_of_ble_eq_true rfl, Nat.le_of_ble_eq_true rfl⟩ (fun uu_5 H locs hp_6 hw => ?_)
  have hw : hk_W D [(cI, .int), (cJ, .long)] _ s _ _ (xw cI cJ ad (upd (upd (upd (upd (upd (upd (upd g 27 lv) 14 0) 25 0) 26 0) 21 3) 22 0) 23 2) lg ar bk) := hw
  refine lv_aload_n hx hb dX7_begin_48 rfl (lv_at hl 0 rfl) ?_
  refine hk_get (ci := 10) (C := RX7) (T := TX7) (N := 17) (v := .ref (ad 9)) hx hb hts iX7 hown hw 18 rfl rfl 3 (by decide) (hts _ (List.mem_of_getElem? (i := 12) rfl)) rfl dX7_begin_49 ?_
  refine hk_Vv (As := []) (rest := []) ⟨hx, hb, hml, hown, hts⟩ hw hA (cx_reset30 l D cI cJ ad (upd (upd (upd (upd (upd (upd (upd g 27 lv) 14 0) 25 0) 26 0) 21 3) 22 0) 23 2) lg ar bk _ rfl rfl) (cwV 0 hts gw_cx_pbegin_2 rfl rfl rfl (by decide +kernel) ⟨Nat.le_of_ble_eq_true rfl, Nat.le_of_ble_eq_true rfl⟩) 9 (ci := 8) (T := TX5) (N := 6) rfl rfl rfl hl.1 rfl (Nat.le_of_ble_eq_true rfl) dX7_begin_52 ⟨Nat.le_of_ble_eq_true rfl, Nat.le_of_ble_eq_true rfl⟩ (fun uu_8 H locs hp_9 hw => ?_)
  have hw : hk_W D [(cI, .int), (cJ, .long)] _ s _ _ (xw cI cJ ad (upd (upd (upd (upd (upd (upd (upd (upd g 27 lv) 14 0) 25 0) 26 0) 21 3) 22 0) 23 2) 24 0) lg (va_up ar 2 uu_8.1) uu_8.2) := hw
  exact hk_vret (u := (uu_8.1, uu_8.2)) hx hb hr hlocks (show hk_W D [(cI, .int), (cJ, .long)] _ s _ _ (xw cI cJ ad (upd (upd (upd (upd (upd (upd (upd (upd g 27 lv) 14 0) 25 0) 26 0) 21 3) 22 0) 23 2) 24 0) lg (va_up ar 2 ((uu_8.1, uu_8.2).1)) ((uu_8.1, uu_8.2).2)) from hw) (trivial) dX7_begin_55

def ww_cx_propByte : List Cond := Cond.code yX10_propertyByte cX10_propertyByte 1 (some .int) :: ([Cond.fieldLink RX10 18 "LzmaChains$Settings" "pb" "I", Cond.fieldLink RX10 15 "LzmaChains$Settings" "lp" "I", Cond.fieldLink RX10 9 "LzmaChains$Settings" "lc" "I"] ++ (wsX100 ++ ([])))
set_option maxHeartbeats 4000000 in
set_option maxRecDepth 100000 in
/-- Settings.propertyByte: some number -/
theorem cx_propByte (l : Launch) (D : va_G) (cI cJ : ClassId) (ad : Nat → Nat) (g : Nat → Int32) (lg : Nat → Int64) (ar : Nat → Nat → Int32) (bk : Nat → Int64) (sz : Nat)  : Met l yX10_propertyByte ww_cx_propByte { frames := 0, cells := 0, slots := 0, locals := 0 } (va_Pc [.ref (ad 1)] (hk_B D [(cI, .int), (cJ, .long)] sz (xw cI cJ ad g lg ar bk))) (va_Qi (fun (r : Int32) (u : Unit) => True) (fun u : Unit => hk_E D [(cI, .int), (cJ, .long)] (va_A (xw cI cJ ad g lg ar bk) sz) (xw cI cJ ad g lg ar bk)) (va_A (xw cI cJ ad g lg ar bk) sz)) 0 0 (va_A (xw cI cJ ad g lg ar bk) sz) := by
  refine hk_met (cc := cX10_propertyByte) (maxL := 1) (ret := (some .int)) (by decide) rfl (Nat.le_of_ble_eq_true rfl) ?_
  intro p e s m below meth c ls hx hb hr hml hown hts hlocks hin hA hw hl
  have iX10 : ∀ w ∈ wsX100, w ∈ ww_cx_propByte := fun _ h => List.mem_cons_of_mem _ (List.mem_append_right _ (List.mem_append_left _ h))
  have hl : lv_has ls 1 [(0, .ref (ad 1))] := hl
  refine lv_aload_n hx hb dX10_propertyByte_0 rfl (lv_at hl 0 rfl) ?_
  refine hk_get (ci := 13) (C := RX10) (T := TX10) (N := 10) (v := .int (g 5)) hx hb hts iX10 hown hw 1 rfl rfl 2 (by decide) (hts _ (List.mem_of_getElem? (i := 1) rfl)) rfl dX10_propertyByte_1 ?_
  refine lv_iconst (v := 5) hx hb dX10_propertyByte_4 (by decide) ?_
  refine lv_imul hx hb dX10_propertyByte_5 ?_
  refine lv_aload_n hx hb dX10_propertyByte_6 rfl (lv_at hl 0 rfl) ?_
  refine hk_get (ci := 13) (C := RX10) (T := TX10) (N := 10) (v := .int (g 4)) hx hb hts iX10 hown hw 1 rfl rfl 1 (by decide) (hts _ (List.mem_of_getElem? (i := 2) rfl)) rfl dX10_propertyByte_7 ?_
  refine lv_iadd hx hb dX10_propertyByte_10 ?_
  refine lv_bipush (v := 9) hx hb dX10_propertyByte_11 (by decide) ?_
  refine lv_imul hx hb dX10_propertyByte_13 ?_
  refine lv_aload_n hx hb dX10_propertyByte_14 rfl (lv_at hl 0 rfl) ?_
  refine hk_get (ci := 13) (C := RX10) (T := TX10) (N := 10) (v := .int (g 3)) hx hb hts iX10 hown hw 1 rfl rfl 0 (by decide) (hts _ (List.mem_of_getElem? (i := 3) rfl)) rfl dX10_propertyByte_15 ?_
  refine lv_iadd hx hb dX10_propertyByte_18 ?_
  exact hk_iret (u := ()) hx hb hr hlocks (hw) (trivial) dX10_propertyByte_19

def ww_cx_beginPacking : List Cond := Cond.code yX2_beginPacking cX2_beginPacking 1 none :: ([Cond.fieldLink RX2 23 "LzmaChains$Coder" "opening" "Z", Cond.fieldLink RX2 27 "LzmaChains$Coder" "low" "J", Cond.constantLong RX2 31 4294967295, Cond.fieldLink RX2 33 "LzmaChains$Coder" "range" "J", Cond.fieldLink RX2 36 "LzmaChains$Coder" "held" "I", Cond.fieldLink RX2 40 "LzmaChains$Coder" "waiting" "I"] ++ (wsX20 ++ ([])))
set_option maxHeartbeats 4000000 in
set_option maxRecDepth 100000 in
/-- Coder.beginPacking -/
theorem cx_beginPacking (l : Launch) (D : va_G) (cI cJ : ClassId) (ad : Nat → Nat) (g : Nat → Int32) (lg : Nat → Int64) (ar : Nat → Nat → Int32) (bk : Nat → Int64) (sz : Nat)  : Met l yX2_beginPacking ww_cx_beginPacking { frames := 0, cells := 0, slots := 0, locals := 0 } (va_Pc [.ref (ad 7)] (hk_B D [(cI, .int), (cJ, .long)] sz (xw cI cJ ad g lg ar bk))) (va_Qv (fun u : Unit => True) (fun u : Unit => hk_E D [(cI, .int), (cJ, .long)] (va_A (xw cI cJ ad g lg ar bk) sz) (xw cI cJ ad (upd (upd (upd g 18 0) 19 0) 20 1) (vp_updL (vp_updL lg 0 0) 1 4294967295) ar bk)) (va_A (xw cI cJ ad g lg ar bk) sz)) 0 0 (va_A (xw cI cJ ad g lg ar bk) sz) := by
  refine hk_met (cc := cX2_beginPacking) (maxL := 1) (ret := none) (by decide) rfl (Nat.le_of_ble_eq_true rfl) ?_
  intro p e s m below meth c ls hx hb hr hml hown hts hlocks hin hA hw hl
  have iX2 : ∀ w ∈ wsX20, w ∈ ww_cx_beginPacking := fun _ h => List.mem_cons_of_mem _ (List.mem_append_right _ (List.mem_append_left _ h))
  have hl : lv_has ls 1 [(0, .ref (ad 7))] := hl
  refine lv_aload_n hx hb dX2_beginPacking_0 rfl (lv_at hl 0 rfl) ?_
  refine lv_iconst (v := 0) hx hb dX2_beginPacking_1 (by decide) ?_
  refine hk_put (ci := 5) (C := RX2) (T := TX2) (N := 9) (ty := .boolean) (v := .int 0) hx hb hts iX2 tyX2 tyX2_ok nmX2 hown hw 7 rfl rfl 3 (by decide) (hts _ (List.mem_of_getElem? (i := 1) rfl)) rfl (by decide +kernel) rfl rfl (Nat.le_of_ble_eq_true rfl) dX2_beginPacking_2 (ws' := xw cI cJ ad (upd g 18 0) lg ar bk) rfl (fun H locs hw => ?_)
  refine lv_aload_n hx hb dX2_beginPacking_5 rfl (lv_at hl 0 rfl) ?_
  refine lv_lconst (v := 0) hx hb dX2_beginPacking_6 (by decide) ?_
  refine hk_put (ci := 5) (C := RX2) (T := TX2) (N := 9) (ty := .long) (v := .long 0) hx hb hts iX2 tyX2 tyX2_ok nmX2 hown hw 7 rfl rfl 4 (by decide) (hts _ (List.mem_of_getElem? (i := 2) rfl)) rfl (by decide +kernel) rfl rfl (Nat.le_of_ble_eq_true rfl) dX2_beginPacking_7 (ws' := xw cI cJ ad (upd g 18 0) (vp_updL lg 0 0) ar bk) rfl (fun H locs hw => ?_)
  refine lv_aload_n hx hb dX2_beginPacking_10 rfl (lv_at hl 0 rfl) ?_
  refine lv_ldc2 (v := 4294967295) hx hb hown (hts _ (List.mem_of_getElem? (i := 3) rfl)) dX2_beginPacking_11 ?_
  refine hk_put (ci := 5) (C := RX2) (T := TX2) (N := 9) (ty := .long) (v := .long 4294967295) hx hb hts iX2 tyX2 tyX2_ok nmX2 hown hw 7 rfl rfl 5 (by decide) (hts _ (List.mem_of_getElem? (i := 4) rfl)) rfl (by decide +kernel) rfl rfl (Nat.le_of_ble_eq_true rfl) dX2_beginPacking_14 (ws' := xw cI cJ ad (upd g 18 0) (vp_updL (vp_updL lg 0 0) 1 4294967295) ar bk) rfl (fun H locs hw => ?_)
  refine lv_aload_n hx hb dX2_beginPacking_17 rfl (lv_at hl 0 rfl) ?_
  refine lv_iconst (v := 0) hx hb dX2_beginPacking_18 (by decide) ?_
  refine hk_put (ci := 5) (C := RX2) (T := TX2) (N := 9) (ty := .int) (v := .int 0) hx hb hts iX2 tyX2 tyX2_ok nmX2 hown hw 7 rfl rfl 7 (by decide) (hts _ (List.mem_of_getElem? (i := 5) rfl)) rfl (by decide +kernel) rfl rfl (Nat.le_of_ble_eq_true rfl) dX2_beginPacking_19 (ws' := xw cI cJ ad (upd (upd g 18 0) 19 0) (vp_updL (vp_updL lg 0 0) 1 4294967295) ar bk) rfl (fun H locs hw => ?_)
  refine lv_aload_n hx hb dX2_beginPacking_22 rfl (lv_at hl 0 rfl) ?_
  refine lv_iconst (v := 1) hx hb dX2_beginPacking_23 (by decide) ?_
  refine hk_put (ci := 5) (C := RX2) (T := TX2) (N := 9) (ty := .int) (v := .int 1) hx hb hts iX2 tyX2 tyX2_ok nmX2 hown hw 7 rfl rfl 8 (by decide) (hts _ (List.mem_of_getElem? (i := 6) rfl)) rfl (by decide +kernel) rfl rfl (Nat.le_of_ble_eq_true rfl) dX2_beginPacking_24 (ws' := xw cI cJ ad (upd (upd (upd g 18 0) 19 0) 20 1) (vp_updL (vp_updL lg 0 0) 1 4294967295) ar bk) rfl (fun H locs hw => ?_)
  exact hk_vret (u := ()) hx hb hr hlocks (hw) (trivial) dX2_beginPacking_27

def ww_cx_shift13 : List Cond := Cond.code yX2_shift cX2_shift 4 none :: ([Cond.fieldLink RX2 27 "LzmaChains$Coder" "low" "J", Cond.constantLong RX2 77 4278190080, Cond.constantLong RX2 79 4294967296, Cond.fieldLink RX2 40 "LzmaChains$Coder" "waiting" "I", Cond.fieldLink RX2 36 "LzmaChains$Coder" "held" "I", Cond.fieldLink RX2 13 "LzmaChains$Coder" "sink" "LLzmaChains$Row;", Cond.fieldLink RX2 81 "LzmaChains$Row" "size" "I", Cond.fieldLink RX2 86 "LzmaChains$Row" "data" "[I", Cond.constantLong RX2 89 16777215] ++ (wsX20 ++ (wsX90 ++ ([]))))
set_option maxHeartbeats 4000000 in
set_option maxRecDepth 100000 in
/-- Coder.shift with nothing gathered, OUT has 13 -/
theorem cx_shift13 (l : Launch) (D : va_G) (cI cJ : ClassId) (ad : Nat → Nat) (g : Nat → Int32) (lg : Nat → Int64) (ar : Nat → Nat → Int32) (bk : Nat → Int64) (sz : Nat)  (h14 : g 14 = 13) (h20 : g 20 = 1) (hL0 : lg 0 = 0) : Met l yX2_shift ww_cx_shift13 { frames := 0, cells := 0, slots := 0, locals := 0 } (va_Pc [.ref (ad 7)] (hk_B D [(cI, .int), (cJ, .long)] sz (xw cI cJ ad g lg ar bk))) (va_Qv (fun u : (Nat → Int32) => True) (fun u : (Nat → Int32) => hk_E D [(cI, .int), (cJ, .long)] (va_A (xw cI cJ ad g lg ar bk) sz) (xw cI cJ ad (upd (upd (upd g 14 14) 19 0) 20 1) (vp_updL lg 0 0) (va_up ar 1 u) bk)) (va_A (xw cI cJ ad g lg ar bk) sz)) 0 0 (va_A (xw cI cJ ad g lg ar bk) sz) := by
  refine hk_met (cc := cX2_shift) (maxL := 4) (ret := none) (by decide) rfl (Nat.le_of_ble_eq_true rfl) ?_
  intro p e s m below meth c ls hx hb hr hml hown hts hlocks hin hA hw hl
  have iX2 : ∀ w ∈ wsX20, w ∈ ww_cx_shift13 := fun _ h => List.mem_cons_of_mem _ (List.mem_append_right _ (List.mem_append_left _ h))
  have iX9 : ∀ w ∈ wsX90, w ∈ ww_cx_shift13 := fun _ h => List.mem_cons_of_mem _ (List.mem_append_right _ (List.mem_append_right _ (List.mem_append_left _ h)))
  have hl : lv_has ls 4 [(0, .ref (ad 7))] := hl
  refine lv_aload_n hx hb dX2_shift_0 rfl (lv_at hl 0 rfl) ?_
  refine hk_get (ci := 5) (C := RX2) (T := TX2) (N := 9) (v := .long 0) hx hb hts iX2 hown hw 7 rfl rfl 4 (by decide) (hts _ (List.mem_of_getElem? (i := 1) rfl)) (congrArg (fun z => some (Value.long z)) hL0) dX2_shift_1 ?_
  refine lv_ldc2 (v := 4278190080) hx hb hown (hts _ (List.mem_of_getElem? (i := 2) rfl)) dX2_shift_4 ?_
  refine hk_lcmp_lt (tgt := 22) hx hb dX2_shift_7 dX2_shift_8 (by decide) (fun _ => ?_) (fun cc_1 => absurd (by decide) cc_1)
  refine lv_aload_n hx hb dX2_shift_22 rfl (lv_at hl 0 rfl) ?_
  refine hk_get (ci := 5) (C := RX2) (T := TX2) (N := 9) (v := .long 0) hx hb hts iX2 hown hw 7 rfl rfl 4 (by decide) (hts _ (List.mem_of_getElem? (i := 1) rfl)) (congrArg (fun z => some (Value.long z)) hL0) dX2_shift_23 ?_
  refine lv_ldc2 (v := 4294967296) hx hb hown (hts _ (List.mem_of_getElem? (i := 3) rfl)) dX2_shift_26 ?_
  refine hk_lcmp_lt (tgt := 37) hx hb dX2_shift_29 dX2_shift_30 (by decide) (fun _ => ?_) (fun cc_2 => absurd (by decide) cc_2)
  refine lv_iconst (v := 0) hx hb dX2_shift_37 (by decide) ?_
  refine lv_istore_n (lv' := [(1, .int 0), (0, .ref (ad 7))]) hx hb dX2_shift_38 rfl hl (by decide) rfl (fun ls hl => ?_)
  refine lv_iconst (v := 0) hx hb dX2_shift_39 (by decide) ?_
  refine lv_istore_n (lv' := [(2, .int 0), (1, .int 0), (0, .ref (ad 7))]) hx hb dX2_shift_40 rfl hl (by decide) rfl (fun ls hl => ?_)
  refine lv_iload_n hx hb dX2_shift_41 rfl (lv_at hl 0 rfl) ?_
  refine lv_aload_n hx hb dX2_shift_42 rfl (lv_at hl 2 rfl) ?_
  refine hk_get (ci := 5) (C := RX2) (T := TX2) (N := 9) (v := .int 1) hx hb hts iX2 hown hw 7 rfl rfl 8 (by decide) (hts _ (List.mem_of_getElem? (i := 4) rfl)) (congrArg (fun z => some (Value.int z)) h20) dX2_shift_43 ?_
  refine lv_icmp_ge (tgt := 133) hx hb dX2_shift_46 (by decide) (fun cc_3 => absurd cc_3 (by decide)) (fun _ => ?_)
  refine lv_iload_n hx hb dX2_shift_49 rfl (lv_at hl 0 rfl) ?_
  refine lv_if_ne (tgt := 60) hx hb dX2_shift_50 (by decide) (fun cc_4 => absurd (by decide) cc_4) (fun _ => ?_)
  refine lv_aload_n hx hb dX2_shift_53 rfl (lv_at hl 2 rfl) ?_
  refine hk_get (ci := 5) (C := RX2) (T := TX2) (N := 9) (v := .int (g 19)) hx hb hts iX2 hown hw 7 rfl rfl 7 (by decide) (hts _ (List.mem_of_getElem? (i := 5) rfl)) rfl dX2_shift_54 ?_
  refine lv_goto (tgt := 63) hx hb dX2_shift_57 (by decide) ?_
  refine lv_iload_n hx hb dX2_shift_63 rfl (lv_at hl 1 rfl) ?_
  refine lv_iadd hx hb dX2_shift_64 ?_
  refine lv_sipush (v := 255) hx hb dX2_shift_65 (by decide) ?_
  refine lv_iand hx hb dX2_shift_68 ?_
  refine lv_istore_n (lv' := [(3, .int (((g 19) + 0) &&& 255)), (2, .int 0), (1, .int 0), (0, .ref (ad 7))]) hx hb dX2_shift_69 rfl hl (by decide) rfl (fun ls hl => ?_)
  refine lv_aload_n hx hb dX2_shift_70 rfl (lv_at hl 3 rfl) ?_
  refine hk_get (ci := 5) (C := RX2) (T := TX2) (N := 9) (v := .ref (ad 4)) hx hb hts iX2 hown hw 7 rfl rfl 2 (by decide) (hts _ (List.mem_of_getElem? (i := 6) rfl)) rfl dX2_shift_71 ?_
  refine hk_get (ci := 12) (C := RX9) (T := TX9) (N := 2) (v := .int 13) hx hb hts iX9 hown hw 4 rfl rfl 1 (by decide) (hts _ (List.mem_of_getElem? (i := 7) rfl)) (congrArg (fun z => some (Value.int z)) h14) dX2_shift_74 ?_
  refine lv_if_lt (tgt := 114) hx hb dX2_shift_77 (by decide) (fun cc_5 => absurd cc_5 (by decide)) (fun _ => ?_)
  refine lv_aload_n hx hb dX2_shift_80 rfl (lv_at hl 3 rfl) ?_
  refine hk_get (ci := 5) (C := RX2) (T := TX2) (N := 9) (v := .ref (ad 4)) hx hb hts iX2 hown hw 7 rfl rfl 2 (by decide) (hts _ (List.mem_of_getElem? (i := 6) rfl)) rfl dX2_shift_81 ?_
  refine hk_get (ci := 12) (C := RX9) (T := TX9) (N := 2) (v := .int 13) hx hb hts iX9 hown hw 4 rfl rfl 1 (by decide) (hts _ (List.mem_of_getElem? (i := 7) rfl)) (congrArg (fun z => some (Value.int z)) h14) dX2_shift_84 ?_
  refine lv_aload_n hx hb dX2_shift_87 rfl (lv_at hl 3 rfl) ?_
  refine hk_get (ci := 5) (C := RX2) (T := TX2) (N := 9) (v := .ref (ad 4)) hx hb hts iX2 hown hw 7 rfl rfl 2 (by decide) (hts _ (List.mem_of_getElem? (i := 6) rfl)) rfl dX2_shift_88 ?_
  refine hk_get (ci := 12) (C := RX9) (T := TX9) (N := 2) (v := .ref (ad 5)) hx hb hts iX9 hown hw 4 rfl rfl 0 (by decide) (hts _ (List.mem_of_getElem? (i := 8) rfl)) rfl dX2_shift_91 ?_
  refine hk_alen (v := 3000) hx hb hw 5 0 rfl rfl rfl dX2_shift_94 ?_
  refine lv_icmp_ge (tgt := 114) hx hb dX2_shift_95 (by decide) (fun cc_6 => absurd cc_6 (by decide)) (fun _ => ?_)
  refine lv_aload_n hx hb dX2_shift_98 rfl (lv_at hl 3 rfl) ?_
  refine hk_get (ci := 5) (C := RX2) (T := TX2) (N := 9) (v := .ref (ad 4)) hx hb hts iX2 hown hw 7 rfl rfl 2 (by decide) (hts _ (List.mem_of_getElem? (i := 6) rfl)) rfl dX2_shift_99 ?_
  refine hk_get (ci := 12) (C := RX9) (T := TX9) (N := 2) (v := .ref (ad 5)) hx hb hts iX9 hown hw 4 rfl rfl 0 (by decide) (hts _ (List.mem_of_getElem? (i := 8) rfl)) rfl dX2_shift_102 ?_
  refine lv_aload_n hx hb dX2_shift_105 rfl (lv_at hl 3 rfl) ?_
  refine hk_get (ci := 5) (C := RX2) (T := TX2) (N := 9) (v := .ref (ad 4)) hx hb hts iX2 hown hw 7 rfl rfl 2 (by decide) (hts _ (List.mem_of_getElem? (i := 6) rfl)) rfl dX2_shift_106 ?_
  refine hk_get (ci := 12) (C := RX9) (T := TX9) (N := 2) (v := .int 13) hx hb hts iX9 hown hw 4 rfl rfl 1 (by decide) (hts _ (List.mem_of_getElem? (i := 7) rfl)) (congrArg (fun z => some (Value.int z)) h14) dX2_shift_109 ?_
  refine lv_iload_n hx hb dX2_shift_112 rfl (lv_at hl 0 rfl) ?_
  refine hk_iast hx hb hw 5 0 rfl rfl (show ¬ (_ ∨ _) by decide) dX2_shift_113 (ws' := xw cI cJ ad g lg (va_up ar 1 (upd (ar 1) 13 (((g 19) + 0) &&& 255))) bk) rfl (fun H locs hw => ?_)
  refine lv_aload_n hx hb dX2_shift_114 rfl (lv_at hl 3 rfl) ?_
  refine hk_get (ci := 5) (C := RX2) (T := TX2) (N := 9) (v := .ref (ad 4)) hx hb hts iX2 hown hw 7 rfl rfl 2 (by decide) (hts _ (List.mem_of_getElem? (i := 6) rfl)) rfl dX2_shift_115 ?_
  refine lv_dup hx hb dX2_shift_118 rfl ?_
  refine hk_get (ci := 12) (C := RX9) (T := TX9) (N := 2) (v := .int 13) hx hb hts iX9 hown hw 4 rfl rfl 1 (by decide) (hts _ (List.mem_of_getElem? (i := 7) rfl)) (congrArg (fun z => some (Value.int z)) h14) dX2_shift_119 ?_
  refine lv_iconst (v := 1) hx hb dX2_shift_122 (by decide) ?_
  refine lv_iadd hx hb dX2_shift_123 ?_
  refine hk_topi 14 (by decide +kernel) ?_
  refine hk_put (ci := 12) (C := RX9) (T := TX9) (N := 2) (ty := .int) (v := .int 14) hx hb hts iX9 tyX9 tyX9_ok nmX9 hown hw 4 rfl rfl 1 (by decide) (hts _ (List.mem_of_getElem? (i := 7) rfl)) rfl (by decide +kernel) rfl rfl (Nat.le_of_ble_eq_true rfl) dX2_shift_124 (ws' := xw cI cJ ad (upd g 14 14) lg (va_up ar 1 (upd (ar 1) 13 (((g 19) + 0) &&& 255))) bk) rfl (fun H locs hw => ?_)
  refine lv_iinc (v := 1) (lv' := [(2, .int 1), (3, .int (((g 19) + 0) &&& 255)), (1, .int 0), (0, .ref (ad 7))]) hx hb dX2_shift_127 hl (k := 1) rfl rfl (by decide) rfl (fun ls hl => ?_)
  refine lv_goto (tgt := 41) hx hb dX2_shift_130 (by decide) ?_
  refine lv_iload_n hx hb dX2_shift_41 rfl (lv_at hl 0 rfl) ?_
  refine lv_aload_n hx hb dX2_shift_42 rfl (lv_at hl 3 rfl) ?_
  refine hk_get (ci := 5) (C := RX2) (T := TX2) (N := 9) (v := .int 1) hx hb hts iX2 hown hw 7 rfl rfl 8 (by decide) (hts _ (List.mem_of_getElem? (i := 4) rfl)) (congrArg (fun z => some (Value.int z)) h20) dX2_shift_43 ?_
  refine lv_icmp_ge (tgt := 133) hx hb dX2_shift_46 (by decide) (fun _ => ?_) (fun cc_7 => absurd (by decide) cc_7)
  refine lv_aload_n hx hb dX2_shift_133 rfl (lv_at hl 3 rfl) ?_
  refine lv_iconst (v := 0) hx hb dX2_shift_134 (by decide) ?_
  refine hk_put (ci := 5) (C := RX2) (T := TX2) (N := 9) (ty := .int) (v := .int 0) hx hb hts iX2 tyX2 tyX2_ok nmX2 hown hw 7 rfl rfl 8 (by decide) (hts _ (List.mem_of_getElem? (i := 4) rfl)) rfl (by decide +kernel) rfl rfl (Nat.le_of_ble_eq_true rfl) dX2_shift_135 (ws' := xw cI cJ ad (upd (upd g 14 14) 20 0) lg (va_up ar 1 (upd (ar 1) 13 (((g 19) + 0) &&& 255))) bk) rfl (fun H locs hw => ?_)
  refine lv_aload_n hx hb dX2_shift_138 rfl (lv_at hl 3 rfl) ?_
  refine lv_aload_n hx hb dX2_shift_139 rfl (lv_at hl 3 rfl) ?_
  refine hk_get (ci := 5) (C := RX2) (T := TX2) (N := 9) (v := .long 0) hx hb hts iX2 hown hw 7 rfl rfl 4 (by decide) (hts _ (List.mem_of_getElem? (i := 1) rfl)) (congrArg (fun z => some (Value.long z)) hL0) dX2_shift_140 ?_
  refine lv_bipush (v := 24) hx hb dX2_shift_143 (by decide) ?_
  refine lv_lushr (v := ((0 : Int64).toUInt64 >>> ((24 : Int32).toInt64.toUInt64 &&& Int64.toUInt64 63)).toInt64) hx hb dX2_shift_145 rfl ?_
  refine hk_topl 0 (by decide +kernel) ?_
  refine lv_l2i (v := (0 : Int64).toInt32) hx hb dX2_shift_146 rfl ?_
  refine hk_topi 0 (by decide +kernel) ?_
  refine lv_sipush (v := 255) hx hb dX2_shift_147 (by decide) ?_
  refine lv_iand hx hb dX2_shift_150 ?_
  refine hk_topi 0 (by decide +kernel) ?_
  refine hk_put (ci := 5) (C := RX2) (T := TX2) (N := 9) (ty := .int) (v := .int 0) hx hb hts iX2 tyX2 tyX2_ok nmX2 hown hw 7 rfl rfl 7 (by decide) (hts _ (List.mem_of_getElem? (i := 5) rfl)) rfl (by decide +kernel) rfl rfl (Nat.le_of_ble_eq_true rfl) dX2_shift_151 (ws' := xw cI cJ ad (upd (upd (upd g 14 14) 20 0) 19 0) lg (va_up ar 1 (upd (ar 1) 13 (((g 19) + 0) &&& 255))) bk) rfl (fun H locs hw => ?_)
  refine lv_aload_n hx hb dX2_shift_154 rfl (lv_at hl 3 rfl) ?_
  refine lv_dup hx hb dX2_shift_155 rfl ?_
  refine hk_get (ci := 5) (C := RX2) (T := TX2) (N := 9) (v := .int 0) hx hb hts iX2 hown hw 7 rfl rfl 8 (by decide) (hts _ (List.mem_of_getElem? (i := 4) rfl)) rfl dX2_shift_156 ?_
  refine lv_iconst (v := 1) hx hb dX2_shift_159 (by decide) ?_
  refine lv_iadd hx hb dX2_shift_160 ?_
  refine hk_topi 1 (by decide +kernel) ?_
  refine hk_put (ci := 5) (C := RX2) (T := TX2) (N := 9) (ty := .int) (v := .int 1) hx hb hts iX2 tyX2 tyX2_ok nmX2 hown hw 7 rfl rfl 8 (by decide) (hts _ (List.mem_of_getElem? (i := 4) rfl)) rfl (by decide +kernel) rfl rfl (Nat.le_of_ble_eq_true rfl) dX2_shift_161 (ws' := xw cI cJ ad (upd (upd (upd g 14 14) 20 1) 19 0) lg (va_up ar 1 (upd (ar 1) 13 (((g 19) + 0) &&& 255))) bk) rfl (fun H locs hw => ?_)
  refine lv_aload_n hx hb dX2_shift_164 rfl (lv_at hl 3 rfl) ?_
  refine lv_aload_n hx hb dX2_shift_165 rfl (lv_at hl 3 rfl) ?_
  refine hk_get (ci := 5) (C := RX2) (T := TX2) (N := 9) (v := .long 0) hx hb hts iX2 hown hw 7 rfl rfl 4 (by decide) (hts _ (List.mem_of_getElem? (i := 1) rfl)) (congrArg (fun z => some (Value.long z)) hL0) dX2_shift_166 ?_
  refine lv_ldc2 (v := 16777215) hx hb hown (hts _ (List.mem_of_getElem? (i := 9) rfl)) dX2_shift_169 ?_
  refine lv_land hx hb dX2_shift_172 ?_
  refine hk_topl 0 (by decide +kernel) ?_
  refine lv_bipush (v := 8) hx hb dX2_shift_173 (by decide) ?_
  refine lv_lshl (v := ((0 : Int64) <<< ((8 : Int32).toInt64 &&& 63))) hx hb dX2_shift_175 rfl ?_
  refine hk_topl 0 (by decide +kernel) ?_
  refine hk_put (ci := 5) (C := RX2) (T := TX2) (N := 9) (ty := .long) (v := .long 0) hx hb hts iX2 tyX2 tyX2_ok nmX2 hown hw 7 rfl rfl 4 (by decide) (hts _ (List.mem_of_getElem? (i := 1) rfl)) rfl (by decide +kernel) rfl rfl (Nat.le_of_ble_eq_true rfl) dX2_shift_176 (ws' := xw cI cJ ad (upd (upd (upd g 14 14) 20 1) 19 0) (vp_updL lg 0 0) (va_up ar 1 (upd (ar 1) 13 (((g 19) + 0) &&& 255))) bk) rfl (fun H locs hw => ?_)
  exact hk_vret (u := (upd (ar 1) 13 (((g 19) + 0) &&& 255))) hx hb hr hlocks (show hk_W D [(cI, .int), (cJ, .long)] _ s _ _ (xw cI cJ ad (upd (upd (upd g 14 14) 19 0) 20 1) (vp_updL lg 0 0) (va_up ar 1 (upd (ar 1) 13 (((g 19) + 0) &&& 255))) bk) from hw) (trivial) dX2_shift_179

def ww_cx_shift14 : List Cond := Cond.code yX2_shift cX2_shift 4 none :: ([Cond.fieldLink RX2 27 "LzmaChains$Coder" "low" "J", Cond.constantLong RX2 77 4278190080, Cond.constantLong RX2 79 4294967296, Cond.fieldLink RX2 40 "LzmaChains$Coder" "waiting" "I", Cond.fieldLink RX2 36 "LzmaChains$Coder" "held" "I", Cond.fieldLink RX2 13 "LzmaChains$Coder" "sink" "LLzmaChains$Row;", Cond.fieldLink RX2 81 "LzmaChains$Row" "size" "I", Cond.fieldLink RX2 86 "LzmaChains$Row" "data" "[I", Cond.constantLong RX2 89 16777215] ++ (wsX20 ++ (wsX90 ++ ([]))))
set_option maxHeartbeats 4000000 in
set_option maxRecDepth 100000 in
/-- Coder.shift with nothing gathered, OUT has 14 -/
theorem cx_shift14 (l : Launch) (D : va_G) (cI cJ : ClassId) (ad : Nat → Nat) (g : Nat → Int32) (lg : Nat → Int64) (ar : Nat → Nat → Int32) (bk : Nat → Int64) (sz : Nat)  (h14 : g 14 = 14) (h20 : g 20 = 1) (hL0 : lg 0 = 0) : Met l yX2_shift ww_cx_shift14 { frames := 0, cells := 0, slots := 0, locals := 0 } (va_Pc [.ref (ad 7)] (hk_B D [(cI, .int), (cJ, .long)] sz (xw cI cJ ad g lg ar bk))) (va_Qv (fun u : (Nat → Int32) => True) (fun u : (Nat → Int32) => hk_E D [(cI, .int), (cJ, .long)] (va_A (xw cI cJ ad g lg ar bk) sz) (xw cI cJ ad (upd (upd (upd g 14 15) 19 0) 20 1) (vp_updL lg 0 0) (va_up ar 1 u) bk)) (va_A (xw cI cJ ad g lg ar bk) sz)) 0 0 (va_A (xw cI cJ ad g lg ar bk) sz) := by
  refine hk_met (cc := cX2_shift) (maxL := 4) (ret := none) (by decide) rfl (Nat.le_of_ble_eq_true rfl) ?_
  intro p e s m below meth c ls hx hb hr hml hown hts hlocks hin hA hw hl
  have iX2 : ∀ w ∈ wsX20, w ∈ ww_cx_shift14 := fun _ h => List.mem_cons_of_mem _ (List.mem_append_right _ (List.mem_append_left _ h))
  have iX9 : ∀ w ∈ wsX90, w ∈ ww_cx_shift14 := fun _ h => List.mem_cons_of_mem _ (List.mem_append_right _ (List.mem_append_right _ (List.mem_append_left _ h)))
  have hl : lv_has ls 4 [(0, .ref (ad 7))] := hl
  refine lv_aload_n hx hb dX2_shift_0 rfl (lv_at hl 0 rfl) ?_
  refine hk_get (ci := 5) (C := RX2) (T := TX2) (N := 9) (v := .long 0) hx hb hts iX2 hown hw 7 rfl rfl 4 (by decide) (hts _ (List.mem_of_getElem? (i := 1) rfl)) (congrArg (fun z => some (Value.long z)) hL0) dX2_shift_1 ?_
  refine lv_ldc2 (v := 4278190080) hx hb hown (hts _ (List.mem_of_getElem? (i := 2) rfl)) dX2_shift_4 ?_
  refine hk_lcmp_lt (tgt := 22) hx hb dX2_shift_7 dX2_shift_8 (by decide) (fun _ => ?_) (fun cc_1 => absurd (by decide) cc_1)
  refine lv_aload_n hx hb dX2_shift_22 rfl (lv_at hl 0 rfl) ?_
  refine hk_get (ci := 5) (C := RX2) (T := TX2) (N := 9) (v := .long 0) hx hb hts iX2 hown hw 7 rfl rfl 4 (by decide) (hts _ (List.mem_of_getElem? (i := 1) rfl)) (congrArg (fun z => some (Value.long z)) hL0) dX2_shift_23 ?_
  refine lv_ldc2 (v := 4294967296) hx hb hown (hts _ (List.mem_of_getElem? (i := 3) rfl)) dX2_shift_26 ?_
  refine hk_lcmp_lt (tgt := 37) hx hb dX2_shift_29 dX2_shift_30 (by decide) (fun _ => ?_) (fun cc_2 => absurd (by decide) cc_2)
  refine lv_iconst (v := 0) hx hb dX2_shift_37 (by decide) ?_
  refine lv_istore_n (lv' := [(1, .int 0), (0, .ref (ad 7))]) hx hb dX2_shift_38 rfl hl (by decide) rfl (fun ls hl => ?_)
  refine lv_iconst (v := 0) hx hb dX2_shift_39 (by decide) ?_
  refine lv_istore_n (lv' := [(2, .int 0), (1, .int 0), (0, .ref (ad 7))]) hx hb dX2_shift_40 rfl hl (by decide) rfl (fun ls hl => ?_)
  refine lv_iload_n hx hb dX2_shift_41 rfl (lv_at hl 0 rfl) ?_
  refine lv_aload_n hx hb dX2_shift_42 rfl (lv_at hl 2 rfl) ?_
  refine hk_get (ci := 5) (C := RX2) (T := TX2) (N := 9) (v := .int 1) hx hb hts iX2 hown hw 7 rfl rfl 8 (by decide) (hts _ (List.mem_of_getElem? (i := 4) rfl)) (congrArg (fun z => some (Value.int z)) h20) dX2_shift_43 ?_
  refine lv_icmp_ge (tgt := 133) hx hb dX2_shift_46 (by decide) (fun cc_3 => absurd cc_3 (by decide)) (fun _ => ?_)
  refine lv_iload_n hx hb dX2_shift_49 rfl (lv_at hl 0 rfl) ?_
  refine lv_if_ne (tgt := 60) hx hb dX2_shift_50 (by decide) (fun cc_4 => absurd (by decide) cc_4) (fun _ => ?_)
  refine lv_aload_n hx hb dX2_shift_53 rfl (lv_at hl 2 rfl) ?_
  refine hk_get (ci := 5) (C := RX2) (T := TX2) (N := 9) (v := .int (g 19)) hx hb hts iX2 hown hw 7 rfl rfl 7 (by decide) (hts _ (List.mem_of_getElem? (i := 5) rfl)) rfl dX2_shift_54 ?_
  refine lv_goto (tgt := 63) hx hb dX2_shift_57 (by decide) ?_
  refine lv_iload_n hx hb dX2_shift_63 rfl (lv_at hl 1 rfl) ?_
  refine lv_iadd hx hb dX2_shift_64 ?_
  refine lv_sipush (v := 255) hx hb dX2_shift_65 (by decide) ?_
  refine lv_iand hx hb dX2_shift_68 ?_
  refine lv_istore_n (lv' := [(3, .int (((g 19) + 0) &&& 255)), (2, .int 0), (1, .int 0), (0, .ref (ad 7))]) hx hb dX2_shift_69 rfl hl (by decide) rfl (fun ls hl => ?_)
  refine lv_aload_n hx hb dX2_shift_70 rfl (lv_at hl 3 rfl) ?_
  refine hk_get (ci := 5) (C := RX2) (T := TX2) (N := 9) (v := .ref (ad 4)) hx hb hts iX2 hown hw 7 rfl rfl 2 (by decide) (hts _ (List.mem_of_getElem? (i := 6) rfl)) rfl dX2_shift_71 ?_
  refine hk_get (ci := 12) (C := RX9) (T := TX9) (N := 2) (v := .int 14) hx hb hts iX9 hown hw 4 rfl rfl 1 (by decide) (hts _ (List.mem_of_getElem? (i := 7) rfl)) (congrArg (fun z => some (Value.int z)) h14) dX2_shift_74 ?_
  refine lv_if_lt (tgt := 114) hx hb dX2_shift_77 (by decide) (fun cc_5 => absurd cc_5 (by decide)) (fun _ => ?_)
  refine lv_aload_n hx hb dX2_shift_80 rfl (lv_at hl 3 rfl) ?_
  refine hk_get (ci := 5) (C := RX2) (T := TX2) (N := 9) (v := .ref (ad 4)) hx hb hts iX2 hown hw 7 rfl rfl 2 (by decide) (hts _ (List.mem_of_getElem? (i := 6) rfl)) rfl dX2_shift_81 ?_
  refine hk_get (ci := 12) (C := RX9) (T := TX9) (N := 2) (v := .int 14) hx hb hts iX9 hown hw 4 rfl rfl 1 (by decide) (hts _ (List.mem_of_getElem? (i := 7) rfl)) (congrArg (fun z => some (Value.int z)) h14) dX2_shift_84 ?_
  refine lv_aload_n hx hb dX2_shift_87 rfl (lv_at hl 3 rfl) ?_
  refine hk_get (ci := 5) (C := RX2) (T := TX2) (N := 9) (v := .ref (ad 4)) hx hb hts iX2 hown hw 7 rfl rfl 2 (by decide) (hts _ (List.mem_of_getElem? (i := 6) rfl)) rfl dX2_shift_88 ?_
  refine hk_get (ci := 12) (C := RX9) (T := TX9) (N := 2) (v := .ref (ad 5)) hx hb hts iX9 hown hw 4 rfl rfl 0 (by decide) (hts _ (List.mem_of_getElem? (i := 8) rfl)) rfl dX2_shift_91 ?_
  refine hk_alen (v := 3000) hx hb hw 5 0 rfl rfl rfl dX2_shift_94 ?_
  refine lv_icmp_ge (tgt := 114) hx hb dX2_shift_95 (by decide) (fun cc_6 => absurd cc_6 (by decide)) (fun _ => ?_)
  refine lv_aload_n hx hb dX2_shift_98 rfl (lv_at hl 3 rfl) ?_
  refine hk_get (ci := 5) (C := RX2) (T := TX2) (N := 9) (v := .ref (ad 4)) hx hb hts iX2 hown hw 7 rfl rfl 2 (by decide) (hts _ (List.mem_of_getElem? (i := 6) rfl)) rfl dX2_shift_99 ?_
  refine hk_get (ci := 12) (C := RX9) (T := TX9) (N := 2) (v := .ref (ad 5)) hx hb hts iX9 hown hw 4 rfl rfl 0 (by decide) (hts _ (List.mem_of_getElem? (i := 8) rfl)) rfl dX2_shift_102 ?_
  refine lv_aload_n hx hb dX2_shift_105 rfl (lv_at hl 3 rfl) ?_
  refine hk_get (ci := 5) (C := RX2) (T := TX2) (N := 9) (v := .ref (ad 4)) hx hb hts iX2 hown hw 7 rfl rfl 2 (by decide) (hts _ (List.mem_of_getElem? (i := 6) rfl)) rfl dX2_shift_106 ?_
  refine hk_get (ci := 12) (C := RX9) (T := TX9) (N := 2) (v := .int 14) hx hb hts iX9 hown hw 4 rfl rfl 1 (by decide) (hts _ (List.mem_of_getElem? (i := 7) rfl)) (congrArg (fun z => some (Value.int z)) h14) dX2_shift_109 ?_
  refine lv_iload_n hx hb dX2_shift_112 rfl (lv_at hl 0 rfl) ?_
  refine hk_iast hx hb hw 5 0 rfl rfl (show ¬ (_ ∨ _) by decide) dX2_shift_113 (ws' := xw cI cJ ad g lg (va_up ar 1 (upd (ar 1) 14 (((g 19) + 0) &&& 255))) bk) rfl (fun H locs hw => ?_)
  refine lv_aload_n hx hb dX2_shift_114 rfl (lv_at hl 3 rfl) ?_
  refine hk_get (ci := 5) (C := RX2) (T := TX2) (N := 9) (v := .ref (ad 4)) hx hb hts iX2 hown hw 7 rfl rfl 2 (by decide) (hts _ (List.mem_of_getElem? (i := 6) rfl)) rfl dX2_shift_115 ?_
  refine lv_dup hx hb dX2_shift_118 rfl ?_
  refine hk_get (ci := 12) (C := RX9) (T := TX9) (N := 2) (v := .int 14) hx hb hts iX9 hown hw 4 rfl rfl 1 (by decide) (hts _ (List.mem_of_getElem? (i := 7) rfl)) (congrArg (fun z => some (Value.int z)) h14) dX2_shift_119 ?_
  refine lv_iconst (v := 1) hx hb dX2_shift_122 (by decide) ?_
  refine lv_iadd hx hb dX2_shift_123 ?_
  refine hk_topi 15 (by decide +kernel) ?_
  refine hk_put (ci := 12) (C := RX9) (T := TX9) (N := 2) (ty := .int) (v := .int 15) hx hb hts iX9 tyX9 tyX9_ok nmX9 hown hw 4 rfl rfl 1 (by decide) (hts _ (List.mem_of_getElem? (i := 7) rfl)) rfl (by decide +kernel) rfl rfl (Nat.le_of_ble_eq_true rfl) dX2_shift_124 (ws' := xw cI cJ ad (upd g 14 15) lg (va_up ar 1 (upd (ar 1) 14 (((g 19) + 0) &&& 255))) bk) rfl (fun H locs hw => ?_)
  refine lv_iinc (v := 1) (lv' := [(2, .int 1), (3, .int (((g 19) + 0) &&& 255)), (1, .int 0), (0, .ref (ad 7))]) hx hb dX2_shift_127 hl (k := 1) rfl rfl (by decide) rfl (fun ls hl => ?_)
  refine lv_goto (tgt := 41) hx hb dX2_shift_130 (by decide) ?_
  refine lv_iload_n hx hb dX2_shift_41 rfl (lv_at hl 0 rfl) ?_
  refine lv_aload_n hx hb dX2_shift_42 rfl (lv_at hl 3 rfl) ?_
  refine hk_get (ci := 5) (C := RX2) (T := TX2) (N := 9) (v := .int 1) hx hb hts iX2 hown hw 7 rfl rfl 8 (by decide) (hts _ (List.mem_of_getElem? (i := 4) rfl)) (congrArg (fun z => some (Value.int z)) h20) dX2_shift_43 ?_
  refine lv_icmp_ge (tgt := 133) hx hb dX2_shift_46 (by decide) (fun _ => ?_) (fun cc_7 => absurd (by decide) cc_7)
  refine lv_aload_n hx hb dX2_shift_133 rfl (lv_at hl 3 rfl) ?_
  refine lv_iconst (v := 0) hx hb dX2_shift_134 (by decide) ?_
  refine hk_put (ci := 5) (C := RX2) (T := TX2) (N := 9) (ty := .int) (v := .int 0) hx hb hts iX2 tyX2 tyX2_ok nmX2 hown hw 7 rfl rfl 8 (by decide) (hts _ (List.mem_of_getElem? (i := 4) rfl)) rfl (by decide +kernel) rfl rfl (Nat.le_of_ble_eq_true rfl) dX2_shift_135 (ws' := xw cI cJ ad (upd (upd g 14 15) 20 0) lg (va_up ar 1 (upd (ar 1) 14 (((g 19) + 0) &&& 255))) bk) rfl (fun H locs hw => ?_)
  refine lv_aload_n hx hb dX2_shift_138 rfl (lv_at hl 3 rfl) ?_
  refine lv_aload_n hx hb dX2_shift_139 rfl (lv_at hl 3 rfl) ?_
  refine hk_get (ci := 5) (C := RX2) (T := TX2) (N := 9) (v := .long 0) hx hb hts iX2 hown hw 7 rfl rfl 4 (by decide) (hts _ (List.mem_of_getElem? (i := 1) rfl)) (congrArg (fun z => some (Value.long z)) hL0) dX2_shift_140 ?_
  refine lv_bipush (v := 24) hx hb dX2_shift_143 (by decide) ?_
  refine lv_lushr (v := ((0 : Int64).toUInt64 >>> ((24 : Int32).toInt64.toUInt64 &&& Int64.toUInt64 63)).toInt64) hx hb dX2_shift_145 rfl ?_
  refine hk_topl 0 (by decide +kernel) ?_
  refine lv_l2i (v := (0 : Int64).toInt32) hx hb dX2_shift_146 rfl ?_
  refine hk_topi 0 (by decide +kernel) ?_
  refine lv_sipush (v := 255) hx hb dX2_shift_147 (by decide) ?_
  refine lv_iand hx hb dX2_shift_150 ?_
  refine hk_topi 0 (by decide +kernel) ?_
  refine hk_put (ci := 5) (C := RX2) (T := TX2) (N := 9) (ty := .int) (v := .int 0) hx hb hts iX2 tyX2 tyX2_ok nmX2 hown hw 7 rfl rfl 7 (by decide) (hts _ (List.mem_of_getElem? (i := 5) rfl)) rfl (by decide +kernel) rfl rfl (Nat.le_of_ble_eq_true rfl) dX2_shift_151 (ws' := xw cI cJ ad (upd (upd (upd g 14 15) 20 0) 19 0) lg (va_up ar 1 (upd (ar 1) 14 (((g 19) + 0) &&& 255))) bk) rfl (fun H locs hw => ?_)
  refine lv_aload_n hx hb dX2_shift_154 rfl (lv_at hl 3 rfl) ?_
  refine lv_dup hx hb dX2_shift_155 rfl ?_
  refine hk_get (ci := 5) (C := RX2) (T := TX2) (N := 9) (v := .int 0) hx hb hts iX2 hown hw 7 rfl rfl 8 (by decide) (hts _ (List.mem_of_getElem? (i := 4) rfl)) rfl dX2_shift_156 ?_
  refine lv_iconst (v := 1) hx hb dX2_shift_159 (by decide) ?_
  refine lv_iadd hx hb dX2_shift_160 ?_
  refine hk_topi 1 (by decide +kernel) ?_
  refine hk_put (ci := 5) (C := RX2) (T := TX2) (N := 9) (ty := .int) (v := .int 1) hx hb hts iX2 tyX2 tyX2_ok nmX2 hown hw 7 rfl rfl 8 (by decide) (hts _ (List.mem_of_getElem? (i := 4) rfl)) rfl (by decide +kernel) rfl rfl (Nat.le_of_ble_eq_true rfl) dX2_shift_161 (ws' := xw cI cJ ad (upd (upd (upd g 14 15) 20 1) 19 0) lg (va_up ar 1 (upd (ar 1) 14 (((g 19) + 0) &&& 255))) bk) rfl (fun H locs hw => ?_)
  refine lv_aload_n hx hb dX2_shift_164 rfl (lv_at hl 3 rfl) ?_
  refine lv_aload_n hx hb dX2_shift_165 rfl (lv_at hl 3 rfl) ?_
  refine hk_get (ci := 5) (C := RX2) (T := TX2) (N := 9) (v := .long 0) hx hb hts iX2 hown hw 7 rfl rfl 4 (by decide) (hts _ (List.mem_of_getElem? (i := 1) rfl)) (congrArg (fun z => some (Value.long z)) hL0) dX2_shift_166 ?_
  refine lv_ldc2 (v := 16777215) hx hb hown (hts _ (List.mem_of_getElem? (i := 9) rfl)) dX2_shift_169 ?_
  refine lv_land hx hb dX2_shift_172 ?_
  refine hk_topl 0 (by decide +kernel) ?_
  refine lv_bipush (v := 8) hx hb dX2_shift_173 (by decide) ?_
  refine lv_lshl (v := ((0 : Int64) <<< ((8 : Int32).toInt64 &&& 63))) hx hb dX2_shift_175 rfl ?_
  refine hk_topl 0 (by decide +kernel) ?_
  refine hk_put (ci := 5) (C := RX2) (T := TX2) (N := 9) (ty := .long) (v := .long 0) hx hb hts iX2 tyX2 tyX2_ok nmX2 hown hw 7 rfl rfl 4 (by decide) (hts _ (List.mem_of_getElem? (i := 1) rfl)) rfl (by decide +kernel) rfl rfl (Nat.le_of_ble_eq_true rfl) dX2_shift_176 (ws' := xw cI cJ ad (upd (upd (upd g 14 15) 20 1) 19 0) (vp_updL lg 0 0) (va_up ar 1 (upd (ar 1) 14 (((g 19) + 0) &&& 255))) bk) rfl (fun H locs hw => ?_)
  exact hk_vret (u := (upd (ar 1) 14 (((g 19) + 0) &&& 255))) hx hb hr hlocks (show hk_W D [(cI, .int), (cJ, .long)] _ s _ _ (xw cI cJ ad (upd (upd (upd g 14 15) 19 0) 20 1) (vp_updL lg 0 0) (va_up ar 1 (upd (ar 1) 14 (((g 19) + 0) &&& 255))) bk) from hw) (trivial) dX2_shift_179

def ww_cx_shift15 : List Cond := Cond.code yX2_shift cX2_shift 4 none :: ([Cond.fieldLink RX2 27 "LzmaChains$Coder" "low" "J", Cond.constantLong RX2 77 4278190080, Cond.constantLong RX2 79 4294967296, Cond.fieldLink RX2 40 "LzmaChains$Coder" "waiting" "I", Cond.fieldLink RX2 36 "LzmaChains$Coder" "held" "I", Cond.fieldLink RX2 13 "LzmaChains$Coder" "sink" "LLzmaChains$Row;", Cond.fieldLink RX2 81 "LzmaChains$Row" "size" "I", Cond.fieldLink RX2 86 "LzmaChains$Row" "data" "[I", Cond.constantLong RX2 89 16777215] ++ (wsX20 ++ (wsX90 ++ ([]))))
set_option maxHeartbeats 4000000 in
set_option maxRecDepth 100000 in
/-- Coder.shift with nothing gathered, OUT has 15 -/
theorem cx_shift15 (l : Launch) (D : va_G) (cI cJ : ClassId) (ad : Nat → Nat) (g : Nat → Int32) (lg : Nat → Int64) (ar : Nat → Nat → Int32) (bk : Nat → Int64) (sz : Nat)  (h14 : g 14 = 15) (h20 : g 20 = 1) (hL0 : lg 0 = 0) : Met l yX2_shift ww_cx_shift15 { frames := 0, cells := 0, slots := 0, locals := 0 } (va_Pc [.ref (ad 7)] (hk_B D [(cI, .int), (cJ, .long)] sz (xw cI cJ ad g lg ar bk))) (va_Qv (fun u : (Nat → Int32) => True) (fun u : (Nat → Int32) => hk_E D [(cI, .int), (cJ, .long)] (va_A (xw cI cJ ad g lg ar bk) sz) (xw cI cJ ad (upd (upd (upd g 14 16) 19 0) 20 1) (vp_updL lg 0 0) (va_up ar 1 u) bk)) (va_A (xw cI cJ ad g lg ar bk) sz)) 0 0 (va_A (xw cI cJ ad g lg ar bk) sz) := by
  refine hk_met (cc := cX2_shift) (maxL := 4) (ret := none) (by decide) rfl (Nat.le_of_ble_eq_true rfl) ?_
  intro p e s m below meth c ls hx hb hr hml hown hts hlocks hin hA hw hl
  have iX2 : ∀ w ∈ wsX20, w ∈ ww_cx_shift15 := fun _ h => List.mem_cons_of_mem _ (List.mem_append_right _ (List.mem_append_left _ h))
  have iX9 : ∀ w ∈ wsX90, w ∈ ww_cx_shift15 := fun _ h => List.mem_cons_of_mem _ (List.mem_append_right _ (List.mem_append_right _ (List.mem_append_left _ h)))
  have hl : lv_has ls 4 [(0, .ref (ad 7))] := hl
  refine lv_aload_n hx hb dX2_shift_0 rfl (lv_at hl 0 rfl) ?_
  refine hk_get (ci := 5) (C := RX2) (T := TX2) (N := 9) (v := .long 0) hx hb hts iX2 hown hw 7 rfl rfl 4 (by decide) (hts _ (List.mem_of_getElem? (i := 1) rfl)) (congrArg (fun z => some (Value.long z)) hL0) dX2_shift_1 ?_
  refine lv_ldc2 (v := 4278190080) hx hb hown (hts _ (List.mem_of_getElem? (i := 2) rfl)) dX2_shift_4 ?_
  refine hk_lcmp_lt (tgt := 22) hx hb dX2_shift_7 dX2_shift_8 (by decide) (fun _ => ?_) (fun cc_1 => absurd (by decide) cc_1)
  refine lv_aload_n hx hb dX2_shift_22 rfl (lv_at hl 0 rfl) ?_
  refine hk_get (ci := 5) (C := RX2) (T := TX2) (N := 9) (v := .long 0) hx hb hts iX2 hown hw 7 rfl rfl 4 (by decide) (hts _ (List.mem_of_getElem? (i := 1) rfl)) (congrArg (fun z => some (Value.long z)) hL0) dX2_shift_23 ?_
  refine lv_ldc2 (v := 4294967296) hx hb hown (hts _ (List.mem_of_getElem? (i := 3) rfl)) dX2_shift_26 ?_
  refine hk_lcmp_lt (tgt := 37) hx hb dX2_shift_29 dX2_shift_30 (by decide) (fun _ => ?_) (fun cc_2 => absurd (by decide) cc_2)
  refine lv_iconst (v := 0) hx hb dX2_shift_37 (by decide) ?_
  refine lv_istore_n (lv' := [(1, .int 0), (0, .ref (ad 7))]) hx hb dX2_shift_38 rfl hl (by decide) rfl (fun ls hl => ?_)
  refine lv_iconst (v := 0) hx hb dX2_shift_39 (by decide) ?_
  refine lv_istore_n (lv' := [(2, .int 0), (1, .int 0), (0, .ref (ad 7))]) hx hb dX2_shift_40 rfl hl (by decide) rfl (fun ls hl => ?_)
  refine lv_iload_n hx hb dX2_shift_41 rfl (lv_at hl 0 rfl) ?_
  refine lv_aload_n hx hb dX2_shift_42 rfl (lv_at hl 2 rfl) ?_
  refine hk_get (ci := 5) (C := RX2) (T := TX2) (N := 9) (v := .int 1) hx hb hts iX2 hown hw 7 rfl rfl 8 (by decide) (hts _ (List.mem_of_getElem? (i := 4) rfl)) (congrArg (fun z => some (Value.int z)) h20) dX2_shift_43 ?_
  refine lv_icmp_ge (tgt := 133) hx hb dX2_shift_46 (by decide) (fun cc_3 => absurd cc_3 (by decide)) (fun _ => ?_)
  refine lv_iload_n hx hb dX2_shift_49 rfl (lv_at hl 0 rfl) ?_
  refine lv_if_ne (tgt := 60) hx hb dX2_shift_50 (by decide) (fun cc_4 => absurd (by decide) cc_4) (fun _ => ?_)
  refine lv_aload_n hx hb dX2_shift_53 rfl (lv_at hl 2 rfl) ?_
  refine hk_get (ci := 5) (C := RX2) (T := TX2) (N := 9) (v := .int (g 19)) hx hb hts iX2 hown hw 7 rfl rfl 7 (by decide) (hts _ (List.mem_of_getElem? (i := 5) rfl)) rfl dX2_shift_54 ?_
  refine lv_goto (tgt := 63) hx hb dX2_shift_57 (by decide) ?_
  refine lv_iload_n hx hb dX2_shift_63 rfl (lv_at hl 1 rfl) ?_
  refine lv_iadd hx hb dX2_shift_64 ?_
  refine lv_sipush (v := 255) hx hb dX2_shift_65 (by decide) ?_
  refine lv_iand hx hb dX2_shift_68 ?_
  refine lv_istore_n (lv' := [(3, .int (((g 19) + 0) &&& 255)), (2, .int 0), (1, .int 0), (0, .ref (ad 7))]) hx hb dX2_shift_69 rfl hl (by decide) rfl (fun ls hl => ?_)
  refine lv_aload_n hx hb dX2_shift_70 rfl (lv_at hl 3 rfl) ?_
  refine hk_get (ci := 5) (C := RX2) (T := TX2) (N := 9) (v := .ref (ad 4)) hx hb hts iX2 hown hw 7 rfl rfl 2 (by decide) (hts _ (List.mem_of_getElem? (i := 6) rfl)) rfl dX2_shift_71 ?_
  refine hk_get (ci := 12) (C := RX9) (T := TX9) (N := 2) (v := .int 15) hx hb hts iX9 hown hw 4 rfl rfl 1 (by decide) (hts _ (List.mem_of_getElem? (i := 7) rfl)) (congrArg (fun z => some (Value.int z)) h14) dX2_shift_74 ?_
  refine lv_if_lt (tgt := 114) hx hb dX2_shift_77 (by decide) (fun cc_5 => absurd cc_5 (by decide)) (fun _ => ?_)
  refine lv_aload_n hx hb dX2_shift_80 rfl (lv_at hl 3 rfl) ?_
  refine hk_get (ci := 5) (C := RX2) (T := TX2) (N := 9) (v := .ref (ad 4)) hx hb hts iX2 hown hw 7 rfl rfl 2 (by decide) (hts _ (List.mem_of_getElem? (i := 6) rfl)) rfl dX2_shift_81 ?_
  refine hk_get (ci := 12) (C := RX9) (T := TX9) (N := 2) (v := .int 15) hx hb hts iX9 hown hw 4 rfl rfl 1 (by decide) (hts _ (List.mem_of_getElem? (i := 7) rfl)) (congrArg (fun z => some (Value.int z)) h14) dX2_shift_84 ?_
  refine lv_aload_n hx hb dX2_shift_87 rfl (lv_at hl 3 rfl) ?_
  refine hk_get (ci := 5) (C := RX2) (T := TX2) (N := 9) (v := .ref (ad 4)) hx hb hts iX2 hown hw 7 rfl rfl 2 (by decide) (hts _ (List.mem_of_getElem? (i := 6) rfl)) rfl dX2_shift_88 ?_
  refine hk_get (ci := 12) (C := RX9) (T := TX9) (N := 2) (v := .ref (ad 5)) hx hb hts iX9 hown hw 4 rfl rfl 0 (by decide) (hts _ (List.mem_of_getElem? (i := 8) rfl)) rfl dX2_shift_91 ?_
  refine hk_alen (v := 3000) hx hb hw 5 0 rfl rfl rfl dX2_shift_94 ?_
  refine lv_icmp_ge (tgt := 114) hx hb dX2_shift_95 (by decide) (fun cc_6 => absurd cc_6 (by decide)) (fun _ => ?_)
  refine lv_aload_n hx hb dX2_shift_98 rfl (lv_at hl 3 rfl) ?_
  refine hk_get (ci := 5) (C := RX2) (T := TX2) (N := 9) (v := .ref (ad 4)) hx hb hts iX2 hown hw 7 rfl rfl 2 (by decide) (hts _ (List.mem_of_getElem? (i := 6) rfl)) rfl dX2_shift_99 ?_
  refine hk_get (ci := 12) (C := RX9) (T := TX9) (N := 2) (v := .ref (ad 5)) hx hb hts iX9 hown hw 4 rfl rfl 0 (by decide) (hts _ (List.mem_of_getElem? (i := 8) rfl)) rfl dX2_shift_102 ?_
  refine lv_aload_n hx hb dX2_shift_105 rfl (lv_at hl 3 rfl) ?_
  refine hk_get (ci := 5) (C := RX2) (T := TX2) (N := 9) (v := .ref (ad 4)) hx hb hts iX2 hown hw 7 rfl rfl 2 (by decide) (hts _ (List.mem_of_getElem? (i := 6) rfl)) rfl dX2_shift_106 ?_
  refine hk_get (ci := 12) (C := RX9) (T := TX9) (N := 2) (v := .int 15) hx hb hts iX9 hown hw 4 rfl rfl 1 (by decide) (hts _ (List.mem_of_getElem? (i := 7) rfl)) (congrArg (fun z => some (Value.int z)) h14) dX2_shift_109 ?_
  refine lv_iload_n hx hb dX2_shift_112 rfl (lv_at hl 0 rfl) ?_
  refine hk_iast hx hb hw 5 0 rfl rfl (show ¬ (_ ∨ _) by decide) dX2_shift_113 (ws' := xw cI cJ ad g lg (va_up ar 1 (upd (ar 1) 15 (((g 19) + 0) &&& 255))) bk) rfl (fun H locs hw => ?_)
  refine lv_aload_n hx hb dX2_shift_114 rfl (lv_at hl 3 rfl) ?_
  refine hk_get (ci := 5) (C := RX2) (T := TX2) (N := 9) (v := .ref (ad 4)) hx hb hts iX2 hown hw 7 rfl rfl 2 (by decide) (hts _ (List.mem_of_getElem? (i := 6) rfl)) rfl dX2_shift_115 ?_
  refine lv_dup hx hb dX2_shift_118 rfl ?_
  refine hk_get (ci := 12) (C := RX9) (T := TX9) (N := 2) (v := .int 15) hx hb hts iX9 hown hw 4 rfl rfl 1 (by decide) (hts _ (List.mem_of_getElem? (i := 7) rfl)) (congrArg (fun z => some (Value.int z)) h14) dX2_shift_119 ?_
  refine lv_iconst (v := 1) hx hb dX2_shift_122 (by decide) ?_
  refine lv_iadd hx hb dX2_shift_123 ?_
  refine hk_topi 16 (by decide +kernel) ?_
  refine hk_put (ci := 12) (C := RX9) (T := TX9) (N := 2) (ty := .int) (v := .int 16) hx hb hts iX9 tyX9 tyX9_ok nmX9 hown hw 4 rfl rfl 1 (by decide) (hts _ (List.mem_of_getElem? (i := 7) rfl)) rfl (by decide +kernel) rfl rfl (Nat.le_of_ble_eq_true rfl) dX2_shift_124 (ws' := xw cI cJ ad (upd g 14 16) lg (va_up ar 1 (upd (ar 1) 15 (((g 19) + 0) &&& 255))) bk) rfl (fun H locs hw => ?_)
  refine lv_iinc (v := 1) (lv' := [(2, .int 1), (3, .int (((g 19) + 0) &&& 255)), (1, .int 0), (0, .ref (ad 7))]) hx hb dX2_shift_127 hl (k := 1) rfl rfl (by decide) rfl (fun ls hl => ?_)
  refine lv_goto (tgt := 41) hx hb dX2_shift_130 (by decide) ?_
  refine lv_iload_n hx hb dX2_shift_41 rfl (lv_at hl 0 rfl) ?_
  refine lv_aload_n hx hb dX2_shift_42 rfl (lv_at hl 3 rfl) ?_
  refine hk_get (ci := 5) (C := RX2) (T := TX2) (N := 9) (v := .int 1) hx hb hts iX2 hown hw 7 rfl rfl 8 (by decide) (hts _ (List.mem_of_getElem? (i := 4) rfl)) (congrArg (fun z => some (Value.int z)) h20) dX2_shift_43 ?_
  refine lv_icmp_ge (tgt := 133) hx hb dX2_shift_46 (by decide) (fun _ => ?_) (fun cc_7 => absurd (by decide) cc_7)
  refine lv_aload_n hx hb dX2_shift_133 rfl (lv_at hl 3 rfl) ?_
  refine lv_iconst (v := 0) hx hb dX2_shift_134 (by decide) ?_
  refine hk_put (ci := 5) (C := RX2) (T := TX2) (N := 9) (ty := .int) (v := .int 0) hx hb hts iX2 tyX2 tyX2_ok nmX2 hown hw 7 rfl rfl 8 (by decide) (hts _ (List.mem_of_getElem? (i := 4) rfl)) rfl (by decide +kernel) rfl rfl (Nat.le_of_ble_eq_true rfl) dX2_shift_135 (ws' := xw cI cJ ad (upd (upd g 14 16) 20 0) lg (va_up ar 1 (upd (ar 1) 15 (((g 19) + 0) &&& 255))) bk) rfl (fun H locs hw => ?_)
  refine lv_aload_n hx hb dX2_shift_138 rfl (lv_at hl 3 rfl) ?_
  refine lv_aload_n hx hb dX2_shift_139 rfl (lv_at hl 3 rfl) ?_
  refine hk_get (ci := 5) (C := RX2) (T := TX2) (N := 9) (v := .long 0) hx hb hts iX2 hown hw 7 rfl rfl 4 (by decide) (hts _ (List.mem_of_getElem? (i := 1) rfl)) (congrArg (fun z => some (Value.long z)) hL0) dX2_shift_140 ?_
  refine lv_bipush (v := 24) hx hb dX2_shift_143 (by decide) ?_
  refine lv_lushr (v := ((0 : Int64).toUInt64 >>> ((24 : Int32).toInt64.toUInt64 &&& Int64.toUInt64 63)).toInt64) hx hb dX2_shift_145 rfl ?_
  refine hk_topl 0 (by decide +kernel) ?_
  refine lv_l2i (v := (0 : Int64).toInt32) hx hb dX2_shift_146 rfl ?_
  refine hk_topi 0 (by decide +kernel) ?_
  refine lv_sipush (v := 255) hx hb dX2_shift_147 (by decide) ?_
  refine lv_iand hx hb dX2_shift_150 ?_
  refine hk_topi 0 (by decide +kernel) ?_
  refine hk_put (ci := 5) (C := RX2) (T := TX2) (N := 9) (ty := .int) (v := .int 0) hx hb hts iX2 tyX2 tyX2_ok nmX2 hown hw 7 rfl rfl 7 (by decide) (hts _ (List.mem_of_getElem? (i := 5) rfl)) rfl (by decide +kernel) rfl rfl (Nat.le_of_ble_eq_true rfl) dX2_shift_151 (ws' := xw cI cJ ad (upd (upd (upd g 14 16) 20 0) 19 0) lg (va_up ar 1 (upd (ar 1) 15 (((g 19) + 0) &&& 255))) bk) rfl (fun H locs hw => ?_)
  refine lv_aload_n hx hb dX2_shift_154 rfl (lv_at hl 3 rfl) ?_
  refine lv_dup hx hb dX2_shift_155 rfl ?_
  refine hk_get (ci := 5) (C := RX2) (T := TX2) (N := 9) (v := .int 0) hx hb hts iX2 hown hw 7 rfl rfl 8 (by decide) (hts _ (List.mem_of_getElem? (i := 4) rfl)) rfl dX2_shift_156 ?_
  refine lv_iconst (v := 1) hx hb dX2_shift_159 (by decide) ?_
  refine lv_iadd hx hb dX2_shift_160 ?_
  refine hk_topi 1 (by decide +kernel) ?_
  refine hk_put (ci := 5) (C := RX2) (T := TX2) (N := 9) (ty := .int) (v := .int 1) hx hb hts iX2 tyX2 tyX2_ok nmX2 hown hw 7 rfl rfl 8 (by decide) (hts _ (List.mem_of_getElem? (i := 4) rfl)) rfl (by decide +kernel) rfl rfl (Nat.le_of_ble_eq_true rfl) dX2_shift_161 (ws' := xw cI cJ ad (upd (upd (upd g 14 16) 20 1) 19 0) lg (va_up ar 1 (upd (ar 1) 15 (((g 19) + 0) &&& 255))) bk) rfl (fun H locs hw => ?_)
  refine lv_aload_n hx hb dX2_shift_164 rfl (lv_at hl 3 rfl) ?_
  refine lv_aload_n hx hb dX2_shift_165 rfl (lv_at hl 3 rfl) ?_
  refine hk_get (ci := 5) (C := RX2) (T := TX2) (N := 9) (v := .long 0) hx hb hts iX2 hown hw 7 rfl rfl 4 (by decide) (hts _ (List.mem_of_getElem? (i := 1) rfl)) (congrArg (fun z => some (Value.long z)) hL0) dX2_shift_166 ?_
  refine lv_ldc2 (v := 16777215) hx hb hown (hts _ (List.mem_of_getElem? (i := 9) rfl)) dX2_shift_169 ?_
  refine lv_land hx hb dX2_shift_172 ?_
  refine hk_topl 0 (by decide +kernel) ?_
  refine lv_bipush (v := 8) hx hb dX2_shift_173 (by decide) ?_
  refine lv_lshl (v := ((0 : Int64) <<< ((8 : Int32).toInt64 &&& 63))) hx hb dX2_shift_175 rfl ?_
  refine hk_topl 0 (by decide +kernel) ?_
  refine hk_put (ci := 5) (C := RX2) (T := TX2) (N := 9) (ty := .long) (v := .long 0) hx hb hts iX2 tyX2 tyX2_ok nmX2 hown hw 7 rfl rfl 4 (by decide) (hts _ (List.mem_of_getElem? (i := 1) rfl)) rfl (by decide +kernel) rfl rfl (Nat.le_of_ble_eq_true rfl) dX2_shift_176 (ws' := xw cI cJ ad (upd (upd (upd g 14 16) 20 1) 19 0) (vp_updL lg 0 0) (va_up ar 1 (upd (ar 1) 15 (((g 19) + 0) &&& 255))) bk) rfl (fun H locs hw => ?_)
  exact hk_vret (u := (upd (ar 1) 15 (((g 19) + 0) &&& 255))) hx hb hr hlocks (show hk_W D [(cI, .int), (cJ, .long)] _ s _ _ (xw cI cJ ad (upd (upd (upd g 14 16) 19 0) 20 1) (vp_updL lg 0 0) (va_up ar 1 (upd (ar 1) 15 (((g 19) + 0) &&& 255))) bk) from hw) (trivial) dX2_shift_179

def ww_cx_shift16 : List Cond := Cond.code yX2_shift cX2_shift 4 none :: ([Cond.fieldLink RX2 27 "LzmaChains$Coder" "low" "J", Cond.constantLong RX2 77 4278190080, Cond.constantLong RX2 79 4294967296, Cond.fieldLink RX2 40 "LzmaChains$Coder" "waiting" "I", Cond.fieldLink RX2 36 "LzmaChains$Coder" "held" "I", Cond.fieldLink RX2 13 "LzmaChains$Coder" "sink" "LLzmaChains$Row;", Cond.fieldLink RX2 81 "LzmaChains$Row" "size" "I", Cond.fieldLink RX2 86 "LzmaChains$Row" "data" "[I", Cond.constantLong RX2 89 16777215] ++ (wsX20 ++ (wsX90 ++ ([]))))
set_option maxHeartbeats 4000000 in
set_option maxRecDepth 100000 in
/-- Coder.shift with nothing gathered, OUT has 16 -/
theorem cx_shift16 (l : Launch) (D : va_G) (cI cJ : ClassId) (ad : Nat → Nat) (g : Nat → Int32) (lg : Nat → Int64) (ar : Nat → Nat → Int32) (bk : Nat → Int64) (sz : Nat)  (h14 : g 14 = 16) (h20 : g 20 = 1) (hL0 : lg 0 = 0) : Met l yX2_shift ww_cx_shift16 { frames := 0, cells := 0, slots := 0, locals := 0 } (va_Pc [.ref (ad 7)] (hk_B D [(cI, .int), (cJ, .long)] sz (xw cI cJ ad g lg ar bk))) (va_Qv (fun u : (Nat → Int32) => True) (fun u : (Nat → Int32) => hk_E D [(cI, .int), (cJ, .long)] (va_A (xw cI cJ ad g lg ar bk) sz) (xw cI cJ ad (upd (upd (upd g 14 17) 19 0) 20 1) (vp_updL lg 0 0) (va_up ar 1 u) bk)) (va_A (xw cI cJ ad g lg ar bk) sz)) 0 0 (va_A (xw cI cJ ad g lg ar bk) sz) := by
  refine hk_met (cc := cX2_shift) (maxL := 4) (ret := none) (by decide) rfl (Nat.le_of_ble_eq_true rfl) ?_
  intro p e s m below meth c ls hx hb hr hml hown hts hlocks hin hA hw hl
  have iX2 : ∀ w ∈ wsX20, w ∈ ww_cx_shift16 := fun _ h => List.mem_cons_of_mem _ (List.mem_append_right _ (List.mem_append_left _ h))
  have iX9 : ∀ w ∈ wsX90, w ∈ ww_cx_shift16 := fun _ h => List.mem_cons_of_mem _ (List.mem_append_right _ (List.mem_append_right _ (List.mem_append_left _ h)))
  have hl : lv_has ls 4 [(0, .ref (ad 7))] := hl
  refine lv_aload_n hx hb dX2_shift_0 rfl (lv_at hl 0 rfl) ?_
  refine hk_get (ci := 5) (C := RX2) (T := TX2) (N := 9) (v := .long 0) hx hb hts iX2 hown hw 7 rfl rfl 4 (by decide) (hts _ (List.mem_of_getElem? (i := 1) rfl)) (congrArg (fun z => some (Value.long z)) hL0) dX2_shift_1 ?_
  refine lv_ldc2 (v := 4278190080) hx hb hown (hts _ (List.mem_of_getElem? (i := 2) rfl)) dX2_shift_4 ?_
  refine hk_lcmp_lt (tgt := 22) hx hb dX2_shift_7 dX2_shift_8 (by decide) (fun _ => ?_) (fun cc_1 => absurd (by decide) cc_1)
  refine lv_aload_n hx hb dX2_shift_22 rfl (lv_at hl 0 rfl) ?_
  refine hk_get (ci := 5) (C := RX2) (T := TX2) (N := 9) (v := .long 0) hx hb hts iX2 hown hw 7 rfl rfl 4 (by decide) (hts _ (List.mem_of_getElem? (i := 1) rfl)) (congrArg (fun z => some (Value.long z)) hL0) dX2_shift_23 ?_
  refine lv_ldc2 (v := 4294967296) hx hb hown (hts _ (List.mem_of_getElem? (i := 3) rfl)) dX2_shift_26 ?_
  refine hk_lcmp_lt (tgt := 37) hx hb dX2_shift_29 dX2_shift_30 (by decide) (fun _ => ?_) (fun cc_2 => absurd (by decide) cc_2)
  refine lv_iconst (v := 0) hx hb dX2_shift_37 (by decide) ?_
  refine lv_istore_n (lv' := [(1, .int 0), (0, .ref (ad 7))]) hx hb dX2_shift_38 rfl hl (by decide) rfl (fun ls hl => ?_)
  refine lv_iconst (v := 0) hx hb dX2_shift_39 (by decide) ?_
  refine lv_istore_n (lv' := [(2, .int 0), (1, .int 0), (0, .ref (ad 7))]) hx hb dX2_shift_40 rfl hl (by decide) rfl (fun ls hl => ?_)
  refine lv_iload_n hx hb dX2_shift_41 rfl (lv_at hl 0 rfl) ?_
  refine lv_aload_n hx hb dX2_shift_42 rfl (lv_at hl 2 rfl) ?_
  refine hk_get (ci := 5) (C := RX2) (T := TX2) (N := 9) (v := .int 1) hx hb hts iX2 hown hw 7 rfl rfl 8 (by decide) (hts _ (List.mem_of_getElem? (i := 4) rfl)) (congrArg (fun z => some (Value.int z)) h20) dX2_shift_43 ?_
  refine lv_icmp_ge (tgt := 133) hx hb dX2_shift_46 (by decide) (fun cc_3 => absurd cc_3 (by decide)) (fun _ => ?_)
  refine lv_iload_n hx hb dX2_shift_49 rfl (lv_at hl 0 rfl) ?_
  refine lv_if_ne (tgt := 60) hx hb dX2_shift_50 (by decide) (fun cc_4 => absurd (by decide) cc_4) (fun _ => ?_)
  refine lv_aload_n hx hb dX2_shift_53 rfl (lv_at hl 2 rfl) ?_
  refine hk_get (ci := 5) (C := RX2) (T := TX2) (N := 9) (v := .int (g 19)) hx hb hts iX2 hown hw 7 rfl rfl 7 (by decide) (hts _ (List.mem_of_getElem? (i := 5) rfl)) rfl dX2_shift_54 ?_
  refine lv_goto (tgt := 63) hx hb dX2_shift_57 (by decide) ?_
  refine lv_iload_n hx hb dX2_shift_63 rfl (lv_at hl 1 rfl) ?_
  refine lv_iadd hx hb dX2_shift_64 ?_
  refine lv_sipush (v := 255) hx hb dX2_shift_65 (by decide) ?_
  refine lv_iand hx hb dX2_shift_68 ?_
  refine lv_istore_n (lv' := [(3, .int (((g 19) + 0) &&& 255)), (2, .int 0), (1, .int 0), (0, .ref (ad 7))]) hx hb dX2_shift_69 rfl hl (by decide) rfl (fun ls hl => ?_)
  refine lv_aload_n hx hb dX2_shift_70 rfl (lv_at hl 3 rfl) ?_
  refine hk_get (ci := 5) (C := RX2) (T := TX2) (N := 9) (v := .ref (ad 4)) hx hb hts iX2 hown hw 7 rfl rfl 2 (by decide) (hts _ (List.mem_of_getElem? (i := 6) rfl)) rfl dX2_shift_71 ?_
  refine hk_get (ci := 12) (C := RX9) (T := TX9) (N := 2) (v := .int 16) hx hb hts iX9 hown hw 4 rfl rfl 1 (by decide) (hts _ (List.mem_of_getElem? (i := 7) rfl)) (congrArg (fun z => some (Value.int z)) h14) dX2_shift_74 ?_
  refine lv_if_lt (tgt := 114) hx hb dX2_shift_77 (by decide) (fun cc_5 => absurd cc_5 (by decide)) (fun _ => ?_)
  refine lv_aload_n hx hb dX2_shift_80 rfl (lv_at hl 3 rfl) ?_
  refine hk_get (ci := 5) (C := RX2) (T := TX2) (N := 9) (v := .ref (ad 4)) hx hb hts iX2 hown hw 7 rfl rfl 2 (by decide) (hts _ (List.mem_of_getElem? (i := 6) rfl)) rfl dX2_shift_81 ?_
  refine hk_get (ci := 12) (C := RX9) (T := TX9) (N := 2) (v := .int 16) hx hb hts iX9 hown hw 4 rfl rfl 1 (by decide) (hts _ (List.mem_of_getElem? (i := 7) rfl)) (congrArg (fun z => some (Value.int z)) h14) dX2_shift_84 ?_
  refine lv_aload_n hx hb dX2_shift_87 rfl (lv_at hl 3 rfl) ?_
  refine hk_get (ci := 5) (C := RX2) (T := TX2) (N := 9) (v := .ref (ad 4)) hx hb hts iX2 hown hw 7 rfl rfl 2 (by decide) (hts _ (List.mem_of_getElem? (i := 6) rfl)) rfl dX2_shift_88 ?_
  refine hk_get (ci := 12) (C := RX9) (T := TX9) (N := 2) (v := .ref (ad 5)) hx hb hts iX9 hown hw 4 rfl rfl 0 (by decide) (hts _ (List.mem_of_getElem? (i := 8) rfl)) rfl dX2_shift_91 ?_
  refine hk_alen (v := 3000) hx hb hw 5 0 rfl rfl rfl dX2_shift_94 ?_
  refine lv_icmp_ge (tgt := 114) hx hb dX2_shift_95 (by decide) (fun cc_6 => absurd cc_6 (by decide)) (fun _ => ?_)
  refine lv_aload_n hx hb dX2_shift_98 rfl (lv_at hl 3 rfl) ?_
  refine hk_get (ci := 5) (C := RX2) (T := TX2) (N := 9) (v := .ref (ad 4)) hx hb hts iX2 hown hw 7 rfl rfl 2 (by decide) (hts _ (List.mem_of_getElem? (i := 6) rfl)) rfl dX2_shift_99 ?_
  refine hk_get (ci := 12) (C := RX9) (T := TX9) (N := 2) (v := .ref (ad 5)) hx hb hts iX9 hown hw 4 rfl rfl 0 (by decide) (hts _ (List.mem_of_getElem? (i := 8) rfl)) rfl dX2_shift_102 ?_
  refine lv_aload_n hx hb dX2_shift_105 rfl (lv_at hl 3 rfl) ?_
  refine hk_get (ci := 5) (C := RX2) (T := TX2) (N := 9) (v := .ref (ad 4)) hx hb hts iX2 hown hw 7 rfl rfl 2 (by decide) (hts _ (List.mem_of_getElem? (i := 6) rfl)) rfl dX2_shift_106 ?_
  refine hk_get (ci := 12) (C := RX9) (T := TX9) (N := 2) (v := .int 16) hx hb hts iX9 hown hw 4 rfl rfl 1 (by decide) (hts _ (List.mem_of_getElem? (i := 7) rfl)) (congrArg (fun z => some (Value.int z)) h14) dX2_shift_109 ?_
  refine lv_iload_n hx hb dX2_shift_112 rfl (lv_at hl 0 rfl) ?_
  refine hk_iast hx hb hw 5 0 rfl rfl (show ¬ (_ ∨ _) by decide) dX2_shift_113 (ws' := xw cI cJ ad g lg (va_up ar 1 (upd (ar 1) 16 (((g 19) + 0) &&& 255))) bk) rfl (fun H locs hw => ?_)
  refine lv_aload_n hx hb dX2_shift_114 rfl (lv_at hl 3 rfl) ?_
  refine hk_get (ci := 5) (C := RX2) (T := TX2) (N := 9) (v := .ref (ad 4)) hx hb hts iX2 hown hw 7 rfl rfl 2 (by decide) (hts _ (List.mem_of_getElem? (i := 6) rfl)) rfl dX2_shift_115 ?_
  refine lv_dup hx hb dX2_shift_118 rfl ?_
  refine hk_get (ci := 12) (C := RX9) (T := TX9) (N := 2) (v := .int 16) hx hb hts iX9 hown hw 4 rfl rfl 1 (by decide) (hts _ (List.mem_of_getElem? (i := 7) rfl)) (congrArg (fun z => some (Value.int z)) h14) dX2_shift_119 ?_
  refine lv_iconst (v := 1) hx hb dX2_shift_122 (by decide) ?_
  refine lv_iadd hx hb dX2_shift_123 ?_
  refine hk_topi 17 (by decide +kernel) ?_
  refine hk_put (ci := 12) (C := RX9) (T := TX9) (N := 2) (ty := .int) (v := .int 17) hx hb hts iX9 tyX9 tyX9_ok nmX9 hown hw 4 rfl rfl 1 (by decide) (hts _ (List.mem_of_getElem? (i := 7) rfl)) rfl (by decide +kernel) rfl rfl (Nat.le_of_ble_eq_true rfl) dX2_shift_124 (ws' := xw cI cJ ad (upd g 14 17) lg (va_up ar 1 (upd (ar 1) 16 (((g 19) + 0) &&& 255))) bk) rfl (fun H locs hw => ?_)
  refine lv_iinc (v := 1) (lv' := [(2, .int 1), (3, .int (((g 19) + 0) &&& 255)), (1, .int 0), (0, .ref (ad 7))]) hx hb dX2_shift_127 hl (k := 1) rfl rfl (by decide) rfl (fun ls hl => ?_)
  refine lv_goto (tgt := 41) hx hb dX2_shift_130 (by decide) ?_
  refine lv_iload_n hx hb dX2_shift_41 rfl (lv_at hl 0 rfl) ?_
  refine lv_aload_n hx hb dX2_shift_42 rfl (lv_at hl 3 rfl) ?_
  refine hk_get (ci := 5) (C := RX2) (T := TX2) (N := 9) (v := .int 1) hx hb hts iX2 hown hw 7 rfl rfl 8 (by decide) (hts _ (List.mem_of_getElem? (i := 4) rfl)) (congrArg (fun z => some (Value.int z)) h20) dX2_shift_43 ?_
  refine lv_icmp_ge (tgt := 133) hx hb dX2_shift_46 (by decide) (fun _ => ?_) (fun cc_7 => absurd (by decide) cc_7)
  refine lv_aload_n hx hb dX2_shift_133 rfl (lv_at hl 3 rfl) ?_
  refine lv_iconst (v := 0) hx hb dX2_shift_134 (by decide) ?_
  refine hk_put (ci := 5) (C := RX2) (T := TX2) (N := 9) (ty := .int) (v := .int 0) hx hb hts iX2 tyX2 tyX2_ok nmX2 hown hw 7 rfl rfl 8 (by decide) (hts _ (List.mem_of_getElem? (i := 4) rfl)) rfl (by decide +kernel) rfl rfl (Nat.le_of_ble_eq_true rfl) dX2_shift_135 (ws' := xw cI cJ ad (upd (upd g 14 17) 20 0) lg (va_up ar 1 (upd (ar 1) 16 (((g 19) + 0) &&& 255))) bk) rfl (fun H locs hw => ?_)
  refine lv_aload_n hx hb dX2_shift_138 rfl (lv_at hl 3 rfl) ?_
  refine lv_aload_n hx hb dX2_shift_139 rfl (lv_at hl 3 rfl) ?_
  refine hk_get (ci := 5) (C := RX2) (T := TX2) (N := 9) (v := .long 0) hx hb hts iX2 hown hw 7 rfl rfl 4 (by decide) (hts _ (List.mem_of_getElem? (i := 1) rfl)) (congrArg (fun z => some (Value.long z)) hL0) dX2_shift_140 ?_
  refine lv_bipush (v := 24) hx hb dX2_shift_143 (by decide) ?_
  refine lv_lushr (v := ((0 : Int64).toUInt64 >>> ((24 : Int32).toInt64.toUInt64 &&& Int64.toUInt64 63)).toInt64) hx hb dX2_shift_145 rfl ?_
  refine hk_topl 0 (by decide +kernel) ?_
  refine lv_l2i (v := (0 : Int64).toInt32) hx hb dX2_shift_146 rfl ?_
  refine hk_topi 0 (by decide +kernel) ?_
  refine lv_sipush (v := 255) hx hb dX2_shift_147 (by decide) ?_
  refine lv_iand hx hb dX2_shift_150 ?_
  refine hk_topi 0 (by decide +kernel) ?_
  refine hk_put (ci := 5) (C := RX2) (T := TX2) (N := 9) (ty := .int) (v := .int 0) hx hb hts iX2 tyX2 tyX2_ok nmX2 hown hw 7 rfl rfl 7 (by decide) (hts _ (List.mem_of_getElem? (i := 5) rfl)) rfl (by decide +kernel) rfl rfl (Nat.le_of_ble_eq_true rfl) dX2_shift_151 (ws' := xw cI cJ ad (upd (upd (upd g 14 17) 20 0) 19 0) lg (va_up ar 1 (upd (ar 1) 16 (((g 19) + 0) &&& 255))) bk) rfl (fun H locs hw => ?_)
  refine lv_aload_n hx hb dX2_shift_154 rfl (lv_at hl 3 rfl) ?_
  refine lv_dup hx hb dX2_shift_155 rfl ?_
  refine hk_get (ci := 5) (C := RX2) (T := TX2) (N := 9) (v := .int 0) hx hb hts iX2 hown hw 7 rfl rfl 8 (by decide) (hts _ (List.mem_of_getElem? (i := 4) rfl)) rfl dX2_shift_156 ?_
  refine lv_iconst (v := 1) hx hb dX2_shift_159 (by decide) ?_
  refine lv_iadd hx hb dX2_shift_160 ?_
  refine hk_topi 1 (by decide +kernel) ?_
  refine hk_put (ci := 5) (C := RX2) (T := TX2) (N := 9) (ty := .int) (v := .int 1) hx hb hts iX2 tyX2 tyX2_ok nmX2 hown hw 7 rfl rfl 8 (by decide) (hts _ (List.mem_of_getElem? (i := 4) rfl)) rfl (by decide +kernel) rfl rfl (Nat.le_of_ble_eq_true rfl) dX2_shift_161 (ws' := xw cI cJ ad (upd (upd (upd g 14 17) 20 1) 19 0) lg (va_up ar 1 (upd (ar 1) 16 (((g 19) + 0) &&& 255))) bk) rfl (fun H locs hw => ?_)
  refine lv_aload_n hx hb dX2_shift_164 rfl (lv_at hl 3 rfl) ?_
  refine lv_aload_n hx hb dX2_shift_165 rfl (lv_at hl 3 rfl) ?_
  refine hk_get (ci := 5) (C := RX2) (T := TX2) (N := 9) (v := .long 0) hx hb hts iX2 hown hw 7 rfl rfl 4 (by decide) (hts _ (List.mem_of_getElem? (i := 1) rfl)) (congrArg (fun z => some (Value.long z)) hL0) dX2_shift_166 ?_
  refine lv_ldc2 (v := 16777215) hx hb hown (hts _ (List.mem_of_getElem? (i := 9) rfl)) dX2_shift_169 ?_
  refine lv_land hx hb dX2_shift_172 ?_
  refine hk_topl 0 (by decide +kernel) ?_
  refine lv_bipush (v := 8) hx hb dX2_shift_173 (by decide) ?_
  refine lv_lshl (v := ((0 : Int64) <<< ((8 : Int32).toInt64 &&& 63))) hx hb dX2_shift_175 rfl ?_
  refine hk_topl 0 (by decide +kernel) ?_
  refine hk_put (ci := 5) (C := RX2) (T := TX2) (N := 9) (ty := .long) (v := .long 0) hx hb hts iX2 tyX2 tyX2_ok nmX2 hown hw 7 rfl rfl 4 (by decide) (hts _ (List.mem_of_getElem? (i := 1) rfl)) rfl (by decide +kernel) rfl rfl (Nat.le_of_ble_eq_true rfl) dX2_shift_176 (ws' := xw cI cJ ad (upd (upd (upd g 14 17) 20 1) 19 0) (vp_updL lg 0 0) (va_up ar 1 (upd (ar 1) 16 (((g 19) + 0) &&& 255))) bk) rfl (fun H locs hw => ?_)
  exact hk_vret (u := (upd (ar 1) 16 (((g 19) + 0) &&& 255))) hx hb hr hlocks (show hk_W D [(cI, .int), (cJ, .long)] _ s _ _ (xw cI cJ ad (upd (upd (upd g 14 17) 19 0) 20 1) (vp_updL lg 0 0) (va_up ar 1 (upd (ar 1) 16 (((g 19) + 0) &&& 255))) bk) from hw) (trivial) dX2_shift_179

def ww_cx_shift17 : List Cond := Cond.code yX2_shift cX2_shift 4 none :: ([Cond.fieldLink RX2 27 "LzmaChains$Coder" "low" "J", Cond.constantLong RX2 77 4278190080, Cond.constantLong RX2 79 4294967296, Cond.fieldLink RX2 40 "LzmaChains$Coder" "waiting" "I", Cond.fieldLink RX2 36 "LzmaChains$Coder" "held" "I", Cond.fieldLink RX2 13 "LzmaChains$Coder" "sink" "LLzmaChains$Row;", Cond.fieldLink RX2 81 "LzmaChains$Row" "size" "I", Cond.fieldLink RX2 86 "LzmaChains$Row" "data" "[I", Cond.constantLong RX2 89 16777215] ++ (wsX20 ++ (wsX90 ++ ([]))))
set_option maxHeartbeats 4000000 in
set_option maxRecDepth 100000 in
/-- Coder.shift with nothing gathered, OUT has 17 -/
theorem cx_shift17 (l : Launch) (D : va_G) (cI cJ : ClassId) (ad : Nat → Nat) (g : Nat → Int32) (lg : Nat → Int64) (ar : Nat → Nat → Int32) (bk : Nat → Int64) (sz : Nat)  (h14 : g 14 = 17) (h20 : g 20 = 1) (hL0 : lg 0 = 0) : Met l yX2_shift ww_cx_shift17 { frames := 0, cells := 0, slots := 0, locals := 0 } (va_Pc [.ref (ad 7)] (hk_B D [(cI, .int), (cJ, .long)] sz (xw cI cJ ad g lg ar bk))) (va_Qv (fun u : (Nat → Int32) => True) (fun u : (Nat → Int32) => hk_E D [(cI, .int), (cJ, .long)] (va_A (xw cI cJ ad g lg ar bk) sz) (xw cI cJ ad (upd (upd (upd g 14 18) 19 0) 20 1) (vp_updL lg 0 0) (va_up ar 1 u) bk)) (va_A (xw cI cJ ad g lg ar bk) sz)) 0 0 (va_A (xw cI cJ ad g lg ar bk) sz) := by
  refine hk_met (cc := cX2_shift) (maxL := 4) (ret := none) (by decide) rfl (Nat.le_of_ble_eq_true rfl) ?_
  intro p e s m below meth c ls hx hb hr hml hown hts hlocks hin hA hw hl
  have iX2 : ∀ w ∈ wsX20, w ∈ ww_cx_shift17 := fun _ h => List.mem_cons_of_mem _ (List.mem_append_right _ (List.mem_append_left _ h))
  have iX9 : ∀ w ∈ wsX90, w ∈ ww_cx_shift17 := fun _ h => List.mem_cons_of_mem _ (List.mem_append_right _ (List.mem_append_right _ (List.mem_append_left _ h)))
  have hl : lv_has ls 4 [(0, .ref (ad 7))] := hl
  refine lv_aload_n hx hb dX2_shift_0 rfl (lv_at hl 0 rfl) ?_
  refine hk_get (ci := 5) (C := RX2) (T := TX2) (N := 9) (v := .long 0) hx hb hts iX2 hown hw 7 rfl rfl 4 (by decide) (hts _ (List.mem_of_getElem? (i := 1) rfl)) (congrArg (fun z => some (Value.long z)) hL0) dX2_shift_1 ?_
  refine lv_ldc2 (v := 4278190080) hx hb hown (hts _ (List.mem_of_getElem? (i := 2) rfl)) dX2_shift_4 ?_
  refine hk_lcmp_lt (tgt := 22) hx hb dX2_shift_7 dX2_shift_8 (by decide) (fun _ => ?_) (fun cc_1 => absurd (by decide) cc_1)
  refine lv_aload_n hx hb dX2_shift_22 rfl (lv_at hl 0 rfl) ?_
  refine hk_get (ci := 5) (C := RX2) (T := TX2) (N := 9) (v := .long 0) hx hb hts iX2 hown hw 7 rfl rfl 4 (by decide) (hts _ (List.mem_of_getElem? (i := 1) rfl)) (congrArg (fun z => some (Value.long z)) hL0) dX2_shift_23 ?_
  refine lv_ldc2 (v := 4294967296) hx hb hown (hts _ (List.mem_of_getElem? (i := 3) rfl)) dX2_shift_26 ?_
  refine hk_lcmp_lt (tgt := 37) hx hb dX2_shift_29 dX2_shift_30 (by decide) (fun _ => ?_) (fun cc_2 => absurd (by decide) cc_2)
  refine lv_iconst (v := 0) hx hb dX2_shift_37 (by decide) ?_
  refine lv_istore_n (lv' := [(1, .int 0), (0, .ref (ad 7))]) hx hb dX2_shift_38 rfl hl (by decide) rfl (fun ls hl => ?_)
  refine lv_iconst (v := 0) hx hb dX2_shift_39 (by decide) ?_
  refine lv_istore_n (lv' := [(2, .int 0), (1, .int 0), (0, .ref (ad 7))]) hx hb dX2_shift_40 rfl hl (by decide) rfl (fun ls hl => ?_)
  refine lv_iload_n hx hb dX2_shift_41 rfl (lv_at hl 0 rfl) ?_
  refine lv_aload_n hx hb dX2_shift_42 rfl (lv_at hl 2 rfl) ?_
  refine hk_get (ci := 5) (C := RX2) (T := TX2) (N := 9) (v := .int 1) hx hb hts iX2 hown hw 7 rfl rfl 8 (by decide) (hts _ (List.mem_of_getElem? (i := 4) rfl)) (congrArg (fun z => some (Value.int z)) h20) dX2_shift_43 ?_
  refine lv_icmp_ge (tgt := 133) hx hb dX2_shift_46 (by decide) (fun cc_3 => absurd cc_3 (by decide)) (fun _ => ?_)
  refine lv_iload_n hx hb dX2_shift_49 rfl (lv_at hl 0 rfl) ?_
  refine lv_if_ne (tgt := 60) hx hb dX2_shift_50 (by decide) (fun cc_4 => absurd (by decide) cc_4) (fun _ => ?_)
  refine lv_aload_n hx hb dX2_shift_53 rfl (lv_at hl 2 rfl) ?_
  refine hk_get (ci := 5) (C := RX2) (T := TX2) (N := 9) (v := .int (g 19)) hx hb hts iX2 hown hw 7 rfl rfl 7 (by decide) (hts _ (List.mem_of_getElem? (i := 5) rfl)) rfl dX2_shift_54 ?_
  refine lv_goto (tgt := 63) hx hb dX2_shift_57 (by decide) ?_
  refine lv_iload_n hx hb dX2_shift_63 rfl (lv_at hl 1 rfl) ?_
  refine lv_iadd hx hb dX2_shift_64 ?_
  refine lv_sipush (v := 255) hx hb dX2_shift_65 (by decide) ?_
  refine lv_iand hx hb dX2_shift_68 ?_
  refine lv_istore_n (lv' := [(3, .int (((g 19) + 0) &&& 255)), (2, .int 0), (1, .int 0), (0, .ref (ad 7))]) hx hb dX2_shift_69 rfl hl (by decide) rfl (fun ls hl => ?_)
  refine lv_aload_n hx hb dX2_shift_70 rfl (lv_at hl 3 rfl) ?_
  refine hk_get (ci := 5) (C := RX2) (T := TX2) (N := 9) (v := .ref (ad 4)) hx hb hts iX2 hown hw 7 rfl rfl 2 (by decide) (hts _ (List.mem_of_getElem? (i := 6) rfl)) rfl dX2_shift_71 ?_
  refine hk_get (ci := 12) (C := RX9) (T := TX9) (N := 2) (v := .int 17) hx hb hts iX9 hown hw 4 rfl rfl 1 (by decide) (hts _ (List.mem_of_getElem? (i := 7) rfl)) (congrArg (fun z => some (Value.int z)) h14) dX2_shift_74 ?_
  refine lv_if_lt (tgt := 114) hx hb dX2_shift_77 (by decide) (fun cc_5 => absurd cc_5 (by decide)) (fun _ => ?_)
  refine lv_aload_n hx hb dX2_shift_80 rfl (lv_at hl 3 rfl) ?_
  refine hk_get (ci := 5) (C := RX2) (T := TX2) (N := 9) (v := .ref (ad 4)) hx hb hts iX2 hown hw 7 rfl rfl 2 (by decide) (hts _ (List.mem_of_getElem? (i := 6) rfl)) rfl dX2_shift_81 ?_
  refine hk_get (ci := 12) (C := RX9) (T := TX9) (N := 2) (v := .int 17) hx hb hts iX9 hown hw 4 rfl rfl 1 (by decide) (hts _ (List.mem_of_getElem? (i := 7) rfl)) (congrArg (fun z => some (Value.int z)) h14) dX2_shift_84 ?_
  refine lv_aload_n hx hb dX2_shift_87 rfl (lv_at hl 3 rfl) ?_
  refine hk_get (ci := 5) (C := RX2) (T := TX2) (N := 9) (v := .ref (ad 4)) hx hb hts iX2 hown hw 7 rfl rfl 2 (by decide) (hts _ (List.mem_of_getElem? (i := 6) rfl)) rfl dX2_shift_88 ?_
  refine hk_get (ci := 12) (C := RX9) (T := TX9) (N := 2) (v := .ref (ad 5)) hx hb hts iX9 hown hw 4 rfl rfl 0 (by decide) (hts _ (List.mem_of_getElem? (i := 8) rfl)) rfl dX2_shift_91 ?_
  refine hk_alen (v := 3000) hx hb hw 5 0 rfl rfl rfl dX2_shift_94 ?_
  refine lv_icmp_ge (tgt := 114) hx hb dX2_shift_95 (by decide) (fun cc_6 => absurd cc_6 (by decide)) (fun _ => ?_)
  refine lv_aload_n hx hb dX2_shift_98 rfl (lv_at hl 3 rfl) ?_
  refine hk_get (ci := 5) (C := RX2) (T := TX2) (N := 9) (v := .ref (ad 4)) hx hb hts iX2 hown hw 7 rfl rfl 2 (by decide) (hts _ (List.mem_of_getElem? (i := 6) rfl)) rfl dX2_shift_99 ?_
  refine hk_get (ci := 12) (C := RX9) (T := TX9) (N := 2) (v := .ref (ad 5)) hx hb hts iX9 hown hw 4 rfl rfl 0 (by decide) (hts _ (List.mem_of_getElem? (i := 8) rfl)) rfl dX2_shift_102 ?_
  refine lv_aload_n hx hb dX2_shift_105 rfl (lv_at hl 3 rfl) ?_
  refine hk_get (ci := 5) (C := RX2) (T := TX2) (N := 9) (v := .ref (ad 4)) hx hb hts iX2 hown hw 7 rfl rfl 2 (by decide) (hts _ (List.mem_of_getElem? (i := 6) rfl)) rfl dX2_shift_106 ?_
  refine hk_get (ci := 12) (C := RX9) (T := TX9) (N := 2) (v := .int 17) hx hb hts iX9 hown hw 4 rfl rfl 1 (by decide) (hts _ (List.mem_of_getElem? (i := 7) rfl)) (congrArg (fun z => some (Value.int z)) h14) dX2_shift_109 ?_
  refine lv_iload_n hx hb dX2_shift_112 rfl (lv_at hl 0 rfl) ?_
  refine hk_iast hx hb hw 5 0 rfl rfl (show ¬ (_ ∨ _) by decide) dX2_shift_113 (ws' := xw cI cJ ad g lg (va_up ar 1 (upd (ar 1) 17 (((g 19) + 0) &&& 255))) bk) rfl (fun H locs hw => ?_)
  refine lv_aload_n hx hb dX2_shift_114 rfl (lv_at hl 3 rfl) ?_
  refine hk_get (ci := 5) (C := RX2) (T := TX2) (N := 9) (v := .ref (ad 4)) hx hb hts iX2 hown hw 7 rfl rfl 2 (by decide) (hts _ (List.mem_of_getElem? (i := 6) rfl)) rfl dX2_shift_115 ?_
  refine lv_dup hx hb dX2_shift_118 rfl ?_
  refine hk_get (ci := 12) (C := RX9) (T := TX9) (N := 2) (v := .int 17) hx hb hts iX9 hown hw 4 rfl rfl 1 (by decide) (hts _ (List.mem_of_getElem? (i := 7) rfl)) (congrArg (fun z => some (Value.int z)) h14) dX2_shift_119 ?_
  refine lv_iconst (v := 1) hx hb dX2_shift_122 (by decide) ?_
  refine lv_iadd hx hb dX2_shift_123 ?_
  refine hk_topi 18 (by decide +kernel) ?_
  refine hk_put (ci := 12) (C := RX9) (T := TX9) (N := 2) (ty := .int) (v := .int 18) hx hb hts iX9 tyX9 tyX9_ok nmX9 hown hw 4 rfl rfl 1 (by decide) (hts _ (List.mem_of_getElem? (i := 7) rfl)) rfl (by decide +kernel) rfl rfl (Nat.le_of_ble_eq_true rfl) dX2_shift_124 (ws' := xw cI cJ ad (upd g 14 18) lg (va_up ar 1 (upd (ar 1) 17 (((g 19) + 0) &&& 255))) bk) rfl (fun H locs hw => ?_)
  refine lv_iinc (v := 1) (lv' := [(2, .int 1), (3, .int (((g 19) + 0) &&& 255)), (1, .int 0), (0, .ref (ad 7))]) hx hb dX2_shift_127 hl (k := 1) rfl rfl (by decide) rfl (fun ls hl => ?_)
  refine lv_goto (tgt := 41) hx hb dX2_shift_130 (by decide) ?_
  refine lv_iload_n hx hb dX2_shift_41 rfl (lv_at hl 0 rfl) ?_
  refine lv_aload_n hx hb dX2_shift_42 rfl (lv_at hl 3 rfl) ?_
  refine hk_get (ci := 5) (C := RX2) (T := TX2) (N := 9) (v := .int 1) hx hb hts iX2 hown hw 7 rfl rfl 8 (by decide) (hts _ (List.mem_of_getElem? (i := 4) rfl)) (congrArg (fun z => some (Value.int z)) h20) dX2_shift_43 ?_
  refine lv_icmp_ge (tgt := 133) hx hb dX2_shift_46 (by decide) (fun _ => ?_) (fun cc_7 => absurd (by decide) cc_7)
  refine lv_aload_n hx hb dX2_shift_133 rfl (lv_at hl 3 rfl) ?_
  refine lv_iconst (v := 0) hx hb dX2_shift_134 (by decide) ?_
  refine hk_put (ci := 5) (C := RX2) (T := TX2) (N := 9) (ty := .int) (v := .int 0) hx hb hts iX2 tyX2 tyX2_ok nmX2 hown hw 7 rfl rfl 8 (by decide) (hts _ (List.mem_of_getElem? (i := 4) rfl)) rfl (by decide +kernel) rfl rfl (Nat.le_of_ble_eq_true rfl) dX2_shift_135 (ws' := xw cI cJ ad (upd (upd g 14 18) 20 0) lg (va_up ar 1 (upd (ar 1) 17 (((g 19) + 0) &&& 255))) bk) rfl (fun H locs hw => ?_)
  refine lv_aload_n hx hb dX2_shift_138 rfl (lv_at hl 3 rfl) ?_
  refine lv_aload_n hx hb dX2_shift_139 rfl (lv_at hl 3 rfl) ?_
  refine hk_get (ci := 5) (C := RX2) (T := TX2) (N := 9) (v := .long 0) hx hb hts iX2 hown hw 7 rfl rfl 4 (by decide) (hts _ (List.mem_of_getElem? (i := 1) rfl)) (congrArg (fun z => some (Value.long z)) hL0) dX2_shift_140 ?_
  refine lv_bipush (v := 24) hx hb dX2_shift_143 (by decide) ?_
  refine lv_lushr (v := ((0 : Int64).toUInt64 >>> ((24 : Int32).toInt64.toUInt64 &&& Int64.toUInt64 63)).toInt64) hx hb dX2_shift_145 rfl ?_
  refine hk_topl 0 (by decide +kernel) ?_
  refine lv_l2i (v := (0 : Int64).toInt32) hx hb dX2_shift_146 rfl ?_
  refine hk_topi 0 (by decide +kernel) ?_
  refine lv_sipush (v := 255) hx hb dX2_shift_147 (by decide) ?_
  refine lv_iand hx hb dX2_shift_150 ?_
  refine hk_topi 0 (by decide +kernel) ?_
  refine hk_put (ci := 5) (C := RX2) (T := TX2) (N := 9) (ty := .int) (v := .int 0) hx hb hts iX2 tyX2 tyX2_ok nmX2 hown hw 7 rfl rfl 7 (by decide) (hts _ (List.mem_of_getElem? (i := 5) rfl)) rfl (by decide +kernel) rfl rfl (Nat.le_of_ble_eq_true rfl) dX2_shift_151 (ws' := xw cI cJ ad (upd (upd (upd g 14 18) 20 0) 19 0) lg (va_up ar 1 (upd (ar 1) 17 (((g 19) + 0) &&& 255))) bk) rfl (fun H locs hw => ?_)
  refine lv_aload_n hx hb dX2_shift_154 rfl (lv_at hl 3 rfl) ?_
  refine lv_dup hx hb dX2_shift_155 rfl ?_
  refine hk_get (ci := 5) (C := RX2) (T := TX2) (N := 9) (v := .int 0) hx hb hts iX2 hown hw 7 rfl rfl 8 (by decide) (hts _ (List.mem_of_getElem? (i := 4) rfl)) rfl dX2_shift_156 ?_
  refine lv_iconst (v := 1) hx hb dX2_shift_159 (by decide) ?_
  refine lv_iadd hx hb dX2_shift_160 ?_
  refine hk_topi 1 (by decide +kernel) ?_
  refine hk_put (ci := 5) (C := RX2) (T := TX2) (N := 9) (ty := .int) (v := .int 1) hx hb hts iX2 tyX2 tyX2_ok nmX2 hown hw 7 rfl rfl 8 (by decide) (hts _ (List.mem_of_getElem? (i := 4) rfl)) rfl (by decide +kernel) rfl rfl (Nat.le_of_ble_eq_true rfl) dX2_shift_161 (ws' := xw cI cJ ad (upd (upd (upd g 14 18) 20 1) 19 0) lg (va_up ar 1 (upd (ar 1) 17 (((g 19) + 0) &&& 255))) bk) rfl (fun H locs hw => ?_)
  refine lv_aload_n hx hb dX2_shift_164 rfl (lv_at hl 3 rfl) ?_
  refine lv_aload_n hx hb dX2_shift_165 rfl (lv_at hl 3 rfl) ?_
  refine hk_get (ci := 5) (C := RX2) (T := TX2) (N := 9) (v := .long 0) hx hb hts iX2 hown hw 7 rfl rfl 4 (by decide) (hts _ (List.mem_of_getElem? (i := 1) rfl)) (congrArg (fun z => some (Value.long z)) hL0) dX2_shift_166 ?_
  refine lv_ldc2 (v := 16777215) hx hb hown (hts _ (List.mem_of_getElem? (i := 9) rfl)) dX2_shift_169 ?_
  refine lv_land hx hb dX2_shift_172 ?_
  refine hk_topl 0 (by decide +kernel) ?_
  refine lv_bipush (v := 8) hx hb dX2_shift_173 (by decide) ?_
  refine lv_lshl (v := ((0 : Int64) <<< ((8 : Int32).toInt64 &&& 63))) hx hb dX2_shift_175 rfl ?_
  refine hk_topl 0 (by decide +kernel) ?_
  refine hk_put (ci := 5) (C := RX2) (T := TX2) (N := 9) (ty := .long) (v := .long 0) hx hb hts iX2 tyX2 tyX2_ok nmX2 hown hw 7 rfl rfl 4 (by decide) (hts _ (List.mem_of_getElem? (i := 1) rfl)) rfl (by decide +kernel) rfl rfl (Nat.le_of_ble_eq_true rfl) dX2_shift_176 (ws' := xw cI cJ ad (upd (upd (upd g 14 18) 20 1) 19 0) (vp_updL lg 0 0) (va_up ar 1 (upd (ar 1) 17 (((g 19) + 0) &&& 255))) bk) rfl (fun H locs hw => ?_)
  exact hk_vret (u := (upd (ar 1) 17 (((g 19) + 0) &&& 255))) hx hb hr hlocks (show hk_W D [(cI, .int), (cJ, .long)] _ s _ _ (xw cI cJ ad (upd (upd (upd g 14 18) 19 0) 20 1) (vp_updL lg 0 0) (va_up ar 1 (upd (ar 1) 17 (((g 19) + 0) &&& 255))) bk) from hw) (trivial) dX2_shift_179

def ww_cx_flush13 : List Cond := Cond.code yX2_flush cX2_flush 2 none :: ([Cond.methodLink RX2 74 yX2_shift, Cond.instanceMethod yX2_shift, Cond.selects RX2 yX2_shift yX2_shift, Cond.initialized RX2, Cond.code yX2_shift cX2_shift 4 none, Cond.fieldLink RX2 27 "LzmaChains$Coder" "low" "J", Cond.constantLong RX2 77 4278190080, Cond.constantLong RX2 79 4294967296, Cond.fieldLink RX2 40 "LzmaChains$Coder" "waiting" "I", Cond.fieldLink RX2 36 "LzmaChains$Coder" "held" "I", Cond.fieldLink RX2 13 "LzmaChains$Coder" "sink" "LLzmaChains$Row;", Cond.fieldLink RX2 81 "LzmaChains$Row" "size" "I", Cond.fieldLink RX2 86 "LzmaChains$Row" "data" "[I", Cond.constantLong RX2 89 16777215] ++ (wsX20 ++ (wsX90 ++ ([]))))
set_option maxRecDepth 20000 in
theorem gw_cx_flush13_0 : GoodIn ww_cx_flush13 (wsV RX2 74 RX2 yX2_shift ww_cx_shift13) := goodIn_r _ [1, 2, 3, 4, 5, 6, 7, 8, 9, 10, 11, 12, 13, 14, 15, 16, 17, 18, 19, 20, 21, 22, 23, 24, 25] rfl (by decide +kernel)
set_option maxRecDepth 20000 in
theorem gw_cx_flush13_1 : GoodIn ww_cx_flush13 (wsV RX2 74 RX2 yX2_shift ww_cx_shift14) := goodIn_r _ [1, 2, 3, 4, 5, 6, 7, 8, 9, 10, 11, 12, 13, 14, 15, 16, 17, 18, 19, 20, 21, 22, 23, 24, 25] rfl (by decide +kernel)
set_option maxRecDepth 20000 in
theorem gw_cx_flush13_2 : GoodIn ww_cx_flush13 (wsV RX2 74 RX2 yX2_shift ww_cx_shift15) := goodIn_r _ [1, 2, 3, 4, 5, 6, 7, 8, 9, 10, 11, 12, 13, 14, 15, 16, 17, 18, 19, 20, 21, 22, 23, 24, 25] rfl (by decide +kernel)
set_option maxRecDepth 20000 in
theorem gw_cx_flush13_3 : GoodIn ww_cx_flush13 (wsV RX2 74 RX2 yX2_shift ww_cx_shift16) := goodIn_r _ [1, 2, 3, 4, 5, 6, 7, 8, 9, 10, 11, 12, 13, 14, 15, 16, 17, 18, 19, 20, 21, 22, 23, 24, 25] rfl (by decide +kernel)
set_option maxRecDepth 20000 in
theorem gw_cx_flush13_4 : GoodIn ww_cx_flush13 (wsV RX2 74 RX2 yX2_shift ww_cx_shift17) := goodIn_r _ [1, 2, 3, 4, 5, 6, 7, 8, 9, 10, 11, 12, 13, 14, 15, 16, 17, 18, 19, 20, 21, 22, 23, 24, 25] rfl (by decide +kernel)
set_option maxHeartbeats 4000000 in
set_option maxRecDepth 100000 in
/-- Coder.flush with nothing gathered, OUT has 13 -/
theorem cx_flush13 (l : Launch) (D : va_G) (cI cJ : ClassId) (ad : Nat → Nat) (g : Nat → Int32) (lg : Nat → Int64) (ar : Nat → Nat → Int32) (bk : Nat → Int64) (sz : Nat)  (h14 : g 14 = 13) (h20 : g 20 = 1) (hL0 : lg 0 = 0) : Met l yX2_flush ww_cx_flush13 { frames := 1, cells := 0, slots := 0, locals := 23 } (va_Pc [.ref (ad 7)] (hk_B D [(cI, .int), (cJ, .long)] sz (xw cI cJ ad g lg ar bk))) (va_Qv (fun u : (Nat → Int32) => True) (fun u : (Nat → Int32) => hk_E D [(cI, .int), (cJ, .long)] (va_A (xw cI cJ ad g lg ar bk) sz) (xw cI cJ ad (upd (upd (upd g 14 18) 19 0) 20 1) (vp_updL lg 0 0) (va_up ar 1 u) bk)) (va_A (xw cI cJ ad g lg ar bk) sz)) 0 0 (va_A (xw cI cJ ad g lg ar bk) sz) := by
  refine hk_met (cc := cX2_flush) (maxL := 2) (ret := none) (by decide) rfl (Nat.le_of_ble_eq_true rfl) ?_
  intro p e s m below meth c ls hx hb hr hml hown hts hlocks hin hA hw hl
  have iX2 : ∀ w ∈ wsX20, w ∈ ww_cx_flush13 := fun _ h => List.mem_cons_of_mem _ (List.mem_append_right _ (List.mem_append_left _ h))
  have iX9 : ∀ w ∈ wsX90, w ∈ ww_cx_flush13 := fun _ h => List.mem_cons_of_mem _ (List.mem_append_right _ (List.mem_append_right _ (List.mem_append_left _ h)))
  have hl : lv_has ls 2 [(0, .ref (ad 7))] := hl
  refine lv_iconst (v := 0) hx hb dX2_flush_0 (by decide) ?_
  refine lv_istore_n (lv' := [(1, .int 0), (0, .ref (ad 7))]) hx hb dX2_flush_1 rfl hl (by decide) rfl (fun ls hl => ?_)
  refine lv_iload_n hx hb dX2_flush_2 rfl (lv_at hl 0 rfl) ?_
  refine lv_iconst (v := 5) hx hb dX2_flush_3 (by decide) ?_
  refine lv_icmp_ge (tgt := 17) hx hb dX2_flush_4 (by decide) (fun cc_1 => absurd cc_1 (by decide)) (fun _ => ?_)
  refine lv_aload_n hx hb dX2_flush_7 rfl (lv_at hl 1 rfl) ?_
  refine hk_Vv (As := []) (rest := []) ⟨hx, hb, hml, hown, hts⟩ hw hA (cx_shift13 l D cI cJ ad g lg ar bk _ h14 h20 hL0) (cwV 0 hts gw_cx_flush13_0 rfl rfl rfl (by decide +kernel) ⟨Nat.le_of_ble_eq_true rfl, Nat.le_of_ble_eq_true rfl⟩) 7 (ci := 5) (T := TX2) (N := 9) rfl rfl rfl hl.1 rfl (Nat.le_of_ble_eq_true rfl) dX2_flush_8 ⟨Nat.le_of_ble_eq_true rfl, Nat.le_of_ble_eq_true rfl⟩ (fun uu_3 H locs hp_4 hw => ?_)
  have hw : hk_W D [(cI, .int), (cJ, .long)] _ s _ _ (xw cI cJ ad (upd (upd (upd g 14 14) 19 0) 20 1) (vp_updL lg 0 0) (va_up ar 1 uu_3) bk) := hw
  refine lv_iinc (v := 1) (lv' := [(1, .int 1), (0, .ref (ad 7))]) hx hb dX2_flush_11 hl (k := 0) rfl rfl (by decide) rfl (fun ls hl => ?_)
  refine lv_goto (tgt := 2) hx hb dX2_flush_14 (by decide) ?_
  refine lv_iload_n hx hb dX2_flush_2 rfl (lv_at hl 0 rfl) ?_
  refine lv_iconst (v := 5) hx hb dX2_flush_3 (by decide) ?_
  refine lv_icmp_ge (tgt := 17) hx hb dX2_flush_4 (by decide) (fun cc_5 => absurd cc_5 (by decide)) (fun _ => ?_)
  refine lv_aload_n hx hb dX2_flush_7 rfl (lv_at hl 1 rfl) ?_
  refine hk_Vv (As := []) (rest := []) ⟨hx, hb, hml, hown, hts⟩ hw hA (cx_shift14 l D cI cJ ad (upd (upd (upd g 14 14) 19 0) 20 1) (vp_updL lg 0 0) (va_up ar 1 uu_3) bk _ rfl rfl rfl) (cwV 0 hts gw_cx_flush13_1 rfl rfl rfl (by decide +kernel) ⟨Nat.le_of_ble_eq_true rfl, Nat.le_of_ble_eq_true rfl⟩) 7 (ci := 5) (T := TX2) (N := 9) rfl rfl rfl hl.1 rfl (Nat.le_of_ble_eq_true rfl) dX2_flush_8 ⟨Nat.le_of_ble_eq_true rfl, Nat.le_of_ble_eq_true rfl⟩ (fun uu_7 H locs hp_8 hw => ?_)
  have hw : hk_W D [(cI, .int), (cJ, .long)] _ s _ _ (xw cI cJ ad (upd (upd (upd g 14 15) 19 0) 20 1) (vp_updL lg 0 0) (va_up ar 1 uu_7) bk) := hw
  refine lv_iinc (v := 2) (lv' := [(1, .int 2), (0, .ref (ad 7))]) hx hb dX2_flush_11 hl (k := 0) rfl rfl (by decide) rfl (fun ls hl => ?_)
  refine lv_goto (tgt := 2) hx hb dX2_flush_14 (by decide) ?_
  refine lv_iload_n hx hb dX2_flush_2 rfl (lv_at hl 0 rfl) ?_
  refine lv_iconst (v := 5) hx hb dX2_flush_3 (by decide) ?_
  refine lv_icmp_ge (tgt := 17) hx hb dX2_flush_4 (by decide) (fun cc_9 => absurd cc_9 (by decide)) (fun _ => ?_)
  refine lv_aload_n hx hb dX2_flush_7 rfl (lv_at hl 1 rfl) ?_
  refine hk_Vv (As := []) (rest := []) ⟨hx, hb, hml, hown, hts⟩ hw hA (cx_shift15 l D cI cJ ad (upd (upd (upd g 14 15) 19 0) 20 1) (vp_updL lg 0 0) (va_up ar 1 uu_7) bk _ rfl rfl rfl) (cwV 0 hts gw_cx_flush13_2 rfl rfl rfl (by decide +kernel) ⟨Nat.le_of_ble_eq_true rfl, Nat.le_of_ble_eq_true rfl⟩) 7 (ci := 5) (T := TX2) (N := 9) rfl rfl rfl hl.1 rfl (Nat.le_of_ble_eq_true rfl) dX2_flush_8 ⟨Nat.le_of_ble_eq_true rfl, Nat.le_of_ble_eq_true rfl⟩ (fun uu_11 H locs hp_12 hw => ?_)
  have hw : hk_W D [(cI, .int), (cJ, .long)] _ s _ _ (xw cI cJ ad (upd (upd (upd g 14 16) 19 0) 20 1) (vp_updL lg 0 0) (va_up ar 1 uu_11) bk) := hw
  refine lv_iinc (v := 3) (lv' := [(1, .int 3), (0, .ref (ad 7))]) hx hb dX2_flush_11 hl (k := 0) rfl rfl (by decide) rfl (fun ls hl => ?_)
  refine lv_goto (tgt := 2) hx hb dX2_flush_14 (by decide) ?_
  refine lv_iload_n hx hb dX2_flush_2 rfl (lv_at hl 0 rfl) ?_
  refine lv_iconst (v := 5) hx hb dX2_flush_3 (by decide) ?_
  refine lv_icmp_ge (tgt := 17) hx hb dX2_flush_4 (by decide) (fun cc_13 => absurd cc_13 (by decide)) (fun _ => ?_)
  refine lv_aload_n hx hb dX2_flush_7 rfl (lv_at hl 1 rfl) ?_
  refine hk_Vv (As := []) (rest := []) ⟨hx, hb, hml, hown, hts⟩ hw hA (cx_shift16 l D cI cJ ad (upd (upd (upd g 14 16) 19 0) 20 1) (vp_updL lg 0 0) (va_up ar 1 uu_11) bk _ rfl rfl rfl) (cwV 0 hts gw_cx_flush13_3 rfl rfl rfl (by decide +kernel) ⟨Nat.le_of_ble_eq_true rfl, Nat.le_of_ble_eq_true rfl⟩) 7 (ci := 5) (T := TX2) (N := 9) rfl rfl rfl hl.1 rfl (Nat.le_of_ble_eq_true rfl) dX2_flush_8 ⟨Nat.le_of_ble_eq_true rfl, Nat.le_of_ble_eq_true rfl⟩ (fun uu_15 H locs hp_16 hw => ?_)
  have hw : hk_W D [(cI, .int), (cJ, .long)] _ s _ _ (xw cI cJ ad (upd (upd (upd g 14 17) 19 0) 20 1) (vp_updL lg 0 0) (va_up ar 1 uu_15) bk) := hw
  refine lv_iinc (v := 4) (lv' := [(1, .int 4), (0, .ref (ad 7))]) hx hb dX2_flush_11 hl (k := 0) rfl rfl (by decide) rfl (fun ls hl => ?_)
  refine lv_goto (tgt := 2) hx hb dX2_flush_14 (by decide) ?_
  refine lv_iload_n hx hb dX2_flush_2 rfl (lv_at hl 0 rfl) ?_
  refine lv_iconst (v := 5) hx hb dX2_flush_3 (by decide) ?_
  refine lv_icmp_ge (tgt := 17) hx hb dX2_flush_4 (by decide) (fun cc_17 => absurd cc_17 (by decide)) (fun _ => ?_)
  refine lv_aload_n hx hb dX2_flush_7 rfl (lv_at hl 1 rfl) ?_
  refine hk_Vv (As := []) (rest := []) ⟨hx, hb, hml, hown, hts⟩ hw hA (cx_shift17 l D cI cJ ad (upd (upd (upd g 14 17) 19 0) 20 1) (vp_updL lg 0 0) (va_up ar 1 uu_15) bk _ rfl rfl rfl) (cwV 0 hts gw_cx_flush13_4 rfl rfl rfl (by decide +kernel) ⟨Nat.le_of_ble_eq_true rfl, Nat.le_of_ble_eq_true rfl⟩) 7 (ci := 5) (T := TX2) (N := 9) rfl rfl rfl hl.1 rfl (Nat.le_of_ble_eq_true rfl) dX2_flush_8 ⟨Nat.le_of_ble_eq_true rfl, Nat.le_of_ble_eq_true rfl⟩ (fun uu_19 H locs hp_20 hw => ?_)
  have hw : hk_W D [(cI, .int), (cJ, .long)] _ s _ _ (xw cI cJ ad (upd (upd (upd g 14 18) 19 0) 20 1) (vp_updL lg 0 0) (va_up ar 1 uu_19) bk) := hw
  refine lv_iinc (v := 5) (lv' := [(1, .int 5), (0, .ref (ad 7))]) hx hb dX2_flush_11 hl (k := 0) rfl rfl (by decide) rfl (fun ls hl => ?_)
  refine lv_goto (tgt := 2) hx hb dX2_flush_14 (by decide) ?_
  refine lv_iload_n hx hb dX2_flush_2 rfl (lv_at hl 0 rfl) ?_
  refine lv_iconst (v := 5) hx hb dX2_flush_3 (by decide) ?_
  refine lv_icmp_ge (tgt := 17) hx hb dX2_flush_4 (by decide) (fun _ => ?_) (fun cc_21 => absurd (by decide) cc_21)
  exact hk_vret (u := uu_19) hx hb hr hlocks (hw) (trivial) dX2_flush_17
