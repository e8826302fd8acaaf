theorem hk_eqOr (x y : Int32) : x = y ∨ ¬ x = y := Decidable.em _
theorem hk_le {a b : Nat} (h : a ≤ b) (hb : b < 2 ^ 31) : nI a ≤ nI b := nI_le h hb
theorem hk_nle {a b : Nat} (h : a < b) (hb : b < 2 ^ 31) : ¬ nI b ≤ nI a := nI_ge h hb
theorem hk_0le {a : Nat} (h : a < 2 ^ 31) : (0 : Int32) ≤ nI a := nI_le (Nat.zero_le a) h
def ww_cx_rangeCheck : List Cond := Cond.code yJ7_rangeCheck_23922 cJ7_rangeCheck_23922 3 none :: ([] ++ ([]))
set_option maxHeartbeats 4000000 in
set_option maxRecDepth 100000 in
/-- Arrays.rangeCheck, where it passes -/
theorem cx_rangeCheck (l : Launch) (D : va_G) (cI cJ : ClassId) (ad : Nat → Nat) (g : Nat → Int32) (lg : Nat → Int64) (ar : Nat → Nat → Int32) (bk : Nat → Int64) (sz : Nat) (n a b : Int32) (h1 : a ≤ b) (h2 : 0 ≤ a) (h3 : b ≤ n) : Met l yJ7_rangeCheck_23922 ww_cx_rangeCheck { frames := 0, cells := 0, slots := 0, locals := 0 } (va_Pc [.int n, .int a, .int b] (hk_B D [(cI, .int), (cJ, .long)] sz (xw cI cJ ad g lg ar bk))) (va_Qv (fun u : Unit => True) (fun u : Unit => hk_E D [(cI, .int), (cJ, .long)] (va_A (xw cI cJ ad g lg ar bk) sz) (xw cI cJ ad g lg ar bk)) (va_A (xw cI cJ ad g lg ar bk) sz)) 0 0 (va_A (xw cI cJ ad g lg ar bk) sz) := by
  refine hk_met (cc := cJ7_rangeCheck_23922) (maxL := 3) (ret := none) (by decide) rfl (Nat.le_of_ble_eq_true rfl) ?_
  intro p e s m below meth c ls hx hb hr hml hown hts hlocks hin hA hw hl
  have hl : lv_has ls 3 [(0, .int n), (1, .int a), (2, .int b)] := hl
  refine lv_iload_n hx hb dJ7_rangeCheck_23922_0 rfl (lv_at hl 1 rfl) ?_
  refine lv_iload_n hx hb dJ7_rangeCheck_23922_1 rfl (lv_at hl 2 rfl) ?_
  refine lv_icmp_le (tgt := 46) hx hb dJ7_rangeCheck_23922_2 (by decide) (fun _ => ?_) (fun cc_1 => absurd (h1) cc_1)
  refine lv_iload_n hx hb dJ7_rangeCheck_23922_46 rfl (lv_at hl 1 rfl) ?_
  refine lv_if_ge (tgt := 59) hx hb dJ7_rangeCheck_23922_47 (by decide) (fun _ => ?_) (fun cc_2 => absurd (h2) cc_2)
  refine lv_iload_n hx hb dJ7_rangeCheck_23922_59 rfl (lv_at hl 2 rfl) ?_
  refine lv_iload_n hx hb dJ7_rangeCheck_23922_60 rfl (lv_at hl 0 rfl) ?_
  refine lv_icmp_le (tgt := 73) hx hb dJ7_rangeCheck_23922_61 (by decide) (fun _ => ?_) (fun cc_3 => absurd (h3) cc_3)
  exact hk_vret (u := ()) hx hb hr hlocks (hw) (trivial) dJ7_rangeCheck_23922_73

def ww_cx_fillR : List Cond := Cond.code yJ7_fill_fda19 cJ7_fill_fda19 5 none :: ([Cond.methodLink RJ7 13 yJ7_rangeCheck_23922, Cond.static yJ7_rangeCheck_23922, Cond.initialized RJ7, Cond.code yJ7_rangeCheck_23922 cJ7_rangeCheck_23922 3 none] ++ ([]))
set_option maxRecDepth 20000 in
theorem gw_cx_fillR_0 : GoodIn ww_cx_fillR (va_wsS RJ7 13 yJ7_rangeCheck_23922 ww_cx_rangeCheck) := goodIn_r _ [1, 2, 3, 4] rfl (by decide +kernel)
set_option maxHeartbeats 4000000 in
set_option maxRecDepth 100000 in
/-- Arrays.fill(chances, 0, t, x) -/
theorem cx_fillR (l : Launch) (D : va_G) (cI cJ : ClassId) (ad : Nat → Nat) (g : Nat → Int32) (lg : Nat → Int64) (ar : Nat → Nat → Int32) (bk : Nat → Int64) (sz : Nat) (t : Nat) (ht : t ≤ 14340) (x : Int32) : Met l yJ7_fill_fda19 ww_cx_fillR { frames := 1, cells := 0, slots := 0, locals := 22 } (va_Pc [.ref (ad 8), .int 0, .int (nI t), .int x] (hk_B D [(cI, .int), (cJ, .long)] sz (xw cI cJ ad g lg ar bk))) (va_Qv (fun u : Nat → Int32 => True) (fun u : Nat → Int32 => hk_E D [(cI, .int), (cJ, .long)] (va_A (xw cI cJ ad g lg ar bk) sz) (xw cI cJ ad g lg (va_up ar 2 u) bk)) (va_A (xw cI cJ ad g lg ar bk) sz)) 0 0 (va_A (xw cI cJ ad g lg ar bk) sz) := by
  refine hk_met (cc := cJ7_fill_fda19) (maxL := 5) (ret := none) (by decide) rfl (Nat.le_of_ble_eq_true rfl) ?_
  intro p e s m below meth c ls hx hb hr hml hown hts hlocks hin hA hw hl
  have hl : lv_has ls 5 [(0, .ref (ad 8)), (1, .int 0), (2, .int (nI t)), (3, .int x)] := hl
  refine lv_aload_n hx hb dJ7_fill_fda19_0 rfl (lv_at hl 0 rfl) ?_
  refine hk_alen (v := 14340) hx hb hw 8 0 rfl rfl rfl dJ7_fill_fda19_1 ?_
  refine lv_iload_n hx hb dJ7_fill_fda19_2 rfl (lv_at hl 1 rfl) ?_
  refine lv_iload_n hx hb dJ7_fill_fda19_3 rfl (lv_at hl 2 rfl) ?_
  refine hk_Sv (As := [.int 14340, .int 0, .int (nI t)]) (rest := []) ⟨hx, hb, hml, hown, hts⟩ hw hA (cx_rangeCheck l D cI cJ ad g lg ar bk _ 14340 0 (nI t) (hk_0le (by omega)) (by decide) (hk_le (a := t) (b := 14340) (by omega) (by omega))) (va_cwS 3 hts gw_cx_fillR_0 rfl rfl rfl (by decide +kernel) ⟨Nat.le_of_ble_eq_true rfl, Nat.le_of_ble_eq_true rfl⟩) rfl hl.1 rfl (Nat.le_of_ble_eq_true rfl) dJ7_fill_fda19_4 ⟨Nat.le_of_ble_eq_true rfl, Nat.le_of_ble_eq_true rfl⟩ (fun uu_2 H locs hp_3 hw => ?_)
  have hw : hk_W D [(cI, .int), (cJ, .long)] _ s _ _ (xw cI cJ ad g lg ar bk) := hw
  refine lv_iload_n hx hb dJ7_fill_fda19_7 rfl (lv_at hl 1 rfl) ?_
  refine lv_istore (lv' := [(4, .int 0), (0, .ref (ad 8)), (1, .int 0), (2, .int (nI t)), (3, .int x)]) hx hb dJ7_fill_fda19_8 hl (by decide) rfl (fun ls hl => ?_)
  have loop_5 : ∀ (ki i : Nat) (jj_4 : Nat → Int32) (ls : Array Slot) (H : Heap) (locs : List Loc), i + ki = t → hk_W D [(cI, .int), (cJ, .long)] (va_A (xw cI cJ ad g lg ar bk) sz) s H locs (xw cI cJ ad g lg (va_up ar 2 jj_4) bk) → lv_has ls 5 [(4, .int (nI i)), (0, .ref (ad 8)), (1, .int 0), (2, .int (nI t)), (3, .int x)] → W p l e { frames := 1, cells := 0, slots := 0, locals := 22 } s m (List.toArray [.ref (ad 8), .int 0, .int (nI t), .int x]) below meth c H locs 0 0 (MQ below (va_Qv (fun u : Nat → Int32 => True) (fun u : Nat → Int32 => hk_E D [(cI, .int), (cJ, .long)] (va_A (xw cI cJ ad g lg ar bk) sz) (xw cI cJ ad g lg (va_up ar 2 u) bk)) (va_A (xw cI cJ ad g lg ar bk) sz)) (List.toArray [.ref (ad 8), .int 0, .int (nI t), .int x]) s 0 0 (va_A (xw cI cJ ad g lg ar bk) sz)) (F0 m 10 ls []) := by
    intro ki
    induction ki with
    | zero =>
      intro i jj_4 ls H locs hik  hw hl
      refine lv_iload hx hb dJ7_fill_fda19_10 (lv_at hl 0 rfl) ?_
      refine lv_iload_n hx hb dJ7_fill_fda19_12 rfl (lv_at hl 3 rfl) ?_
      refine lv_icmp_ge (tgt := 27) hx hb dJ7_fill_fda19_13 (by decide) (fun _ => ?_) (fun cc_6 => absurd (hk_le (a := t) (b := i) (by omega) (by omega)) cc_6)
      exact hk_vret (u := jj_4) hx hb hr hlocks (hw) (trivial) dJ7_fill_fda19_27
    | succ ki ih =>
      intro i jj_4 ls H locs hik  hw hl
      refine lv_iload hx hb dJ7_fill_fda19_10 (lv_at hl 0 rfl) ?_
      refine lv_iload_n hx hb dJ7_fill_fda19_12 rfl (lv_at hl 3 rfl) ?_
      refine lv_icmp_ge (tgt := 27) hx hb dJ7_fill_fda19_13 (by decide) (fun cc_7 => absurd cc_7 (hk_nle (a := i) (b := t) (by omega) (by omega))) (fun _ => ?_)
      refine lv_aload_n hx hb dJ7_fill_fda19_16 rfl (lv_at hl 1 rfl) ?_
      refine lv_iload hx hb dJ7_fill_fda19_17 (lv_at hl 0 rfl) ?_
      refine lv_iload_n hx hb dJ7_fill_fda19_19 rfl (lv_at hl 4 rfl) ?_
      refine hk_iast hx hb hw 8 0 rfl rfl (vp_in_nI (by omega) (by omega)) dJ7_fill_fda19_20 (ws' := xw cI cJ ad g lg (va_up ar 2 (upd jj_4 ((nI i)).toNatClampNeg x)) bk) rfl (fun H locs hw => ?_)
      refine lv_iinc (v := (nI (i + 1))) (lv' := [(4, .int (nI (i + 1))), (0, .ref (ad 8)), (1, .int 0), (2, .int (nI t)), (3, .int x)]) hx hb dJ7_fill_fda19_21 hl (k := 0) rfl ((nI_succ i).symm) (by decide) rfl (fun ls hl => ?_)
      refine lv_goto (tgt := 10) hx hb dJ7_fill_fda19_24 (by decide) ?_
      exact ih (i + 1) (upd jj_4 ((nI i)).toNatClampNeg x) ls _ _ (by omega)  hw (lv_sub hl [0, 1, 2, 3, 4] rfl)
  exact loop_5 (t - 0) 0 (ar 2) ls _ _ (by omega)  hw (lv_sub hl [0, 1, 2, 3, 4] rfl)

def ww_cx_fillC : List Cond := Cond.code yJ7_fill_53178 cJ7_fill_53178 4 none :: ([] ++ ([]))
set_option maxHeartbeats 4000000 in
set_option maxRecDepth 100000 in
/-- Arrays.fill(runs, x) -/
theorem cx_fillC (l : Launch) (D : va_G) (cI cJ : ClassId) (ad : Nat → Nat) (g : Nat → Int32) (lg : Nat → Int64) (ar : Nat → Nat → Int32) (bk : Nat → Int64) (sz : Nat) (x : Int32) : Met l yJ7_fill_53178 ww_cx_fillC { frames := 0, cells := 0, slots := 0, locals := 0 } (va_Pc [.ref (ad 22), .int x] (hk_B D [(cI, .int), (cJ, .long)] sz (xw cI cJ ad g lg ar bk))) (va_Qv (fun u : Nat → Int32 => True) (fun u : Nat → Int32 => hk_E D [(cI, .int), (cJ, .long)] (va_A (xw cI cJ ad g lg ar bk) sz) (xw cI cJ ad g lg (va_up ar 10 u) bk)) (va_A (xw cI cJ ad g lg ar bk) sz)) 0 0 (va_A (xw cI cJ ad g lg ar bk) sz) := by
  refine hk_met (cc := cJ7_fill_53178) (maxL := 4) (ret := none) (by decide) rfl (Nat.le_of_ble_eq_true rfl) ?_
  intro p e s m below meth c ls hx hb hr hml hown hts hlocks hin hA hw hl
  have hl : lv_has ls 4 [(0, .ref (ad 22)), (1, .int x)] := hl
  refine lv_iconst (v := 0) hx hb dJ7_fill_53178_0 (by decide) ?_
  refine lv_istore_n (lv' := [(2, .int 0), (0, .ref (ad 22)), (1, .int x)]) hx hb dJ7_fill_53178_1 rfl hl (by decide) rfl (fun ls hl => ?_)
  refine lv_aload_n hx hb dJ7_fill_53178_2 rfl (lv_at hl 1 rfl) ?_
  refine hk_alen (v := 1501) hx hb hw 22 0 rfl rfl rfl dJ7_fill_53178_3 ?_
  refine lv_istore_n (lv' := [(3, .int 1501), (2, .int 0), (0, .ref (ad 22)), (1, .int x)]) hx hb dJ7_fill_53178_4 rfl hl (by decide) rfl (fun ls hl => ?_)
  have loop_2 : ∀ (ki i : Nat) (jj_1 : Nat → Int32) (ls : Array Slot) (H : Heap) (locs : List Loc), i + ki = 1501 → hk_W D [(cI, .int), (cJ, .long)] (va_A (xw cI cJ ad g lg ar bk) sz) s H locs (xw cI cJ ad g lg (va_up ar 10 jj_1) bk) → lv_has ls 4 [(3, .int 1501), (2, .int (nI i)), (0, .ref (ad 22)), (1, .int x)] → W p l e { frames := 0, cells := 0, slots := 0, locals := 0 } s m (List.toArray [.ref (ad 22), .int x]) below meth c H locs 0 0 (MQ below (va_Qv (fun u : Nat → Int32 => True) (fun u : Nat → Int32 => hk_E D [(cI, .int), (cJ, .long)] (va_A (xw cI cJ ad g lg ar bk) sz) (xw cI cJ ad g lg (va_up ar 10 u) bk)) (va_A (xw cI cJ ad g lg ar bk) sz)) (List.toArray [.ref (ad 22), .int x]) s 0 0 (va_A (xw cI cJ ad g lg ar bk) sz)) (F0 m 5 ls []) := by
    intro ki
    induction ki with
    | zero =>
      intro i jj_1 ls H locs hik  hw hl
      refine lv_iload_n hx hb dJ7_fill_53178_5 rfl (lv_at hl 1 rfl) ?_
      refine lv_iload_n hx hb dJ7_fill_53178_6 rfl (lv_at hl 0 rfl) ?_
      refine lv_icmp_ge (tgt := 20) hx hb dJ7_fill_53178_7 (by decide) (fun _ => ?_) (fun cc_3 => absurd (hk_le (a := 1501) (b := i) (by omega) (by omega)) cc_3)
      exact hk_vret (u := jj_1) hx hb hr hlocks (hw) (trivial) dJ7_fill_53178_20
    | succ ki ih =>
      intro i jj_1 ls H locs hik  hw hl
      refine lv_iload_n hx hb dJ7_fill_53178_5 rfl (lv_at hl 1 rfl) ?_
      refine lv_iload_n hx hb dJ7_fill_53178_6 rfl (lv_at hl 0 rfl) ?_
      refine lv_icmp_ge (tgt := 20) hx hb dJ7_fill_53178_7 (by decide) (fun cc_4 => absurd cc_4 (hk_nle (a := i) (b := 1501) (by omega) (by omega))) (fun _ => ?_)
      refine lv_aload_n hx hb dJ7_fill_53178_10 rfl (lv_at hl 2 rfl) ?_
      refine lv_iload_n hx hb dJ7_fill_53178_11 rfl (lv_at hl 1 rfl) ?_
      refine lv_iload_n hx hb dJ7_fill_53178_12 rfl (lv_at hl 3 rfl) ?_
      refine hk_iast hx hb hw 22 0 rfl rfl (vp_in_nI (by omega) (by omega)) dJ7_fill_53178_13 (ws' := xw cI cJ ad g lg (va_up ar 10 (upd jj_1 ((nI i)).toNatClampNeg x)) bk) rfl (fun H locs hw => ?_)
      refine lv_iinc (v := (nI (i + 1))) (lv' := [(2, .int (nI (i + 1))), (3, .int 1501), (0, .ref (ad 22)), (1, .int x)]) hx hb dJ7_fill_53178_14 hl (k := 1) rfl ((nI_succ i).symm) (by decide) rfl (fun ls hl => ?_)
      refine lv_goto (tgt := 5) hx hb dJ7_fill_53178_17 (by decide) ?_
      exact ih (i + 1) (upd jj_1 ((nI i)).toNatClampNeg x) ls _ _ (by omega)  hw (lv_sub hl [1, 0, 2, 3] rfl)
  exact loop_2 (1501 - 0) 0 (ar 10) ls _ _ (by omega)  hw (lv_sub hl [0, 1, 2, 3] rfl)
