def hs_r (x n : Int32) : Int32 := ((x.toUInt32 >>> (n.toUInt32 &&& Int32.toUInt32 31)).toInt32 ||| (x <<< ((-n) &&& 31)))
def hs_t (x n : Int32) : Int32 := ((x.toUInt32 >>> (n.toUInt32 &&& Int32.toUInt32 31)).toInt32 ||| (x <<< ((32 - n) &&& 31)))
/-- the bytes of the words -/
def hs_B (i : Nat) : Int32 := (hs_O (i / 4) >>> ((24 - 8 * nI (i % 4)) &&& 31)) &&& 255
/-- a word of the first part of the schedule while its bytes come -/
def hs_w (i : Nat) : Nat → Int32
  | 0 => 0
  | 1 => if i = 0 then 128 else 0
  | 2 => if i = 0 then 32768 else 0
  | 3 => if i = 0 then 8388608 else 0
  | _ => if i = 0 then -2147483648 else 0
theorem hs_up {f P : Nat → Int32} {i n : Nat} {v : Int32} (h : ∀ j, j < i → f j = P j) (hn : n = i) (hv : v = P i) : ∀ j, j < i + 1 → upd f n v j = P j := by
  intro j hj
  subst hn hv
  by_cases e : j = n
  · subst e; simp [upd]
  · simp only [upd, if_neg e]; exact h j (by omega)
theorem hs_ov {f P : Nat → Int32} {N n : Nat} {v : Int32} (h : ∀ j, j < N → f j = P j) (hv : v = P n) : ∀ j, j < N → upd f n v j = P j := by
  intro j hj
  subst hv
  by_cases e : j = n
  · subst e; simp [upd]
  · simp only [upd, if_neg e]; exact h j hj
theorem hs_cp {f g P : Nat → Int32} {n : Nat} (h : ∀ j, j < n → f j = P j) : ∀ j, j < n → va_cpy f g 0 0 n j = P j := by
  intro j hj
  simp only [va_cpy, Nat.zero_le, Nat.zero_add, hj, and_self, if_true, Nat.sub_zero]
  exact h j hj
/-- what check(k, i) answers where OUT is empty -/
def hk_ckv (k i : Int32) : Int32 := if k.toInt = 1 ∧ i.toInt = 0 then 0 else if k.toInt = 4 ∧ (i.toInt = 0 ∨ i.toInt = 1) then 0 else if k.toInt = 10 ∧ 0 ≤ i.toInt ∧ i.toInt < 8 then hs_O i.toInt.toNat else -1

def ww_cx_rot : List Cond := Cond.code yJ6_rotateRight_7cf53 cJ6_rotateRight_7cf53 2 (some .int) :: ([] ++ ([]))
set_option maxHeartbeats 4000000 in
set_option maxRecDepth 100000 in
/-- turning right -/
theorem cx_rot (l : Launch) (D : va_G) (cI cJ : ClassId) (ad : Nat → Nat) (g : Nat → Int32) (lg : Nat → Int64) (ar : Nat → Nat → Int32) (bk : Nat → Int64) (sz : Nat) (x n : Int32) : Met l yJ6_rotateRight_7cf53 ww_cx_rot { frames := 0, cells := 0, slots := 0, locals := 0 } (va_Pc [.int x, .int n] (hk_B D [(cI, .int), (cJ, .long)] sz (xw cI cJ ad g lg ar bk))) (va_Qi (fun (r : Int32) (u : Unit) => r = hs_r x n) (fun u : Unit => hk_E D [(cI, .int), (cJ, .long)] (va_A (xw cI cJ ad g lg ar bk) sz) (xw cI cJ ad g lg ar bk)) (va_A (xw cI cJ ad g lg ar bk) sz)) 0 0 (va_A (xw cI cJ ad g lg ar bk) sz) := by
  refine hk_met (cc := cJ6_rotateRight_7cf53) (maxL := 2) (ret := (some .int)) (by decide) rfl (Nat.le_of_ble_eq_true rfl) ?_
  intro p e s m below meth c ls hx hb hr hml hown hts hlocks hin hA hw hl
  have hl : lv_has ls 2 [(0, .int x), (1, .int n)] := hl
  refine lv_iload_n hx hb dJ6_rotateRight_7cf53_0 rfl (lv_at hl 0 rfl) ?_
  refine lv_iload_n hx hb dJ6_rotateRight_7cf53_1 rfl (lv_at hl 1 rfl) ?_
  refine lv_iushr (v := ((x : Int32).toUInt32 >>> ((n : Int32).toUInt32 &&& Int32.toUInt32 31)).toInt32) hx hb dJ6_rotateRight_7cf53_2 rfl ?_
  refine lv_iload_n hx hb dJ6_rotateRight_7cf53_3 rfl (lv_at hl 0 rfl) ?_
  refine lv_iload_n hx hb dJ6_rotateRight_7cf53_4 rfl (lv_at hl 1 rfl) ?_
  refine lv_ineg hx hb dJ6_rotateRight_7cf53_5 ?_
  refine lv_ishl hx hb dJ6_rotateRight_7cf53_6 ?_
  refine lv_ior hx hb dJ6_rotateRight_7cf53_7 ?_
  exact hk_iret (u := ()) hx hb hr hlocks (hw) (rfl) dJ6_rotateRight_7cf53_8

def ww_cx_shaByte : List Cond := Cond.code yX0_shaByte cX0_shaByte 4 (some .int) :: ([] ++ ([]))
set_option maxHeartbeats 4000000 in
set_option maxRecDepth 100000 in
/-- Checks.shaByte, an empty part -/
theorem cx_shaByte (l : Launch) (D : va_G) (cI cJ : ClassId) (ad : Nat → Nat) (g : Nat → Int32) (lg : Nat → Int64) (ar : Nat → Nat → Int32) (bk : Nat → Int64) (sz : Nat) (n : Nat) (hn : n < 64) : Met l yX0_shaByte ww_cx_shaByte { frames := 0, cells := 0, slots := 0, locals := 0 } (va_Pc [.ref (ad 4), .int 0, .int 0, .int (nI n)] (hk_B D [(cI, .int), (cJ, .long)] sz (xw cI cJ ad g lg ar bk))) (va_Qi (fun (r : Int32) (u : Unit) => r = if n = 0 then (128 : Int32) else 0) (fun u : Unit => hk_E D [(cI, .int), (cJ, .long)] (va_A (xw cI cJ ad g lg ar bk) sz) (xw cI cJ ad g lg ar bk)) (va_A (xw cI cJ ad g lg ar bk) sz)) 0 0 (va_A (xw cI cJ ad g lg ar bk) sz) := by
  refine hk_met (cc := cX0_shaByte) (maxL := 4) (ret := (some .int)) (by decide) rfl (Nat.le_of_ble_eq_true rfl) ?_
  intro p e s m below meth c ls hx hb hr hml hown hts hlocks hin hA hw hl
  have hl : lv_has ls 4 [(0, .ref (ad 4)), (1, .int 0), (2, .int 0), (3, .int (nI n))] := hl
  refine lv_iload_n hx hb dX0_shaByte_0 rfl (lv_at hl 3 rfl) ?_
  refine lv_iload_n hx hb dX0_shaByte_1 rfl (lv_at hl 2 rfl) ?_
  refine lv_icmp_ge (tgt := 15) hx hb dX0_shaByte_2 (by decide) (fun _ => ?_) (fun cc_1 => absurd (nI_pos' (by omega)) cc_1)
  refine lv_iload_n hx hb dX0_shaByte_15 rfl (lv_at hl 3 rfl) ?_
  refine lv_iload_n hx hb dX0_shaByte_16 rfl (lv_at hl 2 rfl) ?_
  refine lv_icmp_ne (tgt := 26) hx hb dX0_shaByte_17 (by decide) (fun cc_2 => ?_) (fun cc_2 => ?_)
  · refine lv_iconst (v := 0) hx hb dX0_shaByte_26 (by decide) ?_
    exact hk_iret (u := ()) hx hb hr hlocks (hw) (by have hz : n ≠ 0 := fun q => cc_2 (by rw [q]; rfl); rw [if_neg hz]) dX0_shaByte_27
  · refine lv_sipush (v := 128) hx hb dX0_shaByte_20 (by decide) ?_
    refine lv_goto (tgt := 27) hx hb dX0_shaByte_23 (by decide) ?_
    exact hk_iret (u := ()) hx hb hr hlocks (hw) (by have hz : n = 0 := (nI_eq (b := 0) (by omega) (by decide)).mp cc_2; rw [if_pos hz]) dX0_shaByte_27

def ww_cx_mixRound : List Cond := Cond.code yX0_mixRound cX0_mixRound 10 none :: ([Cond.fieldLink RX0 15 "LzmaChains$Checks" "mixed" "[I", Cond.methodLink RX0 60 yJ6_rotateRight_7cf53, Cond.static yJ6_rotateRight_7cf53, Cond.initialized RJ6, Cond.code yJ6_rotateRight_7cf53 cJ6_rotateRight_7cf53 2 (some .int)] ++ (wsX00 ++ ([])))
set_option maxRecDepth 20000 in
theorem gw_cx_mixRound_0 : GoodIn ww_cx_mixRound (va_wsS RX0 60 yJ6_rotateRight_7cf53 ww_cx_rot) := goodIn_r _ [2, 3, 4, 5] rfl (by decide +kernel)
set_option maxHeartbeats 4000000 in
set_option maxRecDepth 100000 in
/-- Checks.mixRound -/
theorem cx_mixRound (l : Launch) (D : va_G) (cI cJ : ClassId) (ad : Nat → Nat) (g : Nat → Int32) (lg : Nat → Int64) (ar : Nat → Nat → Int32) (bk : Nat → Int64) (sz : Nat) (i : Nat) (hi : i < 64) (hm : ∀ j, j < 8 → ar 4 j = hs_M i j) : Met l yX0_mixRound ww_cx_mixRound { frames := 1, cells := 0, slots := 0, locals := 21 } (va_Pc [.ref (ad 11), .int (hs_K i + hs_L i)] (hk_B D [(cI, .int), (cJ, .long)] sz (xw cI cJ ad g lg ar bk))) (va_Qv (fun u : Nat → Int32 => ∀ j, j < 8 → u j = hs_M (i + 1) j) (fun u : Nat → Int32 => hk_E D [(cI, .int), (cJ, .long)] (va_A (xw cI cJ ad g lg ar bk) sz) (xw cI cJ ad g lg (va_up ar 4 u) bk)) (va_A (xw cI cJ ad g lg ar bk) sz)) 0 0 (va_A (xw cI cJ ad g lg ar bk) sz) := by
  refine hk_met (cc := cX0_mixRound) (maxL := 10) (ret := none) (by decide) rfl (Nat.le_of_ble_eq_true rfl) ?_
  intro p e s m below meth c ls hx hb hr hml hown hts hlocks hin hA hw hl
  have iX0 : ∀ w ∈ wsX00, w ∈ ww_cx_mixRound := fun _ h => List.mem_cons_of_mem _ (List.mem_append_right _ (List.mem_append_left _ h))
  have hl : lv_has ls 10 [(0, .ref (ad 11)), (1, .int (hs_K i + hs_L i))] := hl
  refine lv_aload_n hx hb dX0_mixRound_0 rfl (lv_at hl 0 rfl) ?_
  refine hk_get (ci := 3) (C := RX0) (T := TX0) (N := 3) (v := .ref (ad 13)) hx hb hts iX0 hown hw 11 rfl rfl 1 (by decide) (hts _ (List.mem_of_getElem? (i := 1) rfl)) rfl dX0_mixRound_1 ?_
  refine lv_iconst (v := 0) hx hb dX0_mixRound_4 (by decide) ?_
  refine hk_iald (v := (hs_M i 0)) hx hb hw 13 0 rfl rfl (show ¬ (_ ∨ _) by decide) dX0_mixRound_5 (hm 0 (by decide)) ?_
  refine lv_istore_n (lv' := [(2, .int (hs_M i 0)), (0, .ref (ad 11)), (1, .int (hs_K i + hs_L i))]) hx hb dX0_mixRound_6 rfl hl (by decide) rfl (fun ls hl => ?_)
  refine lv_aload_n hx hb dX0_mixRound_7 rfl (lv_at hl 1 rfl) ?_
  refine hk_get (ci := 3) (C := RX0) (T := TX0) (N := 3) (v := .ref (ad 13)) hx hb hts iX0 hown hw 11 rfl rfl 1 (by decide) (hts _ (List.mem_of_getElem? (i := 1) rfl)) rfl dX0_mixRound_8 ?_
  refine lv_iconst (v := 4) hx hb dX0_mixRound_11 (by decide) ?_
  refine hk_iald (v := (hs_M i 4)) hx hb hw 13 0 rfl rfl (show ¬ (_ ∨ _) by decide) dX0_mixRound_12 (hm 4 (by decide)) ?_
  refine lv_istore_n (lv' := [(3, .int (hs_M i 4)), (2, .int (hs_M i 0)), (0, .ref (ad 11)), (1, .int (hs_K i + hs_L i))]) hx hb dX0_mixRound_13 rfl hl (by decide) rfl (fun ls hl => ?_)
  refine lv_iload_n hx hb dX0_mixRound_14 rfl (lv_at hl 0 rfl) ?_
  refine lv_bipush (v := 6) hx hb dX0_mixRound_15 (by decide) ?_
  refine hk_Si (As := [.int (hs_M i 4), .int 6]) (rest := []) ⟨hx, hb, hml, hown, hts⟩ hw hA (cx_rot l D cI cJ ad g lg ar bk _ (hs_M i 4) 6) (va_cwS 2 hts gw_cx_mixRound_0 rfl rfl rfl (by decide +kernel) ⟨Nat.le_of_ble_eq_true rfl, Nat.le_of_ble_eq_true rfl⟩) rfl hl.1 rfl (Nat.le_of_ble_eq_true rfl) dX0_mixRound_17 ⟨Nat.le_of_ble_eq_true rfl, Nat.le_of_ble_eq_true rfl⟩ (fun rr_1 uu_2 H locs hp_3 hw => ?_)
  subst hp_3
  have hw : hk_W D [(cI, .int), (cJ, .long)] _ s _ _ (xw cI cJ ad g lg ar bk) := hw
  refine lv_iload_n hx hb dX0_mixRound_20 rfl (lv_at hl 0 rfl) ?_
  refine lv_bipush (v := 11) hx hb dX0_mixRound_21 (by decide) ?_
  refine hk_Si (As := [.int (hs_M i 4), .int 11]) (rest := [.int (hs_r (hs_M i 4) 6)]) ⟨hx, hb, hml, hown, hts⟩ hw hA (cx_rot l D cI cJ ad g lg ar bk _ (hs_M i 4) 11) (va_cwS 2 hts gw_cx_mixRound_0 rfl rfl rfl (by decide +kernel) ⟨Nat.le_of_ble_eq_true rfl, Nat.le_of_ble_eq_true rfl⟩) rfl hl.1 rfl (Nat.le_of_ble_eq_true rfl) dX0_mixRound_23 ⟨Nat.le_of_ble_eq_true rfl, Nat.le_of_ble_eq_true rfl⟩ (fun rr_4 uu_5 H locs hp_6 hw => ?_)
  subst hp_6
  have hw : hk_W D [(cI, .int), (cJ, .long)] _ s _ _ (xw cI cJ ad g lg ar bk) := hw
  refine lv_ixor hx hb dX0_mixRound_26 ?_
  refine lv_iload_n hx hb dX0_mixRound_27 rfl (lv_at hl 0 rfl) ?_
  refine lv_bipush (v := 25) hx hb dX0_mixRound_28 (by decide) ?_
  refine hk_Si (As := [.int (hs_M i 4), .int 25]) (rest := [.int ((hs_r (hs_M i 4) 6) ^^^ (hs_r (hs_M i 4) 11))]) ⟨hx, hb, hml, hown, hts⟩ hw hA (cx_rot l D cI cJ ad g lg ar bk _ (hs_M i 4) 25) (va_cwS 2 hts gw_cx_mixRound_0 rfl rfl rfl (by decide +kernel) ⟨Nat.le_of_ble_eq_true rfl, Nat.le_of_ble_eq_true rfl⟩) rfl hl.1 rfl (Nat.le_of_ble_eq_true rfl) dX0_mixRound_30 ⟨Nat.le_of_ble_eq_true rfl, Nat.le_of_ble_eq_true rfl⟩ (fun rr_7 uu_8 H locs hp_9 hw => ?_)
  subst hp_9
  have hw : hk_W D [(cI, .int), (cJ, .long)] _ s _ _ (xw cI cJ ad g lg ar bk) := hw
  refine lv_ixor hx hb dX0_mixRound_33 ?_
  refine lv_istore (lv' := [(4, .int (((hs_r (hs_M i 4) 6) ^^^ (hs_r (hs_M i 4) 11)) ^^^ (hs_r (hs_M i 4) 25))), (3, .int (hs_M i 4)), (2, .int (hs_M i 0)), (0, .ref (ad 11)), (1, .int (hs_K i + hs_L i))]) hx hb dX0_mixRound_34 hl (by decide) rfl (fun ls hl => ?_)
  refine lv_iload_n hx hb dX0_mixRound_36 rfl (lv_at hl 2 rfl) ?_
  refine lv_iconst (v := 2) hx hb dX0_mixRound_37 (by decide) ?_
  refine hk_Si (As := [.int (hs_M i 0), .int 2]) (rest := []) ⟨hx, hb, hml, hown, hts⟩ hw hA (cx_rot l D cI cJ ad g lg ar bk _ (hs_M i 0) 2) (va_cwS 2 hts gw_cx_mixRound_0 rfl rfl rfl (by decide +kernel) ⟨Nat.le_of_ble_eq_true rfl, Nat.le_of_ble_eq_true rfl⟩) rfl hl.1 rfl (Nat.le_of_ble_eq_true rfl) dX0_mixRound_38 ⟨Nat.le_of_ble_eq_true rfl, Nat.le_of_ble_eq_true rfl⟩ (fun rr_10 uu_11 H locs hp_12 hw => ?_)
  subst hp_12
  have hw : hk_W D [(cI, .int), (cJ, .long)] _ s _ _ (xw cI cJ ad g lg ar bk) := hw
  refine lv_iload_n hx hb dX0_mixRound_41 rfl (lv_at hl 2 rfl) ?_
  refine lv_bipush (v := 13) hx hb dX0_mixRound_42 (by decide) ?_
  refine hk_Si (As := [.int (hs_M i 0), .int 13]) (rest := [.int (hs_r (hs_M i 0) 2)]) ⟨hx, hb, hml, hown, hts⟩ hw hA (cx_rot l D cI cJ ad g lg ar bk _ (hs_M i 0) 13) (va_cwS 2 hts gw_cx_mixRound_0 rfl rfl rfl (by decide +kernel) ⟨Nat.le_of_ble_eq_true rfl, Nat.le_of_ble_eq_true rfl⟩) rfl hl.1 rfl (Nat.le_of_ble_eq_true rfl) dX0_mixRound_44 ⟨Nat.le_of_ble_eq_true rfl, Nat.le_of_ble_eq_true rfl⟩ (fun rr_13 uu_14 H locs hp_15 hw => ?_)
  subst hp_15
  have hw : hk_W D [(cI, .int), (cJ, .long)] _ s _ _ (xw cI cJ ad g lg ar bk) := hw
  refine lv_ixor hx hb dX0_mixRound_47 ?_
  refine lv_iload_n hx hb dX0_mixRound_48 rfl (lv_at hl 2 rfl) ?_
  refine lv_bipush (v := 22) hx hb dX0_mixRound_49 (by decide) ?_
  refine hk_Si (As := [.int (hs_M i 0), .int 22]) (rest := [.int ((hs_r (hs_M i 0) 2) ^^^ (hs_r (hs_M i 0) 13))]) ⟨hx, hb, hml, hown, hts⟩ hw hA (cx_rot l D cI cJ ad g lg ar bk _ (hs_M i 0) 22) (va_cwS 2 hts gw_cx_mixRound_0 rfl rfl rfl (by decide +kernel) ⟨Nat.le_of_ble_eq_true rfl, Nat.le_of_ble_eq_true rfl⟩) rfl hl.1 rfl (Nat.le_of_ble_eq_true rfl) dX0_mixRound_51 ⟨Nat.le_of_ble_eq_true rfl, Nat.le_of_ble_eq_true rfl⟩ (fun rr_16 uu_17 H locs hp_18 hw => ?_)
  subst hp_18
  have hw : hk_W D [(cI, .int), (cJ, .long)] _ s _ _ (xw cI cJ ad g lg ar bk) := hw
  refine lv_ixor hx hb dX0_mixRound_54 ?_
  refine lv_istore (lv' := [(5, .int (((hs_r (hs_M i 0) 2) ^^^ (hs_r (hs_M i 0) 13)) ^^^ (hs_r (hs_M i 0) 22))), (4, .int (((hs_r (hs_M i 4) 6) ^^^ (hs_r (hs_M i 4) 11)) ^^^ (hs_r (hs_M i 4) 25))), (3, .int (hs_M i 4)), (2, .int (hs_M i 0)), (0, .ref (ad 11)), (1, .int (hs_K i + hs_L i))]) hx hb dX0_mixRound_55 hl (by decide) rfl (fun ls hl => ?_)
  refine lv_iload_n hx hb dX0_mixRound_57 rfl (lv_at hl 2 rfl) ?_
  refine lv_aload_n hx hb dX0_mixRound_58 rfl (lv_at hl 4 rfl) ?_
  refine hk_get (ci := 3) (C := RX0) (T := TX0) (N := 3) (v := .ref (ad 13)) hx hb hts iX0 hown hw 11 rfl rfl 1 (by decide) (hts _ (List.mem_of_getElem? (i := 1) rfl)) rfl dX0_mixRound_59 ?_
  refine lv_iconst (v := 5) hx hb dX0_mixRound_62 (by decide) ?_
  refine hk_iald (v := (hs_M i 5)) hx hb hw 13 0 rfl rfl (show ¬ (_ ∨ _) by decide) dX0_mixRound_63 (hm 5 (by decide)) ?_
  refine lv_iand hx hb dX0_mixRound_64 ?_
  refine lv_iload_n hx hb dX0_mixRound_65 rfl (lv_at hl 2 rfl) ?_
  refine lv_iconst (v := (-1)) hx hb dX0_mixRound_66 (by decide) ?_
  refine lv_ixor hx hb dX0_mixRound_67 ?_
  refine lv_aload_n hx hb dX0_mixRound_68 rfl (lv_at hl 4 rfl) ?_
  refine hk_get (ci := 3) (C := RX0) (T := TX0) (N := 3) (v := .ref (ad 13)) hx hb hts iX0 hown hw 11 rfl rfl 1 (by decide) (hts _ (List.mem_of_getElem? (i := 1) rfl)) rfl dX0_mixRound_69 ?_
  refine lv_bipush (v := 6) hx hb dX0_mixRound_72 (by decide) ?_
  refine hk_iald (v := (hs_M i 6)) hx hb hw 13 0 rfl rfl (show ¬ (_ ∨ _) by decide) dX0_mixRound_74 (hm 6 (by decide)) ?_
  refine lv_iand hx hb dX0_mixRound_75 ?_
  refine lv_ixor hx hb dX0_mixRound_76 ?_
  refine lv_istore (lv' := [(6, .int (((hs_M i 4) &&& (hs_M i 5)) ^^^ (((hs_M i 4) ^^^ (-1)) &&& (hs_M i 6)))), (5, .int (((hs_r (hs_M i 0) 2) ^^^ (hs_r (hs_M i 0) 13)) ^^^ (hs_r (hs_M i 0) 22))), (4, .int (((hs_r (hs_M i 4) 6) ^^^ (hs_r (hs_M i 4) 11)) ^^^ (hs_r (hs_M i 4) 25))), (3, .int (hs_M i 4)), (2, .int (hs_M i 0)), (0, .ref (ad 11)), (1, .int (hs_K i + hs_L i))]) hx hb dX0_mixRound_77 hl (by decide) rfl (fun ls hl => ?_)
  refine lv_iload_n hx hb dX0_mixRound_79 rfl (lv_at hl 4 rfl) ?_
  refine lv_aload_n hx hb dX0_mixRound_80 rfl (lv_at hl 5 rfl) ?_
  refine hk_get (ci := 3) (C := RX0) (T := TX0) (N := 3) (v := .ref (ad 13)) hx hb hts iX0 hown hw 11 rfl rfl 1 (by decide) (hts _ (List.mem_of_getElem? (i := 1) rfl)) rfl dX0_mixRound_81 ?_
  refine lv_iconst (v := 1) hx hb dX0_mixRound_84 (by decide) ?_
  refine hk_iald (v := (hs_M i 1)) hx hb hw 13 0 rfl rfl (show ¬ (_ ∨ _) by decide) dX0_mixRound_85 (hm 1 (by decide)) ?_
  refine lv_iand hx hb dX0_mixRound_86 ?_
  refine lv_iload_n hx hb dX0_mixRound_87 rfl (lv_at hl 4 rfl) ?_
  refine lv_aload_n hx hb dX0_mixRound_88 rfl (lv_at hl 5 rfl) ?_
  refine hk_get (ci := 3) (C := RX0) (T := TX0) (N := 3) (v := .ref (ad 13)) hx hb hts iX0 hown hw 11 rfl rfl 1 (by decide) (hts _ (List.mem_of_getElem? (i := 1) rfl)) rfl dX0_mixRound_89 ?_
  refine lv_iconst (v := 2) hx hb dX0_mixRound_92 (by decide) ?_
  refine hk_iald (v := (hs_M i 2)) hx hb hw 13 0 rfl rfl (show ¬ (_ ∨ _) by decide) dX0_mixRound_93 (hm 2 (by decide)) ?_
  refine lv_iand hx hb dX0_mixRound_94 ?_
  refine lv_ixor hx hb dX0_mixRound_95 ?_
  refine lv_aload_n hx hb dX0_mixRound_96 rfl (lv_at hl 5 rfl) ?_
  refine hk_get (ci := 3) (C := RX0) (T := TX0) (N := 3) (v := .ref (ad 13)) hx hb hts iX0 hown hw 11 rfl rfl 1 (by decide) (hts _ (List.mem_of_getElem? (i := 1) rfl)) rfl dX0_mixRound_97 ?_
  refine lv_iconst (v := 1) hx hb dX0_mixRound_100 (by decide) ?_
  refine hk_iald (v := (hs_M i 1)) hx hb hw 13 0 rfl rfl (show ¬ (_ ∨ _) by decide) dX0_mixRound_101 (hm 1 (by decide)) ?_
  refine lv_aload_n hx hb dX0_mixRound_102 rfl (lv_at hl 5 rfl) ?_
  refine hk_get (ci := 3) (C := RX0) (T := TX0) (N := 3) (v := .ref (ad 13)) hx hb hts iX0 hown hw 11 rfl rfl 1 (by decide) (hts _ (List.mem_of_getElem? (i := 1) rfl)) rfl dX0_mixRound_103 ?_
  refine lv_iconst (v := 2) hx hb dX0_mixRound_106 (by decide) ?_
  refine hk_iald (v := (hs_M i 2)) hx hb hw 13 0 rfl rfl (show ¬ (_ ∨ _) by decide) dX0_mixRound_107 (hm 2 (by decide)) ?_
  refine lv_iand hx hb dX0_mixRound_108 ?_
  refine lv_ixor hx hb dX0_mixRound_109 ?_
  refine lv_istore (lv' := [(7, .int ((((hs_M i 0) &&& (hs_M i 1)) ^^^ ((hs_M i 0) &&& (hs_M i 2))) ^^^ ((hs_M i 1) &&& (hs_M i 2)))), (6, .int (((hs_M i 4) &&& (hs_M i 5)) ^^^ (((hs_M i 4) ^^^ (-1)) &&& (hs_M i 6)))), (5, .int (((hs_r (hs_M i 0) 2) ^^^ (hs_r (hs_M i 0) 13)) ^^^ (hs_r (hs_M i 0) 22))), (4, .int (((hs_r (hs_M i 4) 6) ^^^ (hs_r (hs_M i 4) 11)) ^^^ (hs_r (hs_M i 4) 25))), (3, .int (hs_M i 4)), (2, .int (hs_M i 0)), (0, .ref (ad 11)), (1, .int (hs_K i + hs_L i))]) hx hb dX0_mixRound_110 hl (by decide) rfl (fun ls hl => ?_)
  refine lv_aload_n hx hb dX0_mixRound_112 rfl (lv_at hl 6 rfl) ?_
  refine hk_get (ci := 3) (C := RX0) (T := TX0) (N := 3) (v := .ref (ad 13)) hx hb hts iX0 hown hw 11 rfl rfl 1 (by decide) (hts _ (List.mem_of_getElem? (i := 1) rfl)) rfl dX0_mixRound_113 ?_
  refine lv_bipush (v := 7) hx hb dX0_mixRound_116 (by decide) ?_
  refine hk_iald (v := (hs_M i 7)) hx hb hw 13 0 rfl rfl (show ¬ (_ ∨ _) by decide) dX0_mixRound_118 (hm 7 (by decide)) ?_
  refine lv_iload hx hb dX0_mixRound_119 (lv_at hl 3 rfl) ?_
  refine lv_iadd hx hb dX0_mixRound_121 ?_
  refine lv_iload hx hb dX0_mixRound_122 (lv_at hl 1 rfl) ?_
  refine lv_iadd hx hb dX0_mixRound_124 ?_
  refine lv_iload_n hx hb dX0_mixRound_125 rfl (lv_at hl 7 rfl) ?_
  refine lv_iadd hx hb dX0_mixRound_126 ?_
  refine lv_istore (lv' := [(8, .int ((((hs_M i 7) + (((hs_r (hs_M i 4) 6) ^^^ (hs_r (hs_M i 4) 11)) ^^^ (hs_r (hs_M i 4) 25))) + (((hs_M i 4) &&& (hs_M i 5)) ^^^ (((hs_M i 4) ^^^ (-1)) &&& (hs_M i 6)))) + (hs_K i + hs_L i))), (7, .int ((((hs_M i 0) &&& (hs_M i 1)) ^^^ ((hs_M i 0) &&& (hs_M i 2))) ^^^ ((hs_M i 1) &&& (hs_M i 2)))), (6, .int (((hs_M i 4) &&& (hs_M i 5)) ^^^ (((hs_M i 4) ^^^ (-1)) &&& (hs_M i 6)))), (5, .int (((hs_r (hs_M i 0) 2) ^^^ (hs_r (hs_M i 0) 13)) ^^^ (hs_r (hs_M i 0) 22))), (4, .int (((hs_r (hs_M i 4) 6) ^^^ (hs_r (hs_M i 4) 11)) ^^^ (hs_r (hs_M i 4) 25))), (3, .int (hs_M i 4)), (2, .int (hs_M i 0)), (0, .ref (ad 11)), (1, .int (hs_K i + hs_L i))]) hx hb dX0_mixRound_127 hl (by decide) rfl (fun ls hl => ?_)
  refine lv_bipush (v := 7) hx hb dX0_mixRound_129 (by decide) ?_
  refine lv_istore (lv' := [(9, .int 7), (8, .int ((((hs_M i 7) + (((hs_r (hs_M i 4) 6) ^^^ (hs_r (hs_M i 4) 11)) ^^^ (hs_r (hs_M i 4) 25))) + (((hs_M i 4) &&& (hs_M i 5)) ^^^ (((hs_M i 4) ^^^ (-1)) &&& (hs_M i 6)))) + (hs_K i + hs_L i))), (7, .int ((((hs_M i 0) &&& (hs_M i 1)) ^^^ ((hs_M i 0) &&& (hs_M i 2))) ^^^ ((hs_M i 1) &&& (hs_M i 2)))), (6, .int (((hs_M i 4) &&& (hs_M i 5)) ^^^ (((hs_M i 4) ^^^ (-1)) &&& (hs_M i 6)))), (5, .int (((hs_r (hs_M i 0) 2) ^^^ (hs_r (hs_M i 0) 13)) ^^^ (hs_r (hs_M i 0) 22))), (4, .int (((hs_r (hs_M i 4) 6) ^^^ (hs_r (hs_M i 4) 11)) ^^^ (hs_r (hs_M i 4) 25))), (3, .int (hs_M i 4)), (2, .int (hs_M i 0)), (0, .ref (ad 11)), (1, .int (hs_K i + hs_L i))]) hx hb dX0_mixRound_131 hl (by decide) rfl (fun ls hl => ?_)
  refine lv_iload hx hb dX0_mixRound_133 (lv_at hl 0 rfl) ?_
  refine lv_if_le (tgt := 160) hx hb dX0_mixRound_135 (by decide) (fun cc_19 => absurd cc_19 (by decide)) (fun _ => ?_)
  refine lv_aload_n hx hb dX0_mixRound_138 rfl (lv_at hl 8 rfl) ?_
  refine hk_get (ci := 3) (C := RX0) (T := TX0) (N := 3) (v := .ref (ad 13)) hx hb hts iX0 hown hw 11 rfl rfl 1 (by decide) (hts _ (List.mem_of_getElem? (i := 1) rfl)) rfl dX0_mixRound_139 ?_
  refine lv_iload hx hb dX0_mixRound_142 (lv_at hl 0 rfl) ?_
  refine lv_aload_n hx hb dX0_mixRound_144 rfl (lv_at hl 8 rfl) ?_
  refine hk_get (ci := 3) (C := RX0) (T := TX0) (N := 3) (v := .ref (ad 13)) hx hb hts iX0 hown hw 11 rfl rfl 1 (by decide) (hts _ (List.mem_of_getElem? (i := 1) rfl)) rfl dX0_mixRound_145 ?_
  refine lv_iload hx hb dX0_mixRound_148 (lv_at hl 0 rfl) ?_
  refine lv_iconst (v := 1) hx hb dX0_mixRound_150 (by decide) ?_
  refine lv_isub hx hb dX0_mixRound_151 ?_
  refine hk_topi 6 (by decide +kernel) ?_
  refine hk_iald (v := (hs_M (i + 1) 7)) hx hb hw 13 0 rfl rfl (show ¬ (_ ∨ _) by decide) dX0_mixRound_152 ((hm 6 (by decide)).trans ((show ∀ i, i < 64 → hs_M i 6 = hs_M (i + 1) 7 by decide +kernel) i hi)) ?_
  refine hk_iast hx hb hw 13 0 rfl rfl (show ¬ (_ ∨ _) by decide) dX0_mixRound_153 (ws' := xw cI cJ ad g lg (va_up ar 4 (upd (ar 4) 7 (hs_M (i + 1) 7))) bk) rfl (fun H locs hw => ?_)
  refine lv_iinc (v := 6) (lv' := [(9, .int 6), (8, .int ((((hs_M i 7) + (((hs_r (hs_M i 4) 6) ^^^ (hs_r (hs_M i 4) 11)) ^^^ (hs_r (hs_M i 4) 25))) + (((hs_M i 4) &&& (hs_M i 5)) ^^^ (((hs_M i 4) ^^^ (-1)) &&& (hs_M i 6)))) + (hs_K i + hs_L i))), (7, .int ((((hs_M i 0) &&& (hs_M i 1)) ^^^ ((hs_M i 0) &&& (hs_M i 2))) ^^^ ((hs_M i 1) &&& (hs_M i 2)))), (6, .int (((hs_M i 4) &&& (hs_M i 5)) ^^^ (((hs_M i 4) ^^^ (-1)) &&& (hs_M i 6)))), (5, .int (((hs_r (hs_M i 0) 2) ^^^ (hs_r (hs_M i 0) 13)) ^^^ (hs_r (hs_M i 0) 22))), (4, .int (((hs_r (hs_M i 4) 6) ^^^ (hs_r (hs_M i 4) 11)) ^^^ (hs_r (hs_M i 4) 25))), (3, .int (hs_M i 4)), (2, .int (hs_M i 0)), (0, .ref (ad 11)), (1, .int (hs_K i + hs_L i))]) hx hb dX0_mixRound_154 hl (k := 0) rfl rfl (by decide) rfl (fun ls hl => ?_)
  refine lv_goto (tgt := 133) hx hb dX0_mixRound_157 (by decide) ?_
  refine lv_iload hx hb dX0_mixRound_133 (lv_at hl 0 rfl) ?_
  refine lv_if_le (tgt := 160) hx hb dX0_mixRound_135 (by decide) (fun cc_20 => absurd cc_20 (by decide)) (fun _ => ?_)
  refine lv_aload_n hx hb dX0_mixRound_138 rfl (lv_at hl 8 rfl) ?_
  refine hk_get (ci := 3) (C := RX0) (T := TX0) (N := 3) (v := .ref (ad 13)) hx hb hts iX0 hown hw 11 rfl rfl 1 (by decide) (hts _ (List.mem_of_getElem? (i := 1) rfl)) rfl dX0_mixRound_139 ?_
  refine lv_iload hx hb dX0_mixRound_142 (lv_at hl 0 rfl) ?_
  refine lv_aload_n hx hb dX0_mixRound_144 rfl (lv_at hl 8 rfl) ?_
  refine hk_get (ci := 3) (C := RX0) (T := TX0) (N := 3) (v := .ref (ad 13)) hx hb hts iX0 hown hw 11 rfl rfl 1 (by decide) (hts _ (List.mem_of_getElem? (i := 1) rfl)) rfl dX0_mixRound_145 ?_
  refine lv_iload hx hb dX0_mixRound_148 (lv_at hl 0 rfl) ?_
  refine lv_iconst (v := 1) hx hb dX0_mixRound_150 (by decide) ?_
  refine lv_isub hx hb dX0_mixRound_151 ?_
  refine hk_topi 5 (by decide +kernel) ?_
  refine hk_iald (v := (hs_M (i + 1) 6)) hx hb hw 13 0 rfl rfl (show ¬ (_ ∨ _) by decide) dX0_mixRound_152 ((hm 5 (by decide)).trans ((show ∀ i, i < 64 → hs_M i 5 = hs_M (i + 1) 6 by decide +kernel) i hi)) ?_
  refine hk_iast hx hb hw 13 0 rfl rfl (show ¬ (_ ∨ _) by decide) dX0_mixRound_153 (ws' := xw cI cJ ad g lg (va_up ar 4 (upd (upd (ar 4) 7 (hs_M (i + 1) 7)) 6 (hs_M (i + 1) 6))) bk) rfl (fun H locs hw => ?_)
  refine lv_iinc (v := 5) (lv' := [(9, .int 5), (8, .int ((((hs_M i 7) + (((hs_r (hs_M i 4) 6) ^^^ (hs_r (hs_M i 4) 11)) ^^^ (hs_r (hs_M i 4) 25))) + (((hs_M i 4) &&& (hs_M i 5)) ^^^ (((hs_M i 4) ^^^ (-1)) &&& (hs_M i 6)))) + (hs_K i + hs_L i))), (7, .int ((((hs_M i 0) &&& (hs_M i 1)) ^^^ ((hs_M i 0) &&& (hs_M i 2))) ^^^ ((hs_M i 1) &&& (hs_M i 2)))), (6, .int (((hs_M i 4) &&& (hs_M i 5)) ^^^ (((hs_M i 4) ^^^ (-1)) &&& (hs_M i 6)))), (5, .int (((hs_r (hs_M i 0) 2) ^^^ (hs_r (hs_M i 0) 13)) ^^^ (hs_r (hs_M i 0) 22))), (4, .int (((hs_r (hs_M i 4) 6) ^^^ (hs_r (hs_M i 4) 11)) ^^^ (hs_r (hs_M i 4) 25))), (3, .int (hs_M i 4)), (2, .int (hs_M i 0)), (0, .ref (ad 11)), (1, .int (hs_K i + hs_L i))]) hx hb dX0_mixRound_154 hl (k := 0) rfl rfl (by decide) rfl (fun ls hl => ?_)
  refine lv_goto (tgt := 133) hx hb dX0_mixRound_157 (by decide) ?_
  refine lv_iload hx hb dX0_mixRound_133 (lv_at hl 0 rfl) ?_
  refine lv_if_le (tgt := 160) hx hb dX0_mixRound_135 (by decide) (fun cc_21 => absurd cc_21 (by decide)) (fun _ => ?_)
  refine lv_aload_n hx hb dX0_mixRound_138 rfl (lv_at hl 8 rfl) ?_
  refine hk_get (ci := 3) (C := RX0) (T := TX0) (N := 3) (v := .ref (ad 13)) hx hb hts iX0 hown hw 11 rfl rfl 1 (by decide) (hts _ (List.mem_of_getElem? (i := 1) rfl)) rfl dX0_mixRound_139 ?_
  refine lv_iload hx hb dX0_mixRound_142 (lv_at hl 0 rfl) ?_
  refine lv_aload_n hx hb dX0_mixRound_144 rfl (lv_at hl 8 rfl) ?_
  refine hk_get (ci := 3) (C := RX0) (T := TX0) (N := 3) (v := .ref (ad 13)) hx hb hts iX0 hown hw 11 rfl rfl 1 (by decide) (hts _ (List.mem_of_getElem? (i := 1) rfl)) rfl dX0_mixRound_145 ?_
  refine lv_iload hx hb dX0_mixRound_148 (lv_at hl 0 rfl) ?_
  refine lv_iconst (v := 1) hx hb dX0_mixRound_150 (by decide) ?_
  refine lv_isub hx hb dX0_mixRound_151 ?_
  refine hk_topi 4 (by decide +kernel) ?_
  refine hk_iald (v := (hs_M (i + 1) 5)) hx hb hw 13 0 rfl rfl (show ¬ (_ ∨ _) by decide) dX0_mixRound_152 ((hm 4 (by decide)).trans ((show ∀ i, i < 64 → hs_M i 4 = hs_M (i + 1) 5 by decide +kernel) i hi)) ?_
  refine hk_iast hx hb hw 13 0 rfl rfl (show ¬ (_ ∨ _) by decide) dX0_mixRound_153 (ws' := xw cI cJ ad g lg (va_up ar 4 (upd (upd (upd (ar 4) 7 (hs_M (i + 1) 7)) 6 (hs_M (i + 1) 6)) 5 (hs_M (i + 1) 5))) bk) rfl (fun H locs hw => ?_)
  refine lv_iinc (v := 4) (lv' := [(9, .int 4), (8, .int ((((hs_M i 7) + (((hs_r (hs_M i 4) 6) ^^^ (hs_r (hs_M i 4) 11)) ^^^ (hs_r (hs_M i 4) 25))) + (((hs_M i 4) &&& (hs_M i 5)) ^^^ (((hs_M i 4) ^^^ (-1)) &&& (hs_M i 6)))) + (hs_K i + hs_L i))), (7, .int ((((hs_M i 0) &&& (hs_M i 1)) ^^^ ((hs_M i 0) &&& (hs_M i 2))) ^^^ ((hs_M i 1) &&& (hs_M i 2)))), (6, .int (((hs_M i 4) &&& (hs_M i 5)) ^^^ (((hs_M i 4) ^^^ (-1)) &&& (hs_M i 6)))), (5, .int (((hs_r (hs_M i 0) 2) ^^^ (hs_r (hs_M i 0) 13)) ^^^ (hs_r (hs_M i 0) 22))), (4, .int (((hs_r (hs_M i 4) 6) ^^^ (hs_r (hs_M i 4) 11)) ^^^ (hs_r (hs_M i 4) 25))), (3, .int (hs_M i 4)), (2, .int (hs_M i 0)), (0, .ref (ad 11)), (1, .int (hs_K i + hs_L i))]) hx hb dX0_mixRound_154 hl (k := 0) rfl rfl (by decide) rfl (fun ls hl => ?_)
  refine lv_goto (tgt := 133) hx hb dX0_mixRound_157 (by decide) ?_
  refine lv_iload hx hb dX0_mixRound_133 (lv_at hl 0 rfl) ?_
  refine lv_if_le (tgt := 160) hx hb dX0_mixRound_135 (by decide) (fun cc_22 => absurd cc_22 (by decide)) (fun _ => ?_)
  refine lv_aload_n hx hb dX0_mixRound_138 rfl (lv_at hl 8 rfl) ?_
  refine hk_get (ci := 3) (C := RX0) (T := TX0) (N := 3) (v := .ref (ad 13)) hx hb hts iX0 hown hw 11 rfl rfl 1 (by decide) (hts _ (List.mem_of_getElem? (i := 1) rfl)) rfl dX0_mixRound_139 ?_
  refine lv_iload hx hb dX0_mixRound_142 (lv_at hl 0 rfl) ?_
  refine lv_aload_n hx hb dX0_mixRound_144 rfl (lv_at hl 8 rfl) ?_
  refine hk_get (ci := 3) (C := RX0) (T := TX0) (N := 3) (v := .ref (ad 13)) hx hb hts iX0 hown hw 11 rfl rfl 1 (by decide) (hts _ (List.mem_of_getElem? (i := 1) rfl)) rfl dX0_mixRound_145 ?_
  refine lv_iload hx hb dX0_mixRound_148 (lv_at hl 0 rfl) ?_
  refine lv_iconst (v := 1) hx hb dX0_mixRound_150 (by decide) ?_
  refine lv_isub hx hb dX0_mixRound_151 ?_
  refine hk_topi 3 (by decide +kernel) ?_
  refine hk_iald (v := (hs_M i 3)) hx hb hw 13 0 rfl rfl (show ¬ (_ ∨ _) by decide) dX0_mixRound_152 (hm 3 (by decide)) ?_
  refine hk_iast hx hb hw 13 0 rfl rfl (show ¬ (_ ∨ _) by decide) dX0_mixRound_153 (ws' := xw cI cJ ad g lg (va_up ar 4 (upd (upd (upd (upd (ar 4) 7 (hs_M (i + 1) 7)) 6 (hs_M (i + 1) 6)) 5 (hs_M (i + 1) 5)) 4 (hs_M i 3))) bk) rfl (fun H locs hw => ?_)
  refine lv_iinc (v := 3) (lv' := [(9, .int 3), (8, .int ((((hs_M i 7) + (((hs_r (hs_M i 4) 6) ^^^ (hs_r (hs_M i 4) 11)) ^^^ (hs_r (hs_M i 4) 25))) + (((hs_M i 4) &&& (hs_M i 5)) ^^^ (((hs_M i 4) ^^^ (-1)) &&& (hs_M i 6)))) + (hs_K i + hs_L i))), (7, .int ((((hs_M i 0) &&& (hs_M i 1)) ^^^ ((hs_M i 0) &&& (hs_M i 2))) ^^^ ((hs_M i 1) &&& (hs_M i 2)))), (6, .int (((hs_M i 4) &&& (hs_M i 5)) ^^^ (((hs_M i 4) ^^^ (-1)) &&& (hs_M i 6)))), (5, .int (((hs_r (hs_M i 0) 2) ^^^ (hs_r (hs_M i 0) 13)) ^^^ (hs_r (hs_M i 0) 22))), (4, .int (((hs_r (hs_M i 4) 6) ^^^ (hs_r (hs_M i 4) 11)) ^^^ (hs_r (hs_M i 4) 25))), (3, .int (hs_M i 4)), (2, .int (hs_M i 0)), (0, .ref (ad 11)), (1, .int (hs_K i + hs_L i))]) hx hb dX0_mixRound_154 hl (k := 0) rfl rfl (by decide) rfl (fun ls hl => ?_)
  refine lv_goto (tgt := 133) hx hb dX0_mixRound_157 (by decide) ?_
  refine lv_iload hx hb dX0_mixRound_133 (lv_at hl 0 rfl) ?_
  refine lv_if_le (tgt := 160) hx hb dX0_mixRound_135 (by decide) (fun cc_23 => absurd cc_23 (by decide)) (fun _ => ?_)
  refine lv_aload_n hx hb dX0_mixRound_138 rfl (lv_at hl 8 rfl) ?_
  refine hk_get (ci := 3) (C := RX0) (T := TX0) (N := 3) (v := .ref (ad 13)) hx hb hts iX0 hown hw 11 rfl rfl 1 (by decide) (hts _ (List.mem_of_getElem? (i := 1) rfl)) rfl dX0_mixRound_139 ?_
  refine lv_iload hx hb dX0_mixRound_142 (lv_at hl 0 rfl) ?_
  refine lv_aload_n hx hb dX0_mixRound_144 rfl (lv_at hl 8 rfl) ?_
  refine hk_get (ci := 3) (C := RX0) (T := TX0) (N := 3) (v := .ref (ad 13)) hx hb hts iX0 hown hw 11 rfl rfl 1 (by decide) (hts _ (List.mem_of_getElem? (i := 1) rfl)) rfl dX0_mixRound_145 ?_
  refine lv_iload hx hb dX0_mixRound_148 (lv_at hl 0 rfl) ?_
  refine lv_iconst (v := 1) hx hb dX0_mixRound_150 (by decide) ?_
  refine lv_isub hx hb dX0_mixRound_151 ?_
  refine hk_topi 2 (by decide +kernel) ?_
  refine hk_iald (v := (hs_M (i + 1) 3)) hx hb hw 13 0 rfl rfl (show ¬ (_ ∨ _) by decide) dX0_mixRound_152 ((hm 2 (by decide)).trans ((show ∀ i, i < 64 → hs_M i 2 = hs_M (i + 1) 3 by decide +kernel) i hi)) ?_
  refine hk_iast hx hb hw 13 0 rfl rfl (show ¬ (_ ∨ _) by decide) dX0_mixRound_153 (ws' := xw cI cJ ad g lg (va_up ar 4 (upd (upd (upd (upd (upd (ar 4) 7 (hs_M (i + 1) 7)) 6 (hs_M (i + 1) 6)) 5 (hs_M (i + 1) 5)) 4 (hs_M i 3)) 3 (hs_M (i + 1) 3))) bk) rfl (fun H locs hw => ?_)
  refine lv_iinc (v := 2) (lv' := [(9, .int 2), (8, .int ((((hs_M i 7) + (((hs_r (hs_M i 4) 6) ^^^ (hs_r (hs_M i 4) 11)) ^^^ (hs_r (hs_M i 4) 25))) + (((hs_M i 4) &&& (hs_M i 5)) ^^^ (((hs_M i 4) ^^^ (-1)) &&& (hs_M i 6)))) + (hs_K i + hs_L i))), (7, .int ((((hs_M i 0) &&& (hs_M i 1)) ^^^ ((hs_M i 0) &&& (hs_M i 2))) ^^^ ((hs_M i 1) &&& (hs_M i 2)))), (6, .int (((hs_M i 4) &&& (hs_M i 5)) ^^^ (((hs_M i 4) ^^^ (-1)) &&& (hs_M i 6)))), (5, .int (((hs_r (hs_M i 0) 2) ^^^ (hs_r (hs_M i 0) 13)) ^^^ (hs_r (hs_M i 0) 22))), (4, .int (((hs_r (hs_M i 4) 6) ^^^ (hs_r (hs_M i 4) 11)) ^^^ (hs_r (hs_M i 4) 25))), (3, .int (hs_M i 4)), (2, .int (hs_M i 0)), (0, .ref (ad 11)), (1, .int (hs_K i + hs_L i))]) hx hb dX0_mixRound_154 hl (k := 0) rfl rfl (by decide) rfl (fun ls hl => ?_)
  refine lv_goto (tgt := 133) hx hb dX0_mixRound_157 (by decide) ?_
  refine lv_iload hx hb dX0_mixRound_133 (lv_at hl 0 rfl) ?_
  refine lv_if_le (tgt := 160) hx hb dX0_mixRound_135 (by decide) (fun cc_24 => absurd cc_24 (by decide)) (fun _ => ?_)
  refine lv_aload_n hx hb dX0_mixRound_138 rfl (lv_at hl 8 rfl) ?_
  refine hk_get (ci := 3) (C := RX0) (T := TX0) (N := 3) (v := .ref (ad 13)) hx hb hts iX0 hown hw 11 rfl rfl 1 (by decide) (hts _ (List.mem_of_getElem? (i := 1) rfl)) rfl dX0_mixRound_139 ?_
  refine lv_iload hx hb dX0_mixRound_142 (lv_at hl 0 rfl) ?_
  refine lv_aload_n hx hb dX0_mixRound_144 rfl (lv_at hl 8 rfl) ?_
  refine hk_get (ci := 3) (C := RX0) (T := TX0) (N := 3) (v := .ref (ad 13)) hx hb hts iX0 hown hw 11 rfl rfl 1 (by decide) (hts _ (List.mem_of_getElem? (i := 1) rfl)) rfl dX0_mixRound_145 ?_
  refine lv_iload hx hb dX0_mixRound_148 (lv_at hl 0 rfl) ?_
  refine lv_iconst (v := 1) hx hb dX0_mixRound_150 (by decide) ?_
  refine lv_isub hx hb dX0_mixRound_151 ?_
  refine hk_topi 1 (by decide +kernel) ?_
  refine hk_iald (v := (hs_M (i + 1) 2)) hx hb hw 13 0 rfl rfl (show ¬ (_ ∨ _) by decide) dX0_mixRound_152 ((hm 1 (by decide)).trans ((show ∀ i, i < 64 → hs_M i 1 = hs_M (i + 1) 2 by decide +kernel) i hi)) ?_
  refine hk_iast hx hb hw 13 0 rfl rfl (show ¬ (_ ∨ _) by decide) dX0_mixRound_153 (ws' := xw cI cJ ad g lg (va_up ar 4 (upd (upd (upd (upd (upd (upd (ar 4) 7 (hs_M (i + 1) 7)) 6 (hs_M (i + 1) 6)) 5 (hs_M (i + 1) 5)) 4 (hs_M i 3)) 3 (hs_M (i + 1) 3)) 2 (hs_M (i + 1) 2))) bk) rfl (fun H locs hw => ?_)
  refine lv_iinc (v := 1) (lv' := [(9, .int 1), (8, .int ((((hs_M i 7) + (((hs_r (hs_M i 4) 6) ^^^ (hs_r (hs_M i 4) 11)) ^^^ (hs_r (hs_M i 4) 25))) + (((hs_M i 4) &&& (hs_M i 5)) ^^^ (((hs_M i 4) ^^^ (-1)) &&& (hs_M i 6)))) + (hs_K i + hs_L i))), (7, .int ((((hs_M i 0) &&& (hs_M i 1)) ^^^ ((hs_M i 0) &&& (hs_M i 2))) ^^^ ((hs_M i 1) &&& (hs_M i 2)))), (6, .int (((hs_M i 4) &&& (hs_M i 5)) ^^^ (((hs_M i 4) ^^^ (-1)) &&& (hs_M i 6)))), (5, .int (((hs_r (hs_M i 0) 2) ^^^ (hs_r (hs_M i 0) 13)) ^^^ (hs_r (hs_M i 0) 22))), (4, .int (((hs_r (hs_M i 4) 6) ^^^ (hs_r (hs_M i 4) 11)) ^^^ (hs_r (hs_M i 4) 25))), (3, .int (hs_M i 4)), (2, .int (hs_M i 0)), (0, .ref (ad 11)), (1, .int (hs_K i + hs_L i))]) hx hb dX0_mixRound_154 hl (k := 0) rfl rfl (by decide) rfl (fun ls hl => ?_)
  refine lv_goto (tgt := 133) hx hb dX0_mixRound_157 (by decide) ?_
  refine lv_iload hx hb dX0_mixRound_133 (lv_at hl 0 rfl) ?_
  refine lv_if_le (tgt := 160) hx hb dX0_mixRound_135 (by decide) (fun cc_25 => absurd cc_25 (by decide)) (fun _ => ?_)
  refine lv_aload_n hx hb dX0_mixRound_138 rfl (lv_at hl 8 rfl) ?_
  refine hk_get (ci := 3) (C := RX0) (T := TX0) (N := 3) (v := .ref (ad 13)) hx hb hts iX0 hown hw 11 rfl rfl 1 (by decide) (hts _ (List.mem_of_getElem? (i := 1) rfl)) rfl dX0_mixRound_139 ?_
  refine lv_iload hx hb dX0_mixRound_142 (lv_at hl 0 rfl) ?_
  refine lv_aload_n hx hb dX0_mixRound_144 rfl (lv_at hl 8 rfl) ?_
  refine hk_get (ci := 3) (C := RX0) (T := TX0) (N := 3) (v := .ref (ad 13)) hx hb hts iX0 hown hw 11 rfl rfl 1 (by decide) (hts _ (List.mem_of_getElem? (i := 1) rfl)) rfl dX0_mixRound_145 ?_
  refine lv_iload hx hb dX0_mixRound_148 (lv_at hl 0 rfl) ?_
  refine lv_iconst (v := 1) hx hb dX0_mixRound_150 (by decide) ?_
  refine lv_isub hx hb dX0_mixRound_151 ?_
  refine hk_topi 0 (by decide +kernel) ?_
  refine hk_iald (v := (hs_M (i + 1) 1)) hx hb hw 13 0 rfl rfl (show ¬ (_ ∨ _) by decide) dX0_mixRound_152 ((hm 0 (by decide)).trans ((show ∀ i, i < 64 → hs_M i 0 = hs_M (i + 1) 1 by decide +kernel) i hi)) ?_
  refine hk_iast hx hb hw 13 0 rfl rfl (show ¬ (_ ∨ _) by decide) dX0_mixRound_153 (ws' := xw cI cJ ad g lg (va_up ar 4 (upd (upd (upd (upd (upd (upd (upd (ar 4) 7 (hs_M (i + 1) 7)) 6 (hs_M (i + 1) 6)) 5 (hs_M (i + 1) 5)) 4 (hs_M i 3)) 3 (hs_M (i + 1) 3)) 2 (hs_M (i + 1) 2)) 1 (hs_M (i + 1) 1))) bk) rfl (fun H locs hw => ?_)
  refine lv_iinc (v := 0) (lv' := [(9, .int 0), (8, .int ((((hs_M i 7) + (((hs_r (hs_M i 4) 6) ^^^ (hs_r (hs_M i 4) 11)) ^^^ (hs_r (hs_M i 4) 25))) + (((hs_M i 4) &&& (hs_M i 5)) ^^^ (((hs_M i 4) ^^^ (-1)) &&& (hs_M i 6)))) + (hs_K i + hs_L i))), (7, .int ((((hs_M i 0) &&& (hs_M i 1)) ^^^ ((hs_M i 0) &&& (hs_M i 2))) ^^^ ((hs_M i 1) &&& (hs_M i 2)))), (6, .int (((hs_M i 4) &&& (hs_M i 5)) ^^^ (((hs_M i 4) ^^^ (-1)) &&& (hs_M i 6)))), (5, .int (((hs_r (hs_M i 0) 2) ^^^ (hs_r (hs_M i 0) 13)) ^^^ (hs_r (hs_M i 0) 22))), (4, .int (((hs_r (hs_M i 4) 6) ^^^ (hs_r (hs_M i 4) 11)) ^^^ (hs_r (hs_M i 4) 25))), (3, .int (hs_M i 4)), (2, .int (hs_M i 0)), (0, .ref (ad 11)), (1, .int (hs_K i + hs_L i))]) hx hb dX0_mixRound_154 hl (k := 0) rfl rfl (by decide) rfl (fun ls hl => ?_)
  refine lv_goto (tgt := 133) hx hb dX0_mixRound_157 (by decide) ?_
  refine lv_iload hx hb dX0_mixRound_133 (lv_at hl 0 rfl) ?_
  refine lv_if_le (tgt := 160) hx hb dX0_mixRound_135 (by decide) (fun _ => ?_) (fun cc_26 => absurd (by decide) cc_26)
  refine lv_aload_n hx hb dX0_mixRound_160 rfl (lv_at hl 8 rfl) ?_
  refine hk_get (ci := 3) (C := RX0) (T := TX0) (N := 3) (v := .ref (ad 13)) hx hb hts iX0 hown hw 11 rfl rfl 1 (by decide) (hts _ (List.mem_of_getElem? (i := 1) rfl)) rfl dX0_mixRound_161 ?_
  refine lv_iconst (v := 4) hx hb dX0_mixRound_164 (by decide) ?_
  refine lv_dup2_11 hx hb dX0_mixRound_165 rfl rfl ?_
  refine hk_iald (v := (hs_M i 3)) hx hb hw 13 0 rfl rfl (show ¬ (_ ∨ _) by decide) dX0_mixRound_166 rfl ?_
  refine lv_iload hx hb dX0_mixRound_167 (lv_at hl 1 rfl) ?_
  refine lv_iadd hx hb dX0_mixRound_169 ?_
  refine hk_topi (hs_M (i + 1) 4) ((show ∀ i, i < 64 → ((hs_M i 3) + ((((hs_M i 7) + (((hs_r (hs_M i 4) 6) ^^^ (hs_r (hs_M i 4) 11)) ^^^ (hs_r (hs_M i 4) 25))) + (((hs_M i 4) &&& (hs_M i 5)) ^^^ (((hs_M i 4) ^^^ (-1)) &&& (hs_M i 6)))) + (hs_K i + hs_L i))) = (hs_M (i + 1) 4) by decide +kernel) i hi) ?_
  refine hk_iast hx hb hw 13 0 rfl rfl (show ¬ (_ ∨ _) by decide) dX0_mixRound_170 (ws' := xw cI cJ ad g lg (va_up ar 4 (upd (upd (upd (upd (upd (upd (upd (upd (ar 4) 7 (hs_M (i + 1) 7)) 6 (hs_M (i + 1) 6)) 5 (hs_M (i + 1) 5)) 4 (hs_M i 3)) 3 (hs_M (i + 1) 3)) 2 (hs_M (i + 1) 2)) 1 (hs_M (i + 1) 1)) 4 (hs_M (i + 1) 4))) bk) rfl (fun H locs hw => ?_)
  refine lv_aload_n hx hb dX0_mixRound_171 rfl (lv_at hl 8 rfl) ?_
  refine hk_get (ci := 3) (C := RX0) (T := TX0) (N := 3) (v := .ref (ad 13)) hx hb hts iX0 hown hw 11 rfl rfl 1 (by decide) (hts _ (List.mem_of_getElem? (i := 1) rfl)) rfl dX0_mixRound_172 ?_
  refine lv_iconst (v := 0) hx hb dX0_mixRound_175 (by decide) ?_
  refine lv_iload hx hb dX0_mixRound_176 (lv_at hl 1 rfl) ?_
  refine lv_iload hx hb dX0_mixRound_178 (lv_at hl 4 rfl) ?_
  refine lv_iadd hx hb dX0_mixRound_180 ?_
  refine lv_iload hx hb dX0_mixRound_181 (lv_at hl 2 rfl) ?_
  refine lv_iadd hx hb dX0_mixRound_183 ?_
  refine hk_topi (hs_M (i + 1) 0) ((show ∀ i, i < 64 → ((((((hs_M i 7) + (((hs_r (hs_M i 4) 6) ^^^ (hs_r (hs_M i 4) 11)) ^^^ (hs_r (hs_M i 4) 25))) + (((hs_M i 4) &&& (hs_M i 5)) ^^^ (((hs_M i 4) ^^^ (-1)) &&& (hs_M i 6)))) + (hs_K i + hs_L i)) + (((hs_r (hs_M i 0) 2) ^^^ (hs_r (hs_M i 0) 13)) ^^^ (hs_r (hs_M i 0) 22))) + ((((hs_M i 0) &&& (hs_M i 1)) ^^^ ((hs_M i 0) &&& (hs_M i 2))) ^^^ ((hs_M i 1) &&& (hs_M i 2)))) = (hs_M (i + 1) 0) by decide +kernel) i hi) ?_
  refine hk_iast hx hb hw 13 0 rfl rfl (show ¬ (_ ∨ _) by decide) dX0_mixRound_184 (ws' := xw cI cJ ad g lg (va_up ar 4 (upd (upd (upd (upd (upd (upd (upd (upd (upd (ar 4) 7 (hs_M (i + 1) 7)) 6 (hs_M (i + 1) 6)) 5 (hs_M (i + 1) 5)) 4 (hs_M i 3)) 3 (hs_M (i + 1) 3)) 2 (hs_M (i + 1) 2)) 1 (hs_M (i + 1) 1)) 4 (hs_M (i + 1) 4)) 0 (hs_M (i + 1) 0))) bk) rfl (fun H locs hw => ?_)
  exact hk_vret (u := (upd (upd (upd (upd (upd (upd (upd (upd (upd (ar 4) 7 (hs_M (i + 1) 7)) 6 (hs_M (i + 1) 6)) 5 (hs_M (i + 1) 5)) 4 (hs_M i 3)) 3 (hs_M (i + 1) 3)) 2 (hs_M (i + 1) 2)) 1 (hs_M (i + 1) 1)) 4 (hs_M (i + 1) 4)) 0 (hs_M (i + 1) 0))) hx hb hr hlocks (hw) (fun j hj => by match j, hj with | 0, _ => rfl | 1, _ => rfl | 2, _ => rfl | 3, _ => rfl | 4, _ => rfl | 5, _ => rfl | 6, _ => rfl | 7, _ => rfl) dX0_mixRound_185

def ww_cx_mixBlock : List Cond := Cond.code yX0_mixBlock cX0_mixBlock 6 none :: ([Cond.fieldLink RX0 9 "LzmaChains$Checks" "words" "[I", Cond.fieldLink RX0 15 "LzmaChains$Checks" "mixed" "[I", Cond.methodLink RX0 47 arraycopyName, Cond.native arraycopyName, Cond.static arraycopyName, Cond.initialized "java/lang/System", Cond.fieldLink RX0 66 "LzmaChains$Checks" "SHA_KEYS" "[I", Cond.fieldLink RX0 18 "LzmaChains$Checks" "schedule" "[I", Cond.methodLink RX0 69 yX0_mixRound, Cond.instanceMethod yX0_mixRound, Cond.selects RX0 yX0_mixRound yX0_mixRound, Cond.initialized RX0, Cond.code yX0_mixRound cX0_mixRound 10 none, Cond.methodLink RX0 60 yJ6_rotateRight_7cf53, Cond.static yJ6_rotateRight_7cf53, Cond.initialized RJ6, Cond.code yJ6_rotateRight_7cf53 cJ6_rotateRight_7cf53 2 (some .int)] ++ (wsX00 ++ ([])))
set_option maxRecDepth 20000 in
theorem gw_cx_mixBlock_0 : GoodIn ww_cx_mixBlock (wsV RX0 69 RX0 yX0_mixRound ww_cx_mixRound) := goodIn_r _ [9, 10, 11, 12, 13, 2, 14, 15, 16, 17, 18, 19, 20] rfl (by decide +kernel)
set_option maxRecDepth 20000 in
theorem gw_cx_mixBlock_1 : GoodIn ww_cx_mixBlock (va_wsS RX0 60 yJ6_rotateRight_7cf53 ww_cx_rot) := goodIn_r _ [14, 15, 16, 17] rfl (by decide +kernel)
set_option maxHeartbeats 4000000 in
set_option maxRecDepth 100000 in
/-- Checks.mixBlock -/
theorem cx_mixBlock (l : Launch) (t3 : Nat × Nat × Nat) (D : va_G) (cI cJ : ClassId) (ad : Nat → Nat) (g : Nat → Int32) (lg : Nat → Int64) (ar : Nat → Nat → Int32) (bk : Nat → Int64) (sz : Nat) (h8 : ∀ j, j < 8 → ar 3 j = hs_H j) (h16 : ∀ j, j < 16 → ar 5 j = hs_L j) : Met l yX0_mixBlock ww_cx_mixBlock { frames := 2, cells := 0, slots := 0, locals := 50 } (va_Pc [.ref (ad 11)] (hk_BY t3 D [(cI, .int), (cJ, .long)] sz (xw cI cJ ad g lg ar bk))) (va_Qv (fun u : (Nat → Int32) × (Nat → Int32) × (Nat → Int32) => ∀ j, j < 8 → u.1 j = hs_O j) (fun u : (Nat → Int32) × (Nat → Int32) × (Nat → Int32) => hk_E D [(cI, .int), (cJ, .long)] (va_A (xw cI cJ ad g lg ar bk) sz) (xw cI cJ ad g lg (va_up (va_up (va_up ar 5 u.2.2) 4 u.2.1) 3 u.1) bk)) (va_A (xw cI cJ ad g lg ar bk) sz)) 0 0 (va_A (xw cI cJ ad g lg ar bk) sz) := by
  refine hk_smet (t3 := t3) (cc := cX0_mixBlock) (maxL := 6) (ret := none) (by decide) rfl (Nat.le_of_ble_eq_true rfl) ?_
  intro p e s m below meth c ls hx hb hr hml hown hts hlocks hin hA hZ hw hl
  have iX0 : ∀ w ∈ wsX00, w ∈ ww_cx_mixBlock := fun _ h => List.mem_cons_of_mem _ (List.mem_append_right _ (List.mem_append_left _ h))
  have hl : lv_has ls 6 [(0, .ref (ad 11))] := hl
  refine lv_bipush (v := 16) hx hb dX0_mixBlock_0 (by decide) ?_
  refine lv_istore_n (lv' := [(1, .int 16), (0, .ref (ad 11))]) hx hb dX0_mixBlock_2 rfl hl (by decide) rfl (fun ls hl => ?_)
  have loop_2 : ∀ (ki i : Nat) (jj_1 : Nat → Int32) (ls : Array Slot) (H : Heap) (locs : List Loc), i + ki = 64 → 16 ≤ i → (∀ j, j < i → jj_1 j = hs_L j) → hk_W D [(cI, .int), (cJ, .long)] (va_A (xw cI cJ ad g lg ar bk) sz) s H locs (xw cI cJ ad g lg (va_up ar 5 jj_1) bk) → lv_has ls 6 [(1, .int (nI i)), (0, .ref (ad 11))] → W p l e { frames := 2, cells := 0, slots := 0, locals := 50 } s m (List.toArray [.ref (ad 11)]) below meth c H locs 0 0 (MQ below (va_Qv (fun u : (Nat → Int32) × (Nat → Int32) × (Nat → Int32) => ∀ j, j < 8 → u.1 j = hs_O j) (fun u : (Nat → Int32) × (Nat → Int32) × (Nat → Int32) => hk_E D [(cI, .int), (cJ, .long)] (va_A (xw cI cJ ad g lg ar bk) sz) (xw cI cJ ad g lg (va_up (va_up (va_up ar 5 u.2.2) 4 u.2.1) 3 u.1) bk)) (va_A (xw cI cJ ad g lg ar bk) sz)) (List.toArray [.ref (ad 11)]) s 0 0 (va_A (xw cI cJ ad g lg ar bk) sz)) (F0 m 3 ls []) := by
    intro ki
    induction ki with
    | zero =>
      intro i jj_1 ls H locs hik hge hL hw hl
      refine lv_iload_n hx hb dX0_mixBlock_3 rfl (lv_at hl 0 rfl) ?_
      refine lv_bipush (v := 64) hx hb dX0_mixBlock_4 (by decide) ?_
      refine lv_icmp_ge (tgt := 104) hx hb dX0_mixBlock_6 (by decide) (fun _ => ?_) (fun cc_3 => absurd (hk_le (a := 64) (b := i) (by omega) (by omega)) cc_3)
      refine lv_aload_n hx hb dX0_mixBlock_104 rfl (lv_at hl 1 rfl) ?_
      refine hk_get (ci := 3) (C := RX0) (T := TX0) (N := 3) (v := .ref (ad 12)) hx hb hts iX0 hown hw 11 rfl rfl 0 (by decide) (hts _ (List.mem_of_getElem? (i := 1) rfl)) rfl dX0_mixBlock_105 ?_
      refine lv_iconst (v := 0) hx hb dX0_mixBlock_108 (by decide) ?_
      refine lv_aload_n hx hb dX0_mixBlock_109 rfl (lv_at hl 1 rfl) ?_
      refine hk_get (ci := 3) (C := RX0) (T := TX0) (N := 3) (v := .ref (ad 13)) hx hb hts iX0 hown hw 11 rfl rfl 1 (by decide) (hts _ (List.mem_of_getElem? (i := 2) rfl)) rfl dX0_mixBlock_110 ?_
      refine lv_iconst (v := 0) hx hb dX0_mixBlock_113 (by decide) ?_
      refine lv_bipush (v := 8) hx hb dX0_mixBlock_114 (by decide) ?_
      refine hk_copyi hx hb (by rw [hml]; exact hl.1.symm) hown (hts _ (List.mem_of_getElem? (i := 3) rfl)) (hts _ (List.mem_of_getElem? (i := 4) rfl)) (hts _ (List.mem_of_getElem? (i := 5) rfl)) (hts _ (List.mem_of_getElem? (i := 6) rfl)) hw 12 13 0 rfl rfl rfl (by decide) (by decide) (by decide) (by decide) (by decide) (Nat.le_of_ble_eq_true rfl) (by decide) dX0_mixBlock_116 (ws' := xw cI cJ ad g lg (va_up (va_up ar 5 jj_1) 4 (va_cpy (ar 3) (ar 4) 0 0 8)) bk) rfl (fun H locs hw => ?_)
      refine lv_iconst (v := 0) hx hb dX0_mixBlock_119 (by decide) ?_
      refine lv_istore_n (lv' := [(1, .int 0), (0, .ref (ad 11))]) hx hb dX0_mixBlock_120 rfl hl (by decide) rfl (fun ls hl => ?_)
      have loop_5 : ∀ (kk k : Nat) (jj_4 : Nat → Int32) (ls : Array Slot) (H : Heap) (locs : List Loc), k + kk = 64 → (∀ j, j < 8 → jj_4 j = hs_M k j) → hk_W D [(cI, .int), (cJ, .long)] (va_A (xw cI cJ ad g lg ar bk) sz) s H locs (xw cI cJ ad g lg (va_up (va_up (va_up ar 5 jj_1) 4 (va_cpy (ar 3) (ar 4) 0 0 8)) 4 jj_4) bk) → lv_has ls 6 [(1, .int (nI k)), (0, .ref (ad 11))] → W p l e { frames := 2, cells := 0, slots := 0, locals := 50 } s m (List.toArray [.ref (ad 11)]) below meth c H locs 0 0 (MQ below (va_Qv (fun u : (Nat → Int32) × (Nat → Int32) × (Nat → Int32) => ∀ j, j < 8 → u.1 j = hs_O j) (fun u : (Nat → Int32) × (Nat → Int32) × (Nat → Int32) => hk_E D [(cI, .int), (cJ, .long)] (va_A (xw cI cJ ad g lg ar bk) sz) (xw cI cJ ad g lg (va_up (va_up (va_up ar 5 u.2.2) 4 u.2.1) 3 u.1) bk)) (va_A (xw cI cJ ad g lg ar bk) sz)) (List.toArray [.ref (ad 11)]) s 0 0 (va_A (xw cI cJ ad g lg ar bk) sz)) (F0 m 121 ls []) := by
        intro kk
        induction kk with
        | zero =>
          intro k jj_4 ls H locs hkk hM hw hl
          refine lv_iload_n hx hb dX0_mixBlock_121 rfl (lv_at hl 0 rfl) ?_
          refine lv_bipush (v := 64) hx hb dX0_mixBlock_122 (by decide) ?_
          refine lv_icmp_ge (tgt := 149) hx hb dX0_mixBlock_124 (by decide) (fun _ => ?_) (fun cc_6 => absurd (hk_le (a := 64) (b := k) (by omega) (by omega)) cc_6)
          refine lv_iconst (v := 0) hx hb dX0_mixBlock_149 (by decide) ?_
          refine lv_istore_n (lv' := [(1, .int 0), (0, .ref (ad 11))]) hx hb dX0_mixBlock_150 rfl hl (by decide) rfl (fun ls hl => ?_)
          refine lv_iload_n hx hb dX0_mixBlock_151 rfl (lv_at hl 0 rfl) ?_
          refine lv_bipush (v := 8) hx hb dX0_mixBlock_152 (by decide) ?_
          refine lv_icmp_ge (tgt := 178) hx hb dX0_mixBlock_154 (by decide) (fun cc_7 => absurd cc_7 (by decide)) (fun _ => ?_)
          refine lv_aload_n hx hb dX0_mixBlock_157 rfl (lv_at hl 1 rfl) ?_
          refine hk_get (ci := 3) (C := RX0) (T := TX0) (N := 3) (v := .ref (ad 12)) hx hb hts iX0 hown hw 11 rfl rfl 0 (by decide) (hts _ (List.mem_of_getElem? (i := 1) rfl)) rfl dX0_mixBlock_158 ?_
          refine lv_iload_n hx hb dX0_mixBlock_161 rfl (lv_at hl 0 rfl) ?_
          refine lv_dup2_11 hx hb dX0_mixBlock_162 rfl rfl ?_
          refine hk_iald (v := (hs_H 0)) hx hb hw 12 0 rfl rfl (show ¬ (_ ∨ _) by decide) dX0_mixBlock_163 (h8 0 (by decide)) ?_
          refine lv_aload_n hx hb dX0_mixBlock_164 rfl (lv_at hl 1 rfl) ?_
          refine hk_get (ci := 3) (C := RX0) (T := TX0) (N := 3) (v := .ref (ad 13)) hx hb hts iX0 hown hw 11 rfl rfl 1 (by decide) (hts _ (List.mem_of_getElem? (i := 2) rfl)) rfl dX0_mixBlock_165 ?_
          refine lv_iload_n hx hb dX0_mixBlock_168 rfl (lv_at hl 0 rfl) ?_
          refine hk_iald (v := (hs_M 64 0)) hx hb hw 13 0 rfl rfl (show ¬ (_ ∨ _) by decide) dX0_mixBlock_169 ((hM 0 (by decide)).trans (by rw [show k = 64 by omega])) ?_
          refine lv_iadd hx hb dX0_mixBlock_170 ?_
          refine hk_topi (hs_O 0) (by decide +kernel) ?_
          refine hk_iast hx hb hw 12 0 rfl rfl (show ¬ (_ ∨ _) by decide) dX0_mixBlock_171 (ws' := xw cI cJ ad g lg (va_up (va_up (va_up ar 5 jj_1) 4 jj_4) 3 (upd (ar 3) 0 (hs_O 0))) bk) rfl (fun H locs hw => ?_)
          refine lv_iinc (v := 1) (lv' := [(1, .int 1), (0, .ref (ad 11))]) hx hb dX0_mixBlock_172 hl (k := 0) rfl rfl (by decide) rfl (fun ls hl => ?_)
          refine lv_goto (tgt := 151) hx hb dX0_mixBlock_175 (by decide) ?_
          refine lv_iload_n hx hb dX0_mixBlock_151 rfl (lv_at hl 0 rfl) ?_
          refine lv_bipush (v := 8) hx hb dX0_mixBlock_152 (by decide) ?_
          refine lv_icmp_ge (tgt := 178) hx hb dX0_mixBlock_154 (by decide) (fun cc_8 => absurd cc_8 (by decide)) (fun _ => ?_)
          refine lv_aload_n hx hb dX0_mixBlock_157 rfl (lv_at hl 1 rfl) ?_
          refine hk_get (ci := 3) (C := RX0) (T := TX0) (N := 3) (v := .ref (ad 12)) hx hb hts iX0 hown hw 11 rfl rfl 0 (by decide) (hts _ (List.mem_of_getElem? (i := 1) rfl)) rfl dX0_mixBlock_158 ?_
          refine lv_iload_n hx hb dX0_mixBlock_161 rfl (lv_at hl 0 rfl) ?_
          refine lv_dup2_11 hx hb dX0_mixBlock_162 rfl rfl ?_
          refine hk_iald (v := (hs_H 1)) hx hb hw 12 0 rfl rfl (show ¬ (_ ∨ _) by decide) dX0_mixBlock_163 (h8 1 (by decide)) ?_
          refine lv_aload_n hx hb dX0_mixBlock_164 rfl (lv_at hl 1 rfl) ?_
          refine hk_get (ci := 3) (C := RX0) (T := TX0) (N := 3) (v := .ref (ad 13)) hx hb hts iX0 hown hw 11 rfl rfl 1 (by decide) (hts _ (List.mem_of_getElem? (i := 2) rfl)) rfl dX0_mixBlock_165 ?_
          refine lv_iload_n hx hb dX0_mixBlock_168 rfl (lv_at hl 0 rfl) ?_
          refine hk_iald (v := (hs_M 64 1)) hx hb hw 13 0 rfl rfl (show ¬ (_ ∨ _) by decide) dX0_mixBlock_169 ((hM 1 (by decide)).trans (by rw [show k = 64 by omega])) ?_
          refine lv_iadd hx hb dX0_mixBlock_170 ?_
          refine hk_topi (hs_O 1) (by decide +kernel) ?_
          refine hk_iast hx hb hw 12 0 rfl rfl (show ¬ (_ ∨ _) by decide) dX0_mixBlock_171 (ws' := xw cI cJ ad g lg (va_up (va_up (va_up ar 5 jj_1) 4 jj_4) 3 (upd (upd (ar 3) 0 (hs_O 0)) 1 (hs_O 1))) bk) rfl (fun H locs hw => ?_)
          refine lv_iinc (v := 2) (lv' := [(1, .int 2), (0, .ref (ad 11))]) hx hb dX0_mixBlock_172 hl (k := 0) rfl rfl (by decide) rfl (fun ls hl => ?_)
          refine lv_goto (tgt := 151) hx hb dX0_mixBlock_175 (by decide) ?_
          refine lv_iload_n hx hb dX0_mixBlock_151 rfl (lv_at hl 0 rfl) ?_
          refine lv_bipush (v := 8) hx hb dX0_mixBlock_152 (by decide) ?_
          refine lv_icmp_ge (tgt := 178) hx hb dX0_mixBlock_154 (by decide) (fun cc_9 => absurd cc_9 (by decide)) (fun _ => ?_)
          refine lv_aload_n hx hb dX0_mixBlock_157 rfl (lv_at hl 1 rfl) ?_
          refine hk_get (ci := 3) (C := RX0) (T := TX0) (N := 3) (v := .ref (ad 12)) hx hb hts iX0 hown hw 11 rfl rfl 0 (by decide) (hts _ (List.mem_of_getElem? (i := 1) rfl)) rfl dX0_mixBlock_158 ?_
          refine lv_iload_n hx hb dX0_mixBlock_161 rfl (lv_at hl 0 rfl) ?_
          refine lv_dup2_11 hx hb dX0_mixBlock_162 rfl rfl ?_
          refine hk_iald (v := (hs_H 2)) hx hb hw 12 0 rfl rfl (show ¬ (_ ∨ _) by decide) dX0_mixBlock_163 (h8 2 (by decide)) ?_
          refine lv_aload_n hx hb dX0_mixBlock_164 rfl (lv_at hl 1 rfl) ?_
          refine hk_get (ci := 3) (C := RX0) (T := TX0) (N := 3) (v := .ref (ad 13)) hx hb hts iX0 hown hw 11 rfl rfl 1 (by decide) (hts _ (List.mem_of_getElem? (i := 2) rfl)) rfl dX0_mixBlock_165 ?_
          refine lv_iload_n hx hb dX0_mixBlock_168 rfl (lv_at hl 0 rfl) ?_
          refine hk_iald (v := (hs_M 64 2)) hx hb hw 13 0 rfl rfl (show ¬ (_ ∨ _) by decide) dX0_mixBlock_169 ((hM 2 (by decide)).trans (by rw [show k = 64 by omega])) ?_
          refine lv_iadd hx hb dX0_mixBlock_170 ?_
          refine hk_topi (hs_O 2) (by decide +kernel) ?_
          refine hk_iast hx hb hw 12 0 rfl rfl (show ¬ (_ ∨ _) by decide) dX0_mixBlock_171 (ws' := xw cI cJ ad g lg (va_up (va_up (va_up ar 5 jj_1) 4 jj_4) 3 (upd (upd (upd (ar 3) 0 (hs_O 0)) 1 (hs_O 1)) 2 (hs_O 2))) bk) rfl (fun H locs hw => ?_)
          refine lv_iinc (v := 3) (lv' := [(1, .int 3), (0, .ref (ad 11))]) hx hb dX0_mixBlock_172 hl (k := 0) rfl rfl (by decide) rfl (fun ls hl => ?_)
          refine lv_goto (tgt := 151) hx hb dX0_mixBlock_175 (by decide) ?_
          refine lv_iload_n hx hb dX0_mixBlock_151 rfl (lv_at hl 0 rfl) ?_
          refine lv_bipush (v := 8) hx hb dX0_mixBlock_152 (by decide) ?_
          refine lv_icmp_ge (tgt := 178) hx hb dX0_mixBlock_154 (by decide) (fun cc_10 => absurd cc_10 (by decide)) (fun _ => ?_)
          refine lv_aload_n hx hb dX0_mixBlock_157 rfl (lv_at hl 1 rfl) ?_
          refine hk_get (ci := 3) (C := RX0) (T := TX0) (N := 3) (v := .ref (ad 12)) hx hb hts iX0 hown hw 11 rfl rfl 0 (by decide) (hts _ (List.mem_of_getElem? (i := 1) rfl)) rfl dX0_mixBlock_158 ?_
          refine lv_iload_n hx hb dX0_mixBlock_161 rfl (lv_at hl 0 rfl) ?_
          refine lv_dup2_11 hx hb dX0_mixBlock_162 rfl rfl ?_
          refine hk_iald (v := (hs_H 3)) hx hb hw 12 0 rfl rfl (show ¬ (_ ∨ _) by decide) dX0_mixBlock_163 (h8 3 (by decide)) ?_
          refine lv_aload_n hx hb dX0_mixBlock_164 rfl (lv_at hl 1 rfl) ?_
          refine hk_get (ci := 3) (C := RX0) (T := TX0) (N := 3) (v := .ref (ad 13)) hx hb hts iX0 hown hw 11 rfl rfl 1 (by decide) (hts _ (List.mem_of_getElem? (i := 2) rfl)) rfl dX0_mixBlock_165 ?_
          refine lv_iload_n hx hb dX0_mixBlock_168 rfl (lv_at hl 0 rfl) ?_
          refine hk_iald (v := (hs_M 64 3)) hx hb hw 13 0 rfl rfl (show ¬ (_ ∨ _) by decide) dX0_mixBlock_169 ((hM 3 (by decide)).trans (by rw [show k = 64 by omega])) ?_
          refine lv_iadd hx hb dX0_mixBlock_170 ?_
          refine hk_topi (hs_O 3) (by decide +kernel) ?_
          refine hk_iast hx hb hw 12 0 rfl rfl (show ¬ (_ ∨ _) by decide) dX0_mixBlock_171 (ws' := xw cI cJ ad g lg (va_up (va_up (va_up ar 5 jj_1) 4 jj_4) 3 (upd (upd (upd (upd (ar 3) 0 (hs_O 0)) 1 (hs_O 1)) 2 (hs_O 2)) 3 (hs_O 3))) bk) rfl (fun H locs hw => ?_)
          refine lv_iinc (v := 4) (lv' := [(1, .int 4), (0, .ref (ad 11))]) hx hb dX0_mixBlock_172 hl (k := 0) rfl rfl (by decide) rfl (fun ls hl => ?_)
          refine lv_goto (tgt := 151) hx hb dX0_mixBlock_175 (by decide) ?_
          refine lv_iload_n hx hb dX0_mixBlock_151 rfl (lv_at hl 0 rfl) ?_
          refine lv_bipush (v := 8) hx hb dX0_mixBlock_152 (by decide) ?_
          refine lv_icmp_ge (tgt := 178) hx hb dX0_mixBlock_154 (by decide) (fun cc_11 => absurd cc_11 (by decide)) (fun _ => ?_)
          refine lv_aload_n hx hb dX0_mixBlock_157 rfl (lv_at hl 1 rfl) ?_
          refine hk_get (ci := 3) (C := RX0) (T := TX0) (N := 3) (v := .ref (ad 12)) hx hb hts iX0 hown hw 11 rfl rfl 0 (by decide) (hts _ (List.mem_of_getElem? (i := 1) rfl)) rfl dX0_mixBlock_158 ?_
          refine lv_iload_n hx hb dX0_mixBlock_161 rfl (lv_at hl 0 rfl) ?_
          refine lv_dup2_11 hx hb dX0_mixBlock_162 rfl rfl ?_
          refine hk_iald (v := (hs_H 4)) hx hb hw 12 0 rfl rfl (show ¬ (_ ∨ _) by decide) dX0_mixBlock_163 (h8 4 (by decide)) ?_
          refine lv_aload_n hx hb dX0_mixBlock_164 rfl (lv_at hl 1 rfl) ?_
          refine hk_get (ci := 3) (C := RX0) (T := TX0) (N := 3) (v := .ref (ad 13)) hx hb hts iX0 hown hw 11 rfl rfl 1 (by decide) (hts _ (List.mem_of_getElem? (i := 2) rfl)) rfl dX0_mixBlock_165 ?_
          refine lv_iload_n hx hb dX0_mixBlock_168 rfl (lv_at hl 0 rfl) ?_
          refine hk_iald (v := (hs_M 64 4)) hx hb hw 13 0 rfl rfl (show ¬ (_ ∨ _) by decide) dX0_mixBlock_169 ((hM 4 (by decide)).trans (by rw [show k = 64 by omega])) ?_
          refine lv_iadd hx hb dX0_mixBlock_170 ?_
          refine hk_topi (hs_O 4) (by decide +kernel) ?_
          refine hk_iast hx hb hw 12 0 rfl rfl (show ¬ (_ ∨ _) by decide) dX0_mixBlock_171 (ws' := xw cI cJ ad g lg (va_up (va_up (va_up ar 5 jj_1) 4 jj_4) 3 (upd (upd (upd (upd (upd (ar 3) 0 (hs_O 0)) 1 (hs_O 1)) 2 (hs_O 2)) 3 (hs_O 3)) 4 (hs_O 4))) bk) rfl (fun H locs hw => ?_)
          refine lv_iinc (v := 5) (lv' := [(1, .int 5), (0, .ref (ad 11))]) hx hb dX0_mixBlock_172 hl (k := 0) rfl rfl (by decide) rfl (fun ls hl => ?_)
          refine lv_goto (tgt := 151) hx hb dX0_mixBlock_175 (by decide) ?_
          refine lv_iload_n hx hb dX0_mixBlock_151 rfl (lv_at hl 0 rfl) ?_
          refine lv_bipush (v := 8) hx hb dX0_mixBlock_152 (by decide) ?_
          refine lv_icmp_ge (tgt := 178) hx hb dX0_mixBlock_154 (by decide) (fun cc_12 => absurd cc_12 (by decide)) (fun _ => ?_)
          refine lv_aload_n hx hb dX0_mixBlock_157 rfl (lv_at hl 1 rfl) ?_
          refine hk_get (ci := 3) (C := RX0) (T := TX0) (N := 3) (v := .ref (ad 12)) hx hb hts iX0 hown hw 11 rfl rfl 0 (by decide) (hts _ (List.mem_of_getElem? (i := 1) rfl)) rfl dX0_mixBlock_158 ?_
          refine lv_iload_n hx hb dX0_mixBlock_161 rfl (lv_at hl 0 rfl) ?_
          refine lv_dup2_11 hx hb dX0_mixBlock_162 rfl rfl ?_
          refine hk_iald (v := (hs_H 5)) hx hb hw 12 0 rfl rfl (show ¬ (_ ∨ _) by decide) dX0_mixBlock_163 (h8 5 (by decide)) ?_
          refine lv_aload_n hx hb dX0_mixBlock_164 rfl (lv_at hl 1 rfl) ?_
          refine hk_get (ci := 3) (C := RX0) (T := TX0) (N := 3) (v := .ref (ad 13)) hx hb hts iX0 hown hw 11 rfl rfl 1 (by decide) (hts _ (List.mem_of_getElem? (i := 2) rfl)) rfl dX0_mixBlock_165 ?_
          refine lv_iload_n hx hb dX0_mixBlock_168 rfl (lv_at hl 0 rfl) ?_
          refine hk_iald (v := (hs_M 64 5)) hx hb hw 13 0 rfl rfl (show ¬ (_ ∨ _) by decide) dX0_mixBlock_169 ((hM 5 (by decide)).trans (by rw [show k = 64 by omega])) ?_
          refine lv_iadd hx hb dX0_mixBlock_170 ?_
          refine hk_topi (hs_O 5) (by decide +kernel) ?_
          refine hk_iast hx hb hw 12 0 rfl rfl (show ¬ (_ ∨ _) by decide) dX0_mixBlock_171 (ws' := xw cI cJ ad g lg (va_up (va_up (va_up ar 5 jj_1) 4 jj_4) 3 (upd (upd (upd (upd (upd (upd (ar 3) 0 (hs_O 0)) 1 (hs_O 1)) 2 (hs_O 2)) 3 (hs_O 3)) 4 (hs_O 4)) 5 (hs_O 5))) bk) rfl (fun H locs hw => ?_)
          refine lv_iinc (v := 6) (lv' := [(1, .int 6), (0, .ref (ad 11))]) hx hb dX0_mixBlock_172 hl (k := 0) rfl rfl (by decide) rfl (fun ls hl => ?_)
          refine lv_goto (tgt := 151) hx hb dX0_mixBlock_175 (by decide) ?_
          refine lv_iload_n hx hb dX0_mixBlock_151 rfl (lv_at hl 0 rfl) ?_
          refine lv_bipush (v := 8) hx hb dX0_mixBlock_152 (by decide) ?_
          refine lv_icmp_ge (tgt := 178) hx hb dX0_mixBlock_154 (by decide) (fun cc_13 => absurd cc_13 (by decide)) (fun _ => ?_)
          refine lv_aload_n hx hb dX0_mixBlock_157 rfl (lv_at hl 1 rfl) ?_
          refine hk_get (ci := 3) (C := RX0) (T := TX0) (N := 3) (v := .ref (ad 12)) hx hb hts iX0 hown hw 11 rfl rfl 0 (by decide) (hts _ (List.mem_of_getElem? (i := 1) rfl)) rfl dX0_mixBlock_158 ?_
          refine lv_iload_n hx hb dX0_mixBlock_161 rfl (lv_at hl 0 rfl) ?_
          refine lv_dup2_11 hx hb dX0_mixBlock_162 rfl rfl ?_
          refine hk_iald (v := (hs_H 6)) hx hb hw 12 0 rfl rfl (show ¬ (_ ∨ _) by decide) dX0_mixBlock_163 (h8 6 (by decide)) ?_
          refine lv_aload_n hx hb dX0_mixBlock_164 rfl (lv_at hl 1 rfl) ?_
          refine hk_get (ci := 3) (C := RX0) (T := TX0) (N := 3) (v := .ref (ad 13)) hx hb hts iX0 hown hw 11 rfl rfl 1 (by decide) (hts _ (List.mem_of_getElem? (i := 2) rfl)) rfl dX0_mixBlock_165 ?_
          refine lv_iload_n hx hb dX0_mixBlock_168 rfl (lv_at hl 0 rfl) ?_
          refine hk_iald (v := (hs_M 64 6)) hx hb hw 13 0 rfl rfl (show ¬ (_ ∨ _) by decide) dX0_mixBlock_169 ((hM 6 (by decide)).trans (by rw [show k = 64 by omega])) ?_
          refine lv_iadd hx hb dX0_mixBlock_170 ?_
          refine hk_topi (hs_O 6) (by decide +kernel) ?_
          refine hk_iast hx hb hw 12 0 rfl rfl (show ¬ (_ ∨ _) by decide) dX0_mixBlock_171 (ws' := xw cI cJ ad g lg (va_up (va_up (va_up ar 5 jj_1) 4 jj_4) 3 (upd (upd (upd (upd (upd (upd (upd (ar 3) 0 (hs_O 0)) 1 (hs_O 1)) 2 (hs_O 2)) 3 (hs_O 3)) 4 (hs_O 4)) 5 (hs_O 5)) 6 (hs_O 6))) bk) rfl (fun H locs hw => ?_)
          refine lv_iinc (v := 7) (lv' := [(1, .int 7), (0, .ref (ad 11))]) hx hb dX0_mixBlock_172 hl (k := 0) rfl rfl (by decide) rfl (fun ls hl => ?_)
          refine lv_goto (tgt := 151) hx hb dX0_mixBlock_175 (by decide) ?_
          refine lv_iload_n hx hb dX0_mixBlock_151 rfl (lv_at hl 0 rfl) ?_
          refine lv_bipush (v := 8) hx hb dX0_mixBlock_152 (by decide) ?_
          refine lv_icmp_ge (tgt := 178) hx hb dX0_mixBlock_154 (by decide) (fun cc_14 => absurd cc_14 (by decide)) (fun _ => ?_)
          refine lv_aload_n hx hb dX0_mixBlock_157 rfl (lv_at hl 1 rfl) ?_
          refine hk_get (ci := 3) (C := RX0) (T := TX0) (N := 3) (v := .ref (ad 12)) hx hb hts iX0 hown hw 11 rfl rfl 0 (by decide) (hts _ (List.mem_of_getElem? (i := 1) rfl)) rfl dX0_mixBlock_158 ?_
          refine lv_iload_n hx hb dX0_mixBlock_161 rfl (lv_at hl 0 rfl) ?_
          refine lv_dup2_11 hx hb dX0_mixBlock_162 rfl rfl ?_
          refine hk_iald (v := (hs_H 7)) hx hb hw 12 0 rfl rfl (show ¬ (_ ∨ _) by decide) dX0_mixBlock_163 (h8 7 (by decide)) ?_
          refine lv_aload_n hx hb dX0_mixBlock_164 rfl (lv_at hl 1 rfl) ?_
          refine hk_get (ci := 3) (C := RX0) (T := TX0) (N := 3) (v := .ref (ad 13)) hx hb hts iX0 hown hw 11 rfl rfl 1 (by decide) (hts _ (List.mem_of_getElem? (i := 2) rfl)) rfl dX0_mixBlock_165 ?_
          refine lv_iload_n hx hb dX0_mixBlock_168 rfl (lv_at hl 0 rfl) ?_
          refine hk_iald (v := (hs_M 64 7)) hx hb hw 13 0 rfl rfl (show ¬ (_ ∨ _) by decide) dX0_mixBlock_169 ((hM 7 (by decide)).trans (by rw [show k = 64 by omega])) ?_
          refine lv_iadd hx hb dX0_mixBlock_170 ?_
          refine hk_topi (hs_O 7) (by decide +kernel) ?_
          refine hk_iast hx hb hw 12 0 rfl rfl (show ¬ (_ ∨ _) by decide) dX0_mixBlock_171 (ws' := xw cI cJ ad g lg (va_up (va_up (va_up ar 5 jj_1) 4 jj_4) 3 (upd (upd (upd (upd (upd (upd (upd (upd (ar 3) 0 (hs_O 0)) 1 (hs_O 1)) 2 (hs_O 2)) 3 (hs_O 3)) 4 (hs_O 4)) 5 (hs_O 5)) 6 (hs_O 6)) 7 (hs_O 7))) bk) rfl (fun H locs hw => ?_)
          refine lv_iinc (v := 8) (lv' := [(1, .int 8), (0, .ref (ad 11))]) hx hb dX0_mixBlock_172 hl (k := 0) rfl rfl (by decide) rfl (fun ls hl => ?_)
          refine lv_goto (tgt := 151) hx hb dX0_mixBlock_175 (by decide) ?_
          refine lv_iload_n hx hb dX0_mixBlock_151 rfl (lv_at hl 0 rfl) ?_
          refine lv_bipush (v := 8) hx hb dX0_mixBlock_152 (by decide) ?_
          refine lv_icmp_ge (tgt := 178) hx hb dX0_mixBlock_154 (by decide) (fun _ => ?_) (fun cc_15 => absurd (by decide) cc_15)
          exact hk_vret (u := ((upd (upd (upd (upd (upd (upd (upd (upd (ar 3) 0 (hs_O 0)) 1 (hs_O 1)) 2 (hs_O 2)) 3 (hs_O 3)) 4 (hs_O 4)) 5 (hs_O 5)) 6 (hs_O 6)) 7 (hs_O 7)), jj_4, jj_1)) hx hb hr hlocks (show hk_W D [(cI, .int), (cJ, .long)] _ s _ _ (xw cI cJ ad g lg (va_up (va_up (va_up ar 5 (((upd (upd (upd (upd (upd (upd (upd (upd (ar 3) 0 (hs_O 0)) 1 (hs_O 1)) 2 (hs_O 2)) 3 (hs_O 3)) 4 (hs_O 4)) 5 (hs_O 5)) 6 (hs_O 6)) 7 (hs_O 7)), jj_4, jj_1).2.2)) 4 (((upd (upd (upd (upd (upd (upd (upd (upd (ar 3) 0 (hs_O 0)) 1 (hs_O 1)) 2 (hs_O 2)) 3 (hs_O 3)) 4 (hs_O 4)) 5 (hs_O 5)) 6 (hs_O 6)) 7 (hs_O 7)), jj_4, jj_1).2.1)) 3 (((upd (upd (upd (upd (upd (upd (upd (upd (ar 3) 0 (hs_O 0)) 1 (hs_O 1)) 2 (hs_O 2)) 3 (hs_O 3)) 4 (hs_O 4)) 5 (hs_O 5)) 6 (hs_O 6)) 7 (hs_O 7)), jj_4, jj_1).1)) bk) from hw) (fun j hj => by match j, hj with | 0, _ => rfl | 1, _ => rfl | 2, _ => rfl | 3, _ => rfl | 4, _ => rfl | 5, _ => rfl | 6, _ => rfl | 7, _ => rfl) dX0_mixBlock_178
        | succ kk ihk =>
          intro k jj_4 ls H locs hkk hM hw hl
          refine lv_iload_n hx hb dX0_mixBlock_121 rfl (lv_at hl 0 rfl) ?_
          refine lv_bipush (v := 64) hx hb dX0_mixBlock_122 (by decide) ?_
          refine lv_icmp_ge (tgt := 149) hx hb dX0_mixBlock_124 (by decide) (fun cc_16 => absurd cc_16 (hk_nle (a := k) (b := 64) (by omega) (by omega))) (fun _ => ?_)
          refine lv_aload_n hx hb dX0_mixBlock_127 rfl (lv_at hl 1 rfl) ?_
          refine hk_gets hx hb hZ.2.2.1 hw hown (hts _ (List.mem_of_getElem? (i := 7) rfl)) dX0_mixBlock_128 ?_
          refine lv_iload_n hx hb dX0_mixBlock_131 rfl (lv_at hl 0 rfl) ?_
          refine hk_ti (v := (hs_K k)) hx hb hZ.2.2.1 hw (vp_in_nI (by omega) (by omega)) (by rw [nI_clamp (by omega)]) dX0_mixBlock_132 ?_
          refine lv_aload_n hx hb dX0_mixBlock_133 rfl (lv_at hl 1 rfl) ?_
          refine hk_get (ci := 3) (C := RX0) (T := TX0) (N := 3) (v := .ref (ad 14)) hx hb hts iX0 hown hw 11 rfl rfl 2 (by decide) (hts _ (List.mem_of_getElem? (i := 8) rfl)) rfl dX0_mixBlock_134 ?_
          refine lv_iload_n hx hb dX0_mixBlock_137 rfl (lv_at hl 0 rfl) ?_
          refine hk_iald (v := (hs_L k)) hx hb hw 14 0 rfl rfl (vp_in_nI (by omega) (by omega)) dX0_mixBlock_138 (by rw [nI_clamp (by omega)]; exact hL _ (by omega)) ?_
          refine lv_iadd hx hb dX0_mixBlock_139 ?_
          refine hk_Vv (As := [.int ((hs_K k) + (hs_L k))]) (rest := []) ⟨hx, hb, hml, hown, hts⟩ hw hA (cx_mixRound l D cI cJ ad g lg (va_up (va_up (va_up ar 5 jj_1) 4 (va_cpy (ar 3) (ar 4) 0 0 8)) 4 jj_4) bk _ k (by omega) hM) (cwV 1 hts gw_cx_mixBlock_0 rfl rfl rfl (by decide +kernel) ⟨Nat.le_of_ble_eq_true rfl, Nat.le_of_ble_eq_true rfl⟩) 11 (ci := 3) (T := TX0) (N := 3) rfl rfl rfl hl.1 rfl (Nat.le_of_ble_eq_true rfl) dX0_mixBlock_140 ⟨Nat.le_of_ble_eq_true rfl, Nat.le_of_ble_eq_true rfl⟩ (fun uu_18 H locs hp_19 hw => ?_)
          have hMn := hp_19
          have hw : hk_W D [(cI, .int), (cJ, .long)] _ s _ _ (xw cI cJ ad g lg (va_up (va_up (va_up (va_up ar 5 jj_1) 4 (va_cpy (ar 3) (ar 4) 0 0 8)) 4 jj_4) 4 uu_18) bk) := hw
          refine lv_iinc (v := (nI (k + 1))) (lv' := [(1, .int (nI (k + 1))), (0, .ref (ad 11))]) hx hb dX0_mixBlock_143 hl (k := 0) rfl ((nI_succ k).symm) (by decide) rfl (fun ls hl => ?_)
          refine lv_goto (tgt := 121) hx hb dX0_mixBlock_146 (by decide) ?_
          exact ihk (k + 1) uu_18 ls _ _ (by omega) hMn hw (lv_sub hl [0, 1] rfl)
      exact loop_5 (64 - 0) 0 (va_cpy (ar 3) (ar 4) 0 0 8) ls _ _ (by omega) (hs_cp (fun j hj => (h8 j hj).trans ((show ∀ j, j < 8 → hs_H j = hs_M 0 j by decide +kernel) j hj))) hw (lv_sub hl [0, 1] rfl)
    | succ ki ih =>
      intro i jj_1 ls H locs hik hge hL hw hl
      refine lv_iload_n hx hb dX0_mixBlock_3 rfl (lv_at hl 0 rfl) ?_
      refine lv_bipush (v := 64) hx hb dX0_mixBlock_4 (by decide) ?_
      refine lv_icmp_ge (tgt := 104) hx hb dX0_mixBlock_6 (by decide) (fun cc_20 => absurd cc_20 (hk_nle (a := i) (b := 64) (by omega) (by omega))) (fun _ => ?_)
      refine lv_aload_n hx hb dX0_mixBlock_9 rfl (lv_at hl 1 rfl) ?_
      refine hk_get (ci := 3) (C := RX0) (T := TX0) (N := 3) (v := .ref (ad 14)) hx hb hts iX0 hown hw 11 rfl rfl 2 (by decide) (hts _ (List.mem_of_getElem? (i := 8) rfl)) rfl dX0_mixBlock_10 ?_
      refine lv_iload_n hx hb dX0_mixBlock_13 rfl (lv_at hl 0 rfl) ?_
      refine lv_bipush (v := 15) hx hb dX0_mixBlock_14 (by decide) ?_
      refine lv_isub hx hb dX0_mixBlock_16 ?_
      refine hk_iald (v := (hs_L (i - 15))) hx hb hw 14 0 rfl rfl ((show ∀ i, i < 64 → 16 ≤ i → ¬ ((nI i - 15 : Int32) < 0 ∨ 64 ≤ (nI i - 15 : Int32).toNatClampNeg) by decide +kernel) i (by omega) hge) dX0_mixBlock_17 (by rw [(show ∀ i, i < 64 → 16 ≤ i → (nI i - 15 : Int32).toNatClampNeg = i - 15 by decide +kernel) i (by omega) hge]; exact hL _ (by omega)) ?_
      refine lv_istore_n (lv' := [(2, .int (hs_L (i - 15))), (1, .int (nI i)), (0, .ref (ad 11))]) hx hb dX0_mixBlock_18 rfl hl (by decide) rfl (fun ls hl => ?_)
      refine lv_aload_n hx hb dX0_mixBlock_19 rfl (lv_at hl 2 rfl) ?_
      refine hk_get (ci := 3) (C := RX0) (T := TX0) (N := 3) (v := .ref (ad 14)) hx hb hts iX0 hown hw 11 rfl rfl 2 (by decide) (hts _ (List.mem_of_getElem? (i := 8) rfl)) rfl dX0_mixBlock_20 ?_
      refine lv_iload_n hx hb dX0_mixBlock_23 rfl (lv_at hl 1 rfl) ?_
      refine lv_iconst (v := 2) hx hb dX0_mixBlock_24 (by decide) ?_
      refine lv_isub hx hb dX0_mixBlock_25 ?_
      refine hk_iald (v := (hs_L (i - 2))) hx hb hw 14 0 rfl rfl ((show ∀ i, i < 64 → 16 ≤ i → ¬ ((nI i - 2 : Int32) < 0 ∨ 64 ≤ (nI i - 2 : Int32).toNatClampNeg) by decide +kernel) i (by omega) hge) dX0_mixBlock_26 (by rw [(show ∀ i, i < 64 → 16 ≤ i → (nI i - 2 : Int32).toNatClampNeg = i - 2 by decide +kernel) i (by omega) hge]; exact hL _ (by omega)) ?_
      refine lv_istore_n (lv' := [(3, .int (hs_L (i - 2))), (2, .int (hs_L (i - 15))), (1, .int (nI i)), (0, .ref (ad 11))]) hx hb dX0_mixBlock_27 rfl hl (by decide) rfl (fun ls hl => ?_)
      refine lv_iload_n hx hb dX0_mixBlock_28 rfl (lv_at hl 1 rfl) ?_
      refine lv_bipush (v := 7) hx hb dX0_mixBlock_29 (by decide) ?_
      refine hk_Si (As := [.int (hs_L (i - 15)), .int 7]) (rest := []) ⟨hx, hb, hml, hown, hts⟩ hw hA (cx_rot l D cI cJ ad g lg (va_up ar 5 jj_1) bk _ (hs_L (i - 15)) 7) (va_cwS 2 hts gw_cx_mixBlock_1 rfl rfl rfl (by decide +kernel) ⟨Nat.le_of_ble_eq_true rfl, Nat.le_of_ble_eq_true rfl⟩) rfl hl.1 rfl (Nat.le_of_ble_eq_true rfl) dX0_mixBlock_31 ⟨Nat.le_of_ble_eq_true rfl, Nat.le_of_ble_eq_true rfl⟩ (fun rr_21 uu_22 H locs hp_23 hw => ?_)
      subst hp_23
      have hw : hk_W D [(cI, .int), (cJ, .long)] _ s _ _ (xw cI cJ ad g lg (va_up ar 5 jj_1) bk) := hw
      refine lv_iload_n hx hb dX0_mixBlock_34 rfl (lv_at hl 1 rfl) ?_
      refine lv_bipush (v := 18) hx hb dX0_mixBlock_35 (by decide) ?_
      refine hk_Si (As := [.int (hs_L (i - 15)), .int 18]) (rest := [.int (hs_r (hs_L (i - 15)) 7)]) ⟨hx, hb, hml, hown, hts⟩ hw hA (cx_rot l D cI cJ ad g lg (va_up ar 5 jj_1) bk _ (hs_L (i - 15)) 18) (va_cwS 2 hts gw_cx_mixBlock_1 rfl rfl rfl (by decide +kernel) ⟨Nat.le_of_ble_eq_true rfl, Nat.le_of_ble_eq_true rfl⟩) rfl hl.1 rfl (Nat.le_of_ble_eq_true rfl) dX0_mixBlock_37 ⟨Nat.le_of_ble_eq_true rfl, Nat.le_of_ble_eq_true rfl⟩ (fun rr_24 uu_25 H locs hp_26 hw => ?_)
      subst hp_26
      have hw : hk_W D [(cI, .int), (cJ, .long)] _ s _ _ (xw cI cJ ad g lg (va_up ar 5 jj_1) bk) := hw
      refine lv_ixor hx hb dX0_mixBlock_40 ?_
      refine lv_iload_n hx hb dX0_mixBlock_41 rfl (lv_at hl 1 rfl) ?_
      refine lv_iconst (v := 3) hx hb dX0_mixBlock_42 (by decide) ?_
      refine lv_iushr (v := (((hs_L (i - 15)) : Int32).toUInt32 >>> ((3 : Int32).toUInt32 &&& Int32.toUInt32 31)).toInt32) hx hb dX0_mixBlock_43 rfl ?_
      refine lv_ixor hx hb dX0_mixBlock_44 ?_
      refine lv_istore (lv' := [(4, .int (((hs_r (hs_L (i - 15)) 7) ^^^ (hs_r (hs_L (i - 15)) 18)) ^^^ (((hs_L (i - 15)) : Int32).toUInt32 >>> ((3 : Int32).toUInt32 &&& Int32.toUInt32 31)).toInt32)), (3, .int (hs_L (i - 2))), (2, .int (hs_L (i - 15))), (1, .int (nI i)), (0, .ref (ad 11))]) hx hb dX0_mixBlock_45 hl (by decide) rfl (fun ls hl => ?_)
      refine lv_iload_n hx hb dX0_mixBlock_47 rfl (lv_at hl 1 rfl) ?_
      refine lv_bipush (v := 17) hx hb dX0_mixBlock_48 (by decide) ?_
      refine hk_Si (As := [.int (hs_L (i - 2)), .int 17]) (rest := []) ⟨hx, hb, hml, hown, hts⟩ hw hA (cx_rot l D cI cJ ad g lg (va_up ar 5 jj_1) bk _ (hs_L (i - 2)) 17) (va_cwS 2 hts gw_cx_mixBlock_1 rfl rfl rfl (by decide +kernel) ⟨Nat.le_of_ble_eq_true rfl, Nat.le_of_ble_eq_true rfl⟩) rfl hl.1 rfl (Nat.le_of_ble_eq_true rfl) dX0_mixBlock_50 ⟨Nat.le_of_ble_eq_true rfl, Nat.le_of_ble_eq_true rfl⟩ (fun rr_27 uu_28 H locs hp_29 hw => ?_)
      subst hp_29
      have hw : hk_W D [(cI, .int), (cJ, .long)] _ s _ _ (xw cI cJ ad g lg (va_up ar 5 jj_1) bk) := hw
      refine lv_iload_n hx hb dX0_mixBlock_53 rfl (lv_at hl 1 rfl) ?_
      refine lv_bipush (v := 19) hx hb dX0_mixBlock_54 (by decide) ?_
      refine hk_Si (As := [.int (hs_L (i - 2)), .int 19]) (rest := [.int (hs_r (hs_L (i - 2)) 17)]) ⟨hx, hb, hml, hown, hts⟩ hw hA (cx_rot l D cI cJ ad g lg (va_up ar 5 jj_1) bk _ (hs_L (i - 2)) 19) (va_cwS 2 hts gw_cx_mixBlock_1 rfl rfl rfl (by decide +kernel) ⟨Nat.le_of_ble_eq_true rfl, Nat.le_of_ble_eq_true rfl⟩) rfl hl.1 rfl (Nat.le_of_ble_eq_true rfl) dX0_mixBlock_56 ⟨Nat.le_of_ble_eq_true rfl, Nat.le_of_ble_eq_true rfl⟩ (fun rr_30 uu_31 H locs hp_32 hw => ?_)
      subst hp_32
      have hw : hk_W D [(cI, .int), (cJ, .long)] _ s _ _ (xw cI cJ ad g lg (va_up ar 5 jj_1) bk) := hw
      refine lv_ixor hx hb dX0_mixBlock_59 ?_
      refine lv_iload_n hx hb dX0_mixBlock_60 rfl (lv_at hl 1 rfl) ?_
      refine lv_bipush (v := 10) hx hb dX0_mixBlock_61 (by decide) ?_
      refine lv_iushr (v := (((hs_L (i - 2)) : Int32).toUInt32 >>> ((10 : Int32).toUInt32 &&& Int32.toUInt32 31)).toInt32) hx hb dX0_mixBlock_63 rfl ?_
      refine lv_ixor hx hb dX0_mixBlock_64 ?_
      refine lv_istore (lv' := [(5, .int (((hs_r (hs_L (i - 2)) 17) ^^^ (hs_r (hs_L (i - 2)) 19)) ^^^ (((hs_L (i - 2)) : Int32).toUInt32 >>> ((10 : Int32).toUInt32 &&& Int32.toUInt32 31)).toInt32)), (4, .int (((hs_r (hs_L (i - 15)) 7) ^^^ (hs_r (hs_L (i - 15)) 18)) ^^^ (((hs_L (i - 15)) : Int32).toUInt32 >>> ((3 : Int32).toUInt32 &&& Int32.toUInt32 31)).toInt32)), (3, .int (hs_L (i - 2))), (2, .int (hs_L (i - 15))), (1, .int (nI i)), (0, .ref (ad 11))]) hx hb dX0_mixBlock_65 hl (by decide) rfl (fun ls hl => ?_)
      refine lv_aload_n hx hb dX0_mixBlock_67 rfl (lv_at hl 5 rfl) ?_
      refine hk_get (ci := 3) (C := RX0) (T := TX0) (N := 3) (v := .ref (ad 14)) hx hb hts iX0 hown hw 11 rfl rfl 2 (by decide) (hts _ (List.mem_of_getElem? (i := 8) rfl)) rfl dX0_mixBlock_68 ?_
      refine lv_iload_n hx hb dX0_mixBlock_71 rfl (lv_at hl 4 rfl) ?_
      refine lv_aload_n hx hb dX0_mixBlock_72 rfl (lv_at hl 5 rfl) ?_
      refine hk_get (ci := 3) (C := RX0) (T := TX0) (N := 3) (v := .ref (ad 14)) hx hb hts iX0 hown hw 11 rfl rfl 2 (by decide) (hts _ (List.mem_of_getElem? (i := 8) rfl)) rfl dX0_mixBlock_73 ?_
      refine lv_iload_n hx hb dX0_mixBlock_76 rfl (lv_at hl 4 rfl) ?_
      refine lv_bipush (v := 16) hx hb dX0_mixBlock_77 (by decide) ?_
      refine lv_isub hx hb dX0_mixBlock_79 ?_
      refine hk_iald (v := (hs_L (i - 16))) hx hb hw 14 0 rfl rfl ((show ∀ i, i < 64 → 16 ≤ i → ¬ ((nI i - 16 : Int32) < 0 ∨ 64 ≤ (nI i - 16 : Int32).toNatClampNeg) by decide +kernel) i (by omega) hge) dX0_mixBlock_80 (by rw [(show ∀ i, i < 64 → 16 ≤ i → (nI i - 16 : Int32).toNatClampNeg = i - 16 by decide +kernel) i (by omega) hge]; exact hL _ (by omega)) ?_
      refine lv_iload hx hb dX0_mixBlock_81 (lv_at hl 1 rfl) ?_
      refine lv_iadd hx hb dX0_mixBlock_83 ?_
      refine lv_aload_n hx hb dX0_mixBlock_84 rfl (lv_at hl 5 rfl) ?_
      refine hk_get (ci := 3) (C := RX0) (T := TX0) (N := 3) (v := .ref (ad 14)) hx hb hts iX0 hown hw 11 rfl rfl 2 (by decide) (hts _ (List.mem_of_getElem? (i := 8) rfl)) rfl dX0_mixBlock_85 ?_
      refine lv_iload_n hx hb dX0_mixBlock_88 rfl (lv_at hl 4 rfl) ?_
      refine lv_bipush (v := 7) hx hb dX0_mixBlock_89 (by decide) ?_
      refine lv_isub hx hb dX0_mixBlock_91 ?_
      refine hk_iald (v := (hs_L (i - 7))) hx hb hw 14 0 rfl rfl ((show ∀ i, i < 64 → 16 ≤ i → ¬ ((nI i - 7 : Int32) < 0 ∨ 64 ≤ (nI i - 7 : Int32).toNatClampNeg) by decide +kernel) i (by omega) hge) dX0_mixBlock_92 (by rw [(show ∀ i, i < 64 → 16 ≤ i → (nI i - 7 : Int32).toNatClampNeg = i - 7 by decide +kernel) i (by omega) hge]; exact hL _ (by omega)) ?_
      refine lv_iadd hx hb dX0_mixBlock_93 ?_
      refine lv_iload hx hb dX0_mixBlock_94 (lv_at hl 0 rfl) ?_
      refine lv_iadd hx hb dX0_mixBlock_96 ?_
      refine hk_topi (hs_L i) ((show ∀ i, i < 64 → 16 ≤ i → ((((hs_L (i - 16)) + (((hs_r (hs_L (i - 15)) 7) ^^^ (hs_r (hs_L (i - 15)) 18)) ^^^ (((hs_L (i - 15)) : Int32).toUInt32 >>> ((3 : Int32).toUInt32 &&& Int32.toUInt32 31)).toInt32)) + (hs_L (i - 7))) + (((hs_r (hs_L (i - 2)) 17) ^^^ (hs_r (hs_L (i - 2)) 19)) ^^^ (((hs_L (i - 2)) : Int32).toUInt32 >>> ((10 : Int32).toUInt32 &&& Int32.toUInt32 31)).toInt32)) = (hs_L i) by decide +kernel) i (by omega) hge) ?_
      refine hk_iast hx hb hw 14 0 rfl rfl (vp_in_nI (by omega) (by omega)) dX0_mixBlock_97 (ws' := xw cI cJ ad g lg (va_up ar 5 (upd jj_1 ((nI i)).toNatClampNeg (hs_L i))) bk) rfl (fun H locs hw => ?_)
      refine lv_iinc (v := (nI (i + 1))) (lv' := [(1, .int (nI (i + 1))), (5, .int (((hs_r (hs_L (i - 2)) 17) ^^^ (hs_r (hs_L (i - 2)) 19)) ^^^ (((hs_L (i - 2)) : Int32).toUInt32 >>> ((10 : Int32).toUInt32 &&& Int32.toUInt32 31)).toInt32)), (4, .int (((hs_r (hs_L (i - 15)) 7) ^^^ (hs_r (hs_L (i - 15)) 18)) ^^^ (((hs_L (i - 15)) : Int32).toUInt32 >>> ((3 : Int32).toUInt32 &&& Int32.toUInt32 31)).toInt32)), (3, .int (hs_L (i - 2))), (2, .int (hs_L (i - 15))), (0, .ref (ad 11))]) hx hb dX0_mixBlock_98 hl (k := 4) rfl ((nI_succ i).symm) (by decide) rfl (fun ls hl => ?_)
      refine lv_goto (tgt := 3) hx hb dX0_mixBlock_101 (by decide) ?_
      exact ih (i + 1) (upd jj_1 ((nI i)).toNatClampNeg (hs_L i)) ls _ _ (by omega) (by omega) (hs_up hL (nI_clamp (by omega)) rfl) hw (lv_sub hl [0, 5] rfl)
  exact loop_2 (64 - 16) 16 (ar 5) ls _ _ (by omega) (by decide) h16 hw (lv_sub hl [0, 1] rfl)

def ww_cx_sha256 : List Cond := Cond.code yX0_sha256 cX0_sha256 10 none :: ([Cond.fieldLink RX0 44 "LzmaChains$Checks" "SHA_START" "[I", Cond.fieldLink RX0 9 "LzmaChains$Checks" "words" "[I", Cond.methodLink RX0 47 arraycopyName, Cond.native arraycopyName, Cond.static arraycopyName, Cond.initialized "java/lang/System", Cond.fieldLink RX0 18 "LzmaChains$Checks" "schedule" "[I", Cond.methodLink RX0 57 yX0_mixBlock, Cond.instanceMethod yX0_mixBlock, Cond.selects RX0 yX0_mixBlock yX0_mixBlock, Cond.initialized RX0, Cond.code yX0_mixBlock cX0_mixBlock 6 none, Cond.fieldLink RX0 15 "LzmaChains$Checks" "mixed" "[I", Cond.fieldLink RX0 66 "LzmaChains$Checks" "SHA_KEYS" "[I", Cond.methodLink RX0 69 yX0_mixRound, Cond.instanceMethod yX0_mixRound, Cond.selects RX0 yX0_mixRound yX0_mixRound, Cond.code yX0_mixRound cX0_mixRound 10 none, Cond.methodLink RX0 60 yJ6_rotateRight_7cf53, Cond.static yJ6_rotateRight_7cf53, Cond.initialized RJ6, Cond.code yJ6_rotateRight_7cf53 cJ6_rotateRight_7cf53 2 (some .int), Cond.methodLink RX0 53 yX0_shaByte, Cond.static yX0_shaByte, Cond.code yX0_shaByte cX0_shaByte 4 (some .int)] ++ (wsX00 ++ ([])))
set_option maxRecDepth 20000 in
theorem gw_cx_sha256_0 : GoodIn ww_cx_sha256 (wsV RX0 57 RX0 yX0_mixBlock ww_cx_mixBlock) := goodIn_r _ [8, 9, 10, 11, 12, 2, 13, 3, 4, 5, 6, 14, 7, 15, 16, 17, 11, 18, 19, 20, 21, 22, 26, 27, 28] rfl (by decide +kernel)
set_option maxRecDepth 20000 in
theorem gw_cx_sha256_1 : GoodIn ww_cx_sha256 (va_wsS RX0 53 yX0_shaByte ww_cx_shaByte) := goodIn_r _ [23, 24, 11, 25] rfl (by decide +kernel)
set_option maxHeartbeats 4000000 in
set_option maxRecDepth 100000 in
/-- Checks.sha256 of nothing -/
theorem cx_sha256 (l : Launch) (t3 : Nat × Nat × Nat) (D : va_G) (cI cJ : ClassId) (ad : Nat → Nat) (g : Nat → Int32) (lg : Nat → Int64) (ar : Nat → Nat → Int32) (bk : Nat → Int64) (sz : Nat)  : Met l yX0_sha256 ww_cx_sha256 { frames := 3, cells := 0, slots := 0, locals := 75 } (va_Pc [.ref (ad 11), .ref (ad 4), .int 0, .int 0] (hk_BY t3 D [(cI, .int), (cJ, .long)] sz (xw cI cJ ad g lg ar bk))) (va_Qv (fun u : (Nat → Int32) × (Nat → Int32) × (Nat → Int32) => ∀ j, j < 8 → u.1 j = hs_O j) (fun u : (Nat → Int32) × (Nat → Int32) × (Nat → Int32) => hk_E D [(cI, .int), (cJ, .long)] (va_A (xw cI cJ ad g lg ar bk) sz) (xw cI cJ ad g lg (va_up (va_up (va_up ar 3 u.1) 5 u.2.2) 4 u.2.1) bk)) (va_A (xw cI cJ ad g lg ar bk) sz)) 0 0 (va_A (xw cI cJ ad g lg ar bk) sz) := by
  refine hk_smet (t3 := t3) (cc := cX0_sha256) (maxL := 10) (ret := none) (by decide) rfl (Nat.le_of_ble_eq_true rfl) ?_
  intro p e s m below meth c ls hx hb hr hml hown hts hlocks hin hA hZ hw hl
  have iX0 : ∀ w ∈ wsX00, w ∈ ww_cx_sha256 := fun _ h => List.mem_cons_of_mem _ (List.mem_append_right _ (List.mem_append_left _ h))
  have hl : lv_has ls 10 [(0, .ref (ad 11)), (1, .ref (ad 4)), (2, .int 0), (3, .int 0)] := hl
  refine hk_gets hx hb hZ.2.2.2.1 hw hown (hts _ (List.mem_of_getElem? (i := 1) rfl)) dX0_sha256_0 ?_
  refine lv_iconst (v := 0) hx hb dX0_sha256_3 (by decide) ?_
  refine lv_aload_n hx hb dX0_sha256_4 rfl (lv_at hl 0 rfl) ?_
  refine hk_get (ci := 3) (C := RX0) (T := TX0) (N := 3) (v := .ref (ad 12)) hx hb hts iX0 hown hw 11 rfl rfl 0 (by decide) (hts _ (List.mem_of_getElem? (i := 2) rfl)) rfl dX0_sha256_5 ?_
  refine lv_iconst (v := 0) hx hb dX0_sha256_8 (by decide) ?_
  refine lv_bipush (v := 8) hx hb dX0_sha256_9 (by decide) ?_
  refine hk_copyT hx hb (by rw [hml]; exact hl.1.symm) hown (hts _ (List.mem_of_getElem? (i := 3) rfl)) (hts _ (List.mem_of_getElem? (i := 4) rfl)) (hts _ (List.mem_of_getElem? (i := 5) rfl)) (hts _ (List.mem_of_getElem? (i := 6) rfl)) hw hZ.2.2.2.1 12 0 rfl rfl (by decide) (by decide) (by decide) (by decide) (by decide) (Nat.le_of_ble_eq_true rfl) (by decide) dX0_sha256_11 (ws' := xw cI cJ ad g lg (va_up ar 3 (va_cpy hs_H (ar 3) 0 0 8)) bk) rfl (fun H locs hw => ?_)
  refine lv_iload_n hx hb dX0_sha256_14 rfl (lv_at hl 3 rfl) ?_
  refine lv_iload_n hx hb dX0_sha256_15 rfl (lv_at hl 2 rfl) ?_
  refine lv_isub hx hb dX0_sha256_16 ?_
  refine hk_topi 0 (by decide +kernel) ?_
  refine lv_istore (lv' := [(4, .int 0), (0, .ref (ad 11)), (1, .ref (ad 4)), (2, .int 0), (3, .int 0)]) hx hb dX0_sha256_17 hl (by decide) rfl (fun ls hl => ?_)
  refine lv_iload hx hb dX0_sha256_19 (lv_at hl 0 rfl) ?_
  refine lv_bipush (v := 72) hx hb dX0_sha256_21 (by decide) ?_
  refine lv_iadd hx hb dX0_sha256_23 ?_
  refine hk_topi 72 (by decide +kernel) ?_
  refine lv_bipush (v := (-64)) hx hb dX0_sha256_24 (by decide) ?_
  refine lv_iand hx hb dX0_sha256_26 ?_
  refine hk_topi 64 (by decide +kernel) ?_
  refine lv_istore (lv' := [(5, .int 64), (4, .int 0), (0, .ref (ad 11)), (1, .ref (ad 4)), (2, .int 0), (3, .int 0)]) hx hb dX0_sha256_27 hl (by decide) rfl (fun ls hl => ?_)
  refine lv_iconst (v := 0) hx hb dX0_sha256_29 (by decide) ?_
  refine lv_istore (lv' := [(6, .int 0), (5, .int 64), (4, .int 0), (0, .ref (ad 11)), (1, .ref (ad 4)), (2, .int 0), (3, .int 0)]) hx hb dX0_sha256_30 hl (by decide) rfl (fun ls hl => ?_)
  refine lv_iload hx hb dX0_sha256_32 (lv_at hl 0 rfl) ?_
  refine lv_iload hx hb dX0_sha256_34 (lv_at hl 1 rfl) ?_
  refine lv_icmp_ge (tgt := 139) hx hb dX0_sha256_36 (by decide) (fun cc_1 => absurd cc_1 (by decide)) (fun _ => ?_)
  refine lv_iconst (v := 0) hx hb dX0_sha256_39 (by decide) ?_
  refine lv_istore (lv' := [(7, .int 0), (6, .int 0), (5, .int 64), (4, .int 0), (0, .ref (ad 11)), (1, .ref (ad 4)), (2, .int 0), (3, .int 0)]) hx hb dX0_sha256_40 hl (by decide) rfl (fun ls hl => ?_)
  have loop_3 : ∀ (ki i : Nat) (jj_2 : Nat → Int32) (ls : Array Slot) (H : Heap) (locs : List Loc), i + ki = 16 → (∀ j, j < i → jj_2 j = hs_L j) → hk_W D [(cI, .int), (cJ, .long)] (va_A (xw cI cJ ad g lg ar bk) sz) s H locs (xw cI cJ ad g lg (va_up (va_up ar 3 (va_cpy hs_H (ar 3) 0 0 8)) 5 jj_2) bk) → lv_has ls 10 [(7, .int (nI i)), (6, .int 0), (5, .int 64), (4, .int 0), (0, .ref (ad 11)), (1, .ref (ad 4)), (2, .int 0), (3, .int 0)] → W p l e { frames := 3, cells := 0, slots := 0, locals := 75 } s m (List.toArray [.ref (ad 11), .ref (ad 4), .int 0, .int 0]) below meth c H locs 0 0 (MQ below (va_Qv (fun u : (Nat → Int32) × (Nat → Int32) × (Nat → Int32) => ∀ j, j < 8 → u.1 j = hs_O j) (fun u : (Nat → Int32) × (Nat → Int32) × (Nat → Int32) => hk_E D [(cI, .int), (cJ, .long)] (va_A (xw cI cJ ad g lg ar bk) sz) (xw cI cJ ad g lg (va_up (va_up (va_up ar 3 u.1) 5 u.2.2) 4 u.2.1) bk)) (va_A (xw cI cJ ad g lg ar bk) sz)) (List.toArray [.ref (ad 11), .ref (ad 4), .int 0, .int 0]) s 0 0 (va_A (xw cI cJ ad g lg ar bk) sz)) (F0 m 42 ls []) := by
    intro ki
    induction ki with
    | zero =>
      intro i jj_2 ls H locs hik hL hw hl
      refine lv_iload hx hb dX0_sha256_42 (lv_at hl 0 rfl) ?_
      refine lv_bipush (v := 16) hx hb dX0_sha256_44 (by decide) ?_
      refine lv_icmp_ge (tgt := 107) hx hb dX0_sha256_46 (by decide) (fun _ => ?_) (fun cc_4 => absurd (hk_le (a := 16) (b := i) (by omega) (by omega)) cc_4)
      refine lv_iload hx hb dX0_sha256_107 (lv_at hl 1 rfl) ?_
      refine lv_bipush (v := 64) hx hb dX0_sha256_109 (by decide) ?_
      refine lv_iadd hx hb dX0_sha256_111 ?_
      refine hk_topi 64 (by decide +kernel) ?_
      refine lv_iload hx hb dX0_sha256_112 (lv_at hl 2 rfl) ?_
      refine lv_icmp_ne (tgt := 129) hx hb dX0_sha256_114 (by decide) (fun cc_5 => absurd (by decide) cc_5) (fun _ => ?_)
      refine lv_aload_n hx hb dX0_sha256_117 rfl (lv_at hl 4 rfl) ?_
      refine hk_get (ci := 3) (C := RX0) (T := TX0) (N := 3) (v := .ref (ad 14)) hx hb hts iX0 hown hw 11 rfl rfl 2 (by decide) (hts _ (List.mem_of_getElem? (i := 7) rfl)) rfl dX0_sha256_118 ?_
      refine lv_bipush (v := 15) hx hb dX0_sha256_121 (by decide) ?_
      refine lv_iload hx hb dX0_sha256_123 (lv_at hl 3 rfl) ?_
      refine lv_bipush (v := 8) hx hb dX0_sha256_125 (by decide) ?_
      refine lv_imul hx hb dX0_sha256_127 ?_
      refine hk_topi 0 (by decide +kernel) ?_
      refine hk_iast hx hb hw 14 0 rfl rfl (show ¬ (_ ∨ _) by decide) dX0_sha256_128 (ws' := xw cI cJ ad g lg (va_up (va_up ar 3 (va_cpy hs_H (ar 3) 0 0 8)) 5 (upd jj_2 15 0)) bk) rfl (fun H locs hw => ?_)
      refine lv_aload_n hx hb dX0_sha256_129 rfl (lv_at hl 4 rfl) ?_
      refine hk_ZVv (As := []) (rest := []) ⟨hx, hb, hml, hown, hts⟩ hZ hw hA (cx_mixBlock l t3 D cI cJ ad g lg (va_up (va_up ar 3 (va_cpy hs_H (ar 3) 0 0 8)) 5 (upd jj_2 15 0)) bk _ (hs_cp (fun _ _ => rfl)) (hs_ov (fun j hj => hL j (by omega)) rfl)) (cwV 0 hts gw_cx_sha256_0 rfl rfl rfl (by decide +kernel) ⟨Nat.le_of_ble_eq_true rfl, Nat.le_of_ble_eq_true rfl⟩) 11 (ci := 3) (T := TX0) (N := 3) rfl rfl rfl hl.1 rfl (Nat.le_of_ble_eq_true rfl) dX0_sha256_130 ⟨Nat.le_of_ble_eq_true rfl, Nat.le_of_ble_eq_true rfl⟩ (fun uu_7 H locs hp_8 hw => ?_)
      have hO := hp_8
      have hw : hk_W D [(cI, .int), (cJ, .long)] _ s _ _ (xw cI cJ ad g lg (va_up (va_up (va_up (va_up (va_up ar 3 (va_cpy hs_H (ar 3) 0 0 8)) 5 (upd jj_2 15 0)) 5 uu_7.2.2) 4 uu_7.2.1) 3 uu_7.1) bk) := hw
      refine lv_iinc (v := 64) (lv' := [(6, .int 64), (7, .int (nI i)), (5, .int 64), (4, .int 0), (0, .ref (ad 11)), (1, .ref (ad 4)), (2, .int 0), (3, .int 0)]) hx hb dX0_sha256_133 hl (k := 1) rfl rfl (by decide) rfl (fun ls hl => ?_)
      refine lv_goto (tgt := 32) hx hb dX0_sha256_136 (by decide) ?_
      refine lv_iload hx hb dX0_sha256_32 (lv_at hl 0 rfl) ?_
      refine lv_iload hx hb dX0_sha256_34 (lv_at hl 2 rfl) ?_
      refine lv_icmp_ge (tgt := 139) hx hb dX0_sha256_36 (by decide) (fun _ => ?_) (fun cc_9 => absurd (by decide) cc_9)
      exact hk_vret (u := (uu_7.1, uu_7.2.1, uu_7.2.2)) hx hb hr hlocks (show hk_W D [(cI, .int), (cJ, .long)] _ s _ _ (xw cI cJ ad g lg (va_up (va_up (va_up ar 3 ((uu_7.1, uu_7.2.1, uu_7.2.2).1)) 5 ((uu_7.1, uu_7.2.1, uu_7.2.2).2.2)) 4 ((uu_7.1, uu_7.2.1, uu_7.2.2).2.1)) bk) from hw) (hO) dX0_sha256_139
    | succ ki ih =>
      intro i jj_2 ls H locs hik hL hw hl
      refine lv_iload hx hb dX0_sha256_42 (lv_at hl 0 rfl) ?_
      refine lv_bipush (v := 16) hx hb dX0_sha256_44 (by decide) ?_
      refine lv_icmp_ge (tgt := 107) hx hb dX0_sha256_46 (by decide) (fun cc_10 => absurd cc_10 (hk_nle (a := i) (b := 16) (by omega) (by omega))) (fun _ => ?_)
      refine lv_iconst (v := 0) hx hb dX0_sha256_49 (by decide) ?_
      refine lv_istore (lv' := [(8, .int 0), (7, .int (nI i)), (6, .int 0), (5, .int 64), (4, .int 0), (0, .ref (ad 11)), (1, .ref (ad 4)), (2, .int 0), (3, .int 0)]) hx hb dX0_sha256_50 hl (by decide) rfl (fun ls hl => ?_)
      refine lv_iconst (v := 0) hx hb dX0_sha256_52 (by decide) ?_
      refine lv_istore (lv' := [(9, .int 0), (8, .int 0), (7, .int (nI i)), (6, .int 0), (5, .int 64), (4, .int 0), (0, .ref (ad 11)), (1, .ref (ad 4)), (2, .int 0), (3, .int 0)]) hx hb dX0_sha256_53 hl (by decide) rfl (fun ls hl => ?_)
      have loop_11 : ∀ (kk k : Nat) (ls : Array Slot) (H : Heap) (locs : List Loc), k + kk = 4 → hk_W D [(cI, .int), (cJ, .long)] (va_A (xw cI cJ ad g lg ar bk) sz) s H locs (xw cI cJ ad g lg (va_up (va_up ar 3 (va_cpy hs_H (ar 3) 0 0 8)) 5 jj_2) bk) → lv_has ls 10 [(9, .int (nI k)), (8, .int (hs_w i k)), (7, .int (nI i)), (6, .int 0), (5, .int 64), (4, .int 0), (0, .ref (ad 11)), (1, .ref (ad 4)), (2, .int 0), (3, .int 0)] → W p l e { frames := 3, cells := 0, slots := 0, locals := 75 } s m (List.toArray [.ref (ad 11), .ref (ad 4), .int 0, .int 0]) below meth c H locs 0 0 (MQ below (va_Qv (fun u : (Nat → Int32) × (Nat → Int32) × (Nat → Int32) => ∀ j, j < 8 → u.1 j = hs_O j) (fun u : (Nat → Int32) × (Nat → Int32) × (Nat → Int32) => hk_E D [(cI, .int), (cJ, .long)] (va_A (xw cI cJ ad g lg ar bk) sz) (xw cI cJ ad g lg (va_up (va_up (va_up ar 3 u.1) 5 u.2.2) 4 u.2.1) bk)) (va_A (xw cI cJ ad g lg ar bk) sz)) (List.toArray [.ref (ad 11), .ref (ad 4), .int 0, .int 0]) s 0 0 (va_A (xw cI cJ ad g lg ar bk) sz)) (F0 m 55 ls []) := by
        intro kk
        induction kk with
        | zero =>
          intro k  ls H locs hkk  hw hl
          refine lv_iload hx hb dX0_sha256_55 (lv_at hl 0 rfl) ?_
          refine lv_iconst (v := 4) hx hb dX0_sha256_57 (by decide) ?_
          refine lv_icmp_ge (tgt := 92) hx hb dX0_sha256_58 (by decide) (fun _ => ?_) (fun cc_12 => absurd (hk_le (a := 4) (b := k) (by omega) (by omega)) cc_12)
          refine lv_aload_n hx hb dX0_sha256_92 rfl (lv_at hl 6 rfl) ?_
          refine hk_get (ci := 3) (C := RX0) (T := TX0) (N := 3) (v := .ref (ad 14)) hx hb hts iX0 hown hw 11 rfl rfl 2 (by decide) (hts _ (List.mem_of_getElem? (i := 7) rfl)) rfl dX0_sha256_93 ?_
          refine lv_iload hx hb dX0_sha256_96 (lv_at hl 2 rfl) ?_
          refine lv_iload hx hb dX0_sha256_98 (lv_at hl 1 rfl) ?_
          refine hk_topi (hs_L i) (by rw [show k = 4 by omega]; exact (show ∀ i, i < 16 → hs_w i 4 = hs_L i by decide +kernel) i (by omega)) ?_
          refine hk_iast hx hb hw 14 0 rfl rfl (vp_in_nI (by omega) (by omega)) dX0_sha256_100 (ws' := xw cI cJ ad g lg (va_up (va_up ar 3 (va_cpy hs_H (ar 3) 0 0 8)) 5 (upd jj_2 ((nI i)).toNatClampNeg (hs_L i))) bk) rfl (fun H locs hw => ?_)
          refine lv_iinc (v := (nI (i + 1))) (lv' := [(7, .int (nI (i + 1))), (9, .int (nI k)), (8, .int (hs_w i k)), (6, .int 0), (5, .int 64), (4, .int 0), (0, .ref (ad 11)), (1, .ref (ad 4)), (2, .int 0), (3, .int 0)]) hx hb dX0_sha256_101 hl (k := 2) rfl ((nI_succ i).symm) (by decide) rfl (fun ls hl => ?_)
          refine lv_goto (tgt := 42) hx hb dX0_sha256_104 (by decide) ?_
          exact ih (i + 1) (upd jj_2 ((nI i)).toNatClampNeg (hs_L i)) ls _ _ (by omega) (hs_up hL (nI_clamp (by omega)) rfl) hw (lv_sub hl [0, 3, 4, 5, 6, 7, 8, 9] rfl)
        | succ kk ihk =>
          intro k  ls H locs hkk  hw hl
          refine lv_iload hx hb dX0_sha256_55 (lv_at hl 0 rfl) ?_
          refine lv_iconst (v := 4) hx hb dX0_sha256_57 (by decide) ?_
          refine lv_icmp_ge (tgt := 92) hx hb dX0_sha256_58 (by decide) (fun cc_13 => absurd cc_13 (hk_nle (a := k) (b := 4) (by omega) (by omega))) (fun _ => ?_)
          refine lv_iload hx hb dX0_sha256_61 (lv_at hl 1 rfl) ?_
          refine lv_bipush (v := 8) hx hb dX0_sha256_63 (by decide) ?_
          refine lv_ishl hx hb dX0_sha256_65 ?_
          refine lv_aload_n hx hb dX0_sha256_66 rfl (lv_at hl 7 rfl) ?_
          refine lv_iload_n hx hb dX0_sha256_67 rfl (lv_at hl 8 rfl) ?_
          refine lv_iload hx hb dX0_sha256_68 (lv_at hl 5 rfl) ?_
          refine lv_iload hx hb dX0_sha256_70 (lv_at hl 3 rfl) ?_
          refine lv_iconst (v := 4) hx hb dX0_sha256_72 (by decide) ?_
          refine lv_iload hx hb dX0_sha256_73 (lv_at hl 2 rfl) ?_
          refine lv_imul hx hb dX0_sha256_75 ?_
          refine lv_iadd hx hb dX0_sha256_76 ?_
          refine lv_iload hx hb dX0_sha256_77 (lv_at hl 0 rfl) ?_
          refine lv_iadd hx hb dX0_sha256_79 ?_
          refine hk_topi (nI (4 * i + k)) ((show ∀ i, i < 16 → ∀ k, k < 4 → ((0 + (4 * (nI i))) + (nI k)) = nI (4 * i + k) by decide +kernel) i (by omega) k (by omega)) ?_
          refine hk_Si (As := [.ref (ad 4), .int 0, .int 0, .int (nI (4 * i + k))]) (rest := [.int (((hs_w i k) : Int32) <<< ((8 : Int32) &&& 31))]) ⟨hx, hb, hml, hown, hts⟩ hw hA (cx_shaByte l D cI cJ ad g lg (va_up (va_up ar 3 (va_cpy hs_H (ar 3) 0 0 8)) 5 jj_2) bk _ (4 * i + k) (by omega)) (va_cwS 4 hts gw_cx_sha256_1 rfl rfl rfl (by decide +kernel) ⟨Nat.le_of_ble_eq_true rfl, Nat.le_of_ble_eq_true rfl⟩) rfl hl.1 rfl (Nat.le_of_ble_eq_true rfl) dX0_sha256_80 ⟨Nat.le_of_ble_eq_true rfl, Nat.le_of_ble_eq_true rfl⟩ (fun rr_14 uu_15 H locs hp_16 hw => ?_)
          subst hp_16
          have hw : hk_W D [(cI, .int), (cJ, .long)] _ s _ _ (xw cI cJ ad g lg (va_up (va_up ar 3 (va_cpy hs_H (ar 3) 0 0 8)) 5 jj_2) bk) := hw
          refine lv_ior hx hb dX0_sha256_83 ?_
          refine hk_topi (hs_w i (k + 1)) ((show ∀ i, i < 16 → ∀ k, k < 4 → ((((hs_w i k) : Int32) <<< ((8 : Int32) &&& 31)) ||| (if (4 * i + k) = 0 then (128 : Int32) else 0)) = hs_w i (k + 1) by decide +kernel) i (by omega) k (by omega)) ?_
          refine lv_istore (lv' := [(8, .int (hs_w i (k + 1))), (9, .int (nI k)), (7, .int (nI i)), (6, .int 0), (5, .int 64), (4, .int 0), (0, .ref (ad 11)), (1, .ref (ad 4)), (2, .int 0), (3, .int 0)]) hx hb dX0_sha256_84 hl (by decide) rfl (fun ls hl => ?_)
          refine lv_iinc (v := (nI (k + 1))) (lv' := [(9, .int (nI (k + 1))), (8, .int (hs_w i (k + 1))), (7, .int (nI i)), (6, .int 0), (5, .int 64), (4, .int 0), (0, .ref (ad 11)), (1, .ref (ad 4)), (2, .int 0), (3, .int 0)]) hx hb dX0_sha256_86 hl (k := 1) rfl ((nI_succ k).symm) (by decide) rfl (fun ls hl => ?_)
          refine lv_goto (tgt := 55) hx hb dX0_sha256_89 (by decide) ?_
          exact ihk (k + 1)  ls _ _ (by omega)  hw (lv_sub hl [0, 1, 2, 3, 4, 5, 6, 7, 8, 9] rfl)
      exact loop_11 (4 - 0) 0  ls _ _ (by omega)  hw (lv_sub hl [0, 1, 2, 3, 4, 5, 6, 7, 8, 9] rfl)
  exact loop_3 (16 - 0) 0 (ar 5) ls _ _ (by omega) (fun j hj => absurd hj (Nat.not_lt_zero j)) hw (lv_sub hl [0, 1, 2, 3, 4, 5, 6, 7] rfl)
