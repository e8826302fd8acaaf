theorem hk_ck1 {i : Int32} (h : ¬ i.toInt = 0) : (-1 : Int32) = hk_ckv 1 i := by
  simp [hk_ckv, h]
theorem hk_ck4 {i : Int32} (h : ¬ i.toInt = 0) (h' : ¬ i.toInt = 1) : (-1 : Int32) = hk_ckv 4 i := by
  simp [hk_ckv, h, h']
theorem hk_ck10 {i : Int32} (h : ¬ (0 ≤ i.toInt ∧ i.toInt < 8)) : (-1 : Int32) = hk_ckv 10 i := by
  simp only [hk_ckv, h, and_false, if_false, show ¬ ((10 : Int32).toInt = 1) by decide, show ¬ ((10 : Int32).toInt = 4) by decide, false_and]
theorem hk_ckN {k i : Int32} (h1 : k.toInt ≠ 1) (h4 : k.toInt ≠ 4) (h10 : k.toInt ≠ 10) : (-1 : Int32) = hk_ckv k i := by
  simp [hk_ckv, h1, h4, h10]

def ww_cx_ik1 : List Cond := Cond.code yX0_isKind cX0_isKind 1 (some .boolean) :: ([] ++ ([]))
set_option maxHeartbeats 4000000 in
set_option maxRecDepth 100000 in
/-- Checks.isKind(1) -/
theorem cx_ik1 (l : Launch) (D : va_G) (cI cJ : ClassId) (ad : Nat → Nat) (g : Nat → Int32) (lg : Nat → Int64) (ar : Nat → Nat → Int32) (bk : Nat → Int64) (sz : Nat)  : Met l yX0_isKind ww_cx_ik1 { frames := 0, cells := 0, slots := 0, locals := 0 } (va_Pc [.int 1] (hk_B D [(cI, .int), (cJ, .long)] sz (xw cI cJ ad g lg ar bk))) (va_Qi (fun (r : Int32) (u : Unit) => r = 1) (fun u : Unit => hk_E D [(cI, .int), (cJ, .long)] (va_A (xw cI cJ ad g lg ar bk) sz) (xw cI cJ ad g lg ar bk)) (va_A (xw cI cJ ad g lg ar bk) sz)) 0 0 (va_A (xw cI cJ ad g lg ar bk) sz) := by
  refine hk_met (cc := cX0_isKind) (maxL := 1) (ret := (some .boolean)) (by decide) rfl (Nat.le_of_ble_eq_true rfl) ?_
  intro p e s m below meth c ls hx hb hr hml hown hts hlocks hin hA hw hl
  have hl : lv_has ls 1 [(0, .int 1)] := hl
  refine lv_iload_n hx hb dX0_isKind_0 rfl (lv_at hl 0 rfl) ?_
  refine lv_if_eq (tgt := 20) hx hb dX0_isKind_1 (by decide) (fun cc_1 => absurd cc_1 (by decide)) (fun _ => ?_)
  refine lv_iload_n hx hb dX0_isKind_4 rfl (lv_at hl 0 rfl) ?_
  refine lv_iconst (v := 1) hx hb dX0_isKind_5 (by decide) ?_
  refine lv_icmp_eq (tgt := 20) hx hb dX0_isKind_6 (by decide) (fun _ => ?_) (fun cc_2 => absurd (by decide) cc_2)
  refine lv_iconst (v := 1) hx hb dX0_isKind_20 (by decide) ?_
  refine lv_goto (tgt := 25) hx hb dX0_isKind_21 (by decide) ?_
  exact hk_zret (u := ()) hx hb hr rfl hlocks (hw) (rfl) dX0_isKind_25

def ww_cx_ik4 : List Cond := Cond.code yX0_isKind cX0_isKind 1 (some .boolean) :: ([] ++ ([]))
set_option maxHeartbeats 4000000 in
set_option maxRecDepth 100000 in
/-- Checks.isKind(4) -/
theorem cx_ik4 (l : Launch) (D : va_G) (cI cJ : ClassId) (ad : Nat → Nat) (g : Nat → Int32) (lg : Nat → Int64) (ar : Nat → Nat → Int32) (bk : Nat → Int64) (sz : Nat)  : Met l yX0_isKind ww_cx_ik4 { frames := 0, cells := 0, slots := 0, locals := 0 } (va_Pc [.int 4] (hk_B D [(cI, .int), (cJ, .long)] sz (xw cI cJ ad g lg ar bk))) (va_Qi (fun (r : Int32) (u : Unit) => r = 1) (fun u : Unit => hk_E D [(cI, .int), (cJ, .long)] (va_A (xw cI cJ ad g lg ar bk) sz) (xw cI cJ ad g lg ar bk)) (va_A (xw cI cJ ad g lg ar bk) sz)) 0 0 (va_A (xw cI cJ ad g lg ar bk) sz) := by
  refine hk_met (cc := cX0_isKind) (maxL := 1) (ret := (some .boolean)) (by decide) rfl (Nat.le_of_ble_eq_true rfl) ?_
  intro p e s m below meth c ls hx hb hr hml hown hts hlocks hin hA hw hl
  have hl : lv_has ls 1 [(0, .int 4)] := hl
  refine lv_iload_n hx hb dX0_isKind_0 rfl (lv_at hl 0 rfl) ?_
  refine lv_if_eq (tgt := 20) hx hb dX0_isKind_1 (by decide) (fun cc_1 => absurd cc_1 (by decide)) (fun _ => ?_)
  refine lv_iload_n hx hb dX0_isKind_4 rfl (lv_at hl 0 rfl) ?_
  refine lv_iconst (v := 1) hx hb dX0_isKind_5 (by decide) ?_
  refine lv_icmp_eq (tgt := 20) hx hb dX0_isKind_6 (by decide) (fun cc_2 => absurd cc_2 (by decide)) (fun _ => ?_)
  refine lv_iload_n hx hb dX0_isKind_9 rfl (lv_at hl 0 rfl) ?_
  refine lv_iconst (v := 4) hx hb dX0_isKind_10 (by decide) ?_
  refine lv_icmp_eq (tgt := 20) hx hb dX0_isKind_11 (by decide) (fun _ => ?_) (fun cc_3 => absurd (by decide) cc_3)
  refine lv_iconst (v := 1) hx hb dX0_isKind_20 (by decide) ?_
  refine lv_goto (tgt := 25) hx hb dX0_isKind_21 (by decide) ?_
  exact hk_zret (u := ()) hx hb hr rfl hlocks (hw) (rfl) dX0_isKind_25

def ww_cx_ik10 : List Cond := Cond.code yX0_isKind cX0_isKind 1 (some .boolean) :: ([] ++ ([]))
set_option maxHeartbeats 4000000 in
set_option maxRecDepth 100000 in
/-- Checks.isKind(10) -/
theorem cx_ik10 (l : Launch) (D : va_G) (cI cJ : ClassId) (ad : Nat → Nat) (g : Nat → Int32) (lg : Nat → Int64) (ar : Nat → Nat → Int32) (bk : Nat → Int64) (sz : Nat)  : Met l yX0_isKind ww_cx_ik10 { frames := 0, cells := 0, slots := 0, locals := 0 } (va_Pc [.int 10] (hk_B D [(cI, .int), (cJ, .long)] sz (xw cI cJ ad g lg ar bk))) (va_Qi (fun (r : Int32) (u : Unit) => r = 1) (fun u : Unit => hk_E D [(cI, .int), (cJ, .long)] (va_A (xw cI cJ ad g lg ar bk) sz) (xw cI cJ ad g lg ar bk)) (va_A (xw cI cJ ad g lg ar bk) sz)) 0 0 (va_A (xw cI cJ ad g lg ar bk) sz) := by
  refine hk_met (cc := cX0_isKind) (maxL := 1) (ret := (some .boolean)) (by decide) rfl (Nat.le_of_ble_eq_true rfl) ?_
  intro p e s m below meth c ls hx hb hr hml hown hts hlocks hin hA hw hl
  have hl : lv_has ls 1 [(0, .int 10)] := hl
  refine lv_iload_n hx hb dX0_isKind_0 rfl (lv_at hl 0 rfl) ?_
  refine lv_if_eq (tgt := 20) hx hb dX0_isKind_1 (by decide) (fun cc_1 => absurd cc_1 (by decide)) (fun _ => ?_)
  refine lv_iload_n hx hb dX0_isKind_4 rfl (lv_at hl 0 rfl) ?_
  refine lv_iconst (v := 1) hx hb dX0_isKind_5 (by decide) ?_
  refine lv_icmp_eq (tgt := 20) hx hb dX0_isKind_6 (by decide) (fun cc_2 => absurd cc_2 (by decide)) (fun _ => ?_)
  refine lv_iload_n hx hb dX0_isKind_9 rfl (lv_at hl 0 rfl) ?_
  refine lv_iconst (v := 4) hx hb dX0_isKind_10 (by decide) ?_
  refine lv_icmp_eq (tgt := 20) hx hb dX0_isKind_11 (by decide) (fun cc_3 => absurd cc_3 (by decide)) (fun _ => ?_)
  refine lv_iload_n hx hb dX0_isKind_14 rfl (lv_at hl 0 rfl) ?_
  refine lv_bipush (v := 10) hx hb dX0_isKind_15 (by decide) ?_
  refine lv_icmp_ne (tgt := 24) hx hb dX0_isKind_17 (by decide) (fun cc_4 => absurd (by decide) cc_4) (fun _ => ?_)
  refine lv_iconst (v := 1) hx hb dX0_isKind_20 (by decide) ?_
  refine lv_goto (tgt := 25) hx hb dX0_isKind_21 (by decide) ?_
  exact hk_zret (u := ()) hx hb hr rfl hlocks (hw) (rfl) dX0_isKind_25

def ww_cx_bo1 : List Cond := Cond.code yX0_bytesOf cX0_bytesOf 1 (some .int) :: ([] ++ ([]))
set_option maxHeartbeats 4000000 in
set_option maxRecDepth 100000 in
/-- Checks.bytesOf(1) -/
theorem cx_bo1 (l : Launch) (D : va_G) (cI cJ : ClassId) (ad : Nat → Nat) (g : Nat → Int32) (lg : Nat → Int64) (ar : Nat → Nat → Int32) (bk : Nat → Int64) (sz : Nat)  : Met l yX0_bytesOf ww_cx_bo1 { frames := 0, cells := 0, slots := 0, locals := 0 } (va_Pc [.int 1] (hk_B D [(cI, .int), (cJ, .long)] sz (xw cI cJ ad g lg ar bk))) (va_Qi (fun (r : Int32) (u : Unit) => r = 4) (fun u : Unit => hk_E D [(cI, .int), (cJ, .long)] (va_A (xw cI cJ ad g lg ar bk) sz) (xw cI cJ ad g lg ar bk)) (va_A (xw cI cJ ad g lg ar bk) sz)) 0 0 (va_A (xw cI cJ ad g lg ar bk) sz) := by
  refine hk_met (cc := cX0_bytesOf) (maxL := 1) (ret := (some .int)) (by decide) rfl (Nat.le_of_ble_eq_true rfl) ?_
  intro p e s m below meth c ls hx hb hr hml hown hts hlocks hin hA hw hl
  have hl : lv_has ls 1 [(0, .int 1)] := hl
  refine lv_iload_n hx hb dX0_bytesOf_0 rfl (lv_at hl 0 rfl) ?_
  refine lv_iconst (v := 1) hx hb dX0_bytesOf_1 (by decide) ?_
  refine lv_icmp_ne (tgt := 9) hx hb dX0_bytesOf_2 (by decide) (fun cc_1 => absurd (by decide) cc_1) (fun _ => ?_)
  refine lv_iconst (v := 4) hx hb dX0_bytesOf_5 (by decide) ?_
  refine lv_goto (tgt := 31) hx hb dX0_bytesOf_6 (by decide) ?_
  exact hk_iret (u := ()) hx hb hr hlocks (hw) (rfl) dX0_bytesOf_31

def ww_cx_bo4 : List Cond := Cond.code yX0_bytesOf cX0_bytesOf 1 (some .int) :: ([] ++ ([]))
set_option maxHeartbeats 4000000 in
set_option maxRecDepth 100000 in
/-- Checks.bytesOf(4) -/
theorem cx_bo4 (l : Launch) (D : va_G) (cI cJ : ClassId) (ad : Nat → Nat) (g : Nat → Int32) (lg : Nat → Int64) (ar : Nat → Nat → Int32) (bk : Nat → Int64) (sz : Nat)  : Met l yX0_bytesOf ww_cx_bo4 { frames := 0, cells := 0, slots := 0, locals := 0 } (va_Pc [.int 4] (hk_B D [(cI, .int), (cJ, .long)] sz (xw cI cJ ad g lg ar bk))) (va_Qi (fun (r : Int32) (u : Unit) => r = 8) (fun u : Unit => hk_E D [(cI, .int), (cJ, .long)] (va_A (xw cI cJ ad g lg ar bk) sz) (xw cI cJ ad g lg ar bk)) (va_A (xw cI cJ ad g lg ar bk) sz)) 0 0 (va_A (xw cI cJ ad g lg ar bk) sz) := by
  refine hk_met (cc := cX0_bytesOf) (maxL := 1) (ret := (some .int)) (by decide) rfl (Nat.le_of_ble_eq_true rfl) ?_
  intro p e s m below meth c ls hx hb hr hml hown hts hlocks hin hA hw hl
  have hl : lv_has ls 1 [(0, .int 4)] := hl
  refine lv_iload_n hx hb dX0_bytesOf_0 rfl (lv_at hl 0 rfl) ?_
  refine lv_iconst (v := 1) hx hb dX0_bytesOf_1 (by decide) ?_
  refine lv_icmp_ne (tgt := 9) hx hb dX0_bytesOf_2 (by decide) (fun _ => ?_) (fun cc_1 => absurd cc_1 (by decide))
  refine lv_iload_n hx hb dX0_bytesOf_9 rfl (lv_at hl 0 rfl) ?_
  refine lv_iconst (v := 4) hx hb dX0_bytesOf_10 (by decide) ?_
  refine lv_icmp_ne (tgt := 19) hx hb dX0_bytesOf_11 (by decide) (fun cc_2 => absurd (by decide) cc_2) (fun _ => ?_)
  refine lv_bipush (v := 8) hx hb dX0_bytesOf_14 (by decide) ?_
  refine lv_goto (tgt := 31) hx hb dX0_bytesOf_16 (by decide) ?_
  exact hk_iret (u := ()) hx hb hr hlocks (hw) (rfl) dX0_bytesOf_31

def ww_cx_bo10 : List Cond := Cond.code yX0_bytesOf cX0_bytesOf 1 (some .int) :: ([] ++ ([]))
set_option maxHeartbeats 4000000 in
set_option maxRecDepth 100000 in
/-- Checks.bytesOf(10) -/
theorem cx_bo10 (l : Launch) (D : va_G) (cI cJ : ClassId) (ad : Nat → Nat) (g : Nat → Int32) (lg : Nat → Int64) (ar : Nat → Nat → Int32) (bk : Nat → Int64) (sz : Nat)  : Met l yX0_bytesOf ww_cx_bo10 { frames := 0, cells := 0, slots := 0, locals := 0 } (va_Pc [.int 10] (hk_B D [(cI, .int), (cJ, .long)] sz (xw cI cJ ad g lg ar bk))) (va_Qi (fun (r : Int32) (u : Unit) => r = 32) (fun u : Unit => hk_E D [(cI, .int), (cJ, .long)] (va_A (xw cI cJ ad g lg ar bk) sz) (xw cI cJ ad g lg ar bk)) (va_A (xw cI cJ ad g lg ar bk) sz)) 0 0 (va_A (xw cI cJ ad g lg ar bk) sz) := by
  refine hk_met (cc := cX0_bytesOf) (maxL := 1) (ret := (some .int)) (by decide) rfl (Nat.le_of_ble_eq_true rfl) ?_
  intro p e s m below meth c ls hx hb hr hml hown hts hlocks hin hA hw hl
  have hl : lv_has ls 1 [(0, .int 10)] := hl
  refine lv_iload_n hx hb dX0_bytesOf_0 rfl (lv_at hl 0 rfl) ?_
  refine lv_iconst (v := 1) hx hb dX0_bytesOf_1 (by decide) ?_
  refine lv_icmp_ne (tgt := 9) hx hb dX0_bytesOf_2 (by decide) (fun _ => ?_) (fun cc_1 => absurd cc_1 (by decide))
  refine lv_iload_n hx hb dX0_bytesOf_9 rfl (lv_at hl 0 rfl) ?_
  refine lv_iconst (v := 4) hx hb dX0_bytesOf_10 (by decide) ?_
  refine lv_icmp_ne (tgt := 19) hx hb dX0_bytesOf_11 (by decide) (fun _ => ?_) (fun cc_2 => absurd cc_2 (by decide))
  refine lv_iload_n hx hb dX0_bytesOf_19 rfl (lv_at hl 0 rfl) ?_
  refine lv_bipush (v := 10) hx hb dX0_bytesOf_20 (by decide) ?_
  refine lv_icmp_ne (tgt := 30) hx hb dX0_bytesOf_22 (by decide) (fun cc_3 => absurd (by decide) cc_3) (fun _ => ?_)
  refine lv_bipush (v := 32) hx hb dX0_bytesOf_25 (by decide) ?_
  refine lv_goto (tgt := 31) hx hb dX0_bytesOf_27 (by decide) ?_
  exact hk_iret (u := ()) hx hb hr hlocks (hw) (rfl) dX0_bytesOf_31

def ww_cx_boN : List Cond := Cond.code yX0_bytesOf cX0_bytesOf 1 (some .int) :: ([] ++ ([]))
set_option maxHeartbeats 4000000 in
set_option maxRecDepth 100000 in
/-- Checks.bytesOf, none -/
theorem cx_boN (l : Launch) (D : va_G) (cI cJ : ClassId) (ad : Nat → Nat) (g : Nat → Int32) (lg : Nat → Int64) (ar : Nat → Nat → Int32) (bk : Nat → Int64) (sz : Nat) (k : Int32) (h1 : k.toInt ≠ 1) (h4 : k.toInt ≠ 4) (h10 : k.toInt ≠ 10) : Met l yX0_bytesOf ww_cx_boN { frames := 0, cells := 0, slots := 0, locals := 0 } (va_Pc [.int k] (hk_B D [(cI, .int), (cJ, .long)] sz (xw cI cJ ad g lg ar bk))) (va_Qi (fun (r : Int32) (u : Unit) => r = 0) (fun u : Unit => hk_E D [(cI, .int), (cJ, .long)] (va_A (xw cI cJ ad g lg ar bk) sz) (xw cI cJ ad g lg ar bk)) (va_A (xw cI cJ ad g lg ar bk) sz)) 0 0 (va_A (xw cI cJ ad g lg ar bk) sz) := by
  refine hk_met (cc := cX0_bytesOf) (maxL := 1) (ret := (some .int)) (by decide) rfl (Nat.le_of_ble_eq_true rfl) ?_
  intro p e s m below meth c ls hx hb hr hml hown hts hlocks hin hA hw hl
  have hl : lv_has ls 1 [(0, .int k)] := hl
  refine lv_iload_n hx hb dX0_bytesOf_0 rfl (lv_at hl 0 rfl) ?_
  refine lv_iconst (v := 1) hx hb dX0_bytesOf_1 (by decide) ?_
  refine lv_icmp_ne (tgt := 9) hx hb dX0_bytesOf_2 (by decide) (fun _ => ?_) (fun cc_1 => absurd cc_1 (fun q => h1 (by rw [q]; decide)))
  refine lv_iload_n hx hb dX0_bytesOf_9 rfl (lv_at hl 0 rfl) ?_
  refine lv_iconst (v := 4) hx hb dX0_bytesOf_10 (by decide) ?_
  refine lv_icmp_ne (tgt := 19) hx hb dX0_bytesOf_11 (by decide) (fun _ => ?_) (fun cc_2 => absurd cc_2 (fun q => h4 (by rw [q]; decide)))
  refine lv_iload_n hx hb dX0_bytesOf_19 rfl (lv_at hl 0 rfl) ?_
  refine lv_bipush (v := 10) hx hb dX0_bytesOf_20 (by decide) ?_
  refine lv_icmp_ne (tgt := 30) hx hb dX0_bytesOf_22 (by decide) (fun _ => ?_) (fun cc_3 => absurd cc_3 (fun q => h10 (by rw [q]; decide)))
  refine lv_iconst (v := 0) hx hb dX0_bytesOf_30 (by decide) ?_
  exact hk_iret (u := ()) hx hb hr hlocks (hw) (rfl) dX0_bytesOf_31

def ww_cx_crcZ : List Cond := Cond.code yX0_crc32 cX0_crc32 6 (some .int) :: ([] ++ ([]))
set_option maxHeartbeats 4000000 in
set_option maxRecDepth 100000 in
/-- Checks.crc32 of nothing -/
theorem cx_crcZ (l : Launch) (D : va_G) (cI cJ : ClassId) (ad : Nat → Nat) (g : Nat → Int32) (lg : Nat → Int64) (ar : Nat → Nat → Int32) (bk : Nat → Int64) (sz : Nat)  : Met l yX0_crc32 ww_cx_crcZ { frames := 0, cells := 0, slots := 0, locals := 0 } (va_Pc [.ref (ad 4), .int 0, .int 0] (hk_B D [(cI, .int), (cJ, .long)] sz (xw cI cJ ad g lg ar bk))) (va_Qi (fun (r : Int32) (u : Unit) => r = 0) (fun u : Unit => hk_E D [(cI, .int), (cJ, .long)] (va_A (xw cI cJ ad g lg ar bk) sz) (xw cI cJ ad g lg ar bk)) (va_A (xw cI cJ ad g lg ar bk) sz)) 0 0 (va_A (xw cI cJ ad g lg ar bk) sz) := by
  refine hk_met (cc := cX0_crc32) (maxL := 6) (ret := (some .int)) (by decide) rfl (Nat.le_of_ble_eq_true rfl) ?_
  intro p e s m below meth c ls hx hb hr hml hown hts hlocks hin hA hw hl
  have hl : lv_has ls 6 [(0, .ref (ad 4)), (1, .int 0), (2, .int 0)] := hl
  refine lv_iconst (v := (-1)) hx hb dX0_crc32_0 (by decide) ?_
  refine lv_istore_n (lv' := [(3, .int (-1)), (0, .ref (ad 4)), (1, .int 0), (2, .int 0)]) hx hb dX0_crc32_1 rfl hl (by decide) rfl (fun ls hl => ?_)
  refine lv_iload_n hx hb dX0_crc32_2 rfl (lv_at hl 2 rfl) ?_
  refine lv_istore (lv' := [(4, .int 0), (3, .int (-1)), (0, .ref (ad 4)), (1, .int 0), (2, .int 0)]) hx hb dX0_crc32_3 hl (by decide) rfl (fun ls hl => ?_)
  refine lv_iload hx hb dX0_crc32_5 (lv_at hl 0 rfl) ?_
  refine lv_iload_n hx hb dX0_crc32_7 rfl (lv_at hl 4 rfl) ?_
  refine lv_icmp_ge (tgt := 54) hx hb dX0_crc32_8 (by decide) (fun _ => ?_) (fun cc_1 => absurd (by decide) cc_1)
  refine lv_iload_n hx hb dX0_crc32_54 rfl (lv_at hl 1 rfl) ?_
  refine lv_iconst (v := (-1)) hx hb dX0_crc32_55 (by decide) ?_
  refine lv_ixor hx hb dX0_crc32_56 ?_
  refine hk_topi 0 (by decide +kernel) ?_
  exact hk_iret (u := ()) hx hb hr hlocks (hw) (rfl) dX0_crc32_57

def ww_cx_crc64Z : List Cond := Cond.code yX0_crc64 cX0_crc64 7 (some .long) :: ([Cond.constantLong RX0 40 (-1)] ++ ([]))
set_option maxHeartbeats 4000000 in
set_option maxRecDepth 100000 in
/-- Checks.crc64 of nothing -/
theorem cx_crc64Z (l : Launch) (D : va_G) (cI cJ : ClassId) (ad : Nat → Nat) (g : Nat → Int32) (lg : Nat → Int64) (ar : Nat → Nat → Int32) (bk : Nat → Int64) (sz : Nat)  : Met l yX0_crc64 ww_cx_crc64Z { frames := 0, cells := 0, slots := 0, locals := 0 } (va_Pc [.ref (ad 4), .int 0, .int 0] (hk_B D [(cI, .int), (cJ, .long)] sz (xw cI cJ ad g lg ar bk))) (va_Ql (fun (r : Int64) (u : Unit) => r = 0) (fun u : Unit => hk_E D [(cI, .int), (cJ, .long)] (va_A (xw cI cJ ad g lg ar bk) sz) (xw cI cJ ad g lg ar bk)) (va_A (xw cI cJ ad g lg ar bk) sz)) 0 0 (va_A (xw cI cJ ad g lg ar bk) sz) := by
  refine hk_met (cc := cX0_crc64) (maxL := 7) (ret := (some .long)) (by decide) rfl (Nat.le_of_ble_eq_true rfl) ?_
  intro p e s m below meth c ls hx hb hr hml hown hts hlocks hin hA hw hl
  have hl : lv_has ls 7 [(0, .ref (ad 4)), (1, .int 0), (2, .int 0)] := hl
  refine lv_ldc2 (v := (-1)) hx hb hown (hts _ (List.mem_of_getElem? (i := 1) rfl)) dX0_crc64_0 ?_
  refine lv_lstore_n (lv' := [(3, .long (-1)), (0, .ref (ad 4)), (1, .int 0), (2, .int 0)]) hx hb dX0_crc64_3 rfl hl (by decide) rfl (fun ls hl => ?_)
  refine lv_iload_n hx hb dX0_crc64_4 rfl (lv_at hl 2 rfl) ?_
  refine lv_istore (lv' := [(5, .int 0), (3, .long (-1)), (0, .ref (ad 4)), (1, .int 0), (2, .int 0)]) hx hb dX0_crc64_5 hl (by decide) rfl (fun ls hl => ?_)
  refine lv_iload hx hb dX0_crc64_7 (lv_at hl 0 rfl) ?_
  refine lv_iload_n hx hb dX0_crc64_9 rfl (lv_at hl 4 rfl) ?_
  refine lv_icmp_ge (tgt := 58) hx hb dX0_crc64_10 (by decide) (fun _ => ?_) (fun cc_1 => absurd (by decide) cc_1)
  refine lv_lload_n hx hb dX0_crc64_58 rfl (lv_at hl 1 rfl) ?_
  refine lv_ldc2 (v := (-1)) hx hb hown (hts _ (List.mem_of_getElem? (i := 1) rfl)) dX0_crc64_59 ?_
  refine lv_lxor hx hb dX0_crc64_62 ?_
  refine hk_topl 0 (by decide +kernel) ?_
  exact hk_lret (u := ()) hx hb hr hlocks (hw) (rfl) dX0_crc64_63

def ww_cx_compute1 : List Cond := Cond.code yX0_compute cX0_compute 7 none :: ([Cond.fieldLink RX0 9 "LzmaChains$Checks" "words" "[I", Cond.methodLink RX0 21 yX0_crc32, Cond.static yX0_crc32, Cond.initialized RX0, Cond.code yX0_crc32 cX0_crc32 6 (some .int)] ++ (wsX00 ++ ([])))
set_option maxRecDepth 20000 in
theorem gw_cx_compute1_0 : GoodIn ww_cx_compute1 (va_wsS RX0 21 yX0_crc32 ww_cx_crcZ) := goodIn_r _ [2, 3, 4, 5] rfl (by decide +kernel)
set_option maxHeartbeats 4000000 in
set_option maxRecDepth 100000 in
/-- Checks.compute, CRC32 of nothing -/
theorem cx_compute1 (l : Launch) (D : va_G) (cI cJ : ClassId) (ad : Nat → Nat) (g : Nat → Int32) (lg : Nat → Int64) (ar : Nat → Nat → Int32) (bk : Nat → Int64) (sz : Nat)  : Met l yX0_compute ww_cx_compute1 { frames := 1, cells := 0, slots := 0, locals := 25 } (va_Pc [.ref (ad 11), .int 1, .ref (ad 4), .int 0, .int 0] (hk_B D [(cI, .int), (cJ, .long)] sz (xw cI cJ ad g lg ar bk))) (va_Qv (fun u : (Nat → Int32) => u 0 = 0) (fun u : (Nat → Int32) => hk_E D [(cI, .int), (cJ, .long)] (va_A (xw cI cJ ad g lg ar bk) sz) (xw cI cJ ad g lg (va_up ar 3 u) bk)) (va_A (xw cI cJ ad g lg ar bk) sz)) 0 0 (va_A (xw cI cJ ad g lg ar bk) sz) := by
  refine hk_met (cc := cX0_compute) (maxL := 7) (ret := none) (by decide) rfl (Nat.le_of_ble_eq_true rfl) ?_
  intro p e s m below meth c ls hx hb hr hml hown hts hlocks hin hA hw hl
  have iX0 : ∀ w ∈ wsX00, w ∈ ww_cx_compute1 := fun _ h => List.mem_cons_of_mem _ (List.mem_append_right _ (List.mem_append_left _ h))
  have hl : lv_has ls 7 [(0, .ref (ad 11)), (1, .int 1), (2, .ref (ad 4)), (3, .int 0), (4, .int 0)] := hl
  refine lv_iload_n hx hb dX0_compute_0 rfl (lv_at hl 1 rfl) ?_
  refine lv_iconst (v := 1) hx hb dX0_compute_1 (by decide) ?_
  refine lv_icmp_ne (tgt := 21) hx hb dX0_compute_2 (by decide) (fun cc_1 => absurd (by decide) cc_1) (fun _ => ?_)
  refine lv_aload_n hx hb dX0_compute_5 rfl (lv_at hl 0 rfl) ?_
  refine hk_get (ci := 3) (C := RX0) (T := TX0) (N := 3) (v := .ref (ad 12)) hx hb hts iX0 hown hw 11 rfl rfl 0 (by decide) (hts _ (List.mem_of_getElem? (i := 1) rfl)) rfl dX0_compute_6 ?_
  refine lv_iconst (v := 0) hx hb dX0_compute_9 (by decide) ?_
  refine lv_aload_n hx hb dX0_compute_10 rfl (lv_at hl 2 rfl) ?_
  refine lv_iload_n hx hb dX0_compute_11 rfl (lv_at hl 3 rfl) ?_
  refine lv_iload hx hb dX0_compute_12 (lv_at hl 4 rfl) ?_
  refine hk_Si (As := [.ref (ad 4), .int 0, .int 0]) (rest := [.int 0, .ref (ad 12)]) ⟨hx, hb, hml, hown, hts⟩ hw hA (cx_crcZ l D cI cJ ad g lg ar bk _) (va_cwS 3 hts gw_cx_compute1_0 rfl rfl rfl (by decide +kernel) ⟨Nat.le_of_ble_eq_true rfl, Nat.le_of_ble_eq_true rfl⟩) rfl hl.1 rfl (Nat.le_of_ble_eq_true rfl) dX0_compute_14 ⟨Nat.le_of_ble_eq_true rfl, Nat.le_of_ble_eq_true rfl⟩ (fun rr_2 uu_3 H locs hp_4 hw => ?_)
  subst hp_4
  have hw : hk_W D [(cI, .int), (cJ, .long)] _ s _ _ (xw cI cJ ad g lg ar bk) := hw
  refine hk_iast hx hb hw 12 0 rfl rfl (show ¬ (_ ∨ _) by decide) dX0_compute_17 (ws' := xw cI cJ ad g lg (va_up ar 3 (upd (ar 3) 0 0)) bk) rfl (fun H locs hw => ?_)
  refine lv_goto (tgt := 73) hx hb dX0_compute_18 (by decide) ?_
  exact hk_vret (u := (upd (ar 3) 0 0)) hx hb hr hlocks (hw) (rfl) dX0_compute_73

def ww_cx_compute4 : List Cond := Cond.code yX0_compute cX0_compute 7 none :: ([Cond.methodLink RX0 25 yX0_crc64, Cond.static yX0_crc64, Cond.initialized RX0, Cond.code yX0_crc64 cX0_crc64 7 (some .long), Cond.constantLong RX0 40 (-1), Cond.fieldLink RX0 9 "LzmaChains$Checks" "words" "[I"] ++ (wsX00 ++ ([])))
set_option maxRecDepth 20000 in
theorem gw_cx_compute4_0 : GoodIn ww_cx_compute4 (va_wsS RX0 25 yX0_crc64 ww_cx_crc64Z) := goodIn_r _ [1, 2, 3, 4, 5] rfl (by decide +kernel)
set_option maxHeartbeats 4000000 in
set_option maxRecDepth 100000 in
/-- Checks.compute, CRC64 of nothing -/
theorem cx_compute4 (l : Launch) (D : va_G) (cI cJ : ClassId) (ad : Nat → Nat) (g : Nat → Int32) (lg : Nat → Int64) (ar : Nat → Nat → Int32) (bk : Nat → Int64) (sz : Nat)  : Met l yX0_compute ww_cx_compute4 { frames := 1, cells := 0, slots := 0, locals := 26 } (va_Pc [.ref (ad 11), .int 4, .ref (ad 4), .int 0, .int 0] (hk_B D [(cI, .int), (cJ, .long)] sz (xw cI cJ ad g lg ar bk))) (va_Qv (fun u : (Nat → Int32) => u 0 = 0 ∧ u 1 = 0) (fun u : (Nat → Int32) => hk_E D [(cI, .int), (cJ, .long)] (va_A (xw cI cJ ad g lg ar bk) sz) (xw cI cJ ad g lg (va_up ar 3 u) bk)) (va_A (xw cI cJ ad g lg ar bk) sz)) 0 0 (va_A (xw cI cJ ad g lg ar bk) sz) := by
  refine hk_met (cc := cX0_compute) (maxL := 7) (ret := none) (by decide) rfl (Nat.le_of_ble_eq_true rfl) ?_
  intro p e s m below meth c ls hx hb hr hml hown hts hlocks hin hA hw hl
  have iX0 : ∀ w ∈ wsX00, w ∈ ww_cx_compute4 := fun _ h => List.mem_cons_of_mem _ (List.mem_append_right _ (List.mem_append_left _ h))
  have hl : lv_has ls 7 [(0, .ref (ad 11)), (1, .int 4), (2, .ref (ad 4)), (3, .int 0), (4, .int 0)] := hl
  refine lv_iload_n hx hb dX0_compute_0 rfl (lv_at hl 1 rfl) ?_
  refine lv_iconst (v := 1) hx hb dX0_compute_1 (by decide) ?_
  refine lv_icmp_ne (tgt := 21) hx hb dX0_compute_2 (by decide) (fun _ => ?_) (fun cc_1 => absurd cc_1 (by decide))
  refine lv_iload_n hx hb dX0_compute_21 rfl (lv_at hl 1 rfl) ?_
  refine lv_iconst (v := 4) hx hb dX0_compute_22 (by decide) ?_
  refine lv_icmp_ne (tgt := 59) hx hb dX0_compute_23 (by decide) (fun cc_2 => absurd (by decide) cc_2) (fun _ => ?_)
  refine lv_aload_n hx hb dX0_compute_26 rfl (lv_at hl 2 rfl) ?_
  refine lv_iload_n hx hb dX0_compute_27 rfl (lv_at hl 3 rfl) ?_
  refine lv_iload hx hb dX0_compute_28 (lv_at hl 4 rfl) ?_
  refine hk_Sl (As := [.ref (ad 4), .int 0, .int 0]) (rest := []) ⟨hx, hb, hml, hown, hts⟩ hw hA (cx_crc64Z l D cI cJ ad g lg ar bk _) (va_cwS 3 hts gw_cx_compute4_0 rfl rfl rfl (by decide +kernel) ⟨Nat.le_of_ble_eq_true rfl, Nat.le_of_ble_eq_true rfl⟩) rfl hl.1 rfl (Nat.le_of_ble_eq_true rfl) dX0_compute_30 ⟨Nat.le_of_ble_eq_true rfl, Nat.le_of_ble_eq_true rfl⟩ (fun rr_3 uu_4 H locs hp_5 hw => ?_)
  subst hp_5
  have hw : hk_W D [(cI, .int), (cJ, .long)] _ s _ _ (xw cI cJ ad g lg ar bk) := hw
  refine lv_lstore (lv' := [(5, .long 0), (0, .ref (ad 11)), (1, .int 4), (2, .ref (ad 4)), (3, .int 0), (4, .int 0)]) hx hb dX0_compute_33 hl (by decide) rfl (fun ls hl => ?_)
  refine lv_aload_n hx hb dX0_compute_35 rfl (lv_at hl 1 rfl) ?_
  refine hk_get (ci := 3) (C := RX0) (T := TX0) (N := 3) (v := .ref (ad 12)) hx hb hts iX0 hown hw 11 rfl rfl 0 (by decide) (hts _ (List.mem_of_getElem? (i := 6) rfl)) rfl dX0_compute_36 ?_
  refine lv_iconst (v := 0) hx hb dX0_compute_39 (by decide) ?_
  refine lv_lload hx hb dX0_compute_40 (lv_at hl 0 rfl) ?_
  refine lv_l2i (v := (0 : Int64).toInt32) hx hb dX0_compute_42 rfl ?_
  refine hk_topi 0 (by decide +kernel) ?_
  refine hk_iast hx hb hw 12 0 rfl rfl (show ¬ (_ ∨ _) by decide) dX0_compute_43 (ws' := xw cI cJ ad g lg (va_up ar 3 (upd (ar 3) 0 0)) bk) rfl (fun H locs hw => ?_)
  refine lv_aload_n hx hb dX0_compute_44 rfl (lv_at hl 1 rfl) ?_
  refine hk_get (ci := 3) (C := RX0) (T := TX0) (N := 3) (v := .ref (ad 12)) hx hb hts iX0 hown hw 11 rfl rfl 0 (by decide) (hts _ (List.mem_of_getElem? (i := 6) rfl)) rfl dX0_compute_45 ?_
  refine lv_iconst (v := 1) hx hb dX0_compute_48 (by decide) ?_
  refine lv_lload hx hb dX0_compute_49 (lv_at hl 0 rfl) ?_
  refine lv_bipush (v := 32) hx hb dX0_compute_51 (by decide) ?_
  refine lv_lushr (v := ((0 : Int64).toUInt64 >>> ((32 : Int32).toInt64.toUInt64 &&& Int64.toUInt64 63)).toInt64) hx hb dX0_compute_53 rfl ?_
  refine hk_topl 0 (by decide +kernel) ?_
  refine lv_l2i (v := (0 : Int64).toInt32) hx hb dX0_compute_54 rfl ?_
  refine hk_topi 0 (by decide +kernel) ?_
  refine hk_iast hx hb hw 12 0 rfl rfl (show ¬ (_ ∨ _) by decide) dX0_compute_55 (ws' := xw cI cJ ad g lg (va_up ar 3 (upd (upd (ar 3) 0 0) 1 0)) bk) rfl (fun H locs hw => ?_)
  refine lv_goto (tgt := 73) hx hb dX0_compute_56 (by decide) ?_
  exact hk_vret (u := (upd (upd (ar 3) 0 0) 1 0)) hx hb hr hlocks (hw) (⟨rfl, rfl⟩) dX0_compute_73

def ww_cx_compute10 : List Cond := Cond.code yX0_compute cX0_compute 7 none :: ([Cond.methodLink RX0 29 yX0_sha256, Cond.instanceMethod yX0_sha256, Cond.selects RX0 yX0_sha256 yX0_sha256, Cond.initialized RX0, Cond.code yX0_sha256 cX0_sha256 10 none, Cond.fieldLink RX0 44 "LzmaChains$Checks" "SHA_START" "[I", Cond.fieldLink RX0 9 "LzmaChains$Checks" "words" "[I", Cond.methodLink RX0 47 arraycopyName, Cond.native arraycopyName, Cond.static arraycopyName, Cond.initialized "java/lang/System", Cond.fieldLink RX0 18 "LzmaChains$Checks" "schedule" "[I", Cond.methodLink RX0 57 yX0_mixBlock, Cond.instanceMethod yX0_mixBlock, Cond.selects RX0 yX0_mixBlock yX0_mixBlock, Cond.code yX0_mixBlock cX0_mixBlock 6 none, Cond.fieldLink RX0 15 "LzmaChains$Checks" "mixed" "[I", Cond.fieldLink RX0 66 "LzmaChains$Checks" "SHA_KEYS" "[I", Cond.methodLink RX0 69 yX0_mixRound, Cond.instanceMethod yX0_mixRound, Cond.selects RX0 yX0_mixRound yX0_mixRound, Cond.code yX0_mixRound cX0_mixRound 10 none, Cond.methodLink RX0 60 yJ6_rotateRight_7cf53, Cond.static yJ6_rotateRight_7cf53, Cond.initialized RJ6, Cond.code yJ6_rotateRight_7cf53 cJ6_rotateRight_7cf53 2 (some .int), Cond.methodLink RX0 53 yX0_shaByte, Cond.static yX0_shaByte, Cond.code yX0_shaByte cX0_shaByte 4 (some .int)] ++ (wsX00 ++ ([])))
set_option maxRecDepth 20000 in
theorem gw_cx_compute10_0 : GoodIn ww_cx_compute10 (wsV RX0 29 RX0 yX0_sha256 ww_cx_sha256) := goodIn_r _ [1, 2, 3, 4, 5, 6, 7, 8, 9, 10, 11, 12, 13, 14, 15, 4, 16, 17, 18, 19, 20, 21, 22, 23, 24, 25, 26, 27, 28, 29, 30, 31, 32] rfl (by decide +kernel)
set_option maxHeartbeats 4000000 in
set_option maxRecDepth 100000 in
/-- Checks.compute, SHA-256 of nothing -/
theorem cx_compute10 (l : Launch) (t3 : Nat × Nat × Nat) (D : va_G) (cI cJ : ClassId) (ad : Nat → Nat) (g : Nat → Int32) (lg : Nat → Int64) (ar : Nat → Nat → Int32) (bk : Nat → Int64) (sz : Nat)  : Met l yX0_compute ww_cx_compute10 { frames := 4, cells := 0, slots := 0, locals := 104 } (va_Pc [.ref (ad 11), .int 10, .ref (ad 4), .int 0, .int 0] (hk_BY t3 D [(cI, .int), (cJ, .long)] sz (xw cI cJ ad g lg ar bk))) (va_Qv (fun u : (Nat → Int32) × (Nat → Int32) × (Nat → Int32) => ∀ j, j < 8 → u.1 j = hs_O j) (fun u : (Nat → Int32) × (Nat → Int32) × (Nat → Int32) => hk_E D [(cI, .int), (cJ, .long)] (va_A (xw cI cJ ad g lg ar bk) sz) (xw cI cJ ad g lg (va_up (va_up (va_up ar 3 u.1) 5 u.2.2) 4 u.2.1) bk)) (va_A (xw cI cJ ad g lg ar bk) sz)) 0 0 (va_A (xw cI cJ ad g lg ar bk) sz) := by
  refine hk_smet (t3 := t3) (cc := cX0_compute) (maxL := 7) (ret := none) (by decide) rfl (Nat.le_of_ble_eq_true rfl) ?_
  intro p e s m below meth c ls hx hb hr hml hown hts hlocks hin hA hZ hw hl
  have iX0 : ∀ w ∈ wsX00, w ∈ ww_cx_compute10 := fun _ h => List.mem_cons_of_mem _ (List.mem_append_right _ (List.mem_append_left _ h))
  have hl : lv_has ls 7 [(0, .ref (ad 11)), (1, .int 10), (2, .ref (ad 4)), (3, .int 0), (4, .int 0)] := hl
  refine lv_iload_n hx hb dX0_compute_0 rfl (lv_at hl 1 rfl) ?_
  refine lv_iconst (v := 1) hx hb dX0_compute_1 (by decide) ?_
  refine lv_icmp_ne (tgt := 21) hx hb dX0_compute_2 (by decide) (fun _ => ?_) (fun cc_1 => absurd cc_1 (by decide))
  refine lv_iload_n hx hb dX0_compute_21 rfl (lv_at hl 1 rfl) ?_
  refine lv_iconst (v := 4) hx hb dX0_compute_22 (by decide) ?_
  refine lv_icmp_ne (tgt := 59) hx hb dX0_compute_23 (by decide) (fun _ => ?_) (fun cc_2 => absurd cc_2 (by decide))
  refine lv_iload_n hx hb dX0_compute_59 rfl (lv_at hl 1 rfl) ?_
  refine lv_bipush (v := 10) hx hb dX0_compute_60 (by decide) ?_
  refine lv_icmp_ne (tgt := 73) hx hb dX0_compute_62 (by decide) (fun cc_3 => absurd (by decide) cc_3) (fun _ => ?_)
  refine lv_aload_n hx hb dX0_compute_65 rfl (lv_at hl 0 rfl) ?_
  refine lv_aload_n hx hb dX0_compute_66 rfl (lv_at hl 2 rfl) ?_
  refine lv_iload_n hx hb dX0_compute_67 rfl (lv_at hl 3 rfl) ?_
  refine lv_iload hx hb dX0_compute_68 (lv_at hl 4 rfl) ?_
  refine hk_ZVv (As := [.ref (ad 4), .int 0, .int 0]) (rest := []) ⟨hx, hb, hml, hown, hts⟩ hZ hw hA (cx_sha256 l t3 D cI cJ ad g lg ar bk _) (cwV 3 hts gw_cx_compute10_0 rfl rfl rfl (by decide +kernel) ⟨Nat.le_of_ble_eq_true rfl, Nat.le_of_ble_eq_true rfl⟩) 11 (ci := 3) (T := TX0) (N := 3) rfl rfl rfl hl.1 rfl (Nat.le_of_ble_eq_true rfl) dX0_compute_70 ⟨Nat.le_of_ble_eq_true rfl, Nat.le_of_ble_eq_true rfl⟩ (fun uu_5 H locs hp_6 hw => ?_)
  have hO := hp_6
  have hw : hk_W D [(cI, .int), (cJ, .long)] _ s _ _ (xw cI cJ ad g lg (va_up (va_up (va_up ar 3 uu_5.1) 5 uu_5.2.2) 4 uu_5.2.1) bk) := hw
  exact hk_vret (u := (uu_5.1, uu_5.2.1, uu_5.2.2)) hx hb hr hlocks (show hk_W D [(cI, .int), (cJ, .long)] _ s _ _ (xw cI cJ ad g lg (va_up (va_up (va_up ar 3 ((uu_5.1, uu_5.2.1, uu_5.2.2).1)) 5 ((uu_5.1, uu_5.2.1, uu_5.2.2).2.2)) 4 ((uu_5.1, uu_5.2.1, uu_5.2.2).2.1)) bk) from hw) (hO) dX0_compute_73

def ww_ct_check1 : List Cond := Cond.code yX11_check cX11_check 3 (some .int) :: ([Cond.methodLink RX11 235 yX0_isKind, Cond.static yX0_isKind, Cond.initialized RX0, Cond.code yX0_isKind cX0_isKind 1 (some .boolean), Cond.methodLink RX11 239 yX0_bytesOf, Cond.static yX0_bytesOf, Cond.code yX0_bytesOf cX0_bytesOf 1 (some .int), Cond.fieldLink RX11 54 "LzmaChains" "checks" "LLzmaChains$Checks;", Cond.fieldLink RX11 29 "LzmaChains" "output" "LLzmaChains$Row;", Cond.fieldLink RX11 100 "LzmaChains$Row" "size" "I", Cond.methodLink RX11 242 yX0_compute, Cond.instanceMethod yX0_compute, Cond.selects RX0 yX0_compute yX0_compute, Cond.code yX0_compute cX0_compute 7 none, Cond.fieldLink RX0 9 "LzmaChains$Checks" "words" "[I", Cond.methodLink RX0 21 yX0_crc32, Cond.static yX0_crc32, Cond.code yX0_crc32 cX0_crc32 6 (some .int), Cond.fieldLink RX11 246 "LzmaChains$Checks" "words" "[I"] ++ (wsX110 ++ (wsX90 ++ (wsX00 ++ ([])))))
set_option maxRecDepth 20000 in
theorem gw_ct_check1_0 : GoodIn ww_ct_check1 (va_wsS RX11 235 yX0_isKind ww_cx_ik1) := goodIn_r _ [1, 2, 3, 4] rfl (by decide +kernel)
set_option maxRecDepth 20000 in
theorem gw_ct_check1_1 : GoodIn ww_ct_check1 (va_wsS RX11 239 yX0_bytesOf ww_cx_bo1) := goodIn_r _ [5, 6, 3, 7] rfl (by decide +kernel)
set_option maxRecDepth 20000 in
theorem gw_ct_check1_2 : GoodIn ww_ct_check1 (wsV RX11 242 RX0 yX0_compute ww_cx_compute1) := goodIn_r _ [11, 12, 13, 3, 14, 15, 16, 17, 3, 18, 33, 34, 35] rfl (by decide +kernel)
set_option maxHeartbeats 4000000 in
set_option maxRecDepth 100000 in
/-- check(1, i) on a new object -/
theorem ct_check1 (l : Launch) (D : va_G) (cI cJ : ClassId) (ad : Nat → Nat) (fm : Int32) (ar : Nat → Nat → Int32) (bk : Nat → Int64) (sz : Nat) (i : Int32) : Met l yX11_check ww_ct_check1 { frames := 2, cells := 0, slots := 0, locals := 51 } (va_Pc [.ref (ad 0), .int 1, .int i] (hk_B D [(cI, .int), (cJ, .long)] sz (xw cI cJ ad (xf_g fm) xf_l ar bk))) (va_Qi (fun (r : Int32) (u : (Nat → Int32) × (Nat → Int64) × (Nat → Nat → Int32) × (Nat → Int64)) => r = hk_ckv 1 i) (fun u : (Nat → Int32) × (Nat → Int64) × (Nat → Nat → Int32) × (Nat → Int64) => hk_E D [(cI, .int), (cJ, .long)] (va_A (xw cI cJ ad (xf_g fm) xf_l ar bk) sz) (xw cI cJ ad u.1 u.2.1 u.2.2.1 u.2.2.2)) (va_A (xw cI cJ ad (xf_g fm) xf_l ar bk) sz)) 0 0 (va_A (xw cI cJ ad (xf_g fm) xf_l ar bk) sz) := by
  refine hk_met (cc := cX11_check) (maxL := 3) (ret := (some .int)) (by decide) rfl (Nat.le_of_ble_eq_true rfl) ?_
  intro p e s m below meth c ls hx hb hr hml hown hts hlocks hin hA hw hl
  have iX11 : ∀ w ∈ wsX110, w ∈ ww_ct_check1 := fun _ h => List.mem_cons_of_mem _ (List.mem_append_right _ (List.mem_append_left _ h))
  have iX9 : ∀ w ∈ wsX90, w ∈ ww_ct_check1 := fun _ h => List.mem_cons_of_mem _ (List.mem_append_right _ (List.mem_append_right _ (List.mem_append_left _ h)))
  have iX0 : ∀ w ∈ wsX00, w ∈ ww_ct_check1 := fun _ h => List.mem_cons_of_mem _ (List.mem_append_right _ (List.mem_append_right _ (List.mem_append_right _ (List.mem_append_left _ h))))
  have hl : lv_has ls 3 [(0, .ref (ad 0)), (1, .int 1), (2, .int i)] := hl
  refine lv_iload_n hx hb dX11_check_0 rfl (lv_at hl 1 rfl) ?_
  refine hk_Si (As := [.int 1]) (rest := []) ⟨hx, hb, hml, hown, hts⟩ hw hA (cx_ik1 l D cI cJ ad (xf_g fm) xf_l ar bk _) (va_cwS 1 hts gw_ct_check1_0 rfl rfl rfl (by decide +kernel) ⟨Nat.le_of_ble_eq_true rfl, Nat.le_of_ble_eq_true rfl⟩) rfl hl.1 rfl (Nat.le_of_ble_eq_true rfl) dX11_check_1 ⟨Nat.le_of_ble_eq_true rfl, Nat.le_of_ble_eq_true rfl⟩ (fun rr_1 uu_2 H locs hp_3 hw => ?_)
  subst hp_3
  have hw : hk_W D [(cI, .int), (cJ, .long)] _ s _ _ (xw cI cJ ad (xf_g fm) xf_l ar bk) := hw
  refine lv_if_eq (tgt := 21) hx hb dX11_check_4 (by decide) (fun cc_4 => absurd cc_4 (by decide)) (fun _ => ?_)
  refine lv_iload_n hx hb dX11_check_7 rfl (lv_at hl 2 rfl) ?_
  refine lv_if_lt (tgt := 21) hx hb dX11_check_8 (by decide) (fun cc_5 => ?_) (fun cc_5 => ?_)
  · refine lv_iconst (v := (-1)) hx hb dX11_check_21 (by decide) ?_
    exact hk_iret (u := ((xf_g fm), xf_l, ar, bk)) hx hb hr hlocks (hw) (hk_ck1 (show ¬ i.toInt = 0 by simp only [Int32.lt_iff_toInt_lt, Int32.le_iff_toInt_le, ← Int32.toInt_inj, hk_t0, hk_t1, hk_t2, hk_t3, hk_t4, hk_t5, hk_t6, hk_t7, hk_t8, hk_t9, hk_t10, hk_t11, hk_t12, hk_t13, hk_t14, hk_t15, hk_t16, hk_t17, hk_t18, hk_t20, hk_t32, hk_tm1, hk_t256, hk_t1500, hk_t4096, hk_t2000, hk_t3000, hk_t512, hk_t1024, true_and, and_true, false_and, and_false, true_or, or_true, false_or, or_false, not_true_eq_false, not_false_eq_true] at cc_5 ⊢; omega)) dX11_check_22
  · refine lv_iload_n hx hb dX11_check_11 rfl (lv_at hl 2 rfl) ?_
    refine lv_iload_n hx hb dX11_check_12 rfl (lv_at hl 1 rfl) ?_
    refine hk_Si (As := [.int 1]) (rest := [.int i]) ⟨hx, hb, hml, hown, hts⟩ hw hA (cx_bo1 l D cI cJ ad (xf_g fm) xf_l ar bk _) (va_cwS 1 hts gw_ct_check1_1 rfl rfl rfl (by decide +kernel) ⟨Nat.le_of_ble_eq_true rfl, Nat.le_of_ble_eq_true rfl⟩) rfl hl.1 rfl (Nat.le_of_ble_eq_true rfl) dX11_check_13 ⟨Nat.le_of_ble_eq_true rfl, Nat.le_of_ble_eq_true rfl⟩ (fun rr_6 uu_7 H locs hp_8 hw => ?_)
    subst hp_8
    have hw : hk_W D [(cI, .int), (cJ, .long)] _ s _ _ (xw cI cJ ad (xf_g fm) xf_l ar bk) := hw
    refine lv_iconst (v := 4) hx hb dX11_check_16 (by decide) ?_
    refine lv_idiv hx hb dX11_check_17 (by decide) ?_
    refine hk_topi 1 (by decide +kernel) ?_
    refine lv_icmp_lt (tgt := 23) hx hb dX11_check_18 (by decide) (fun cc_9 => ?_) (fun cc_9 => ?_)
    · rcases (show i.toInt = 0 by simp only [Int32.lt_iff_toInt_lt, Int32.le_iff_toInt_le, ← Int32.toInt_inj, hk_t0, hk_t1, hk_t2, hk_t3, hk_t4, hk_t5, hk_t6, hk_t7, hk_t8, hk_t9, hk_t10, hk_t11, hk_t12, hk_t13, hk_t14, hk_t15, hk_t16, hk_t17, hk_t18, hk_t20, hk_t32, hk_tm1, hk_t256, hk_t1500, hk_t4096, hk_t2000, hk_t3000, hk_t512, hk_t1024, true_and, and_true, false_and, and_false, true_or, or_true, false_or, or_false, not_true_eq_false, not_false_eq_true] at cc_5 cc_9 ⊢; omega) with q
      · obtain rfl : i = 0 := Int32.toInt_inj.mp (q.trans (by decide))
        refine lv_aload_n hx hb dX11_check_23 rfl (lv_at hl 0 rfl) ?_
        refine hk_get (ci := 14) (C := RX11) (T := TX11) (N := 11) (v := .ref (ad 11)) hx hb hts iX11 hown hw 0 rfl rfl 5 (by decide) (hts _ (List.mem_of_getElem? (i := 8) rfl)) rfl dX11_check_24 ?_
        refine lv_iload_n hx hb dX11_check_27 rfl (lv_at hl 1 rfl) ?_
        refine lv_aload_n hx hb dX11_check_28 rfl (lv_at hl 0 rfl) ?_
        refine hk_get (ci := 14) (C := RX11) (T := TX11) (N := 11) (v := .ref (ad 4)) hx hb hts iX11 hown hw 0 rfl rfl 3 (by decide) (hts _ (List.mem_of_getElem? (i := 9) rfl)) rfl dX11_check_29 ?_
        refine lv_iconst (v := 0) hx hb dX11_check_32 (by decide) ?_
        refine lv_aload_n hx hb dX11_check_33 rfl (lv_at hl 0 rfl) ?_
        refine hk_get (ci := 14) (C := RX11) (T := TX11) (N := 11) (v := .ref (ad 4)) hx hb hts iX11 hown hw 0 rfl rfl 3 (by decide) (hts _ (List.mem_of_getElem? (i := 9) rfl)) rfl dX11_check_34 ?_
        refine hk_get (ci := 12) (C := RX9) (T := TX9) (N := 2) (v := .int 0) hx hb hts iX9 hown hw 4 rfl rfl 1 (by decide) (hts _ (List.mem_of_getElem? (i := 10) rfl)) rfl dX11_check_37 ?_
        refine hk_Vv (As := [.int 1, .ref (ad 4), .int 0, .int 0]) (rest := []) ⟨hx, hb, hml, hown, hts⟩ hw hA (cx_compute1 l D cI cJ ad (xf_g fm) xf_l ar bk _) (cwV 4 hts gw_ct_check1_2 rfl rfl rfl (by decide +kernel) ⟨Nat.le_of_ble_eq_true rfl, Nat.le_of_ble_eq_true rfl⟩) 11 (ci := 3) (T := TX0) (N := 3) rfl rfl rfl hl.1 rfl (Nat.le_of_ble_eq_true rfl) dX11_check_40 ⟨Nat.le_of_ble_eq_true rfl, Nat.le_of_ble_eq_true rfl⟩ (fun uu_11 H locs hp_12 hw => ?_)
        have hC := hp_12
        have hw : hk_W D [(cI, .int), (cJ, .long)] _ s _ _ (xw cI cJ ad (xf_g fm) xf_l (va_up ar 3 uu_11) bk) := hw
        refine lv_aload_n hx hb dX11_check_43 rfl (lv_at hl 0 rfl) ?_
        refine hk_get (ci := 14) (C := RX11) (T := TX11) (N := 11) (v := .ref (ad 11)) hx hb hts iX11 hown hw 0 rfl rfl 5 (by decide) (hts _ (List.mem_of_getElem? (i := 8) rfl)) rfl dX11_check_44 ?_
        refine hk_get (ci := 3) (C := RX0) (T := TX0) (N := 3) (v := .ref (ad 12)) hx hb hts iX0 hown hw 11 rfl rfl 0 (by decide) (hts _ (List.mem_of_getElem? (i := 19) rfl)) rfl dX11_check_47 ?_
        refine lv_iload_n hx hb dX11_check_50 rfl (lv_at hl 2 rfl) ?_
        refine lv_bipush (v := 7) hx hb dX11_check_51 (by decide) ?_
        refine lv_iand hx hb dX11_check_53 ?_
        refine hk_topi 0 (by decide +kernel) ?_
        refine hk_iald (v := 0) hx hb hw 12 0 rfl rfl (show ¬ (_ ∨ _) by decide) dX11_check_54 hC ?_
        exact hk_iret (u := ((xf_g fm), xf_l, (va_up ar 3 uu_11), bk)) hx hb hr hlocks (hw) (by decide +kernel) dX11_check_55
    · refine lv_iconst (v := (-1)) hx hb dX11_check_21 (by decide) ?_
      exact hk_iret (u := ((xf_g fm), xf_l, ar, bk)) hx hb hr hlocks (hw) (hk_ck1 (show ¬ i.toInt = 0 by simp only [Int32.lt_iff_toInt_lt, Int32.le_iff_toInt_le, ← Int32.toInt_inj, hk_t0, hk_t1, hk_t2, hk_t3, hk_t4, hk_t5, hk_t6, hk_t7, hk_t8, hk_t9, hk_t10, hk_t11, hk_t12, hk_t13, hk_t14, hk_t15, hk_t16, hk_t17, hk_t18, hk_t20, hk_t32, hk_tm1, hk_t256, hk_t1500, hk_t4096, hk_t2000, hk_t3000, hk_t512, hk_t1024, true_and, and_true, false_and, and_false, true_or, or_true, false_or, or_false, not_true_eq_false, not_false_eq_true] at cc_5 cc_9 ⊢; omega)) dX11_check_22

def ww_ct_check4 : List Cond := Cond.code yX11_check cX11_check 3 (some .int) :: ([Cond.methodLink RX11 235 yX0_isKind, Cond.static yX0_isKind, Cond.initialized RX0, Cond.code yX0_isKind cX0_isKind 1 (some .boolean), Cond.methodLink RX11 239 yX0_bytesOf, Cond.static yX0_bytesOf, Cond.code yX0_bytesOf cX0_bytesOf 1 (some .int), Cond.fieldLink RX11 54 "LzmaChains" "checks" "LLzmaChains$Checks;", Cond.fieldLink RX11 29 "LzmaChains" "output" "LLzmaChains$Row;", Cond.fieldLink RX11 100 "LzmaChains$Row" "size" "I", Cond.methodLink RX11 242 yX0_compute, Cond.instanceMethod yX0_compute, Cond.selects RX0 yX0_compute yX0_compute, Cond.code yX0_compute cX0_compute 7 none, Cond.methodLink RX0 25 yX0_crc64, Cond.static yX0_crc64, Cond.code yX0_crc64 cX0_crc64 7 (some .long), Cond.constantLong RX0 40 (-1), Cond.fieldLink RX0 9 "LzmaChains$Checks" "words" "[I", Cond.fieldLink RX11 246 "LzmaChains$Checks" "words" "[I"] ++ (wsX110 ++ (wsX90 ++ (wsX00 ++ ([])))))
set_option maxRecDepth 20000 in
theorem gw_ct_check4_0 : GoodIn ww_ct_check4 (va_wsS RX11 235 yX0_isKind ww_cx_ik4) := goodIn_r _ [1, 2, 3, 4] rfl (by decide +kernel)
set_option maxRecDepth 20000 in
theorem gw_ct_check4_1 : GoodIn ww_ct_check4 (va_wsS RX11 239 yX0_bytesOf ww_cx_bo4) := goodIn_r _ [5, 6, 3, 7] rfl (by decide +kernel)
set_option maxRecDepth 20000 in
theorem gw_ct_check4_2 : GoodIn ww_ct_check4 (wsV RX11 242 RX0 yX0_compute ww_cx_compute4) := goodIn_r _ [11, 12, 13, 3, 14, 15, 16, 3, 17, 18, 19, 34, 35, 36] rfl (by decide +kernel)
set_option maxHeartbeats 4000000 in
set_option maxRecDepth 100000 in
/-- check(4, i) on a new object -/
theorem ct_check4 (l : Launch) (D : va_G) (cI cJ : ClassId) (ad : Nat → Nat) (fm : Int32) (ar : Nat → Nat → Int32) (bk : Nat → Int64) (sz : Nat) (i : Int32) : Met l yX11_check ww_ct_check4 { frames := 2, cells := 0, slots := 0, locals := 52 } (va_Pc [.ref (ad 0), .int 4, .int i] (hk_B D [(cI, .int), (cJ, .long)] sz (xw cI cJ ad (xf_g fm) xf_l ar bk))) (va_Qi (fun (r : Int32) (u : (Nat → Int32) × (Nat → Int64) × (Nat → Nat → Int32) × (Nat → Int64)) => r = hk_ckv 4 i) (fun u : (Nat → Int32) × (Nat → Int64) × (Nat → Nat → Int32) × (Nat → Int64) => hk_E D [(cI, .int), (cJ, .long)] (va_A (xw cI cJ ad (xf_g fm) xf_l ar bk) sz) (xw cI cJ ad u.1 u.2.1 u.2.2.1 u.2.2.2)) (va_A (xw cI cJ ad (xf_g fm) xf_l ar bk) sz)) 0 0 (va_A (xw cI cJ ad (xf_g fm) xf_l ar bk) sz) := by
  refine hk_met (cc := cX11_check) (maxL := 3) (ret := (some .int)) (by decide) rfl (Nat.le_of_ble_eq_true rfl) ?_
  intro p e s m below meth c ls hx hb hr hml hown hts hlocks hin hA hw hl
  have iX11 : ∀ w ∈ wsX110, w ∈ ww_ct_check4 := fun _ h => List.mem_cons_of_mem _ (List.mem_append_right _ (List.mem_append_left _ h))
  have iX9 : ∀ w ∈ wsX90, w ∈ ww_ct_check4 := fun _ h => List.mem_cons_of_mem _ (List.mem_append_right _ (List.mem_append_right _ (List.mem_append_left _ h)))
  have iX0 : ∀ w ∈ wsX00, w ∈ ww_ct_check4 := fun _ h => List.mem_cons_of_mem _ (List.mem_append_right _ (List.mem_append_right _ (List.mem_append_right _ (List.mem_append_left _ h))))
  have hl : lv_has ls 3 [(0, .ref (ad 0)), (1, .int 4), (2, .int i)] := hl
  refine lv_iload_n hx hb dX11_check_0 rfl (lv_at hl 1 rfl) ?_
  refine hk_Si (As := [.int 4]) (rest := []) ⟨hx, hb, hml, hown, hts⟩ hw hA (cx_ik4 l D cI cJ ad (xf_g fm) xf_l ar bk _) (va_cwS 1 hts gw_ct_check4_0 rfl rfl rfl (by decide +kernel) ⟨Nat.le_of_ble_eq_true rfl, Nat.le_of_ble_eq_true rfl⟩) rfl hl.1 rfl (Nat.le_of_ble_eq_true rfl) dX11_check_1 ⟨Nat.le_of_ble_eq_true rfl, Nat.le_of_ble_eq_true rfl⟩ (fun rr_1 uu_2 H locs hp_3 hw => ?_)
  subst hp_3
  have hw : hk_W D [(cI, .int), (cJ, .long)] _ s _ _ (xw cI cJ ad (xf_g fm) xf_l ar bk) := hw
  refine lv_if_eq (tgt := 21) hx hb dX11_check_4 (by decide) (fun cc_4 => absurd cc_4 (by decide)) (fun _ => ?_)
  refine lv_iload_n hx hb dX11_check_7 rfl (lv_at hl 2 rfl) ?_
  refine lv_if_lt (tgt := 21) hx hb dX11_check_8 (by decide) (fun cc_5 => ?_) (fun cc_5 => ?_)
  · refine lv_iconst (v := (-1)) hx hb dX11_check_21 (by decide) ?_
    exact hk_iret (u := ((xf_g fm), xf_l, ar, bk)) hx hb hr hlocks (hw) (hk_ck4 (show ¬ i.toInt = 0 by simp only [Int32.lt_iff_toInt_lt, Int32.le_iff_toInt_le, ← Int32.toInt_inj, hk_t0, hk_t1, hk_t2, hk_t3, hk_t4, hk_t5, hk_t6, hk_t7, hk_t8, hk_t9, hk_t10, hk_t11, hk_t12, hk_t13, hk_t14, hk_t15, hk_t16, hk_t17, hk_t18, hk_t20, hk_t32, hk_tm1, hk_t256, hk_t1500, hk_t4096, hk_t2000, hk_t3000, hk_t512, hk_t1024, true_and, and_true, false_and, and_false, true_or, or_true, false_or, or_false, not_true_eq_false, not_false_eq_true] at cc_5 ⊢; omega) (show ¬ i.toInt = 1 by simp only [Int32.lt_iff_toInt_lt, Int32.le_iff_toInt_le, ← Int32.toInt_inj, hk_t0, hk_t1, hk_t2, hk_t3, hk_t4, hk_t5, hk_t6, hk_t7, hk_t8, hk_t9, hk_t10, hk_t11, hk_t12, hk_t13, hk_t14, hk_t15, hk_t16, hk_t17, hk_t18, hk_t20, hk_t32, hk_tm1, hk_t256, hk_t1500, hk_t4096, hk_t2000, hk_t3000, hk_t512, hk_t1024, true_and, and_true, false_and, and_false, true_or, or_true, false_or, or_false, not_true_eq_false, not_false_eq_true] at cc_5 ⊢; omega)) dX11_check_22
  · refine lv_iload_n hx hb dX11_check_11 rfl (lv_at hl 2 rfl) ?_
    refine lv_iload_n hx hb dX11_check_12 rfl (lv_at hl 1 rfl) ?_
    refine hk_Si (As := [.int 4]) (rest := [.int i]) ⟨hx, hb, hml, hown, hts⟩ hw hA (cx_bo4 l D cI cJ ad (xf_g fm) xf_l ar bk _) (va_cwS 1 hts gw_ct_check4_1 rfl rfl rfl (by decide +kernel) ⟨Nat.le_of_ble_eq_true rfl, Nat.le_of_ble_eq_true rfl⟩) rfl hl.1 rfl (Nat.le_of_ble_eq_true rfl) dX11_check_13 ⟨Nat.le_of_ble_eq_true rfl, Nat.le_of_ble_eq_true rfl⟩ (fun rr_6 uu_7 H locs hp_8 hw => ?_)
    subst hp_8
    have hw : hk_W D [(cI, .int), (cJ, .long)] _ s _ _ (xw cI cJ ad (xf_g fm) xf_l ar bk) := hw
    refine lv_iconst (v := 4) hx hb dX11_check_16 (by decide) ?_
    refine lv_idiv hx hb dX11_check_17 (by decide) ?_
    refine hk_topi 2 (by decide +kernel) ?_
    refine lv_icmp_lt (tgt := 23) hx hb dX11_check_18 (by decide) (fun cc_9 => ?_) (fun cc_9 => ?_)
    · rcases (show i.toInt = 0 ∨ i.toInt = 1 by simp only [Int32.lt_iff_toInt_lt, Int32.le_iff_toInt_le, ← Int32.toInt_inj, hk_t0, hk_t1, hk_t2, hk_t3, hk_t4, hk_t5, hk_t6, hk_t7, hk_t8, hk_t9, hk_t10, hk_t11, hk_t12, hk_t13, hk_t14, hk_t15, hk_t16, hk_t17, hk_t18, hk_t20, hk_t32, hk_tm1, hk_t256, hk_t1500, hk_t4096, hk_t2000, hk_t3000, hk_t512, hk_t1024, true_and, and_true, false_and, and_false, true_or, or_true, false_or, or_false, not_true_eq_false, not_false_eq_true] at cc_5 cc_9 ⊢; omega) with q | q
      · obtain rfl : i = 0 := Int32.toInt_inj.mp (q.trans (by decide))
        refine lv_aload_n hx hb dX11_check_23 rfl (lv_at hl 0 rfl) ?_
        refine hk_get (ci := 14) (C := RX11) (T := TX11) (N := 11) (v := .ref (ad 11)) hx hb hts iX11 hown hw 0 rfl rfl 5 (by decide) (hts _ (List.mem_of_getElem? (i := 8) rfl)) rfl dX11_check_24 ?_
        refine lv_iload_n hx hb dX11_check_27 rfl (lv_at hl 1 rfl) ?_
        refine lv_aload_n hx hb dX11_check_28 rfl (lv_at hl 0 rfl) ?_
        refine hk_get (ci := 14) (C := RX11) (T := TX11) (N := 11) (v := .ref (ad 4)) hx hb hts iX11 hown hw 0 rfl rfl 3 (by decide) (hts _ (List.mem_of_getElem? (i := 9) rfl)) rfl dX11_check_29 ?_
        refine lv_iconst (v := 0) hx hb dX11_check_32 (by decide) ?_
        refine lv_aload_n hx hb dX11_check_33 rfl (lv_at hl 0 rfl) ?_
        refine hk_get (ci := 14) (C := RX11) (T := TX11) (N := 11) (v := .ref (ad 4)) hx hb hts iX11 hown hw 0 rfl rfl 3 (by decide) (hts _ (List.mem_of_getElem? (i := 9) rfl)) rfl dX11_check_34 ?_
        refine hk_get (ci := 12) (C := RX9) (T := TX9) (N := 2) (v := .int 0) hx hb hts iX9 hown hw 4 rfl rfl 1 (by decide) (hts _ (List.mem_of_getElem? (i := 10) rfl)) rfl dX11_check_37 ?_
        refine hk_Vv (As := [.int 4, .ref (ad 4), .int 0, .int 0]) (rest := []) ⟨hx, hb, hml, hown, hts⟩ hw hA (cx_compute4 l D cI cJ ad (xf_g fm) xf_l ar bk _) (cwV 4 hts gw_ct_check4_2 rfl rfl rfl (by decide +kernel) ⟨Nat.le_of_ble_eq_true rfl, Nat.le_of_ble_eq_true rfl⟩) 11 (ci := 3) (T := TX0) (N := 3) rfl rfl rfl hl.1 rfl (Nat.le_of_ble_eq_true rfl) dX11_check_40 ⟨Nat.le_of_ble_eq_true rfl, Nat.le_of_ble_eq_true rfl⟩ (fun uu_11 H locs hp_12 hw => ?_)
        have hC := hp_12
        have hw : hk_W D [(cI, .int), (cJ, .long)] _ s _ _ (xw cI cJ ad (xf_g fm) xf_l (va_up ar 3 uu_11) bk) := hw
        refine lv_aload_n hx hb dX11_check_43 rfl (lv_at hl 0 rfl) ?_
        refine hk_get (ci := 14) (C := RX11) (T := TX11) (N := 11) (v := .ref (ad 11)) hx hb hts iX11 hown hw 0 rfl rfl 5 (by decide) (hts _ (List.mem_of_getElem? (i := 8) rfl)) rfl dX11_check_44 ?_
        refine hk_get (ci := 3) (C := RX0) (T := TX0) (N := 3) (v := .ref (ad 12)) hx hb hts iX0 hown hw 11 rfl rfl 0 (by decide) (hts _ (List.mem_of_getElem? (i := 20) rfl)) rfl dX11_check_47 ?_
        refine lv_iload_n hx hb dX11_check_50 rfl (lv_at hl 2 rfl) ?_
        refine lv_bipush (v := 7) hx hb dX11_check_51 (by decide) ?_
        refine lv_iand hx hb dX11_check_53 ?_
        refine hk_topi 0 (by decide +kernel) ?_
        refine hk_iald (v := 0) hx hb hw 12 0 rfl rfl (show ¬ (_ ∨ _) by decide) dX11_check_54 hC.1 ?_
        exact hk_iret (u := ((xf_g fm), xf_l, (va_up ar 3 uu_11), bk)) hx hb hr hlocks (hw) (by decide +kernel) dX11_check_55
      · obtain rfl : i = 1 := Int32.toInt_inj.mp (q.trans (by decide))
        refine lv_aload_n hx hb dX11_check_23 rfl (lv_at hl 0 rfl) ?_
        refine hk_get (ci := 14) (C := RX11) (T := TX11) (N := 11) (v := .ref (ad 11)) hx hb hts iX11 hown hw 0 rfl rfl 5 (by decide) (hts _ (List.mem_of_getElem? (i := 8) rfl)) rfl dX11_check_24 ?_
        refine lv_iload_n hx hb dX11_check_27 rfl (lv_at hl 1 rfl) ?_
        refine lv_aload_n hx hb dX11_check_28 rfl (lv_at hl 0 rfl) ?_
        refine hk_get (ci := 14) (C := RX11) (T := TX11) (N := 11) (v := .ref (ad 4)) hx hb hts iX11 hown hw 0 rfl rfl 3 (by decide) (hts _ (List.mem_of_getElem? (i := 9) rfl)) rfl dX11_check_29 ?_
        refine lv_iconst (v := 0) hx hb dX11_check_32 (by decide) ?_
        refine lv_aload_n hx hb dX11_check_33 rfl (lv_at hl 0 rfl) ?_
        refine hk_get (ci := 14) (C := RX11) (T := TX11) (N := 11) (v := .ref (ad 4)) hx hb hts iX11 hown hw 0 rfl rfl 3 (by decide) (hts _ (List.mem_of_getElem? (i := 9) rfl)) rfl dX11_check_34 ?_
        refine hk_get (ci := 12) (C := RX9) (T := TX9) (N := 2) (v := .int 0) hx hb hts iX9 hown hw 4 rfl rfl 1 (by decide) (hts _ (List.mem_of_getElem? (i := 10) rfl)) rfl dX11_check_37 ?_
        refine hk_Vv (As := [.int 4, .ref (ad 4), .int 0, .int 0]) (rest := []) ⟨hx, hb, hml, hown, hts⟩ hw hA (cx_compute4 l D cI cJ ad (xf_g fm) xf_l ar bk _) (cwV 4 hts gw_ct_check4_2 rfl rfl rfl (by decide +kernel) ⟨Nat.le_of_ble_eq_true rfl, Nat.le_of_ble_eq_true rfl⟩) 11 (ci := 3) (T := TX0) (N := 3) rfl rfl rfl hl.1 rfl (Nat.le_of_ble_eq_true rfl) dX11_check_40 ⟨Nat.le_of_ble_eq_true rfl, Nat.le_of_ble_eq_true rfl⟩ (fun uu_14 H locs hp_15 hw => ?_)
        have hC := hp_15
        have hw : hk_W D [(cI, .int), (cJ, .long)] _ s _ _ (xw cI cJ ad (xf_g fm) xf_l (va_up ar 3 uu_14) bk) := hw
        refine lv_aload_n hx hb dX11_check_43 rfl (lv_at hl 0 rfl) ?_
        refine hk_get (ci := 14) (C := RX11) (T := TX11) (N := 11) (v := .ref (ad 11)) hx hb hts iX11 hown hw 0 rfl rfl 5 (by decide) (hts _ (List.mem_of_getElem? (i := 8) rfl)) rfl dX11_check_44 ?_
        refine hk_get (ci := 3) (C := RX0) (T := TX0) (N := 3) (v := .ref (ad 12)) hx hb hts iX0 hown hw 11 rfl rfl 0 (by decide) (hts _ (List.mem_of_getElem? (i := 20) rfl)) rfl dX11_check_47 ?_
        refine lv_iload_n hx hb dX11_check_50 rfl (lv_at hl 2 rfl) ?_
        refine lv_bipush (v := 7) hx hb dX11_check_51 (by decide) ?_
        refine lv_iand hx hb dX11_check_53 ?_
        refine hk_topi 1 (by decide +kernel) ?_
        refine hk_iald (v := 0) hx hb hw 12 0 rfl rfl (show ¬ (_ ∨ _) by decide) dX11_check_54 hC.2 ?_
        exact hk_iret (u := ((xf_g fm), xf_l, (va_up ar 3 uu_14), bk)) hx hb hr hlocks (hw) (by decide +kernel) dX11_check_55
    · refine lv_iconst (v := (-1)) hx hb dX11_check_21 (by decide) ?_
      exact hk_iret (u := ((xf_g fm), xf_l, ar, bk)) hx hb hr hlocks (hw) (hk_ck4 (show ¬ i.toInt = 0 by simp only [Int32.lt_iff_toInt_lt, Int32.le_iff_toInt_le, ← Int32.toInt_inj, hk_t0, hk_t1, hk_t2, hk_t3, hk_t4, hk_t5, hk_t6, hk_t7, hk_t8, hk_t9, hk_t10, hk_t11, hk_t12, hk_t13, hk_t14, hk_t15, hk_t16, hk_t17, hk_t18, hk_t20, hk_t32, hk_tm1, hk_t256, hk_t1500, hk_t4096, hk_t2000, hk_t3000, hk_t512, hk_t1024, true_and, and_true, false_and, and_false, true_or, or_true, false_or, or_false, not_true_eq_false, not_false_eq_true] at cc_5 cc_9 ⊢; omega) (show ¬ i.toInt = 1 by simp only [Int32.lt_iff_toInt_lt, Int32.le_iff_toInt_le, ← Int32.toInt_inj, hk_t0, hk_t1, hk_t2, hk_t3, hk_t4, hk_t5, hk_t6, hk_t7, hk_t8, hk_t9, hk_t10, hk_t11, hk_t12, hk_t13, hk_t14, hk_t15, hk_t16, hk_t17, hk_t18, hk_t20, hk_t32, hk_tm1, hk_t256, hk_t1500, hk_t4096, hk_t2000, hk_t3000, hk_t512, hk_t1024, true_and, and_true, false_and, and_false, true_or, or_true, false_or, or_false, not_true_eq_false, not_false_eq_true] at cc_5 cc_9 ⊢; omega)) dX11_check_22

def ww_ct_check10 : List Cond := Cond.code yX11_check cX11_check 3 (some .int) :: ([Cond.methodLink RX11 235 yX0_isKind, Cond.static yX0_isKind, Cond.initialized RX0, Cond.code yX0_isKind cX0_isKind 1 (some .boolean), Cond.methodLink RX11 239 yX0_bytesOf, Cond.static yX0_bytesOf, Cond.code yX0_bytesOf cX0_bytesOf 1 (some .int), Cond.fieldLink RX11 54 "LzmaChains" "checks" "LLzmaChains$Checks;", Cond.fieldLink RX11 29 "LzmaChains" "output" "LLzmaChains$Row;", Cond.fieldLink RX11 100 "LzmaChains$Row" "size" "I", Cond.methodLink RX11 242 yX0_compute, Cond.instanceMethod yX0_compute, Cond.selects RX0 yX0_compute yX0_compute, Cond.code yX0_compute cX0_compute 7 none, Cond.methodLink RX0 29 yX0_sha256, Cond.instanceMethod yX0_sha256, Cond.selects RX0 yX0_sha256 yX0_sha256, Cond.code yX0_sha256 cX0_sha256 10 none, Cond.fieldLink RX0 44 "LzmaChains$Checks" "SHA_START" "[I", Cond.fieldLink RX0 9 "LzmaChains$Checks" "words" "[I", Cond.methodLink RX0 47 arraycopyName, Cond.native arraycopyName, Cond.static arraycopyName, Cond.initialized "java/lang/System", Cond.fieldLink RX0 18 "LzmaChains$Checks" "schedule" "[I", Cond.methodLink RX0 57 yX0_mixBlock, Cond.instanceMethod yX0_mixBlock, Cond.selects RX0 yX0_mixBlock yX0_mixBlock, Cond.code yX0_mixBlock cX0_mixBlock 6 none, Cond.fieldLink RX0 15 "LzmaChains$Checks" "mixed" "[I", Cond.fieldLink RX0 66 "LzmaChains$Checks" "SHA_KEYS" "[I", Cond.methodLink RX0 69 yX0_mixRound, Cond.instanceMethod yX0_mixRound, Cond.selects RX0 yX0_mixRound yX0_mixRound, Cond.code yX0_mixRound cX0_mixRound 10 none, Cond.methodLink RX0 60 yJ6_rotateRight_7cf53, Cond.static yJ6_rotateRight_7cf53, Cond.initialized RJ6, Cond.code yJ6_rotateRight_7cf53 cJ6_rotateRight_7cf53 2 (some .int), Cond.methodLink RX0 53 yX0_shaByte, Cond.static yX0_shaByte, Cond.code yX0_shaByte cX0_shaByte 4 (some .int), Cond.fieldLink RX11 246 "LzmaChains$Checks" "words" "[I"] ++ (wsX110 ++ (wsX90 ++ (wsX00 ++ ([])))))
set_option maxRecDepth 20000 in
theorem gw_ct_check10_0 : GoodIn ww_ct_check10 (va_wsS RX11 235 yX0_isKind ww_cx_ik10) := goodIn_r _ [1, 2, 3, 4] rfl (by decide +kernel)
set_option maxRecDepth 20000 in
theorem gw_ct_check10_1 : GoodIn ww_ct_check10 (va_wsS RX11 239 yX0_bytesOf ww_cx_bo10) := goodIn_r _ [5, 6, 3, 7] rfl (by decide +kernel)
set_option maxRecDepth 20000 in
theorem gw_ct_check10_2 : GoodIn ww_ct_check10 (wsV RX11 242 RX0 yX0_compute ww_cx_compute10) := goodIn_r _ [11, 12, 13, 3, 14, 15, 16, 17, 3, 18, 19, 20, 21, 22, 23, 24, 25, 26, 27, 28, 29, 30, 31, 32, 33, 34, 35, 36, 37, 38, 39, 40, 41, 42, 57, 58, 59] rfl (by decide +kernel)
set_option maxHeartbeats 4000000 in
set_option maxRecDepth 100000 in
/-- check(10, i) on a new object -/
theorem ct_check10 (l : Launch) (t3 : Nat × Nat × Nat) (D : va_G) (cI cJ : ClassId) (ad : Nat → Nat) (fm : Int32) (ar : Nat → Nat → Int32) (bk : Nat → Int64) (sz : Nat) (i : Int32) : Met l yX11_check ww_ct_check10 { frames := 5, cells := 0, slots := 0, locals := 130 } (va_Pc [.ref (ad 0), .int 10, .int i] (hk_BY t3 D [(cI, .int), (cJ, .long)] sz (xw cI cJ ad (xf_g fm) xf_l ar bk))) (va_Qi (fun (r : Int32) (u : (Nat → Int32) × (Nat → Int64) × (Nat → Nat → Int32) × (Nat → Int64)) => r = hk_ckv 10 i) (fun u : (Nat → Int32) × (Nat → Int64) × (Nat → Nat → Int32) × (Nat → Int64) => hk_E D [(cI, .int), (cJ, .long)] (va_A (xw cI cJ ad (xf_g fm) xf_l ar bk) sz) (xw cI cJ ad u.1 u.2.1 u.2.2.1 u.2.2.2)) (va_A (xw cI cJ ad (xf_g fm) xf_l ar bk) sz)) 0 0 (va_A (xw cI cJ ad (xf_g fm) xf_l ar bk) sz) := by
  refine hk_smet (t3 := t3) (cc := cX11_check) (maxL := 3) (ret := (some .int)) (by decide) rfl (Nat.le_of_ble_eq_true rfl) ?_
  intro p e s m below meth c ls hx hb hr hml hown hts hlocks hin hA hZ hw hl
  have iX11 : ∀ w ∈ wsX110, w ∈ ww_ct_check10 := fun _ h => List.mem_cons_of_mem _ (List.mem_append_right _ (List.mem_append_left _ h))
  have iX9 : ∀ w ∈ wsX90, w ∈ ww_ct_check10 := fun _ h => List.mem_cons_of_mem _ (List.mem_append_right _ (List.mem_append_right _ (List.mem_append_left _ h)))
  have iX0 : ∀ w ∈ wsX00, w ∈ ww_ct_check10 := fun _ h => List.mem_cons_of_mem _ (List.mem_append_right _ (List.mem_append_right _ (List.mem_append_right _ (List.mem_append_left _ h))))
  have hl : lv_has ls 3 [(0, .ref (ad 0)), (1, .int 10), (2, .int i)] := hl
  refine lv_iload_n hx hb dX11_check_0 rfl (lv_at hl 1 rfl) ?_
  refine hk_Si (As := [.int 10]) (rest := []) ⟨hx, hb, hml, hown, hts⟩ hw hA (cx_ik10 l D cI cJ ad (xf_g fm) xf_l ar bk _) (va_cwS 1 hts gw_ct_check10_0 rfl rfl rfl (by decide +kernel) ⟨Nat.le_of_ble_eq_true rfl, Nat.le_of_ble_eq_true rfl⟩) rfl hl.1 rfl (Nat.le_of_ble_eq_true rfl) dX11_check_1 ⟨Nat.le_of_ble_eq_true rfl, Nat.le_of_ble_eq_true rfl⟩ (fun rr_1 uu_2 H locs hp_3 hw => ?_)
  subst hp_3
  have hw : hk_W D [(cI, .int), (cJ, .long)] _ s _ _ (xw cI cJ ad (xf_g fm) xf_l ar bk) := hw
  refine lv_if_eq (tgt := 21) hx hb dX11_check_4 (by decide) (fun cc_4 => absurd cc_4 (by decide)) (fun _ => ?_)
  refine lv_iload_n hx hb dX11_check_7 rfl (lv_at hl 2 rfl) ?_
  refine lv_if_lt (tgt := 21) hx hb dX11_check_8 (by decide) (fun cc_5 => ?_) (fun cc_5 => ?_)
  · refine lv_iconst (v := (-1)) hx hb dX11_check_21 (by decide) ?_
    exact hk_iret (u := ((xf_g fm), xf_l, ar, bk)) hx hb hr hlocks (hw) (hk_ck10 (show ¬ (0 ≤ i.toInt ∧ i.toInt < 8) by simp only [Int32.lt_iff_toInt_lt, Int32.le_iff_toInt_le, ← Int32.toInt_inj, hk_t0, hk_t1, hk_t2, hk_t3, hk_t4, hk_t5, hk_t6, hk_t7, hk_t8, hk_t9, hk_t10, hk_t11, hk_t12, hk_t13, hk_t14, hk_t15, hk_t16, hk_t17, hk_t18, hk_t20, hk_t32, hk_tm1, hk_t256, hk_t1500, hk_t4096, hk_t2000, hk_t3000, hk_t512, hk_t1024, true_and, and_true, false_and, and_false, true_or, or_true, false_or, or_false, not_true_eq_false, not_false_eq_true] at cc_5 ⊢; omega)) dX11_check_22
  · refine lv_iload_n hx hb dX11_check_11 rfl (lv_at hl 2 rfl) ?_
    refine lv_iload_n hx hb dX11_check_12 rfl (lv_at hl 1 rfl) ?_
    refine hk_Si (As := [.int 10]) (rest := [.int i]) ⟨hx, hb, hml, hown, hts⟩ hw hA (cx_bo10 l D cI cJ ad (xf_g fm) xf_l ar bk _) (va_cwS 1 hts gw_ct_check10_1 rfl rfl rfl (by decide +kernel) ⟨Nat.le_of_ble_eq_true rfl, Nat.le_of_ble_eq_true rfl⟩) rfl hl.1 rfl (Nat.le_of_ble_eq_true rfl) dX11_check_13 ⟨Nat.le_of_ble_eq_true rfl, Nat.le_of_ble_eq_true rfl⟩ (fun rr_6 uu_7 H locs hp_8 hw => ?_)
    subst hp_8
    have hw : hk_W D [(cI, .int), (cJ, .long)] _ s _ _ (xw cI cJ ad (xf_g fm) xf_l ar bk) := hw
    refine lv_iconst (v := 4) hx hb dX11_check_16 (by decide) ?_
    refine lv_idiv hx hb dX11_check_17 (by decide) ?_
    refine hk_topi 8 (by decide +kernel) ?_
    refine lv_icmp_lt (tgt := 23) hx hb dX11_check_18 (by decide) (fun cc_9 => ?_) (fun cc_9 => ?_)
    · refine lv_aload_n hx hb dX11_check_23 rfl (lv_at hl 0 rfl) ?_
      refine hk_get (ci := 14) (C := RX11) (T := TX11) (N := 11) (v := .ref (ad 11)) hx hb hts iX11 hown hw 0 rfl rfl 5 (by decide) (hts _ (List.mem_of_getElem? (i := 8) rfl)) rfl dX11_check_24 ?_
      refine lv_iload_n hx hb dX11_check_27 rfl (lv_at hl 1 rfl) ?_
      refine lv_aload_n hx hb dX11_check_28 rfl (lv_at hl 0 rfl) ?_
      refine hk_get (ci := 14) (C := RX11) (T := TX11) (N := 11) (v := .ref (ad 4)) hx hb hts iX11 hown hw 0 rfl rfl 3 (by decide) (hts _ (List.mem_of_getElem? (i := 9) rfl)) rfl dX11_check_29 ?_
      refine lv_iconst (v := 0) hx hb dX11_check_32 (by decide) ?_
      refine lv_aload_n hx hb dX11_check_33 rfl (lv_at hl 0 rfl) ?_
      refine hk_get (ci := 14) (C := RX11) (T := TX11) (N := 11) (v := .ref (ad 4)) hx hb hts iX11 hown hw 0 rfl rfl 3 (by decide) (hts _ (List.mem_of_getElem? (i := 9) rfl)) rfl dX11_check_34 ?_
      refine hk_get (ci := 12) (C := RX9) (T := TX9) (N := 2) (v := .int 0) hx hb hts iX9 hown hw 4 rfl rfl 1 (by decide) (hts _ (List.mem_of_getElem? (i := 10) rfl)) rfl dX11_check_37 ?_
      refine hk_ZVv (As := [.int 10, .ref (ad 4), .int 0, .int 0]) (rest := []) ⟨hx, hb, hml, hown, hts⟩ hZ hw hA (cx_compute10 l t3 D cI cJ ad (xf_g fm) xf_l ar bk _) (cwV 4 hts gw_ct_check10_2 rfl rfl rfl (by decide +kernel) ⟨Nat.le_of_ble_eq_true rfl, Nat.le_of_ble_eq_true rfl⟩) 11 (ci := 3) (T := TX0) (N := 3) rfl rfl rfl hl.1 rfl (Nat.le_of_ble_eq_true rfl) dX11_check_40 ⟨Nat.le_of_ble_eq_true rfl, Nat.le_of_ble_eq_true rfl⟩ (fun uu_11 H locs hp_12 hw => ?_)
      have hC := hp_12
      have hw : hk_W D [(cI, .int), (cJ, .long)] _ s _ _ (xw cI cJ ad (xf_g fm) xf_l (va_up (va_up (va_up ar 3 uu_11.1) 5 uu_11.2.2) 4 uu_11.2.1) bk) := hw
      rcases (show i.toInt = 0 ∨ i.toInt = 1 ∨ i.toInt = 2 ∨ i.toInt = 3 ∨ i.toInt = 4 ∨ i.toInt = 5 ∨ i.toInt = 6 ∨ i.toInt = 7 by simp only [Int32.lt_iff_toInt_lt, Int32.le_iff_toInt_le, ← Int32.toInt_inj, hk_t0, hk_t1, hk_t2, hk_t3, hk_t4, hk_t5, hk_t6, hk_t7, hk_t8, hk_t9, hk_t10, hk_t11, hk_t12, hk_t13, hk_t14, hk_t15, hk_t16, hk_t17, hk_t18, hk_t20, hk_t32, hk_tm1, hk_t256, hk_t1500, hk_t4096, hk_t2000, hk_t3000, hk_t512, hk_t1024, true_and, and_true, false_and, and_false, true_or, or_true, false_or, or_false, not_true_eq_false, not_false_eq_true] at cc_5 cc_9 ⊢; omega) with q | q | q | q | q | q | q | q
      · obtain rfl : i = 0 := Int32.toInt_inj.mp (q.trans (by decide))
        refine lv_aload_n hx hb dX11_check_43 rfl (lv_at hl 0 rfl) ?_
        refine hk_get (ci := 14) (C := RX11) (T := TX11) (N := 11) (v := .ref (ad 11)) hx hb hts iX11 hown hw 0 rfl rfl 5 (by decide) (hts _ (List.mem_of_getElem? (i := 8) rfl)) rfl dX11_check_44 ?_
        refine hk_get (ci := 3) (C := RX0) (T := TX0) (N := 3) (v := .ref (ad 12)) hx hb hts iX0 hown hw 11 rfl rfl 0 (by decide) (hts _ (List.mem_of_getElem? (i := 43) rfl)) rfl dX11_check_47 ?_
        refine lv_iload_n hx hb dX11_check_50 rfl (lv_at hl 2 rfl) ?_
        refine lv_bipush (v := 7) hx hb dX11_check_51 (by decide) ?_
        refine lv_iand hx hb dX11_check_53 ?_
        refine hk_topi 0 (by decide +kernel) ?_
        refine hk_iald (v := (hs_O 0)) hx hb hw 12 0 rfl rfl (show ¬ (_ ∨ _) by decide) dX11_check_54 (hC 0 (by decide)) ?_
        exact hk_iret (u := ((xf_g fm), xf_l, (va_up (va_up (va_up ar 3 uu_11.1) 5 uu_11.2.2) 4 uu_11.2.1), bk)) hx hb hr hlocks (hw) (by decide +kernel) dX11_check_55
      · obtain rfl : i = 1 := Int32.toInt_inj.mp (q.trans (by decide))
        refine lv_aload_n hx hb dX11_check_43 rfl (lv_at hl 0 rfl) ?_
        refine hk_get (ci := 14) (C := RX11) (T := TX11) (N := 11) (v := .ref (ad 11)) hx hb hts iX11 hown hw 0 rfl rfl 5 (by decide) (hts _ (List.mem_of_getElem? (i := 8) rfl)) rfl dX11_check_44 ?_
        refine hk_get (ci := 3) (C := RX0) (T := TX0) (N := 3) (v := .ref (ad 12)) hx hb hts iX0 hown hw 11 rfl rfl 0 (by decide) (hts _ (List.mem_of_getElem? (i := 43) rfl)) rfl dX11_check_47 ?_
        refine lv_iload_n hx hb dX11_check_50 rfl (lv_at hl 2 rfl) ?_
        refine lv_bipush (v := 7) hx hb dX11_check_51 (by decide) ?_
        refine lv_iand hx hb dX11_check_53 ?_
        refine hk_topi 1 (by decide +kernel) ?_
        refine hk_iald (v := (hs_O 1)) hx hb hw 12 0 rfl rfl (show ¬ (_ ∨ _) by decide) dX11_check_54 (hC 1 (by decide)) ?_
        exact hk_iret (u := ((xf_g fm), xf_l, (va_up (va_up (va_up ar 3 uu_11.1) 5 uu_11.2.2) 4 uu_11.2.1), bk)) hx hb hr hlocks (hw) (by decide +kernel) dX11_check_55
      · obtain rfl : i = 2 := Int32.toInt_inj.mp (q.trans (by decide))
        refine lv_aload_n hx hb dX11_check_43 rfl (lv_at hl 0 rfl) ?_
        refine hk_get (ci := 14) (C := RX11) (T := TX11) (N := 11) (v := .ref (ad 11)) hx hb hts iX11 hown hw 0 rfl rfl 5 (by decide) (hts _ (List.mem_of_getElem? (i := 8) rfl)) rfl dX11_check_44 ?_
        refine hk_get (ci := 3) (C := RX0) (T := TX0) (N := 3) (v := .ref (ad 12)) hx hb hts iX0 hown hw 11 rfl rfl 0 (by decide) (hts _ (List.mem_of_getElem? (i := 43) rfl)) rfl dX11_check_47 ?_
        refine lv_iload_n hx hb dX11_check_50 rfl (lv_at hl 2 rfl) ?_
        refine lv_bipush (v := 7) hx hb dX11_check_51 (by decide) ?_
        refine lv_iand hx hb dX11_check_53 ?_
        refine hk_topi 2 (by decide +kernel) ?_
        refine hk_iald (v := (hs_O 2)) hx hb hw 12 0 rfl rfl (show ¬ (_ ∨ _) by decide) dX11_check_54 (hC 2 (by decide)) ?_
        exact hk_iret (u := ((xf_g fm), xf_l, (va_up (va_up (va_up ar 3 uu_11.1) 5 uu_11.2.2) 4 uu_11.2.1), bk)) hx hb hr hlocks (hw) (by decide +kernel) dX11_check_55
      · obtain rfl : i = 3 := Int32.toInt_inj.mp (q.trans (by decide))
        refine lv_aload_n hx hb dX11_check_43 rfl (lv_at hl 0 rfl) ?_
        refine hk_get (ci := 14) (C := RX11) (T := TX11) (N := 11) (v := .ref (ad 11)) hx hb hts iX11 hown hw 0 rfl rfl 5 (by decide) (hts _ (List.mem_of_getElem? (i := 8) rfl)) rfl dX11_check_44 ?_
        refine hk_get (ci := 3) (C := RX0) (T := TX0) (N := 3) (v := .ref (ad 12)) hx hb hts iX0 hown hw 11 rfl rfl 0 (by decide) (hts _ (List.mem_of_getElem? (i := 43) rfl)) rfl dX11_check_47 ?_
        refine lv_iload_n hx hb dX11_check_50 rfl (lv_at hl 2 rfl) ?_
        refine lv_bipush (v := 7) hx hb dX11_check_51 (by decide) ?_
        refine lv_iand hx hb dX11_check_53 ?_
        refine hk_topi 3 (by decide +kernel) ?_
        refine hk_iald (v := (hs_O 3)) hx hb hw 12 0 rfl rfl (show ¬ (_ ∨ _) by decide) dX11_check_54 (hC 3 (by decide)) ?_
        exact hk_iret (u := ((xf_g fm), xf_l, (va_up (va_up (va_up ar 3 uu_11.1) 5 uu_11.2.2) 4 uu_11.2.1), bk)) hx hb hr hlocks (hw) (by decide +kernel) dX11_check_55
      · obtain rfl : i = 4 := Int32.toInt_inj.mp (q.trans (by decide))
        refine lv_aload_n hx hb dX11_check_43 rfl (lv_at hl 0 rfl) ?_
        refine hk_get (ci := 14) (C := RX11) (T := TX11) (N := 11) (v := .ref (ad 11)) hx hb hts iX11 hown hw 0 rfl rfl 5 (by decide) (hts _ (List.mem_of_getElem? (i := 8) rfl)) rfl dX11_check_44 ?_
        refine hk_get (ci := 3) (C := RX0) (T := TX0) (N := 3) (v := .ref (ad 12)) hx hb hts iX0 hown hw 11 rfl rfl 0 (by decide) (hts _ (List.mem_of_getElem? (i := 43) rfl)) rfl dX11_check_47 ?_
        refine lv_iload_n hx hb dX11_check_50 rfl (lv_at hl 2 rfl) ?_
        refine lv_bipush (v := 7) hx hb dX11_check_51 (by decide) ?_
        refine lv_iand hx hb dX11_check_53 ?_
        refine hk_topi 4 (by decide +kernel) ?_
        refine hk_iald (v := (hs_O 4)) hx hb hw 12 0 rfl rfl (show ¬ (_ ∨ _) by decide) dX11_check_54 (hC 4 (by decide)) ?_
        exact hk_iret (u := ((xf_g fm), xf_l, (va_up (va_up (va_up ar 3 uu_11.1) 5 uu_11.2.2) 4 uu_11.2.1), bk)) hx hb hr hlocks (hw) (by decide +kernel) dX11_check_55
      · obtain rfl : i = 5 := Int32.toInt_inj.mp (q.trans (by decide))
        refine lv_aload_n hx hb dX11_check_43 rfl (lv_at hl 0 rfl) ?_
        refine hk_get (ci := 14) (C := RX11) (T := TX11) (N := 11) (v := .ref (ad 11)) hx hb hts iX11 hown hw 0 rfl rfl 5 (by decide) (hts _ (List.mem_of_getElem? (i := 8) rfl)) rfl dX11_check_44 ?_
        refine hk_get (ci := 3) (C := RX0) (T := TX0) (N := 3) (v := .ref (ad 12)) hx hb hts iX0 hown hw 11 rfl rfl 0 (by decide) (hts _ (List.mem_of_getElem? (i := 43) rfl)) rfl dX11_check_47 ?_
        refine lv_iload_n hx hb dX11_check_50 rfl (lv_at hl 2 rfl) ?_
        refine lv_bipush (v := 7) hx hb dX11_check_51 (by decide) ?_
        refine lv_iand hx hb dX11_check_53 ?_
        refine hk_topi 5 (by decide +kernel) ?_
        refine hk_iald (v := (hs_O 5)) hx hb hw 12 0 rfl rfl (show ¬ (_ ∨ _) by decide) dX11_check_54 (hC 5 (by decide)) ?_
        exact hk_iret (u := ((xf_g fm), xf_l, (va_up (va_up (va_up ar 3 uu_11.1) 5 uu_11.2.2) 4 uu_11.2.1), bk)) hx hb hr hlocks (hw) (by decide +kernel) dX11_check_55
      · obtain rfl : i = 6 := Int32.toInt_inj.mp (q.trans (by decide))
        refine lv_aload_n hx hb dX11_check_43 rfl (lv_at hl 0 rfl) ?_
        refine hk_get (ci := 14) (C := RX11) (T := TX11) (N := 11) (v := .ref (ad 11)) hx hb hts iX11 hown hw 0 rfl rfl 5 (by decide) (hts _ (List.mem_of_getElem? (i := 8) rfl)) rfl dX11_check_44 ?_
        refine hk_get (ci := 3) (C := RX0) (T := TX0) (N := 3) (v := .ref (ad 12)) hx hb hts iX0 hown hw 11 rfl rfl 0 (by decide) (hts _ (List.mem_of_getElem? (i := 43) rfl)) rfl dX11_check_47 ?_
        refine lv_iload_n hx hb dX11_check_50 rfl (lv_at hl 2 rfl) ?_
        refine lv_bipush (v := 7) hx hb dX11_check_51 (by decide) ?_
        refine lv_iand hx hb dX11_check_53 ?_
        refine hk_topi 6 (by decide +kernel) ?_
        refine hk_iald (v := (hs_O 6)) hx hb hw 12 0 rfl rfl (show ¬ (_ ∨ _) by decide) dX11_check_54 (hC 6 (by decide)) ?_
        exact hk_iret (u := ((xf_g fm), xf_l, (va_up (va_up (va_up ar 3 uu_11.1) 5 uu_11.2.2) 4 uu_11.2.1), bk)) hx hb hr hlocks (hw) (by decide +kernel) dX11_check_55
      · obtain rfl : i = 7 := Int32.toInt_inj.mp (q.trans (by decide))
        refine lv_aload_n hx hb dX11_check_43 rfl (lv_at hl 0 rfl) ?_
        refine hk_get (ci := 14) (C := RX11) (T := TX11) (N := 11) (v := .ref (ad 11)) hx hb hts iX11 hown hw 0 rfl rfl 5 (by decide) (hts _ (List.mem_of_getElem? (i := 8) rfl)) rfl dX11_check_44 ?_
        refine hk_get (ci := 3) (C := RX0) (T := TX0) (N := 3) (v := .ref (ad 12)) hx hb hts iX0 hown hw 11 rfl rfl 0 (by decide) (hts _ (List.mem_of_getElem? (i := 43) rfl)) rfl dX11_check_47 ?_
        refine lv_iload_n hx hb dX11_check_50 rfl (lv_at hl 2 rfl) ?_
        refine lv_bipush (v := 7) hx hb dX11_check_51 (by decide) ?_
        refine lv_iand hx hb dX11_check_53 ?_
        refine hk_topi 7 (by decide +kernel) ?_
        refine hk_iald (v := (hs_O 7)) hx hb hw 12 0 rfl rfl (show ¬ (_ ∨ _) by decide) dX11_check_54 (hC 7 (by decide)) ?_
        exact hk_iret (u := ((xf_g fm), xf_l, (va_up (va_up (va_up ar 3 uu_11.1) 5 uu_11.2.2) 4 uu_11.2.1), bk)) hx hb hr hlocks (hw) (by decide +kernel) dX11_check_55
    · refine lv_iconst (v := (-1)) hx hb dX11_check_21 (by decide) ?_
      exact hk_iret (u := ((xf_g fm), xf_l, ar, bk)) hx hb hr hlocks (hw) (hk_ck10 (show ¬ (0 ≤ i.toInt ∧ i.toInt < 8) by simp only [Int32.lt_iff_toInt_lt, Int32.le_iff_toInt_le, ← Int32.toInt_inj, hk_t0, hk_t1, hk_t2, hk_t3, hk_t4, hk_t5, hk_t6, hk_t7, hk_t8, hk_t9, hk_t10, hk_t11, hk_t12, hk_t13, hk_t14, hk_t15, hk_t16, hk_t17, hk_t18, hk_t20, hk_t32, hk_tm1, hk_t256, hk_t1500, hk_t4096, hk_t2000, hk_t3000, hk_t512, hk_t1024, true_and, and_true, false_and, and_false, true_or, or_true, false_or, or_false, not_true_eq_false, not_false_eq_true] at cc_5 cc_9 ⊢; omega)) dX11_check_22

def ww_ct_checkN : List Cond := Cond.code yX11_check cX11_check 3 (some .int) :: ([Cond.methodLink RX11 235 yX0_isKind, Cond.static yX0_isKind, Cond.initialized RX0, Cond.code yX0_isKind cX0_isKind 1 (some .boolean), Cond.methodLink RX11 239 yX0_bytesOf, Cond.static yX0_bytesOf, Cond.code yX0_bytesOf cX0_bytesOf 1 (some .int)] ++ ([]))
set_option maxRecDepth 20000 in
theorem gw_ct_checkN_0 : GoodIn ww_ct_checkN (va_wsS RX11 235 yX0_isKind ww_cx_isKind) := goodIn_r _ [1, 2, 3, 4] rfl (by decide +kernel)
set_option maxRecDepth 20000 in
theorem gw_ct_checkN_1 : GoodIn ww_ct_checkN (va_wsS RX11 239 yX0_bytesOf ww_cx_boN) := goodIn_r _ [5, 6, 3, 7] rfl (by decide +kernel)
set_option maxHeartbeats 4000000 in
set_option maxRecDepth 100000 in
/-- check(k, i), no such kind, on a new object -/
theorem ct_checkN (l : Launch) (D : va_G) (cI cJ : ClassId) (ad : Nat → Nat) (fm : Int32) (ar : Nat → Nat → Int32) (bk : Nat → Int64) (sz : Nat) (k i : Int32) (h1 : k.toInt ≠ 1) (h4 : k.toInt ≠ 4) (h10 : k.toInt ≠ 10) : Met l yX11_check ww_ct_checkN { frames := 1, cells := 0, slots := 0, locals := 20 } (va_Pc [.ref (ad 0), .int k, .int i] (hk_B D [(cI, .int), (cJ, .long)] sz (xw cI cJ ad (xf_g fm) xf_l ar bk))) (va_Qi (fun (r : Int32) (u : (Nat → Int32) × (Nat → Int64) × (Nat → Nat → Int32) × (Nat → Int64)) => r = hk_ckv k i) (fun u : (Nat → Int32) × (Nat → Int64) × (Nat → Nat → Int32) × (Nat → Int64) => hk_E D [(cI, .int), (cJ, .long)] (va_A (xw cI cJ ad (xf_g fm) xf_l ar bk) sz) (xw cI cJ ad u.1 u.2.1 u.2.2.1 u.2.2.2)) (va_A (xw cI cJ ad (xf_g fm) xf_l ar bk) sz)) 0 0 (va_A (xw cI cJ ad (xf_g fm) xf_l ar bk) sz) := by
  refine hk_met (cc := cX11_check) (maxL := 3) (ret := (some .int)) (by decide) rfl (Nat.le_of_ble_eq_true rfl) ?_
  intro p e s m below meth c ls hx hb hr hml hown hts hlocks hin hA hw hl
  have hl : lv_has ls 3 [(0, .ref (ad 0)), (1, .int k), (2, .int i)] := hl
  refine lv_iload_n hx hb dX11_check_0 rfl (lv_at hl 1 rfl) ?_
  refine hk_Si (As := [.int k]) (rest := []) ⟨hx, hb, hml, hown, hts⟩ hw hA (cx_isKind l D cI cJ ad (xf_g fm) xf_l ar bk _ k) (va_cwS 1 hts gw_ct_checkN_0 rfl rfl rfl (by decide +kernel) ⟨Nat.le_of_ble_eq_true rfl, Nat.le_of_ble_eq_true rfl⟩) rfl hl.1 rfl (Nat.le_of_ble_eq_true rfl) dX11_check_1 ⟨Nat.le_of_ble_eq_true rfl, Nat.le_of_ble_eq_true rfl⟩ (fun rr_1 uu_2 H locs hp_3 hw => ?_)
  have hw : hk_W D [(cI, .int), (cJ, .long)] _ s _ _ (xw cI cJ ad (xf_g fm) xf_l ar bk) := hw
  refine lv_if_eq (tgt := 21) hx hb dX11_check_4 (by decide) (fun cc_4 => ?_) (fun cc_4 => ?_)
  · refine lv_iconst (v := (-1)) hx hb dX11_check_21 (by decide) ?_
    exact hk_iret (u := ((xf_g fm), xf_l, ar, bk)) hx hb hr hlocks (hw) (hk_ckN h1 h4 h10) dX11_check_22
  · refine lv_iload_n hx hb dX11_check_7 rfl (lv_at hl 2 rfl) ?_
    refine lv_if_lt (tgt := 21) hx hb dX11_check_8 (by decide) (fun cc_5 => ?_) (fun cc_5 => ?_)
    · refine lv_iconst (v := (-1)) hx hb dX11_check_21 (by decide) ?_
      exact hk_iret (u := ((xf_g fm), xf_l, ar, bk)) hx hb hr hlocks (hw) (hk_ckN h1 h4 h10) dX11_check_22
    · refine lv_iload_n hx hb dX11_check_11 rfl (lv_at hl 2 rfl) ?_
      refine lv_iload_n hx hb dX11_check_12 rfl (lv_at hl 1 rfl) ?_
      refine hk_Si (As := [.int k]) (rest := [.int i]) ⟨hx, hb, hml, hown, hts⟩ hw hA (cx_boN l D cI cJ ad (xf_g fm) xf_l ar bk _ k h1 h4 h10) (va_cwS 1 hts gw_ct_checkN_1 rfl rfl rfl (by decide +kernel) ⟨Nat.le_of_ble_eq_true rfl, Nat.le_of_ble_eq_true rfl⟩) rfl hl.1 rfl (Nat.le_of_ble_eq_true rfl) dX11_check_13 ⟨Nat.le_of_ble_eq_true rfl, Nat.le_of_ble_eq_true rfl⟩ (fun rr_6 uu_7 H locs hp_8 hw => ?_)
      subst hp_8
      have hw : hk_W D [(cI, .int), (cJ, .long)] _ s _ _ (xw cI cJ ad (xf_g fm) xf_l ar bk) := hw
      refine lv_iconst (v := 4) hx hb dX11_check_16 (by decide) ?_
      refine lv_idiv hx hb dX11_check_17 (by decide) ?_
      refine hk_topi 0 (by decide +kernel) ?_
      refine lv_icmp_lt (tgt := 23) hx hb dX11_check_18 (by decide) (fun cc_9 => absurd cc_9 (cc_5)) (fun _ => ?_)
      refine lv_iconst (v := (-1)) hx hb dX11_check_21 (by decide) ?_
      exact hk_iret (u := ((xf_g fm), xf_l, ar, bk)) hx hb hr hlocks (hw) (hk_ckN h1 h4 h10) dX11_check_22

def ww_cn_sizeN : List Cond := Cond.code yX12_checkSize cX12_checkSize 1 (some .int) :: ([] ++ ([]))
set_option maxHeartbeats 4000000 in
set_option maxRecDepth 100000 in
/-- the reference: checkSize, none -/
theorem cn_sizeN (l : Launch) (D : va_G) (cI cJ : ClassId) (ad : Nat → Nat) (g : Nat → Int32) (lg : Nat → Int64) (ar : Nat → Nat → Int32) (bk : Nat → Int64) (sz : Nat) (k : Int32) (h1 : k.toInt ≠ 1) (h4 : k.toInt ≠ 4) (h10 : k.toInt ≠ 10) : Met l yX12_checkSize ww_cn_sizeN { frames := 0, cells := 0, slots := 0, locals := 0 } (va_Pc [.int k] (hk_B D [(cI, .int), (cJ, .long)] sz (mw cI cJ ad g lg ar bk))) (va_Qi (fun (r : Int32) (u : Unit) => r = 0) (fun u : Unit => hk_E D [(cI, .int), (cJ, .long)] (va_A (mw cI cJ ad g lg ar bk) sz) (mw cI cJ ad g lg ar bk)) (va_A (mw cI cJ ad g lg ar bk) sz)) 0 0 (va_A (mw cI cJ ad g lg ar bk) sz) := by
  refine hk_met (cc := cX12_checkSize) (maxL := 1) (ret := (some .int)) (by decide) rfl (Nat.le_of_ble_eq_true rfl) ?_
  intro p e s m below meth c ls hx hb hr hml hown hts hlocks hin hA hw hl
  have hl : lv_has ls 1 [(0, .int k)] := hl
  refine lv_iload_n hx hb dX12_checkSize_0 rfl (lv_at hl 0 rfl) ?_
  refine lv_iconst (v := 1) hx hb dX12_checkSize_1 (by decide) ?_
  refine lv_icmp_ne (tgt := 9) hx hb dX12_checkSize_2 (by decide) (fun _ => ?_) (fun cc_1 => absurd cc_1 (fun q => h1 (by rw [q]; decide)))
  refine lv_iload_n hx hb dX12_checkSize_9 rfl (lv_at hl 0 rfl) ?_
  refine lv_iconst (v := 4) hx hb dX12_checkSize_10 (by decide) ?_
  refine lv_icmp_ne (tgt := 19) hx hb dX12_checkSize_11 (by decide) (fun _ => ?_) (fun cc_2 => absurd cc_2 (fun q => h4 (by rw [q]; decide)))
  refine lv_iload_n hx hb dX12_checkSize_19 rfl (lv_at hl 0 rfl) ?_
  refine lv_bipush (v := 10) hx hb dX12_checkSize_20 (by decide) ?_
  refine lv_icmp_ne (tgt := 30) hx hb dX12_checkSize_22 (by decide) (fun _ => ?_) (fun cc_3 => absurd cc_3 (fun q => h10 (by rw [q]; decide)))
  refine lv_iconst (v := 0) hx hb dX12_checkSize_30 (by decide) ?_
  exact hk_iret (u := ()) hx hb hr hlocks (hw) (rfl) dX12_checkSize_31

def ww_cm_check1 : List Cond := Cond.code yX12_check cX12_check 5 (some .int) :: ([Cond.fieldLink RX12 111 "LzmaChainsModel" "thrown" "I", Cond.methodLink RX12 191 yX12_checkSize, Cond.static yX12_checkSize, Cond.initialized RX12, Cond.code yX12_checkSize cX12_checkSize 1 (some .int), Cond.methodLink RX12 199 yX12_beginCheck, Cond.instanceMethod yX12_beginCheck, Cond.selects RX12 yX12_beginCheck yX12_beginCheck, Cond.code yX12_beginCheck cX12_beginCheck 2 none, Cond.fieldLink RX12 171 "LzmaChainsModel" "checkNow" "I", Cond.methodLink RX12 174 yX12_begin32, Cond.instanceMethod yX12_begin32, Cond.selects RX12 yX12_begin32 yX12_begin32, Cond.code yX12_begin32 cX12_begin32 1 none, Cond.fieldLink RX12 132 "LzmaChainsModel" "sum32" "I", Cond.constantLong RX12 177 (-1), Cond.fieldLink RX12 135 "LzmaChainsModel" "sum64" "J", Cond.methodLink RX12 179 yX12_beginSha, Cond.instanceMethod yX12_beginSha, Cond.selects RX12 yX12_beginSha yX12_beginSha, Cond.code yX12_beginSha cX12_beginSha 1 none, Cond.fieldLink RX12 38 "LzmaChainsModel" "sha" "[I", Cond.constant RX12 141 1779033703, Cond.constant RX12 142 (-1150833019), Cond.constant RX12 143 1013904242, Cond.constant RX12 144 (-1521486534), Cond.constant RX12 145 1359893119, Cond.constant RX12 146 (-1694144372), Cond.constant RX12 147 528734635, Cond.constant RX12 148 1541459225, Cond.fieldLink RX12 149 "LzmaChainsModel" "shaFilled" "I", Cond.fieldLink RX12 152 "LzmaChainsModel" "shaAll" "J", Cond.fieldLink RX12 129 "LzmaChainsModel" "outSize" "I", Cond.methodLink RX12 205 yX12_endCheck, Cond.instanceMethod yX12_endCheck, Cond.selects RX12 yX12_endCheck yX12_endCheck, Cond.code yX12_endCheck cX12_endCheck 2 none, Cond.fieldLink RX12 44 "LzmaChainsModel" "checkByte" "[I", Cond.methodLink RX12 195 yX12_end32, Cond.instanceMethod yX12_end32, Cond.selects RX12 yX12_end32 yX12_end32, Cond.code yX12_end32 cX12_end32 1 (some .int)] ++ (wsX120 ++ ([])))
set_option maxRecDepth 20000 in
theorem gw_cm_check1_0 : GoodIn ww_cm_check1 (va_wsS RX12 191 yX12_checkSize ww_cn_size1) := goodIn_r _ [2, 3, 4, 5] rfl (by decide +kernel)
set_option maxRecDepth 20000 in
theorem gw_cm_check1_1 : GoodIn ww_cm_check1 (wsV RX12 199 RX12 yX12_beginCheck ww_cn_beginCheck) := goodIn_r _ [6, 7, 8, 4, 9, 10, 11, 12, 13, 4, 14, 15, 16, 17, 18, 19, 20, 21, 22, 23, 24, 25, 26, 27, 28, 29, 30, 31, 32, 43, 44, 45, 46, 47, 48, 49, 50, 51, 52, 53, 54, 55, 56, 57, 58, 59, 60, 61, 62, 63, 64, 65, 66, 67, 68, 69, 70, 71, 72, 73, 74, 75, 76, 77, 78, 79, 80, 81, 82, 83, 84, 85, 86, 87, 88, 89, 90, 91, 92, 93, 94, 95, 96, 97, 98, 99, 100, 101, 102, 103, 104, 105, 106, 107, 108, 109, 110, 111, 112, 113, 114, 115, 116, 117, 118, 119, 120, 121, 122, 123, 124, 125, 126, 127, 128, 129, 130, 131, 132, 133, 134] rfl (by decide +kernel)
set_option maxRecDepth 20000 in
theorem gw_cm_check1_2 : GoodIn ww_cm_check1 (wsV RX12 205 RX12 yX12_endCheck ww_cn_endCheck1) := goodIn_r _ [34, 35, 36, 4, 37, 10, 2, 3, 4, 5, 38, 39, 40, 41, 42, 15, 43, 44, 45, 46, 47, 48, 49, 50, 51, 52, 53, 54, 55, 56, 57, 58, 59, 60, 61, 62, 63, 64, 65, 66, 67, 68, 69, 70, 71, 72, 73, 74, 75, 76, 77, 78, 79, 80, 81, 82, 83, 84, 85, 86, 87, 88, 89, 90, 91, 92, 93, 94, 95, 96, 97, 98, 99, 100, 101, 102, 103, 104, 105, 106, 107, 108, 109, 110, 111, 112, 113, 114, 115, 116, 117, 118, 119, 120, 121, 122, 123, 124, 125, 126, 127, 128, 129, 130, 131, 132, 133, 134] rfl (by decide +kernel)
set_option maxHeartbeats 4000000 in
set_option maxRecDepth 100000 in
/-- the reference: check(1, i), new -/
theorem cm_check1 (l : Launch) (D : va_G) (cI cJ : ClassId) (ad : Nat → Nat) (fm : Int32) (ar : Nat → Nat → Int32) (bk : Nat → Int64) (sz : Nat) (i : Int32) : Met l yX12_check ww_cm_check1 { frames := 2, cells := 0, slots := 0, locals := 41 } (va_Pc [.ref (ad 0), .int 1, .int i] (hk_B D [(cI, .int), (cJ, .long)] sz (mw cI cJ ad (mf_g fm) mf_l ar bk))) (va_Qi (fun (r : Int32) (u : (Nat → Int32) × (Nat → Int64) × (Nat → Nat → Int32) × (Nat → Int64)) => r = hk_ckv 1 i) (fun u : (Nat → Int32) × (Nat → Int64) × (Nat → Nat → Int32) × (Nat → Int64) => hk_E D [(cI, .int), (cJ, .long)] (va_A (mw cI cJ ad (mf_g fm) mf_l ar bk) sz) (mw cI cJ ad u.1 u.2.1 u.2.2.1 u.2.2.2)) (va_A (mw cI cJ ad (mf_g fm) mf_l ar bk) sz)) 0 0 (va_A (mw cI cJ ad (mf_g fm) mf_l ar bk) sz) := by
  refine hk_met (cc := cX12_check) (maxL := 5) (ret := (some .int)) (by decide) rfl (Nat.le_of_ble_eq_true rfl) ?_
  intro p e s m below meth c ls hx hb hr hml hown hts hlocks hin hA hw hl
  have iX12 : ∀ w ∈ wsX120, w ∈ ww_cm_check1 := fun _ h => List.mem_cons_of_mem _ (List.mem_append_right _ (List.mem_append_left _ h))
  have hl : lv_has ls 5 [(0, .ref (ad 0)), (1, .int 1), (2, .int i)] := hl
  refine lv_aload_n hx hb dX12_check_0 rfl (lv_at hl 0 rfl) ?_
  refine lv_iconst (v := 0) hx hb dX12_check_1 (by decide) ?_
  refine hk_put (ci := 15) (C := RX12) (T := TX12) (N := 92) (ty := .int) (v := .int 0) hx hb hts iX12 tyX12 tyX12_ok nmX12 hown hw 0 rfl rfl 1 (by decide) (hts _ (List.mem_of_getElem? (i := 1) rfl)) rfl (by decide +kernel) rfl rfl (Nat.le_of_ble_eq_true rfl) dX12_check_2 (ws' := mw cI cJ ad (upd (mf_g fm) 1 0) mf_l ar bk) rfl (fun H locs hw => ?_)
  refine lv_iload_n hx hb dX12_check_5 rfl (lv_at hl 2 rfl) ?_
  refine lv_if_lt (tgt := 19) hx hb dX12_check_6 (by decide) (fun cc_1 => ?_) (fun cc_1 => ?_)
  · refine lv_iconst (v := (-1)) hx hb dX12_check_19 (by decide) ?_
    exact hk_iret (u := ((upd (mf_g fm) 1 0), mf_l, ar, bk)) hx hb hr hlocks (hw) (hk_ck1 (show ¬ i.toInt = 0 by simp only [Int32.lt_iff_toInt_lt, Int32.le_iff_toInt_le, ← Int32.toInt_inj, hk_t0, hk_t1, hk_t2, hk_t3, hk_t4, hk_t5, hk_t6, hk_t7, hk_t8, hk_t9, hk_t10, hk_t11, hk_t12, hk_t13, hk_t14, hk_t15, hk_t16, hk_t17, hk_t18, hk_t20, hk_t32, hk_tm1, hk_t256, hk_t1500, hk_t4096, hk_t2000, hk_t3000, hk_t512, hk_t1024, true_and, and_true, false_and, and_false, true_or, or_true, false_or, or_false, not_true_eq_false, not_false_eq_true] at cc_1 ⊢; omega)) dX12_check_20
  · refine lv_iload_n hx hb dX12_check_9 rfl (lv_at hl 2 rfl) ?_
    refine lv_iload_n hx hb dX12_check_10 rfl (lv_at hl 1 rfl) ?_
    refine hk_Si (As := [.int 1]) (rest := [.int i]) ⟨hx, hb, hml, hown, hts⟩ hw hA (cn_size1 l D cI cJ ad (upd (mf_g fm) 1 0) mf_l ar bk _) (va_cwS 1 hts gw_cm_check1_0 rfl rfl rfl (by decide +kernel) ⟨Nat.le_of_ble_eq_true rfl, Nat.le_of_ble_eq_true rfl⟩) rfl hl.1 rfl (Nat.le_of_ble_eq_true rfl) dX12_check_11 ⟨Nat.le_of_ble_eq_true rfl, Nat.le_of_ble_eq_true rfl⟩ (fun rr_2 uu_3 H locs hp_4 hw => ?_)
    subst hp_4
    have hw : hk_W D [(cI, .int), (cJ, .long)] _ s _ _ (mw cI cJ ad (upd (mf_g fm) 1 0) mf_l ar bk) := hw
    refine lv_iconst (v := 4) hx hb dX12_check_14 (by decide) ?_
    refine lv_idiv hx hb dX12_check_15 (by decide) ?_
    refine hk_topi 1 (by decide +kernel) ?_
    refine lv_icmp_lt (tgt := 21) hx hb dX12_check_16 (by decide) (fun cc_5 => ?_) (fun cc_5 => ?_)
    · rcases (show i.toInt = 0 by simp only [Int32.lt_iff_toInt_lt, Int32.le_iff_toInt_le, ← Int32.toInt_inj, hk_t0, hk_t1, hk_t2, hk_t3, hk_t4, hk_t5, hk_t6, hk_t7, hk_t8, hk_t9, hk_t10, hk_t11, hk_t12, hk_t13, hk_t14, hk_t15, hk_t16, hk_t17, hk_t18, hk_t20, hk_t32, hk_tm1, hk_t256, hk_t1500, hk_t4096, hk_t2000, hk_t3000, hk_t512, hk_t1024, true_and, and_true, false_and, and_false, true_or, or_true, false_or, or_false, not_true_eq_false, not_false_eq_true] at cc_1 cc_5 ⊢; omega) with q
      · obtain rfl : i = 0 := Int32.toInt_inj.mp (q.trans (by decide))
        refine lv_aload_n hx hb dX12_check_21 rfl (lv_at hl 0 rfl) ?_
        refine lv_iload_n hx hb dX12_check_22 rfl (lv_at hl 1 rfl) ?_
        refine hk_Vv (As := [.int 1]) (rest := []) ⟨hx, hb, hml, hown, hts⟩ hw hA (cn_beginCheck l D cI cJ ad (upd (mf_g fm) 1 0) mf_l ar bk _ 1) (cwV 1 hts gw_cm_check1_1 rfl rfl rfl (by decide +kernel) ⟨Nat.le_of_ble_eq_true rfl, Nat.le_of_ble_eq_true rfl⟩) 0 (ci := 15) (T := TX12) (N := 92) rfl rfl rfl hl.1 rfl (Nat.le_of_ble_eq_true rfl) dX12_check_23 ⟨Nat.le_of_ble_eq_true rfl, Nat.le_of_ble_eq_true rfl⟩ (fun uu_7 H locs hp_8 hw => ?_)
        have h8 := hp_8
        have hw : hk_W D [(cI, .int), (cJ, .long)] _ s _ _ (mw cI cJ ad (upd (upd (upd (upd (mf_g fm) 1 0) 16 1) 14 (-1)) 15 0) (vp_updL (vp_updL mf_l 0 (-1)) 1 0) (va_up ar 3 uu_7) bk) := hw
        refine lv_iconst (v := 0) hx hb dX12_check_26 (by decide) ?_
        refine lv_istore_n (lv' := [(3, .int 0), (0, .ref (ad 0)), (1, .int 1), (2, .int 0)]) hx hb dX12_check_27 rfl hl (by decide) rfl (fun ls hl => ?_)
        refine lv_iload_n hx hb dX12_check_28 rfl (lv_at hl 0 rfl) ?_
        refine lv_aload_n hx hb dX12_check_29 rfl (lv_at hl 1 rfl) ?_
        refine hk_get (ci := 15) (C := RX12) (T := TX12) (N := 92) (v := .int 0) hx hb hts iX12 hown hw 0 rfl rfl 15 (by decide) (hts _ (List.mem_of_getElem? (i := 33) rfl)) rfl dX12_check_30 ?_
        refine lv_icmp_ge (tgt := 52) hx hb dX12_check_33 (by decide) (fun _ => ?_) (fun cc_9 => absurd (by decide) cc_9)
        refine lv_aload_n hx hb dX12_check_52 rfl (lv_at hl 1 rfl) ?_
        refine hk_Vv (As := []) (rest := []) ⟨hx, hb, hml, hown, hts⟩ hw hA (cn_endCheck1 l D cI cJ ad (upd (upd (upd (upd (mf_g fm) 1 0) 16 1) 14 (-1)) 15 0) (vp_updL (vp_updL mf_l 0 (-1)) 1 0) (va_up ar 3 uu_7) bk _ rfl rfl) (cwV 0 hts gw_cm_check1_2 rfl rfl rfl (by decide +kernel) ⟨Nat.le_of_ble_eq_true rfl, Nat.le_of_ble_eq_true rfl⟩) 0 (ci := 15) (T := TX12) (N := 92) rfl rfl rfl hl.1 rfl (Nat.le_of_ble_eq_true rfl) dX12_check_53 ⟨Nat.le_of_ble_eq_true rfl, Nat.le_of_ble_eq_true rfl⟩ (fun uu_11 H locs hp_12 hw => ?_)
        have hC := hp_12
        have hw : hk_W D [(cI, .int), (cJ, .long)] _ s _ _ (mw cI cJ ad (upd (upd (upd (upd (mf_g fm) 1 0) 16 1) 14 (-1)) 15 0) (vp_updL (vp_updL mf_l 0 (-1)) 1 0) (va_up (va_up ar 3 uu_7) 5 uu_11) bk) := hw
        refine lv_iconst (v := 0) hx hb dX12_check_56 (by decide) ?_
        refine lv_istore_n (lv' := [(3, .int 0), (0, .ref (ad 0)), (1, .int 1), (2, .int 0)]) hx hb dX12_check_57 rfl hl (by decide) rfl (fun ls hl => ?_)
        refine lv_iconst (v := 0) hx hb dX12_check_58 (by decide) ?_
        refine lv_istore (lv' := [(4, .int 0), (3, .int 0), (0, .ref (ad 0)), (1, .int 1), (2, .int 0)]) hx hb dX12_check_59 hl (by decide) rfl (fun ls hl => ?_)
        refine lv_iload hx hb dX12_check_61 (lv_at hl 0 rfl) ?_
        refine lv_iconst (v := 4) hx hb dX12_check_63 (by decide) ?_
        refine lv_icmp_ge (tgt := 110) hx hb dX12_check_64 (by decide) (fun cc_13 => absurd cc_13 (by decide)) (fun _ => ?_)
        refine lv_iload_n hx hb dX12_check_67 rfl (lv_at hl 1 rfl) ?_
        refine lv_aload_n hx hb dX12_check_68 rfl (lv_at hl 2 rfl) ?_
        refine hk_get (ci := 15) (C := RX12) (T := TX12) (N := 92) (v := .ref (ad 6)) hx hb hts iX12 hown hw 0 rfl rfl 23 (by decide) (hts _ (List.mem_of_getElem? (i := 38) rfl)) rfl dX12_check_69 ?_
        refine lv_iconst (v := 4) hx hb dX12_check_72 (by decide) ?_
        refine lv_iload_n hx hb dX12_check_73 rfl (lv_at hl 4 rfl) ?_
        refine lv_imul hx hb dX12_check_74 ?_
        refine hk_topi 0 (by decide +kernel) ?_
        refine lv_iload hx hb dX12_check_75 (lv_at hl 0 rfl) ?_
        refine lv_iadd hx hb dX12_check_77 ?_
        refine hk_topi 0 (by decide +kernel) ?_
        refine hk_iald (v := 0) hx hb hw 6 0 rfl rfl (show ¬ (_ ∨ _) by decide) dX12_check_78 (hC 0 (by decide)) ?_
        refine lv_iload_n hx hb dX12_check_79 rfl (lv_at hl 3 rfl) ?_
        refine lv_bipush (v := 10) hx hb dX12_check_80 (by decide) ?_
        refine lv_icmp_ne (tgt := 96) hx hb dX12_check_82 (by decide) (fun _ => ?_) (fun cc_14 => absurd cc_14 (by decide))
        refine lv_bipush (v := 8) hx hb dX12_check_96 (by decide) ?_
        refine lv_iload hx hb dX12_check_98 (lv_at hl 0 rfl) ?_
        refine lv_imul hx hb dX12_check_100 ?_
        refine hk_topi 0 (by decide +kernel) ?_
        refine lv_ishl hx hb dX12_check_101 ?_
        refine lv_ior hx hb dX12_check_102 ?_
        refine lv_istore_n (lv' := [(3, .int (0 ||| ((0 : Int32) <<< ((0 : Int32) &&& 31)))), (4, .int 0), (0, .ref (ad 0)), (1, .int 1), (2, .int 0)]) hx hb dX12_check_103 rfl hl (by decide) rfl (fun ls hl => ?_)
        refine lv_iinc (v := 1) (lv' := [(4, .int 1), (3, .int (0 ||| ((0 : Int32) <<< ((0 : Int32) &&& 31)))), (0, .ref (ad 0)), (1, .int 1), (2, .int 0)]) hx hb dX12_check_104 hl (k := 1) rfl rfl (by decide) rfl (fun ls hl => ?_)
        refine lv_goto (tgt := 61) hx hb dX12_check_107 (by decide) ?_
        refine lv_iload hx hb dX12_check_61 (lv_at hl 0 rfl) ?_
        refine lv_iconst (v := 4) hx hb dX12_check_63 (by decide) ?_
        refine lv_icmp_ge (tgt := 110) hx hb dX12_check_64 (by decide) (fun cc_15 => absurd cc_15 (by decide)) (fun _ => ?_)
        refine lv_iload_n hx hb dX12_check_67 rfl (lv_at hl 1 rfl) ?_
        refine lv_aload_n hx hb dX12_check_68 rfl (lv_at hl 2 rfl) ?_
        refine hk_get (ci := 15) (C := RX12) (T := TX12) (N := 92) (v := .ref (ad 6)) hx hb hts iX12 hown hw 0 rfl rfl 23 (by decide) (hts _ (List.mem_of_getElem? (i := 38) rfl)) rfl dX12_check_69 ?_
        refine lv_iconst (v := 4) hx hb dX12_check_72 (by decide) ?_
        refine lv_iload_n hx hb dX12_check_73 rfl (lv_at hl 4 rfl) ?_
        refine lv_imul hx hb dX12_check_74 ?_
        refine hk_topi 0 (by decide +kernel) ?_
        refine lv_iload hx hb dX12_check_75 (lv_at hl 0 rfl) ?_
        refine lv_iadd hx hb dX12_check_77 ?_
        refine hk_topi 1 (by decide +kernel) ?_
        refine hk_iald (v := 0) hx hb hw 6 0 rfl rfl (show ¬ (_ ∨ _) by decide) dX12_check_78 (hC 1 (by decide)) ?_
        refine lv_iload_n hx hb dX12_check_79 rfl (lv_at hl 3 rfl) ?_
        refine lv_bipush (v := 10) hx hb dX12_check_80 (by decide) ?_
        refine lv_icmp_ne (tgt := 96) hx hb dX12_check_82 (by decide) (fun _ => ?_) (fun cc_16 => absurd cc_16 (by decide))
        refine lv_bipush (v := 8) hx hb dX12_check_96 (by decide) ?_
        refine lv_iload hx hb dX12_check_98 (lv_at hl 0 rfl) ?_
        refine lv_imul hx hb dX12_check_100 ?_
        refine hk_topi 8 (by decide +kernel) ?_
        refine lv_ishl hx hb dX12_check_101 ?_
        refine lv_ior hx hb dX12_check_102 ?_
        refine lv_istore_n (lv' := [(3, .int ((0 ||| ((0 : Int32) <<< ((0 : Int32) &&& 31))) ||| ((0 : Int32) <<< ((8 : Int32) &&& 31)))), (4, .int 1), (0, .ref (ad 0)), (1, .int 1), (2, .int 0)]) hx hb dX12_check_103 rfl hl (by decide) rfl (fun ls hl => ?_)
        refine lv_iinc (v := 2) (lv' := [(4, .int 2), (3, .int ((0 ||| ((0 : Int32) <<< ((0 : Int32) &&& 31))) ||| ((0 : Int32) <<< ((8 : Int32) &&& 31)))), (0, .ref (ad 0)), (1, .int 1), (2, .int 0)]) hx hb dX12_check_104 hl (k := 1) rfl rfl (by decide) rfl (fun ls hl => ?_)
        refine lv_goto (tgt := 61) hx hb dX12_check_107 (by decide) ?_
        refine lv_iload hx hb dX12_check_61 (lv_at hl 0 rfl) ?_
        refine lv_iconst (v := 4) hx hb dX12_check_63 (by decide) ?_
        refine lv_icmp_ge (tgt := 110) hx hb dX12_check_64 (by decide) (fun cc_17 => absurd cc_17 (by decide)) (fun _ => ?_)
        refine lv_iload_n hx hb dX12_check_67 rfl (lv_at hl 1 rfl) ?_
        refine lv_aload_n hx hb dX12_check_68 rfl (lv_at hl 2 rfl) ?_
        refine hk_get (ci := 15) (C := RX12) (T := TX12) (N := 92) (v := .ref (ad 6)) hx hb hts iX12 hown hw 0 rfl rfl 23 (by decide) (hts _ (List.mem_of_getElem? (i := 38) rfl)) rfl dX12_check_69 ?_
        refine lv_iconst (v := 4) hx hb dX12_check_72 (by decide) ?_
        refine lv_iload_n hx hb dX12_check_73 rfl (lv_at hl 4 rfl) ?_
        refine lv_imul hx hb dX12_check_74 ?_
        refine hk_topi 0 (by decide +kernel) ?_
        refine lv_iload hx hb dX12_check_75 (lv_at hl 0 rfl) ?_
        refine lv_iadd hx hb dX12_check_77 ?_
        refine hk_topi 2 (by decide +kernel) ?_
        refine hk_iald (v := 0) hx hb hw 6 0 rfl rfl (show ¬ (_ ∨ _) by decide) dX12_check_78 (hC 2 (by decide)) ?_
        refine lv_iload_n hx hb dX12_check_79 rfl (lv_at hl 3 rfl) ?_
        refine lv_bipush (v := 10) hx hb dX12_check_80 (by decide) ?_
        refine lv_icmp_ne (tgt := 96) hx hb dX12_check_82 (by decide) (fun _ => ?_) (fun cc_18 => absurd cc_18 (by decide))
        refine lv_bipush (v := 8) hx hb dX12_check_96 (by decide) ?_
        refine lv_iload hx hb dX12_check_98 (lv_at hl 0 rfl) ?_
        refine lv_imul hx hb dX12_check_100 ?_
        refine hk_topi 16 (by decide +kernel) ?_
        refine lv_ishl hx hb dX12_check_101 ?_
        refine lv_ior hx hb dX12_check_102 ?_
        refine lv_istore_n (lv' := [(3, .int (((0 ||| ((0 : Int32) <<< ((0 : Int32) &&& 31))) ||| ((0 : Int32) <<< ((8 : Int32) &&& 31))) ||| ((0 : Int32) <<< ((16 : Int32) &&& 31)))), (4, .int 2), (0, .ref (ad 0)), (1, .int 1), (2, .int 0)]) hx hb dX12_check_103 rfl hl (by decide) rfl (fun ls hl => ?_)
        refine lv_iinc (v := 3) (lv' := [(4, .int 3), (3, .int (((0 ||| ((0 : Int32) <<< ((0 : Int32) &&& 31))) ||| ((0 : Int32) <<< ((8 : Int32) &&& 31))) ||| ((0 : Int32) <<< ((16 : Int32) &&& 31)))), (0, .ref (ad 0)), (1, .int 1), (2, .int 0)]) hx hb dX12_check_104 hl (k := 1) rfl rfl (by decide) rfl (fun ls hl => ?_)
        refine lv_goto (tgt := 61) hx hb dX12_check_107 (by decide) ?_
        refine lv_iload hx hb dX12_check_61 (lv_at hl 0 rfl) ?_
        refine lv_iconst (v := 4) hx hb dX12_check_63 (by decide) ?_
        refine lv_icmp_ge (tgt := 110) hx hb dX12_check_64 (by decide) (fun cc_19 => absurd cc_19 (by decide)) (fun _ => ?_)
        refine lv_iload_n hx hb dX12_check_67 rfl (lv_at hl 1 rfl) ?_
        refine lv_aload_n hx hb dX12_check_68 rfl (lv_at hl 2 rfl) ?_
        refine hk_get (ci := 15) (C := RX12) (T := TX12) (N := 92) (v := .ref (ad 6)) hx hb hts iX12 hown hw 0 rfl rfl 23 (by decide) (hts _ (List.mem_of_getElem? (i := 38) rfl)) rfl dX12_check_69 ?_
        refine lv_iconst (v := 4) hx hb dX12_check_72 (by decide) ?_
        refine lv_iload_n hx hb dX12_check_73 rfl (lv_at hl 4 rfl) ?_
        refine lv_imul hx hb dX12_check_74 ?_
        refine hk_topi 0 (by decide +kernel) ?_
        refine lv_iload hx hb dX12_check_75 (lv_at hl 0 rfl) ?_
        refine lv_iadd hx hb dX12_check_77 ?_
        refine hk_topi 3 (by decide +kernel) ?_
        refine hk_iald (v := 0) hx hb hw 6 0 rfl rfl (show ¬ (_ ∨ _) by decide) dX12_check_78 (hC 3 (by decide)) ?_
        refine lv_iload_n hx hb dX12_check_79 rfl (lv_at hl 3 rfl) ?_
        refine lv_bipush (v := 10) hx hb dX12_check_80 (by decide) ?_
        refine lv_icmp_ne (tgt := 96) hx hb dX12_check_82 (by decide) (fun _ => ?_) (fun cc_20 => absurd cc_20 (by decide))
        refine lv_bipush (v := 8) hx hb dX12_check_96 (by decide) ?_
        refine lv_iload hx hb dX12_check_98 (lv_at hl 0 rfl) ?_
        refine lv_imul hx hb dX12_check_100 ?_
        refine hk_topi 24 (by decide +kernel) ?_
        refine lv_ishl hx hb dX12_check_101 ?_
        refine lv_ior hx hb dX12_check_102 ?_
        refine lv_istore_n (lv' := [(3, .int ((((0 ||| ((0 : Int32) <<< ((0 : Int32) &&& 31))) ||| ((0 : Int32) <<< ((8 : Int32) &&& 31))) ||| ((0 : Int32) <<< ((16 : Int32) &&& 31))) ||| ((0 : Int32) <<< ((24 : Int32) &&& 31)))), (4, .int 3), (0, .ref (ad 0)), (1, .int 1), (2, .int 0)]) hx hb dX12_check_103 rfl hl (by decide) rfl (fun ls hl => ?_)
        refine lv_iinc (v := 4) (lv' := [(4, .int 4), (3, .int ((((0 ||| ((0 : Int32) <<< ((0 : Int32) &&& 31))) ||| ((0 : Int32) <<< ((8 : Int32) &&& 31))) ||| ((0 : Int32) <<< ((16 : Int32) &&& 31))) ||| ((0 : Int32) <<< ((24 : Int32) &&& 31)))), (0, .ref (ad 0)), (1, .int 1), (2, .int 0)]) hx hb dX12_check_104 hl (k := 1) rfl rfl (by decide) rfl (fun ls hl => ?_)
        refine lv_goto (tgt := 61) hx hb dX12_check_107 (by decide) ?_
        refine lv_iload hx hb dX12_check_61 (lv_at hl 0 rfl) ?_
        refine lv_iconst (v := 4) hx hb dX12_check_63 (by decide) ?_
        refine lv_icmp_ge (tgt := 110) hx hb dX12_check_64 (by decide) (fun _ => ?_) (fun cc_21 => absurd (by decide) cc_21)
        refine lv_iload_n hx hb dX12_check_110 rfl (lv_at hl 1 rfl) ?_
        exact hk_iret (u := ((upd (upd (upd (upd (mf_g fm) 1 0) 16 1) 14 (-1)) 15 0), (vp_updL (vp_updL mf_l 0 (-1)) 1 0), (va_up (va_up ar 3 uu_7) 5 uu_11), bk)) hx hb hr hlocks (hw) (by decide +kernel) dX12_check_111
    · refine lv_iconst (v := (-1)) hx hb dX12_check_19 (by decide) ?_
      exact hk_iret (u := ((upd (mf_g fm) 1 0), mf_l, ar, bk)) hx hb hr hlocks (hw) (hk_ck1 (show ¬ i.toInt = 0 by simp only [Int32.lt_iff_toInt_lt, Int32.le_iff_toInt_le, ← Int32.toInt_inj, hk_t0, hk_t1, hk_t2, hk_t3, hk_t4, hk_t5, hk_t6, hk_t7, hk_t8, hk_t9, hk_t10, hk_t11, hk_t12, hk_t13, hk_t14, hk_t15, hk_t16, hk_t17, hk_t18, hk_t20, hk_t32, hk_tm1, hk_t256, hk_t1500, hk_t4096, hk_t2000, hk_t3000, hk_t512, hk_t1024, true_and, and_true, false_and, and_false, true_or, or_true, false_or, or_false, not_true_eq_false, not_false_eq_true] at cc_1 cc_5 ⊢; omega)) dX12_check_20

def ww_cm_check4 : List Cond := Cond.code yX12_check cX12_check 5 (some .int) :: ([Cond.fieldLink RX12 111 "LzmaChainsModel" "thrown" "I", Cond.methodLink RX12 191 yX12_checkSize, Cond.static yX12_checkSize, Cond.initialized RX12, Cond.code yX12_checkSize cX12_checkSize 1 (some .int), Cond.methodLink RX12 199 yX12_beginCheck, Cond.instanceMethod yX12_beginCheck, Cond.selects RX12 yX12_beginCheck yX12_beginCheck, Cond.code yX12_beginCheck cX12_beginCheck 2 none, Cond.fieldLink RX12 171 "LzmaChainsModel" "checkNow" "I", Cond.methodLink RX12 174 yX12_begin32, Cond.instanceMethod yX12_begin32, Cond.selects RX12 yX12_begin32 yX12_begin32, Cond.code yX12_begin32 cX12_begin32 1 none, Cond.fieldLink RX12 132 "LzmaChainsModel" "sum32" "I", Cond.constantLong RX12 177 (-1), Cond.fieldLink RX12 135 "LzmaChainsModel" "sum64" "J", Cond.methodLink RX12 179 yX12_beginSha, Cond.instanceMethod yX12_beginSha, Cond.selects RX12 yX12_beginSha yX12_beginSha, Cond.code yX12_beginSha cX12_beginSha 1 none, Cond.fieldLink RX12 38 "LzmaChainsModel" "sha" "[I", Cond.constant RX12 141 1779033703, Cond.constant RX12 142 (-1150833019), Cond.constant RX12 143 1013904242, Cond.constant RX12 144 (-1521486534), Cond.constant RX12 145 1359893119, Cond.constant RX12 146 (-1694144372), Cond.constant RX12 147 528734635, Cond.constant RX12 148 1541459225, Cond.fieldLink RX12 149 "LzmaChainsModel" "shaFilled" "I", Cond.fieldLink RX12 152 "LzmaChainsModel" "shaAll" "J", Cond.fieldLink RX12 129 "LzmaChainsModel" "outSize" "I", Cond.methodLink RX12 205 yX12_endCheck, Cond.instanceMethod yX12_endCheck, Cond.selects RX12 yX12_endCheck yX12_endCheck, Cond.code yX12_endCheck cX12_endCheck 2 none, Cond.fieldLink RX12 44 "LzmaChainsModel" "checkByte" "[I"] ++ (wsX120 ++ ([])))
set_option maxRecDepth 20000 in
theorem gw_cm_check4_0 : GoodIn ww_cm_check4 (va_wsS RX12 191 yX12_checkSize ww_cn_size4) := goodIn_r _ [2, 3, 4, 5] rfl (by decide +kernel)
set_option maxRecDepth 20000 in
theorem gw_cm_check4_1 : GoodIn ww_cm_check4 (wsV RX12 199 RX12 yX12_beginCheck ww_cn_beginCheck) := goodIn_r _ [6, 7, 8, 4, 9, 10, 11, 12, 13, 4, 14, 15, 16, 17, 18, 19, 20, 21, 22, 23, 24, 25, 26, 27, 28, 29, 30, 31, 32, 39, 40, 41, 42, 43, 44, 45, 46, 47, 48, 49, 50, 51, 52, 53, 54, 55, 56, 57, 58, 59, 60, 61, 62, 63, 64, 65, 66, 67, 68, 69, 70, 71, 72, 73, 74, 75, 76, 77, 78, 79, 80, 81, 82, 83, 84, 85, 86, 87, 88, 89, 90, 91, 92, 93, 94, 95, 96, 97, 98, 99, 100, 101, 102, 103, 104, 105, 106, 107, 108, 109, 110, 111, 112, 113, 114, 115, 116, 117, 118, 119, 120, 121, 122, 123, 124, 125, 126, 127, 128, 129, 130] rfl (by decide +kernel)
set_option maxRecDepth 20000 in
theorem gw_cm_check4_2 : GoodIn ww_cm_check4 (wsV RX12 205 RX12 yX12_endCheck ww_cn_endCheck4) := goodIn_r _ [34, 35, 36, 4, 37, 10, 2, 3, 4, 5, 38, 17, 16, 39, 40, 41, 42, 43, 44, 45, 46, 47, 48, 49, 50, 51, 52, 53, 54, 55, 56, 57, 58, 59, 60, 61, 62, 63, 64, 65, 66, 67, 68, 69, 70, 71, 72, 73, 74, 75, 76, 77, 78, 79, 80, 81, 82, 83, 84, 85, 86, 87, 88, 89, 90, 91, 92, 93, 94, 95, 96, 97, 98, 99, 100, 101, 102, 103, 104, 105, 106, 107, 108, 109, 110, 111, 112, 113, 114, 115, 116, 117, 118, 119, 120, 121, 122, 123, 124, 125, 126, 127, 128, 129, 130] rfl (by decide +kernel)
set_option maxHeartbeats 4000000 in
set_option maxRecDepth 100000 in
/-- the reference: check(4, i), new -/
theorem cm_check4 (l : Launch) (D : va_G) (cI cJ : ClassId) (ad : Nat → Nat) (fm : Int32) (ar : Nat → Nat → Int32) (bk : Nat → Int64) (sz : Nat) (i : Int32) : Met l yX12_check ww_cm_check4 { frames := 2, cells := 0, slots := 0, locals := 41 } (va_Pc [.ref (ad 0), .int 4, .int i] (hk_B D [(cI, .int), (cJ, .long)] sz (mw cI cJ ad (mf_g fm) mf_l ar bk))) (va_Qi (fun (r : Int32) (u : (Nat → Int32) × (Nat → Int64) × (Nat → Nat → Int32) × (Nat → Int64)) => r = hk_ckv 4 i) (fun u : (Nat → Int32) × (Nat → Int64) × (Nat → Nat → Int32) × (Nat → Int64) => hk_E D [(cI, .int), (cJ, .long)] (va_A (mw cI cJ ad (mf_g fm) mf_l ar bk) sz) (mw cI cJ ad u.1 u.2.1 u.2.2.1 u.2.2.2)) (va_A (mw cI cJ ad (mf_g fm) mf_l ar bk) sz)) 0 0 (va_A (mw cI cJ ad (mf_g fm) mf_l ar bk) sz) := by
  refine hk_met (cc := cX12_check) (maxL := 5) (ret := (some .int)) (by decide) rfl (Nat.le_of_ble_eq_true rfl) ?_
  intro p e s m below meth c ls hx hb hr hml hown hts hlocks hin hA hw hl
  have iX12 : ∀ w ∈ wsX120, w ∈ ww_cm_check4 := fun _ h => List.mem_cons_of_mem _ (List.mem_append_right _ (List.mem_append_left _ h))
  have hl : lv_has ls 5 [(0, .ref (ad 0)), (1, .int 4), (2, .int i)] := hl
  refine lv_aload_n hx hb dX12_check_0 rfl (lv_at hl 0 rfl) ?_
  refine lv_iconst (v := 0) hx hb dX12_check_1 (by decide) ?_
  refine hk_put (ci := 15) (C := RX12) (T := TX12) (N := 92) (ty := .int) (v := .int 0) hx hb hts iX12 tyX12 tyX12_ok nmX12 hown hw 0 rfl rfl 1 (by decide) (hts _ (List.mem_of_getElem? (i := 1) rfl)) rfl (by decide +kernel) rfl rfl (Nat.le_of_ble_eq_true rfl) dX12_check_2 (ws' := mw cI cJ ad (upd (mf_g fm) 1 0) mf_l ar bk) rfl (fun H locs hw => ?_)
  refine lv_iload_n hx hb dX12_check_5 rfl (lv_at hl 2 rfl) ?_
  refine lv_if_lt (tgt := 19) hx hb dX12_check_6 (by decide) (fun cc_1 => ?_) (fun cc_1 => ?_)
  · refine lv_iconst (v := (-1)) hx hb dX12_check_19 (by decide) ?_
    exact hk_iret (u := ((upd (mf_g fm) 1 0), mf_l, ar, bk)) hx hb hr hlocks (hw) (hk_ck4 (show ¬ i.toInt = 0 by simp only [Int32.lt_iff_toInt_lt, Int32.le_iff_toInt_le, ← Int32.toInt_inj, hk_t0, hk_t1, hk_t2, hk_t3, hk_t4, hk_t5, hk_t6, hk_t7, hk_t8, hk_t9, hk_t10, hk_t11, hk_t12, hk_t13, hk_t14, hk_t15, hk_t16, hk_t17, hk_t18, hk_t20, hk_t32, hk_tm1, hk_t256, hk_t1500, hk_t4096, hk_t2000, hk_t3000, hk_t512, hk_t1024, true_and, and_true, false_and, and_false, true_or, or_true, false_or, or_false, not_true_eq_false, not_false_eq_true] at cc_1 ⊢; omega) (show ¬ i.toInt = 1 by simp only [Int32.lt_iff_toInt_lt, Int32.le_iff_toInt_le, ← Int32.toInt_inj, hk_t0, hk_t1, hk_t2, hk_t3, hk_t4, hk_t5, hk_t6, hk_t7, hk_t8, hk_t9, hk_t10, hk_t11, hk_t12, hk_t13, hk_t14, hk_t15, hk_t16, hk_t17, hk_t18, hk_t20, hk_t32, hk_tm1, hk_t256, hk_t1500, hk_t4096, hk_t2000, hk_t3000, hk_t512, hk_t1024, true_and, and_true, false_and, and_false, true_or, or_true, false_or, or_false, not_true_eq_false, not_false_eq_true] at cc_1 ⊢; omega)) dX12_check_20
  · refine lv_iload_n hx hb dX12_check_9 rfl (lv_at hl 2 rfl) ?_
    refine lv_iload_n hx hb dX12_check_10 rfl (lv_at hl 1 rfl) ?_
    refine hk_Si (As := [.int 4]) (rest := [.int i]) ⟨hx, hb, hml, hown, hts⟩ hw hA (cn_size4 l D cI cJ ad (upd (mf_g fm) 1 0) mf_l ar bk _) (va_cwS 1 hts gw_cm_check4_0 rfl rfl rfl (by decide +kernel) ⟨Nat.le_of_ble_eq_true rfl, Nat.le_of_ble_eq_true rfl⟩) rfl hl.1 rfl (Nat.le_of_ble_eq_true rfl) dX12_check_11 ⟨Nat.le_of_ble_eq_true rfl, Nat.le_of_ble_eq_true rfl⟩ (fun rr_2 uu_3 H locs hp_4 hw => ?_)
    subst hp_4
    have hw : hk_W D [(cI, .int), (cJ, .long)] _ s _ _ (mw cI cJ ad (upd (mf_g fm) 1 0) mf_l ar bk) := hw
    refine lv_iconst (v := 4) hx hb dX12_check_14 (by decide) ?_
    refine lv_idiv hx hb dX12_check_15 (by decide) ?_
    refine hk_topi 2 (by decide +kernel) ?_
    refine lv_icmp_lt (tgt := 21) hx hb dX12_check_16 (by decide) (fun cc_5 => ?_) (fun cc_5 => ?_)
    · refine lv_aload_n hx hb dX12_check_21 rfl (lv_at hl 0 rfl) ?_
      refine lv_iload_n hx hb dX12_check_22 rfl (lv_at hl 1 rfl) ?_
      refine hk_Vv (As := [.int 4]) (rest := []) ⟨hx, hb, hml, hown, hts⟩ hw hA (cn_beginCheck l D cI cJ ad (upd (mf_g fm) 1 0) mf_l ar bk _ 4) (cwV 1 hts gw_cm_check4_1 rfl rfl rfl (by decide +kernel) ⟨Nat.le_of_ble_eq_true rfl, Nat.le_of_ble_eq_true rfl⟩) 0 (ci := 15) (T := TX12) (N := 92) rfl rfl rfl hl.1 rfl (Nat.le_of_ble_eq_true rfl) dX12_check_23 ⟨Nat.le_of_ble_eq_true rfl, Nat.le_of_ble_eq_true rfl⟩ (fun uu_7 H locs hp_8 hw => ?_)
      have h8 := hp_8
      have hw : hk_W D [(cI, .int), (cJ, .long)] _ s _ _ (mw cI cJ ad (upd (upd (upd (upd (mf_g fm) 1 0) 16 4) 14 (-1)) 15 0) (vp_updL (vp_updL mf_l 0 (-1)) 1 0) (va_up ar 3 uu_7) bk) := hw
      refine lv_iconst (v := 0) hx hb dX12_check_26 (by decide) ?_
      refine lv_istore_n (lv' := [(3, .int 0), (0, .ref (ad 0)), (1, .int 4), (2, .int i)]) hx hb dX12_check_27 rfl hl (by decide) rfl (fun ls hl => ?_)
      refine lv_iload_n hx hb dX12_check_28 rfl (lv_at hl 0 rfl) ?_
      refine lv_aload_n hx hb dX12_check_29 rfl (lv_at hl 1 rfl) ?_
      refine hk_get (ci := 15) (C := RX12) (T := TX12) (N := 92) (v := .int 0) hx hb hts iX12 hown hw 0 rfl rfl 15 (by decide) (hts _ (List.mem_of_getElem? (i := 33) rfl)) rfl dX12_check_30 ?_
      refine lv_icmp_ge (tgt := 52) hx hb dX12_check_33 (by decide) (fun _ => ?_) (fun cc_9 => absurd (by decide) cc_9)
      refine lv_aload_n hx hb dX12_check_52 rfl (lv_at hl 1 rfl) ?_
      refine hk_Vv (As := []) (rest := []) ⟨hx, hb, hml, hown, hts⟩ hw hA (cn_endCheck4 l D cI cJ ad (upd (upd (upd (upd (mf_g fm) 1 0) 16 4) 14 (-1)) 15 0) (vp_updL (vp_updL mf_l 0 (-1)) 1 0) (va_up ar 3 uu_7) bk _ rfl rfl) (cwV 0 hts gw_cm_check4_2 rfl rfl rfl (by decide +kernel) ⟨Nat.le_of_ble_eq_true rfl, Nat.le_of_ble_eq_true rfl⟩) 0 (ci := 15) (T := TX12) (N := 92) rfl rfl rfl hl.1 rfl (Nat.le_of_ble_eq_true rfl) dX12_check_53 ⟨Nat.le_of_ble_eq_true rfl, Nat.le_of_ble_eq_true rfl⟩ (fun uu_11 H locs hp_12 hw => ?_)
      have hC := hp_12
      have hw : hk_W D [(cI, .int), (cJ, .long)] _ s _ _ (mw cI cJ ad (upd (upd (upd (upd (mf_g fm) 1 0) 16 4) 14 (-1)) 15 0) (vp_updL (vp_updL mf_l 0 (-1)) 1 0) (va_up (va_up ar 3 uu_7) 5 uu_11) bk) := hw
      rcases (show i.toInt = 0 ∨ i.toInt = 1 by simp only [Int32.lt_iff_toInt_lt, Int32.le_iff_toInt_le, ← Int32.toInt_inj, hk_t0, hk_t1, hk_t2, hk_t3, hk_t4, hk_t5, hk_t6, hk_t7, hk_t8, hk_t9, hk_t10, hk_t11, hk_t12, hk_t13, hk_t14, hk_t15, hk_t16, hk_t17, hk_t18, hk_t20, hk_t32, hk_tm1, hk_t256, hk_t1500, hk_t4096, hk_t2000, hk_t3000, hk_t512, hk_t1024, true_and, and_true, false_and, and_false, true_or, or_true, false_or, or_false, not_true_eq_false, not_false_eq_true] at cc_1 cc_5 ⊢; omega) with q | q
      · obtain rfl : i = 0 := Int32.toInt_inj.mp (q.trans (by decide))
        refine lv_iconst (v := 0) hx hb dX12_check_56 (by decide) ?_
        refine lv_istore_n (lv' := [(3, .int 0), (0, .ref (ad 0)), (1, .int 4), (2, .int 0)]) hx hb dX12_check_57 rfl hl (by decide) rfl (fun ls hl => ?_)
        refine lv_iconst (v := 0) hx hb dX12_check_58 (by decide) ?_
        refine lv_istore (lv' := [(4, .int 0), (3, .int 0), (0, .ref (ad 0)), (1, .int 4), (2, .int 0)]) hx hb dX12_check_59 hl (by decide) rfl (fun ls hl => ?_)
        refine lv_iload hx hb dX12_check_61 (lv_at hl 0 rfl) ?_
        refine lv_iconst (v := 4) hx hb dX12_check_63 (by decide) ?_
        refine lv_icmp_ge (tgt := 110) hx hb dX12_check_64 (by decide) (fun cc_13 => absurd cc_13 (by decide)) (fun _ => ?_)
        refine lv_iload_n hx hb dX12_check_67 rfl (lv_at hl 1 rfl) ?_
        refine lv_aload_n hx hb dX12_check_68 rfl (lv_at hl 2 rfl) ?_
        refine hk_get (ci := 15) (C := RX12) (T := TX12) (N := 92) (v := .ref (ad 6)) hx hb hts iX12 hown hw 0 rfl rfl 23 (by decide) (hts _ (List.mem_of_getElem? (i := 38) rfl)) rfl dX12_check_69 ?_
        refine lv_iconst (v := 4) hx hb dX12_check_72 (by decide) ?_
        refine lv_iload_n hx hb dX12_check_73 rfl (lv_at hl 4 rfl) ?_
        refine lv_imul hx hb dX12_check_74 ?_
        refine hk_topi 0 (by decide +kernel) ?_
        refine lv_iload hx hb dX12_check_75 (lv_at hl 0 rfl) ?_
        refine lv_iadd hx hb dX12_check_77 ?_
        refine hk_topi 0 (by decide +kernel) ?_
        refine hk_iald (v := 0) hx hb hw 6 0 rfl rfl (show ¬ (_ ∨ _) by decide) dX12_check_78 (hC 0 (by decide)) ?_
        refine lv_iload_n hx hb dX12_check_79 rfl (lv_at hl 3 rfl) ?_
        refine lv_bipush (v := 10) hx hb dX12_check_80 (by decide) ?_
        refine lv_icmp_ne (tgt := 96) hx hb dX12_check_82 (by decide) (fun _ => ?_) (fun cc_14 => absurd cc_14 (by decide))
        refine lv_bipush (v := 8) hx hb dX12_check_96 (by decide) ?_
        refine lv_iload hx hb dX12_check_98 (lv_at hl 0 rfl) ?_
        refine lv_imul hx hb dX12_check_100 ?_
        refine hk_topi 0 (by decide +kernel) ?_
        refine lv_ishl hx hb dX12_check_101 ?_
        refine lv_ior hx hb dX12_check_102 ?_
        refine lv_istore_n (lv' := [(3, .int (0 ||| ((0 : Int32) <<< ((0 : Int32) &&& 31)))), (4, .int 0), (0, .ref (ad 0)), (1, .int 4), (2, .int 0)]) hx hb dX12_check_103 rfl hl (by decide) rfl (fun ls hl => ?_)
        refine lv_iinc (v := 1) (lv' := [(4, .int 1), (3, .int (0 ||| ((0 : Int32) <<< ((0 : Int32) &&& 31)))), (0, .ref (ad 0)), (1, .int 4), (2, .int 0)]) hx hb dX12_check_104 hl (k := 1) rfl rfl (by decide) rfl (fun ls hl => ?_)
        refine lv_goto (tgt := 61) hx hb dX12_check_107 (by decide) ?_
        refine lv_iload hx hb dX12_check_61 (lv_at hl 0 rfl) ?_
        refine lv_iconst (v := 4) hx hb dX12_check_63 (by decide) ?_
        refine lv_icmp_ge (tgt := 110) hx hb dX12_check_64 (by decide) (fun cc_15 => absurd cc_15 (by decide)) (fun _ => ?_)
        refine lv_iload_n hx hb dX12_check_67 rfl (lv_at hl 1 rfl) ?_
        refine lv_aload_n hx hb dX12_check_68 rfl (lv_at hl 2 rfl) ?_
        refine hk_get (ci := 15) (C := RX12) (T := TX12) (N := 92) (v := .ref (ad 6)) hx hb hts iX12 hown hw 0 rfl rfl 23 (by decide) (hts _ (List.mem_of_getElem? (i := 38) rfl)) rfl dX12_check_69 ?_
        refine lv_iconst (v := 4) hx hb dX12_check_72 (by decide) ?_
        refine lv_iload_n hx hb dX12_check_73 rfl (lv_at hl 4 rfl) ?_
        refine lv_imul hx hb dX12_check_74 ?_
        refine hk_topi 0 (by decide +kernel) ?_
        refine lv_iload hx hb dX12_check_75 (lv_at hl 0 rfl) ?_
        refine lv_iadd hx hb dX12_check_77 ?_
        refine hk_topi 1 (by decide +kernel) ?_
        refine hk_iald (v := 0) hx hb hw 6 0 rfl rfl (show ¬ (_ ∨ _) by decide) dX12_check_78 (hC 1 (by decide)) ?_
        refine lv_iload_n hx hb dX12_check_79 rfl (lv_at hl 3 rfl) ?_
        refine lv_bipush (v := 10) hx hb dX12_check_80 (by decide) ?_
        refine lv_icmp_ne (tgt := 96) hx hb dX12_check_82 (by decide) (fun _ => ?_) (fun cc_16 => absurd cc_16 (by decide))
        refine lv_bipush (v := 8) hx hb dX12_check_96 (by decide) ?_
        refine lv_iload hx hb dX12_check_98 (lv_at hl 0 rfl) ?_
        refine lv_imul hx hb dX12_check_100 ?_
        refine hk_topi 8 (by decide +kernel) ?_
        refine lv_ishl hx hb dX12_check_101 ?_
        refine lv_ior hx hb dX12_check_102 ?_
        refine lv_istore_n (lv' := [(3, .int ((0 ||| ((0 : Int32) <<< ((0 : Int32) &&& 31))) ||| ((0 : Int32) <<< ((8 : Int32) &&& 31)))), (4, .int 1), (0, .ref (ad 0)), (1, .int 4), (2, .int 0)]) hx hb dX12_check_103 rfl hl (by decide) rfl (fun ls hl => ?_)
        refine lv_iinc (v := 2) (lv' := [(4, .int 2), (3, .int ((0 ||| ((0 : Int32) <<< ((0 : Int32) &&& 31))) ||| ((0 : Int32) <<< ((8 : Int32) &&& 31)))), (0, .ref (ad 0)), (1, .int 4), (2, .int 0)]) hx hb dX12_check_104 hl (k := 1) rfl rfl (by decide) rfl (fun ls hl => ?_)
        refine lv_goto (tgt := 61) hx hb dX12_check_107 (by decide) ?_
        refine lv_iload hx hb dX12_check_61 (lv_at hl 0 rfl) ?_
        refine lv_iconst (v := 4) hx hb dX12_check_63 (by decide) ?_
        refine lv_icmp_ge (tgt := 110) hx hb dX12_check_64 (by decide) (fun cc_17 => absurd cc_17 (by decide)) (fun _ => ?_)
        refine lv_iload_n hx hb dX12_check_67 rfl (lv_at hl 1 rfl) ?_
        refine lv_aload_n hx hb dX12_check_68 rfl (lv_at hl 2 rfl) ?_
        refine hk_get (ci := 15) (C := RX12) (T := TX12) (N := 92) (v := .ref (ad 6)) hx hb hts iX12 hown hw 0 rfl rfl 23 (by decide) (hts _ (List.mem_of_getElem? (i := 38) rfl)) rfl dX12_check_69 ?_
        refine lv_iconst (v := 4) hx hb dX12_check_72 (by decide) ?_
        refine lv_iload_n hx hb dX12_check_73 rfl (lv_at hl 4 rfl) ?_
        refine lv_imul hx hb dX12_check_74 ?_
        refine hk_topi 0 (by decide +kernel) ?_
        refine lv_iload hx hb dX12_check_75 (lv_at hl 0 rfl) ?_
        refine lv_iadd hx hb dX12_check_77 ?_
        refine hk_topi 2 (by decide +kernel) ?_
        refine hk_iald (v := 0) hx hb hw 6 0 rfl rfl (show ¬ (_ ∨ _) by decide) dX12_check_78 (hC 2 (by decide)) ?_
        refine lv_iload_n hx hb dX12_check_79 rfl (lv_at hl 3 rfl) ?_
        refine lv_bipush (v := 10) hx hb dX12_check_80 (by decide) ?_
        refine lv_icmp_ne (tgt := 96) hx hb dX12_check_82 (by decide) (fun _ => ?_) (fun cc_18 => absurd cc_18 (by decide))
        refine lv_bipush (v := 8) hx hb dX12_check_96 (by decide) ?_
        refine lv_iload hx hb dX12_check_98 (lv_at hl 0 rfl) ?_
        refine lv_imul hx hb dX12_check_100 ?_
        refine hk_topi 16 (by decide +kernel) ?_
        refine lv_ishl hx hb dX12_check_101 ?_
        refine lv_ior hx hb dX12_check_102 ?_
        refine lv_istore_n (lv' := [(3, .int (((0 ||| ((0 : Int32) <<< ((0 : Int32) &&& 31))) ||| ((0 : Int32) <<< ((8 : Int32) &&& 31))) ||| ((0 : Int32) <<< ((16 : Int32) &&& 31)))), (4, .int 2), (0, .ref (ad 0)), (1, .int 4), (2, .int 0)]) hx hb dX12_check_103 rfl hl (by decide) rfl (fun ls hl => ?_)
        refine lv_iinc (v := 3) (lv' := [(4, .int 3), (3, .int (((0 ||| ((0 : Int32) <<< ((0 : Int32) &&& 31))) ||| ((0 : Int32) <<< ((8 : Int32) &&& 31))) ||| ((0 : Int32) <<< ((16 : Int32) &&& 31)))), (0, .ref (ad 0)), (1, .int 4), (2, .int 0)]) hx hb dX12_check_104 hl (k := 1) rfl rfl (by decide) rfl (fun ls hl => ?_)
        refine lv_goto (tgt := 61) hx hb dX12_check_107 (by decide) ?_
        refine lv_iload hx hb dX12_check_61 (lv_at hl 0 rfl) ?_
        refine lv_iconst (v := 4) hx hb dX12_check_63 (by decide) ?_
        refine lv_icmp_ge (tgt := 110) hx hb dX12_check_64 (by decide) (fun cc_19 => absurd cc_19 (by decide)) (fun _ => ?_)
        refine lv_iload_n hx hb dX12_check_67 rfl (lv_at hl 1 rfl) ?_
        refine lv_aload_n hx hb dX12_check_68 rfl (lv_at hl 2 rfl) ?_
        refine hk_get (ci := 15) (C := RX12) (T := TX12) (N := 92) (v := .ref (ad 6)) hx hb hts iX12 hown hw 0 rfl rfl 23 (by decide) (hts _ (List.mem_of_getElem? (i := 38) rfl)) rfl dX12_check_69 ?_
        refine lv_iconst (v := 4) hx hb dX12_check_72 (by decide) ?_
        refine lv_iload_n hx hb dX12_check_73 rfl (lv_at hl 4 rfl) ?_
        refine lv_imul hx hb dX12_check_74 ?_
        refine hk_topi 0 (by decide +kernel) ?_
        refine lv_iload hx hb dX12_check_75 (lv_at hl 0 rfl) ?_
        refine lv_iadd hx hb dX12_check_77 ?_
        refine hk_topi 3 (by decide +kernel) ?_
        refine hk_iald (v := 0) hx hb hw 6 0 rfl rfl (show ¬ (_ ∨ _) by decide) dX12_check_78 (hC 3 (by decide)) ?_
        refine lv_iload_n hx hb dX12_check_79 rfl (lv_at hl 3 rfl) ?_
        refine lv_bipush (v := 10) hx hb dX12_check_80 (by decide) ?_
        refine lv_icmp_ne (tgt := 96) hx hb dX12_check_82 (by decide) (fun _ => ?_) (fun cc_20 => absurd cc_20 (by decide))
        refine lv_bipush (v := 8) hx hb dX12_check_96 (by decide) ?_
        refine lv_iload hx hb dX12_check_98 (lv_at hl 0 rfl) ?_
        refine lv_imul hx hb dX12_check_100 ?_
        refine hk_topi 24 (by decide +kernel) ?_
        refine lv_ishl hx hb dX12_check_101 ?_
        refine lv_ior hx hb dX12_check_102 ?_
        refine lv_istore_n (lv' := [(3, .int ((((0 ||| ((0 : Int32) <<< ((0 : Int32) &&& 31))) ||| ((0 : Int32) <<< ((8 : Int32) &&& 31))) ||| ((0 : Int32) <<< ((16 : Int32) &&& 31))) ||| ((0 : Int32) <<< ((24 : Int32) &&& 31)))), (4, .int 3), (0, .ref (ad 0)), (1, .int 4), (2, .int 0)]) hx hb dX12_check_103 rfl hl (by decide) rfl (fun ls hl => ?_)
        refine lv_iinc (v := 4) (lv' := [(4, .int 4), (3, .int ((((0 ||| ((0 : Int32) <<< ((0 : Int32) &&& 31))) ||| ((0 : Int32) <<< ((8 : Int32) &&& 31))) ||| ((0 : Int32) <<< ((16 : Int32) &&& 31))) ||| ((0 : Int32) <<< ((24 : Int32) &&& 31)))), (0, .ref (ad 0)), (1, .int 4), (2, .int 0)]) hx hb dX12_check_104 hl (k := 1) rfl rfl (by decide) rfl (fun ls hl => ?_)
        refine lv_goto (tgt := 61) hx hb dX12_check_107 (by decide) ?_
        refine lv_iload hx hb dX12_check_61 (lv_at hl 0 rfl) ?_
        refine lv_iconst (v := 4) hx hb dX12_check_63 (by decide) ?_
        refine lv_icmp_ge (tgt := 110) hx hb dX12_check_64 (by decide) (fun _ => ?_) (fun cc_21 => absurd (by decide) cc_21)
        refine lv_iload_n hx hb dX12_check_110 rfl (lv_at hl 1 rfl) ?_
        exact hk_iret (u := ((upd (upd (upd (upd (mf_g fm) 1 0) 16 4) 14 (-1)) 15 0), (vp_updL (vp_updL mf_l 0 (-1)) 1 0), (va_up (va_up ar 3 uu_7) 5 uu_11), bk)) hx hb hr hlocks (hw) (by decide +kernel) dX12_check_111
      · obtain rfl : i = 1 := Int32.toInt_inj.mp (q.trans (by decide))
        refine lv_iconst (v := 0) hx hb dX12_check_56 (by decide) ?_
        refine lv_istore_n (lv' := [(3, .int 0), (0, .ref (ad 0)), (1, .int 4), (2, .int 1)]) hx hb dX12_check_57 rfl hl (by decide) rfl (fun ls hl => ?_)
        refine lv_iconst (v := 0) hx hb dX12_check_58 (by decide) ?_
        refine lv_istore (lv' := [(4, .int 0), (3, .int 0), (0, .ref (ad 0)), (1, .int 4), (2, .int 1)]) hx hb dX12_check_59 hl (by decide) rfl (fun ls hl => ?_)
        refine lv_iload hx hb dX12_check_61 (lv_at hl 0 rfl) ?_
        refine lv_iconst (v := 4) hx hb dX12_check_63 (by decide) ?_
        refine lv_icmp_ge (tgt := 110) hx hb dX12_check_64 (by decide) (fun cc_22 => absurd cc_22 (by decide)) (fun _ => ?_)
        refine lv_iload_n hx hb dX12_check_67 rfl (lv_at hl 1 rfl) ?_
        refine lv_aload_n hx hb dX12_check_68 rfl (lv_at hl 2 rfl) ?_
        refine hk_get (ci := 15) (C := RX12) (T := TX12) (N := 92) (v := .ref (ad 6)) hx hb hts iX12 hown hw 0 rfl rfl 23 (by decide) (hts _ (List.mem_of_getElem? (i := 38) rfl)) rfl dX12_check_69 ?_
        refine lv_iconst (v := 4) hx hb dX12_check_72 (by decide) ?_
        refine lv_iload_n hx hb dX12_check_73 rfl (lv_at hl 4 rfl) ?_
        refine lv_imul hx hb dX12_check_74 ?_
        refine hk_topi 4 (by decide +kernel) ?_
        refine lv_iload hx hb dX12_check_75 (lv_at hl 0 rfl) ?_
        refine lv_iadd hx hb dX12_check_77 ?_
        refine hk_topi 4 (by decide +kernel) ?_
        refine hk_iald (v := 0) hx hb hw 6 0 rfl rfl (show ¬ (_ ∨ _) by decide) dX12_check_78 (hC 4 (by decide)) ?_
        refine lv_iload_n hx hb dX12_check_79 rfl (lv_at hl 3 rfl) ?_
        refine lv_bipush (v := 10) hx hb dX12_check_80 (by decide) ?_
        refine lv_icmp_ne (tgt := 96) hx hb dX12_check_82 (by decide) (fun _ => ?_) (fun cc_23 => absurd cc_23 (by decide))
        refine lv_bipush (v := 8) hx hb dX12_check_96 (by decide) ?_
        refine lv_iload hx hb dX12_check_98 (lv_at hl 0 rfl) ?_
        refine lv_imul hx hb dX12_check_100 ?_
        refine hk_topi 0 (by decide +kernel) ?_
        refine lv_ishl hx hb dX12_check_101 ?_
        refine lv_ior hx hb dX12_check_102 ?_
        refine lv_istore_n (lv' := [(3, .int (0 ||| ((0 : Int32) <<< ((0 : Int32) &&& 31)))), (4, .int 0), (0, .ref (ad 0)), (1, .int 4), (2, .int 1)]) hx hb dX12_check_103 rfl hl (by decide) rfl (fun ls hl => ?_)
        refine lv_iinc (v := 1) (lv' := [(4, .int 1), (3, .int (0 ||| ((0 : Int32) <<< ((0 : Int32) &&& 31)))), (0, .ref (ad 0)), (1, .int 4), (2, .int 1)]) hx hb dX12_check_104 hl (k := 1) rfl rfl (by decide) rfl (fun ls hl => ?_)
        refine lv_goto (tgt := 61) hx hb dX12_check_107 (by decide) ?_
        refine lv_iload hx hb dX12_check_61 (lv_at hl 0 rfl) ?_
        refine lv_iconst (v := 4) hx hb dX12_check_63 (by decide) ?_
        refine lv_icmp_ge (tgt := 110) hx hb dX12_check_64 (by decide) (fun cc_24 => absurd cc_24 (by decide)) (fun _ => ?_)
        refine lv_iload_n hx hb dX12_check_67 rfl (lv_at hl 1 rfl) ?_
        refine lv_aload_n hx hb dX12_check_68 rfl (lv_at hl 2 rfl) ?_
        refine hk_get (ci := 15) (C := RX12) (T := TX12) (N := 92) (v := .ref (ad 6)) hx hb hts iX12 hown hw 0 rfl rfl 23 (by decide) (hts _ (List.mem_of_getElem? (i := 38) rfl)) rfl dX12_check_69 ?_
        refine lv_iconst (v := 4) hx hb dX12_check_72 (by decide) ?_
        refine lv_iload_n hx hb dX12_check_73 rfl (lv_at hl 4 rfl) ?_
        refine lv_imul hx hb dX12_check_74 ?_
        refine hk_topi 4 (by decide +kernel) ?_
        refine lv_iload hx hb dX12_check_75 (lv_at hl 0 rfl) ?_
        refine lv_iadd hx hb dX12_check_77 ?_
        refine hk_topi 5 (by decide +kernel) ?_
        refine hk_iald (v := 0) hx hb hw 6 0 rfl rfl (show ¬ (_ ∨ _) by decide) dX12_check_78 (hC 5 (by decide)) ?_
        refine lv_iload_n hx hb dX12_check_79 rfl (lv_at hl 3 rfl) ?_
        refine lv_bipush (v := 10) hx hb dX12_check_80 (by decide) ?_
        refine lv_icmp_ne (tgt := 96) hx hb dX12_check_82 (by decide) (fun _ => ?_) (fun cc_25 => absurd cc_25 (by decide))
        refine lv_bipush (v := 8) hx hb dX12_check_96 (by decide) ?_
        refine lv_iload hx hb dX12_check_98 (lv_at hl 0 rfl) ?_
        refine lv_imul hx hb dX12_check_100 ?_
        refine hk_topi 8 (by decide +kernel) ?_
        refine lv_ishl hx hb dX12_check_101 ?_
        refine lv_ior hx hb dX12_check_102 ?_
        refine lv_istore_n (lv' := [(3, .int ((0 ||| ((0 : Int32) <<< ((0 : Int32) &&& 31))) ||| ((0 : Int32) <<< ((8 : Int32) &&& 31)))), (4, .int 1), (0, .ref (ad 0)), (1, .int 4), (2, .int 1)]) hx hb dX12_check_103 rfl hl (by decide) rfl (fun ls hl => ?_)
        refine lv_iinc (v := 2) (lv' := [(4, .int 2), (3, .int ((0 ||| ((0 : Int32) <<< ((0 : Int32) &&& 31))) ||| ((0 : Int32) <<< ((8 : Int32) &&& 31)))), (0, .ref (ad 0)), (1, .int 4), (2, .int 1)]) hx hb dX12_check_104 hl (k := 1) rfl rfl (by decide) rfl (fun ls hl => ?_)
        refine lv_goto (tgt := 61) hx hb dX12_check_107 (by decide) ?_
        refine lv_iload hx hb dX12_check_61 (lv_at hl 0 rfl) ?_
        refine lv_iconst (v := 4) hx hb dX12_check_63 (by decide) ?_
        refine lv_icmp_ge (tgt := 110) hx hb dX12_check_64 (by decide) (fun cc_26 => absurd cc_26 (by decide)) (fun _ => ?_)
        refine lv_iload_n hx hb dX12_check_67 rfl (lv_at hl 1 rfl) ?_
        refine lv_aload_n hx hb dX12_check_68 rfl (lv_at hl 2 rfl) ?_
        refine hk_get (ci := 15) (C := RX12) (T := TX12) (N := 92) (v := .ref (ad 6)) hx hb hts iX12 hown hw 0 rfl rfl 23 (by decide) (hts _ (List.mem_of_getElem? (i := 38) rfl)) rfl dX12_check_69 ?_
        refine lv_iconst (v := 4) hx hb dX12_check_72 (by decide) ?_
        refine lv_iload_n hx hb dX12_check_73 rfl (lv_at hl 4 rfl) ?_
        refine lv_imul hx hb dX12_check_74 ?_
        refine hk_topi 4 (by decide +kernel) ?_
        refine lv_iload hx hb dX12_check_75 (lv_at hl 0 rfl) ?_
        refine lv_iadd hx hb dX12_check_77 ?_
        refine hk_topi 6 (by decide +kernel) ?_
        refine hk_iald (v := 0) hx hb hw 6 0 rfl rfl (show ¬ (_ ∨ _) by decide) dX12_check_78 (hC 6 (by decide)) ?_
        refine lv_iload_n hx hb dX12_check_79 rfl (lv_at hl 3 rfl) ?_
        refine lv_bipush (v := 10) hx hb dX12_check_80 (by decide) ?_
        refine lv_icmp_ne (tgt := 96) hx hb dX12_check_82 (by decide) (fun _ => ?_) (fun cc_27 => absurd cc_27 (by decide))
        refine lv_bipush (v := 8) hx hb dX12_check_96 (by decide) ?_
        refine lv_iload hx hb dX12_check_98 (lv_at hl 0 rfl) ?_
        refine lv_imul hx hb dX12_check_100 ?_
        refine hk_topi 16 (by decide +kernel) ?_
        refine lv_ishl hx hb dX12_check_101 ?_
        refine lv_ior hx hb dX12_check_102 ?_
        refine lv_istore_n (lv' := [(3, .int (((0 ||| ((0 : Int32) <<< ((0 : Int32) &&& 31))) ||| ((0 : Int32) <<< ((8 : Int32) &&& 31))) ||| ((0 : Int32) <<< ((16 : Int32) &&& 31)))), (4, .int 2), (0, .ref (ad 0)), (1, .int 4), (2, .int 1)]) hx hb dX12_check_103 rfl hl (by decide) rfl (fun ls hl => ?_)
        refine lv_iinc (v := 3) (lv' := [(4, .int 3), (3, .int (((0 ||| ((0 : Int32) <<< ((0 : Int32) &&& 31))) ||| ((0 : Int32) <<< ((8 : Int32) &&& 31))) ||| ((0 : Int32) <<< ((16 : Int32) &&& 31)))), (0, .ref (ad 0)), (1, .int 4), (2, .int 1)]) hx hb dX12_check_104 hl (k := 1) rfl rfl (by decide) rfl (fun ls hl => ?_)
        refine lv_goto (tgt := 61) hx hb dX12_check_107 (by decide) ?_
        refine lv_iload hx hb dX12_check_61 (lv_at hl 0 rfl) ?_
        refine lv_iconst (v := 4) hx hb dX12_check_63 (by decide) ?_
        refine lv_icmp_ge (tgt := 110) hx hb dX12_check_64 (by decide) (fun cc_28 => absurd cc_28 (by decide)) (fun _ => ?_)
        refine lv_iload_n hx hb dX12_check_67 rfl (lv_at hl 1 rfl) ?_
        refine lv_aload_n hx hb dX12_check_68 rfl (lv_at hl 2 rfl) ?_
        refine hk_get (ci := 15) (C := RX12) (T := TX12) (N := 92) (v := .ref (ad 6)) hx hb hts iX12 hown hw 0 rfl rfl 23 (by decide) (hts _ (List.mem_of_getElem? (i := 38) rfl)) rfl dX12_check_69 ?_
        refine lv_iconst (v := 4) hx hb dX12_check_72 (by decide) ?_
        refine lv_iload_n hx hb dX12_check_73 rfl (lv_at hl 4 rfl) ?_
        refine lv_imul hx hb dX12_check_74 ?_
        refine hk_topi 4 (by decide +kernel) ?_
        refine lv_iload hx hb dX12_check_75 (lv_at hl 0 rfl) ?_
        refine lv_iadd hx hb dX12_check_77 ?_
        refine hk_topi 7 (by decide +kernel) ?_
        refine hk_iald (v := 0) hx hb hw 6 0 rfl rfl (show ¬ (_ ∨ _) by decide) dX12_check_78 (hC 7 (by decide)) ?_
        refine lv_iload_n hx hb dX12_check_79 rfl (lv_at hl 3 rfl) ?_
        refine lv_bipush (v := 10) hx hb dX12_check_80 (by decide) ?_
        refine lv_icmp_ne (tgt := 96) hx hb dX12_check_82 (by decide) (fun _ => ?_) (fun cc_29 => absurd cc_29 (by decide))
        refine lv_bipush (v := 8) hx hb dX12_check_96 (by decide) ?_
        refine lv_iload hx hb dX12_check_98 (lv_at hl 0 rfl) ?_
        refine lv_imul hx hb dX12_check_100 ?_
        refine hk_topi 24 (by decide +kernel) ?_
        refine lv_ishl hx hb dX12_check_101 ?_
        refine lv_ior hx hb dX12_check_102 ?_
        refine lv_istore_n (lv' := [(3, .int ((((0 ||| ((0 : Int32) <<< ((0 : Int32) &&& 31))) ||| ((0 : Int32) <<< ((8 : Int32) &&& 31))) ||| ((0 : Int32) <<< ((16 : Int32) &&& 31))) ||| ((0 : Int32) <<< ((24 : Int32) &&& 31)))), (4, .int 3), (0, .ref (ad 0)), (1, .int 4), (2, .int 1)]) hx hb dX12_check_103 rfl hl (by decide) rfl (fun ls hl => ?_)
        refine lv_iinc (v := 4) (lv' := [(4, .int 4), (3, .int ((((0 ||| ((0 : Int32) <<< ((0 : Int32) &&& 31))) ||| ((0 : Int32) <<< ((8 : Int32) &&& 31))) ||| ((0 : Int32) <<< ((16 : Int32) &&& 31))) ||| ((0 : Int32) <<< ((24 : Int32) &&& 31)))), (0, .ref (ad 0)), (1, .int 4), (2, .int 1)]) hx hb dX12_check_104 hl (k := 1) rfl rfl (by decide) rfl (fun ls hl => ?_)
        refine lv_goto (tgt := 61) hx hb dX12_check_107 (by decide) ?_
        refine lv_iload hx hb dX12_check_61 (lv_at hl 0 rfl) ?_
        refine lv_iconst (v := 4) hx hb dX12_check_63 (by decide) ?_
        refine lv_icmp_ge (tgt := 110) hx hb dX12_check_64 (by decide) (fun _ => ?_) (fun cc_30 => absurd (by decide) cc_30)
        refine lv_iload_n hx hb dX12_check_110 rfl (lv_at hl 1 rfl) ?_
        exact hk_iret (u := ((upd (upd (upd (upd (mf_g fm) 1 0) 16 4) 14 (-1)) 15 0), (vp_updL (vp_updL mf_l 0 (-1)) 1 0), (va_up (va_up ar 3 uu_7) 5 uu_11), bk)) hx hb hr hlocks (hw) (by decide +kernel) dX12_check_111
    · refine lv_iconst (v := (-1)) hx hb dX12_check_19 (by decide) ?_
      exact hk_iret (u := ((upd (mf_g fm) 1 0), mf_l, ar, bk)) hx hb hr hlocks (hw) (hk_ck4 (show ¬ i.toInt = 0 by simp only [Int32.lt_iff_toInt_lt, Int32.le_iff_toInt_le, ← Int32.toInt_inj, hk_t0, hk_t1, hk_t2, hk_t3, hk_t4, hk_t5, hk_t6, hk_t7, hk_t8, hk_t9, hk_t10, hk_t11, hk_t12, hk_t13, hk_t14, hk_t15, hk_t16, hk_t17, hk_t18, hk_t20, hk_t32, hk_tm1, hk_t256, hk_t1500, hk_t4096, hk_t2000, hk_t3000, hk_t512, hk_t1024, true_and, and_true, false_and, and_false, true_or, or_true, false_or, or_false, not_true_eq_false, not_false_eq_true] at cc_1 cc_5 ⊢; omega) (show ¬ i.toInt = 1 by simp only [Int32.lt_iff_toInt_lt, Int32.le_iff_toInt_le, ← Int32.toInt_inj, hk_t0, hk_t1, hk_t2, hk_t3, hk_t4, hk_t5, hk_t6, hk_t7, hk_t8, hk_t9, hk_t10, hk_t11, hk_t12, hk_t13, hk_t14, hk_t15, hk_t16, hk_t17, hk_t18, hk_t20, hk_t32, hk_tm1, hk_t256, hk_t1500, hk_t4096, hk_t2000, hk_t3000, hk_t512, hk_t1024, true_and, and_true, false_and, and_false, true_or, or_true, false_or, or_false, not_true_eq_false, not_false_eq_true] at cc_1 cc_5 ⊢; omega)) dX12_check_20

def ww_cm_check10 : List Cond := Cond.code yX12_check cX12_check 5 (some .int) :: ([Cond.fieldLink RX12 111 "LzmaChainsModel" "thrown" "I", Cond.methodLink RX12 191 yX12_checkSize, Cond.static yX12_checkSize, Cond.initialized RX12, Cond.code yX12_checkSize cX12_checkSize 1 (some .int), Cond.methodLink RX12 199 yX12_beginCheck, Cond.instanceMethod yX12_beginCheck, Cond.selects RX12 yX12_beginCheck yX12_beginCheck, Cond.code yX12_beginCheck cX12_beginCheck 2 none, Cond.fieldLink RX12 171 "LzmaChainsModel" "checkNow" "I", Cond.methodLink RX12 174 yX12_begin32, Cond.instanceMethod yX12_begin32, Cond.selects RX12 yX12_begin32 yX12_begin32, Cond.code yX12_begin32 cX12_begin32 1 none, Cond.fieldLink RX12 132 "LzmaChainsModel" "sum32" "I", Cond.constantLong RX12 177 (-1), Cond.fieldLink RX12 135 "LzmaChainsModel" "sum64" "J", Cond.methodLink RX12 179 yX12_beginSha, Cond.instanceMethod yX12_beginSha, Cond.selects RX12 yX12_beginSha yX12_beginSha, Cond.code yX12_beginSha cX12_beginSha 1 none, Cond.fieldLink RX12 38 "LzmaChainsModel" "sha" "[I", Cond.constant RX12 141 1779033703, Cond.constant RX12 142 (-1150833019), Cond.constant RX12 143 1013904242, Cond.constant RX12 144 (-1521486534), Cond.constant RX12 145 1359893119, Cond.constant RX12 146 (-1694144372), Cond.constant RX12 147 528734635, Cond.constant RX12 148 1541459225, Cond.fieldLink RX12 149 "LzmaChainsModel" "shaFilled" "I", Cond.fieldLink RX12 152 "LzmaChainsModel" "shaAll" "J", Cond.fieldLink RX12 129 "LzmaChainsModel" "outSize" "I", Cond.methodLink RX12 205 yX12_endCheck, Cond.instanceMethod yX12_endCheck, Cond.selects RX12 yX12_endCheck yX12_endCheck, Cond.code yX12_endCheck cX12_endCheck 2 none, Cond.methodLink RX12 188 yX12_endSha, Cond.instanceMethod yX12_endSha, Cond.selects RX12 yX12_endSha yX12_endSha, Cond.code yX12_endSha cX12_endSha 4 none, Cond.methodLink RX12 167 yX12_addSha, Cond.instanceMethod yX12_addSha, Cond.selects RX12 yX12_addSha yX12_addSha, Cond.code yX12_addSha cX12_addSha 3 none, Cond.fieldLink RX12 41 "LzmaChainsModel" "shaRow" "[I", Cond.constantLong RX12 155 8, Cond.methodLink RX12 157 yX12_mixSha, Cond.instanceMethod yX12_mixSha, Cond.selects RX12 yX12_mixSha yX12_mixSha, Cond.code yX12_mixSha cX12_mixSha 12 none, Cond.methodLink RX12 160 yX12_turned, Cond.static yX12_turned, Cond.code yX12_turned cX12_turned 2 (some .int), Cond.fieldLink RX12 164 "LzmaChainsModel" "ROUND" "[I", Cond.fieldLink RX12 44 "LzmaChainsModel" "checkByte" "[I"] ++ (wsX120 ++ ([])))
set_option maxRecDepth 20000 in
theorem gw_cm_check10_0 : GoodIn ww_cm_check10 (va_wsS RX12 191 yX12_checkSize ww_cn_size10) := goodIn_r _ [2, 3, 4, 5] rfl (by decide +kernel)
set_option maxRecDepth 20000 in
theorem gw_cm_check10_1 : GoodIn ww_cm_check10 (wsV RX12 199 RX12 yX12_beginCheck ww_cn_beginCheck) := goodIn_r _ [6, 7, 8, 4, 9, 10, 11, 12, 13, 4, 14, 15, 16, 17, 18, 19, 20, 21, 22, 23, 24, 25, 26, 27, 28, 29, 30, 31, 32, 57, 58, 59, 60, 61, 62, 63, 64, 65, 66, 67, 68, 69, 70, 71, 72, 73, 74, 75, 76, 77, 78, 79, 80, 81, 82, 83, 84, 85, 86, 87, 88, 89, 90, 91, 92, 93, 94, 95, 96, 97, 98, 99, 100, 101, 102, 103, 104, 105, 106, 107, 108, 109, 110, 111, 112, 113, 114, 115, 116, 117, 118, 119, 120, 121, 122, 123, 124, 125, 126, 127, 128, 129, 130, 131, 132, 133, 134, 135, 136, 137, 138, 139, 140, 141, 142, 143, 144, 145, 146, 147, 148] rfl (by decide +kernel)
set_option maxRecDepth 20000 in
theorem gw_cm_check10_2 : GoodIn ww_cm_check10 (wsV RX12 205 RX12 yX12_endCheck ww_cn_endCheck10) := goodIn_r _ [34, 35, 36, 4, 37, 10, 38, 39, 40, 4, 41, 32, 42, 43, 44, 45, 31, 46, 47, 48, 49, 50, 51, 22, 52, 53, 54, 55, 2, 3, 5, 56, 57, 58, 59, 60, 61, 62, 63, 64, 65, 66, 67, 68, 69, 70, 71, 72, 73, 74, 75, 76, 77, 78, 79, 80, 81, 82, 83, 84, 85, 86, 87, 88, 89, 90, 91, 92, 93, 94, 95, 96, 97, 98, 99, 100, 101, 102, 103, 104, 105, 106, 107, 108, 109, 110, 111, 112, 113, 114, 115, 116, 117, 118, 119, 120, 121, 122, 123, 124, 125, 126, 127, 128, 129, 130, 131, 132, 133, 134, 135, 136, 137, 138, 139, 140, 141, 142, 143, 144, 145, 146, 147, 148] rfl (by decide +kernel)
set_option maxHeartbeats 4000000 in
set_option maxRecDepth 100000 in
/-- the reference: check(10, i), new -/
theorem cm_check10 (l : Launch) (t3 : Nat × Nat × Nat) (D : va_G) (cI cJ : ClassId) (ad : Nat → Nat) (fm : Int32) (ar : Nat → Nat → Int32) (bk : Nat → Int64) (sz : Nat) (i : Int32) : Met l yX12_check ww_cm_check10 { frames := 5, cells := 0, slots := 0, locals := 118 } (va_Pc [.ref (ad 0), .int 10, .int i] (hk_BY t3 D [(cI, .int), (cJ, .long)] sz (mw cI cJ ad (mf_g fm) mf_l ar bk))) (va_Qi (fun (r : Int32) (u : (Nat → Int32) × (Nat → Int64) × (Nat → Nat → Int32) × (Nat → Int64)) => r = hk_ckv 10 i) (fun u : (Nat → Int32) × (Nat → Int64) × (Nat → Nat → Int32) × (Nat → Int64) => hk_E D [(cI, .int), (cJ, .long)] (va_A (mw cI cJ ad (mf_g fm) mf_l ar bk) sz) (mw cI cJ ad u.1 u.2.1 u.2.2.1 u.2.2.2)) (va_A (mw cI cJ ad (mf_g fm) mf_l ar bk) sz)) 0 0 (va_A (mw cI cJ ad (mf_g fm) mf_l ar bk) sz) := by
  refine hk_smet (t3 := t3) (cc := cX12_check) (maxL := 5) (ret := (some .int)) (by decide) rfl (Nat.le_of_ble_eq_true rfl) ?_
  intro p e s m below meth c ls hx hb hr hml hown hts hlocks hin hA hZ hw hl
  have iX12 : ∀ w ∈ wsX120, w ∈ ww_cm_check10 := fun _ h => List.mem_cons_of_mem _ (List.mem_append_right _ (List.mem_append_left _ h))
  have hl : lv_has ls 5 [(0, .ref (ad 0)), (1, .int 10), (2, .int i)] := hl
  refine lv_aload_n hx hb dX12_check_0 rfl (lv_at hl 0 rfl) ?_
  refine lv_iconst (v := 0) hx hb dX12_check_1 (by decide) ?_
  refine hk_put (ci := 15) (C := RX12) (T := TX12) (N := 92) (ty := .int) (v := .int 0) hx hb hts iX12 tyX12 tyX12_ok nmX12 hown hw 0 rfl rfl 1 (by decide) (hts _ (List.mem_of_getElem? (i := 1) rfl)) rfl (by decide +kernel) rfl rfl (Nat.le_of_ble_eq_true rfl) dX12_check_2 (ws' := mw cI cJ ad (upd (mf_g fm) 1 0) mf_l ar bk) rfl (fun H locs hw => ?_)
  refine lv_iload_n hx hb dX12_check_5 rfl (lv_at hl 2 rfl) ?_
  refine lv_if_lt (tgt := 19) hx hb dX12_check_6 (by decide) (fun cc_1 => ?_) (fun cc_1 => ?_)
  · refine lv_iconst (v := (-1)) hx hb dX12_check_19 (by decide) ?_
    exact hk_iret (u := ((upd (mf_g fm) 1 0), mf_l, ar, bk)) hx hb hr hlocks (hw) (hk_ck10 (show ¬ (0 ≤ i.toInt ∧ i.toInt < 8) by simp only [Int32.lt_iff_toInt_lt, Int32.le_iff_toInt_le, ← Int32.toInt_inj, hk_t0, hk_t1, hk_t2, hk_t3, hk_t4, hk_t5, hk_t6, hk_t7, hk_t8, hk_t9, hk_t10, hk_t11, hk_t12, hk_t13, hk_t14, hk_t15, hk_t16, hk_t17, hk_t18, hk_t20, hk_t32, hk_tm1, hk_t256, hk_t1500, hk_t4096, hk_t2000, hk_t3000, hk_t512, hk_t1024, true_and, and_true, false_and, and_false, true_or, or_true, false_or, or_false, not_true_eq_false, not_false_eq_true] at cc_1 ⊢; omega)) dX12_check_20
  · refine lv_iload_n hx hb dX12_check_9 rfl (lv_at hl 2 rfl) ?_
    refine lv_iload_n hx hb dX12_check_10 rfl (lv_at hl 1 rfl) ?_
    refine hk_Si (As := [.int 10]) (rest := [.int i]) ⟨hx, hb, hml, hown, hts⟩ hw hA (cn_size10 l D cI cJ ad (upd (mf_g fm) 1 0) mf_l ar bk _) (va_cwS 1 hts gw_cm_check10_0 rfl rfl rfl (by decide +kernel) ⟨Nat.le_of_ble_eq_true rfl, Nat.le_of_ble_eq_true rfl⟩) rfl hl.1 rfl (Nat.le_of_ble_eq_true rfl) dX12_check_11 ⟨Nat.le_of_ble_eq_true rfl, Nat.le_of_ble_eq_true rfl⟩ (fun rr_2 uu_3 H locs hp_4 hw => ?_)
    subst hp_4
    have hw : hk_W D [(cI, .int), (cJ, .long)] _ s _ _ (mw cI cJ ad (upd (mf_g fm) 1 0) mf_l ar bk) := hw
    refine lv_iconst (v := 4) hx hb dX12_check_14 (by decide) ?_
    refine lv_idiv hx hb dX12_check_15 (by decide) ?_
    refine hk_topi 8 (by decide +kernel) ?_
    refine lv_icmp_lt (tgt := 21) hx hb dX12_check_16 (by decide) (fun cc_5 => ?_) (fun cc_5 => ?_)
    · refine lv_aload_n hx hb dX12_check_21 rfl (lv_at hl 0 rfl) ?_
      refine lv_iload_n hx hb dX12_check_22 rfl (lv_at hl 1 rfl) ?_
      refine hk_Vv (As := [.int 10]) (rest := []) ⟨hx, hb, hml, hown, hts⟩ hw hA (cn_beginCheck l D cI cJ ad (upd (mf_g fm) 1 0) mf_l ar bk _ 10) (cwV 1 hts gw_cm_check10_1 rfl rfl rfl (by decide +kernel) ⟨Nat.le_of_ble_eq_true rfl, Nat.le_of_ble_eq_true rfl⟩) 0 (ci := 15) (T := TX12) (N := 92) rfl rfl rfl hl.1 rfl (Nat.le_of_ble_eq_true rfl) dX12_check_23 ⟨Nat.le_of_ble_eq_true rfl, Nat.le_of_ble_eq_true rfl⟩ (fun uu_7 H locs hp_8 hw => ?_)
      have h8 := hp_8
      have hw : hk_W D [(cI, .int), (cJ, .long)] _ s _ _ (mw cI cJ ad (upd (upd (upd (upd (mf_g fm) 1 0) 16 10) 14 (-1)) 15 0) (vp_updL (vp_updL mf_l 0 (-1)) 1 0) (va_up ar 3 uu_7) bk) := hw
      refine lv_iconst (v := 0) hx hb dX12_check_26 (by decide) ?_
      refine lv_istore_n (lv' := [(3, .int 0), (0, .ref (ad 0)), (1, .int 10), (2, .int i)]) hx hb dX12_check_27 rfl hl (by decide) rfl (fun ls hl => ?_)
      refine lv_iload_n hx hb dX12_check_28 rfl (lv_at hl 0 rfl) ?_
      refine lv_aload_n hx hb dX12_check_29 rfl (lv_at hl 1 rfl) ?_
      refine hk_get (ci := 15) (C := RX12) (T := TX12) (N := 92) (v := .int 0) hx hb hts iX12 hown hw 0 rfl rfl 15 (by decide) (hts _ (List.mem_of_getElem? (i := 33) rfl)) rfl dX12_check_30 ?_
      refine lv_icmp_ge (tgt := 52) hx hb dX12_check_33 (by decide) (fun _ => ?_) (fun cc_9 => absurd (by decide) cc_9)
      refine lv_aload_n hx hb dX12_check_52 rfl (lv_at hl 1 rfl) ?_
      refine hk_ZVv (As := []) (rest := []) ⟨hx, hb, hml, hown, hts⟩ hZ hw hA (cn_endCheck10 l t3 D cI cJ ad (upd (upd (upd (upd (mf_g fm) 1 0) 16 10) 14 (-1)) 15 0) (vp_updL (vp_updL mf_l 0 (-1)) 1 0) (va_up ar 3 uu_7) bk _ rfl rfl rfl h8) (cwV 0 hts gw_cm_check10_2 rfl rfl rfl (by decide +kernel) ⟨Nat.le_of_ble_eq_true rfl, Nat.le_of_ble_eq_true rfl⟩) 0 (ci := 15) (T := TX12) (N := 92) rfl rfl rfl hl.1 rfl (Nat.le_of_ble_eq_true rfl) dX12_check_53 ⟨Nat.le_of_ble_eq_true rfl, Nat.le_of_ble_eq_true rfl⟩ (fun uu_11 H locs hp_12 hw => ?_)
      have hC := hp_12
      have hw : hk_W D [(cI, .int), (cJ, .long)] _ s _ _ (mw cI cJ ad (upd (upd (upd (upd (upd (mf_g fm) 1 0) 16 10) 14 (-1)) 15 0) 15 0) (vp_updL (vp_updL (vp_updL mf_l 0 (-1)) 1 0) 1 uu_11.2.2.1) (va_up (va_up (va_up (va_up ar 3 uu_7) 4 uu_11.2.1) 3 uu_11.1) 5 uu_11.2.2.2) bk) := hw
      rcases (show i.toInt = 0 ∨ i.toInt = 1 ∨ i.toInt = 2 ∨ i.toInt = 3 ∨ i.toInt = 4 ∨ i.toInt = 5 ∨ i.toInt = 6 ∨ i.toInt = 7 by simp only [Int32.lt_iff_toInt_lt, Int32.le_iff_toInt_le, ← Int32.toInt_inj, hk_t0, hk_t1, hk_t2, hk_t3, hk_t4, hk_t5, hk_t6, hk_t7, hk_t8, hk_t9, hk_t10, hk_t11, hk_t12, hk_t13, hk_t14, hk_t15, hk_t16, hk_t17, hk_t18, hk_t20, hk_t32, hk_tm1, hk_t256, hk_t1500, hk_t4096, hk_t2000, hk_t3000, hk_t512, hk_t1024, true_and, and_true, false_and, and_false, true_or, or_true, false_or, or_false, not_true_eq_false, not_false_eq_true] at cc_1 cc_5 ⊢; omega) with q | q | q | q | q | q | q | q
      · obtain rfl : i = 0 := Int32.toInt_inj.mp (q.trans (by decide))
        refine lv_iconst (v := 0) hx hb dX12_check_56 (by decide) ?_
        refine lv_istore_n (lv' := [(3, .int 0), (0, .ref (ad 0)), (1, .int 10), (2, .int 0)]) hx hb dX12_check_57 rfl hl (by decide) rfl (fun ls hl => ?_)
        refine lv_iconst (v := 0) hx hb dX12_check_58 (by decide) ?_
        refine lv_istore (lv' := [(4, .int 0), (3, .int 0), (0, .ref (ad 0)), (1, .int 10), (2, .int 0)]) hx hb dX12_check_59 hl (by decide) rfl (fun ls hl => ?_)
        refine lv_iload hx hb dX12_check_61 (lv_at hl 0 rfl) ?_
        refine lv_iconst (v := 4) hx hb dX12_check_63 (by decide) ?_
        refine lv_icmp_ge (tgt := 110) hx hb dX12_check_64 (by decide) (fun cc_13 => absurd cc_13 (by decide)) (fun _ => ?_)
        refine lv_iload_n hx hb dX12_check_67 rfl (lv_at hl 1 rfl) ?_
        refine lv_aload_n hx hb dX12_check_68 rfl (lv_at hl 2 rfl) ?_
        refine hk_get (ci := 15) (C := RX12) (T := TX12) (N := 92) (v := .ref (ad 6)) hx hb hts iX12 hown hw 0 rfl rfl 23 (by decide) (hts _ (List.mem_of_getElem? (i := 56) rfl)) rfl dX12_check_69 ?_
        refine lv_iconst (v := 4) hx hb dX12_check_72 (by decide) ?_
        refine lv_iload_n hx hb dX12_check_73 rfl (lv_at hl 4 rfl) ?_
        refine lv_imul hx hb dX12_check_74 ?_
        refine hk_topi 0 (by decide +kernel) ?_
        refine lv_iload hx hb dX12_check_75 (lv_at hl 0 rfl) ?_
        refine lv_iadd hx hb dX12_check_77 ?_
        refine hk_topi 0 (by decide +kernel) ?_
        refine hk_iald (v := (hs_B 0)) hx hb hw 6 0 rfl rfl (show ¬ (_ ∨ _) by decide) dX12_check_78 (hC 0 (by decide)) ?_
        refine lv_iload_n hx hb dX12_check_79 rfl (lv_at hl 3 rfl) ?_
        refine lv_bipush (v := 10) hx hb dX12_check_80 (by decide) ?_
        refine lv_icmp_ne (tgt := 96) hx hb dX12_check_82 (by decide) (fun cc_14 => absurd (by decide) cc_14) (fun _ => ?_)
        refine lv_bipush (v := 24) hx hb dX12_check_85 (by decide) ?_
        refine lv_bipush (v := 8) hx hb dX12_check_87 (by decide) ?_
        refine lv_iload hx hb dX12_check_89 (lv_at hl 0 rfl) ?_
        refine lv_imul hx hb dX12_check_91 ?_
        refine hk_topi 0 (by decide +kernel) ?_
        refine lv_isub hx hb dX12_check_92 ?_
        refine hk_topi 24 (by decide +kernel) ?_
        refine lv_goto (tgt := 101) hx hb dX12_check_93 (by decide) ?_
        refine lv_ishl hx hb dX12_check_101 ?_
        refine lv_ior hx hb dX12_check_102 ?_
        refine lv_istore_n (lv' := [(3, .int (0 ||| (((hs_B 0) : Int32) <<< ((24 : Int32) &&& 31)))), (4, .int 0), (0, .ref (ad 0)), (1, .int 10), (2, .int 0)]) hx hb dX12_check_103 rfl hl (by decide) rfl (fun ls hl => ?_)
        refine lv_iinc (v := 1) (lv' := [(4, .int 1), (3, .int (0 ||| (((hs_B 0) : Int32) <<< ((24 : Int32) &&& 31)))), (0, .ref (ad 0)), (1, .int 10), (2, .int 0)]) hx hb dX12_check_104 hl (k := 1) rfl rfl (by decide) rfl (fun ls hl => ?_)
        refine lv_goto (tgt := 61) hx hb dX12_check_107 (by decide) ?_
        refine lv_iload hx hb dX12_check_61 (lv_at hl 0 rfl) ?_
        refine lv_iconst (v := 4) hx hb dX12_check_63 (by decide) ?_
        refine lv_icmp_ge (tgt := 110) hx hb dX12_check_64 (by decide) (fun cc_15 => absurd cc_15 (by decide)) (fun _ => ?_)
        refine lv_iload_n hx hb dX12_check_67 rfl (lv_at hl 1 rfl) ?_
        refine lv_aload_n hx hb dX12_check_68 rfl (lv_at hl 2 rfl) ?_
        refine hk_get (ci := 15) (C := RX12) (T := TX12) (N := 92) (v := .ref (ad 6)) hx hb hts iX12 hown hw 0 rfl rfl 23 (by decide) (hts _ (List.mem_of_getElem? (i := 56) rfl)) rfl dX12_check_69 ?_
        refine lv_iconst (v := 4) hx hb dX12_check_72 (by decide) ?_
        refine lv_iload_n hx hb dX12_check_73 rfl (lv_at hl 4 rfl) ?_
        refine lv_imul hx hb dX12_check_74 ?_
        refine hk_topi 0 (by decide +kernel) ?_
        refine lv_iload hx hb dX12_check_75 (lv_at hl 0 rfl) ?_
        refine lv_iadd hx hb dX12_check_77 ?_
        refine hk_topi 1 (by decide +kernel) ?_
        refine hk_iald (v := (hs_B 1)) hx hb hw 6 0 rfl rfl (show ¬ (_ ∨ _) by decide) dX12_check_78 (hC 1 (by decide)) ?_
        refine lv_iload_n hx hb dX12_check_79 rfl (lv_at hl 3 rfl) ?_
        refine lv_bipush (v := 10) hx hb dX12_check_80 (by decide) ?_
        refine lv_icmp_ne (tgt := 96) hx hb dX12_check_82 (by decide) (fun cc_16 => absurd (by decide) cc_16) (fun _ => ?_)
        refine lv_bipush (v := 24) hx hb dX12_check_85 (by decide) ?_
        refine lv_bipush (v := 8) hx hb dX12_check_87 (by decide) ?_
        refine lv_iload hx hb dX12_check_89 (lv_at hl 0 rfl) ?_
        refine lv_imul hx hb dX12_check_91 ?_
        refine hk_topi 8 (by decide +kernel) ?_
        refine lv_isub hx hb dX12_check_92 ?_
        refine hk_topi 16 (by decide +kernel) ?_
        refine lv_goto (tgt := 101) hx hb dX12_check_93 (by decide) ?_
        refine lv_ishl hx hb dX12_check_101 ?_
        refine lv_ior hx hb dX12_check_102 ?_
        refine lv_istore_n (lv' := [(3, .int ((0 ||| (((hs_B 0) : Int32) <<< ((24 : Int32) &&& 31))) ||| (((hs_B 1) : Int32) <<< ((16 : Int32) &&& 31)))), (4, .int 1), (0, .ref (ad 0)), (1, .int 10), (2, .int 0)]) hx hb dX12_check_103 rfl hl (by decide) rfl (fun ls hl => ?_)
        refine lv_iinc (v := 2) (lv' := [(4, .int 2), (3, .int ((0 ||| (((hs_B 0) : Int32) <<< ((24 : Int32) &&& 31))) ||| (((hs_B 1) : Int32) <<< ((16 : Int32) &&& 31)))), (0, .ref (ad 0)), (1, .int 10), (2, .int 0)]) hx hb dX12_check_104 hl (k := 1) rfl rfl (by decide) rfl (fun ls hl => ?_)
        refine lv_goto (tgt := 61) hx hb dX12_check_107 (by decide) ?_
        refine lv_iload hx hb dX12_check_61 (lv_at hl 0 rfl) ?_
        refine lv_iconst (v := 4) hx hb dX12_check_63 (by decide) ?_
        refine lv_icmp_ge (tgt := 110) hx hb dX12_check_64 (by decide) (fun cc_17 => absurd cc_17 (by decide)) (fun _ => ?_)
        refine lv_iload_n hx hb dX12_check_67 rfl (lv_at hl 1 rfl) ?_
        refine lv_aload_n hx hb dX12_check_68 rfl (lv_at hl 2 rfl) ?_
        refine hk_get (ci := 15) (C := RX12) (T := TX12) (N := 92) (v := .ref (ad 6)) hx hb hts iX12 hown hw 0 rfl rfl 23 (by decide) (hts _ (List.mem_of_getElem? (i := 56) rfl)) rfl dX12_check_69 ?_
        refine lv_iconst (v := 4) hx hb dX12_check_72 (by decide) ?_
        refine lv_iload_n hx hb dX12_check_73 rfl (lv_at hl 4 rfl) ?_
        refine lv_imul hx hb dX12_check_74 ?_
        refine hk_topi 0 (by decide +kernel) ?_
        refine lv_iload hx hb dX12_check_75 (lv_at hl 0 rfl) ?_
        refine lv_iadd hx hb dX12_check_77 ?_
        refine hk_topi 2 (by decide +kernel) ?_
        refine hk_iald (v := (hs_B 2)) hx hb hw 6 0 rfl rfl (show ¬ (_ ∨ _) by decide) dX12_check_78 (hC 2 (by decide)) ?_
        refine lv_iload_n hx hb dX12_check_79 rfl (lv_at hl 3 rfl) ?_
        refine lv_bipush (v := 10) hx hb dX12_check_80 (by decide) ?_
        refine lv_icmp_ne (tgt := 96) hx hb dX12_check_82 (by decide) (fun cc_18 => absurd (by decide) cc_18) (fun _ => ?_)
        refine lv_bipush (v := 24) hx hb dX12_check_85 (by decide) ?_
        refine lv_bipush (v := 8) hx hb dX12_check_87 (by decide) ?_
        refine lv_iload hx hb dX12_check_89 (lv_at hl 0 rfl) ?_
        refine lv_imul hx hb dX12_check_91 ?_
        refine hk_topi 16 (by decide +kernel) ?_
        refine lv_isub hx hb dX12_check_92 ?_
        refine hk_topi 8 (by decide +kernel) ?_
        refine lv_goto (tgt := 101) hx hb dX12_check_93 (by decide) ?_
        refine lv_ishl hx hb dX12_check_101 ?_
        refine lv_ior hx hb dX12_check_102 ?_
        refine lv_istore_n (lv' := [(3, .int (((0 ||| (((hs_B 0) : Int32) <<< ((24 : Int32) &&& 31))) ||| (((hs_B 1) : Int32) <<< ((16 : Int32) &&& 31))) ||| (((hs_B 2) : Int32) <<< ((8 : Int32) &&& 31)))), (4, .int 2), (0, .ref (ad 0)), (1, .int 10), (2, .int 0)]) hx hb dX12_check_103 rfl hl (by decide) rfl (fun ls hl => ?_)
        refine lv_iinc (v := 3) (lv' := [(4, .int 3), (3, .int (((0 ||| (((hs_B 0) : Int32) <<< ((24 : Int32) &&& 31))) ||| (((hs_B 1) : Int32) <<< ((16 : Int32) &&& 31))) ||| (((hs_B 2) : Int32) <<< ((8 : Int32) &&& 31)))), (0, .ref (ad 0)), (1, .int 10), (2, .int 0)]) hx hb dX12_check_104 hl (k := 1) rfl rfl (by decide) rfl (fun ls hl => ?_)
        refine lv_goto (tgt := 61) hx hb dX12_check_107 (by decide) ?_
        refine lv_iload hx hb dX12_check_61 (lv_at hl 0 rfl) ?_
        refine lv_iconst (v := 4) hx hb dX12_check_63 (by decide) ?_
        refine lv_icmp_ge (tgt := 110) hx hb dX12_check_64 (by decide) (fun cc_19 => absurd cc_19 (by decide)) (fun _ => ?_)
        refine lv_iload_n hx hb dX12_check_67 rfl (lv_at hl 1 rfl) ?_
        refine lv_aload_n hx hb dX12_check_68 rfl (lv_at hl 2 rfl) ?_
        refine hk_get (ci := 15) (C := RX12) (T := TX12) (N := 92) (v := .ref (ad 6)) hx hb hts iX12 hown hw 0 rfl rfl 23 (by decide) (hts _ (List.mem_of_getElem? (i := 56) rfl)) rfl dX12_check_69 ?_
        refine lv_iconst (v := 4) hx hb dX12_check_72 (by decide) ?_
        refine lv_iload_n hx hb dX12_check_73 rfl (lv_at hl 4 rfl) ?_
        refine lv_imul hx hb dX12_check_74 ?_
        refine hk_topi 0 (by decide +kernel) ?_
        refine lv_iload hx hb dX12_check_75 (lv_at hl 0 rfl) ?_
        refine lv_iadd hx hb dX12_check_77 ?_
        refine hk_topi 3 (by decide +kernel) ?_
        refine hk_iald (v := (hs_B 3)) hx hb hw 6 0 rfl rfl (show ¬ (_ ∨ _) by decide) dX12_check_78 (hC 3 (by decide)) ?_
        refine lv_iload_n hx hb dX12_check_79 rfl (lv_at hl 3 rfl) ?_
        refine lv_bipush (v := 10) hx hb dX12_check_80 (by decide) ?_
        refine lv_icmp_ne (tgt := 96) hx hb dX12_check_82 (by decide) (fun cc_20 => absurd (by decide) cc_20) (fun _ => ?_)
        refine lv_bipush (v := 24) hx hb dX12_check_85 (by decide) ?_
        refine lv_bipush (v := 8) hx hb dX12_check_87 (by decide) ?_
        refine lv_iload hx hb dX12_check_89 (lv_at hl 0 rfl) ?_
        refine lv_imul hx hb dX12_check_91 ?_
        refine hk_topi 24 (by decide +kernel) ?_
        refine lv_isub hx hb dX12_check_92 ?_
        refine hk_topi 0 (by decide +kernel) ?_
        refine lv_goto (tgt := 101) hx hb dX12_check_93 (by decide) ?_
        refine lv_ishl hx hb dX12_check_101 ?_
        refine lv_ior hx hb dX12_check_102 ?_
        refine lv_istore_n (lv' := [(3, .int ((((0 ||| (((hs_B 0) : Int32) <<< ((24 : Int32) &&& 31))) ||| (((hs_B 1) : Int32) <<< ((16 : Int32) &&& 31))) ||| (((hs_B 2) : Int32) <<< ((8 : Int32) &&& 31))) ||| (((hs_B 3) : Int32) <<< ((0 : Int32) &&& 31)))), (4, .int 3), (0, .ref (ad 0)), (1, .int 10), (2, .int 0)]) hx hb dX12_check_103 rfl hl (by decide) rfl (fun ls hl => ?_)
        refine lv_iinc (v := 4) (lv' := [(4, .int 4), (3, .int ((((0 ||| (((hs_B 0) : Int32) <<< ((24 : Int32) &&& 31))) ||| (((hs_B 1) : Int32) <<< ((16 : Int32) &&& 31))) ||| (((hs_B 2) : Int32) <<< ((8 : Int32) &&& 31))) ||| (((hs_B 3) : Int32) <<< ((0 : Int32) &&& 31)))), (0, .ref (ad 0)), (1, .int 10), (2, .int 0)]) hx hb dX12_check_104 hl (k := 1) rfl rfl (by decide) rfl (fun ls hl => ?_)
        refine lv_goto (tgt := 61) hx hb dX12_check_107 (by decide) ?_
        refine lv_iload hx hb dX12_check_61 (lv_at hl 0 rfl) ?_
        refine lv_iconst (v := 4) hx hb dX12_check_63 (by decide) ?_
        refine lv_icmp_ge (tgt := 110) hx hb dX12_check_64 (by decide) (fun _ => ?_) (fun cc_21 => absurd (by decide) cc_21)
        refine lv_iload_n hx hb dX12_check_110 rfl (lv_at hl 1 rfl) ?_
        exact hk_iret (u := ((upd (upd (upd (upd (upd (mf_g fm) 1 0) 16 10) 14 (-1)) 15 0) 15 0), (vp_updL (vp_updL (vp_updL mf_l 0 (-1)) 1 0) 1 uu_11.2.2.1), (va_up (va_up (va_up (va_up ar 3 uu_7) 4 uu_11.2.1) 3 uu_11.1) 5 uu_11.2.2.2), bk)) hx hb hr hlocks (hw) (by decide +kernel) dX12_check_111
      · obtain rfl : i = 1 := Int32.toInt_inj.mp (q.trans (by decide))
        refine lv_iconst (v := 0) hx hb dX12_check_56 (by decide) ?_
        refine lv_istore_n (lv' := [(3, .int 0), (0, .ref (ad 0)), (1, .int 10), (2, .int 1)]) hx hb dX12_check_57 rfl hl (by decide) rfl (fun ls hl => ?_)
        refine lv_iconst (v := 0) hx hb dX12_check_58 (by decide) ?_
        refine lv_istore (lv' := [(4, .int 0), (3, .int 0), (0, .ref (ad 0)), (1, .int 10), (2, .int 1)]) hx hb dX12_check_59 hl (by decide) rfl (fun ls hl => ?_)
        refine lv_iload hx hb dX12_check_61 (lv_at hl 0 rfl) ?_
        refine lv_iconst (v := 4) hx hb dX12_check_63 (by decide) ?_
        refine lv_icmp_ge (tgt := 110) hx hb dX12_check_64 (by decide) (fun cc_22 => absurd cc_22 (by decide)) (fun _ => ?_)
        refine lv_iload_n hx hb dX12_check_67 rfl (lv_at hl 1 rfl) ?_
        refine lv_aload_n hx hb dX12_check_68 rfl (lv_at hl 2 rfl) ?_
        refine hk_get (ci := 15) (C := RX12) (T := TX12) (N := 92) (v := .ref (ad 6)) hx hb hts iX12 hown hw 0 rfl rfl 23 (by decide) (hts _ (List.mem_of_getElem? (i := 56) rfl)) rfl dX12_check_69 ?_
        refine lv_iconst (v := 4) hx hb dX12_check_72 (by decide) ?_
        refine lv_iload_n hx hb dX12_check_73 rfl (lv_at hl 4 rfl) ?_
        refine lv_imul hx hb dX12_check_74 ?_
        refine hk_topi 4 (by decide +kernel) ?_
        refine lv_iload hx hb dX12_check_75 (lv_at hl 0 rfl) ?_
        refine lv_iadd hx hb dX12_check_77 ?_
        refine hk_topi 4 (by decide +kernel) ?_
        refine hk_iald (v := (hs_B 4)) hx hb hw 6 0 rfl rfl (show ¬ (_ ∨ _) by decide) dX12_check_78 (hC 4 (by decide)) ?_
        refine lv_iload_n hx hb dX12_check_79 rfl (lv_at hl 3 rfl) ?_
        refine lv_bipush (v := 10) hx hb dX12_check_80 (by decide) ?_
        refine lv_icmp_ne (tgt := 96) hx hb dX12_check_82 (by decide) (fun cc_23 => absurd (by decide) cc_23) (fun _ => ?_)
        refine lv_bipush (v := 24) hx hb dX12_check_85 (by decide) ?_
        refine lv_bipush (v := 8) hx hb dX12_check_87 (by decide) ?_
        refine lv_iload hx hb dX12_check_89 (lv_at hl 0 rfl) ?_
        refine lv_imul hx hb dX12_check_91 ?_
        refine hk_topi 0 (by decide +kernel) ?_
        refine lv_isub hx hb dX12_check_92 ?_
        refine hk_topi 24 (by decide +kernel) ?_
        refine lv_goto (tgt := 101) hx hb dX12_check_93 (by decide) ?_
        refine lv_ishl hx hb dX12_check_101 ?_
        refine lv_ior hx hb dX12_check_102 ?_
        refine lv_istore_n (lv' := [(3, .int (0 ||| (((hs_B 4) : Int32) <<< ((24 : Int32) &&& 31)))), (4, .int 0), (0, .ref (ad 0)), (1, .int 10), (2, .int 1)]) hx hb dX12_check_103 rfl hl (by decide) rfl (fun ls hl => ?_)
        refine lv_iinc (v := 1) (lv' := [(4, .int 1), (3, .int (0 ||| (((hs_B 4) : Int32) <<< ((24 : Int32) &&& 31)))), (0, .ref (ad 0)), (1, .int 10), (2, .int 1)]) hx hb dX12_check_104 hl (k := 1) rfl rfl (by decide) rfl (fun ls hl => ?_)
        refine lv_goto (tgt := 61) hx hb dX12_check_107 (by decide) ?_
        refine lv_iload hx hb dX12_check_61 (lv_at hl 0 rfl) ?_
        refine lv_iconst (v := 4) hx hb dX12_check_63 (by decide) ?_
        refine lv_icmp_ge (tgt := 110) hx hb dX12_check_64 (by decide) (fun cc_24 => absurd cc_24 (by decide)) (fun _ => ?_)
        refine lv_iload_n hx hb dX12_check_67 rfl (lv_at hl 1 rfl) ?_
        refine lv_aload_n hx hb dX12_check_68 rfl (lv_at hl 2 rfl) ?_
        refine hk_get (ci := 15) (C := RX12) (T := TX12) (N := 92) (v := .ref (ad 6)) hx hb hts iX12 hown hw 0 rfl rfl 23 (by decide) (hts _ (List.mem_of_getElem? (i := 56) rfl)) rfl dX12_check_69 ?_
        refine lv_iconst (v := 4) hx hb dX12_check_72 (by decide) ?_
        refine lv_iload_n hx hb dX12_check_73 rfl (lv_at hl 4 rfl) ?_
        refine lv_imul hx hb dX12_check_74 ?_
        refine hk_topi 4 (by decide +kernel) ?_
        refine lv_iload hx hb dX12_check_75 (lv_at hl 0 rfl) ?_
        refine lv_iadd hx hb dX12_check_77 ?_
        refine hk_topi 5 (by decide +kernel) ?_
        refine hk_iald (v := (hs_B 5)) hx hb hw 6 0 rfl rfl (show ¬ (_ ∨ _) by decide) dX12_check_78 (hC 5 (by decide)) ?_
        refine lv_iload_n hx hb dX12_check_79 rfl (lv_at hl 3 rfl) ?_
        refine lv_bipush (v := 10) hx hb dX12_check_80 (by decide) ?_
        refine lv_icmp_ne (tgt := 96) hx hb dX12_check_82 (by decide) (fun cc_25 => absurd (by decide) cc_25) (fun _ => ?_)
        refine lv_bipush (v := 24) hx hb dX12_check_85 (by decide) ?_
        refine lv_bipush (v := 8) hx hb dX12_check_87 (by decide) ?_
        refine lv_iload hx hb dX12_check_89 (lv_at hl 0 rfl) ?_
        refine lv_imul hx hb dX12_check_91 ?_
        refine hk_topi 8 (by decide +kernel) ?_
        refine lv_isub hx hb dX12_check_92 ?_
        refine hk_topi 16 (by decide +kernel) ?_
        refine lv_goto (tgt := 101) hx hb dX12_check_93 (by decide) ?_
        refine lv_ishl hx hb dX12_check_101 ?_
        refine lv_ior hx hb dX12_check_102 ?_
        refine lv_istore_n (lv' := [(3, .int ((0 ||| (((hs_B 4) : Int32) <<< ((24 : Int32) &&& 31))) ||| (((hs_B 5) : Int32) <<< ((16 : Int32) &&& 31)))), (4, .int 1), (0, .ref (ad 0)), (1, .int 10), (2, .int 1)]) hx hb dX12_check_103 rfl hl (by decide) rfl (fun ls hl => ?_)
        refine lv_iinc (v := 2) (lv' := [(4, .int 2), (3, .int ((0 ||| (((hs_B 4) : Int32) <<< ((24 : Int32) &&& 31))) ||| (((hs_B 5) : Int32) <<< ((16 : Int32) &&& 31)))), (0, .ref (ad 0)), (1, .int 10), (2, .int 1)]) hx hb dX12_check_104 hl (k := 1) rfl rfl (by decide) rfl (fun ls hl => ?_)
        refine lv_goto (tgt := 61) hx hb dX12_check_107 (by decide) ?_
        refine lv_iload hx hb dX12_check_61 (lv_at hl 0 rfl) ?_
        refine lv_iconst (v := 4) hx hb dX12_check_63 (by decide) ?_
        refine lv_icmp_ge (tgt := 110) hx hb dX12_check_64 (by decide) (fun cc_26 => absurd cc_26 (by decide)) (fun _ => ?_)
        refine lv_iload_n hx hb dX12_check_67 rfl (lv_at hl 1 rfl) ?_
        refine lv_aload_n hx hb dX12_check_68 rfl (lv_at hl 2 rfl) ?_
        refine hk_get (ci := 15) (C := RX12) (T := TX12) (N := 92) (v := .ref (ad 6)) hx hb hts iX12 hown hw 0 rfl rfl 23 (by decide) (hts _ (List.mem_of_getElem? (i := 56) rfl)) rfl dX12_check_69 ?_
        refine lv_iconst (v := 4) hx hb dX12_check_72 (by decide) ?_
        refine lv_iload_n hx hb dX12_check_73 rfl (lv_at hl 4 rfl) ?_
        refine lv_imul hx hb dX12_check_74 ?_
        refine hk_topi 4 (by decide +kernel) ?_
        refine lv_iload hx hb dX12_check_75 (lv_at hl 0 rfl) ?_
        refine lv_iadd hx hb dX12_check_77 ?_
        refine hk_topi 6 (by decide +kernel) ?_
        refine hk_iald (v := (hs_B 6)) hx hb hw 6 0 rfl rfl (show ¬ (_ ∨ _) by decide) dX12_check_78 (hC 6 (by decide)) ?_
        refine lv_iload_n hx hb dX12_check_79 rfl (lv_at hl 3 rfl) ?_
        refine lv_bipush (v := 10) hx hb dX12_check_80 (by decide) ?_
        refine lv_icmp_ne (tgt := 96) hx hb dX12_check_82 (by decide) (fun cc_27 => absurd (by decide) cc_27) (fun _ => ?_)
        refine lv_bipush (v := 24) hx hb dX12_check_85 (by decide) ?_
        refine lv_bipush (v := 8) hx hb dX12_check_87 (by decide) ?_
        refine lv_iload hx hb dX12_check_89 (lv_at hl 0 rfl) ?_
        refine lv_imul hx hb dX12_check_91 ?_
        refine hk_topi 16 (by decide +kernel) ?_
        refine lv_isub hx hb dX12_check_92 ?_
        refine hk_topi 8 (by decide +kernel) ?_
        refine lv_goto (tgt := 101) hx hb dX12_check_93 (by decide) ?_
        refine lv_ishl hx hb dX12_check_101 ?_
        refine lv_ior hx hb dX12_check_102 ?_
        refine lv_istore_n (lv' := [(3, .int (((0 ||| (((hs_B 4) : Int32) <<< ((24 : Int32) &&& 31))) ||| (((hs_B 5) : Int32) <<< ((16 : Int32) &&& 31))) ||| (((hs_B 6) : Int32) <<< ((8 : Int32) &&& 31)))), (4, .int 2), (0, .ref (ad 0)), (1, .int 10), (2, .int 1)]) hx hb dX12_check_103 rfl hl (by decide) rfl (fun ls hl => ?_)
        refine lv_iinc (v := 3) (lv' := [(4, .int 3), (3, .int (((0 ||| (((hs_B 4) : Int32) <<< ((24 : Int32) &&& 31))) ||| (((hs_B 5) : Int32) <<< ((16 : Int32) &&& 31))) ||| (((hs_B 6) : Int32) <<< ((8 : Int32) &&& 31)))), (0, .ref (ad 0)), (1, .int 10), (2, .int 1)]) hx hb dX12_check_104 hl (k := 1) rfl rfl (by decide) rfl (fun ls hl => ?_)
        refine lv_goto (tgt := 61) hx hb dX12_check_107 (by decide) ?_
        refine lv_iload hx hb dX12_check_61 (lv_at hl 0 rfl) ?_
        refine lv_iconst (v := 4) hx hb dX12_check_63 (by decide) ?_
        refine lv_icmp_ge (tgt := 110) hx hb dX12_check_64 (by decide) (fun cc_28 => absurd cc_28 (by decide)) (fun _ => ?_)
        refine lv_iload_n hx hb dX12_check_67 rfl (lv_at hl 1 rfl) ?_
        refine lv_aload_n hx hb dX12_check_68 rfl (lv_at hl 2 rfl) ?_
        refine hk_get (ci := 15) (C := RX12) (T := TX12) (N := 92) (v := .ref (ad 6)) hx hb hts iX12 hown hw 0 rfl rfl 23 (by decide) (hts _ (List.mem_of_getElem? (i := 56) rfl)) rfl dX12_check_69 ?_
        refine lv_iconst (v := 4) hx hb dX12_check_72 (by decide) ?_
        refine lv_iload_n hx hb dX12_check_73 rfl (lv_at hl 4 rfl) ?_
        refine lv_imul hx hb dX12_check_74 ?_
        refine hk_topi 4 (by decide +kernel) ?_
        refine lv_iload hx hb dX12_check_75 (lv_at hl 0 rfl) ?_
        refine lv_iadd hx hb dX12_check_77 ?_
        refine hk_topi 7 (by decide +kernel) ?_
        refine hk_iald (v := (hs_B 7)) hx hb hw 6 0 rfl rfl (show ¬ (_ ∨ _) by decide) dX12_check_78 (hC 7 (by decide)) ?_
        refine lv_iload_n hx hb dX12_check_79 rfl (lv_at hl 3 rfl) ?_
        refine lv_bipush (v := 10) hx hb dX12_check_80 (by decide) ?_
        refine lv_icmp_ne (tgt := 96) hx hb dX12_check_82 (by decide) (fun cc_29 => absurd (by decide) cc_29) (fun _ => ?_)
        refine lv_bipush (v := 24) hx hb dX12_check_85 (by decide) ?_
        refine lv_bipush (v := 8) hx hb dX12_check_87 (by decide) ?_
        refine lv_iload hx hb dX12_check_89 (lv_at hl 0 rfl) ?_
        refine lv_imul hx hb dX12_check_91 ?_
        refine hk_topi 24 (by decide +kernel) ?_
        refine lv_isub hx hb dX12_check_92 ?_
        refine hk_topi 0 (by decide +kernel) ?_
        refine lv_goto (tgt := 101) hx hb dX12_check_93 (by decide) ?_
        refine lv_ishl hx hb dX12_check_101 ?_
        refine lv_ior hx hb dX12_check_102 ?_
        refine lv_istore_n (lv' := [(3, .int ((((0 ||| (((hs_B 4) : Int32) <<< ((24 : Int32) &&& 31))) ||| (((hs_B 5) : Int32) <<< ((16 : Int32) &&& 31))) ||| (((hs_B 6) : Int32) <<< ((8 : Int32) &&& 31))) ||| (((hs_B 7) : Int32) <<< ((0 : Int32) &&& 31)))), (4, .int 3), (0, .ref (ad 0)), (1, .int 10), (2, .int 1)]) hx hb dX12_check_103 rfl hl (by decide) rfl (fun ls hl => ?_)
        refine lv_iinc (v := 4) (lv' := [(4, .int 4), (3, .int ((((0 ||| (((hs_B 4) : Int32) <<< ((24 : Int32) &&& 31))) ||| (((hs_B 5) : Int32) <<< ((16 : Int32) &&& 31))) ||| (((hs_B 6) : Int32) <<< ((8 : Int32) &&& 31))) ||| (((hs_B 7) : Int32) <<< ((0 : Int32) &&& 31)))), (0, .ref (ad 0)), (1, .int 10), (2, .int 1)]) hx hb dX12_check_104 hl (k := 1) rfl rfl (by decide) rfl (fun ls hl => ?_)
        refine lv_goto (tgt := 61) hx hb dX12_check_107 (by decide) ?_
        refine lv_iload hx hb dX12_check_61 (lv_at hl 0 rfl) ?_
        refine lv_iconst (v := 4) hx hb dX12_check_63 (by decide) ?_
        refine lv_icmp_ge (tgt := 110) hx hb dX12_check_64 (by decide) (fun _ => ?_) (fun cc_30 => absurd (by decide) cc_30)
        refine lv_iload_n hx hb dX12_check_110 rfl (lv_at hl 1 rfl) ?_
        exact hk_iret (u := ((upd (upd (upd (upd (upd (mf_g fm) 1 0) 16 10) 14 (-1)) 15 0) 15 0), (vp_updL (vp_updL (vp_updL mf_l 0 (-1)) 1 0) 1 uu_11.2.2.1), (va_up (va_up (va_up (va_up ar 3 uu_7) 4 uu_11.2.1) 3 uu_11.1) 5 uu_11.2.2.2), bk)) hx hb hr hlocks (hw) (by decide +kernel) dX12_check_111
      · obtain rfl : i = 2 := Int32.toInt_inj.mp (q.trans (by decide))
        refine lv_iconst (v := 0) hx hb dX12_check_56 (by decide) ?_
        refine lv_istore_n (lv' := [(3, .int 0), (0, .ref (ad 0)), (1, .int 10), (2, .int 2)]) hx hb dX12_check_57 rfl hl (by decide) rfl (fun ls hl => ?_)
        refine lv_iconst (v := 0) hx hb dX12_check_58 (by decide) ?_
        refine lv_istore (lv' := [(4, .int 0), (3, .int 0), (0, .ref (ad 0)), (1, .int 10), (2, .int 2)]) hx hb dX12_check_59 hl (by decide) rfl (fun ls hl => ?_)
        refine lv_iload hx hb dX12_check_61 (lv_at hl 0 rfl) ?_
        refine lv_iconst (v := 4) hx hb dX12_check_63 (by decide) ?_
        refine lv_icmp_ge (tgt := 110) hx hb dX12_check_64 (by decide) (fun cc_31 => absurd cc_31 (by decide)) (fun _ => ?_)
        refine lv_iload_n hx hb dX12_check_67 rfl (lv_at hl 1 rfl) ?_
        refine lv_aload_n hx hb dX12_check_68 rfl (lv_at hl 2 rfl) ?_
        refine hk_get (ci := 15) (C := RX12) (T := TX12) (N := 92) (v := .ref (ad 6)) hx hb hts iX12 hown hw 0 rfl rfl 23 (by decide) (hts _ (List.mem_of_getElem? (i := 56) rfl)) rfl dX12_check_69 ?_
        refine lv_iconst (v := 4) hx hb dX12_check_72 (by decide) ?_
        refine lv_iload_n hx hb dX12_check_73 rfl (lv_at hl 4 rfl) ?_
        refine lv_imul hx hb dX12_check_74 ?_
        refine hk_topi 8 (by decide +kernel) ?_
        refine lv_iload hx hb dX12_check_75 (lv_at hl 0 rfl) ?_
        refine lv_iadd hx hb dX12_check_77 ?_
        refine hk_topi 8 (by decide +kernel) ?_
        refine hk_iald (v := (hs_B 8)) hx hb hw 6 0 rfl rfl (show ¬ (_ ∨ _) by decide) dX12_check_78 (hC 8 (by decide)) ?_
        refine lv_iload_n hx hb dX12_check_79 rfl (lv_at hl 3 rfl) ?_
        refine lv_bipush (v := 10) hx hb dX12_check_80 (by decide) ?_
        refine lv_icmp_ne (tgt := 96) hx hb dX12_check_82 (by decide) (fun cc_32 => absurd (by decide) cc_32) (fun _ => ?_)
        refine lv_bipush (v := 24) hx hb dX12_check_85 (by decide) ?_
        refine lv_bipush (v := 8) hx hb dX12_check_87 (by decide) ?_
        refine lv_iload hx hb dX12_check_89 (lv_at hl 0 rfl) ?_
        refine lv_imul hx hb dX12_check_91 ?_
        refine hk_topi 0 (by decide +kernel) ?_
        refine lv_isub hx hb dX12_check_92 ?_
        refine hk_topi 24 (by decide +kernel) ?_
        refine lv_goto (tgt := 101) hx hb dX12_check_93 (by decide) ?_
        refine lv_ishl hx hb dX12_check_101 ?_
        refine lv_ior hx hb dX12_check_102 ?_
        refine lv_istore_n (lv' := [(3, .int (0 ||| (((hs_B 8) : Int32) <<< ((24 : Int32) &&& 31)))), (4, .int 0), (0, .ref (ad 0)), (1, .int 10), (2, .int 2)]) hx hb dX12_check_103 rfl hl (by decide) rfl (fun ls hl => ?_)
        refine lv_iinc (v := 1) (lv' := [(4, .int 1), (3, .int (0 ||| (((hs_B 8) : Int32) <<< ((24 : Int32) &&& 31)))), (0, .ref (ad 0)), (1, .int 10), (2, .int 2)]) hx hb dX12_check_104 hl (k := 1) rfl rfl (by decide) rfl (fun ls hl => ?_)
        refine lv_goto (tgt := 61) hx hb dX12_check_107 (by decide) ?_
        refine lv_iload hx hb dX12_check_61 (lv_at hl 0 rfl) ?_
        refine lv_iconst (v := 4) hx hb dX12_check_63 (by decide) ?_
        refine lv_icmp_ge (tgt := 110) hx hb dX12_check_64 (by decide) (fun cc_33 => absurd cc_33 (by decide)) (fun _ => ?_)
        refine lv_iload_n hx hb dX12_check_67 rfl (lv_at hl 1 rfl) ?_
        refine lv_aload_n hx hb dX12_check_68 rfl (lv_at hl 2 rfl) ?_
        refine hk_get (ci := 15) (C := RX12) (T := TX12) (N := 92) (v := .ref (ad 6)) hx hb hts iX12 hown hw 0 rfl rfl 23 (by decide) (hts _ (List.mem_of_getElem? (i := 56) rfl)) rfl dX12_check_69 ?_
        refine lv_iconst (v := 4) hx hb dX12_check_72 (by decide) ?_
        refine lv_iload_n hx hb dX12_check_73 rfl (lv_at hl 4 rfl) ?_
        refine lv_imul hx hb dX12_check_74 ?_
        refine hk_topi 8 (by decide +kernel) ?_
        refine lv_iload hx hb dX12_check_75 (lv_at hl 0 rfl) ?_
        refine lv_iadd hx hb dX12_check_77 ?_
        refine hk_topi 9 (by decide +kernel) ?_
        refine hk_iald (v := (hs_B 9)) hx hb hw 6 0 rfl rfl (show ¬ (_ ∨ _) by decide) dX12_check_78 (hC 9 (by decide)) ?_
        refine lv_iload_n hx hb dX12_check_79 rfl (lv_at hl 3 rfl) ?_
        refine lv_bipush (v := 10) hx hb dX12_check_80 (by decide) ?_
        refine lv_icmp_ne (tgt := 96) hx hb dX12_check_82 (by decide) (fun cc_34 => absurd (by decide) cc_34) (fun _ => ?_)
        refine lv_bipush (v := 24) hx hb dX12_check_85 (by decide) ?_
        refine lv_bipush (v := 8) hx hb dX12_check_87 (by decide) ?_
        refine lv_iload hx hb dX12_check_89 (lv_at hl 0 rfl) ?_
        refine lv_imul hx hb dX12_check_91 ?_
        refine hk_topi 8 (by decide +kernel) ?_
        refine lv_isub hx hb dX12_check_92 ?_
        refine hk_topi 16 (by decide +kernel) ?_
        refine lv_goto (tgt := 101) hx hb dX12_check_93 (by decide) ?_
        refine lv_ishl hx hb dX12_check_101 ?_
        refine lv_ior hx hb dX12_check_102 ?_
        refine lv_istore_n (lv' := [(3, .int ((0 ||| (((hs_B 8) : Int32) <<< ((24 : Int32) &&& 31))) ||| (((hs_B 9) : Int32) <<< ((16 : Int32) &&& 31)))), (4, .int 1), (0, .ref (ad 0)), (1, .int 10), (2, .int 2)]) hx hb dX12_check_103 rfl hl (by decide) rfl (fun ls hl => ?_)
        refine lv_iinc (v := 2) (lv' := [(4, .int 2), (3, .int ((0 ||| (((hs_B 8) : Int32) <<< ((24 : Int32) &&& 31))) ||| (((hs_B 9) : Int32) <<< ((16 : Int32) &&& 31)))), (0, .ref (ad 0)), (1, .int 10), (2, .int 2)]) hx hb dX12_check_104 hl (k := 1) rfl rfl (by decide) rfl (fun ls hl => ?_)
        refine lv_goto (tgt := 61) hx hb dX12_check_107 (by decide) ?_
        refine lv_iload hx hb dX12_check_61 (lv_at hl 0 rfl) ?_
        refine lv_iconst (v := 4) hx hb dX12_check_63 (by decide) ?_
        refine lv_icmp_ge (tgt := 110) hx hb dX12_check_64 (by decide) (fun cc_35 => absurd cc_35 (by decide)) (fun _ => ?_)
        refine lv_iload_n hx hb dX12_check_67 rfl (lv_at hl 1 rfl) ?_
        refine lv_aload_n hx hb dX12_check_68 rfl (lv_at hl 2 rfl) ?_
        refine hk_get (ci := 15) (C := RX12) (T := TX12) (N := 92) (v := .ref (ad 6)) hx hb hts iX12 hown hw 0 rfl rfl 23 (by decide) (hts _ (List.mem_of_getElem? (i := 56) rfl)) rfl dX12_check_69 ?_
        refine lv_iconst (v := 4) hx hb dX12_check_72 (by decide) ?_
        refine lv_iload_n hx hb dX12_check_73 rfl (lv_at hl 4 rfl) ?_
        refine lv_imul hx hb dX12_check_74 ?_
        refine hk_topi 8 (by decide +kernel) ?_
        refine lv_iload hx hb dX12_check_75 (lv_at hl 0 rfl) ?_
        refine lv_iadd hx hb dX12_check_77 ?_
        refine hk_topi 10 (by decide +kernel) ?_
        refine hk_iald (v := (hs_B 10)) hx hb hw 6 0 rfl rfl (show ¬ (_ ∨ _) by decide) dX12_check_78 (hC 10 (by decide)) ?_
        refine lv_iload_n hx hb dX12_check_79 rfl (lv_at hl 3 rfl) ?_
        refine lv_bipush (v := 10) hx hb dX12_check_80 (by decide) ?_
        refine lv_icmp_ne (tgt := 96) hx hb dX12_check_82 (by decide) (fun cc_36 => absurd (by decide) cc_36) (fun _ => ?_)
        refine lv_bipush (v := 24) hx hb dX12_check_85 (by decide) ?_
        refine lv_bipush (v := 8) hx hb dX12_check_87 (by decide) ?_
        refine lv_iload hx hb dX12_check_89 (lv_at hl 0 rfl) ?_
        refine lv_imul hx hb dX12_check_91 ?_
        refine hk_topi 16 (by decide +kernel) ?_
        refine lv_isub hx hb dX12_check_92 ?_
        refine hk_topi 8 (by decide +kernel) ?_
        refine lv_goto (tgt := 101) hx hb dX12_check_93 (by decide) ?_
        refine lv_ishl hx hb dX12_check_101 ?_
        refine lv_ior hx hb dX12_check_102 ?_
        refine lv_istore_n (lv' := [(3, .int (((0 ||| (((hs_B 8) : Int32) <<< ((24 : Int32) &&& 31))) ||| (((hs_B 9) : Int32) <<< ((16 : Int32) &&& 31))) ||| (((hs_B 10) : Int32) <<< ((8 : Int32) &&& 31)))), (4, .int 2), (0, .ref (ad 0)), (1, .int 10), (2, .int 2)]) hx hb dX12_check_103 rfl hl (by decide) rfl (fun ls hl => ?_)
        refine lv_iinc (v := 3) (lv' := [(4, .int 3), (3, .int (((0 ||| (((hs_B 8) : Int32) <<< ((24 : Int32) &&& 31))) ||| (((hs_B 9) : Int32) <<< ((16 : Int32) &&& 31))) ||| (((hs_B 10) : Int32) <<< ((8 : Int32) &&& 31)))), (0, .ref (ad 0)), (1, .int 10), (2, .int 2)]) hx hb dX12_check_104 hl (k := 1) rfl rfl (by decide) rfl (fun ls hl => ?_)
        refine lv_goto (tgt := 61) hx hb dX12_check_107 (by decide) ?_
        refine lv_iload hx hb dX12_check_61 (lv_at hl 0 rfl) ?_
        refine lv_iconst (v := 4) hx hb dX12_check_63 (by decide) ?_
        refine lv_icmp_ge (tgt := 110) hx hb dX12_check_64 (by decide) (fun cc_37 => absurd cc_37 (by decide)) (fun _ => ?_)
        refine lv_iload_n hx hb dX12_check_67 rfl (lv_at hl 1 rfl) ?_
        refine lv_aload_n hx hb dX12_check_68 rfl (lv_at hl 2 rfl) ?_
        refine hk_get (ci := 15) (C := RX12) (T := TX12) (N := 92) (v := .ref (ad 6)) hx hb hts iX12 hown hw 0 rfl rfl 23 (by decide) (hts _ (List.mem_of_getElem? (i := 56) rfl)) rfl dX12_check_69 ?_
        refine lv_iconst (v := 4) hx hb dX12_check_72 (by decide) ?_
        refine lv_iload_n hx hb dX12_check_73 rfl (lv_at hl 4 rfl) ?_
        refine lv_imul hx hb dX12_check_74 ?_
        refine hk_topi 8 (by decide +kernel) ?_
        refine lv_iload hx hb dX12_check_75 (lv_at hl 0 rfl) ?_
        refine lv_iadd hx hb dX12_check_77 ?_
        refine hk_topi 11 (by decide +kernel) ?_
        refine hk_iald (v := (hs_B 11)) hx hb hw 6 0 rfl rfl (show ¬ (_ ∨ _) by decide) dX12_check_78 (hC 11 (by decide)) ?_
        refine lv_iload_n hx hb dX12_check_79 rfl (lv_at hl 3 rfl) ?_
        refine lv_bipush (v := 10) hx hb dX12_check_80 (by decide) ?_
        refine lv_icmp_ne (tgt := 96) hx hb dX12_check_82 (by decide) (fun cc_38 => absurd (by decide) cc_38) (fun _ => ?_)
        refine lv_bipush (v := 24) hx hb dX12_check_85 (by decide) ?_
        refine lv_bipush (v := 8) hx hb dX12_check_87 (by decide) ?_
        refine lv_iload hx hb dX12_check_89 (lv_at hl 0 rfl) ?_
        refine lv_imul hx hb dX12_check_91 ?_
        refine hk_topi 24 (by decide +kernel) ?_
        refine lv_isub hx hb dX12_check_92 ?_
        refine hk_topi 0 (by decide +kernel) ?_
        refine lv_goto (tgt := 101) hx hb dX12_check_93 (by decide) ?_
        refine lv_ishl hx hb dX12_check_101 ?_
        refine lv_ior hx hb dX12_check_102 ?_
        refine lv_istore_n (lv' := [(3, .int ((((0 ||| (((hs_B 8) : Int32) <<< ((24 : Int32) &&& 31))) ||| (((hs_B 9) : Int32) <<< ((16 : Int32) &&& 31))) ||| (((hs_B 10) : Int32) <<< ((8 : Int32) &&& 31))) ||| (((hs_B 11) : Int32) <<< ((0 : Int32) &&& 31)))), (4, .int 3), (0, .ref (ad 0)), (1, .int 10), (2, .int 2)]) hx hb dX12_check_103 rfl hl (by decide) rfl (fun ls hl => ?_)
        refine lv_iinc (v := 4) (lv' := [(4, .int 4), (3, .int ((((0 ||| (((hs_B 8) : Int32) <<< ((24 : Int32) &&& 31))) ||| (((hs_B 9) : Int32) <<< ((16 : Int32) &&& 31))) ||| (((hs_B 10) : Int32) <<< ((8 : Int32) &&& 31))) ||| (((hs_B 11) : Int32) <<< ((0 : Int32) &&& 31)))), (0, .ref (ad 0)), (1, .int 10), (2, .int 2)]) hx hb dX12_check_104 hl (k := 1) rfl rfl (by decide) rfl (fun ls hl => ?_)
        refine lv_goto (tgt := 61) hx hb dX12_check_107 (by decide) ?_
        refine lv_iload hx hb dX12_check_61 (lv_at hl 0 rfl) ?_
        refine lv_iconst (v := 4) hx hb dX12_check_63 (by decide) ?_
        refine lv_icmp_ge (tgt := 110) hx hb dX12_check_64 (by decide) (fun _ => ?_) (fun cc_39 => absurd (by decide) cc_39)
        refine lv_iload_n hx hb dX12_check_110 rfl (lv_at hl 1 rfl) ?_
        exact hk_iret (u := ((upd (upd (upd (upd (upd (mf_g fm) 1 0) 16 10) 14 (-1)) 15 0) 15 0), (vp_updL (vp_updL (vp_updL mf_l 0 (-1)) 1 0) 1 uu_11.2.2.1), (va_up (va_up (va_up (va_up ar 3 uu_7) 4 uu_11.2.1) 3 uu_11.1) 5 uu_11.2.2.2), bk)) hx hb hr hlocks (hw) (by decide +kernel) dX12_check_111
      · obtain rfl : i = 3 := Int32.toInt_inj.mp (q.trans (by decide))
        refine lv_iconst (v := 0) hx hb dX12_check_56 (by decide) ?_
        refine lv_istore_n (lv' := [(3, .int 0), (0, .ref (ad 0)), (1, .int 10), (2, .int 3)]) hx hb dX12_check_57 rfl hl (by decide) rfl (fun ls hl => ?_)
        refine lv_iconst (v := 0) hx hb dX12_check_58 (by decide) ?_
        refine lv_istore (lv' := [(4, .int 0), (3, .int 0), (0, .ref (ad 0)), (1, .int 10), (2, .int 3)]) hx hb dX12_check_59 hl (by decide) rfl (fun ls hl => ?_)
        refine lv_iload hx hb dX12_check_61 (lv_at hl 0 rfl) ?_
        refine lv_iconst (v := 4) hx hb dX12_check_63 (by decide) ?_
        refine lv_icmp_ge (tgt := 110) hx hb dX12_check_64 (by decide) (fun cc_40 => absurd cc_40 (by decide)) (fun _ => ?_)
        refine lv_iload_n hx hb dX12_check_67 rfl (lv_at hl 1 rfl) ?_
        refine lv_aload_n hx hb dX12_check_68 rfl (lv_at hl 2 rfl) ?_
        refine hk_get (ci := 15) (C := RX12) (T := TX12) (N := 92) (v := .ref (ad 6)) hx hb hts iX12 hown hw 0 rfl rfl 23 (by decide) (hts _ (List.mem_of_getElem? (i := 56) rfl)) rfl dX12_check_69 ?_
        refine lv_iconst (v := 4) hx hb dX12_check_72 (by decide) ?_
        refine lv_iload_n hx hb dX12_check_73 rfl (lv_at hl 4 rfl) ?_
        refine lv_imul hx hb dX12_check_74 ?_
        refine hk_topi 12 (by decide +kernel) ?_
        refine lv_iload hx hb dX12_check_75 (lv_at hl 0 rfl) ?_
        refine lv_iadd hx hb dX12_check_77 ?_
        refine hk_topi 12 (by decide +kernel) ?_
        refine hk_iald (v := (hs_B 12)) hx hb hw 6 0 rfl rfl (show ¬ (_ ∨ _) by decide) dX12_check_78 (hC 12 (by decide)) ?_
        refine lv_iload_n hx hb dX12_check_79 rfl (lv_at hl 3 rfl) ?_
        refine lv_bipush (v := 10) hx hb dX12_check_80 (by decide) ?_
        refine lv_icmp_ne (tgt := 96) hx hb dX12_check_82 (by decide) (fun cc_41 => absurd (by decide) cc_41) (fun _ => ?_)
        refine lv_bipush (v := 24) hx hb dX12_check_85 (by decide) ?_
        refine lv_bipush (v := 8) hx hb dX12_check_87 (by decide) ?_
        refine lv_iload hx hb dX12_check_89 (lv_at hl 0 rfl) ?_
        refine lv_imul hx hb dX12_check_91 ?_
        refine hk_topi 0 (by decide +kernel) ?_
        refine lv_isub hx hb dX12_check_92 ?_
        refine hk_topi 24 (by decide +kernel) ?_
        refine lv_goto (tgt := 101) hx hb dX12_check_93 (by decide) ?_
        refine lv_ishl hx hb dX12_check_101 ?_
        refine lv_ior hx hb dX12_check_102 ?_
        refine lv_istore_n (lv' := [(3, .int (0 ||| (((hs_B 12) : Int32) <<< ((24 : Int32) &&& 31)))), (4, .int 0), (0, .ref (ad 0)), (1, .int 10), (2, .int 3)]) hx hb dX12_check_103 rfl hl (by decide) rfl (fun ls hl => ?_)
        refine lv_iinc (v := 1) (lv' := [(4, .int 1), (3, .int (0 ||| (((hs_B 12) : Int32) <<< ((24 : Int32) &&& 31)))), (0, .ref (ad 0)), (1, .int 10), (2, .int 3)]) hx hb dX12_check_104 hl (k := 1) rfl rfl (by decide) rfl (fun ls hl => ?_)
        refine lv_goto (tgt := 61) hx hb dX12_check_107 (by decide) ?_
        refine lv_iload hx hb dX12_check_61 (lv_at hl 0 rfl) ?_
        refine lv_iconst (v := 4) hx hb dX12_check_63 (by decide) ?_
        refine lv_icmp_ge (tgt := 110) hx hb dX12_check_64 (by decide) (fun cc_42 => absurd cc_42 (by decide)) (fun _ => ?_)
        refine lv_iload_n hx hb dX12_check_67 rfl (lv_at hl 1 rfl) ?_
        refine lv_aload_n hx hb dX12_check_68 rfl (lv_at hl 2 rfl) ?_
        refine hk_get (ci := 15) (C := RX12) (T := TX12) (N := 92) (v := .ref (ad 6)) hx hb hts iX12 hown hw 0 rfl rfl 23 (by decide) (hts _ (List.mem_of_getElem? (i := 56) rfl)) rfl dX12_check_69 ?_
        refine lv_iconst (v := 4) hx hb dX12_check_72 (by decide) ?_
        refine lv_iload_n hx hb dX12_check_73 rfl (lv_at hl 4 rfl) ?_
        refine lv_imul hx hb dX12_check_74 ?_
        refine hk_topi 12 (by decide +kernel) ?_
        refine lv_iload hx hb dX12_check_75 (lv_at hl 0 rfl) ?_
        refine lv_iadd hx hb dX12_check_77 ?_
        refine hk_topi 13 (by decide +kernel) ?_
        refine hk_iald (v := (hs_B 13)) hx hb hw 6 0 rfl rfl (show ¬ (_ ∨ _) by decide) dX12_check_78 (hC 13 (by decide)) ?_
        refine lv_iload_n hx hb dX12_check_79 rfl (lv_at hl 3 rfl) ?_
        refine lv_bipush (v := 10) hx hb dX12_check_80 (by decide) ?_
        refine lv_icmp_ne (tgt := 96) hx hb dX12_check_82 (by decide) (fun cc_43 => absurd (by decide) cc_43) (fun _ => ?_)
        refine lv_bipush (v := 24) hx hb dX12_check_85 (by decide) ?_
        refine lv_bipush (v := 8) hx hb dX12_check_87 (by decide) ?_
        refine lv_iload hx hb dX12_check_89 (lv_at hl 0 rfl) ?_
        refine lv_imul hx hb dX12_check_91 ?_
        refine hk_topi 8 (by decide +kernel) ?_
        refine lv_isub hx hb dX12_check_92 ?_
        refine hk_topi 16 (by decide +kernel) ?_
        refine lv_goto (tgt := 101) hx hb dX12_check_93 (by decide) ?_
        refine lv_ishl hx hb dX12_check_101 ?_
        refine lv_ior hx hb dX12_check_102 ?_
        refine lv_istore_n (lv' := [(3, .int ((0 ||| (((hs_B 12) : Int32) <<< ((24 : Int32) &&& 31))) ||| (((hs_B 13) : Int32) <<< ((16 : Int32) &&& 31)))), (4, .int 1), (0, .ref (ad 0)), (1, .int 10), (2, .int 3)]) hx hb dX12_check_103 rfl hl (by decide) rfl (fun ls hl => ?_)
        refine lv_iinc (v := 2) (lv' := [(4, .int 2), (3, .int ((0 ||| (((hs_B 12) : Int32) <<< ((24 : Int32) &&& 31))) ||| (((hs_B 13) : Int32) <<< ((16 : Int32) &&& 31)))), (0, .ref (ad 0)), (1, .int 10), (2, .int 3)]) hx hb dX12_check_104 hl (k := 1) rfl rfl (by decide) rfl (fun ls hl => ?_)
        refine lv_goto (tgt := 61) hx hb dX12_check_107 (by decide) ?_
        refine lv_iload hx hb dX12_check_61 (lv_at hl 0 rfl) ?_
        refine lv_iconst (v := 4) hx hb dX12_check_63 (by decide) ?_
        refine lv_icmp_ge (tgt := 110) hx hb dX12_check_64 (by decide) (fun cc_44 => absurd cc_44 (by decide)) (fun _ => ?_)
        refine lv_iload_n hx hb dX12_check_67 rfl (lv_at hl 1 rfl) ?_
        refine lv_aload_n hx hb dX12_check_68 rfl (lv_at hl 2 rfl) ?_
        refine hk_get (ci := 15) (C := RX12) (T := TX12) (N := 92) (v := .ref (ad 6)) hx hb hts iX12 hown hw 0 rfl rfl 23 (by decide) (hts _ (List.mem_of_getElem? (i := 56) rfl)) rfl dX12_check_69 ?_
        refine lv_iconst (v := 4) hx hb dX12_check_72 (by decide) ?_
        refine lv_iload_n hx hb dX12_check_73 rfl (lv_at hl 4 rfl) ?_
        refine lv_imul hx hb dX12_check_74 ?_
        refine hk_topi 12 (by decide +kernel) ?_
        refine lv_iload hx hb dX12_check_75 (lv_at hl 0 rfl) ?_
        refine lv_iadd hx hb dX12_check_77 ?_
        refine hk_topi 14 (by decide +kernel) ?_
        refine hk_iald (v := (hs_B 14)) hx hb hw 6 0 rfl rfl (show ¬ (_ ∨ _) by decide) dX12_check_78 (hC 14 (by decide)) ?_
        refine lv_iload_n hx hb dX12_check_79 rfl (lv_at hl 3 rfl) ?_
        refine lv_bipush (v := 10) hx hb dX12_check_80 (by decide) ?_
        refine lv_icmp_ne (tgt := 96) hx hb dX12_check_82 (by decide) (fun cc_45 => absurd (by decide) cc_45) (fun _ => ?_)
        refine lv_bipush (v := 24) hx hb dX12_check_85 (by decide) ?_
        refine lv_bipush (v := 8) hx hb dX12_check_87 (by decide) ?_
        refine lv_iload hx hb dX12_check_89 (lv_at hl 0 rfl) ?_
        refine lv_imul hx hb dX12_check_91 ?_
        refine hk_topi 16 (by decide +kernel) ?_
        refine lv_isub hx hb dX12_check_92 ?_
        refine hk_topi 8 (by decide +kernel) ?_
        refine lv_goto (tgt := 101) hx hb dX12_check_93 (by decide) ?_
        refine lv_ishl hx hb dX12_check_101 ?_
        refine lv_ior hx hb dX12_check_102 ?_
        refine lv_istore_n (lv' := [(3, .int (((0 ||| (((hs_B 12) : Int32) <<< ((24 : Int32) &&& 31))) ||| (((hs_B 13) : Int32) <<< ((16 : Int32) &&& 31))) ||| (((hs_B 14) : Int32) <<< ((8 : Int32) &&& 31)))), (4, .int 2), (0, .ref (ad 0)), (1, .int 10), (2, .int 3)]) hx hb dX12_check_103 rfl hl (by decide) rfl (fun ls hl => ?_)
        refine lv_iinc (v := 3) (lv' := [(4, .int 3), (3, .int (((0 ||| (((hs_B 12) : Int32) <<< ((24 : Int32) &&& 31))) ||| (((hs_B 13) : Int32) <<< ((16 : Int32) &&& 31))) ||| (((hs_B 14) : Int32) <<< ((8 : Int32) &&& 31)))), (0, .ref (ad 0)), (1, .int 10), (2, .int 3)]) hx hb dX12_check_104 hl (k := 1) rfl rfl (by decide) rfl (fun ls hl => ?_)
        refine lv_goto (tgt := 61) hx hb dX12_check_107 (by decide) ?_
        refine lv_iload hx hb dX12_check_61 (lv_at hl 0 rfl) ?_
        refine lv_iconst (v := 4) hx hb dX12_check_63 (by decide) ?_
        refine lv_icmp_ge (tgt := 110) hx hb dX12_check_64 (by decide) (fun cc_46 => absurd cc_46 (by decide)) (fun _ => ?_)
        refine lv_iload_n hx hb dX12_check_67 rfl (lv_at hl 1 rfl) ?_
        refine lv_aload_n hx hb dX12_check_68 rfl (lv_at hl 2 rfl) ?_
        refine hk_get (ci := 15) (C := RX12) (T := TX12) (N := 92) (v := .ref (ad 6)) hx hb hts iX12 hown hw 0 rfl rfl 23 (by decide) (hts _ (List.mem_of_getElem? (i := 56) rfl)) rfl dX12_check_69 ?_
        refine lv_iconst (v := 4) hx hb dX12_check_72 (by decide) ?_
        refine lv_iload_n hx hb dX12_check_73 rfl (lv_at hl 4 rfl) ?_
        refine lv_imul hx hb dX12_check_74 ?_
        refine hk_topi 12 (by decide +kernel) ?_
        refine lv_iload hx hb dX12_check_75 (lv_at hl 0 rfl) ?_
        refine lv_iadd hx hb dX12_check_77 ?_
        refine hk_topi 15 (by decide +kernel) ?_
        refine hk_iald (v := (hs_B 15)) hx hb hw 6 0 rfl rfl (show ¬ (_ ∨ _) by decide) dX12_check_78 (hC 15 (by decide)) ?_
        refine lv_iload_n hx hb dX12_check_79 rfl (lv_at hl 3 rfl) ?_
        refine lv_bipush (v := 10) hx hb dX12_check_80 (by decide) ?_
        refine lv_icmp_ne (tgt := 96) hx hb dX12_check_82 (by decide) (fun cc_47 => absurd (by decide) cc_47) (fun _ => ?_)
        refine lv_bipush (v := 24) hx hb dX12_check_85 (by decide) ?_
        refine lv_bipush (v := 8) hx hb dX12_check_87 (by decide) ?_
        refine lv_iload hx hb dX12_check_89 (lv_at hl 0 rfl) ?_
        refine lv_imul hx hb dX12_check_91 ?_
        refine hk_topi 24 (by decide +kernel) ?_
        refine lv_isub hx hb dX12_check_92 ?_
        refine hk_topi 0 (by decide +kernel) ?_
        refine lv_goto (tgt := 101) hx hb dX12_check_93 (by decide) ?_
        refine lv_ishl hx hb dX12_check_101 ?_
        refine lv_ior hx hb dX12_check_102 ?_
        refine lv_istore_n (lv' := [(3, .int ((((0 ||| (((hs_B 12) : Int32) <<< ((24 : Int32) &&& 31))) ||| (((hs_B 13) : Int32) <<< ((16 : Int32) &&& 31))) ||| (((hs_B 14) : Int32) <<< ((8 : Int32) &&& 31))) ||| (((hs_B 15) : Int32) <<< ((0 : Int32) &&& 31)))), (4, .int 3), (0, .ref (ad 0)), (1, .int 10), (2, .int 3)]) hx hb dX12_check_103 rfl hl (by decide) rfl (fun ls hl => ?_)
        refine lv_iinc (v := 4) (lv' := [(4, .int 4), (3, .int ((((0 ||| (((hs_B 12) : Int32) <<< ((24 : Int32) &&& 31))) ||| (((hs_B 13) : Int32) <<< ((16 : Int32) &&& 31))) ||| (((hs_B 14) : Int32) <<< ((8 : Int32) &&& 31))) ||| (((hs_B 15) : Int32) <<< ((0 : Int32) &&& 31)))), (0, .ref (ad 0)), (1, .int 10), (2, .int 3)]) hx hb dX12_check_104 hl (k := 1) rfl rfl (by decide) rfl (fun ls hl => ?_)
        refine lv_goto (tgt := 61) hx hb dX12_check_107 (by decide) ?_
        refine lv_iload hx hb dX12_check_61 (lv_at hl 0 rfl) ?_
        refine lv_iconst (v := 4) hx hb dX12_check_63 (by decide) ?_
        refine lv_icmp_ge (tgt := 110) hx hb dX12_check_64 (by decide) (fun _ => ?_) (fun cc_48 => absurd (by decide) cc_48)
        refine lv_iload_n hx hb dX12_check_110 rfl (lv_at hl 1 rfl) ?_
        exact hk_iret (u := ((upd (upd (upd (upd (upd (mf_g fm) 1 0) 16 10) 14 (-1)) 15 0) 15 0), (vp_updL (vp_updL (vp_updL mf_l 0 (-1)) 1 0) 1 uu_11.2.2.1), (va_up (va_up (va_up (va_up ar 3 uu_7) 4 uu_11.2.1) 3 uu_11.1) 5 uu_11.2.2.2), bk)) hx hb hr hlocks (hw) (by decide +kernel) dX12_check_111
      · obtain rfl : i = 4 := Int32.toInt_inj.mp (q.trans (by decide))
        refine lv_iconst (v := 0) hx hb dX12_check_56 (by decide) ?_
        refine lv_istore_n (lv' := [(3, .int 0), (0, .ref (ad 0)), (1, .int 10), (2, .int 4)]) hx hb dX12_check_57 rfl hl (by decide) rfl (fun ls hl => ?_)
        refine lv_iconst (v := 0) hx hb dX12_check_58 (by decide) ?_
        refine lv_istore (lv' := [(4, .int 0), (3, .int 0), (0, .ref (ad 0)), (1, .int 10), (2, .int 4)]) hx hb dX12_check_59 hl (by decide) rfl (fun ls hl => ?_)
        refine lv_iload hx hb dX12_check_61 (lv_at hl 0 rfl) ?_
        refine lv_iconst (v := 4) hx hb dX12_check_63 (by decide) ?_
        refine lv_icmp_ge (tgt := 110) hx hb dX12_check_64 (by decide) (fun cc_49 => absurd cc_49 (by decide)) (fun _ => ?_)
        refine lv_iload_n hx hb dX12_check_67 rfl (lv_at hl 1 rfl) ?_
        refine lv_aload_n hx hb dX12_check_68 rfl (lv_at hl 2 rfl) ?_
        refine hk_get (ci := 15) (C := RX12) (T := TX12) (N := 92) (v := .ref (ad 6)) hx hb hts iX12 hown hw 0 rfl rfl 23 (by decide) (hts _ (List.mem_of_getElem? (i := 56) rfl)) rfl dX12_check_69 ?_
        refine lv_iconst (v := 4) hx hb dX12_check_72 (by decide) ?_
        refine lv_iload_n hx hb dX12_check_73 rfl (lv_at hl 4 rfl) ?_
        refine lv_imul hx hb dX12_check_74 ?_
        refine hk_topi 16 (by decide +kernel) ?_
        refine lv_iload hx hb dX12_check_75 (lv_at hl 0 rfl) ?_
        refine lv_iadd hx hb dX12_check_77 ?_
        refine hk_topi 16 (by decide +kernel) ?_
        refine hk_iald (v := (hs_B 16)) hx hb hw 6 0 rfl rfl (show ¬ (_ ∨ _) by decide) dX12_check_78 (hC 16 (by decide)) ?_
        refine lv_iload_n hx hb dX12_check_79 rfl (lv_at hl 3 rfl) ?_
        refine lv_bipush (v := 10) hx hb dX12_check_80 (by decide) ?_
        refine lv_icmp_ne (tgt := 96) hx hb dX12_check_82 (by decide) (fun cc_50 => absurd (by decide) cc_50) (fun _ => ?_)
        refine lv_bipush (v := 24) hx hb dX12_check_85 (by decide) ?_
        refine lv_bipush (v := 8) hx hb dX12_check_87 (by decide) ?_
        refine lv_iload hx hb dX12_check_89 (lv_at hl 0 rfl) ?_
        refine lv_imul hx hb dX12_check_91 ?_
        refine hk_topi 0 (by decide +kernel) ?_
        refine lv_isub hx hb dX12_check_92 ?_
        refine hk_topi 24 (by decide +kernel) ?_
        refine lv_goto (tgt := 101) hx hb dX12_check_93 (by decide) ?_
        refine lv_ishl hx hb dX12_check_101 ?_
        refine lv_ior hx hb dX12_check_102 ?_
        refine lv_istore_n (lv' := [(3, .int (0 ||| (((hs_B 16) : Int32) <<< ((24 : Int32) &&& 31)))), (4, .int 0), (0, .ref (ad 0)), (1, .int 10), (2, .int 4)]) hx hb dX12_check_103 rfl hl (by decide) rfl (fun ls hl => ?_)
        refine lv_iinc (v := 1) (lv' := [(4, .int 1), (3, .int (0 ||| (((hs_B 16) : Int32) <<< ((24 : Int32) &&& 31)))), (0, .ref (ad 0)), (1, .int 10), (2, .int 4)]) hx hb dX12_check_104 hl (k := 1) rfl rfl (by decide) rfl (fun ls hl => ?_)
        refine lv_goto (tgt := 61) hx hb dX12_check_107 (by decide) ?_
        refine lv_iload hx hb dX12_check_61 (lv_at hl 0 rfl) ?_
        refine lv_iconst (v := 4) hx hb dX12_check_63 (by decide) ?_
        refine lv_icmp_ge (tgt := 110) hx hb dX12_check_64 (by decide) (fun cc_51 => absurd cc_51 (by decide)) (fun _ => ?_)
        refine lv_iload_n hx hb dX12_check_67 rfl (lv_at hl 1 rfl) ?_
        refine lv_aload_n hx hb dX12_check_68 rfl (lv_at hl 2 rfl) ?_
        refine hk_get (ci := 15) (C := RX12) (T := TX12) (N := 92) (v := .ref (ad 6)) hx hb hts iX12 hown hw 0 rfl rfl 23 (by decide) (hts _ (List.mem_of_getElem? (i := 56) rfl)) rfl dX12_check_69 ?_
        refine lv_iconst (v := 4) hx hb dX12_check_72 (by decide) ?_
        refine lv_iload_n hx hb dX12_check_73 rfl (lv_at hl 4 rfl) ?_
        refine lv_imul hx hb dX12_check_74 ?_
        refine hk_topi 16 (by decide +kernel) ?_
        refine lv_iload hx hb dX12_check_75 (lv_at hl 0 rfl) ?_
        refine lv_iadd hx hb dX12_check_77 ?_
        refine hk_topi 17 (by decide +kernel) ?_
        refine hk_iald (v := (hs_B 17)) hx hb hw 6 0 rfl rfl (show ¬ (_ ∨ _) by decide) dX12_check_78 (hC 17 (by decide)) ?_
        refine lv_iload_n hx hb dX12_check_79 rfl (lv_at hl 3 rfl) ?_
        refine lv_bipush (v := 10) hx hb dX12_check_80 (by decide) ?_
        refine lv_icmp_ne (tgt := 96) hx hb dX12_check_82 (by decide) (fun cc_52 => absurd (by decide) cc_52) (fun _ => ?_)
        refine lv_bipush (v := 24) hx hb dX12_check_85 (by decide) ?_
        refine lv_bipush (v := 8) hx hb dX12_check_87 (by decide) ?_
        refine lv_iload hx hb dX12_check_89 (lv_at hl 0 rfl) ?_
        refine lv_imul hx hb dX12_check_91 ?_
        refine hk_topi 8 (by decide +kernel) ?_
        refine lv_isub hx hb dX12_check_92 ?_
        refine hk_topi 16 (by decide +kernel) ?_
        refine lv_goto (tgt := 101) hx hb dX12_check_93 (by decide) ?_
        refine lv_ishl hx hb dX12_check_101 ?_
        refine lv_ior hx hb dX12_check_102 ?_
        refine lv_istore_n (lv' := [(3, .int ((0 ||| (((hs_B 16) : Int32) <<< ((24 : Int32) &&& 31))) ||| (((hs_B 17) : Int32) <<< ((16 : Int32) &&& 31)))), (4, .int 1), (0, .ref (ad 0)), (1, .int 10), (2, .int 4)]) hx hb dX12_check_103 rfl hl (by decide) rfl (fun ls hl => ?_)
        refine lv_iinc (v := 2) (lv' := [(4, .int 2), (3, .int ((0 ||| (((hs_B 16) : Int32) <<< ((24 : Int32) &&& 31))) ||| (((hs_B 17) : Int32) <<< ((16 : Int32) &&& 31)))), (0, .ref (ad 0)), (1, .int 10), (2, .int 4)]) hx hb dX12_check_104 hl (k := 1) rfl rfl (by decide) rfl (fun ls hl => ?_)
        refine lv_goto (tgt := 61) hx hb dX12_check_107 (by decide) ?_
        refine lv_iload hx hb dX12_check_61 (lv_at hl 0 rfl) ?_
        refine lv_iconst (v := 4) hx hb dX12_check_63 (by decide) ?_
        refine lv_icmp_ge (tgt := 110) hx hb dX12_check_64 (by decide) (fun cc_53 => absurd cc_53 (by decide)) (fun _ => ?_)
        refine lv_iload_n hx hb dX12_check_67 rfl (lv_at hl 1 rfl) ?_
        refine lv_aload_n hx hb dX12_check_68 rfl (lv_at hl 2 rfl) ?_
        refine hk_get (ci := 15) (C := RX12) (T := TX12) (N := 92) (v := .ref (ad 6)) hx hb hts iX12 hown hw 0 rfl rfl 23 (by decide) (hts _ (List.mem_of_getElem? (i := 56) rfl)) rfl dX12_check_69 ?_
        refine lv_iconst (v := 4) hx hb dX12_check_72 (by decide) ?_
        refine lv_iload_n hx hb dX12_check_73 rfl (lv_at hl 4 rfl) ?_
        refine lv_imul hx hb dX12_check_74 ?_
        refine hk_topi 16 (by decide +kernel) ?_
        refine lv_iload hx hb dX12_check_75 (lv_at hl 0 rfl) ?_
        refine lv_iadd hx hb dX12_check_77 ?_
        refine hk_topi 18 (by decide +kernel) ?_
        refine hk_iald (v := (hs_B 18)) hx hb hw 6 0 rfl rfl (show ¬ (_ ∨ _) by decide) dX12_check_78 (hC 18 (by decide)) ?_
        refine lv_iload_n hx hb dX12_check_79 rfl (lv_at hl 3 rfl) ?_
        refine lv_bipush (v := 10) hx hb dX12_check_80 (by decide) ?_
        refine lv_icmp_ne (tgt := 96) hx hb dX12_check_82 (by decide) (fun cc_54 => absurd (by decide) cc_54) (fun _ => ?_)
        refine lv_bipush (v := 24) hx hb dX12_check_85 (by decide) ?_
        refine lv_bipush (v := 8) hx hb dX12_check_87 (by decide) ?_
        refine lv_iload hx hb dX12_check_89 (lv_at hl 0 rfl) ?_
        refine lv_imul hx hb dX12_check_91 ?_
        refine hk_topi 16 (by decide +kernel) ?_
        refine lv_isub hx hb dX12_check_92 ?_
        refine hk_topi 8 (by decide +kernel) ?_
        refine lv_goto (tgt := 101) hx hb dX12_check_93 (by decide) ?_
        refine lv_ishl hx hb dX12_check_101 ?_
        refine lv_ior hx hb dX12_check_102 ?_
        refine lv_istore_n (lv' := [(3, .int (((0 ||| (((hs_B 16) : Int32) <<< ((24 : Int32) &&& 31))) ||| (((hs_B 17) : Int32) <<< ((16 : Int32) &&& 31))) ||| (((hs_B 18) : Int32) <<< ((8 : Int32) &&& 31)))), (4, .int 2), (0, .ref (ad 0)), (1, .int 10), (2, .int 4)]) hx hb dX12_check_103 rfl hl (by decide) rfl (fun ls hl => ?_)
        refine lv_iinc (v := 3) (lv' := [(4, .int 3), (3, .int (((0 ||| (((hs_B 16) : Int32) <<< ((24 : Int32) &&& 31))) ||| (((hs_B 17) : Int32) <<< ((16 : Int32) &&& 31))) ||| (((hs_B 18) : Int32) <<< ((8 : Int32) &&& 31)))), (0, .ref (ad 0)), (1, .int 10), (2, .int 4)]) hx hb dX12_check_104 hl (k := 1) rfl rfl (by decide) rfl (fun ls hl => ?_)
        refine lv_goto (tgt := 61) hx hb dX12_check_107 (by decide) ?_
        refine lv_iload hx hb dX12_check_61 (lv_at hl 0 rfl) ?_
        refine lv_iconst (v := 4) hx hb dX12_check_63 (by decide) ?_
        refine lv_icmp_ge (tgt := 110) hx hb dX12_check_64 (by decide) (fun cc_55 => absurd cc_55 (by decide)) (fun _ => ?_)
        refine lv_iload_n hx hb dX12_check_67 rfl (lv_at hl 1 rfl) ?_
        refine lv_aload_n hx hb dX12_check_68 rfl (lv_at hl 2 rfl) ?_
        refine hk_get (ci := 15) (C := RX12) (T := TX12) (N := 92) (v := .ref (ad 6)) hx hb hts iX12 hown hw 0 rfl rfl 23 (by decide) (hts _ (List.mem_of_getElem? (i := 56) rfl)) rfl dX12_check_69 ?_
        refine lv_iconst (v := 4) hx hb dX12_check_72 (by decide) ?_
        refine lv_iload_n hx hb dX12_check_73 rfl (lv_at hl 4 rfl) ?_
        refine lv_imul hx hb dX12_check_74 ?_
        refine hk_topi 16 (by decide +kernel) ?_
        refine lv_iload hx hb dX12_check_75 (lv_at hl 0 rfl) ?_
        refine lv_iadd hx hb dX12_check_77 ?_
        refine hk_topi 19 (by decide +kernel) ?_
        refine hk_iald (v := (hs_B 19)) hx hb hw 6 0 rfl rfl (show ¬ (_ ∨ _) by decide) dX12_check_78 (hC 19 (by decide)) ?_
        refine lv_iload_n hx hb dX12_check_79 rfl (lv_at hl 3 rfl) ?_
        refine lv_bipush (v := 10) hx hb dX12_check_80 (by decide) ?_
        refine lv_icmp_ne (tgt := 96) hx hb dX12_check_82 (by decide) (fun cc_56 => absurd (by decide) cc_56) (fun _ => ?_)
        refine lv_bipush (v := 24) hx hb dX12_check_85 (by decide) ?_
        refine lv_bipush (v := 8) hx hb dX12_check_87 (by decide) ?_
        refine lv_iload hx hb dX12_check_89 (lv_at hl 0 rfl) ?_
        refine lv_imul hx hb dX12_check_91 ?_
        refine hk_topi 24 (by decide +kernel) ?_
        refine lv_isub hx hb dX12_check_92 ?_
        refine hk_topi 0 (by decide +kernel) ?_
        refine lv_goto (tgt := 101) hx hb dX12_check_93 (by decide) ?_
        refine lv_ishl hx hb dX12_check_101 ?_
        refine lv_ior hx hb dX12_check_102 ?_
        refine lv_istore_n (lv' := [(3, .int ((((0 ||| (((hs_B 16) : Int32) <<< ((24 : Int32) &&& 31))) ||| (((hs_B 17) : Int32) <<< ((16 : Int32) &&& 31))) ||| (((hs_B 18) : Int32) <<< ((8 : Int32) &&& 31))) ||| (((hs_B 19) : Int32) <<< ((0 : Int32) &&& 31)))), (4, .int 3), (0, .ref (ad 0)), (1, .int 10), (2, .int 4)]) hx hb dX12_check_103 rfl hl (by decide) rfl (fun ls hl => ?_)
        refine lv_iinc (v := 4) (lv' := [(4, .int 4), (3, .int ((((0 ||| (((hs_B 16) : Int32) <<< ((24 : Int32) &&& 31))) ||| (((hs_B 17) : Int32) <<< ((16 : Int32) &&& 31))) ||| (((hs_B 18) : Int32) <<< ((8 : Int32) &&& 31))) ||| (((hs_B 19) : Int32) <<< ((0 : Int32) &&& 31)))), (0, .ref (ad 0)), (1, .int 10), (2, .int 4)]) hx hb dX12_check_104 hl (k := 1) rfl rfl (by decide) rfl (fun ls hl => ?_)
        refine lv_goto (tgt := 61) hx hb dX12_check_107 (by decide) ?_
        refine lv_iload hx hb dX12_check_61 (lv_at hl 0 rfl) ?_
        refine lv_iconst (v := 4) hx hb dX12_check_63 (by decide) ?_
        refine lv_icmp_ge (tgt := 110) hx hb dX12_check_64 (by decide) (fun _ => ?_) (fun cc_57 => absurd (by decide) cc_57)
        refine lv_iload_n hx hb dX12_check_110 rfl (lv_at hl 1 rfl) ?_
        exact hk_iret (u := ((upd (upd (upd (upd (upd (mf_g fm) 1 0) 16 10) 14 (-1)) 15 0) 15 0), (vp_updL (vp_updL (vp_updL mf_l 0 (-1)) 1 0) 1 uu_11.2.2.1), (va_up (va_up (va_up (va_up ar 3 uu_7) 4 uu_11.2.1) 3 uu_11.1) 5 uu_11.2.2.2), bk)) hx hb hr hlocks (hw) (by decide +kernel) dX12_check_111
      · obtain rfl : i = 5 := Int32.toInt_inj.mp (q.trans (by decide))
        refine lv_iconst (v := 0) hx hb dX12_check_56 (by decide) ?_
        refine lv_istore_n (lv' := [(3, .int 0), (0, .ref (ad 0)), (1, .int 10), (2, .int 5)]) hx hb dX12_check_57 rfl hl (by decide) rfl (fun ls hl => ?_)
        refine lv_iconst (v := 0) hx hb dX12_check_58 (by decide) ?_
        refine lv_istore (lv' := [(4, .int 0), (3, .int 0), (0, .ref (ad 0)), (1, .int 10), (2, .int 5)]) hx hb dX12_check_59 hl (by decide) rfl (fun ls hl => ?_)
        refine lv_iload hx hb dX12_check_61 (lv_at hl 0 rfl) ?_
        refine lv_iconst (v := 4) hx hb dX12_check_63 (by decide) ?_
        refine lv_icmp_ge (tgt := 110) hx hb dX12_check_64 (by decide) (fun cc_58 => absurd cc_58 (by decide)) (fun _ => ?_)
        refine lv_iload_n hx hb dX12_check_67 rfl (lv_at hl 1 rfl) ?_
        refine lv_aload_n hx hb dX12_check_68 rfl (lv_at hl 2 rfl) ?_
        refine hk_get (ci := 15) (C := RX12) (T := TX12) (N := 92) (v := .ref (ad 6)) hx hb hts iX12 hown hw 0 rfl rfl 23 (by decide) (hts _ (List.mem_of_getElem? (i := 56) rfl)) rfl dX12_check_69 ?_
        refine lv_iconst (v := 4) hx hb dX12_check_72 (by decide) ?_
        refine lv_iload_n hx hb dX12_check_73 rfl (lv_at hl 4 rfl) ?_
        refine lv_imul hx hb dX12_check_74 ?_
        refine hk_topi 20 (by decide +kernel) ?_
        refine lv_iload hx hb dX12_check_75 (lv_at hl 0 rfl) ?_
        refine lv_iadd hx hb dX12_check_77 ?_
        refine hk_topi 20 (by decide +kernel) ?_
        refine hk_iald (v := (hs_B 20)) hx hb hw 6 0 rfl rfl (show ¬ (_ ∨ _) by decide) dX12_check_78 (hC 20 (by decide)) ?_
        refine lv_iload_n hx hb dX12_check_79 rfl (lv_at hl 3 rfl) ?_
        refine lv_bipush (v := 10) hx hb dX12_check_80 (by decide) ?_
        refine lv_icmp_ne (tgt := 96) hx hb dX12_check_82 (by decide) (fun cc_59 => absurd (by decide) cc_59) (fun _ => ?_)
        refine lv_bipush (v := 24) hx hb dX12_check_85 (by decide) ?_
        refine lv_bipush (v := 8) hx hb dX12_check_87 (by decide) ?_
        refine lv_iload hx hb dX12_check_89 (lv_at hl 0 rfl) ?_
        refine lv_imul hx hb dX12_check_91 ?_
        refine hk_topi 0 (by decide +kernel) ?_
        refine lv_isub hx hb dX12_check_92 ?_
        refine hk_topi 24 (by decide +kernel) ?_
        refine lv_goto (tgt := 101) hx hb dX12_check_93 (by decide) ?_
        refine lv_ishl hx hb dX12_check_101 ?_
        refine lv_ior hx hb dX12_check_102 ?_
        refine lv_istore_n (lv' := [(3, .int (0 ||| (((hs_B 20) : Int32) <<< ((24 : Int32) &&& 31)))), (4, .int 0), (0, .ref (ad 0)), (1, .int 10), (2, .int 5)]) hx hb dX12_check_103 rfl hl (by decide) rfl (fun ls hl => ?_)
        refine lv_iinc (v := 1) (lv' := [(4, .int 1), (3, .int (0 ||| (((hs_B 20) : Int32) <<< ((24 : Int32) &&& 31)))), (0, .ref (ad 0)), (1, .int 10), (2, .int 5)]) hx hb dX12_check_104 hl (k := 1) rfl rfl (by decide) rfl (fun ls hl => ?_)
        refine lv_goto (tgt := 61) hx hb dX12_check_107 (by decide) ?_
        refine lv_iload hx hb dX12_check_61 (lv_at hl 0 rfl) ?_
        refine lv_iconst (v := 4) hx hb dX12_check_63 (by decide) ?_
        refine lv_icmp_ge (tgt := 110) hx hb dX12_check_64 (by decide) (fun cc_60 => absurd cc_60 (by decide)) (fun _ => ?_)
        refine lv_iload_n hx hb dX12_check_67 rfl (lv_at hl 1 rfl) ?_
        refine lv_aload_n hx hb dX12_check_68 rfl (lv_at hl 2 rfl) ?_
        refine hk_get (ci := 15) (C := RX12) (T := TX12) (N := 92) (v := .ref (ad 6)) hx hb hts iX12 hown hw 0 rfl rfl 23 (by decide) (hts _ (List.mem_of_getElem? (i := 56) rfl)) rfl dX12_check_69 ?_
        refine lv_iconst (v := 4) hx hb dX12_check_72 (by decide) ?_
        refine lv_iload_n hx hb dX12_check_73 rfl (lv_at hl 4 rfl) ?_
        refine lv_imul hx hb dX12_check_74 ?_
        refine hk_topi 20 (by decide +kernel) ?_
        refine lv_iload hx hb dX12_check_75 (lv_at hl 0 rfl) ?_
        refine lv_iadd hx hb dX12_check_77 ?_
        refine hk_topi 21 (by decide +kernel) ?_
        refine hk_iald (v := (hs_B 21)) hx hb hw 6 0 rfl rfl (show ¬ (_ ∨ _) by decide) dX12_check_78 (hC 21 (by decide)) ?_
        refine lv_iload_n hx hb dX12_check_79 rfl (lv_at hl 3 rfl) ?_
        refine lv_bipush (v := 10) hx hb dX12_check_80 (by decide) ?_
        refine lv_icmp_ne (tgt := 96) hx hb dX12_check_82 (by decide) (fun cc_61 => absurd (by decide) cc_61) (fun _ => ?_)
        refine lv_bipush (v := 24) hx hb dX12_check_85 (by decide) ?_
        refine lv_bipush (v := 8) hx hb dX12_check_87 (by decide) ?_
        refine lv_iload hx hb dX12_check_89 (lv_at hl 0 rfl) ?_
        refine lv_imul hx hb dX12_check_91 ?_
        refine hk_topi 8 (by decide +kernel) ?_
        refine lv_isub hx hb dX12_check_92 ?_
        refine hk_topi 16 (by decide +kernel) ?_
        refine lv_goto (tgt := 101) hx hb dX12_check_93 (by decide) ?_
        refine lv_ishl hx hb dX12_check_101 ?_
        refine lv_ior hx hb dX12_check_102 ?_
        refine lv_istore_n (lv' := [(3, .int ((0 ||| (((hs_B 20) : Int32) <<< ((24 : Int32) &&& 31))) ||| (((hs_B 21) : Int32) <<< ((16 : Int32) &&& 31)))), (4, .int 1), (0, .ref (ad 0)), (1, .int 10), (2, .int 5)]) hx hb dX12_check_103 rfl hl (by decide) rfl (fun ls hl => ?_)
        refine lv_iinc (v := 2) (lv' := [(4, .int 2), (3, .int ((0 ||| (((hs_B 20) : Int32) <<< ((24 : Int32) &&& 31))) ||| (((hs_B 21) : Int32) <<< ((16 : Int32) &&& 31)))), (0, .ref (ad 0)), (1, .int 10), (2, .int 5)]) hx hb dX12_check_104 hl (k := 1) rfl rfl (by decide) rfl (fun ls hl => ?_)
        refine lv_goto (tgt := 61) hx hb dX12_check_107 (by decide) ?_
        refine lv_iload hx hb dX12_check_61 (lv_at hl 0 rfl) ?_
        refine lv_iconst (v := 4) hx hb dX12_check_63 (by decide) ?_
        refine lv_icmp_ge (tgt := 110) hx hb dX12_check_64 (by decide) (fun cc_62 => absurd cc_62 (by decide)) (fun _ => ?_)
        refine lv_iload_n hx hb dX12_check_67 rfl (lv_at hl 1 rfl) ?_
        refine lv_aload_n hx hb dX12_check_68 rfl (lv_at hl 2 rfl) ?_
        refine hk_get (ci := 15) (C := RX12) (T := TX12) (N := 92) (v := .ref (ad 6)) hx hb hts iX12 hown hw 0 rfl rfl 23 (by decide) (hts _ (List.mem_of_getElem? (i := 56) rfl)) rfl dX12_check_69 ?_
        refine lv_iconst (v := 4) hx hb dX12_check_72 (by decide) ?_
        refine lv_iload_n hx hb dX12_check_73 rfl (lv_at hl 4 rfl) ?_
        refine lv_imul hx hb dX12_check_74 ?_
        refine hk_topi 20 (by decide +kernel) ?_
        refine lv_iload hx hb dX12_check_75 (lv_at hl 0 rfl) ?_
        refine lv_iadd hx hb dX12_check_77 ?_
        refine hk_topi 22 (by decide +kernel) ?_
        refine hk_iald (v := (hs_B 22)) hx hb hw 6 0 rfl rfl (show ¬ (_ ∨ _) by decide) dX12_check_78 (hC 22 (by decide)) ?_
        refine lv_iload_n hx hb dX12_check_79 rfl (lv_at hl 3 rfl) ?_
        refine lv_bipush (v := 10) hx hb dX12_check_80 (by decide) ?_
        refine lv_icmp_ne (tgt := 96) hx hb dX12_check_82 (by decide) (fun cc_63 => absurd (by decide) cc_63) (fun _ => ?_)
        refine lv_bipush (v := 24) hx hb dX12_check_85 (by decide) ?_
        refine lv_bipush (v := 8) hx hb dX12_check_87 (by decide) ?_
        refine lv_iload hx hb dX12_check_89 (lv_at hl 0 rfl) ?_
        refine lv_imul hx hb dX12_check_91 ?_
        refine hk_topi 16 (by decide +kernel) ?_
        refine lv_isub hx hb dX12_check_92 ?_
        refine hk_topi 8 (by decide +kernel) ?_
        refine lv_goto (tgt := 101) hx hb dX12_check_93 (by decide) ?_
        refine lv_ishl hx hb dX12_check_101 ?_
        refine lv_ior hx hb dX12_check_102 ?_
        refine lv_istore_n (lv' := [(3, .int (((0 ||| (((hs_B 20) : Int32) <<< ((24 : Int32) &&& 31))) ||| (((hs_B 21) : Int32) <<< ((16 : Int32) &&& 31))) ||| (((hs_B 22) : Int32) <<< ((8 : Int32) &&& 31)))), (4, .int 2), (0, .ref (ad 0)), (1, .int 10), (2, .int 5)]) hx hb dX12_check_103 rfl hl (by decide) rfl (fun ls hl => ?_)
        refine lv_iinc (v := 3) (lv' := [(4, .int 3), (3, .int (((0 ||| (((hs_B 20) : Int32) <<< ((24 : Int32) &&& 31))) ||| (((hs_B 21) : Int32) <<< ((16 : Int32) &&& 31))) ||| (((hs_B 22) : Int32) <<< ((8 : Int32) &&& 31)))), (0, .ref (ad 0)), (1, .int 10), (2, .int 5)]) hx hb dX12_check_104 hl (k := 1) rfl rfl (by decide) rfl (fun ls hl => ?_)
        refine lv_goto (tgt := 61) hx hb dX12_check_107 (by decide) ?_
        refine lv_iload hx hb dX12_check_61 (lv_at hl 0 rfl) ?_
        refine lv_iconst (v := 4) hx hb dX12_check_63 (by decide) ?_
        refine lv_icmp_ge (tgt := 110) hx hb dX12_check_64 (by decide) (fun cc_64 => absurd cc_64 (by decide)) (fun _ => ?_)
        refine lv_iload_n hx hb dX12_check_67 rfl (lv_at hl 1 rfl) ?_
        refine lv_aload_n hx hb dX12_check_68 rfl (lv_at hl 2 rfl) ?_
        refine hk_get (ci := 15) (C := RX12) (T := TX12) (N := 92) (v := .ref (ad 6)) hx hb hts iX12 hown hw 0 rfl rfl 23 (by decide) (hts _ (List.mem_of_getElem? (i := 56) rfl)) rfl dX12_check_69 ?_
        refine lv_iconst (v := 4) hx hb dX12_check_72 (by decide) ?_
        refine lv_iload_n hx hb dX12_check_73 rfl (lv_at hl 4 rfl) ?_
        refine lv_imul hx hb dX12_check_74 ?_
        refine hk_topi 20 (by decide +kernel) ?_
        refine lv_iload hx hb dX12_check_75 (lv_at hl 0 rfl) ?_
        refine lv_iadd hx hb dX12_check_77 ?_
        refine hk_topi 23 (by decide +kernel) ?_
        refine hk_iald (v := (hs_B 23)) hx hb hw 6 0 rfl rfl (show ¬ (_ ∨ _) by decide) dX12_check_78 (hC 23 (by decide)) ?_
        refine lv_iload_n hx hb dX12_check_79 rfl (lv_at hl 3 rfl) ?_
        refine lv_bipush (v := 10) hx hb dX12_check_80 (by decide) ?_
        refine lv_icmp_ne (tgt := 96) hx hb dX12_check_82 (by decide) (fun cc_65 => absurd (by decide) cc_65) (fun _ => ?_)
        refine lv_bipush (v := 24) hx hb dX12_check_85 (by decide) ?_
        refine lv_bipush (v := 8) hx hb dX12_check_87 (by decide) ?_
        refine lv_iload hx hb dX12_check_89 (lv_at hl 0 rfl) ?_
        refine lv_imul hx hb dX12_check_91 ?_
        refine hk_topi 24 (by decide +kernel) ?_
        refine lv_isub hx hb dX12_check_92 ?_
        refine hk_topi 0 (by decide +kernel) ?_
        refine lv_goto (tgt := 101) hx hb dX12_check_93 (by decide) ?_
        refine lv_ishl hx hb dX12_check_101 ?_
        refine lv_ior hx hb dX12_check_102 ?_
        refine lv_istore_n (lv' := [(3, .int ((((0 ||| (((hs_B 20) : Int32) <<< ((24 : Int32) &&& 31))) ||| (((hs_B 21) : Int32) <<< ((16 : Int32) &&& 31))) ||| (((hs_B 22) : Int32) <<< ((8 : Int32) &&& 31))) ||| (((hs_B 23) : Int32) <<< ((0 : Int32) &&& 31)))), (4, .int 3), (0, .ref (ad 0)), (1, .int 10), (2, .int 5)]) hx hb dX12_check_103 rfl hl (by decide) rfl (fun ls hl => ?_)
        refine lv_iinc (v := 4) (lv' := [(4, .int 4), (3, .int ((((0 ||| (((hs_B 20) : Int32) <<< ((24 : Int32) &&& 31))) ||| (((hs_B 21) : Int32) <<< ((16 : Int32) &&& 31))) ||| (((hs_B 22) : Int32) <<< ((8 : Int32) &&& 31))) ||| (((hs_B 23) : Int32) <<< ((0 : Int32) &&& 31)))), (0, .ref (ad 0)), (1, .int 10), (2, .int 5)]) hx hb dX12_check_104 hl (k := 1) rfl rfl (by decide) rfl (fun ls hl => ?_)
        refine lv_goto (tgt := 61) hx hb dX12_check_107 (by decide) ?_
        refine lv_iload hx hb dX12_check_61 (lv_at hl 0 rfl) ?_
        refine lv_iconst (v := 4) hx hb dX12_check_63 (by decide) ?_
        refine lv_icmp_ge (tgt := 110) hx hb dX12_check_64 (by decide) (fun _ => ?_) (fun cc_66 => absurd (by decide) cc_66)
        refine lv_iload_n hx hb dX12_check_110 rfl (lv_at hl 1 rfl) ?_
        exact hk_iret (u := ((upd (upd (upd (upd (upd (mf_g fm) 1 0) 16 10) 14 (-1)) 15 0) 15 0), (vp_updL (vp_updL (vp_updL mf_l 0 (-1)) 1 0) 1 uu_11.2.2.1), (va_up (va_up (va_up (va_up ar 3 uu_7) 4 uu_11.2.1) 3 uu_11.1) 5 uu_11.2.2.2), bk)) hx hb hr hlocks (hw) (by decide +kernel) dX12_check_111
      · obtain rfl : i = 6 := Int32.toInt_inj.mp (q.trans (by decide))
        refine lv_iconst (v := 0) hx hb dX12_check_56 (by decide) ?_
        refine lv_istore_n (lv' := [(3, .int 0), (0, .ref (ad 0)), (1, .int 10), (2, .int 6)]) hx hb dX12_check_57 rfl hl (by decide) rfl (fun ls hl => ?_)
        refine lv_iconst (v := 0) hx hb dX12_check_58 (by decide) ?_
        refine lv_istore (lv' := [(4, .int 0), (3, .int 0), (0, .ref (ad 0)), (1, .int 10), (2, .int 6)]) hx hb dX12_check_59 hl (by decide) rfl (fun ls hl => ?_)
        refine lv_iload hx hb dX12_check_61 (lv_at hl 0 rfl) ?_
        refine lv_iconst (v := 4) hx hb dX12_check_63 (by decide) ?_
        refine lv_icmp_ge (tgt := 110) hx hb dX12_check_64 (by decide) (fun cc_67 => absurd cc_67 (by decide)) (fun _ => ?_)
        refine lv_iload_n hx hb dX12_check_67 rfl (lv_at hl 1 rfl) ?_
        refine lv_aload_n hx hb dX12_check_68 rfl (lv_at hl 2 rfl) ?_
        refine hk_get (ci := 15) (C := RX12) (T := TX12) (N := 92) (v := .ref (ad 6)) hx hb hts iX12 hown hw 0 rfl rfl 23 (by decide) (hts _ (List.mem_of_getElem? (i := 56) rfl)) rfl dX12_check_69 ?_
        refine lv_iconst (v := 4) hx hb dX12_check_72 (by decide) ?_
        refine lv_iload_n hx hb dX12_check_73 rfl (lv_at hl 4 rfl) ?_
        refine lv_imul hx hb dX12_check_74 ?_
        refine hk_topi 24 (by decide +kernel) ?_
        refine lv_iload hx hb dX12_check_75 (lv_at hl 0 rfl) ?_
        refine lv_iadd hx hb dX12_check_77 ?_
        refine hk_topi 24 (by decide +kernel) ?_
        refine hk_iald (v := (hs_B 24)) hx hb hw 6 0 rfl rfl (show ¬ (_ ∨ _) by decide) dX12_check_78 (hC 24 (by decide)) ?_
        refine lv_iload_n hx hb dX12_check_79 rfl (lv_at hl 3 rfl) ?_
        refine lv_bipush (v := 10) hx hb dX12_check_80 (by decide) ?_
        refine lv_icmp_ne (tgt := 96) hx hb dX12_check_82 (by decide) (fun cc_68 => absurd (by decide) cc_68) (fun _ => ?_)
        refine lv_bipush (v := 24) hx hb dX12_check_85 (by decide) ?_
        refine lv_bipush (v := 8) hx hb dX12_check_87 (by decide) ?_
        refine lv_iload hx hb dX12_check_89 (lv_at hl 0 rfl) ?_
        refine lv_imul hx hb dX12_check_91 ?_
        refine hk_topi 0 (by decide +kernel) ?_
        refine lv_isub hx hb dX12_check_92 ?_
        refine hk_topi 24 (by decide +kernel) ?_
        refine lv_goto (tgt := 101) hx hb dX12_check_93 (by decide) ?_
        refine lv_ishl hx hb dX12_check_101 ?_
        refine lv_ior hx hb dX12_check_102 ?_
        refine lv_istore_n (lv' := [(3, .int (0 ||| (((hs_B 24) : Int32) <<< ((24 : Int32) &&& 31)))), (4, .int 0), (0, .ref (ad 0)), (1, .int 10), (2, .int 6)]) hx hb dX12_check_103 rfl hl (by decide) rfl (fun ls hl => ?_)
        refine lv_iinc (v := 1) (lv' := [(4, .int 1), (3, .int (0 ||| (((hs_B 24) : Int32) <<< ((24 : Int32) &&& 31)))), (0, .ref (ad 0)), (1, .int 10), (2, .int 6)]) hx hb dX12_check_104 hl (k := 1) rfl rfl (by decide) rfl (fun ls hl => ?_)
        refine lv_goto (tgt := 61) hx hb dX12_check_107 (by decide) ?_
        refine lv_iload hx hb dX12_check_61 (lv_at hl 0 rfl) ?_
        refine lv_iconst (v := 4) hx hb dX12_check_63 (by decide) ?_
        refine lv_icmp_ge (tgt := 110) hx hb dX12_check_64 (by decide) (fun cc_69 => absurd cc_69 (by decide)) (fun _ => ?_)
        refine lv_iload_n hx hb dX12_check_67 rfl (lv_at hl 1 rfl) ?_
        refine lv_aload_n hx hb dX12_check_68 rfl (lv_at hl 2 rfl) ?_
        refine hk_get (ci := 15) (C := RX12) (T := TX12) (N := 92) (v := .ref (ad 6)) hx hb hts iX12 hown hw 0 rfl rfl 23 (by decide) (hts _ (List.mem_of_getElem? (i := 56) rfl)) rfl dX12_check_69 ?_
        refine lv_iconst (v := 4) hx hb dX12_check_72 (by decide) ?_
        refine lv_iload_n hx hb dX12_check_73 rfl (lv_at hl 4 rfl) ?_
        refine lv_imul hx hb dX12_check_74 ?_
        refine hk_topi 24 (by decide +kernel) ?_
        refine lv_iload hx hb dX12_check_75 (lv_at hl 0 rfl) ?_
        refine lv_iadd hx hb dX12_check_77 ?_
        refine hk_topi 25 (by decide +kernel) ?_
        refine hk_iald (v := (hs_B 25)) hx hb hw 6 0 rfl rfl (show ¬ (_ ∨ _) by decide) dX12_check_78 (hC 25 (by decide)) ?_
        refine lv_iload_n hx hb dX12_check_79 rfl (lv_at hl 3 rfl) ?_
        refine lv_bipush (v := 10) hx hb dX12_check_80 (by decide) ?_
        refine lv_icmp_ne (tgt := 96) hx hb dX12_check_82 (by decide) (fun cc_70 => absurd (by decide) cc_70) (fun _ => ?_)
        refine lv_bipush (v := 24) hx hb dX12_check_85 (by decide) ?_
        refine lv_bipush (v := 8) hx hb dX12_check_87 (by decide) ?_
        refine lv_iload hx hb dX12_check_89 (lv_at hl 0 rfl) ?_
        refine lv_imul hx hb dX12_check_91 ?_
        refine hk_topi 8 (by decide +kernel) ?_
        refine lv_isub hx hb dX12_check_92 ?_
        refine hk_topi 16 (by decide +kernel) ?_
        refine lv_goto (tgt := 101) hx hb dX12_check_93 (by decide) ?_
        refine lv_ishl hx hb dX12_check_101 ?_
        refine lv_ior hx hb dX12_check_102 ?_
        refine lv_istore_n (lv' := [(3, .int ((0 ||| (((hs_B 24) : Int32) <<< ((24 : Int32) &&& 31))) ||| (((hs_B 25) : Int32) <<< ((16 : Int32) &&& 31)))), (4, .int 1), (0, .ref (ad 0)), (1, .int 10), (2, .int 6)]) hx hb dX12_check_103 rfl hl (by decide) rfl (fun ls hl => ?_)
        refine lv_iinc (v := 2) (lv' := [(4, .int 2), (3, .int ((0 ||| (((hs_B 24) : Int32) <<< ((24 : Int32) &&& 31))) ||| (((hs_B 25) : Int32) <<< ((16 : Int32) &&& 31)))), (0, .ref (ad 0)), (1, .int 10), (2, .int 6)]) hx hb dX12_check_104 hl (k := 1) rfl rfl (by decide) rfl (fun ls hl => ?_)
        refine lv_goto (tgt := 61) hx hb dX12_check_107 (by decide) ?_
        refine lv_iload hx hb dX12_check_61 (lv_at hl 0 rfl) ?_
        refine lv_iconst (v := 4) hx hb dX12_check_63 (by decide) ?_
        refine lv_icmp_ge (tgt := 110) hx hb dX12_check_64 (by decide) (fun cc_71 => absurd cc_71 (by decide)) (fun _ => ?_)
        refine lv_iload_n hx hb dX12_check_67 rfl (lv_at hl 1 rfl) ?_
        refine lv_aload_n hx hb dX12_check_68 rfl (lv_at hl 2 rfl) ?_
        refine hk_get (ci := 15) (C := RX12) (T := TX12) (N := 92) (v := .ref (ad 6)) hx hb hts iX12 hown hw 0 rfl rfl 23 (by decide) (hts _ (List.mem_of_getElem? (i := 56) rfl)) rfl dX12_check_69 ?_
        refine lv_iconst (v := 4) hx hb dX12_check_72 (by decide) ?_
        refine lv_iload_n hx hb dX12_check_73 rfl (lv_at hl 4 rfl) ?_
        refine lv_imul hx hb dX12_check_74 ?_
        refine hk_topi 24 (by decide +kernel) ?_
        refine lv_iload hx hb dX12_check_75 (lv_at hl 0 rfl) ?_
        refine lv_iadd hx hb dX12_check_77 ?_
        refine hk_topi 26 (by decide +kernel) ?_
        refine hk_iald (v := (hs_B 26)) hx hb hw 6 0 rfl rfl (show ¬ (_ ∨ _) by decide) dX12_check_78 (hC 26 (by decide)) ?_
        refine lv_iload_n hx hb dX12_check_79 rfl (lv_at hl 3 rfl) ?_
        refine lv_bipush (v := 10) hx hb dX12_check_80 (by decide) ?_
        refine lv_icmp_ne (tgt := 96) hx hb dX12_check_82 (by decide) (fun cc_72 => absurd (by decide) cc_72) (fun _ => ?_)
        refine lv_bipush (v := 24) hx hb dX12_check_85 (by decide) ?_
        refine lv_bipush (v := 8) hx hb dX12_check_87 (by decide) ?_
        refine lv_iload hx hb dX12_check_89 (lv_at hl 0 rfl) ?_
        refine lv_imul hx hb dX12_check_91 ?_
        refine hk_topi 16 (by decide +kernel) ?_
        refine lv_isub hx hb dX12_check_92 ?_
        refine hk_topi 8 (by decide +kernel) ?_
        refine lv_goto (tgt := 101) hx hb dX12_check_93 (by decide) ?_
        refine lv_ishl hx hb dX12_check_101 ?_
        refine lv_ior hx hb dX12_check_102 ?_
        refine lv_istore_n (lv' := [(3, .int (((0 ||| (((hs_B 24) : Int32) <<< ((24 : Int32) &&& 31))) ||| (((hs_B 25) : Int32) <<< ((16 : Int32) &&& 31))) ||| (((hs_B 26) : Int32) <<< ((8 : Int32) &&& 31)))), (4, .int 2), (0, .ref (ad 0)), (1, .int 10), (2, .int 6)]) hx hb dX12_check_103 rfl hl (by decide) rfl (fun ls hl => ?_)
        refine lv_iinc (v := 3) (lv' := [(4, .int 3), (3, .int (((0 ||| (((hs_B 24) : Int32) <<< ((24 : Int32) &&& 31))) ||| (((hs_B 25) : Int32) <<< ((16 : Int32) &&& 31))) ||| (((hs_B 26) : Int32) <<< ((8 : Int32) &&& 31)))), (0, .ref (ad 0)), (1, .int 10), (2, .int 6)]) hx hb dX12_check_104 hl (k := 1) rfl rfl (by decide) rfl (fun ls hl => ?_)
        refine lv_goto (tgt := 61) hx hb dX12_check_107 (by decide) ?_
        refine lv_iload hx hb dX12_check_61 (lv_at hl 0 rfl) ?_
        refine lv_iconst (v := 4) hx hb dX12_check_63 (by decide) ?_
        refine lv_icmp_ge (tgt := 110) hx hb dX12_check_64 (by decide) (fun cc_73 => absurd cc_73 (by decide)) (fun _ => ?_)
        refine lv_iload_n hx hb dX12_check_67 rfl (lv_at hl 1 rfl) ?_
        refine lv_aload_n hx hb dX12_check_68 rfl (lv_at hl 2 rfl) ?_
        refine hk_get (ci := 15) (C := RX12) (T := TX12) (N := 92) (v := .ref (ad 6)) hx hb hts iX12 hown hw 0 rfl rfl 23 (by decide) (hts _ (List.mem_of_getElem? (i := 56) rfl)) rfl dX12_check_69 ?_
        refine lv_iconst (v := 4) hx hb dX12_check_72 (by decide) ?_
        refine lv_iload_n hx hb dX12_check_73 rfl (lv_at hl 4 rfl) ?_
        refine lv_imul hx hb dX12_check_74 ?_
        refine hk_topi 24 (by decide +kernel) ?_
        refine lv_iload hx hb dX12_check_75 (lv_at hl 0 rfl) ?_
        refine lv_iadd hx hb dX12_check_77 ?_
        refine hk_topi 27 (by decide +kernel) ?_
        refine hk_iald (v := (hs_B 27)) hx hb hw 6 0 rfl rfl (show ¬ (_ ∨ _) by decide) dX12_check_78 (hC 27 (by decide)) ?_
        refine lv_iload_n hx hb dX12_check_79 rfl (lv_at hl 3 rfl) ?_
        refine lv_bipush (v := 10) hx hb dX12_check_80 (by decide) ?_
        refine lv_icmp_ne (tgt := 96) hx hb dX12_check_82 (by decide) (fun cc_74 => absurd (by decide) cc_74) (fun _ => ?_)
        refine lv_bipush (v := 24) hx hb dX12_check_85 (by decide) ?_
        refine lv_bipush (v := 8) hx hb dX12_check_87 (by decide) ?_
        refine lv_iload hx hb dX12_check_89 (lv_at hl 0 rfl) ?_
        refine lv_imul hx hb dX12_check_91 ?_
        refine hk_topi 24 (by decide +kernel) ?_
        refine lv_isub hx hb dX12_check_92 ?_
        refine hk_topi 0 (by decide +kernel) ?_
        refine lv_goto (tgt := 101) hx hb dX12_check_93 (by decide) ?_
        refine lv_ishl hx hb dX12_check_101 ?_
        refine lv_ior hx hb dX12_check_102 ?_
        refine lv_istore_n (lv' := [(3, .int ((((0 ||| (((hs_B 24) : Int32) <<< ((24 : Int32) &&& 31))) ||| (((hs_B 25) : Int32) <<< ((16 : Int32) &&& 31))) ||| (((hs_B 26) : Int32) <<< ((8 : Int32) &&& 31))) ||| (((hs_B 27) : Int32) <<< ((0 : Int32) &&& 31)))), (4, .int 3), (0, .ref (ad 0)), (1, .int 10), (2, .int 6)]) hx hb dX12_check_103 rfl hl (by decide) rfl (fun ls hl => ?_)
        refine lv_iinc (v := 4) (lv' := [(4, .int 4), (3, .int ((((0 ||| (((hs_B 24) : Int32) <<< ((24 : Int32) &&& 31))) ||| (((hs_B 25) : Int32) <<< ((16 : Int32) &&& 31))) ||| (((hs_B 26) : Int32) <<< ((8 : Int32) &&& 31))) ||| (((hs_B 27) : Int32) <<< ((0 : Int32) &&& 31)))), (0, .ref (ad 0)), (1, .int 10), (2, .int 6)]) hx hb dX12_check_104 hl (k := 1) rfl rfl (by decide) rfl (fun ls hl => ?_)
        refine lv_goto (tgt := 61) hx hb dX12_check_107 (by decide) ?_
        refine lv_iload hx hb dX12_check_61 (lv_at hl 0 rfl) ?_
        refine lv_iconst (v := 4) hx hb dX12_check_63 (by decide) ?_
        refine lv_icmp_ge (tgt := 110) hx hb dX12_check_64 (by decide) (fun _ => ?_) (fun cc_75 => absurd (by decide) cc_75)
        refine lv_iload_n hx hb dX12_check_110 rfl (lv_at hl 1 rfl) ?_
        exact hk_iret (u := ((upd (upd (upd (upd (upd (mf_g fm) 1 0) 16 10) 14 (-1)) 15 0) 15 0), (vp_updL (vp_updL (vp_updL mf_l 0 (-1)) 1 0) 1 uu_11.2.2.1), (va_up (va_up (va_up (va_up ar 3 uu_7) 4 uu_11.2.1) 3 uu_11.1) 5 uu_11.2.2.2), bk)) hx hb hr hlocks (hw) (by decide +kernel) dX12_check_111
      · obtain rfl : i = 7 := Int32.toInt_inj.mp (q.trans (by decide))
        refine lv_iconst (v := 0) hx hb dX12_check_56 (by decide) ?_
        refine lv_istore_n (lv' := [(3, .int 0), (0, .ref (ad 0)), (1, .int 10), (2, .int 7)]) hx hb dX12_check_57 rfl hl (by decide) rfl (fun ls hl => ?_)
        refine lv_iconst (v := 0) hx hb dX12_check_58 (by decide) ?_
        refine lv_istore (lv' := [(4, .int 0), (3, .int 0), (0, .ref (ad 0)), (1, .int 10), (2, .int 7)]) hx hb dX12_check_59 hl (by decide) rfl (fun ls hl => ?_)
        refine lv_iload hx hb dX12_check_61 (lv_at hl 0 rfl) ?_
        refine lv_iconst (v := 4) hx hb dX12_check_63 (by decide) ?_
        refine lv_icmp_ge (tgt := 110) hx hb dX12_check_64 (by decide) (fun cc_76 => absurd cc_76 (by decide)) (fun _ => ?_)
        refine lv_iload_n hx hb dX12_check_67 rfl (lv_at hl 1 rfl) ?_
        refine lv_aload_n hx hb dX12_check_68 rfl (lv_at hl 2 rfl) ?_
        refine hk_get (ci := 15) (C := RX12) (T := TX12) (N := 92) (v := .ref (ad 6)) hx hb hts iX12 hown hw 0 rfl rfl 23 (by decide) (hts _ (List.mem_of_getElem? (i := 56) rfl)) rfl dX12_check_69 ?_
        refine lv_iconst (v := 4) hx hb dX12_check_72 (by decide) ?_
        refine lv_iload_n hx hb dX12_check_73 rfl (lv_at hl 4 rfl) ?_
        refine lv_imul hx hb dX12_check_74 ?_
        refine hk_topi 28 (by decide +kernel) ?_
        refine lv_iload hx hb dX12_check_75 (lv_at hl 0 rfl) ?_
        refine lv_iadd hx hb dX12_check_77 ?_
        refine hk_topi 28 (by decide +kernel) ?_
        refine hk_iald (v := (hs_B 28)) hx hb hw 6 0 rfl rfl (show ¬ (_ ∨ _) by decide) dX12_check_78 (hC 28 (by decide)) ?_
        refine lv_iload_n hx hb dX12_check_79 rfl (lv_at hl 3 rfl) ?_
        refine lv_bipush (v := 10) hx hb dX12_check_80 (by decide) ?_
        refine lv_icmp_ne (tgt := 96) hx hb dX12_check_82 (by decide) (fun cc_77 => absurd (by decide) cc_77) (fun _ => ?_)
        refine lv_bipush (v := 24) hx hb dX12_check_85 (by decide) ?_
        refine lv_bipush (v := 8) hx hb dX12_check_87 (by decide) ?_
        refine lv_iload hx hb dX12_check_89 (lv_at hl 0 rfl) ?_
        refine lv_imul hx hb dX12_check_91 ?_
        refine hk_topi 0 (by decide +kernel) ?_
        refine lv_isub hx hb dX12_check_92 ?_
        refine hk_topi 24 (by decide +kernel) ?_
        refine lv_goto (tgt := 101) hx hb dX12_check_93 (by decide) ?_
        refine lv_ishl hx hb dX12_check_101 ?_
        refine lv_ior hx hb dX12_check_102 ?_
        refine lv_istore_n (lv' := [(3, .int (0 ||| (((hs_B 28) : Int32) <<< ((24 : Int32) &&& 31)))), (4, .int 0), (0, .ref (ad 0)), (1, .int 10), (2, .int 7)]) hx hb dX12_check_103 rfl hl (by decide) rfl (fun ls hl => ?_)
        refine lv_iinc (v := 1) (lv' := [(4, .int 1), (3, .int (0 ||| (((hs_B 28) : Int32) <<< ((24 : Int32) &&& 31)))), (0, .ref (ad 0)), (1, .int 10), (2, .int 7)]) hx hb dX12_check_104 hl (k := 1) rfl rfl (by decide) rfl (fun ls hl => ?_)
        refine lv_goto (tgt := 61) hx hb dX12_check_107 (by decide) ?_
        refine lv_iload hx hb dX12_check_61 (lv_at hl 0 rfl) ?_
        refine lv_iconst (v := 4) hx hb dX12_check_63 (by decide) ?_
        refine lv_icmp_ge (tgt := 110) hx hb dX12_check_64 (by decide) (fun cc_78 => absurd cc_78 (by decide)) (fun _ => ?_)
        refine lv_iload_n hx hb dX12_check_67 rfl (lv_at hl 1 rfl) ?_
        refine lv_aload_n hx hb dX12_check_68 rfl (lv_at hl 2 rfl) ?_
        refine hk_get (ci := 15) (C := RX12) (T := TX12) (N := 92) (v := .ref (ad 6)) hx hb hts iX12 hown hw 0 rfl rfl 23 (by decide) (hts _ (List.mem_of_getElem? (i := 56) rfl)) rfl dX12_check_69 ?_
        refine lv_iconst (v := 4) hx hb dX12_check_72 (by decide) ?_
        refine lv_iload_n hx hb dX12_check_73 rfl (lv_at hl 4 rfl) ?_
        refine lv_imul hx hb dX12_check_74 ?_
        refine hk_topi 28 (by decide +kernel) ?_
        refine lv_iload hx hb dX12_check_75 (lv_at hl 0 rfl) ?_
        refine lv_iadd hx hb dX12_check_77 ?_
        refine hk_topi 29 (by decide +kernel) ?_
        refine hk_iald (v := (hs_B 29)) hx hb hw 6 0 rfl rfl (show ¬ (_ ∨ _) by decide) dX12_check_78 (hC 29 (by decide)) ?_
        refine lv_iload_n hx hb dX12_check_79 rfl (lv_at hl 3 rfl) ?_
        refine lv_bipush (v := 10) hx hb dX12_check_80 (by decide) ?_
        refine lv_icmp_ne (tgt := 96) hx hb dX12_check_82 (by decide) (fun cc_79 => absurd (by decide) cc_79) (fun _ => ?_)
        refine lv_bipush (v := 24) hx hb dX12_check_85 (by decide) ?_
        refine lv_bipush (v := 8) hx hb dX12_check_87 (by decide) ?_
        refine lv_iload hx hb dX12_check_89 (lv_at hl 0 rfl) ?_
        refine lv_imul hx hb dX12_check_91 ?_
        refine hk_topi 8 (by decide +kernel) ?_
        refine lv_isub hx hb dX12_check_92 ?_
        refine hk_topi 16 (by decide +kernel) ?_
        refine lv_goto (tgt := 101) hx hb dX12_check_93 (by decide) ?_
        refine lv_ishl hx hb dX12_check_101 ?_
        refine lv_ior hx hb dX12_check_102 ?_
        refine lv_istore_n (lv' := [(3, .int ((0 ||| (((hs_B 28) : Int32) <<< ((24 : Int32) &&& 31))) ||| (((hs_B 29) : Int32) <<< ((16 : Int32) &&& 31)))), (4, .int 1), (0, .ref (ad 0)), (1, .int 10), (2, .int 7)]) hx hb dX12_check_103 rfl hl (by decide) rfl (fun ls hl => ?_)
        refine lv_iinc (v := 2) (lv' := [(4, .int 2), (3, .int ((0 ||| (((hs_B 28) : Int32) <<< ((24 : Int32) &&& 31))) ||| (((hs_B 29) : Int32) <<< ((16 : Int32) &&& 31)))), (0, .ref (ad 0)), (1, .int 10), (2, .int 7)]) hx hb dX12_check_104 hl (k := 1) rfl rfl (by decide) rfl (fun ls hl => ?_)
        refine lv_goto (tgt := 61) hx hb dX12_check_107 (by decide) ?_
        refine lv_iload hx hb dX12_check_61 (lv_at hl 0 rfl) ?_
        refine lv_iconst (v := 4) hx hb dX12_check_63 (by decide) ?_
        refine lv_icmp_ge (tgt := 110) hx hb dX12_check_64 (by decide) (fun cc_80 => absurd cc_80 (by decide)) (fun _ => ?_)
        refine lv_iload_n hx hb dX12_check_67 rfl (lv_at hl 1 rfl) ?_
        refine lv_aload_n hx hb dX12_check_68 rfl (lv_at hl 2 rfl) ?_
        refine hk_get (ci := 15) (C := RX12) (T := TX12) (N := 92) (v := .ref (ad 6)) hx hb hts iX12 hown hw 0 rfl rfl 23 (by decide) (hts _ (List.mem_of_getElem? (i := 56) rfl)) rfl dX12_check_69 ?_
        refine lv_iconst (v := 4) hx hb dX12_check_72 (by decide) ?_
        refine lv_iload_n hx hb dX12_check_73 rfl (lv_at hl 4 rfl) ?_
        refine lv_imul hx hb dX12_check_74 ?_
        refine hk_topi 28 (by decide +kernel) ?_
        refine lv_iload hx hb dX12_check_75 (lv_at hl 0 rfl) ?_
        refine lv_iadd hx hb dX12_check_77 ?_
        refine hk_topi 30 (by decide +kernel) ?_
        refine hk_iald (v := (hs_B 30)) hx hb hw 6 0 rfl rfl (show ¬ (_ ∨ _) by decide) dX12_check_78 (hC 30 (by decide)) ?_
        refine lv_iload_n hx hb dX12_check_79 rfl (lv_at hl 3 rfl) ?_
        refine lv_bipush (v := 10) hx hb dX12_check_80 (by decide) ?_
        refine lv_icmp_ne (tgt := 96) hx hb dX12_check_82 (by decide) (fun cc_81 => absurd (by decide) cc_81) (fun _ => ?_)
        refine lv_bipush (v := 24) hx hb dX12_check_85 (by decide) ?_
        refine lv_bipush (v := 8) hx hb dX12_check_87 (by decide) ?_
        refine lv_iload hx hb dX12_check_89 (lv_at hl 0 rfl) ?_
        refine lv_imul hx hb dX12_check_91 ?_
        refine hk_topi 16 (by decide +kernel) ?_
        refine lv_isub hx hb dX12_check_92 ?_
        refine hk_topi 8 (by decide +kernel) ?_
        refine lv_goto (tgt := 101) hx hb dX12_check_93 (by decide) ?_
        refine lv_ishl hx hb dX12_check_101 ?_
        refine lv_ior hx hb dX12_check_102 ?_
        refine lv_istore_n (lv' := [(3, .int (((0 ||| (((hs_B 28) : Int32) <<< ((24 : Int32) &&& 31))) ||| (((hs_B 29) : Int32) <<< ((16 : Int32) &&& 31))) ||| (((hs_B 30) : Int32) <<< ((8 : Int32) &&& 31)))), (4, .int 2), (0, .ref (ad 0)), (1, .int 10), (2, .int 7)]) hx hb dX12_check_103 rfl hl (by decide) rfl (fun ls hl => ?_)
        refine lv_iinc (v := 3) (lv' := [(4, .int 3), (3, .int (((0 ||| (((hs_B 28) : Int32) <<< ((24 : Int32) &&& 31))) ||| (((hs_B 29) : Int32) <<< ((16 : Int32) &&& 31))) ||| (((hs_B 30) : Int32) <<< ((8 : Int32) &&& 31)))), (0, .ref (ad 0)), (1, .int 10), (2, .int 7)]) hx hb dX12_check_104 hl (k := 1) rfl rfl (by decide) rfl (fun ls hl => ?_)
        refine lv_goto (tgt := 61) hx hb dX12_check_107 (by decide) ?_
        refine lv_iload hx hb dX12_check_61 (lv_at hl 0 rfl) ?_
        refine lv_iconst (v := 4) hx hb dX12_check_63 (by decide) ?_
        refine lv_icmp_ge (tgt := 110) hx hb dX12_check_64 (by decide) (fun cc_82 => absurd cc_82 (by decide)) (fun _ => ?_)
        refine lv_iload_n hx hb dX12_check_67 rfl (lv_at hl 1 rfl) ?_
        refine lv_aload_n hx hb dX12_check_68 rfl (lv_at hl 2 rfl) ?_
        refine hk_get (ci := 15) (C := RX12) (T := TX12) (N := 92) (v := .ref (ad 6)) hx hb hts iX12 hown hw 0 rfl rfl 23 (by decide) (hts _ (List.mem_of_getElem? (i := 56) rfl)) rfl dX12_check_69 ?_
        refine lv_iconst (v := 4) hx hb dX12_check_72 (by decide) ?_
        refine lv_iload_n hx hb dX12_check_73 rfl (lv_at hl 4 rfl) ?_
        refine lv_imul hx hb dX12_check_74 ?_
        refine hk_topi 28 (by decide +kernel) ?_
        refine lv_iload hx hb dX12_check_75 (lv_at hl 0 rfl) ?_
        refine lv_iadd hx hb dX12_check_77 ?_
        refine hk_topi 31 (by decide +kernel) ?_
        refine hk_iald (v := (hs_B 31)) hx hb hw 6 0 rfl rfl (show ¬ (_ ∨ _) by decide) dX12_check_78 (hC 31 (by decide)) ?_
        refine lv_iload_n hx hb dX12_check_79 rfl (lv_at hl 3 rfl) ?_
        refine lv_bipush (v := 10) hx hb dX12_check_80 (by decide) ?_
        refine lv_icmp_ne (tgt := 96) hx hb dX12_check_82 (by decide) (fun cc_83 => absurd (by decide) cc_83) (fun _ => ?_)
        refine lv_bipush (v := 24) hx hb dX12_check_85 (by decide) ?_
        refine lv_bipush (v := 8) hx hb dX12_check_87 (by decide) ?_
        refine lv_iload hx hb dX12_check_89 (lv_at hl 0 rfl) ?_
        refine lv_imul hx hb dX12_check_91 ?_
        refine hk_topi 24 (by decide +kernel) ?_
        refine lv_isub hx hb dX12_check_92 ?_
        refine hk_topi 0 (by decide +kernel) ?_
        refine lv_goto (tgt := 101) hx hb dX12_check_93 (by decide) ?_
        refine lv_ishl hx hb dX12_check_101 ?_
        refine lv_ior hx hb dX12_check_102 ?_
        refine lv_istore_n (lv' := [(3, .int ((((0 ||| (((hs_B 28) : Int32) <<< ((24 : Int32) &&& 31))) ||| (((hs_B 29) : Int32) <<< ((16 : Int32) &&& 31))) ||| (((hs_B 30) : Int32) <<< ((8 : Int32) &&& 31))) ||| (((hs_B 31) : Int32) <<< ((0 : Int32) &&& 31)))), (4, .int 3), (0, .ref (ad 0)), (1, .int 10), (2, .int 7)]) hx hb dX12_check_103 rfl hl (by decide) rfl (fun ls hl => ?_)
        refine lv_iinc (v := 4) (lv' := [(4, .int 4), (3, .int ((((0 ||| (((hs_B 28) : Int32) <<< ((24 : Int32) &&& 31))) ||| (((hs_B 29) : Int32) <<< ((16 : Int32) &&& 31))) ||| (((hs_B 30) : Int32) <<< ((8 : Int32) &&& 31))) ||| (((hs_B 31) : Int32) <<< ((0 : Int32) &&& 31)))), (0, .ref (ad 0)), (1, .int 10), (2, .int 7)]) hx hb dX12_check_104 hl (k := 1) rfl rfl (by decide) rfl (fun ls hl => ?_)
        refine lv_goto (tgt := 61) hx hb dX12_check_107 (by decide) ?_
        refine lv_iload hx hb dX12_check_61 (lv_at hl 0 rfl) ?_
        refine lv_iconst (v := 4) hx hb dX12_check_63 (by decide) ?_
        refine lv_icmp_ge (tgt := 110) hx hb dX12_check_64 (by decide) (fun _ => ?_) (fun cc_84 => absurd (by decide) cc_84)
        refine lv_iload_n hx hb dX12_check_110 rfl (lv_at hl 1 rfl) ?_
        exact hk_iret (u := ((upd (upd (upd (upd (upd (mf_g fm) 1 0) 16 10) 14 (-1)) 15 0) 15 0), (vp_updL (vp_updL (vp_updL mf_l 0 (-1)) 1 0) 1 uu_11.2.2.1), (va_up (va_up (va_up (va_up ar 3 uu_7) 4 uu_11.2.1) 3 uu_11.1) 5 uu_11.2.2.2), bk)) hx hb hr hlocks (hw) (by decide +kernel) dX12_check_111
    · refine lv_iconst (v := (-1)) hx hb dX12_check_19 (by decide) ?_
      exact hk_iret (u := ((upd (mf_g fm) 1 0), mf_l, ar, bk)) hx hb hr hlocks (hw) (hk_ck10 (show ¬ (0 ≤ i.toInt ∧ i.toInt < 8) by simp only [Int32.lt_iff_toInt_lt, Int32.le_iff_toInt_le, ← Int32.toInt_inj, hk_t0, hk_t1, hk_t2, hk_t3, hk_t4, hk_t5, hk_t6, hk_t7, hk_t8, hk_t9, hk_t10, hk_t11, hk_t12, hk_t13, hk_t14, hk_t15, hk_t16, hk_t17, hk_t18, hk_t20, hk_t32, hk_tm1, hk_t256, hk_t1500, hk_t4096, hk_t2000, hk_t3000, hk_t512, hk_t1024, true_and, and_true, false_and, and_false, true_or, or_true, false_or, or_false, not_true_eq_false, not_false_eq_true] at cc_1 cc_5 ⊢; omega)) dX12_check_20

def ww_cm_checkN : List Cond := Cond.code yX12_check cX12_check 5 (some .int) :: ([Cond.fieldLink RX12 111 "LzmaChainsModel" "thrown" "I", Cond.methodLink RX12 191 yX12_checkSize, Cond.static yX12_checkSize, Cond.initialized RX12, Cond.code yX12_checkSize cX12_checkSize 1 (some .int)] ++ (wsX120 ++ ([])))
set_option maxRecDepth 20000 in
theorem gw_cm_checkN_0 : GoodIn ww_cm_checkN (va_wsS RX12 191 yX12_checkSize ww_cn_sizeN) := goodIn_r _ [2, 3, 4, 5] rfl (by decide +kernel)
set_option maxHeartbeats 4000000 in
set_option maxRecDepth 100000 in
/-- the reference: check(k, i), no such kind, new -/
theorem cm_checkN (l : Launch) (D : va_G) (cI cJ : ClassId) (ad : Nat → Nat) (fm : Int32) (ar : Nat → Nat → Int32) (bk : Nat → Int64) (sz : Nat) (k i : Int32) (h1 : k.toInt ≠ 1) (h4 : k.toInt ≠ 4) (h10 : k.toInt ≠ 10) : Met l yX12_check ww_cm_checkN { frames := 1, cells := 0, slots := 0, locals := 20 } (va_Pc [.ref (ad 0), .int k, .int i] (hk_B D [(cI, .int), (cJ, .long)] sz (mw cI cJ ad (mf_g fm) mf_l ar bk))) (va_Qi (fun (r : Int32) (u : (Nat → Int32) × (Nat → Int64) × (Nat → Nat → Int32) × (Nat → Int64)) => r = hk_ckv k i) (fun u : (Nat → Int32) × (Nat → Int64) × (Nat → Nat → Int32) × (Nat → Int64) => hk_E D [(cI, .int), (cJ, .long)] (va_A (mw cI cJ ad (mf_g fm) mf_l ar bk) sz) (mw cI cJ ad u.1 u.2.1 u.2.2.1 u.2.2.2)) (va_A (mw cI cJ ad (mf_g fm) mf_l ar bk) sz)) 0 0 (va_A (mw cI cJ ad (mf_g fm) mf_l ar bk) sz) := by
  refine hk_met (cc := cX12_check) (maxL := 5) (ret := (some .int)) (by decide) rfl (Nat.le_of_ble_eq_true rfl) ?_
  intro p e s m below meth c ls hx hb hr hml hown hts hlocks hin hA hw hl
  have iX12 : ∀ w ∈ wsX120, w ∈ ww_cm_checkN := fun _ h => List.mem_cons_of_mem _ (List.mem_append_right _ (List.mem_append_left _ h))
  have hl : lv_has ls 5 [(0, .ref (ad 0)), (1, .int k), (2, .int i)] := hl
  refine lv_aload_n hx hb dX12_check_0 rfl (lv_at hl 0 rfl) ?_
  refine lv_iconst (v := 0) hx hb dX12_check_1 (by decide) ?_
  refine hk_put (ci := 15) (C := RX12) (T := TX12) (N := 92) (ty := .int) (v := .int 0) hx hb hts iX12 tyX12 tyX12_ok nmX12 hown hw 0 rfl rfl 1 (by decide) (hts _ (List.mem_of_getElem? (i := 1) rfl)) rfl (by decide +kernel) rfl rfl (Nat.le_of_ble_eq_true rfl) dX12_check_2 (ws' := mw cI cJ ad (upd (mf_g fm) 1 0) mf_l ar bk) rfl (fun H locs hw => ?_)
  refine lv_iload_n hx hb dX12_check_5 rfl (lv_at hl 2 rfl) ?_
  refine lv_if_lt (tgt := 19) hx hb dX12_check_6 (by decide) (fun cc_1 => ?_) (fun cc_1 => ?_)
  · refine lv_iconst (v := (-1)) hx hb dX12_check_19 (by decide) ?_
    exact hk_iret (u := ((upd (mf_g fm) 1 0), mf_l, ar, bk)) hx hb hr hlocks (hw) (hk_ckN h1 h4 h10) dX12_check_20
  · refine lv_iload_n hx hb dX12_check_9 rfl (lv_at hl 2 rfl) ?_
    refine lv_iload_n hx hb dX12_check_10 rfl (lv_at hl 1 rfl) ?_
    refine hk_Si (As := [.int k]) (rest := [.int i]) ⟨hx, hb, hml, hown, hts⟩ hw hA (cn_sizeN l D cI cJ ad (upd (mf_g fm) 1 0) mf_l ar bk _ k h1 h4 h10) (va_cwS 1 hts gw_cm_checkN_0 rfl rfl rfl (by decide +kernel) ⟨Nat.le_of_ble_eq_true rfl, Nat.le_of_ble_eq_true rfl⟩) rfl hl.1 rfl (Nat.le_of_ble_eq_true rfl) dX12_check_11 ⟨Nat.le_of_ble_eq_true rfl, Nat.le_of_ble_eq_true rfl⟩ (fun rr_2 uu_3 H locs hp_4 hw => ?_)
    subst hp_4
    have hw : hk_W D [(cI, .int), (cJ, .long)] _ s _ _ (mw cI cJ ad (upd (mf_g fm) 1 0) mf_l ar bk) := hw
    refine lv_iconst (v := 4) hx hb dX12_check_14 (by decide) ?_
    refine lv_idiv hx hb dX12_check_15 (by decide) ?_
    refine hk_topi 0 (by decide +kernel) ?_
    refine lv_icmp_lt (tgt := 21) hx hb dX12_check_16 (by decide) (fun cc_5 => absurd cc_5 (cc_1)) (fun _ => ?_)
    refine lv_iconst (v := (-1)) hx hb dX12_check_19 (by decide) ?_
    exact hk_iret (u := ((upd (mf_g fm) 1 0), mf_l, ar, bk)) hx hb hr hlocks (hw) (hk_ckN h1 h4 h10) dX12_check_20

def ww_cm_out : List Cond := Cond.code yX12_out cX12_out 2 (some .int) :: ([Cond.fieldLink RX12 111 "LzmaChainsModel" "thrown" "I", Cond.fieldLink RX12 129 "LzmaChainsModel" "outSize" "I"] ++ (wsX120 ++ ([])))
set_option maxHeartbeats 4000000 in
set_option maxRecDepth 100000 in
/-- the reference: out(i), new -/
theorem cm_out (l : Launch) (D : va_G) (cI cJ : ClassId) (ad : Nat → Nat) (fm : Int32) (ar : Nat → Nat → Int32) (bk : Nat → Int64) (sz : Nat) (i : Int32) : Met l yX12_out ww_cm_out { frames := 0, cells := 0, slots := 0, locals := 0 } (va_Pc [.ref (ad 0), .int i] (hk_B D [(cI, .int), (cJ, .long)] sz (mw cI cJ ad (mf_g fm) mf_l ar bk))) (va_Qi (fun (r : Int32) (u : Unit) => r = 0) (fun u : Unit => hk_E D [(cI, .int), (cJ, .long)] (va_A (mw cI cJ ad (mf_g fm) mf_l ar bk) sz) (mw cI cJ ad (upd (mf_g fm) 1 1) mf_l ar bk)) (va_A (mw cI cJ ad (mf_g fm) mf_l ar bk) sz)) 0 0 (va_A (mw cI cJ ad (mf_g fm) mf_l ar bk) sz) := by
  refine hk_met (cc := cX12_out) (maxL := 2) (ret := (some .int)) (by decide) rfl (Nat.le_of_ble_eq_true rfl) ?_
  intro p e s m below meth c ls hx hb hr hml hown hts hlocks hin hA hw hl
  have iX12 : ∀ w ∈ wsX120, w ∈ ww_cm_out := fun _ h => List.mem_cons_of_mem _ (List.mem_append_right _ (List.mem_append_left _ h))
  have hl : lv_has ls 2 [(0, .ref (ad 0)), (1, .int i)] := hl
  refine lv_aload_n hx hb dX12_out_0 rfl (lv_at hl 0 rfl) ?_
  refine lv_iload_n hx hb dX12_out_1 rfl (lv_at hl 1 rfl) ?_
  refine lv_if_lt (tgt := 13) hx hb dX12_out_2 (by decide) (fun cc_1 => ?_) (fun cc_1 => ?_)
  · refine lv_iconst (v := 1) hx hb dX12_out_13 (by decide) ?_
    refine lv_goto (tgt := 18) hx hb dX12_out_14 (by decide) ?_
    refine hk_put (ci := 15) (C := RX12) (T := TX12) (N := 92) (ty := .int) (v := .int 1) hx hb hts iX12 tyX12 tyX12_ok nmX12 hown hw 0 rfl rfl 1 (by decide) (hts _ (List.mem_of_getElem? (i := 1) rfl)) rfl (by decide +kernel) rfl rfl (Nat.le_of_ble_eq_true rfl) dX12_out_18 (ws' := mw cI cJ ad (upd (mf_g fm) 1 1) mf_l ar bk) rfl (fun H locs hw => ?_)
    refine lv_aload_n hx hb dX12_out_21 rfl (lv_at hl 0 rfl) ?_
    refine hk_get (ci := 15) (C := RX12) (T := TX12) (N := 92) (v := .int 1) hx hb hts iX12 hown hw 0 rfl rfl 1 (by decide) (hts _ (List.mem_of_getElem? (i := 1) rfl)) rfl dX12_out_22 ?_
    refine lv_if_le (tgt := 32) hx hb dX12_out_25 (by decide) (fun cc_2 => absurd cc_2 (by decide)) (fun _ => ?_)
    refine lv_iconst (v := 0) hx hb dX12_out_28 (by decide) ?_
    refine lv_goto (tgt := 38) hx hb dX12_out_29 (by decide) ?_
    exact hk_iret (u := ()) hx hb hr hlocks (hw) (rfl) dX12_out_38
  · refine lv_iload_n hx hb dX12_out_5 rfl (lv_at hl 1 rfl) ?_
    refine lv_aload_n hx hb dX12_out_6 rfl (lv_at hl 0 rfl) ?_
    refine hk_get (ci := 15) (C := RX12) (T := TX12) (N := 92) (v := .int 0) hx hb hts iX12 hown hw 0 rfl rfl 15 (by decide) (hts _ (List.mem_of_getElem? (i := 2) rfl)) rfl dX12_out_7 ?_
    refine lv_icmp_lt (tgt := 17) hx hb dX12_out_10 (by decide) (fun cc_3 => absurd cc_3 (cc_1)) (fun _ => ?_)
    refine lv_iconst (v := 1) hx hb dX12_out_13 (by decide) ?_
    refine lv_goto (tgt := 18) hx hb dX12_out_14 (by decide) ?_
    refine hk_put (ci := 15) (C := RX12) (T := TX12) (N := 92) (ty := .int) (v := .int 1) hx hb hts iX12 tyX12 tyX12_ok nmX12 hown hw 0 rfl rfl 1 (by decide) (hts _ (List.mem_of_getElem? (i := 1) rfl)) rfl (by decide +kernel) rfl rfl (Nat.le_of_ble_eq_true rfl) dX12_out_18 (ws' := mw cI cJ ad (upd (mf_g fm) 1 1) mf_l ar bk) rfl (fun H locs hw => ?_)
    refine lv_aload_n hx hb dX12_out_21 rfl (lv_at hl 0 rfl) ?_
    refine hk_get (ci := 15) (C := RX12) (T := TX12) (N := 92) (v := .int 1) hx hb hts iX12 hown hw 0 rfl rfl 1 (by decide) (hts _ (List.mem_of_getElem? (i := 1) rfl)) rfl dX12_out_22 ?_
    refine lv_if_le (tgt := 32) hx hb dX12_out_25 (by decide) (fun cc_4 => absurd cc_4 (by decide)) (fun _ => ?_)
    refine lv_iconst (v := 0) hx hb dX12_out_28 (by decide) ?_
    refine lv_goto (tgt := 38) hx hb dX12_out_29 (by decide) ?_
    exact hk_iret (u := ()) hx hb hr hlocks (hw) (rfl) dX12_out_38

def ww_cm_thrown : List Cond := Cond.code yX12_thrown cX12_thrown 1 (some .int) :: ([Cond.fieldLink RX12 111 "LzmaChainsModel" "thrown" "I"] ++ (wsX120 ++ ([])))
set_option maxHeartbeats 4000000 in
set_option maxRecDepth 100000 in
/-- the reference: thrown, behind a throw -/
theorem cm_thrown (l : Launch) (D : va_G) (cI cJ : ClassId) (ad : Nat → Nat) (g : Nat → Int32) (lg : Nat → Int64) (ar : Nat → Nat → Int32) (bk : Nat → Int64) (sz : Nat)  (h1 : g 1 = 1) : Met l yX12_thrown ww_cm_thrown { frames := 0, cells := 0, slots := 0, locals := 0 } (va_Pc [.ref (ad 0)] (hk_B D [(cI, .int), (cJ, .long)] sz (mw cI cJ ad g lg ar bk))) (va_Qi (fun (r : Int32) (u : Unit) => r = 1) (fun u : Unit => hk_E D [(cI, .int), (cJ, .long)] (va_A (mw cI cJ ad g lg ar bk) sz) (mw cI cJ ad g lg ar bk)) (va_A (mw cI cJ ad g lg ar bk) sz)) 0 0 (va_A (mw cI cJ ad g lg ar bk) sz) := by
  refine hk_met (cc := cX12_thrown) (maxL := 1) (ret := (some .int)) (by decide) rfl (Nat.le_of_ble_eq_true rfl) ?_
  intro p e s m below meth c ls hx hb hr hml hown hts hlocks hin hA hw hl
  have iX12 : ∀ w ∈ wsX120, w ∈ ww_cm_thrown := fun _ h => List.mem_cons_of_mem _ (List.mem_append_right _ (List.mem_append_left _ h))
  have hl : lv_has ls 1 [(0, .ref (ad 0))] := hl
  refine lv_aload_n hx hb dX12_thrown_0 rfl (lv_at hl 0 rfl) ?_
  refine hk_get (ci := 15) (C := RX12) (T := TX12) (N := 92) (v := .int 1) hx hb hts iX12 hown hw 0 rfl rfl 1 (by decide) (hts _ (List.mem_of_getElem? (i := 1) rfl)) (congrArg (fun z => some (Value.int z)) h1) dX12_thrown_1 ?_
  exact hk_iret (u := ()) hx hb hr hlocks (hw) (rfl) dX12_thrown_4
