/-- the class's world and one array of a long -/
def xq (cI cJ : ClassId) (ad : Nat → Nat) (g : Nat → Int32) (lg : Nat → Int64) (ar : Nat → Nat → Int32) (bk : Nat → Int64) : va_W := xw cI cJ ad g lg ar bk ++ [(ad 31, .inl (cJ, 1, .inr (.inl (fun _ => 0))))]

def ww_cx_out : List Cond := Cond.code yX11_out cX11_out 2 (some .int) :: (([Cond.classLink RX11 220 "java/lang/ArrayIndexOutOfBoundsException", Cond.initialized "java/lang/ArrayIndexOutOfBoundsException", Cond.fieldLink RX11 29 "LzmaChains" "output" "LLzmaChains$Row;", Cond.fieldLink RX11 100 "LzmaChains$Row" "size" "I"] ++ (wsX110 ++ (wsX90 ++ ([])))) ++ xg_11)
set_option maxHeartbeats 4000000 in
set_option maxRecDepth 100000 in
/-- out on a new object: it throws -/
theorem cx_out (l : Launch) (hlt : l.stackTraces = false) (t3 : Nat × Nat × Nat) (D : va_G) (cI cJ : ClassId) (ad : Nat → Nat) (g : Nat → Int32) (lg : Nat → Int64) (ar : Nat → Nat → Int32) (bk : Nat → Int64) (sz : Nat) (i : Int32) (h14 : g 14 = 0) : vx_Met l yX11_out ww_cx_out { frames := 7, cells := 1, slots := 6, locals := 102 } (va_Pc [.ref (ad 0), .int i] (hk_BY t3 D [(cI, .int), (cJ, .long)] sz (xq cI cJ ad g lg ar bk))) (hk_NoI (va_A (xq cI cJ ad g lg ar bk) sz)) (hk_XC "java/lang/ArrayIndexOutOfBoundsException" (fun _ : Unit => True) (fun u : Unit => xq cI cJ ad g lg ar bk) D [(cI, .int), (cJ, .long)] (va_A (xq cI cJ ad g lg ar bk) sz)) 1 6 (va_A (xq cI cJ ad g lg ar bk) sz) := by
  refine hk_ymet (cc := cX11_out) (maxL := 2) (ret := (some .int)) (by decide) rfl (Nat.le_of_ble_eq_true rfl) ?_
  intro p e s m below meth c ls hx hb hr hml hown hts hlocks hin hA hno hZ hw hl
  have iX11 : ∀ w ∈ wsX110, w ∈ ww_cx_out := fun _ h => List.mem_cons_of_mem _ (List.mem_append_left _ (List.mem_append_right _ (List.mem_append_left _ h)))
  have iX9 : ∀ w ∈ wsX90, w ∈ ww_cx_out := fun _ h => List.mem_cons_of_mem _ (List.mem_append_left _ (List.mem_append_right _ (List.mem_append_right _ (List.mem_append_left _ h))))
  have hl : lv_has ls 2 [(0, .ref (ad 0)), (1, .int i)] := hl
  refine lv_iload_n hx hb dX11_out_0 rfl (lv_at hl 1 rfl) ?_
  refine lv_if_lt (tgt := 15) hx hb dX11_out_1 (by decide) (fun cc_1 => ?_) (fun cc_1 => ?_)
  · exact hk_ythrow (u := ()) (w' := fun u : Unit => xq cI cJ ad g lg ar bk) (names := ["java/lang/IndexOutOfBoundsException", "java/lang/RuntimeException", "java/lang/Exception"]) hx hb hlt hown (by decide +kernel) (by decide +kernel) (hts _ (List.mem_of_getElem? (i := 1) rfl)) (hts _ (List.mem_of_getElem? (i := 2) rfl)) (fun w h => hts w (List.mem_cons_of_mem _ (List.mem_append_right _ h))) xb_11b xb_11o hZ (show hk_W D [(cI, .int), (cJ, .long)] _ s _ _ (xq cI cJ ad g lg ar bk) from hw) trivial hno (by rw [hml]; exact hl.1) dX11_out_15 dX11_out_18 dX11_out_19 dX11_out_22 (Nat.le_of_ble_eq_true rfl) (Nat.le_of_ble_eq_true rfl) (Nat.le_of_ble_eq_true rfl) (Nat.le_of_ble_eq_true rfl) hlocks (Nat.le_of_ble_eq_true rfl) (Nat.le_of_ble_eq_true rfl)
  · refine lv_iload_n hx hb dX11_out_4 rfl (lv_at hl 1 rfl) ?_
    refine lv_aload_n hx hb dX11_out_5 rfl (lv_at hl 0 rfl) ?_
    refine hk_get (ci := 14) (C := RX11) (T := TX11) (N := 11) (v := .ref (ad 4)) hx hb hts iX11 hown hw 0 rfl rfl 3 (by decide) (hts _ (List.mem_of_getElem? (i := 3) rfl)) rfl dX11_out_6 ?_
    refine hk_get (ci := 12) (C := RX9) (T := TX9) (N := 2) (v := .int 0) hx hb hts iX9 hown hw 4 rfl rfl 1 (by decide) (hts _ (List.mem_of_getElem? (i := 4) rfl)) (congrArg (fun z => some (Value.int z)) h14) dX11_out_9 ?_
    refine lv_icmp_lt (tgt := 23) hx hb dX11_out_12 (by decide) (fun cc_2 => absurd cc_2 (cc_1)) (fun _ => ?_)
    exact hk_ythrow (u := ()) (w' := fun u : Unit => xq cI cJ ad g lg ar bk) (names := ["java/lang/IndexOutOfBoundsException", "java/lang/RuntimeException", "java/lang/Exception"]) hx hb hlt hown (by decide +kernel) (by decide +kernel) (hts _ (List.mem_of_getElem? (i := 1) rfl)) (hts _ (List.mem_of_getElem? (i := 2) rfl)) (fun w h => hts w (List.mem_cons_of_mem _ (List.mem_append_right _ h))) xb_11b xb_11o hZ (show hk_W D [(cI, .int), (cJ, .long)] _ s _ _ (xq cI cJ ad g lg ar bk) from hw) trivial hno (by rw [hml]; exact hl.1) dX11_out_15 dX11_out_18 dX11_out_19 dX11_out_22 (Nat.le_of_ble_eq_true rfl) (Nat.le_of_ble_eq_true rfl) (Nat.le_of_ble_eq_true rfl) (Nat.le_of_ble_eq_true rfl) hlocks (Nat.le_of_ble_eq_true rfl) (Nat.le_of_ble_eq_true rfl)

def ww_cl_out : List Cond := Cond.codeWith yL_out cL_out 4 (some .int) [(0, 9, 12, 13)] :: (([Cond.methodLink RL 7 yX11_out, Cond.instanceMethod yX11_out, Cond.selects RX11 yX11_out yX11_out, Cond.initialized RX11, Cond.code yX11_out cX11_out 2 (some .int), Cond.classLink RX11 220 "java/lang/ArrayIndexOutOfBoundsException", Cond.initialized "java/lang/ArrayIndexOutOfBoundsException", Cond.fieldLink RX11 29 "LzmaChains" "output" "LLzmaChains$Row;", Cond.fieldLink RX11 100 "LzmaChains$Row" "size" "I", Cond.classLink RL 13 "java/lang/ArrayIndexOutOfBoundsException"] ++ (wsX110 ++ (wsX90 ++ ([])))) ++ xg_11)
set_option maxRecDepth 20000 in
theorem gw_cl_out_0 : GoodIn ww_cl_out (wsV RL 7 RX11 yX11_out ww_cx_out) := goodIn_app (goodIn_r _ [1, 2, 3, 4] rfl (by decide +kernel)) (goodIn_ca (goodIn_r _ [5, 6, 7, 8, 9, 11, 12, 13, 14, 15, 16, 17, 18, 19, 20, 21, 22, 23] rfl (by decide +kernel)) (goodIn_sub (fun _ h => List.mem_cons_of_mem _ (List.mem_append_right _ h)) xg_11g))
set_option maxHeartbeats 4000000 in
set_option maxRecDepth 100000 in
/-- the law's out on a new object -/
theorem cl_out (l : Launch) (hlt : l.stackTraces = false) (t3 : Nat × Nat × Nat) (D : va_G) (cI cJ : ClassId) (ad : Nat → Nat) (g : Nat → Int32) (lg : Nat → Int64) (ar : Nat → Nat → Int32) (bk : Nat → Int64) (sz : Nat) (i : Int32) (h14 : g 14 = 0) : Met l yL_out ww_cl_out { frames := 8, cells := 1, slots := 6, locals := 123 } (va_Pc [.ref (ad 0), .int i, .ref (ad 31)] (hk_BY t3 D [(cI, .int), (cJ, .long)] sz (xq cI cJ ad g lg ar bk))) (va_Qi (fun (r : Int32) (u : Unit) => r = 1) (fun u : Unit => hk_E D [(cI, .int), (cJ, .long)] (va_A (xq cI cJ ad g lg ar bk) sz) (xq cI cJ ad g lg ar bk)) (va_A (xq cI cJ ad g lg ar bk) sz)) 1 6 (va_A (xq cI cJ ad g lg ar bk) sz) := by
  refine hk_umet (cc := cL_out) (maxL := 4) (ret := (some .int)) (hh := [(0, 9, 12, 13)]) (by decide) rfl (Nat.le_of_ble_eq_true rfl) ?_
  intro p e s m below meth c ls hx hb hr hml hown hts hlocks hin hA htb hZ hw hl
  have iX11 : ∀ w ∈ wsX110, w ∈ ww_cl_out := fun _ h => List.mem_cons_of_mem _ (List.mem_append_left _ (List.mem_append_right _ (List.mem_append_left _ h)))
  have iX9 : ∀ w ∈ wsX90, w ∈ ww_cl_out := fun _ h => List.mem_cons_of_mem _ (List.mem_append_left _ (List.mem_append_right _ (List.mem_append_right _ (List.mem_append_left _ h))))
  have hl : lv_has ls 4 [(0, .ref (ad 0)), (1, .int i), (2, .ref (ad 31))] := hl
  refine lv_aload_n hx hb dL_out_0 rfl (lv_at hl 2 rfl) ?_
  refine lv_iconst (v := 0) hx hb dL_out_1 (by decide) ?_
  refine lv_aload_n hx hb dL_out_2 rfl (lv_at hl 0 rfl) ?_
  refine lv_iload_n hx hb dL_out_3 rfl (lv_at hl 1 rfl) ?_
  refine hk_Yi (As := [.int i]) (rest := [.int 0, .ref (ad 31)]) ⟨hx, hb, hml, hown, hts⟩ hZ hw hA (cx_out l hlt t3 D cI cJ ad g lg ar bk _ i h14) (cwV 1 hts gw_cl_out_0 rfl rfl rfl (by decide +kernel) ⟨Nat.le_of_ble_eq_true rfl, Nat.le_of_ble_eq_true rfl⟩) 0 (ci := 14) (T := TX11) (N := 11) rfl rfl rfl hl.1 rfl (Nat.le_of_ble_eq_true rfl) dL_out_4 ⟨Nat.le_of_ble_eq_true rfl, Nat.le_of_ble_eq_true rfl⟩ (fun ce q9 uu_1 H locs _ hw hce hcv hcl => ?_)
  have hw : hk_W D [(cI, .int), (cJ, .long)] _ s _ _ (xq cI cJ ad g lg ar bk) := hw
  refine hk_catch (name := "java/lang/ArrayIndexOutOfBoundsException") hown ⟨0, 9, 12, 13⟩ htb (by decide) (by decide) (hts _ (List.mem_of_getElem? (i := 10) rfl)) (hk_bad hZ (show Cond.castable "java/lang/ArrayIndexOutOfBoundsException" "java/lang/ArrayIndexOutOfBoundsException" ∈ xb_b by decide +kernel)) hce hcv hcl ?_
  refine lv_astore_n (lv' := [(3, .ref q9), (0, .ref (ad 0)), (1, .int i), (2, .ref (ad 31))]) hx hb dL_out_12 rfl hl (by decide) rfl (fun ls hl => ?_)
  refine lv_iconst (v := 1) hx hb dL_out_13 (by decide) ?_
  exact hk_iret (u := ()) hx hb hr hlocks (hw) (rfl) dL_out_14

def ww_cell : List Cond := Cond.code yL_cell cL_cell 2 (some .int) :: ([] ++ ([]))
/-- the script's first int, or 0 -/
theorem cl_cell (l : Launch) (D : va_G) (tys : List (ClassId × FieldType)) (b L : Nat) (xs : Nat → Int32) (hL : L ≤ 7) (sz : Nat) : Met l yL_cell ww_cell { frames := 0, cells := 0, slots := 0, locals := 0 } (va_Pc [.ref b, .int 0] (fun U => hk_B D tys sz [] U ∧ va_X b L xs U U.heap ∧ b < sz)) (va_Qi (fun (r : Int32) (_ : Unit) => r = if L = 0 then 0 else xs 0) (fun _ : Unit => hk_E D tys (va_A [] sz) []) (va_A [] sz)) 0 0 (va_A [] sz) := by
  refine Met.ofW (cc := cL_cell) (maxL := 2) (ret := some .int) (by decide) rfl ?_
  intro p e s m args below meth c s₁ B hml hv
  obtain ⟨rfl, ⟨hsz, hP, hK, hD0⟩, hX, hbl⟩ := hv
  subst hsz
  have hl := lv_entry ([.ref b, .int 0] : List Value) (n := 2) (Nat.le_of_ble_eq_true rfl)
  rw [lg_entry_eq]
  generalize (lg_sl ([.ref b, .int 0] : List Value) ++ List.replicate (2 - (lg_sl ([.ref b, .int 0] : List Value)).length) Slot.unset).toArray = ls at hl ⊢
  have hl : lv_has ls 2 [(0, .ref b), (1, .int 0)] := hl
  have hx := B.exec
  have hb := B.bytes
  have hr := B.returns
  have hlocks := B.notSynchronized
  have hbA : ¬ va_A [] s.heap.size b := fun h => h.elim (fun ⟨k, x, h⟩ => by simp at h) (fun h => absurd hbl (by omega))
  have hw : hk_W D tys (va_A [] s.heap.size) s s.heap [] [] := ⟨hP, hD0.self, va_S.rf, hK⟩
  refine lv_iload_n hx hb dL_cell_0 rfl (lv_at hl 1 rfl) ?_
  refine lv_aload_n hx hb dL_cell_1 rfl (lv_at hl 0 rfl) ?_
  refine va_slen hx hb hX hbl hbA hw.2.2.1 dL_cell_2 ?_
  refine lv_icmp_ge (tgt := 12) hx hb dL_cell_3 (by decide) (fun c1 => ?_) (fun c1 => ?_)
  · refine lv_iconst (v := 0) hx hb dL_cell_12 (by decide) ?_
    have hz : L = 0 := (Nat.eq_zero_or_pos L).elim id (fun h => absurd c1 (nI_nle h (by omega)))
    exact hk_iret (u := ()) (w' := fun _ : Unit => []) hx hb hr hlocks hw (by rw [if_pos hz]) dL_cell_13
  · refine lv_aload_n hx hb dL_cell_6 rfl (lv_at hl 0 rfl) ?_
    refine lv_iload_n hx hb dL_cell_7 rfl (lv_at hl 1 rfl) ?_
    have hp : 0 < L := by
      rcases Nat.eq_zero_or_pos L with h | h
      · subst h; exact absurd (by decide) c1
      · exact h
    refine va_sld hx hb hX hbl hbA hw.2.2.1 (show ¬ ((0 : Int32) < 0 ∨ L ≤ (0 : Int32).toNatClampNeg) from fun q => q.elim (fun q => absurd q (by decide)) (fun q => absurd (show L ≤ 0 from q) (by omega))) dL_cell_8 ?_
    refine lv_goto (tgt := 13) hx hb dL_cell_9 (by decide) ?_
    exact hk_iret (u := ()) (w' := fun _ : Unit => []) hx hb hr hlocks hw (by rw [if_neg (by omega)]; rfl) dL_cell_13
section HKP
variable {p : Program} {l : Launch} {e : Env} {R : Room} {s : State} {m : MethodId} {args : Array Value} {below : List Frame} {meth : Method} {c : Code} {H : Heap} {locs : List Loc} {cells slots : Nat} {Q : State → Prop}
variable {cc : ByteArray} {pc : Nat} {ls : Array Slot} {rest : List Value} {D : va_G} {A : Nat → Prop} {tys : List (ClassId × FieldType)} {ws wc wr : va_W} {t3 : Nat × Nat × Nat} {mc ms : Nat} {st0 : List Value} {av : Array Value}
/-- behind a call on a part wc of the world: the rest wr stays -/
theorem hk_pi {S : Type} {w' : S → va_W} {post : Int32 → S → Prop} (hw : hk_W D tys A s H locs ws) (hA : ∀ q, s.heap.size ≤ q → A q) (isC isR : List Nat) (hC : isC.map (fun i => ws[i]?) = wc.map some) (hR : isR.map (fun i => ws[i]?) = wr.map some) (hnC : va_nd isC = true) (hnR : va_nd isR = true) (hdis : ∀ i ∈ isR, i ∉ isC)
    (run : va_Run p l e R s m args below meth c H locs cells slots mc ms (F0 m pc ls st0) rest (va_Qi post (fun u => hk_E D tys (va_A wc H.size) (w' u)) (va_A wc H.size) av) (va_A wc H.size))
    (k : ∀ (r : Int32) (u : S) (H1 : Heap) (locs1 : List Loc), post r u → hk_W D tys A s H1 locs1 (wr ++ w' u) → W p l e R s m args below meth c H1 locs1 (cells + mc) (slots + ms) Q (F0 m (pc + 3) ls (.int r :: rest))) : W p l e R s m args below meth c H locs cells slots Q (F0 m pc ls st0) := by
  have hwc := hk_sub hw isC hnC hC
  have hFc := hk_free hwc hA
  refine va_calli run hw.2.2.1 (fun q _ h => hFc q h) hFc (fun r u t H1 locs1 ht hvm hp hB hz1 hk1 hS => ?_)
  obtain ⟨hP1, hK1, hD1⟩ := hB
  rw [ht] at hP1
  obtain ⟨hP, hD⟩ := va_join hw.1 hw.2.1 isC isR hC hR hnR hdis hk1 hFc hP1 hD1
  exact k r u H1 locs1 hp ⟨hP, hD, hS, hw.2.2.2⟩
/-- behind a call that changes nothing -/
theorem hk_pc {post : Int32 → Unit → Prop} (hw : hk_W D tys A s H locs ws) (hA : ∀ q, s.heap.size ≤ q → A q) (run : va_Run p l e R s m args below meth c H locs cells slots mc ms (F0 m pc ls st0) rest (va_Qi post (fun _ : Unit => hk_E D tys (va_A [] H.size) []) (va_A [] H.size) av) (va_A [] H.size))
    (k : ∀ (r : Int32) (H1 : Heap) (locs1 : List Loc), post r () → hk_W D tys A s H1 locs1 ws → W p l e R s m args below meth c H1 locs1 (cells + mc) (slots + ms) Q (F0 m (pc + 3) ls (.int r :: rest))) : W p l e R s m args below meth c H locs cells slots Q (F0 m pc ls st0) := by
  have hwc := hk_sub (ws' := []) hw [] rfl rfl
  have hFc := hk_free hwc hA
  refine va_calli run hw.2.2.1 (fun q _ h => hFc q h) hFc (fun r u t H1 locs1 ht hvm hp hB hz1 hk1 hS => ?_)
  exact k r H1 locs1 hp ⟨hw.1.kept (fun k q hq => hk1 q.1 (hw.1 k q hq).lt (fun h => h.elim (fun ⟨j, x, h⟩ => by simp at h) (fun h => absurd (hw.1 k q hq).lt (by omega)))), hw.2.1, hS, hw.2.2.2⟩
variable {y : MethodName} {bytes : ByteArray} {maxL nL n index : Nat} {ret : Option FieldType} {wy : List Cond} {rm : Room} {Ts : List Cond} {own C : String} {b : Addr} {As : List Value}
/-- the start of a call on a part -/
theorem hk_rV {Qc : Array Value → State → Outcome → State → Prop} {fr : Addr → Prop} {T : u_T} {N ci : Nat} {fs : List Value} (F : CallFix p m c cc nL s args Ts own) (hZ : hk_YY t3 A s) (hw : hk_W D tys A s H locs ws) (hA : ∀ q, s.heap.size ≤ q → A q) (isC : List Nat) (hC : isC.map (fun i => ws[i]?) = wc.map some) (hnC : va_nd isC = true)
    (hM : Met l y wy rm (va_Pc (.ref b :: As) (hk_BY t3 D tys H.size wc)) Qc mc ms fr) (cw : CallW R s args own C index y bytes maxL ret wy rm mc ms n) (q0 : Nat) (he : wc[q0]? = some (b, .inr (ci, fs))) (hc : vwCl[ci]? = some (C, T, N)) (hn : As.length = n) (hl : ls.size = nL) (hst : st0 = As.reverse ++ .ref b :: rest) (hro : (rest.map fun v => v.category).sum ≤ 8) (hd : decode cc pc = .ok (.invokevirtual index, 3)) (hf : cells + mc ≤ R.cells ∧ slots + ms ≤ R.slots) :
    va_Run p l e R s m args below meth c H locs cells slots mc ms (F0 m pc ls st0) rest (Qc (Value.ref b :: As).toArray) fr := by
  have hwc := hk_sub hw isC hnC hC
  exact va_runV (As := As) (rest := rest) F hM cw ⟨hk_blindY _ _, va_recv hwc.2.2.2 hwc.1 hc he, hk_preY hZ hwc hA _⟩ rfl hn hl hst (lv_room hro) hd hf
theorem hk_rVW {Qc : Array Value → State → Outcome → State → Prop} {fr : Addr → Prop} {T : u_T} {N ci : Nat} {fs : List Value} {hh : List (Nat × Nat × Nat × Nat)} (F : CallFix p m c cc nL s args Ts own) (hZ : hk_YY t3 A s) (hw : hk_W D tys A s H locs ws) (hA : ∀ q, s.heap.size ≤ q → A q) (isC : List Nat) (hC : isC.map (fun i => ws[i]?) = wc.map some) (hnC : va_nd isC = true)
    (hM : Met l y wy rm (va_Pc (.ref b :: As) (hk_BY t3 D tys H.size wc)) Qc mc ms fr) (cw : vx_CVW R s args own C index y bytes maxL ret hh wy rm mc ms n) (q0 : Nat) (he : wc[q0]? = some (b, .inr (ci, fs))) (hc : vwCl[ci]? = some (C, T, N)) (hn : As.length = n) (hl : ls.size = nL) (hst : st0 = As.reverse ++ .ref b :: rest) (hro : (rest.map fun v => v.category).sum ≤ 8) (hd : decode cc pc = .ok (.invokevirtual index, 3)) (hf : cells + mc ≤ R.cells ∧ slots + ms ≤ R.slots) :
    va_Run p l e R s m args below meth c H locs cells slots mc ms (F0 m pc ls st0) rest (Qc (Value.ref b :: As).toArray) fr := by
  have hwc := hk_sub hw isC hnC hC
  exact vx_runVW (As := As) (rest := rest) F hM cw ⟨hk_blindY _ _, va_recv hwc.2.2.2 hwc.1 hc he, hk_preY hZ hwc hA _⟩ rfl hn hl hst (lv_room hro) hd hf
theorem hk_rSW {Qc : Array Value → State → Outcome → State → Prop} {fr : Addr → Prop} {hh : List (Nat × Nat × Nat × Nat)} (F : CallFix p m c cc nL s args Ts own) (hZ : hk_YY t3 A s) (hw : hk_W D tys A s H locs ws) (hA : ∀ q, s.heap.size ≤ q → A q) (isC : List Nat) (hC : isC.map (fun i => ws[i]?) = wc.map some) (hnC : va_nd isC = true)
    (hM : Met l y wy rm (va_Pc As (hk_BY t3 D tys H.size wc)) Qc mc ms fr) (cw : vx_CSW R s args own index y bytes maxL ret hh wy rm mc ms n) (hn : As.length = n) (hl : ls.size = nL) (hst : st0 = As.reverse ++ rest) (hro : (rest.map fun v => v.category).sum ≤ 8) (hd : decode cc pc = .ok (.invokestatic index, 3)) (hf : cells + mc ≤ R.cells ∧ slots + ms ≤ R.slots) :
    va_Run p l e R s m args below meth c H locs cells slots mc ms (F0 m pc ls st0) rest (Qc As.toArray) fr := by
  have hwc := hk_sub hw isC hnC hC
  exact vx_runSW (As := As) (rest := rest) F hM cw ⟨hk_blindY _ _, hk_preY hZ hwc hA _⟩ rfl hn hl hst (lv_room hro) hd hf
/-- the call of cell: it reads the script, and changes nothing -/
theorem hk_rC {L : Nat} {xs : Nat → Int32} {b : Nat} (F : CallFix p m c cc nL s args Ts own) (hX : va_X b L xs s s.heap) (hbl : b < s.heap.size) (hbA : ¬ A b) (hL : L ≤ 7) (hw : hk_W D tys A s H locs ws) (hA : ∀ q, s.heap.size ≤ q → A q)
    (cw : CallB R s args own index yL_cell bytes maxL ret ww_cell { frames := 0, cells := 0, slots := 0, locals := 0 } 0 0 2 ∧ (Cond.static yL_cell).before args s = true) (hl : ls.size = nL) (hst : st0 = [Value.int 0, .ref b] ++ rest) (hro : (rest.map fun v => v.category).sum ≤ 8) (hd : decode cc pc = .ok (.invokestatic index, 3)) (hf : cells + 0 ≤ R.cells ∧ slots + 0 ≤ R.slots) :
    va_Run p l e R s m args below meth c H locs cells slots 0 0 (F0 m pc ls st0) rest (va_Qi (fun (r : Int32) (_ : Unit) => r = if L = 0 then 0 else xs 0) (fun _ : Unit => hk_E D tys (va_A [] H.size) []) (va_A [] H.size) #[.ref b, .int 0]) (va_A [] H.size) := by
  have hwc := hk_sub (ws' := []) hw [] rfl rfl
  have hXH : va_X b L xs s H := hX.kept (hw.2.2.1.2.1 b hbl hbA)
  have hbH : b < H.size := Nat.lt_of_lt_of_le hbl hw.2.2.1.1
  exact va_runS (As := [.ref b, .int 0]) (rest := rest) F (cl_cell l D tys b L xs hL H.size) cw ⟨fun a U g mk q => by
      obtain ⟨q0, q1, q2, q3⟩ := q
      exact ⟨q0, (hk_blind (ws := []) [.ref b, .int 0] H.size a U g mk ⟨q0, q1⟩).2, q2.moved (u := U) (U := U.calling g mk a) (Vm.Alike.refl U.vm), q3⟩,
     fun U hU hW => ⟨rfl, (hk_pre hwc [.ref b, .int 0] U hU hW).2, by rw [hU]; exact hXH.moved hW.alike, hbH⟩⟩ rfl rfl hl hst (lv_room hro) hd hf
end HKP
