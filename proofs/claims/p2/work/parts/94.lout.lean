/-! the law's own out() and cell() -/
def xq3 (cI cJ : ClassId) (ad : Nat → Nat) (g : Nat → Int32) (lg : Nat → Int64) (ar : Nat → Nat → Int32) (bk : Nat → Int64) (al : Nat) (bl : Nat → Int64) : va_W := xw cI cJ ad g lg ar bk ++ [(al, .inl (cJ, 1, .inr (.inl bl)))]
def wwQ_0 : List Cond := [Cond.methodLink RL 7 yX11_out, Cond.instanceMethod yX11_out, Cond.selects RX11 yX11_out yX11_out, Cond.initialized RX11, Cond.code yX11_out cX11_out 2 (some .int), Cond.classLink RL 13 "java/lang/ArrayIndexOutOfBoundsException"]
def wwQ : List Cond := wwQ_0 ++ wwX
theorem wwQ_sub : ∀ w ∈ wwX, w ∈ wwQ := fun _ h => List.mem_append_right _ h
theorem wQ_0 : Cond.methodLink RL 7 yX11_out ∈ wwQ ∧ goodWord (Cond.methodLink RL 7 yX11_out) = true := ⟨List.mem_append_left _ (List.mem_of_getElem? (i := 0) rfl), rfl⟩
theorem wQ_1 : Cond.instanceMethod yX11_out ∈ wwQ ∧ goodWord (Cond.instanceMethod yX11_out) = true := ⟨List.mem_append_left _ (List.mem_of_getElem? (i := 1) rfl), rfl⟩
theorem wQ_2 : Cond.selects RX11 yX11_out yX11_out ∈ wwQ ∧ goodWord (Cond.selects RX11 yX11_out yX11_out) = true := ⟨List.mem_append_left _ (List.mem_of_getElem? (i := 2) rfl), rfl⟩
theorem wQ_3 : Cond.initialized RX11 ∈ wwQ ∧ goodWord (Cond.initialized RX11) = true := ⟨List.mem_append_left _ (List.mem_of_getElem? (i := 3) rfl), rfl⟩
theorem wQ_4 : Cond.code yX11_out cX11_out 2 (some .int) ∈ wwQ ∧ goodWord (Cond.code yX11_out cX11_out 2 (some .int)) = true := ⟨List.mem_append_left _ (List.mem_of_getElem? (i := 4) rfl), rfl⟩
theorem wQ_5 : Cond.classLink RL 13 "java/lang/ArrayIndexOutOfBoundsException" ∈ wwQ ∧ goodWord (Cond.classLink RL 13 "java/lang/ArrayIndexOutOfBoundsException") = true := ⟨List.mem_append_left _ (List.mem_of_getElem? (i := 5) rfl), rfl⟩
set_option maxHeartbeats 4000000 in
set_option maxRecDepth 100000 in
theorem jl_out (l : Launch) (hlt : l.stackTraces = false) (D : va_G) (t3 : Nat × Nat × Nat) (cI cJ : ClassId) (ad : Nat → Nat) (g : Nat → Int32) (lg : Nat → Int64) (ar : Nat → Nat → Int32) (bk : Nat → Int64) (al : Nat) (bl : Nat → Int64) (sz : Nat) (y1 : Int32) : Met l yL_out (Cond.codeWith yL_out cL_out 4 (some .int) [(0, 9, 12, 13)] :: wwQ) { frames := 8, cells := 1, slots := 6, locals := 123 } (va_Pc [.ref (ad 0), .int y1, .ref al] (hk_BY t3 D (jT cI cJ) sz (xq3 cI cJ ad g lg ar bk al bl))) (va_Qi (fun (_ : Int32) (_ : Nat → Int64) => True) (fun bl' : Nat → Int64 => hk_E D (jT cI cJ) (va_A (xq3 cI cJ ad g lg ar bk al bl) sz) (xq3 cI cJ ad g lg ar bk al bl')) (va_A (xq3 cI cJ ad g lg ar bk al bl) sz)) 1 6 (va_A (xq3 cI cJ ad g lg ar bk al bl) sz) := by
  refine hk_umet (cc := cL_out) (maxL := 4) (ret := (some .int)) (hh := [(0, 9, 12, 13)]) (by decide) rfl (Nat.le_of_ble_eq_true rfl) ?_
  intro p e s m below meth c ls hx hb hr hml hown hts hlocks hin hA htb hZ hw hl
  have hq : ∀ w ∈ wwQ, w.before (List.toArray [.ref (ad 0), .int y1, .ref al]) s = true := fun w h => hts w (List.mem_cons_of_mem _ h)
  have hl : lv_has ls 4 [(0, .ref (ad 0)), (1, .int y1), (2, .ref al)] := hl
  refine lv_aload_n hx hb dL_out_0 rfl (lv_at hl 2 rfl) ?_
  refine lv_iconst (v := 0) hx hb dL_out_1 (by decide) ?_
  refine lv_aload_n hx hb dL_out_2 rfl (lv_at hl 0 rfl) ?_
  refine lv_iload_n hx hb dL_out_3 rfl (lv_at hl 1 rfl) ?_
  refine jp_Xi (wc := xw cI cJ ad g lg ar bk) (wr := [(al, .inl (cJ, 1, .inr (.inl bl)))]) (As := [.int y1]) (rest := [.int 0, .ref al]) ⟨hx, hb, hml, hown, hts⟩ hZ hw hA [0, 1, 2, 3, 4, 5, 6, 7, 8, 9, 10, 11, 12, 13, 14, 15, 16, 17, 18, 19, 20, 21, 22, 23, 24, 25, 26, 27, 28, 29, 30] [31] rfl rfl (by decide) (by decide) (by decide) (jx_X11_out l hlt D t3 cI cJ ad g lg ar bk _ y1) (cwV 1 hts (jx_gV2 wwX_good wwQ_sub wQ_0 wQ_1 wQ_2 wQ_3 wQ_4) rfl rfl rfl (by decide +kernel) ⟨Nat.le_of_ble_eq_true rfl, Nat.le_of_ble_eq_true rfl⟩) 0 (ci := 14) (T := TX11) (N := 11) rfl rfl rfl hl.1 rfl (Nat.le_of_ble_eq_true rfl) dL_out_4 ⟨Nat.le_of_ble_eq_true rfl, Nat.le_of_ble_eq_true rfl⟩ (fun ce q9 H locs hw hce hcv hcl => ?_) (fun r H locs hw => ?_)
  · refine hk_catch (name := "java/lang/ArrayIndexOutOfBoundsException") hown ⟨0, 9, 12, 13⟩ htb (by decide) (by decide) (hq _ wQ_5.1) (hk_bad hZ (show Cond.castable "java/lang/ArrayIndexOutOfBoundsException" "java/lang/ArrayIndexOutOfBoundsException" ∈ xb_b by decide +kernel)) hce hcv hcl ?_
    refine lv_astore_n (lv' := [(3, .ref q9), (0, .ref (ad 0)), (1, .int y1), (2, .ref al)]) hx hb dL_out_12 rfl hl (by decide) rfl (fun ls hl => ?_)
    refine lv_iconst (v := 1) hx hb dL_out_13 (by decide) ?_
    exact hk_iret (u := bl) (w' := fun bl' : Nat → Int64 => xq3 cI cJ ad g lg ar bk al bl') hx hb hr hlocks (hk_sub hw [1, 2, 3, 4, 5, 6, 7, 8, 9, 10, 11, 12, 13, 14, 15, 16, 17, 18, 19, 20, 21, 22, 23, 24, 25, 26, 27, 28, 29, 30, 31, 0] (by decide) rfl) trivial dL_out_14
  · refine lv_i2l (v := (r : Int32).toInt64) hx hb dL_out_7 rfl ?_
    refine hk_last hx hb hw 0 1 rfl rfl (hE_in (by decide)) dL_out_8 (ws' := [(al, .inl (cJ, 1, .inr (.inl (vp_updL bl 0 (r : Int32).toInt64))))] ++ xw cI cJ ad g lg ar bk) rfl (fun H locs hw => ?_)
    refine lv_goto (tgt := 15) hx hb dL_out_9 (by decide) ?_
    refine lv_iconst (v := 0) hx hb dL_out_15 (by decide) ?_
    exact hk_iret (u := (vp_updL bl 0 (r : Int32).toInt64)) (w' := fun bl' : Nat → Int64 => xq3 cI cJ ad g lg ar bk al bl') hx hb hr hlocks (hk_sub hw [1, 2, 3, 4, 5, 6, 7, 8, 9, 10, 11, 12, 13, 14, 15, 16, 17, 18, 19, 20, 21, 22, 23, 24, 25, 26, 27, 28, 29, 30, 31, 0] (by decide) rfl) trivial dL_out_16
def ww_cell : List Cond := Cond.code yL_cell cL_cell 2 (some .int) :: ([] ++ ([]))
/-- the script's first int, or 0 -/
theorem cl_cell (l : Launch) (D : va_G) (tys : List (ClassId × FieldType)) (b L : Nat) (xs : Nat → Int32) (hL : L ≤ 3073) (sz : Nat) : Met l yL_cell ww_cell { frames := 0, cells := 0, slots := 0, locals := 0 } (va_Pc [.ref b, .int 0] (fun U => hk_B D tys sz [] U ∧ va_X b L xs U U.heap ∧ b < sz)) (va_Qi (fun (r : Int32) (_ : Unit) => r = if L = 0 then 0 else xs 0) (fun _ : Unit => hk_E D tys (va_A [] sz) []) (va_A [] sz)) 0 0 (va_A [] sz) := by
  refine Met.ofW (cc := cL_cell) (maxL := 2) (ret := some .int) (by decide) rfl ?_
  intro p e s m args below meth c s₁ B hml hv
  obtain ⟨rfl, ⟨hsz, hP, hK, hD0⟩, hX, hbl⟩ := hv
  subst hsz
  have hl := lv_entry ([.ref b, .int 0] : List Value) (n := 2) (Nat.le_of_ble_eq_true rfl)
  rw [lg_entry_eq]
  generalize (lg_sl ([.ref b, .int 0] : List Value) ++ List.replicate (2 - (lg_sl ([.ref b, .int 0] : List Value)).length) Slot.unset).toArray = ls at hl ⊢
  have hl : lv_has ls 2 [(0, .ref b), (1, .int 0)] := hl
  have hx := B.exec
  have hb := B.bytes
  have hr := B.returns
  have hlocks := B.notSynchronized
  have hbA : ¬ va_A [] s.heap.size b := fun h => h.elim (fun ⟨k, x, h⟩ => by simp at h) (fun h => absurd hbl (by omega))
  have hw : hk_W D tys (va_A [] s.heap.size) s s.heap [] [] := ⟨hP, hD0.self, va_S.rf, hK⟩
  refine lv_iload_n hx hb dL_cell_0 rfl (lv_at hl 1 rfl) ?_
  refine lv_aload_n hx hb dL_cell_1 rfl (lv_at hl 0 rfl) ?_
  refine va_slen hx hb hX hbl hbA hw.2.2.1 dL_cell_2 ?_
  refine lv_icmp_ge (tgt := 12) hx hb dL_cell_3 (by decide) (fun c1 => ?_) (fun c1 => ?_)
  · refine lv_iconst (v := 0) hx hb dL_cell_12 (by decide) ?_
    have hz : L = 0 := (Nat.eq_zero_or_pos L).elim id (fun h => absurd c1 (nI_nle h (by omega)))
    exact hk_iret (u := ()) (w' := fun _ : Unit => []) hx hb hr hlocks hw (by rw [if_pos hz]) dL_cell_13
  · refine lv_aload_n hx hb dL_cell_6 rfl (lv_at hl 0 rfl) ?_
    refine lv_iload_n hx hb dL_cell_7 rfl (lv_at hl 1 rfl) ?_
    have hp : 0 < L := by
      rcases Nat.eq_zero_or_pos L with h | h
      · subst h; exact absurd (by decide) c1
      · exact h
    refine va_sld hx hb hX hbl hbA hw.2.2.1 (show ¬ ((0 : Int32) < 0 ∨ L ≤ (0 : Int32).toNatClampNeg) from fun q => q.elim (fun q => absurd q (by decide)) (fun q => absurd (show L ≤ 0 from q) (by omega))) dL_cell_8 ?_
    refine lv_goto (tgt := 13) hx hb dL_cell_9 (by decide) ?_
    exact hk_iret (u := ()) (w' := fun _ : Unit => []) hx hb hr hlocks hw (by rw [if_neg (by omega)]; rfl) dL_cell_13
section HKP
variable {p : Program} {l : Launch} {e : Env} {R : Room} {s : State} {m : MethodId} {args : Array Value} {below : List Frame} {meth : Method} {c : Code} {H : Heap} {locs : List Loc} {cells slots : Nat} {Q : State → Prop}
variable {cc : ByteArray} {pc : Nat} {ls : Array Slot} {rest : List Value} {D : va_G} {A : Nat → Prop} {tys : List (ClassId × FieldType)} {ws wc wr : va_W} {t3 : Nat × Nat × Nat} {mc ms : Nat} {st0 : List Value} {av : Array Value}
/-- behind a call on a part wc of the world: the rest wr stays -/
theorem hk_pi {S : Type} {w' : S → va_W} {post : Int32 → S → Prop} (hw : hk_W D tys A s H locs ws) (hA : ∀ q, s.heap.size ≤ q → A q) (isC isR : List Nat) (hC : isC.map (fun i => ws[i]?) = wc.map some) (hR : isR.map (fun i => ws[i]?) = wr.map some) (hnC : va_nd isC = true) (hnR : va_nd isR = true) (hdis : ∀ i ∈ isR, i ∉ isC)
    (run : va_Run p l e R s m args below meth c H locs cells slots mc ms (F0 m pc ls st0) rest (va_Qi post (fun u => hk_E D tys (va_A wc H.size) (w' u)) (va_A wc H.size) av) (va_A wc H.size))
    (k : ∀ (r : Int32) (u : S) (H1 : Heap) (locs1 : List Loc), post r u → hk_W D tys A s H1 locs1 (wr ++ w' u) → W p l e R s m args below meth c H1 locs1 (cells + mc) (slots + ms) Q (F0 m (pc + 3) ls (.int r :: rest))) : W p l e R s m args below meth c H locs cells slots Q (F0 m pc ls st0) := by
  have hwc := hk_sub hw isC hnC hC
  have hFc := hk_free hwc hA
  refine va_calli run hw.2.2.1 (fun q _ h => hFc q h) hFc (fun r u t H1 locs1 ht hvm hp hB hz1 hk1 hS => ?_)
  obtain ⟨hP1, hK1, hD1⟩ := hB
  rw [ht] at hP1
  obtain ⟨hP, hD⟩ := va_join hw.1 hw.2.1 isC isR hC hR hnR hdis hk1 hFc hP1 hD1
  exact k r u H1 locs1 hp ⟨hP, hD, hS, hw.2.2.2⟩
/-- behind a call that changes nothing -/
theorem hk_pc {post : Int32 → Unit → Prop} (hw : hk_W D tys A s H locs ws) (hA : ∀ q, s.heap.size ≤ q → A q) (run : va_Run p l e R s m args below meth c H locs cells slots mc ms (F0 m pc ls st0) rest (va_Qi post (fun _ : Unit => hk_E D tys (va_A [] H.size) []) (va_A [] H.size) av) (va_A [] H.size))
    (k : ∀ (r : Int32) (H1 : Heap) (locs1 : List Loc), post r () → hk_W D tys A s H1 locs1 ws → W p l e R s m args below meth c H1 locs1 (cells + mc) (slots + ms) Q (F0 m (pc + 3) ls (.int r :: rest))) : W p l e R s m args below meth c H locs cells slots Q (F0 m pc ls st0) := by
  have hwc := hk_sub (ws' := []) hw [] rfl rfl
  have hFc := hk_free hwc hA
  refine va_calli run hw.2.2.1 (fun q _ h => hFc q h) hFc (fun r u t H1 locs1 ht hvm hp hB hz1 hk1 hS => ?_)
  exact k r H1 locs1 hp ⟨hw.1.kept (fun k q hq => hk1 q.1 (hw.1 k q hq).lt (fun h => h.elim (fun ⟨j, x, h⟩ => by simp at h) (fun h => absurd (hw.1 k q hq).lt (by omega)))), hw.2.1, hS, hw.2.2.2⟩
variable {y : MethodName} {bytes : ByteArray} {maxL nL n index : Nat} {ret : Option FieldType} {wy : List Cond} {rm : Room} {Ts : List Cond} {own C : String} {b : Addr} {As : List Value}
/-- the start of a call on a part -/
theorem hk_rV {Qc : Array Value → State → Outcome → State → Prop} {fr : Addr → Prop} {T : u_T} {N ci : Nat} {fs : List Value} (F : CallFix p m c cc nL s args Ts own) (hZ : hk_YY t3 A s) (hw : hk_W D tys A s H locs ws) (hA : ∀ q, s.heap.size ≤ q → A q) (isC : List Nat) (hC : isC.map (fun i => ws[i]?) = wc.map some) (hnC : va_nd isC = true)
    (hM : Met l y wy rm (va_Pc (.ref b :: As) (hk_BY t3 D tys H.size wc)) Qc mc ms fr) (cw : CallW R s args own C index y bytes maxL ret wy rm mc ms n) (q0 : Nat) (he : wc[q0]? = some (b, .inr (ci, fs))) (hc : vwCl[ci]? = some (C, T, N)) (hn : As.length = n) (hl : ls.size = nL) (hst : st0 = As.reverse ++ .ref b :: rest) (hro : (rest.map fun v => v.category).sum ≤ 8) (hd : decode cc pc = .ok (.invokevirtual index, 3)) (hf : cells + mc ≤ R.cells ∧ slots + ms ≤ R.slots) :
    va_Run p l e R s m args below meth c H locs cells slots mc ms (F0 m pc ls st0) rest (Qc (Value.ref b :: As).toArray) fr := by
  have hwc := hk_sub hw isC hnC hC
  exact va_runV (As := As) (rest := rest) F hM cw ⟨hk_blindY _ _, va_recv hwc.2.2.2 hwc.1 hc he, hk_preY hZ hwc hA _⟩ rfl hn hl hst (lv_room hro) hd hf
theorem hk_rVW {Qc : Array Value → State → Outcome → State → Prop} {fr : Addr → Prop} {T : u_T} {N ci : Nat} {fs : List Value} {hh : List (Nat × Nat × Nat × Nat)} (F : CallFix p m c cc nL s args Ts own) (hZ : hk_YY t3 A s) (hw : hk_W D tys A s H locs ws) (hA : ∀ q, s.heap.size ≤ q → A q) (isC : List Nat) (hC : isC.map (fun i => ws[i]?) = wc.map some) (hnC : va_nd isC = true)
    (hM : Met l y wy rm (va_Pc (.ref b :: As) (hk_BY t3 D tys H.size wc)) Qc mc ms fr) (cw : vx_CVW R s args own C index y bytes maxL ret hh wy rm mc ms n) (q0 : Nat) (he : wc[q0]? = some (b, .inr (ci, fs))) (hc : vwCl[ci]? = some (C, T, N)) (hn : As.length = n) (hl : ls.size = nL) (hst : st0 = As.reverse ++ .ref b :: rest) (hro : (rest.map fun v => v.category).sum ≤ 8) (hd : decode cc pc = .ok (.invokevirtual index, 3)) (hf : cells + mc ≤ R.cells ∧ slots + ms ≤ R.slots) :
    va_Run p l e R s m args below meth c H locs cells slots mc ms (F0 m pc ls st0) rest (Qc (Value.ref b :: As).toArray) fr := by
  have hwc := hk_sub hw isC hnC hC
  exact vx_runVW (As := As) (rest := rest) F hM cw ⟨hk_blindY _ _, va_recv hwc.2.2.2 hwc.1 hc he, hk_preY hZ hwc hA _⟩ rfl hn hl hst (lv_room hro) hd hf
theorem hk_rSW {Qc : Array Value → State → Outcome → State → Prop} {fr : Addr → Prop} {hh : List (Nat × Nat × Nat × Nat)} (F : CallFix p m c cc nL s args Ts own) (hZ : hk_YY t3 A s) (hw : hk_W D tys A s H locs ws) (hA : ∀ q, s.heap.size ≤ q → A q) (isC : List Nat) (hC : isC.map (fun i => ws[i]?) = wc.map some) (hnC : va_nd isC = true)
    (hM : Met l y wy rm (va_Pc As (hk_BY t3 D tys H.size wc)) Qc mc ms fr) (cw : vx_CSW R s args own index y bytes maxL ret hh wy rm mc ms n) (hn : As.length = n) (hl : ls.size = nL) (hst : st0 = As.reverse ++ rest) (hro : (rest.map fun v => v.category).sum ≤ 8) (hd : decode cc pc = .ok (.invokestatic index, 3)) (hf : cells + mc ≤ R.cells ∧ slots + ms ≤ R.slots) :
    va_Run p l e R s m args below meth c H locs cells slots mc ms (F0 m pc ls st0) rest (Qc As.toArray) fr := by
  have hwc := hk_sub hw isC hnC hC
  exact vx_runSW (As := As) (rest := rest) F hM cw ⟨hk_blindY _ _, hk_preY hZ hwc hA _⟩ rfl hn hl hst (lv_room hro) hd hf
/-- the call of cell: it reads the script, and changes nothing -/
theorem hk_rC {L : Nat} {xs : Nat → Int32} {b : Nat} (F : CallFix p m c cc nL s args Ts own) (hX : va_X b L xs s s.heap) (hbl : b < s.heap.size) (hbA : ¬ A b) (hL : L ≤ 3073) (hw : hk_W D tys A s H locs ws) (hA : ∀ q, s.heap.size ≤ q → A q)
    (cw : CallB R s args own index yL_cell bytes maxL ret ww_cell { frames := 0, cells := 0, slots := 0, locals := 0 } 0 0 2 ∧ (Cond.static yL_cell).before args s = true) (hl : ls.size = nL) (hst : st0 = [Value.int 0, .ref b] ++ rest) (hro : (rest.map fun v => v.category).sum ≤ 8) (hd : decode cc pc = .ok (.invokestatic index, 3)) (hf : cells + 0 ≤ R.cells ∧ slots + 0 ≤ R.slots) :
    va_Run p l e R s m args below meth c H locs cells slots 0 0 (F0 m pc ls st0) rest (va_Qi (fun (r : Int32) (_ : Unit) => r = if L = 0 then 0 else xs 0) (fun _ : Unit => hk_E D tys (va_A [] H.size) []) (va_A [] H.size) #[.ref b, .int 0]) (va_A [] H.size) := by
  have hwc := hk_sub (ws' := []) hw [] rfl rfl
  have hXH : va_X b L xs s H := hX.kept (hw.2.2.1.2.1 b hbl hbA)
  have hbH : b < H.size := Nat.lt_of_lt_of_le hbl hw.2.2.1.1
  exact va_runS (As := [.ref b, .int 0]) (rest := rest) F (cl_cell l D tys b L xs hL H.size) cw ⟨fun a U g mk q => by
      obtain ⟨q0, q1, q2, q3⟩ := q
      exact ⟨q0, (hk_blind (ws := []) [.ref b, .int 0] H.size a U g mk ⟨q0, q1⟩).2, q2.moved (u := U) (U := U.calling g mk a) (Vm.Alike.refl U.vm), q3⟩,
     fun U hU hW => ⟨rfl, (hk_pre hwc [.ref b, .int 0] U hU hW).2, by rw [hU]; exact hXH.moved hW.alike, hbH⟩⟩ rfl rfl hl hst (lv_room hro) hd hf
end HKP
