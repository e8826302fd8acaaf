/-! calls on a part of the world -/
section JPP
variable {p : Program} {l : Launch} {e : Env} {R : Room} {s : State} {m : MethodId} {args : Array Value} {below : List Frame} {meth : Method} {c : Code} {H : Heap} {locs : List Loc} {cells slots : Nat} {Q : State → Prop}
variable {cc : ByteArray} {pc : Nat} {ls : Array Slot} {rest : List Value} {D : va_G} {A : Nat → Prop} {ws wc wr : va_W} {t3 : Nat × Nat × Nat} {wf : jWf} {cI cJ : ClassId} {ad : Nat → Nat} {px : jP}
variable {y : MethodName} {bytes : ByteArray} {maxL nL mc ms n index : Nat} {ret : Option FieldType} {wy : List Cond} {rm : Room} {Ts : List Cond} {own C : String} {b : Addr} {As st0 : List Value}
theorem jp_Vi {post : Int32 → jP} {T : u_T} {N ci : Nat} {fs : List Value} (F : CallFix p m c cc nL s args Ts own) (hZ : hk_YY t3 A s) (hw : hk_W D (jT cI cJ) A s H locs ws) (hA : ∀ q, s.heap.size ≤ q → A q)
    (isC isR : List Nat) (hC : isC.map (fun i => ws[i]?) = wc.map some) (hR : isR.map (fun i => ws[i]?) = wr.map some) (hnC : va_nd isC = true) (hnR : va_nd isR = true) (hdis : ∀ i ∈ isR, i ∉ isC)
    (hM : JMi l y wy rm t3 D wf cI cJ ad (.ref b :: As) wc H.size mc ms post px) (hnx : ∀ (g' : Nat → Int32) (lg' : Nat → Int64) (ar' : Nat → Nat → Int32) (bk' : Nat → Int64), px g' lg' ar' bk' → False) (cw : CallW R s args own C index y bytes maxL ret wy rm mc ms n) (q0 : Nat) (he : wc[q0]? = some (b, .inr (ci, fs))) (hc : vwCl[ci]? = some (C, T, N)) (hn : As.length = n) (hl : ls.size = nL) (hst : st0 = As.reverse ++ .ref b :: rest) (hro : (rest.map fun v => v.category).sum ≤ 8) (hd : decode cc pc = .ok (.invokevirtual index, 3)) (hf : cells + mc ≤ R.cells ∧ slots + ms ≤ R.slots)
    (k : ∀ (r : Int32) (g' : Nat → Int32) (lg' : Nat → Int64) (ar' : Nat → Nat → Int32) (bk' : Nat → Int64) (H1 : Heap) (locs1 : List Loc), post r g' lg' ar' bk' → hk_W D (jT cI cJ) A s H1 locs1 (wr ++ wf cI cJ ad g' lg' ar' bk') → W p l e R s m args below meth c H1 locs1 (cells + mc) (slots + ms) Q (F0 m (pc + 3) ls (.int r :: rest))) : W p l e R s m args below meth c H locs cells slots Q (F0 m pc ls st0) := by
  unfold JMi at hM
  have hwc := hk_sub hw isC hnC hC
  have hFc := hk_free hwc hA
  refine vx_calli (vx_runV (As := As) (rest := rest) F hM cw ⟨hk_blindY _ _, va_recv hwc.2.2.2 hwc.1 hc he, hk_preY hZ hwc hA _⟩ rfl hn hl hst (lv_room hro) hd hf) hw.2.2.1 (fun q _ h => hFc q h) hFc (fun q _ h => hFc q h) (fun E ce q9 u t H1 locs1 ht hvm hp hB hz1 hk1 hS hce hcv hcl => (hnx _ _ _ _ hp).elim) (fun r u t H1 locs1 ht hvm hp hB hz1 hk1 hS => ?_)
  obtain ⟨⟨hP1, hK1, hD1⟩, hsz⟩ := hB
  rw [ht] at hP1
  obtain ⟨hP, hD⟩ := va_join hw.1 hw.2.1 isC isR hC hR hnR hdis hk1 hFc hP1 hD1
  exact k r u.1 u.2.1 u.2.2.1 u.2.2.2 H1 locs1 hp ⟨hP, hD, hS, hw.2.2.2⟩
/-- a call that may throw E, and changes nothing of its world -/
theorem jp_Xi {En : String} {T : u_T} {N ci : Nat} {fs : List Value} (F : CallFix p m c cc nL s args Ts own) (hZ : hk_YY t3 A s) (hw : hk_W D (jT cI cJ) A s H locs ws) (hA : ∀ q, s.heap.size ≤ q → A q)
    (isC isR : List Nat) (hC : isC.map (fun i => ws[i]?) = wc.map some) (hR : isR.map (fun i => ws[i]?) = wr.map some) (hnC : va_nd isC = true) (hnR : va_nd isR = true) (hdis : ∀ i ∈ isR, i ∉ isC)
    (hM : vx_Met l y wy rm (va_Pc (.ref b :: As) (hk_BY t3 D (jT cI cJ) H.size wc)) (va_Qi (fun (_ : Int32) (_ : Unit) => True) (fun _ => hk_E D (jT cI cJ) (va_A wc H.size) wc) (va_A wc H.size)) (hk_XC En (fun _ : Unit => True) (fun _ => wc) D (jT cI cJ) (va_A wc H.size)) mc ms (va_A wc H.size)) (cw : CallW R s args own C index y bytes maxL ret wy rm mc ms n) (q0 : Nat) (he : wc[q0]? = some (b, .inr (ci, fs))) (hc : vwCl[ci]? = some (C, T, N)) (hn : As.length = n) (hl : ls.size = nL) (hst : st0 = As.reverse ++ .ref b :: rest) (hro : (rest.map fun v => v.category).sum ≤ 8) (hd : decode cc pc = .ok (.invokevirtual index, 3)) (hf : cells + mc ≤ R.cells ∧ slots + ms ≤ R.slots)
    (kx : ∀ (ce : Cell) (q9 : Addr) (H1 : Heap) (locs1 : List Loc), hk_W D (jT cI cJ) A s H1 locs1 (wr ++ wc) → H1[q9]? = some ce → ce.vm = .none → s.vm.findClass En = some ce.cls → vx_W p l e R s m args below meth c H1 locs1 (cells + mc) (slots + ms) Q (F0 m pc ls rest) q9)
    (k : ∀ (r : Int32) (H1 : Heap) (locs1 : List Loc), hk_W D (jT cI cJ) A s H1 locs1 (wr ++ wc) → W p l e R s m args below meth c H1 locs1 (cells + mc) (slots + ms) Q (F0 m (pc + 3) ls (.int r :: rest))) : W p l e R s m args below meth c H locs cells slots Q (F0 m pc ls st0) := by
  have hwc := hk_sub hw isC hnC hC
  have hFc := hk_free hwc hA
  refine vx_calli (vx_runV (As := As) (rest := rest) F hM cw ⟨hk_blindY _ _, va_recv hwc.2.2.2 hwc.1 hc he, hk_preY hZ hwc hA _⟩ rfl hn hl hst (lv_room hro) hd hf) hw.2.2.1 (fun q _ h => hFc q h) hFc (fun q _ h => hFc q h) (fun E ce q9 u t H1 locs1 ht hvm hp hB hz1 hk1 hS hce hcv hcl => ?_) (fun r u t H1 locs1 ht hvm hp hB hz1 hk1 hS => ?_)
  · obtain ⟨rfl, hP1, hK1, hD1⟩ := hB
    rw [ht] at hP1
    obtain ⟨hP, hD⟩ := va_join hw.1 hw.2.1 isC isR hC hR hnR hdis hk1 hFc hP1 hD1
    exact kx ce q9 H1 locs1 ⟨hP, hD, hS, hw.2.2.2⟩ hce hcv hcl
  · obtain ⟨hP1, hK1, hD1⟩ := hB
    rw [ht] at hP1
    obtain ⟨hP, hD⟩ := va_join hw.1 hw.2.1 isC isR hC hR hnR hdis hk1 hFc hP1 hD1
    exact k r H1 locs1 ⟨hP, hD, hS, hw.2.2.2⟩
/-- a call of a method that catches (open) -/
theorem jp_Ni {post : Int32 → jP} {T : u_T} {N ci : Nat} {fs : List Value} {hh : List (Nat × Nat × Nat × Nat)} (F : CallFix p m c cc nL s args Ts own) (hZ : hk_YY t3 A s) (hw : hk_W D (jT cI cJ) A s H locs ws) (hA : ∀ q, s.heap.size ≤ q → A q)
    (isC isR : List Nat) (hC : isC.map (fun i => ws[i]?) = wc.map some) (hR : isR.map (fun i => ws[i]?) = wr.map some) (hnC : va_nd isC = true) (hnR : va_nd isR = true) (hdis : ∀ i ∈ isR, i ∉ isC)
    (hM : JNi l y wy rm t3 D wf cI cJ ad (.ref b :: As) wc H.size mc ms post) (cw : vx_CVW R s args own C index y bytes maxL ret hh wy rm mc ms n) (q0 : Nat) (he : wc[q0]? = some (b, .inr (ci, fs))) (hc : vwCl[ci]? = some (C, T, N)) (hn : As.length = n) (hl : ls.size = nL) (hst : st0 = As.reverse ++ .ref b :: rest) (hro : (rest.map fun v => v.category).sum ≤ 8) (hd : decode cc pc = .ok (.invokevirtual index, 3)) (hf : cells + mc ≤ R.cells ∧ slots + ms ≤ R.slots)
    (k : ∀ (r : Int32) (g' : Nat → Int32) (lg' : Nat → Int64) (ar' : Nat → Nat → Int32) (bk' : Nat → Int64) (H1 : Heap) (locs1 : List Loc), post r g' lg' ar' bk' → hk_W D (jT cI cJ) A s H1 locs1 (wr ++ wf cI cJ ad g' lg' ar' bk') → W p l e R s m args below meth c H1 locs1 (cells + mc) (slots + ms) Q (F0 m (pc + 3) ls (.int r :: rest))) : W p l e R s m args below meth c H locs cells slots Q (F0 m pc ls st0) := by
  unfold JNi at hM
  have hwc := hk_sub hw isC hnC hC
  have hFc := hk_free hwc hA
  refine va_calli (vx_runVW (As := As) (rest := rest) F hM cw ⟨hk_blindY _ _, va_recv hwc.2.2.2 hwc.1 hc he, hk_preY hZ hwc hA _⟩ rfl hn hl hst (lv_room hro) hd hf) hw.2.2.1 (fun q _ h => hFc q h) hFc (fun r u t H1 locs1 ht hvm hp hB hz1 hk1 hS => ?_)
  obtain ⟨hP1, hK1, hD1⟩ := hB
  rw [ht] at hP1
  obtain ⟨hP, hD⟩ := va_join hw.1 hw.2.1 isC isR hC hR hnR hdis hk1 hFc hP1 hD1
  exact k r u.1 u.2.1 u.2.2.1 u.2.2.2 H1 locs1 hp ⟨hP, hD, hS, hw.2.2.2⟩
end JPP
set_option maxHeartbeats 4000000 in
set_option maxRecDepth 100000 in
theorem jx_X11_out (l : Launch) (hlt : l.stackTraces = false) (D : va_G) (t3 : Nat × Nat × Nat) (cI cJ : ClassId) (ad : Nat → Nat) (g : Nat → Int32) (lg : Nat → Int64) (ar : Nat → Nat → Int32) (bk : Nat → Int64) (sz : Nat) (y1 : Int32) : vx_Met l yX11_out (Cond.code yX11_out cX11_out 2 (some .int) :: wwX) { frames := 7, cells := 1, slots := 6, locals := 94 } (va_Pc [.ref (ad 0), .int y1] (hk_BY t3 D (jT cI cJ) sz (xw cI cJ ad g lg ar bk))) (va_Qi (fun (_ : Int32) (_ : Unit) => True) (fun _ => hk_E D (jT cI cJ) (va_A (xw cI cJ ad g lg ar bk) sz) (xw cI cJ ad g lg ar bk)) (va_A (xw cI cJ ad g lg ar bk) sz)) (hk_XC "java/lang/ArrayIndexOutOfBoundsException" (fun _ : Unit => True) (fun _ => xw cI cJ ad g lg ar bk) D (jT cI cJ) (va_A (xw cI cJ ad g lg ar bk) sz)) 1 6 (va_A (xw cI cJ ad g lg ar bk) sz) := by
  refine hk_ymet (cc := cX11_out) (maxL := 2) (ret := (some .int)) (by decide) rfl (Nat.le_of_ble_eq_true rfl) ?_
  intro p e s m below meth c ls hx hb hr hml hown hts hlocks hin hA hno hZ hw hl
  have hq : ∀ w ∈ wwX, w.before (List.toArray [.ref (ad 0), .int y1]) s = true := fun w h => hts w (List.mem_cons_of_mem _ h)
  have hl : lv_has ls 2 [(0, .ref (ad 0)), (1, .int y1)] := hl
  refine lv_iload_n hx hb dX11_out_0 rfl (lv_at hl 1 rfl) ?_
  refine lv_if_lt (tgt := 15) hx hb dX11_out_1 (by decide) (fun cc1 => ?_) (fun cc1 => ?_)
  · exact hk_ythrow (S := Unit) (u := ()) (w' := fun _ => xw cI cJ ad g lg ar bk) (names := ["java/lang/IndexOutOfBoundsException", "java/lang/RuntimeException", "java/lang/Exception"]) hx hb hlt hown (by decide +kernel) (by decide +kernel) (hq _ wX_115) (hq _ wX_116) (fun w h => hq w (wwXc_t1 w h)) xb_11b xb_11o hZ hw trivial hno (by rw [hml]; exact hl.1) dX11_out_15 dX11_out_18 dX11_out_19 dX11_out_22 (Nat.le_of_ble_eq_true rfl) (Nat.le_of_ble_eq_true rfl) (Nat.le_of_ble_eq_true rfl) (Nat.le_of_ble_eq_true rfl) hlocks (Nat.le_of_ble_eq_true rfl) (Nat.le_of_ble_eq_true rfl)
  · refine lv_iload_n hx hb dX11_out_4 rfl (lv_at hl 1 rfl) ?_
    refine lv_aload_n hx hb dX11_out_5 rfl (lv_at hl 0 rfl) ?_
    refine hk_get (ci := 14) (C := RX11) (T := TX11) (N := 11) (v := .ref (ad 4)) hx hb hts (fun _ h => List.mem_cons_of_mem _ (wwXc_wsX110 _ h)) hown hw 0 rfl rfl 3 (by decide) (hq _ wX_76) rfl dX11_out_6 ?_
    refine hk_get (ci := 12) (C := RX9) (T := TX9) (N := 2) (v := .int (g 14)) hx hb hts (fun _ h => List.mem_cons_of_mem _ (wwXc_wsX90 _ h)) hown hw 4 rfl rfl 1 (by decide) (hq _ wX_77) rfl dX11_out_9 ?_
    refine lv_icmp_lt (tgt := 23) hx hb dX11_out_12 (by decide) (fun cc2 => ?_) (fun cc2 => ?_)
    · refine lv_aload_n hx hb dX11_out_23 rfl (lv_at hl 0 rfl) ?_
      refine hk_get (ci := 14) (C := RX11) (T := TX11) (N := 11) (v := .ref (ad 4)) hx hb hts (fun _ h => List.mem_cons_of_mem _ (wwXc_wsX110 _ h)) hown hw 0 rfl rfl 3 (by decide) (hq _ wX_76) rfl dX11_out_24 ?_
      refine lv_iload_n hx hb dX11_out_27 rfl (lv_at hl 1 rfl) ?_
      refine jx_Vi (As := [.int y1]) (rest := []) ⟨hx, hb, hml, hown, hts⟩ hZ hw hA (jx_X9_get_4 l hlt D t3 cI cJ ad g lg ar bk _ y1) (cwV 1 hts (jx_gV wwX_good wX_117 wX_22 wX_23 wX_24 wX_25) rfl rfl rfl (by decide +kernel) ⟨Nat.le_of_ble_eq_true rfl, Nat.le_of_ble_eq_true rfl⟩) 4 (ci := 12) (T := TX9) (N := 2) rfl rfl rfl hl.1 rfl (Nat.le_of_ble_eq_true rfl) dX11_out_28 ⟨Nat.le_of_ble_eq_true rfl, Nat.le_of_ble_eq_true rfl⟩ (fun _ _ _ _ _ _ _ _ hp _ _ _ _ => hp.elim) (fun r7 g8 l9 a10 b11 H locs hp12 hw => ?_)
      obtain ⟨rfl, rfl, rfl, rfl⟩ := hp12
      refine W.widen (k := 1) (n := 6) (Nat.le_of_ble_eq_true rfl) (Nat.le_of_ble_eq_true rfl) ?_
      exact vx_ret (hk_iret (S := Unit) (u := ()) (w' := fun _ => xw cI cJ ad g lg ar bk) (post := fun _ _ => True) hx hb hr hlocks hw trivial dX11_out_31)
    · exact hk_ythrow (S := Unit) (u := ()) (w' := fun _ => xw cI cJ ad g lg ar bk) (names := ["java/lang/IndexOutOfBoundsException", "java/lang/RuntimeException", "java/lang/Exception"]) hx hb hlt hown (by decide +kernel) (by decide +kernel) (hq _ wX_115) (hq _ wX_116) (fun w h => hq w (wwXc_t1 w h)) xb_11b xb_11o hZ hw trivial hno (by rw [hml]; exact hl.1) dX11_out_15 dX11_out_18 dX11_out_19 dX11_out_22 (Nat.le_of_ble_eq_true rfl) (Nat.le_of_ble_eq_true rfl) (Nat.le_of_ble_eq_true rfl) (Nat.le_of_ble_eq_true rfl) hlocks (Nat.le_of_ble_eq_true rfl) (Nat.le_of_ble_eq_true rfl)
