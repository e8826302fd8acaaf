/-! calls; worlds that change; frames; what an int row says of integers -/
section JC
variable {p : Program} {l : Launch} {e : Env} {R : Room} {s : State} {m : MethodId} {args : Array Value} {below : List Frame} {meth : Method} {c : Code} {H : Heap} {locs : List Loc} {Q : State → Prop}
variable {cc : ByteArray} {pc : Nat} {ls : Array Slot} {rest : List Value} {D : va_G} {A : Nat → Prop} {ws : va_W} {t3 : Nat × Nat × Nat} {wf : jWf} {cI cJ : ClassId} {ad : Nat → Nat} {px : jP}
variable {y : MethodName} {bytes : ByteArray} {maxL nL mc ms n index : Nat} {ret : Option FieldType} {wy : List Cond} {rm : Room} {Ts : List Cond} {own C : String} {b : Addr} {As st0 : List Value}
theorem jx_Vi {post : Int32 → jP} {T : u_T} {N ci : Nat} {fs : List Value} (F : CallFix p m c cc nL s args Ts own) (hZ : hk_YY t3 A s) (hw : hk_W D (jT cI cJ) A s H locs ws) (hA : ∀ q, s.heap.size ≤ q → A q)
    (hM : JMi l y wy rm t3 D wf cI cJ ad (.ref b :: As) ws H.size mc ms post px) (cw : CallW R s args own C index y bytes maxL ret wy rm mc ms n) (q0 : Nat) (he : ws[q0]? = some (b, .inr (ci, fs))) (hc : vwCl[ci]? = some (C, T, N)) (hn : As.length = n) (hl : ls.size = nL) (hst : st0 = As.reverse ++ .ref b :: rest) (hro : (rest.map fun v => v.category).sum ≤ 8) (hd : decode cc pc = .ok (.invokevirtual index, 3)) (hf : mc ≤ R.cells ∧ ms ≤ R.slots)
    (kx : ∀ (g' : Nat → Int32) (lg' : Nat → Int64) (ar' : Nat → Nat → Int32) (bk' : Nat → Int64) (H1 : Heap) (locs1 : List Loc) (ce : Cell) (q : Addr), px g' lg' ar' bk' → hk_W D (jT cI cJ) A s H1 locs1 (wf cI cJ ad g' lg' ar' bk') → H1[q]? = some ce → ce.vm = .none → s.vm.findClass jISE = some ce.cls → vx_W p l e R s m args below meth c H1 locs1 mc ms Q (F0 m pc ls rest) q)
    (k : ∀ (r : Int32) (g' : Nat → Int32) (lg' : Nat → Int64) (ar' : Nat → Nat → Int32) (bk' : Nat → Int64) (H1 : Heap) (locs1 : List Loc), post r g' lg' ar' bk' → hk_W D (jT cI cJ) A s H1 locs1 (wf cI cJ ad g' lg' ar' bk') → W p l e R s m args below meth c H1 locs1 0 0 Q (F0 m (pc + 3) ls (.int r :: rest))) : W p l e R s m args below meth c H locs 0 0 Q (F0 m pc ls st0) := by
  intro T9 hT9 X9
  have hz := jx_size0 X9
  rw [hT9] at hz
  obtain ⟨hf1, hf2⟩ := hf
  unfold JMi at hM
  have hFc := hk_free hw hA
  refine vx_calli (vx_runV (As := As) (rest := rest) F hM cw ⟨hk_blindY _ _, va_recv hw.2.2.2 hw.1 hc he, hk_preY hZ hw hA _⟩ rfl hn hl hst (lv_room hro) hd ⟨by omega, by omega⟩) hw.2.2.1 (fun q _ h => hFc q h) hFc (fun q _ h => hFc q h) (fun E ce q9 u t H1 locs1 ht hvm hp hB hz1 hk1 hS hce hcv hcl => ?_) (fun r u t H1 locs1 ht hvm hp hB hz1 hk1 hS => ?_) T9 hT9 X9
  · obtain ⟨rfl, hP1, hK1, hD1⟩ := hB
    rw [ht] at hP1
    rw [Nat.zero_add, Nat.zero_add]
    exact kx u.1 u.2.1 u.2.2.1 u.2.2.2 H1 locs1 ce q9 hp ⟨hP1, hD1.weaken (fun _ q _ h => hFc q.1 h), hS, va_K.moved hvm.symm hK1⟩ hce hcv hcl
  · obtain ⟨⟨hP1, hK1, hD1⟩, hsz⟩ := hB
    rw [ht] at hP1 hsz
    intro T8 hT8 X8
    exact k r u.1 u.2.1 u.2.2.1 u.2.2.2 H1 locs1 hp ⟨hP1, hD1.weaken (fun _ q _ h => hFc q.1 h), hS, va_K.moved hvm.symm hK1⟩ T8 hT8 (jx_low X8 (by rw [hT8, hsz, hz]))
theorem jx_Si {post : Int32 → jP} (F : CallFix p m c cc nL s args Ts own) (hZ : hk_YY t3 A s) (hw : hk_W D (jT cI cJ) A s H locs ws) (hA : ∀ q, s.heap.size ≤ q → A q)
    (hM : JMi l y wy rm t3 D wf cI cJ ad As ws H.size mc ms post px) (cw : CallB R s args own index y bytes maxL ret wy rm mc ms n ∧ (Cond.static y).before args s = true) (hn : As.length = n) (hl : ls.size = nL) (hst : st0 = As.reverse ++ rest) (hro : (rest.map fun v => v.category).sum ≤ 8) (hd : decode cc pc = .ok (.invokestatic index, 3)) (hf : mc ≤ R.cells ∧ ms ≤ R.slots)
    (kx : ∀ (g' : Nat → Int32) (lg' : Nat → Int64) (ar' : Nat → Nat → Int32) (bk' : Nat → Int64) (H1 : Heap) (locs1 : List Loc) (ce : Cell) (q : Addr), px g' lg' ar' bk' → hk_W D (jT cI cJ) A s H1 locs1 (wf cI cJ ad g' lg' ar' bk') → H1[q]? = some ce → ce.vm = .none → s.vm.findClass jISE = some ce.cls → vx_W p l e R s m args below meth c H1 locs1 mc ms Q (F0 m pc ls rest) q)
    (k : ∀ (r : Int32) (g' : Nat → Int32) (lg' : Nat → Int64) (ar' : Nat → Nat → Int32) (bk' : Nat → Int64) (H1 : Heap) (locs1 : List Loc), post r g' lg' ar' bk' → hk_W D (jT cI cJ) A s H1 locs1 (wf cI cJ ad g' lg' ar' bk') → W p l e R s m args below meth c H1 locs1 0 0 Q (F0 m (pc + 3) ls (.int r :: rest))) : W p l e R s m args below meth c H locs 0 0 Q (F0 m pc ls st0) := by
  intro T9 hT9 X9
  have hz := jx_size0 X9
  rw [hT9] at hz
  obtain ⟨hf1, hf2⟩ := hf
  unfold JMi at hM
  have hFc := hk_free hw hA
  refine vx_calli (vx_runS (As := As) (rest := rest) F hM cw ⟨hk_blindY _ _, hk_preY hZ hw hA _⟩ rfl hn hl hst (lv_room hro) hd ⟨by omega, by omega⟩) hw.2.2.1 (fun q _ h => hFc q h) hFc (fun q _ h => hFc q h) (fun E ce q9 u t H1 locs1 ht hvm hp hB hz1 hk1 hS hce hcv hcl => ?_) (fun r u t H1 locs1 ht hvm hp hB hz1 hk1 hS => ?_) T9 hT9 X9
  · obtain ⟨rfl, hP1, hK1, hD1⟩ := hB
    rw [ht] at hP1
    rw [Nat.zero_add, Nat.zero_add]
    exact kx u.1 u.2.1 u.2.2.1 u.2.2.2 H1 locs1 ce q9 hp ⟨hP1, hD1.weaken (fun _ q _ h => hFc q.1 h), hS, va_K.moved hvm.symm hK1⟩ hce hcv hcl
  · obtain ⟨⟨hP1, hK1, hD1⟩, hsz⟩ := hB
    rw [ht] at hP1 hsz
    intro T8 hT8 X8
    exact k r u.1 u.2.1 u.2.2.1 u.2.2.2 H1 locs1 hp ⟨hP1, hD1.weaken (fun _ q _ h => hFc q.1 h), hS, va_K.moved hvm.symm hK1⟩ T8 hT8 (jx_low X8 (by rw [hT8, hsz, hz]))
theorem jx_Vl {post : Int64 → jP} {T : u_T} {N ci : Nat} {fs : List Value} (F : CallFix p m c cc nL s args Ts own) (hZ : hk_YY t3 A s) (hw : hk_W D (jT cI cJ) A s H locs ws) (hA : ∀ q, s.heap.size ≤ q → A q)
    (hM : JMl l y wy rm t3 D wf cI cJ ad (.ref b :: As) ws H.size mc ms post px) (cw : CallW R s args own C index y bytes maxL ret wy rm mc ms n) (q0 : Nat) (he : ws[q0]? = some (b, .inr (ci, fs))) (hc : vwCl[ci]? = some (C, T, N)) (hn : As.length = n) (hl : ls.size = nL) (hst : st0 = As.reverse ++ .ref b :: rest) (hro : (rest.map fun v => v.category).sum ≤ 8) (hd : decode cc pc = .ok (.invokevirtual index, 3)) (hf : mc ≤ R.cells ∧ ms ≤ R.slots)
    (kx : ∀ (g' : Nat → Int32) (lg' : Nat → Int64) (ar' : Nat → Nat → Int32) (bk' : Nat → Int64) (H1 : Heap) (locs1 : List Loc) (ce : Cell) (q : Addr), px g' lg' ar' bk' → hk_W D (jT cI cJ) A s H1 locs1 (wf cI cJ ad g' lg' ar' bk') → H1[q]? = some ce → ce.vm = .none → s.vm.findClass jISE = some ce.cls → vx_W p l e R s m args below meth c H1 locs1 mc ms Q (F0 m pc ls rest) q)
    (k : ∀ (r : Int64) (g' : Nat → Int32) (lg' : Nat → Int64) (ar' : Nat → Nat → Int32) (bk' : Nat → Int64) (H1 : Heap) (locs1 : List Loc), post r g' lg' ar' bk' → hk_W D (jT cI cJ) A s H1 locs1 (wf cI cJ ad g' lg' ar' bk') → W p l e R s m args below meth c H1 locs1 0 0 Q (F0 m (pc + 3) ls (.long r :: rest))) : W p l e R s m args below meth c H locs 0 0 Q (F0 m pc ls st0) := by
  intro T9 hT9 X9
  have hz := jx_size0 X9
  rw [hT9] at hz
  obtain ⟨hf1, hf2⟩ := hf
  unfold JMl at hM
  have hFc := hk_free hw hA
  refine vx_calll (vx_runV (As := As) (rest := rest) F hM cw ⟨hk_blindY _ _, va_recv hw.2.2.2 hw.1 hc he, hk_preY hZ hw hA _⟩ rfl hn hl hst (lv_room hro) hd ⟨by omega, by omega⟩) hw.2.2.1 (fun q _ h => hFc q h) hFc (fun q _ h => hFc q h) (fun E ce q9 u t H1 locs1 ht hvm hp hB hz1 hk1 hS hce hcv hcl => ?_) (fun r u t H1 locs1 ht hvm hp hB hz1 hk1 hS => ?_) T9 hT9 X9
  · obtain ⟨rfl, hP1, hK1, hD1⟩ := hB
    rw [ht] at hP1
    rw [Nat.zero_add, Nat.zero_add]
    exact kx u.1 u.2.1 u.2.2.1 u.2.2.2 H1 locs1 ce q9 hp ⟨hP1, hD1.weaken (fun _ q _ h => hFc q.1 h), hS, va_K.moved hvm.symm hK1⟩ hce hcv hcl
  · obtain ⟨⟨hP1, hK1, hD1⟩, hsz⟩ := hB
    rw [ht] at hP1 hsz
    intro T8 hT8 X8
    exact k r u.1 u.2.1 u.2.2.1 u.2.2.2 H1 locs1 hp ⟨hP1, hD1.weaken (fun _ q _ h => hFc q.1 h), hS, va_K.moved hvm.symm hK1⟩ T8 hT8 (jx_low X8 (by rw [hT8, hsz, hz]))
theorem jx_Sl {post : Int64 → jP} (F : CallFix p m c cc nL s args Ts own) (hZ : hk_YY t3 A s) (hw : hk_W D (jT cI cJ) A s H locs ws) (hA : ∀ q, s.heap.size ≤ q → A q)
    (hM : JMl l y wy rm t3 D wf cI cJ ad As ws H.size mc ms post px) (cw : CallB R s args own index y bytes maxL ret wy rm mc ms n ∧ (Cond.static y).before args s = true) (hn : As.length = n) (hl : ls.size = nL) (hst : st0 = As.reverse ++ rest) (hro : (rest.map fun v => v.category).sum ≤ 8) (hd : decode cc pc = .ok (.invokestatic index, 3)) (hf : mc ≤ R.cells ∧ ms ≤ R.slots)
    (kx : ∀ (g' : Nat → Int32) (lg' : Nat → Int64) (ar' : Nat → Nat → Int32) (bk' : Nat → Int64) (H1 : Heap) (locs1 : List Loc) (ce : Cell) (q : Addr), px g' lg' ar' bk' → hk_W D (jT cI cJ) A s H1 locs1 (wf cI cJ ad g' lg' ar' bk') → H1[q]? = some ce → ce.vm = .none → s.vm.findClass jISE = some ce.cls → vx_W p l e R s m args below meth c H1 locs1 mc ms Q (F0 m pc ls rest) q)
    (k : ∀ (r : Int64) (g' : Nat → Int32) (lg' : Nat → Int64) (ar' : Nat → Nat → Int32) (bk' : Nat → Int64) (H1 : Heap) (locs1 : List Loc), post r g' lg' ar' bk' → hk_W D (jT cI cJ) A s H1 locs1 (wf cI cJ ad g' lg' ar' bk') → W p l e R s m args below meth c H1 locs1 0 0 Q (F0 m (pc + 3) ls (.long r :: rest))) : W p l e R s m args below meth c H locs 0 0 Q (F0 m pc ls st0) := by
  intro T9 hT9 X9
  have hz := jx_size0 X9
  rw [hT9] at hz
  obtain ⟨hf1, hf2⟩ := hf
  unfold JMl at hM
  have hFc := hk_free hw hA
  refine vx_calll (vx_runS (As := As) (rest := rest) F hM cw ⟨hk_blindY _ _, hk_preY hZ hw hA _⟩ rfl hn hl hst (lv_room hro) hd ⟨by omega, by omega⟩) hw.2.2.1 (fun q _ h => hFc q h) hFc (fun q _ h => hFc q h) (fun E ce q9 u t H1 locs1 ht hvm hp hB hz1 hk1 hS hce hcv hcl => ?_) (fun r u t H1 locs1 ht hvm hp hB hz1 hk1 hS => ?_) T9 hT9 X9
  · obtain ⟨rfl, hP1, hK1, hD1⟩ := hB
    rw [ht] at hP1
    rw [Nat.zero_add, Nat.zero_add]
    exact kx u.1 u.2.1 u.2.2.1 u.2.2.2 H1 locs1 ce q9 hp ⟨hP1, hD1.weaken (fun _ q _ h => hFc q.1 h), hS, va_K.moved hvm.symm hK1⟩ hce hcv hcl
  · obtain ⟨⟨hP1, hK1, hD1⟩, hsz⟩ := hB
    rw [ht] at hP1 hsz
    intro T8 hT8 X8
    exact k r u.1 u.2.1 u.2.2.1 u.2.2.2 H1 locs1 hp ⟨hP1, hD1.weaken (fun _ q _ h => hFc q.1 h), hS, va_K.moved hvm.symm hK1⟩ T8 hT8 (jx_low X8 (by rw [hT8, hsz, hz]))
theorem jx_Vv {post : jP} {T : u_T} {N ci : Nat} {fs : List Value} (F : CallFix p m c cc nL s args Ts own) (hZ : hk_YY t3 A s) (hw : hk_W D (jT cI cJ) A s H locs ws) (hA : ∀ q, s.heap.size ≤ q → A q)
    (hM : JMv l y wy rm t3 D wf cI cJ ad (.ref b :: As) ws H.size mc ms post px) (cw : CallW R s args own C index y bytes maxL ret wy rm mc ms n) (q0 : Nat) (he : ws[q0]? = some (b, .inr (ci, fs))) (hc : vwCl[ci]? = some (C, T, N)) (hn : As.length = n) (hl : ls.size = nL) (hst : st0 = As.reverse ++ .ref b :: rest) (hro : (rest.map fun v => v.category).sum ≤ 8) (hd : decode cc pc = .ok (.invokevirtual index, 3)) (hf : mc ≤ R.cells ∧ ms ≤ R.slots)
    (kx : ∀ (g' : Nat → Int32) (lg' : Nat → Int64) (ar' : Nat → Nat → Int32) (bk' : Nat → Int64) (H1 : Heap) (locs1 : List Loc) (ce : Cell) (q : Addr), px g' lg' ar' bk' → hk_W D (jT cI cJ) A s H1 locs1 (wf cI cJ ad g' lg' ar' bk') → H1[q]? = some ce → ce.vm = .none → s.vm.findClass jISE = some ce.cls → vx_W p l e R s m args below meth c H1 locs1 mc ms Q (F0 m pc ls rest) q)
    (k : ∀ (g' : Nat → Int32) (lg' : Nat → Int64) (ar' : Nat → Nat → Int32) (bk' : Nat → Int64) (H1 : Heap) (locs1 : List Loc), post g' lg' ar' bk' → hk_W D (jT cI cJ) A s H1 locs1 (wf cI cJ ad g' lg' ar' bk') → W p l e R s m args below meth c H1 locs1 0 0 Q (F0 m (pc + 3) ls (rest))) : W p l e R s m args below meth c H locs 0 0 Q (F0 m pc ls st0) := by
  intro T9 hT9 X9
  have hz := jx_size0 X9
  rw [hT9] at hz
  obtain ⟨hf1, hf2⟩ := hf
  unfold JMv at hM
  have hFc := hk_free hw hA
  refine vx_callv (vx_runV (As := As) (rest := rest) F hM cw ⟨hk_blindY _ _, va_recv hw.2.2.2 hw.1 hc he, hk_preY hZ hw hA _⟩ rfl hn hl hst (lv_room hro) hd ⟨by omega, by omega⟩) hw.2.2.1 (fun q _ h => hFc q h) hFc (fun q _ h => hFc q h) (fun E ce q9 u t H1 locs1 ht hvm hp hB hz1 hk1 hS hce hcv hcl => ?_) (fun u t H1 locs1 ht hvm hp hB hz1 hk1 hS => ?_) T9 hT9 X9
  · obtain ⟨rfl, hP1, hK1, hD1⟩ := hB
    rw [ht] at hP1
    rw [Nat.zero_add, Nat.zero_add]
    exact kx u.1 u.2.1 u.2.2.1 u.2.2.2 H1 locs1 ce q9 hp ⟨hP1, hD1.weaken (fun _ q _ h => hFc q.1 h), hS, va_K.moved hvm.symm hK1⟩ hce hcv hcl
  · obtain ⟨⟨hP1, hK1, hD1⟩, hsz⟩ := hB
    rw [ht] at hP1 hsz
    intro T8 hT8 X8
    exact k u.1 u.2.1 u.2.2.1 u.2.2.2 H1 locs1 hp ⟨hP1, hD1.weaken (fun _ q _ h => hFc q.1 h), hS, va_K.moved hvm.symm hK1⟩ T8 hT8 (jx_low X8 (by rw [hT8, hsz, hz]))
theorem jx_Sv {post : jP} (F : CallFix p m c cc nL s args Ts own) (hZ : hk_YY t3 A s) (hw : hk_W D (jT cI cJ) A s H locs ws) (hA : ∀ q, s.heap.size ≤ q → A q)
    (hM : JMv l y wy rm t3 D wf cI cJ ad As ws H.size mc ms post px) (cw : CallB R s args own index y bytes maxL ret wy rm mc ms n ∧ (Cond.static y).before args s = true) (hn : As.length = n) (hl : ls.size = nL) (hst : st0 = As.reverse ++ rest) (hro : (rest.map fun v => v.category).sum ≤ 8) (hd : decode cc pc = .ok (.invokestatic index, 3)) (hf : mc ≤ R.cells ∧ ms ≤ R.slots)
    (kx : ∀ (g' : Nat → Int32) (lg' : Nat → Int64) (ar' : Nat → Nat → Int32) (bk' : Nat → Int64) (H1 : Heap) (locs1 : List Loc) (ce : Cell) (q : Addr), px g' lg' ar' bk' → hk_W D (jT cI cJ) A s H1 locs1 (wf cI cJ ad g' lg' ar' bk') → H1[q]? = some ce → ce.vm = .none → s.vm.findClass jISE = some ce.cls → vx_W p l e R s m args below meth c H1 locs1 mc ms Q (F0 m pc ls rest) q)
    (k : ∀ (g' : Nat → Int32) (lg' : Nat → Int64) (ar' : Nat → Nat → Int32) (bk' : Nat → Int64) (H1 : Heap) (locs1 : List Loc), post g' lg' ar' bk' → hk_W D (jT cI cJ) A s H1 locs1 (wf cI cJ ad g' lg' ar' bk') → W p l e R s m args below meth c H1 locs1 0 0 Q (F0 m (pc + 3) ls (rest))) : W p l e R s m args below meth c H locs 0 0 Q (F0 m pc ls st0) := by
  intro T9 hT9 X9
  have hz := jx_size0 X9
  rw [hT9] at hz
  obtain ⟨hf1, hf2⟩ := hf
  unfold JMv at hM
  have hFc := hk_free hw hA
  refine vx_callv (vx_runS (As := As) (rest := rest) F hM cw ⟨hk_blindY _ _, hk_preY hZ hw hA _⟩ rfl hn hl hst (lv_room hro) hd ⟨by omega, by omega⟩) hw.2.2.1 (fun q _ h => hFc q h) hFc (fun q _ h => hFc q h) (fun E ce q9 u t H1 locs1 ht hvm hp hB hz1 hk1 hS hce hcv hcl => ?_) (fun u t H1 locs1 ht hvm hp hB hz1 hk1 hS => ?_) T9 hT9 X9
  · obtain ⟨rfl, hP1, hK1, hD1⟩ := hB
    rw [ht] at hP1
    rw [Nat.zero_add, Nat.zero_add]
    exact kx u.1 u.2.1 u.2.2.1 u.2.2.2 H1 locs1 ce q9 hp ⟨hP1, hD1.weaken (fun _ q _ h => hFc q.1 h), hS, va_K.moved hvm.symm hK1⟩ hce hcv hcl
  · obtain ⟨⟨hP1, hK1, hD1⟩, hsz⟩ := hB
    rw [ht] at hP1 hsz
    intro T8 hT8 X8
    exact k u.1 u.2.1 u.2.2.1 u.2.2.2 H1 locs1 hp ⟨hP1, hD1.weaken (fun _ q _ h => hFc q.1 h), hS, va_K.moved hvm.symm hK1⟩ T8 hT8 (jx_low X8 (by rw [hT8, hsz, hz]))
end JC
section JP
variable {p : Program} {l : Launch} {e : Env} {R : Room} {s : State} {m : MethodId} {args : Array Value} {below : List Frame} {meth : Method} {c : Code} {H : Heap} {locs : List Loc} {cells slots : Nat} {Q : State → Prop}
variable {cc : ByteArray} {pc : Nat} {ls : Array Slot} {rest : List Value} {D : va_G} {A : Nat → Prop} {a : Nat} {tys : List (ClassId × FieldType)} {ws : va_W} (wf : jWf) {cI cJ : ClassId} {ad : Nat → Nat} {g : Nat → Int32} {lg : Nat → Int64} {ar : Nat → Nat → Int32} {bk : Nat → Int64}
theorem jx_putg (j : Nat) {x : Int32} (hx : p.tables.exec = Jvm.exec) (hb : c.code = cc) {own C : String} {T : u_T} {N ci index : Nat} {Ts : List Cond} (hts : ∀ w ∈ Ts, w.before args s = true) (hin : ∀ w ∈ u_ws C T N, w ∈ Ts) (ty0 : Nat → FieldType) (hty : ∀ k, k < N → parseFieldDescriptor (T k).2.2.1 = some (ty0 k)) (hnm : ∀ a, a < N → ∀ b, b < N → a ≠ b → (T a).2.1 ≠ (T b).2.1) (hown : s.vm.findClass own = some m.cls) (hw : hk_W D tys A s H locs ws) (q0 : Nat) {fs : List Value} (he : ws[q0]? = some (a, .inr (ci, fs))) (hc : vwCl[ci]? = some (C, T, N)) (k : Nat) (hk : k < N) (hlink : (Cond.fieldLink own index (T k).1 (T k).2.1 (T k).2.2.1).before args s = true) (hfin : (T k).2.2.2 = false) {ty : FieldType} (hd : parseFieldDescriptor (T k).2.2.1 = some ty) (hn : narrow ty (.int x) = .int x) (hfit : fits ty (.int x) = true) (hl : k < fs.length)
    (hdg : decode cc pc = .ok (.putfield index, 3)) (he' : ws.set q0 (a, .inr (ci, fs.set k (.int x))) = wf cI cJ ad (upd g j x) lg ar bk) (kk : ∀ (H1 : Heap) (locs1 : List Loc) (g1 : Nat → Int32), g1 = upd g j x → hk_W D tys A s H1 locs1 (wf cI cJ ad g1 lg ar bk) → W p l e R s m args below meth c H1 locs1 cells slots Q (F0 m (pc + 3) ls rest)) : W p l e R s m args below meth c H locs cells slots Q (F0 m pc ls (.int x :: .ref a :: rest)) :=
  hk_put hx hb hts hin ty0 hty hnm hown hw q0 he hc k hk hlink hfin hd hn hfit hl hdg he' (fun H1 locs1 h1 => kk H1 locs1 _ rfl h1)
theorem jx_putl (j : Nat) {x : Int64} (hx : p.tables.exec = Jvm.exec) (hb : c.code = cc) {own C : String} {T : u_T} {N ci index : Nat} {Ts : List Cond} (hts : ∀ w ∈ Ts, w.before args s = true) (hin : ∀ w ∈ u_ws C T N, w ∈ Ts) (ty0 : Nat → FieldType) (hty : ∀ k, k < N → parseFieldDescriptor (T k).2.2.1 = some (ty0 k)) (hnm : ∀ a, a < N → ∀ b, b < N → a ≠ b → (T a).2.1 ≠ (T b).2.1) (hown : s.vm.findClass own = some m.cls) (hw : hk_W D tys A s H locs ws) (q0 : Nat) {fs : List Value} (he : ws[q0]? = some (a, .inr (ci, fs))) (hc : vwCl[ci]? = some (C, T, N)) (k : Nat) (hk : k < N) (hlink : (Cond.fieldLink own index (T k).1 (T k).2.1 (T k).2.2.1).before args s = true) (hfin : (T k).2.2.2 = false) {ty : FieldType} (hd : parseFieldDescriptor (T k).2.2.1 = some ty) (hn : narrow ty (.long x) = .long x) (hfit : fits ty (.long x) = true) (hl : k < fs.length)
    (hdg : decode cc pc = .ok (.putfield index, 3)) (he' : ws.set q0 (a, .inr (ci, fs.set k (.long x))) = wf cI cJ ad g (vp_updL lg j x) ar bk) (kk : ∀ (H1 : Heap) (locs1 : List Loc) (g1 : Nat → Int64), g1 = vp_updL lg j x → hk_W D tys A s H1 locs1 (wf cI cJ ad g g1 ar bk) → W p l e R s m args below meth c H1 locs1 cells slots Q (F0 m (pc + 3) ls rest)) : W p l e R s m args below meth c H locs cells slots Q (F0 m pc ls (.long x :: .ref a :: rest)) :=
  hk_put hx hb hts hin ty0 hty hnm hown hw q0 he hc k hk hlink hfin hd hn hfit hl hdg he' (fun H1 locs1 h1 => kk H1 locs1 _ rfl h1)
theorem jx_iast (j : Nat) (hx : p.tables.exec = Jvm.exec) (hb : c.code = cc) (hw : hk_W D tys A s H locs ws) (q0 t0 : Nat) {cA : ClassId} {n : Nat} {f : Nat → Int32} (ha : ws[q0]? = some (a, .inl (cA, n, .inl f))) (ht : tys[t0]? = some (cA, .int)) {i : Int32} {x : Int32} (hin : vp_in i n) (hdg : decode cc pc = .ok (.iastore, 1)) (he' : ws.set q0 (a, .inl (cA, n, .inl (upd f i.toNatClampNeg x))) = wf cI cJ ad g lg (va_up ar j (upd (ar j) i.toNatClampNeg x)) bk)
    (kk : ∀ (H1 : Heap) (locs1 : List Loc) (a1 : Nat → Nat → Int32), a1 = va_up ar j (upd (ar j) i.toNatClampNeg x) → hk_W D tys A s H1 locs1 (wf cI cJ ad g lg a1 bk) → W p l e R s m args below meth c H1 locs1 cells slots Q (F0 m (pc + 1) ls rest)) : W p l e R s m args below meth c H locs cells slots Q (F0 m pc ls (.int x :: .int i :: .ref a :: rest)) :=
  hk_iast hx hb hw q0 t0 ha ht hin hdg he' (fun H1 locs1 h1 => kk H1 locs1 _ rfl h1)
theorem jx_last (hx : p.tables.exec = Jvm.exec) (hb : c.code = cc) (hw : hk_W D tys A s H locs ws) (q0 t0 : Nat) {cA : ClassId} {n : Nat} {f : Nat → Int64} (ha : ws[q0]? = some (a, .inl (cA, n, .inr (.inl f)))) (ht : tys[t0]? = some (cA, .long)) {i : Int32} {x : Int64} (hin : vp_in i n) (hdg : decode cc pc = .ok (.lastore, 1)) (he' : ws.set q0 (a, .inl (cA, n, .inr (.inl (vp_updL f i.toNatClampNeg x)))) = wf cI cJ ad g lg ar (vp_updL bk i.toNatClampNeg x))
    (kk : ∀ (H1 : Heap) (locs1 : List Loc) (b1 : Nat → Int64), b1 = vp_updL bk i.toNatClampNeg x → hk_W D tys A s H1 locs1 (wf cI cJ ad g lg ar b1) → W p l e R s m args below meth c H1 locs1 cells slots Q (F0 m (pc + 1) ls rest)) : W p l e R s m args below meth c H locs cells slots Q (F0 m pc ls (.long x :: .int i :: .ref a :: rest)) :=
  hk_last hx hb hw q0 t0 ha ht hin hdg he' (fun H1 locs1 h1 => kk H1 locs1 _ rfl h1)
theorem jx_iald (hx : p.tables.exec = Jvm.exec) (hb : c.code = cc) (hw : hk_W D tys A s H locs ws) (q0 t0 : Nat) {cA : ClassId} {n : Nat} {f : Nat → Int32} (ha : ws[q0]? = some (a, .inl (cA, n, .inl f))) (ht : tys[t0]? = some (cA, .int)) {i : Int32} (hin : vp_in i n) (hdg : decode cc pc = .ok (.iaload, 1))
    (kk : ∀ v : Int32, f i.toNatClampNeg = v → W p l e R s m args below meth c H locs cells slots Q (F0 m (pc + 1) ls (.int v :: rest))) : W p l e R s m args below meth c H locs cells slots Q (F0 m pc ls (.int i :: .ref a :: rest)) :=
  hk_iald hx hb hw q0 t0 ha ht hin hdg rfl (kk _ rfl)
theorem jx_lald (hx : p.tables.exec = Jvm.exec) (hb : c.code = cc) (hw : hk_W D tys A s H locs ws) (q0 t0 : Nat) {cA : ClassId} {n : Nat} {f : Nat → Int64} (ha : ws[q0]? = some (a, .inl (cA, n, .inr (.inl f)))) (ht : tys[t0]? = some (cA, .long)) {i : Int32} (hin : vp_in i n) (hdg : decode cc pc = .ok (.laload, 1))
    (kk : ∀ v : Int64, f i.toNatClampNeg = v → W p l e R s m args below meth c H locs cells slots Q (F0 m (pc + 1) ls (.long v :: rest))) : W p l e R s m args below meth c H locs cells slots Q (F0 m pc ls (.int i :: .ref a :: rest)) :=
  va_lald hx hb hw.2.2.2 hw.1 q0 t0 ha ht hin hdg (kk _ rfl)
theorem jx_ti (hx : p.tables.exec = Jvm.exec) (hb : c.code = cc) {C n : String} {t N : Nat} {f : Nat → Int32} (hT : hk_TB C n t N f A s) (hw : hk_W D tys A s H locs ws) {i : Int32} (hin : vp_in i N) (hdg : decode cc pc = .ok (.iaload, 1))
    (kk : ∀ v : Int32, f i.toNatClampNeg = v → W p l e R s m args below meth c H locs cells slots Q (F0 m (pc + 1) ls (.int v :: rest))) : W p l e R s m args below meth c H locs cells slots Q (F0 m pc ls (.int i :: .ref t :: rest)) :=
  hk_ti hx hb hT hw hin rfl hdg (kk _ rfl)
end JP
/-! frames -/
def hk_fr {α : Type} (F : List Nat) (f f' : Nat → α) : Prop := ∀ k, F.contains k = false → f' k = f k
theorem hk_fr0 {α : Type} {F : List Nat} {f : Nat → α} : hk_fr F f f := fun _ _ => rfl
theorem hk_frG {F : List Nat} {f f1 f2 : Nat → Int32} {j : Nat} {x : Int32} (h : hk_fr F f f1) (hj : F.contains j = true) (he : f2 = upd f1 j x) : hk_fr F f f2 := fun k hk => by
  subst he
  have : k ≠ j := fun e => by rw [e, hj] at hk; cases hk
  simp only [upd, if_neg this]
  exact h k hk
theorem hk_frL {F : List Nat} {f f1 f2 : Nat → Int64} {j : Nat} {x : Int64} (h : hk_fr F f f1) (hj : F.contains j = true) (he : f2 = vp_updL f1 j x) : hk_fr F f f2 := fun k hk => by
  subst he
  have : k ≠ j := fun e => by rw [e, hj] at hk; cases hk
  simp only [vp_updL, if_neg this]
  exact h k hk
theorem hk_frA {F : List Nat} {f f1 f2 : Nat → Nat → Int32} {j : Nat} {x : Nat → Int32} (h : hk_fr F f f1) (hj : F.contains j = true) (he : f2 = va_up f1 j x) : hk_fr F f f2 := fun k hk => by
  subst he
  have : k ≠ j := fun e => by rw [e, hj] at hk; cases hk
  simp only [va_up, if_neg this]
  exact h k hk
theorem hk_frT {α : Type} {F F' : List Nat} {f f1 f2 : Nat → α} (h : hk_fr F f f1) (hs : F'.all (fun j => F.contains j) = true) (h' : hk_fr F' f1 f2) : hk_fr F f f2 := fun k hk => by
  refine (h' k ?_).trans (h k hk)
  cases hc : F'.contains k with
  | false => rfl
  | true =>
    have h1 := List.all_eq_true.mp hs k (by simpa using hc)
    rw [h1] at hk
    cases hk
/-- every entry of a table lies within bounds -/
def hk_rg (lo hi : Int) (f : Nat → Int32) : Prop := ∀ k, lo ≤ (f k).toInt ∧ (f k).toInt ≤ hi
theorem hk_rgE {lo hi : Int} {f f' : Nat → Int32} (h : hk_rg lo hi f) (he : f' = f) : hk_rg lo hi f' := he ▸ h
theorem hk_rgV {lo hi : Int} {f : Nat → Int32} {i : Nat} {z : Int32} (h : hk_rg lo hi f) (hz : f i = z) : lo ≤ z.toInt ∧ z.toInt ≤ hi := hz ▸ h i
theorem hk_rgU {lo hi : Int} {f : Nat → Int32} {i : Nat} {x : Int32} (h : hk_rg lo hi f) (hx : lo ≤ x.toInt ∧ x.toInt ≤ hi) : hk_rg lo hi (upd f i x) := fun k => by
  unfold upd
  split
  · exact hx
  · exact h k
theorem hk_rgS {lo hi : Int} {a a1 : Nat → Nat → Int32} {j i : Nat} {x : Int32} (he : a1 = va_up a j (upd (a j) i x)) (h : hk_rg lo hi (a j)) (hx : lo ≤ x.toInt ∧ x.toInt ≤ hi) : hk_rg lo hi (a1 j) := by
  subst he
  have : va_up a j (upd (a j) i x) j = upd (a j) i x := by simp [va_up]
  rw [this]
  exact hk_rgU h hx
/-! what a row of ints says of integers -/
theorem hE_rng (x : Int32) : -2147483648 ≤ x.toInt ∧ x.toInt ≤ 2147483647 := ⟨by have := x.le_toInt; simpa using this, by have := x.toInt_lt; omega⟩
theorem hE_rngL (x : Int64) : -9223372036854775808 ≤ x.toInt ∧ x.toInt ≤ 9223372036854775807 := ⟨by have := x.le_toInt; simpa using this, by have := x.toInt_lt; omega⟩
theorem hE_bm (k : Int) : k.bmod (2 ^ 32) = (k + 2147483648) % 4294967296 - 2147483648 := by
  rw [Int.bmod_def]
  simp only [show ((2 ^ 32 : Nat) : Int) = 4294967296 from rfl, show ((4294967296 : Int) + 1) / 2 = 2147483648 from rfl]
  split <;> omega
theorem hE_bmL (k : Int) : k.bmod (2 ^ 64) = (k + 9223372036854775808) % 18446744073709551616 - 9223372036854775808 := by
  rw [Int.bmod_def]
  simp only [show ((2 ^ 64 : Nat) : Int) = 18446744073709551616 from rfl, show ((18446744073709551616 : Int) + 1) / 2 = 9223372036854775808 from rfl]
  split <;> omega
theorem hE_add {x y z : Int32} (h : x + y = z) : z.toInt = (x.toInt + y.toInt + 2147483648) % 4294967296 - 2147483648 := by
  subst h
  rw [Int32.toInt_add, hE_bm]
theorem hE_sub {x y z : Int32} (h : x - y = z) : z.toInt = (x.toInt - y.toInt + 2147483648) % 4294967296 - 2147483648 := by
  subst h
  rw [Int32.toInt_sub, hE_bm]
theorem hE_mul {x y z : Int32} (k : Int) (h : x * y = z) (hk : y.toInt = k) : z.toInt = (x.toInt * k + 2147483648) % 4294967296 - 2147483648 := by
  subst h
  rw [Int32.toInt_mul, hE_bm, hk]
theorem hE_mul' {x y z : Int32} (k : Int) (h : x * y = z) (hk : x.toInt = k) : z.toInt = (y.toInt * k + 2147483648) % 4294967296 - 2147483648 := by
  subst h
  rw [Int32.toInt_mul, hE_bm, hk, Int.mul_comm]
theorem hE_addL {x y z : Int64} (h : x + y = z) : z.toInt = (x.toInt + y.toInt + 9223372036854775808) % 18446744073709551616 - 9223372036854775808 := by
  subst h
  rw [Int64.toInt_add, hE_bmL]
theorem hE_subL {x y z : Int64} (h : x - y = z) : z.toInt = (x.toInt - y.toInt + 9223372036854775808) % 18446744073709551616 - 9223372036854775808 := by
  subst h
  rw [Int64.toInt_sub, hE_bmL]
theorem hE_lt {x y : Int32} (h : x < y) : x.toInt < y.toInt := Int32.lt_iff_toInt_lt.mp h
theorem hE_le {x y : Int32} (h : x ≤ y) : x.toInt ≤ y.toInt := Int32.le_iff_toInt_le.mp h
theorem hE_nlt {x y : Int32} (h : ¬ x < y) : y.toInt ≤ x.toInt := by
  rw [Int32.lt_iff_toInt_lt] at h; omega
theorem hE_nle {x y : Int32} (h : ¬ x ≤ y) : y.toInt < x.toInt := by
  rw [Int32.le_iff_toInt_le] at h; omega
theorem hE_eq {x y : Int32} (h : x = y) : x.toInt = y.toInt := congrArg _ h
theorem hE_ne {x y : Int32} (h : ¬ x = y) : x.toInt ≠ y.toInt := fun q => h (Int32.toInt_inj.mp q)
theorem hE_ltL {x y : Int64} (h : x < y) : x.toInt < y.toInt := Int64.lt_iff_toInt_lt.mp h
theorem hE_leL {x y : Int64} (h : x ≤ y) : x.toInt ≤ y.toInt := Int64.le_iff_toInt_le.mp h
theorem hE_nltL {x y : Int64} (h : ¬ x < y) : y.toInt ≤ x.toInt := by
  rw [Int64.lt_iff_toInt_lt] at h; omega
theorem hE_nleL {x y : Int64} (h : ¬ x ≤ y) : y.toInt < x.toInt := by
  rw [Int64.le_iff_toInt_le] at h; omega
theorem hE_eqL {x y : Int64} (h : x = y) : x.toInt = y.toInt := congrArg _ h
theorem hE_neL {x y : Int64} (h : ¬ x = y) : x.toInt ≠ y.toInt := fun q => h (Int64.toInt_inj.mp q)
theorem hE_i2l {x : Int32} {z : Int64} (h : x.toInt64 = z) : z.toInt = x.toInt := by
  subst h
  exact Int32.toInt_toInt64 x
theorem hE_l2i {x : Int64} {z : Int32} (h : x.toInt32 = z) : z.toInt = (x.toInt + 2147483648) % 4294967296 - 2147483648 := by
  subst h
  rw [Int64.toInt_toInt32, hE_bm]
theorem hE_in {i : Int32} {n : Nat} (h : 0 ≤ i.toInt ∧ i.toInt < (n : Int)) : vp_in i n := by
  rw [vp_in_iff]; omega
theorem hE_bool {r : Int32} (h : 0 ≤ r.toInt ∧ r.toInt ≤ 1) : narrow .boolean (.int r) = .int r := by
  have : r = 0 ∨ r = 1 := by
    have h0 : (0 : Int32).toInt = 0 := by decide
    have h1 : (1 : Int32).toInt = 1 := by decide
    by_cases q : r.toInt = 0
    · exact Or.inl (Int32.toInt_inj.mp (q.trans h0.symm))
    · exact Or.inr (Int32.toInt_inj.mp (by rw [h1]; omega))
  rcases this with rfl | rfl <;> rfl
