/-! Throwing in my frame: a contract that ends by a throw (hk_XC), one that catches it (the only row of its table). -/
def hk_BX (D : va_G) (tys : List (ClassId × FieldType)) (sz : Nat) (ws : va_W) (U : State) : Prop :=
  hk_B D tys sz ws U ∧ vx_Zq Bundle.tN "UNASSIGNED_STACK" Bundle.steD (va_A ws sz) U U.heap ∧ vx_Zq Bundle.tN "SUPPRESSED_SENTINEL" Bundle.listD (va_A ws sz) U U.heap
def hk_ZZ (A : Nat → Prop) (s : State) : Prop := vx_Zq Bundle.tN "UNASSIGNED_STACK" Bundle.steD A s s.heap ∧ vx_Zq Bundle.tN "SUPPRESSED_SENTINEL" Bundle.listD A s s.heap
abbrev hk_XC (En : String) {S : Type} (px : S → Prop) (w' : S → va_W) (D : va_G) (tys : List (ClassId × FieldType)) (A : Nat → Prop) : String → State → State → Prop := vx_X px (fun E u t => E = En ∧ hk_E D tys A (w' u) t) A
abbrev hk_NoV (A : Nat → Prop) : Array Value → State → Outcome → State → Prop := va_Qv (fun _ : Unit => False) (fun _ _ => True) A
abbrev hk_NoI (A : Nat → Prop) : Array Value → State → Outcome → State → Prop := va_Qi (fun (_ : Int32) (_ : Unit) => False) (fun _ _ => True) A
abbrev hk_NoL (A : Nat → Prop) : Array Value → State → Outcome → State → Prop := va_Ql (fun (_ : Int64) (_ : Unit) => False) (fun _ _ => True) A
theorem hk_xmet {l : Launch} {y : MethodName} {wy wy' : List Cond} {rm : Room} {av : List Value} {D : va_G} {tys : List (ClassId × FieldType)} {sz : Nat} {ws : va_W} {Qc : Array Value → State → Outcome → State → Prop} {XC : String → State → State → Prop} {mc ms : Nat} {cc : ByteArray} {maxL : Nat} {ret : Option FieldType}
    (hy : plainName y.cls = true) (hw : wy = Cond.code y cc maxL ret :: wy') (hn : (lg_sl av).length ≤ maxL)
    (body : ∀ (p : Program) (e : Env) (s : State) (m : MethodId) (below : List Frame) (meth : Method) (c : Code) (ls : Array Slot), p.tables.exec = Jvm.exec → c.code = cc → meth.sig.returnType = ret → c.maxLocals = maxL → s.vm.findClass y.cls = some m.cls → (∀ w ∈ wy, w.before av.toArray s = true) → meth.locks = false → meth.name = y.name → (∀ q, s.heap.size ≤ q → va_A ws sz q) → (∀ x ∈ c.exceptionTable.toList, False) → hk_ZZ (va_A ws sz) s → hk_W D tys (va_A ws sz) s s.heap [] ws → lv_has ls maxL (lv_args 0 av) →
      W p l e rm s m av.toArray below meth c s.heap [] 0 0 (vx_MQ below Qc XC av.toArray s mc ms (va_A ws sz)) (F0 m 0 ls [])) :
    vx_Met l y wy rm (va_Pc av (hk_BX D tys sz ws)) Qc XC mc ms (va_A ws sz) := by
  refine vx_ofW (cc := cc) (maxL := maxL) (ret := ret) hy hw ?_
  intro p e s m args below meth c s₁ B hml hno hv
  obtain ⟨rfl, ⟨hsz, hP, hK, hD0⟩, hz1, hz2⟩ := hv
  subst hsz
  have hts := atoms_spec (ws := wy) B.pre
  have hl := lv_entry av (n := maxL) hn
  rw [lg_entry_eq]
  generalize (lg_sl av ++ List.replicate (maxL - (lg_sl av).length) Slot.unset).toArray = ls at hl ⊢
  exact body p e s m below meth c ls B.exec B.bytes B.returns hml (findClass_of_methodNamed B.named) hts B.notSynchronized (name_of_methodNamed B.named B.method).1 (fun q h => Or.inr h) hno ⟨hz1, hz2⟩ ⟨hP, hD0.self, va_S.rf, hK⟩ hl
theorem hk_tmet {l : Launch} {y : MethodName} {wy wy' : List Cond} {rm : Room} {av : List Value} {D : va_G} {tys : List (ClassId × FieldType)} {sz : Nat} {ws : va_W} {Qc : Array Value → State → Outcome → State → Prop} {mc ms : Nat} {cc : ByteArray} {maxL : Nat} {ret : Option FieldType} {hh : List (Nat × Nat × Nat × Nat)}
    (hy : plainName y.cls = true) (hw : wy = Cond.codeWith y cc maxL ret hh :: wy') (hn : (lg_sl av).length ≤ maxL)
    (body : ∀ (p : Program) (e : Env) (s : State) (m : MethodId) (below : List Frame) (meth : Method) (c : Code) (ls : Array Slot), p.tables.exec = Jvm.exec → c.code = cc → meth.sig.returnType = ret → c.maxLocals = maxL → s.vm.findClass y.cls = some m.cls → (∀ w ∈ wy, w.before av.toArray s = true) → meth.locks = false → meth.name = y.name → (∀ q, s.heap.size ≤ q → va_A ws sz q) → c.exceptionTable.toList = tableOf hh → hk_ZZ (va_A ws sz) s → hk_W D tys (va_A ws sz) s s.heap [] ws → lv_has ls maxL (lv_args 0 av) →
      W p l e rm s m av.toArray below meth c s.heap [] 0 0 (MQ below Qc av.toArray s mc ms (va_A ws sz)) (F0 m 0 ls [])) :
    Met l y wy rm (va_Pc av (hk_BX D tys sz ws)) Qc mc ms (va_A ws sz) := by
  refine va_MetW (cc := cc) (maxL := maxL) (ret := ret) (hh := hh) hy hw ?_
  intro p e s m args below meth c s₁ B hml hv
  obtain ⟨rfl, ⟨hsz, hP, hK, hD0⟩, hz1, hz2⟩ := hv
  subst hsz
  have hts := atoms_spec (ws := wy) B.pre
  have htb := vx_table (x := y) B (hts _ (by rw [hw]; exact List.mem_cons_self))
  have hl := lv_entry av (n := maxL) hn
  rw [lg_entry_eq]
  generalize (lg_sl av ++ List.replicate (maxL - (lg_sl av).length) Slot.unset).toArray = ls at hl ⊢
  exact body p e s m below meth c ls B.exec B.bytes B.returns hml (findClass_of_methodNamed B.named) hts B.notSynchronized (name_of_methodNamed B.named B.method).1 (fun q h => Or.inr h) htb ⟨hz1, hz2⟩ ⟨hP, hD0.self, va_S.rf, hK⟩ hl
section HKX
variable {p : Program} {l : Launch} {e : Env} {R : Room} {s : State} {m : MethodId} {args : Array Value} {below : List Frame} {meth : Method} {c : Code} {H : Heap} {locs : List Loc} {cells slots : Nat} {Q : State → Prop}
variable {cc : ByteArray} {pc : Nat} {ls : Array Slot} {rest : List Value} {D : va_G} {A : Nat → Prop} {tys : List (ClassId × FieldType)} {ws : va_W}
/-- 'throw new E()' at the end of a walk -/
theorem hk_throw {S : Type} {px : S → Prop} {w' : S → va_W} {w0 : va_W} {sz mc ms : Nat} {u : S} {Qc : Array Value → State → Outcome → State → Prop} {own cls : String} {names : List String} {ik ic : Nat} (hx : p.tables.exec = Jvm.exec) (hb : c.code = cc) (hlt : l.stackTraces = false) (hown : s.vm.findClass own = some m.cls) (hcls : Bundle.fit cls = true) (hnames : ∀ n ∈ names, Bundle.fit n = true)
    (hk : (Cond.classLink own ik cls).before args s = true) (hini : (Cond.initialized cls).before args s = true) (hat : ∀ w ∈ vx_at0 own ic cls names, w.before args s = true)
    (hgood : ∀ w ∈ Cond.classLink own ik cls :: Cond.initialized cls :: vx_at0 own ic cls names, vx_ot w = true)
    (hZ : hk_ZZ (va_A w0 sz) s) (hw : hk_W D tys (va_A w0 sz) s H locs (w' u)) (hp : px u) (hno : ∀ x ∈ c.exceptionTable.toList, False) (hsize : ls.size = c.maxLocals)
    (d0 : decode cc pc = .ok (.new ik, 3)) (d3 : decode cc (pc + 3) = .ok (.dup, 1)) (d4 : decode cc (pc + 4) = .ok (.invokespecial ic, 3)) (d7 : decode cc (pc + 7) = .ok (.athrow, 1))
    (hRf : names.length + 3 < R.frames) (hRl : (rest.map fun v => v.category).sum + (13 * (names.length + 1) + 42) ≤ R.locals) (hRc : cells + 1 ≤ R.cells) (hRs : slots + 6 ≤ R.slots) (hlocks : meth.locks = false) (hc : cells + 1 ≤ mc) (hs : slots + 6 ≤ ms) :
    W p l e R s m args below meth c H locs cells slots (vx_MQ below Qc (hk_XC cls px w' D tys (va_A w0 sz)) args s mc ms (va_A w0 sz)) (F0 m pc ls rest) := by
  refine vx_throw0 (A := va_A w0 sz) hx hb hlt hown hcls hnames hk hini hat hgood hZ.1 hZ.2 hw.2.2.1 hsize d0 d3 d4 d7 (fun x h => (hno x h).elim) hRf hRl hRc hRs hlocks (fun t hvm hz hkp => ?_) hw.2.2.1.2.2 hc hs
  refine ⟨u, hp, ⟨rfl, hw.1.kept (fun k q hq => hkp q.1 (hw.1 k q hq).lt), va_K.moved hvm hw.2.2.2, hw.2.1⟩, Nat.le_trans hw.2.2.1.1 hz, fun q h1 h2 => ?_⟩
  rw [hkp q (Nat.lt_of_lt_of_le h1 hw.2.2.1.1)]
  exact hw.2.2.1.2.1 q h1 h2
/-- it goes on to the caller -/
theorem hk_xout {S : Type} {px : S → Prop} {w' : S → va_W} {w0 : va_W} {sz mc ms : Nat} {u : S} {Qc : Array Value → State → Outcome → State → Prop} {En : String} {ce : Cell} {q : Addr} (hno : ∀ x ∈ c.exceptionTable.toList, False) (hlocks : meth.locks = false) (hw : hk_W D tys (va_A w0 sz) s H locs (w' u)) (hp : px u) (hcell : H[q]? = some ce) (hv : ce.vm = .none) (hcl : s.vm.findClass En = some ce.cls) (hc : cells ≤ mc) (hs : slots ≤ ms) :
    vx_W p l e R s m args below meth c H locs cells slots (vx_MQ below Qc (hk_XC En px w' D tys (va_A w0 sz)) args s mc ms (va_A w0 sz)) (F0 m pc ls rest) q := by
  refine vx_out (fun x h => (hno x h).elim) hlocks hcell hv hcl (fun t ht hvm => ?_) hw.2.2.1.2.2 hc hs
  exact ⟨u, hp, ⟨rfl, by rw [ht]; exact hw.1, va_K.moved hvm hw.2.2.2, hw.2.1⟩, hw.2.2.1.F ht⟩
theorem hk_zz {n : Nat} (hZ : hk_ZZ A s) (hw : hk_W D tys A s H locs ws) (hA : ∀ q, s.heap.size ≤ q → A q) (hn : n = H.size) : ∀ U : State, U.heap = H → s.WarmedH U.vm → vx_Zq Bundle.tN "UNASSIGNED_STACK" Bundle.steD (va_A ws n) U U.heap ∧ vx_Zq Bundle.tN "SUPPRESSED_SENTINEL" Bundle.listD (va_A ws n) U U.heap := by
  subst hn
  intro U hU hW
  have h1 := ((hZ.1.kept (H1 := H) hw.2.2.1.2.1).narrow (hk_free hw hA)).moved hW.alike
  have h2 := ((hZ.2.kept (H1 := H) hw.2.2.1.2.1).narrow (hk_free hw hA)).moved hW.alike
  rw [hU]
  exact ⟨h1, h2⟩
theorem hk_blindX (av : List Value) (n : Nat) : FrameBlind (va_Pc av (hk_BX D tys n ws)) := fun a U g mk q => by
  obtain ⟨q0, q1, z1, z2⟩ := q
  exact ⟨q0, (hk_blind av n a U g mk ⟨q0, q1⟩).2, vx_Zq.moved (u := U) (U := U.calling g mk a) (Vm.Alike.refl U.vm) z1, vx_Zq.moved (u := U) (U := U.calling g mk a) (Vm.Alike.refl U.vm) z2⟩
theorem hk_preX (hZ : hk_ZZ A s) (hw : hk_W D tys A s H locs ws) (hA : ∀ q, s.heap.size ≤ q → A q) (av : List Value) : ∀ U : State, U.heap = H → s.WarmedH U.vm → va_Pc av (hk_BX D tys H.size ws) av.toArray U := fun U hU hW => ⟨rfl, (hk_pre hw av U hU hW).2, hk_zz hZ hw hA rfl U hU hW⟩
variable {y : MethodName} {bytes : ByteArray} {maxL nL mc ms n index : Nat} {ret : Option FieldType} {wy : List Cond} {rm : Room} {Ts : List Cond} {own C : String} {b : Addr} {As st0 : List Value}
/-- a call that ends by a throw: void, int -/
theorem hk_Xv {S : Type} {px : S → Prop} {w' : S → va_W} {En : String} {T : u_T} {N ci : Nat} {fs : List Value} (F : CallFix p m c cc nL s args Ts own) (hZ : hk_ZZ A s) (hw : hk_W D tys A s H locs ws) (hA : ∀ q, s.heap.size ≤ q → A q)
    (hM : vx_Met l y wy rm (va_Pc (.ref b :: As) (hk_BX D tys H.size ws)) (hk_NoV (va_A ws H.size)) (hk_XC En px w' D tys (va_A ws H.size)) mc ms (va_A ws H.size))
    (cw : CallW R s args own C index y bytes maxL ret wy rm mc ms n) (q0 : Nat) (he : ws[q0]? = some (b, .inr (ci, fs))) (hc : vwCl[ci]? = some (C, T, N)) (hn : As.length = n) (hl : ls.size = nL) (hst : st0 = As.reverse ++ .ref b :: rest) (hro : (rest.map fun v => v.category).sum ≤ 8) (hd : decode cc pc = .ok (.invokevirtual index, 3)) (hf : cells + mc ≤ R.cells ∧ slots + ms ≤ R.slots)
    (kx : ∀ (ce : Cell) (q9 : Addr) (u : S) (H1 : Heap) (locs1 : List Loc), px u → hk_W D tys A s H1 locs1 (w' u) → H1[q9]? = some ce → ce.vm = .none → s.vm.findClass En = some ce.cls → vx_W p l e R s m args below meth c H1 locs1 (cells + mc) (slots + ms) Q (F0 m pc ls rest) q9) : W p l e R s m args below meth c H locs cells slots Q (F0 m pc ls st0) := by
  have hFc := hk_free hw hA
  refine vx_callv (vx_runV (As := As) (rest := rest) F hM cw ⟨hk_blindX _ _, va_recv hw.2.2.2 hw.1 hc he, hk_preX hZ hw hA _⟩ rfl hn hl hst (lv_room hro) hd hf) hw.2.2.1 (fun q _ h => hFc q h) hFc (fun q _ h => hFc q h) (fun E ce q9 u t H1 locs1 ht hvm hp hB hz1 hk1 hS hce hcv hcl => ?_) (fun u t H1 locs ht hvm hp hB hz1 hk1 hS => hp.elim)
  obtain ⟨rfl, hP1, hK1, hD1⟩ := hB
  rw [ht] at hP1
  exact kx ce q9 u H1 locs1 hp ⟨hP1, hD1.weaken (fun _ q _ h => hFc q.1 h), hS, va_K.moved hvm.symm hK1⟩ hce hcv hcl
theorem hk_Xi {S : Type} {px : S → Prop} {w' : S → va_W} {En : String} {T : u_T} {N ci : Nat} {fs : List Value} (F : CallFix p m c cc nL s args Ts own) (hZ : hk_ZZ A s) (hw : hk_W D tys A s H locs ws) (hA : ∀ q, s.heap.size ≤ q → A q)
    (hM : vx_Met l y wy rm (va_Pc (.ref b :: As) (hk_BX D tys H.size ws)) (hk_NoI (va_A ws H.size)) (hk_XC En px w' D tys (va_A ws H.size)) mc ms (va_A ws H.size))
    (cw : CallW R s args own C index y bytes maxL ret wy rm mc ms n) (q0 : Nat) (he : ws[q0]? = some (b, .inr (ci, fs))) (hc : vwCl[ci]? = some (C, T, N)) (hn : As.length = n) (hl : ls.size = nL) (hst : st0 = As.reverse ++ .ref b :: rest) (hro : (rest.map fun v => v.category).sum ≤ 8) (hd : decode cc pc = .ok (.invokevirtual index, 3)) (hf : cells + mc ≤ R.cells ∧ slots + ms ≤ R.slots)
    (kx : ∀ (ce : Cell) (q9 : Addr) (u : S) (H1 : Heap) (locs1 : List Loc), px u → hk_W D tys A s H1 locs1 (w' u) → H1[q9]? = some ce → ce.vm = .none → s.vm.findClass En = some ce.cls → vx_W p l e R s m args below meth c H1 locs1 (cells + mc) (slots + ms) Q (F0 m pc ls rest) q9) : W p l e R s m args below meth c H locs cells slots Q (F0 m pc ls st0) := by
  have hFc := hk_free hw hA
  refine vx_calli (vx_runV (As := As) (rest := rest) F hM cw ⟨hk_blindX _ _, va_recv hw.2.2.2 hw.1 hc he, hk_preX hZ hw hA _⟩ rfl hn hl hst (lv_room hro) hd hf) hw.2.2.1 (fun q _ h => hFc q h) hFc (fun q _ h => hFc q h) (fun E ce q9 u t H1 locs1 ht hvm hp hB hz1 hk1 hS hce hcv hcl => ?_) (fun r u t H1 locs ht hvm hp hB hz1 hk1 hS => hp.elim)
  obtain ⟨rfl, hP1, hK1, hD1⟩ := hB
  rw [ht] at hP1
  exact kx ce q9 u H1 locs1 hp ⟨hP1, hD1.weaken (fun _ q _ h => hFc q.1 h), hS, va_K.moved hvm.symm hK1⟩ hce hcv hcl
theorem hk_sff (u : State) (vm' : Vm) (F G : List Frame) : ((u.setFrames F).setVm vm').setFrames G = (u.setVm vm').setFrames G := by
  have h1 : (u.setFrames F).setVm vm' = (u.setVm vm').setFrames F := rfl
  rw [h1, State.setFrames_setFrames]
/-- what the search for a handler finds where the method's table has one row, that covers the place and names a class that takes the object (the entry cold or warm): follows the library's law for the warm entry -/
theorem hk_find {S : State} {f : JFrame} {q : Addr} {x : ExceptionTableEntry} {cT : ClassId} {cell : Cell} {code9 : Code} {meth9 : Method} (hm : S.vm.method? f.method = some meth9) (hc9 : meth9.code = some code9) (ht : code9.exceptionTable.toList = [x]) (hx : covers x f.pc = true) (h0 : x.catchType ≠ 0)
    (hl : S.vm.ClassLinks e.platform f.method.cls x.catchType cT) (hcell : S.heap[q]? = some cell) (hobj : ∀ k, cell.vm ≠ .statics k) (hk : ∃ k, S.vm.classes[cell.cls]? = some k) (hc : ∃ k, S.vm.classes[cT]? = some k) (hfit : S.vm.assignable cell.cls cT = true) (Q9 : Handler → Pre) (E9 : CtlPost) (d : Bool) (acts : List Action) :
    wp (findHandler f q) Q9 E9 e d acts S ↔ Q9 (.found x.handlerPc) d acts (S.setVm (S.vm.noted f.method.cls x.catchType (.cls cT))) := by
  rw [Jvm.W.findHandler_eq hm hc9, ht]
  simp only [covers] at hx
  obtain ⟨ha, hb⟩ := (resolveClass_links e.toSetting hl).op (op := VmOp.resolveClass f.method.cls x.catchType) rfl
  have hal : S.vm.Alike (S.vm.noted f.method.cls x.catchType (.cls cT)) := (Vm.Alike.refl S.vm).noted _ _ _
  obtain ⟨k1, hk1⟩ := hk
  obtain ⟨k2, hk2⟩ := hc
  obtain ⟨k1', hk1', -⟩ := hal.2.2 _ _ hk1
  obtain ⟨k2', hk2', -⟩ := hal.2.2 _ _ hk2
  have hfit' : (S.vm.noted f.method.cls x.catchType (.cls cT)).assignable cell.cls cT = true := by rw [hal.assignable]; exact hfit
  simp [findHandler.go, hx, h0, ha, hb, hcell, hobj, hk1', hk2', hfit', VmOp.dirties, VmOp.acts]
theorem hk_catch {own name E : String} {ce : Cell} {q : Addr} (hown : s.vm.findClass own = some m.cls) (x : ExceptionTableEntry) (ht : c.exceptionTable.toList = [x]) (hx : covers x pc = true) (h0 : x.catchType ≠ 0)
    (hlink : (Cond.classLink own x.catchType name).before args s = true) (hcast : (Cond.castable E name).before args s = true) (hcell : H[q]? = some ce) (hv : ce.vm = .none) (hcl : s.vm.findClass E = some ce.cls)
    (kk : W p l e R s m args below meth c H locs cells slots Q (F0 m x.handlerPc ls [.ref q])) : vx_W p l e R s m args below meth c H locs cells slots Q (F0 m pc ls rest) q := by
  intro T hT X
  have hpl : e.platform.magicAccessors = ({} : Platform).magicAccessors := by rw [X.admits.platform]
  obtain ⟨c3, c4, hc3, hc4, hasg⟩ := Cond.castable_spec hcast
  cases Option.some.inj (hc3.symm.trans hcl)
  obtain ⟨c5, hc5, hcl5⟩ := Cond.classLink_spec hown hlink e.platform hpl
  cases Option.some.inj (hc4.symm.trans hc5)
  obtain ⟨dk, _, _, kt, hd, _, _, _, _, hkt, _, hopen⟩ := hcl5.here
  have hal := X.warmed.alike
  have hl0 := X.warmed.classLinks hcl5
  have hW' : s.WarmedH (T.vm.noted m.cls x.catchType (.cls c4)) := X.warmed.noted hd hopen (State.rightAt_cls hcl5)
  obtain ⟨kt', hkt', -⟩ := hal.2.2 _ _ hkt
  have hfit : T.vm.assignable ce.cls c4 = true := by rw [hal.assignable]; exact hasg
  obtain ⟨t, a1, b1⟩ := kk (T.setVm (T.vm.noted m.cls x.catchType (.cls c4))) hT (X.noted hW')
  refine ⟨t, ?_, b1⟩
  have h : At T (F0 m pc ls rest).method c below := X.here
  obtain ⟨hgo, hwi⟩ := h.throwing q
  refine Steps.head hgo hwi ?_
  rw [stepThread_throwing (frames_entered h.top _)]
  have hf := hk_find (e := e) (S := (T.setTop (F0 m pc ls rest)).pushFrame (.throwing q)) (f := F0 m pc ls rest) (q := q) (x := x) (cT := c4) (cell := ce) (code9 := c) (meth9 := meth) X.method' X.code ht hx h0 hl0 (by show T.heap[q]? = some ce; rw [hT]; exact hcell) (fun k hk => by rw [hv] at hk; cases hk) (Vm.classAt_of_assignable hfit ⟨kt', hkt'⟩) ⟨kt', hkt'⟩ hfit
  have hstep : (stepThrowing e ((T.setTop (F0 m pc ls rest)).pushFrame (.throwing q)) q (.java (F0 m pc ls rest) :: T.frames.tail)).1 = (((T.setTop (F0 m pc ls rest)).pushFrame (.throwing q)).setVm (T.vm.noted m.cls x.catchType (.cls c4))).setFrames (.java { (F0 m pc ls rest) with pc := x.handlerPc, stack := [.ref q] } :: T.frames.tail) := by
    simp only [stepThrowing, searchFrame, vmDo]
    generalize hr : Sem.go _ e false [] _ = res
    obtain ⟨as, rfl, ha⟩ := Sem.eq_ok_of hr (a := Handler.found x.handlerPc) (s' := ((T.setTop (F0 m pc ls rest)).pushFrame (.throwing q)).setVm (T.vm.noted m.cls x.catchType (.cls c4))) (acts' := []) (by simp [hf _ _ _ _]; rfl)
    rfl
  rw [hstep]
  obtain ⟨g₀, hfr⟩ := X.frames_eq
  have hr' : (T.setVm (T.vm.noted m.cls x.catchType (.cls c4))).frames = .java g₀ :: below := hfr
  rw [State.setTop_of_frames _ hr'] at a1
  rw [hfr, List.tail_cons, State.pushFrame, State.setTop_of_frames _ hfr, hk_sff, hk_sff]
  exact a1
end HKX
