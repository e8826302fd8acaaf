/-! The frame of every walk of mine: one world of cells ws, carried whole (hk_W); a contract's start (hk_B) and end (hk_E); rows that carry it. -/
def hk_W (D : va_G) (tys : List (ClassId × FieldType)) (A : Nat → Prop) (s : State) (H : Heap) (locs : List Loc) (ws : va_W) : Prop :=
  va_P D vwCl ws H ∧ va_D A ws ∧ va_S A s.heap H locs ∧ va_K D vwCl tys s
def hk_B (D : va_G) (tys : List (ClassId × FieldType)) (sz : Nat) (ws : va_W) (U : State) : Prop :=
  U.heap.size = sz ∧ va_P D vwCl ws U.heap ∧ va_K D vwCl tys U ∧ va_D (fun _ => True) ws
def hk_E (D : va_G) (tys : List (ClassId × FieldType)) (A : Nat → Prop) (ws : va_W) (t : State) : Prop :=
  va_P D vwCl ws t.heap ∧ va_K D vwCl tys t ∧ va_D A ws
theorem hk_cast {D : va_G} {tys : List (ClassId × FieldType)} {A : Nat → Prop} {s : State} {H : Heap} {locs : List Loc} {ws ws' : va_W} (h : ws = ws') (hw : hk_W D tys A s H locs ws) : hk_W D tys A s H locs ws' := h ▸ hw
theorem hk_met {l : Launch} {y : MethodName} {wy wy' : List Cond} {rm : Room} {av : List Value} {D : va_G} {tys : List (ClassId × FieldType)} {sz : Nat} {ws : va_W} {Qc : Array Value → State → Outcome → State → Prop} {mc ms : Nat} {cc : ByteArray} {maxL : Nat} {ret : Option FieldType}
    (hy : plainName y.cls = true) (hw : wy = Cond.code y cc maxL ret :: wy') (hn : (lg_sl av).length ≤ maxL)
    (body : ∀ (p : Program) (e : Env) (s : State) (m : MethodId) (below : List Frame) (meth : Method) (c : Code) (ls : Array Slot), p.tables.exec = Jvm.exec → c.code = cc → meth.sig.returnType = ret → c.maxLocals = maxL → s.vm.findClass y.cls = some m.cls → (∀ w ∈ wy, w.before av.toArray s = true) → meth.locks = false → meth.name = y.name → (∀ q, s.heap.size ≤ q → va_A ws sz q) → hk_W D tys (va_A ws sz) s s.heap [] ws → lv_has ls maxL (lv_args 0 av) →
      W p l e rm s m av.toArray below meth c s.heap [] 0 0 (MQ below Qc av.toArray s mc ms (va_A ws sz)) (F0 m 0 ls [])) :
    Met l y wy rm (va_Pc av (hk_B D tys sz ws)) Qc mc ms (va_A ws sz) := by
  refine Met.ofW (cc := cc) (maxL := maxL) (ret := ret) hy hw ?_
  intro p e s m args below meth c s₁ B hml hv
  obtain ⟨rfl, hsz, hP, hK, hD0⟩ := hv
  subst hsz
  have hts := atoms_spec (ws := wy) B.pre
  have hl := lv_entry av (n := maxL) hn
  rw [lg_entry_eq]
  generalize (lg_sl av ++ List.replicate (maxL - (lg_sl av).length) Slot.unset).toArray = ls at hl ⊢
  exact body p e s m below meth c ls B.exec B.bytes B.returns hml (findClass_of_methodNamed B.named) hts B.notSynchronized (name_of_methodNamed B.named B.method).1 (fun q h => Or.inr h) ⟨hP, hD0.self, va_S.rf, hK⟩ hl
section HK
variable {p : Program} {l : Launch} {e : Env} {R : Room} {s : State} {m : MethodId} {args : Array Value} {below : List Frame} {meth : Method} {c : Code} {H : Heap} {locs : List Loc} {cells slots : Nat} {Q : State → Prop}
variable {cc : ByteArray} {pc : Nat} {ls : Array Slot} {rest : List Value} {D : va_G} {A : Nat → Prop} {a : Nat} {tys : List (ClassId × FieldType)} {ws : va_W}
theorem hk_get (hx : p.tables.exec = Jvm.exec) (hb : c.code = cc) {own C : String} {T : u_T} {N ci index : Nat} {Ts : List Cond} (hts : ∀ w ∈ Ts, w.before args s = true) (hin : ∀ w ∈ u_ws C T N, w ∈ Ts) (hown : s.vm.findClass own = some m.cls) (hw : hk_W D tys A s H locs ws) (q0 : Nat) {fs : List Value} (he : ws[q0]? = some (a, .inr (ci, fs))) (hc : vwCl[ci]? = some (C, T, N)) (k : Nat) (hk : k < N) (hlink : (Cond.fieldLink own index (T k).1 (T k).2.1 (T k).2.2.1).before args s = true) {v : Value} (hv : fs[k]? = some v) (hdg : decode cc pc = .ok (.getfield index, 3))
    (kk : W p l e R s m args below meth c H locs cells slots Q (F0 m (pc + 3) ls (v :: rest))) : W p l e R s m args below meth c H locs cells slots Q (F0 m pc ls (.ref a :: rest)) :=
  va_get hx hb hts hin hown hw.2.2.2 hw.1 q0 he hc k hk hlink (fun _ h => h) hv hdg kk
theorem hk_put (hx : p.tables.exec = Jvm.exec) (hb : c.code = cc) {own C : String} {T : u_T} {N ci index : Nat} {Ts : List Cond} (hts : ∀ w ∈ Ts, w.before args s = true) (hin : ∀ w ∈ u_ws C T N, w ∈ Ts) (ty0 : Nat → FieldType) (hty : ∀ k, k < N → parseFieldDescriptor (T k).2.2.1 = some (ty0 k)) (hnm : ∀ a, a < N → ∀ b, b < N → a ≠ b → (T a).2.1 ≠ (T b).2.1) (hown : s.vm.findClass own = some m.cls) (hw : hk_W D tys A s H locs ws) (q0 : Nat) {fs : List Value} (he : ws[q0]? = some (a, .inr (ci, fs))) (hc : vwCl[ci]? = some (C, T, N)) (k : Nat) (hk : k < N) (hlink : (Cond.fieldLink own index (T k).1 (T k).2.1 (T k).2.2.1).before args s = true) (hfin : (T k).2.2.2 = false) {ty : FieldType} {v : Value} (hd : parseFieldDescriptor (T k).2.2.1 = some ty) (hn : narrow ty v = v) (hfit : fits ty v = true) (hl : k < fs.length)
    (hdg : decode cc pc = .ok (.putfield index, 3)) {ws' : va_W} (he' : ws.set q0 (a, .inr (ci, fs.set k v)) = ws') (kk : ∀ (H1 : Heap) (locs1 : List Loc), hk_W D tys A s H1 locs1 ws' → W p l e R s m args below meth c H1 locs1 cells slots Q (F0 m (pc + 3) ls rest)) : W p l e R s m args below meth c H locs cells slots Q (F0 m pc ls (v :: .ref a :: rest)) := by
  subst he'
  exact va_put hx hb hts hin ty0 hty hnm hown hw.2.2.2 hw.1 hw.2.1 hw.2.2.1 q0 he hc k hk hlink (fun _ h => h) hfin hd hn hfit hl hdg (fun H1 locs1 h1 h2 h3 => kk H1 locs1 ⟨h1, h2, h3, hw.2.2.2⟩)
theorem hk_iald (hx : p.tables.exec = Jvm.exec) (hb : c.code = cc) (hw : hk_W D tys A s H locs ws) (q0 t0 : Nat) {cA : ClassId} {n : Nat} {f : Nat → Int32} (ha : ws[q0]? = some (a, .inl (cA, n, .inl f))) (ht : tys[t0]? = some (cA, .int)) {i : Int32} (hin : vp_in i n) (hdg : decode cc pc = .ok (.iaload, 1)) {v : Int32} (hv : f i.toNatClampNeg = v)
    (kk : W p l e R s m args below meth c H locs cells slots Q (F0 m (pc + 1) ls (.int v :: rest))) : W p l e R s m args below meth c H locs cells slots Q (F0 m pc ls (.int i :: .ref a :: rest)) := by
  subst hv
  exact va_iald hx hb hw.2.2.2 hw.1 q0 t0 ha ht hin hdg kk
theorem hk_iast (hx : p.tables.exec = Jvm.exec) (hb : c.code = cc) (hw : hk_W D tys A s H locs ws) (q0 t0 : Nat) {cA : ClassId} {n : Nat} {f : Nat → Int32} (ha : ws[q0]? = some (a, .inl (cA, n, .inl f))) (ht : tys[t0]? = some (cA, .int)) {i : Int32} {x : Int32} (hin : vp_in i n) (hdg : decode cc pc = .ok (.iastore, 1)) {ws' : va_W} (he' : ws.set q0 (a, .inl (cA, n, .inl (upd f i.toNatClampNeg x))) = ws')
    (kk : ∀ (H1 : Heap) (locs1 : List Loc), hk_W D tys A s H1 locs1 ws' → W p l e R s m args below meth c H1 locs1 cells slots Q (F0 m (pc + 1) ls rest)) : W p l e R s m args below meth c H locs cells slots Q (F0 m pc ls (.int x :: .int i :: .ref a :: rest)) := by
  subst he'
  exact va_iast hx hb hw.2.2.2 hw.1 hw.2.1 hw.2.2.1 q0 t0 ha ht hin hdg (fun H1 locs1 h1 h2 h3 => kk H1 locs1 ⟨h1, h2, h3, hw.2.2.2⟩)
theorem hk_last (hx : p.tables.exec = Jvm.exec) (hb : c.code = cc) (hw : hk_W D tys A s H locs ws) (q0 t0 : Nat) {cA : ClassId} {n : Nat} {f : Nat → Int64} (ha : ws[q0]? = some (a, .inl (cA, n, .inr (.inl f)))) (ht : tys[t0]? = some (cA, .long)) {i : Int32} {x : Int64} (hin : vp_in i n) (hdg : decode cc pc = .ok (.lastore, 1)) {ws' : va_W} (he' : ws.set q0 (a, .inl (cA, n, .inr (.inl (vp_updL f i.toNatClampNeg x)))) = ws')
    (kk : ∀ (H1 : Heap) (locs1 : List Loc), hk_W D tys A s H1 locs1 ws' → W p l e R s m args below meth c H1 locs1 cells slots Q (F0 m (pc + 1) ls rest)) : W p l e R s m args below meth c H locs cells slots Q (F0 m pc ls (.long x :: .int i :: .ref a :: rest)) := by
  subst he'
  exact va_last hx hb hw.2.2.2 hw.1 hw.2.1 hw.2.2.1 q0 t0 ha ht hin hdg (fun H1 locs1 h1 h2 h3 => kk H1 locs1 ⟨h1, h2, h3, hw.2.2.2⟩)
theorem hk_alen (hx : p.tables.exec = Jvm.exec) (hb : c.code = cc) (hw : hk_W D tys A s H locs ws) (q0 t0 : Nat) {cA : ClassId} {x : vp_A} (ha : ws[q0]? = some (a, .inl (cA, x))) {ty : FieldType} (ht : tys[t0]? = some (cA, ty)) {v : Int32} (hv : Int32.ofNat x.1 = v) (hdg : decode cc pc = .ok (.arraylength, 1))
    (kk : W p l e R s m args below meth c H locs cells slots Q (F0 m (pc + 1) ls (.int v :: rest))) : W p l e R s m args below meth c H locs cells slots Q (F0 m pc ls (.ref a :: rest)) :=
  va_alen hx hb hw.2.2.2 hw.1 q0 t0 ha ht hv hdg kk
/-! the ends -/
variable {S : Type} {w' : S → va_W} {w0 : va_W} {sz : Nat} {u : S}
theorem hk_vret {post : S → Prop} (hx : p.tables.exec = Jvm.exec) (hb : c.code = cc) (hr : meth.sig.returnType = none) (hlocks : meth.locks = false) (hw : hk_W D tys (va_A w0 sz) s H locs (w' u)) (hp : post u) (hd : decode cc pc = .ok (.return_, 1)) :
    W p l e R s m args below meth c H locs cells slots (MQ below (va_Qv post (fun u => hk_E D tys (va_A w0 sz) (w' u)) (va_A w0 sz)) args s cells slots (va_A w0 sz)) (F0 m pc ls []) :=
  W.vret hx hb hr (fun t ht hW => ⟨⟨u, rfl, hp, by rw [ht]; exact hw.1, va_K.moved hW.alike hw.2.2.2, hw.2.1⟩, hw.2.2.1.F ht⟩) hw.2.2.1.2.2 hd hlocks
theorem hk_iret {post : Int32 → S → Prop} {v : Int32} (hx : p.tables.exec = Jvm.exec) (hb : c.code = cc) (hr : meth.sig.returnType = some .int) (hlocks : meth.locks = false) (hw : hk_W D tys (va_A w0 sz) s H locs (w' u)) (hp : post v u) (hd : decode cc pc = .ok (.ireturn, 1)) :
    W p l e R s m args below meth c H locs cells slots (MQ below (va_Qi post (fun u => hk_E D tys (va_A w0 sz) (w' u)) (va_A w0 sz)) args s cells slots (va_A w0 sz)) (F0 m pc ls [.int v]) :=
  W.iret hx hb hr (fun t ht hW => ⟨⟨v, u, rfl, hp, by rw [ht]; exact hw.1, va_K.moved hW.alike hw.2.2.2, hw.2.1⟩, hw.2.2.1.F ht⟩) hw.2.2.1.2.2 hd hlocks
theorem hk_zret {post : Int32 → S → Prop} {v : Int32} (hx : p.tables.exec = Jvm.exec) (hb : c.code = cc) (hr : meth.sig.returnType = some .boolean) (hn : narrow .boolean (.int v) = .int v) (hlocks : meth.locks = false) (hw : hk_W D tys (va_A w0 sz) s H locs (w' u)) (hp : post v u) (hd : decode cc pc = .ok (.ireturn, 1)) :
    W p l e R s m args below meth c H locs cells slots (MQ below (va_Qi post (fun u => hk_E D tys (va_A w0 sz) (w' u)) (va_A w0 sz)) args s cells slots (va_A w0 sz)) (F0 m pc ls [.int v]) :=
  W.zret hx hb hr hn (fun t ht hW => ⟨⟨v, u, rfl, hp, by rw [ht]; exact hw.1, va_K.moved hW.alike hw.2.2.2, hw.2.1⟩, hw.2.2.1.F ht⟩) hw.2.2.1.2.2 hd hlocks
theorem hk_lret {post : Int64 → S → Prop} {v : Int64} (hx : p.tables.exec = Jvm.exec) (hb : c.code = cc) (hr : meth.sig.returnType = some .long) (hlocks : meth.locks = false) (hw : hk_W D tys (va_A w0 sz) s H locs (w' u)) (hp : post v u) (hd : decode cc pc = .ok (.lreturn, 1)) :
    W p l e R s m args below meth c H locs cells slots (MQ below (va_Ql post (fun u => hk_E D tys (va_A w0 sz) (w' u)) (va_A w0 sz)) args s cells slots (va_A w0 sz)) (F0 m pc ls [.long v]) :=
  W.lret hx hb hr (fun t ht hW => ⟨⟨v, u, rfl, hp, by rw [ht]; exact hw.1, va_K.moved hW.alike hw.2.2.2, hw.2.1⟩, hw.2.2.1.F ht⟩) hw.2.2.1.2.2 hd hlocks
/-! calls whose callee has the same world -/
theorem hk_free (hw : hk_W D tys A s H locs ws) (hA : ∀ q, s.heap.size ≤ q → A q) : ∀ q, va_A ws H.size q → A q := fun q h => h.elim (fun ⟨k, x, h⟩ => hw.2.1.2 k _ h) (fun h => hA q (Nat.le_trans hw.2.2.1.1 h))
theorem hk_blind (av : List Value) (n : Nat) : FrameBlind (va_Pc av (hk_B D tys n ws)) := fun a U g mk q => by
  obtain ⟨q0, q1, qP, qK, qD⟩ := q
  exact ⟨q0, q1, qP, va_K.moved (u := U) (U := U.calling g mk a) (Vm.Alike.refl U.vm) qK, qD⟩
theorem hk_pre (hw : hk_W D tys A s H locs ws) (av : List Value) : ∀ U : State, U.heap = H → s.WarmedH U.vm → va_Pc av (hk_B D tys H.size ws) av.toArray U := fun U hU hW => ⟨rfl, by rw [hU], by rw [hU]; exact hw.1, va_K.moved hW.alike hw.2.2.2, hw.2.1.weaken (fun _ _ _ _ => trivial)⟩
variable {y : MethodName} {bytes : ByteArray} {maxL nL mc ms n index : Nat} {ret : Option FieldType} {wy : List Cond} {rm : Room} {Ts : List Cond} {own C : String} {b : Addr} {As st0 : List Value}
theorem hk_Vi {post : Int32 → S → Prop} {T : u_T} {N ci : Nat} {fs : List Value} (F : CallFix p m c cc nL s args Ts own) (hw : hk_W D tys A s H locs ws) (hA : ∀ q, s.heap.size ≤ q → A q)
    (hM : Met l y wy rm (va_Pc (.ref b :: As) (hk_B D tys H.size ws)) (va_Qi post (fun u => hk_E D tys (va_A ws H.size) (w' u)) (va_A ws H.size)) mc ms (va_A ws H.size))
    (cw : CallW R s args own C index y bytes maxL ret wy rm mc ms n) (q0 : Nat) (he : ws[q0]? = some (b, .inr (ci, fs))) (hc : vwCl[ci]? = some (C, T, N)) (hn : As.length = n) (hl : ls.size = nL) (hst : st0 = As.reverse ++ .ref b :: rest) (hro : (rest.map fun v => v.category).sum ≤ 8) (hd : decode cc pc = .ok (.invokevirtual index, 3)) (hf : cells + mc ≤ R.cells ∧ slots + ms ≤ R.slots)
    (k : ∀ (r : Int32) (u : S) (H1 : Heap) (locs1 : List Loc), post r u → hk_W D tys A s H1 locs1 (w' u) → W p l e R s m args below meth c H1 locs1 (cells + mc) (slots + ms) Q (F0 m (pc + 3) ls (.int r :: rest))) : W p l e R s m args below meth c H locs cells slots Q (F0 m pc ls st0) := by
  have hFc := hk_free hw hA
  refine va_calli (va_runV (As := As) (rest := rest) F hM cw ⟨hk_blind _ _, va_recv hw.2.2.2 hw.1 hc he, hk_pre hw _⟩ rfl hn hl hst (lv_room hro) hd hf) hw.2.2.1 (fun q _ h => hFc q h) hFc (fun r u t H1 locs ht hvm hp hB hz1 hk1 hS => ?_)
  obtain ⟨hP1, hK1, hD1⟩ := hB
  rw [ht] at hP1
  exact k r u H1 locs hp ⟨hP1, hD1.weaken (fun _ q _ h => hFc q.1 h), hS, va_K.moved hvm.symm hK1⟩
theorem hk_Vl {post : Int64 → S → Prop} {T : u_T} {N ci : Nat} {fs : List Value} (F : CallFix p m c cc nL s args Ts own) (hw : hk_W D tys A s H locs ws) (hA : ∀ q, s.heap.size ≤ q → A q)
    (hM : Met l y wy rm (va_Pc (.ref b :: As) (hk_B D tys H.size ws)) (va_Ql post (fun u => hk_E D tys (va_A ws H.size) (w' u)) (va_A ws H.size)) mc ms (va_A ws H.size))
    (cw : CallW R s args own C index y bytes maxL ret wy rm mc ms n) (q0 : Nat) (he : ws[q0]? = some (b, .inr (ci, fs))) (hc : vwCl[ci]? = some (C, T, N)) (hn : As.length = n) (hl : ls.size = nL) (hst : st0 = As.reverse ++ .ref b :: rest) (hro : (rest.map fun v => v.category).sum ≤ 8) (hd : decode cc pc = .ok (.invokevirtual index, 3)) (hf : cells + mc ≤ R.cells ∧ slots + ms ≤ R.slots)
    (k : ∀ (r : Int64) (u : S) (H1 : Heap) (locs1 : List Loc), post r u → hk_W D tys A s H1 locs1 (w' u) → W p l e R s m args below meth c H1 locs1 (cells + mc) (slots + ms) Q (F0 m (pc + 3) ls (.long r :: rest))) : W p l e R s m args below meth c H locs cells slots Q (F0 m pc ls st0) := by
  have hFc := hk_free hw hA
  refine va_calll (va_runV (As := As) (rest := rest) F hM cw ⟨hk_blind _ _, va_recv hw.2.2.2 hw.1 hc he, hk_pre hw _⟩ rfl hn hl hst (lv_room hro) hd hf) hw.2.2.1 (fun q _ h => hFc q h) hFc (fun r u t H1 locs ht hvm hp hB hz1 hk1 hS => ?_)
  obtain ⟨hP1, hK1, hD1⟩ := hB
  rw [ht] at hP1
  exact k r u H1 locs hp ⟨hP1, hD1.weaken (fun _ q _ h => hFc q.1 h), hS, va_K.moved hvm.symm hK1⟩
theorem hk_Vv {post : S → Prop} {T : u_T} {N ci : Nat} {fs : List Value} (F : CallFix p m c cc nL s args Ts own) (hw : hk_W D tys A s H locs ws) (hA : ∀ q, s.heap.size ≤ q → A q)
    (hM : Met l y wy rm (va_Pc (.ref b :: As) (hk_B D tys H.size ws)) (va_Qv post (fun u => hk_E D tys (va_A ws H.size) (w' u)) (va_A ws H.size)) mc ms (va_A ws H.size))
    (cw : CallW R s args own C index y bytes maxL ret wy rm mc ms n) (q0 : Nat) (he : ws[q0]? = some (b, .inr (ci, fs))) (hc : vwCl[ci]? = some (C, T, N)) (hn : As.length = n) (hl : ls.size = nL) (hst : st0 = As.reverse ++ .ref b :: rest) (hro : (rest.map fun v => v.category).sum ≤ 8) (hd : decode cc pc = .ok (.invokevirtual index, 3)) (hf : cells + mc ≤ R.cells ∧ slots + ms ≤ R.slots)
    (k : ∀ (u : S) (H1 : Heap) (locs1 : List Loc), post u → hk_W D tys A s H1 locs1 (w' u) → W p l e R s m args below meth c H1 locs1 (cells + mc) (slots + ms) Q (F0 m (pc + 3) ls rest)) : W p l e R s m args below meth c H locs cells slots Q (F0 m pc ls st0) := by
  have hFc := hk_free hw hA
  refine va_callv (va_runV (As := As) (rest := rest) F hM cw ⟨hk_blind _ _, va_recv hw.2.2.2 hw.1 hc he, hk_pre hw _⟩ rfl hn hl hst (lv_room hro) hd hf) hw.2.2.1 (fun q _ h => hFc q h) hFc (fun u t H1 locs ht hvm hp hB hz1 hk1 hS => ?_)
  obtain ⟨hP1, hK1, hD1⟩ := hB
  rw [ht] at hP1
  exact k u H1 locs hp ⟨hP1, hD1.weaken (fun _ q _ h => hFc q.1 h), hS, va_K.moved hvm.symm hK1⟩
theorem hk_Si {post : Int32 → S → Prop} (F : CallFix p m c cc nL s args Ts own) (hw : hk_W D tys A s H locs ws) (hA : ∀ q, s.heap.size ≤ q → A q)
    (hM : Met l y wy rm (va_Pc As (hk_B D tys H.size ws)) (va_Qi post (fun u => hk_E D tys (va_A ws H.size) (w' u)) (va_A ws H.size)) mc ms (va_A ws H.size))
    (cw : CallB R s args own index y bytes maxL ret wy rm mc ms n ∧ (Cond.static y).before args s = true) (hn : As.length = n) (hl : ls.size = nL) (hst : st0 = As.reverse ++ rest) (hro : (rest.map fun v => v.category).sum ≤ 8) (hd : decode cc pc = .ok (.invokestatic index, 3)) (hf : cells + mc ≤ R.cells ∧ slots + ms ≤ R.slots)
    (k : ∀ (r : Int32) (u : S) (H1 : Heap) (locs1 : List Loc), post r u → hk_W D tys A s H1 locs1 (w' u) → W p l e R s m args below meth c H1 locs1 (cells + mc) (slots + ms) Q (F0 m (pc + 3) ls (.int r :: rest))) : W p l e R s m args below meth c H locs cells slots Q (F0 m pc ls st0) := by
  have hFc := hk_free hw hA
  refine va_calli (va_runS (As := As) (rest := rest) F hM cw ⟨hk_blind _ _, hk_pre hw _⟩ rfl hn hl hst (lv_room hro) hd hf) hw.2.2.1 (fun q _ h => hFc q h) hFc (fun r u t H1 locs ht hvm hp hB hz1 hk1 hS => ?_)
  obtain ⟨hP1, hK1, hD1⟩ := hB
  rw [ht] at hP1
  exact k r u H1 locs hp ⟨hP1, hD1.weaken (fun _ q _ h => hFc q.1 h), hS, va_K.moved hvm.symm hK1⟩
theorem hk_Sl {post : Int64 → S → Prop} (F : CallFix p m c cc nL s args Ts own) (hw : hk_W D tys A s H locs ws) (hA : ∀ q, s.heap.size ≤ q → A q)
    (hM : Met l y wy rm (va_Pc As (hk_B D tys H.size ws)) (va_Ql post (fun u => hk_E D tys (va_A ws H.size) (w' u)) (va_A ws H.size)) mc ms (va_A ws H.size))
    (cw : CallB R s args own index y bytes maxL ret wy rm mc ms n ∧ (Cond.static y).before args s = true) (hn : As.length = n) (hl : ls.size = nL) (hst : st0 = As.reverse ++ rest) (hro : (rest.map fun v => v.category).sum ≤ 8) (hd : decode cc pc = .ok (.invokestatic index, 3)) (hf : cells + mc ≤ R.cells ∧ slots + ms ≤ R.slots)
    (k : ∀ (r : Int64) (u : S) (H1 : Heap) (locs1 : List Loc), post r u → hk_W D tys A s H1 locs1 (w' u) → W p l e R s m args below meth c H1 locs1 (cells + mc) (slots + ms) Q (F0 m (pc + 3) ls (.long r :: rest))) : W p l e R s m args below meth c H locs cells slots Q (F0 m pc ls st0) := by
  have hFc := hk_free hw hA
  refine va_calll (va_runS (As := As) (rest := rest) F hM cw ⟨hk_blind _ _, hk_pre hw _⟩ rfl hn hl hst (lv_room hro) hd hf) hw.2.2.1 (fun q _ h => hFc q h) hFc (fun r u t H1 locs ht hvm hp hB hz1 hk1 hS => ?_)
  obtain ⟨hP1, hK1, hD1⟩ := hB
  rw [ht] at hP1
  exact k r u H1 locs hp ⟨hP1, hD1.weaken (fun _ q _ h => hFc q.1 h), hS, va_K.moved hvm.symm hK1⟩
theorem hk_Sv {post : S → Prop} (F : CallFix p m c cc nL s args Ts own) (hw : hk_W D tys A s H locs ws) (hA : ∀ q, s.heap.size ≤ q → A q)
    (hM : Met l y wy rm (va_Pc As (hk_B D tys H.size ws)) (va_Qv post (fun u => hk_E D tys (va_A ws H.size) (w' u)) (va_A ws H.size)) mc ms (va_A ws H.size))
    (cw : CallB R s args own index y bytes maxL ret wy rm mc ms n ∧ (Cond.static y).before args s = true) (hn : As.length = n) (hl : ls.size = nL) (hst : st0 = As.reverse ++ rest) (hro : (rest.map fun v => v.category).sum ≤ 8) (hd : decode cc pc = .ok (.invokestatic index, 3)) (hf : cells + mc ≤ R.cells ∧ slots + ms ≤ R.slots)
    (k : ∀ (u : S) (H1 : Heap) (locs1 : List Loc), post u → hk_W D tys A s H1 locs1 (w' u) → W p l e R s m args below meth c H1 locs1 (cells + mc) (slots + ms) Q (F0 m (pc + 3) ls rest)) : W p l e R s m args below meth c H locs cells slots Q (F0 m pc ls st0) := by
  have hFc := hk_free hw hA
  refine va_callv (va_runS (As := As) (rest := rest) F hM cw ⟨hk_blind _ _, hk_pre hw _⟩ rfl hn hl hst (lv_room hro) hd hf) hw.2.2.1 (fun q _ h => hFc q h) hFc (fun u t H1 locs ht hvm hp hB hz1 hk1 hS => ?_)
  obtain ⟨hP1, hK1, hD1⟩ := hB
  rw [ht] at hP1
  exact k u H1 locs hp ⟨hP1, hD1.weaken (fun _ q _ h => hFc q.1 h), hS, va_K.moved hvm.symm hK1⟩
end HK
