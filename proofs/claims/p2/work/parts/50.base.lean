/-! Contracts of any state: a start with the Throwable statics, an end that is any world with what the post says, or a throw of IllegalStateException; no new cell unless it throws. -/
abbrev jT (cI cJ : ClassId) : List (ClassId × FieldType) := [(cI, .int), (cJ, .long)]
abbrev jWf := ClassId → ClassId → (Nat → Nat) → (Nat → Int32) → (Nat → Int64) → (Nat → Nat → Int32) → (Nat → Int64) → va_W
abbrev jS := (Nat → Int32) × (Nat → Int64) × (Nat → Nat → Int32) × (Nat → Int64)
abbrev jP := (Nat → Int32) → (Nat → Int64) → (Nat → Nat → Int32) → (Nat → Int64) → Prop
abbrev jw (wf : jWf) (cI cJ : ClassId) (ad : Nat → Nat) (u : jS) : va_W := wf cI cJ ad u.1 u.2.1 u.2.2.1 u.2.2.2
def jE (wf : jWf) (cI cJ : ClassId) (ad : Nat → Nat) (D : va_G) (sz : Nat) (A : Nat → Prop) (u : jS) (t : State) : Prop := hk_E D (jT cI cJ) A (jw wf cI cJ ad u) t ∧ t.heap.size = sz
abbrev jISE : String := "java/lang/IllegalStateException"
abbrev jX (wf : jWf) (cI cJ : ClassId) (ad : Nat → Nat) (D : va_G) (A : Nat → Prop) (px : jP) : String → State → State → Prop := hk_XC jISE (fun u : jS => px u.1 u.2.1 u.2.2.1 u.2.2.2) (jw wf cI cJ ad) D (jT cI cJ) A
def JMi (l : Launch) (y : MethodName) (wy : List Cond) (rm : Room) (t3 : Nat × Nat × Nat) (D : va_G) (wf : jWf) (cI cJ : ClassId) (ad : Nat → Nat) (av : List Value) (ws : va_W) (sz : Nat) (mc ms : Nat) (post : Int32 → jP) (px : jP) : Prop :=
  vx_Met l y wy rm (va_Pc av (hk_BY t3 D (jT cI cJ) sz ws)) (va_Qi (fun r (u : jS) => post r u.1 u.2.1 u.2.2.1 u.2.2.2) (jE wf cI cJ ad D sz (va_A ws sz)) (va_A ws sz)) (jX wf cI cJ ad D (va_A ws sz) px) mc ms (va_A ws sz)
def JMl (l : Launch) (y : MethodName) (wy : List Cond) (rm : Room) (t3 : Nat × Nat × Nat) (D : va_G) (wf : jWf) (cI cJ : ClassId) (ad : Nat → Nat) (av : List Value) (ws : va_W) (sz : Nat) (mc ms : Nat) (post : Int64 → jP) (px : jP) : Prop :=
  vx_Met l y wy rm (va_Pc av (hk_BY t3 D (jT cI cJ) sz ws)) (va_Ql (fun r (u : jS) => post r u.1 u.2.1 u.2.2.1 u.2.2.2) (jE wf cI cJ ad D sz (va_A ws sz)) (va_A ws sz)) (jX wf cI cJ ad D (va_A ws sz) px) mc ms (va_A ws sz)
def JMv (l : Launch) (y : MethodName) (wy : List Cond) (rm : Room) (t3 : Nat × Nat × Nat) (D : va_G) (wf : jWf) (cI cJ : ClassId) (ad : Nat → Nat) (av : List Value) (ws : va_W) (sz : Nat) (mc ms : Nat) (post : jP) (px : jP) : Prop :=
  vx_Met l y wy rm (va_Pc av (hk_BY t3 D (jT cI cJ) sz ws)) (va_Qv (fun (u : jS) => post u.1 u.2.1 u.2.2.1 u.2.2.2) (jE wf cI cJ ad D sz (va_A ws sz)) (va_A ws sz)) (jX wf cI cJ ad D (va_A ws sz) px) mc ms (va_A ws sz)
section JX
variable {p : Program} {l : Launch} {e : Env} {R : Room} {s : State} {m : MethodId} {args : Array Value} {below : List Frame} {meth : Method} {c : Code} {H : Heap} {locs : List Loc} {cells slots : Nat} {Q : State → Prop}
variable {cc : ByteArray} {pc : Nat} {ls : Array Slot} {rest : List Value} {D : va_G} {A : Nat → Prop} {a : Nat} {tys : List (ClassId × FieldType)} {ws : va_W} {t3 : Nat × Nat × Nat}
theorem jx_size0 {T : State} (X : Stand p l e R s m args below meth c T locs 0 slots) : T.heap.size = s.heap.size := by
  have h1 : s.heap.size ≤ T.heap.size := X.same.2.1
  have h2 : T.heap.size ≤ s.heap.size + 0 := X.same.2.2.1
  omega
/-- no new cell: the counters are nothing -/
theorem jx_low {T : State} {k n : Nat} (X : Stand p l e R s m args below meth c T locs k n) (hz : T.heap.size = s.heap.size) : Stand p l e R s m args below meth c T locs 0 0 := by
  obtain ⟨a1, a2, a3, a4, a5, a6, a7, a8, a9, a10, a11, a12, a13, a14⟩ := X
  refine ⟨a1, a2, a3, a4, a5, a6, a7, a8, a9, a10, a11, a12, a13, ?_⟩
  obtain ⟨b1, b2, b3, b4, b5, b6⟩ := a14
  have hh : (T.setVm s.vm).heap = T.heap := rfl
  refine ⟨b1, b2, ?_, b4, ?_, b6⟩
  · rw [hh]; omega
  · rw [hh, ← hz, show T.heap.toList.drop T.heap.size = [] from by simp [List.drop_eq_nil_iff]]
    exact Nat.le_refl _
theorem jx_nm {x : Int32} (k : ∀ z : Int32, x = z → W p l e R s m args below meth c H locs cells slots Q (F0 m pc ls (.int z :: rest))) : W p l e R s m args below meth c H locs cells slots Q (F0 m pc ls (.int x :: rest)) := k x rfl
theorem jx_nl {x : Int64} (k : ∀ z : Int64, x = z → W p l e R s m args below meth c H locs cells slots Q (F0 m pc ls (.long z :: rest))) : W p l e R s m args below meth c H locs cells slots Q (F0 m pc ls (.long x :: rest)) := k x rfl
/-! the ends -/
variable {wf : jWf} {cI cJ : ClassId} {ad : Nat → Nat} {mc ms : Nat} {px : jP}
theorem jx_iret {post : Int32 → jP} {w0 : va_W} {v : Int32} {g' : Nat → Int32} {lg' : Nat → Int64} {ar' : Nat → Nat → Int32} {bk' : Nat → Int64} (hx : p.tables.exec = Jvm.exec) (hb : c.code = cc) (hr : meth.sig.returnType = some .int) (hlocks : meth.locks = false)
    (hw : hk_W D (jT cI cJ) (va_A w0 s.heap.size) s H locs (wf cI cJ ad g' lg' ar' bk')) (hp : post v g' lg' ar' bk') (hd : decode cc pc = .ok (.ireturn, 1)) :
    W p l e R s m args below meth c H locs 0 0 (vx_MQ below (va_Qi (fun r (u : jS) => post r u.1 u.2.1 u.2.2.1 u.2.2.2) (jE wf cI cJ ad D s.heap.size (va_A w0 s.heap.size)) (va_A w0 s.heap.size)) (jX wf cI cJ ad D (va_A w0 s.heap.size) px) args s mc ms (va_A w0 s.heap.size)) (F0 m pc ls [.int v]) := by
  intro T hT X
  have hz := jx_size0 X
  refine vx_ret (W.iret (cells := mc) (slots := ms) hx hb hr (fun t ht hW => ⟨⟨v, (g', lg', ar', bk'), rfl, hp, ⟨by rw [ht]; exact hw.1, va_K.moved hW.alike hw.2.2.2, hw.2.1⟩, by rw [ht, ← hT]; exact hz⟩, hw.2.2.1.F ht⟩) hw.2.2.1.2.2 hd hlocks) T hT (stand_widen X (Nat.zero_le _) (Nat.zero_le _))
theorem jx_zret {post : Int32 → jP} {w0 : va_W} {v : Int32} {g' : Nat → Int32} {lg' : Nat → Int64} {ar' : Nat → Nat → Int32} {bk' : Nat → Int64} (hx : p.tables.exec = Jvm.exec) (hb : c.code = cc) (hr : meth.sig.returnType = some .boolean) (hlocks : meth.locks = false) (hn : narrow .boolean (.int v) = .int v)
    (hw : hk_W D (jT cI cJ) (va_A w0 s.heap.size) s H locs (wf cI cJ ad g' lg' ar' bk')) (hp : post v g' lg' ar' bk') (hd : decode cc pc = .ok (.ireturn, 1)) :
    W p l e R s m args below meth c H locs 0 0 (vx_MQ below (va_Qi (fun r (u : jS) => post r u.1 u.2.1 u.2.2.1 u.2.2.2) (jE wf cI cJ ad D s.heap.size (va_A w0 s.heap.size)) (va_A w0 s.heap.size)) (jX wf cI cJ ad D (va_A w0 s.heap.size) px) args s mc ms (va_A w0 s.heap.size)) (F0 m pc ls [.int v]) := by
  intro T hT X
  have hz := jx_size0 X
  refine vx_ret (W.zret (cells := mc) (slots := ms) hx hb hr hn (fun t ht hW => ⟨⟨v, (g', lg', ar', bk'), rfl, hp, ⟨by rw [ht]; exact hw.1, va_K.moved hW.alike hw.2.2.2, hw.2.1⟩, by rw [ht, ← hT]; exact hz⟩, hw.2.2.1.F ht⟩) hw.2.2.1.2.2 hd hlocks) T hT (stand_widen X (Nat.zero_le _) (Nat.zero_le _))
theorem jx_lret {post : Int64 → jP} {w0 : va_W} {v : Int64} {g' : Nat → Int32} {lg' : Nat → Int64} {ar' : Nat → Nat → Int32} {bk' : Nat → Int64} (hx : p.tables.exec = Jvm.exec) (hb : c.code = cc) (hr : meth.sig.returnType = some .long) (hlocks : meth.locks = false)
    (hw : hk_W D (jT cI cJ) (va_A w0 s.heap.size) s H locs (wf cI cJ ad g' lg' ar' bk')) (hp : post v g' lg' ar' bk') (hd : decode cc pc = .ok (.lreturn, 1)) :
    W p l e R s m args below meth c H locs 0 0 (vx_MQ below (va_Ql (fun r (u : jS) => post r u.1 u.2.1 u.2.2.1 u.2.2.2) (jE wf cI cJ ad D s.heap.size (va_A w0 s.heap.size)) (va_A w0 s.heap.size)) (jX wf cI cJ ad D (va_A w0 s.heap.size) px) args s mc ms (va_A w0 s.heap.size)) (F0 m pc ls [.long v]) := by
  intro T hT X
  have hz := jx_size0 X
  refine vx_ret (W.lret (cells := mc) (slots := ms) hx hb hr (fun t ht hW => ⟨⟨v, (g', lg', ar', bk'), rfl, hp, ⟨by rw [ht]; exact hw.1, va_K.moved hW.alike hw.2.2.2, hw.2.1⟩, by rw [ht, ← hT]; exact hz⟩, hw.2.2.1.F ht⟩) hw.2.2.1.2.2 hd hlocks) T hT (stand_widen X (Nat.zero_le _) (Nat.zero_le _))
theorem jx_vret {post : jP} {w0 : va_W} {g' : Nat → Int32} {lg' : Nat → Int64} {ar' : Nat → Nat → Int32} {bk' : Nat → Int64} (hx : p.tables.exec = Jvm.exec) (hb : c.code = cc) (hr : meth.sig.returnType = none) (hlocks : meth.locks = false)
    (hw : hk_W D (jT cI cJ) (va_A w0 s.heap.size) s H locs (wf cI cJ ad g' lg' ar' bk')) (hp : post g' lg' ar' bk') (hd : decode cc pc = .ok (.return_, 1)) :
    W p l e R s m args below meth c H locs 0 0 (vx_MQ below (va_Qv (fun (u : jS) => post u.1 u.2.1 u.2.2.1 u.2.2.2) (jE wf cI cJ ad D s.heap.size (va_A w0 s.heap.size)) (va_A w0 s.heap.size)) (jX wf cI cJ ad D (va_A w0 s.heap.size) px) args s mc ms (va_A w0 s.heap.size)) (F0 m pc ls []) := by
  intro T hT X
  have hz := jx_size0 X
  refine vx_ret (W.vret (cells := mc) (slots := ms) hx hb hr (fun t ht hW => ⟨⟨(g', lg', ar', bk'), rfl, hp, ⟨by rw [ht]; exact hw.1, va_K.moved hW.alike hw.2.2.2, hw.2.1⟩, by rw [ht, ← hT]; exact hz⟩, hw.2.2.1.F ht⟩) hw.2.2.1.2.2 hd hlocks) T hT (stand_widen X (Nat.zero_le _) (Nat.zero_le _))
theorem jx_xout {w0 : va_W} {sz : Nat} {Qc : Array Value → State → Outcome → State → Prop} {g' : Nat → Int32} {lg' : Nat → Int64} {ar' : Nat → Nat → Int32} {bk' : Nat → Int64} {ce : Cell} {q : Addr} (hno : ∀ x ∈ c.exceptionTable.toList, False) (hlocks : meth.locks = false) (hw : hk_W D (jT cI cJ) (va_A w0 sz) s H locs (wf cI cJ ad g' lg' ar' bk')) (hp : px g' lg' ar' bk') (hcell : H[q]? = some ce) (hv : ce.vm = .none) (hcl : s.vm.findClass jISE = some ce.cls) :
    vx_W p l e R s m args below meth c H locs mc ms (vx_MQ below Qc (jX wf cI cJ ad D (va_A w0 sz) px) args s mc ms (va_A w0 sz)) (F0 m pc ls rest) q :=
  hk_xout (S := jS) (u := (g', lg', ar', bk')) hno hlocks hw hp hcell hv hcl (Nat.le_refl _) (Nat.le_refl _)
end JX
/-! a method -/
section JM
variable {l : Launch} {y : MethodName} {wy wy' : List Cond} {rm : Room} {av : List Value} {D : va_G} {t3 : Nat × Nat × Nat} {wf : jWf} {cI cJ : ClassId} {ad : Nat → Nat} {mc ms sz : Nat} {px : jP} {cc : ByteArray} {maxL : Nat} {ret : Option FieldType} {ws : va_W}
theorem jx_meti {post : Int32 → jP} (hret : ret = some .int)
    (hy : plainName y.cls = true) (hw : wy = Cond.code y cc maxL ret :: wy') (hn : (lg_sl av).length ≤ maxL)
    (body : ∀ (p : Program) (e : Env) (s : State) (m : MethodId) (args : Array Value) (below : List Frame) (meth : Method) (c : Code) (ls : Array Slot) (Q : State → Prop) (A : Nat → Prop), p.tables.exec = Jvm.exec → c.code = cc → c.maxLocals = maxL → s.vm.findClass y.cls = some m.cls → (∀ w ∈ wy, w.before args s = true) → (∀ q, s.heap.size ≤ q → A q) → hk_YY t3 A s → hk_W D (jT cI cJ) A s s.heap [] ws → lv_has ls maxL (lv_args 0 av) →
      (meth.locks = false ∧ (∀ x ∈ c.exceptionTable.toList, False) ∧ A = va_A ws s.heap.size ∧ Q = vx_MQ below (va_Qi (fun r (u : jS) => post r u.1 u.2.1 u.2.2.1 u.2.2.2) (jE wf cI cJ ad D s.heap.size A) A) (jX wf cI cJ ad D A px) args s mc ms A) →
      (∀ (r : Int32) (g' : Nat → Int32) (lg' : Nat → Int64) (ar' : Nat → Nat → Int32) (bk' : Nat → Int64) (pc : Nat) (ls : Array Slot) (H : Heap) (locs : List Loc), post r g' lg' ar' bk' → hk_W D (jT cI cJ) A s H locs (wf cI cJ ad g' lg' ar' bk') → decode cc pc = .ok (.ireturn, 1) → W p l e rm s m args below meth c H locs 0 0 Q (F0 m pc ls [.int r])) →
      (∀ (g' : Nat → Int32) (lg' : Nat → Int64) (ar' : Nat → Nat → Int32) (bk' : Nat → Int64) (pc : Nat) (ls : Array Slot) (rest : List Value) (H : Heap) (locs : List Loc) (ce : Cell) (q : Addr), px g' lg' ar' bk' → hk_W D (jT cI cJ) A s H locs (wf cI cJ ad g' lg' ar' bk') → H[q]? = some ce → ce.vm = .none → s.vm.findClass jISE = some ce.cls → vx_W p l e rm s m args below meth c H locs mc ms Q (F0 m pc ls rest) q) →
      W p l e rm s m args below meth c s.heap [] 0 0 Q (F0 m 0 ls [])) :
    JMi l y wy rm t3 D wf cI cJ ad av ws sz mc ms post px := by
  unfold JMi
  refine vx_ofW (cc := cc) (maxL := maxL) (ret := ret) hy hw ?_
  intro p e s m args below meth c s₁ B hml hno hv
  obtain ⟨rfl, ⟨hsz, hP, hK, hD0⟩, hz1⟩ := hv
  subst hsz
  have hts := atoms_spec (ws := wy) B.pre
  have hl := lv_entry av (n := maxL) hn
  rw [lg_entry_eq]
  generalize (lg_sl av ++ List.replicate (maxL - (lg_sl av).length) Slot.unset).toArray = ls at hl ⊢
  have hr := B.returns
  rw [hret] at hr
  exact body p e s m _ below meth c ls _ (va_A ws s.heap.size) B.exec B.bytes hml (findClass_of_methodNamed B.named) hts (fun q h => Or.inr h) hz1 ⟨hP, hD0.self, va_S.rf, hK⟩ hl ⟨B.notSynchronized, hno, rfl, rfl⟩ (fun r g' lg' ar' bk' pc ls H locs hp hw hd => jx_iret B.exec B.bytes hr B.notSynchronized hw hp hd) (fun g' lg' ar' bk' pc ls rest H locs ce q hp hw h1 h2 h3 => jx_xout hno B.notSynchronized hw hp h1 h2 h3)
theorem jx_metz {post : Int32 → jP} (hret : ret = some .boolean)
    (hy : plainName y.cls = true) (hw : wy = Cond.code y cc maxL ret :: wy') (hn : (lg_sl av).length ≤ maxL)
    (body : ∀ (p : Program) (e : Env) (s : State) (m : MethodId) (args : Array Value) (below : List Frame) (meth : Method) (c : Code) (ls : Array Slot) (Q : State → Prop) (A : Nat → Prop), p.tables.exec = Jvm.exec → c.code = cc → c.maxLocals = maxL → s.vm.findClass y.cls = some m.cls → (∀ w ∈ wy, w.before args s = true) → (∀ q, s.heap.size ≤ q → A q) → hk_YY t3 A s → hk_W D (jT cI cJ) A s s.heap [] ws → lv_has ls maxL (lv_args 0 av) →
      (meth.locks = false ∧ (∀ x ∈ c.exceptionTable.toList, False) ∧ A = va_A ws s.heap.size ∧ Q = vx_MQ below (va_Qi (fun r (u : jS) => post r u.1 u.2.1 u.2.2.1 u.2.2.2) (jE wf cI cJ ad D s.heap.size A) A) (jX wf cI cJ ad D A px) args s mc ms A) →
      (∀ (r : Int32) (g' : Nat → Int32) (lg' : Nat → Int64) (ar' : Nat → Nat → Int32) (bk' : Nat → Int64) (pc : Nat) (ls : Array Slot) (H : Heap) (locs : List Loc), narrow .boolean (.int r) = .int r → post r g' lg' ar' bk' → hk_W D (jT cI cJ) A s H locs (wf cI cJ ad g' lg' ar' bk') → decode cc pc = .ok (.ireturn, 1) → W p l e rm s m args below meth c H locs 0 0 Q (F0 m pc ls [.int r])) →
      (∀ (g' : Nat → Int32) (lg' : Nat → Int64) (ar' : Nat → Nat → Int32) (bk' : Nat → Int64) (pc : Nat) (ls : Array Slot) (rest : List Value) (H : Heap) (locs : List Loc) (ce : Cell) (q : Addr), px g' lg' ar' bk' → hk_W D (jT cI cJ) A s H locs (wf cI cJ ad g' lg' ar' bk') → H[q]? = some ce → ce.vm = .none → s.vm.findClass jISE = some ce.cls → vx_W p l e rm s m args below meth c H locs mc ms Q (F0 m pc ls rest) q) →
      W p l e rm s m args below meth c s.heap [] 0 0 Q (F0 m 0 ls [])) :
    JMi l y wy rm t3 D wf cI cJ ad av ws sz mc ms post px := by
  unfold JMi
  refine vx_ofW (cc := cc) (maxL := maxL) (ret := ret) hy hw ?_
  intro p e s m args below meth c s₁ B hml hno hv
  obtain ⟨rfl, ⟨hsz, hP, hK, hD0⟩, hz1⟩ := hv
  subst hsz
  have hts := atoms_spec (ws := wy) B.pre
  have hl := lv_entry av (n := maxL) hn
  rw [lg_entry_eq]
  generalize (lg_sl av ++ List.replicate (maxL - (lg_sl av).length) Slot.unset).toArray = ls at hl ⊢
  have hr := B.returns
  rw [hret] at hr
  exact body p e s m _ below meth c ls _ (va_A ws s.heap.size) B.exec B.bytes hml (findClass_of_methodNamed B.named) hts (fun q h => Or.inr h) hz1 ⟨hP, hD0.self, va_S.rf, hK⟩ hl ⟨B.notSynchronized, hno, rfl, rfl⟩ (fun r g' lg' ar' bk' pc ls H locs hn hp hw hd => jx_zret B.exec B.bytes hr B.notSynchronized hn hw hp hd) (fun g' lg' ar' bk' pc ls rest H locs ce q hp hw h1 h2 h3 => jx_xout hno B.notSynchronized hw hp h1 h2 h3)
theorem jx_metl {post : Int64 → jP} (hret : ret = some .long)
    (hy : plainName y.cls = true) (hw : wy = Cond.code y cc maxL ret :: wy') (hn : (lg_sl av).length ≤ maxL)
    (body : ∀ (p : Program) (e : Env) (s : State) (m : MethodId) (args : Array Value) (below : List Frame) (meth : Method) (c : Code) (ls : Array Slot) (Q : State → Prop) (A : Nat → Prop), p.tables.exec = Jvm.exec → c.code = cc → c.maxLocals = maxL → s.vm.findClass y.cls = some m.cls → (∀ w ∈ wy, w.before args s = true) → (∀ q, s.heap.size ≤ q → A q) → hk_YY t3 A s → hk_W D (jT cI cJ) A s s.heap [] ws → lv_has ls maxL (lv_args 0 av) →
      (meth.locks = false ∧ (∀ x ∈ c.exceptionTable.toList, False) ∧ A = va_A ws s.heap.size ∧ Q = vx_MQ below (va_Ql (fun r (u : jS) => post r u.1 u.2.1 u.2.2.1 u.2.2.2) (jE wf cI cJ ad D s.heap.size A) A) (jX wf cI cJ ad D A px) args s mc ms A) →
      (∀ (r : Int64) (g' : Nat → Int32) (lg' : Nat → Int64) (ar' : Nat → Nat → Int32) (bk' : Nat → Int64) (pc : Nat) (ls : Array Slot) (H : Heap) (locs : List Loc), post r g' lg' ar' bk' → hk_W D (jT cI cJ) A s H locs (wf cI cJ ad g' lg' ar' bk') → decode cc pc = .ok (.lreturn, 1) → W p l e rm s m args below meth c H locs 0 0 Q (F0 m pc ls [.long r])) →
      (∀ (g' : Nat → Int32) (lg' : Nat → Int64) (ar' : Nat → Nat → Int32) (bk' : Nat → Int64) (pc : Nat) (ls : Array Slot) (rest : List Value) (H : Heap) (locs : List Loc) (ce : Cell) (q : Addr), px g' lg' ar' bk' → hk_W D (jT cI cJ) A s H locs (wf cI cJ ad g' lg' ar' bk') → H[q]? = some ce → ce.vm = .none → s.vm.findClass jISE = some ce.cls → vx_W p l e rm s m args below meth c H locs mc ms Q (F0 m pc ls rest) q) →
      W p l e rm s m args below meth c s.heap [] 0 0 Q (F0 m 0 ls [])) :
    JMl l y wy rm t3 D wf cI cJ ad av ws sz mc ms post px := by
  unfold JMl
  refine vx_ofW (cc := cc) (maxL := maxL) (ret := ret) hy hw ?_
  intro p e s m args below meth c s₁ B hml hno hv
  obtain ⟨rfl, ⟨hsz, hP, hK, hD0⟩, hz1⟩ := hv
  subst hsz
  have hts := atoms_spec (ws := wy) B.pre
  have hl := lv_entry av (n := maxL) hn
  rw [lg_entry_eq]
  generalize (lg_sl av ++ List.replicate (maxL - (lg_sl av).length) Slot.unset).toArray = ls at hl ⊢
  have hr := B.returns
  rw [hret] at hr
  exact body p e s m _ below meth c ls _ (va_A ws s.heap.size) B.exec B.bytes hml (findClass_of_methodNamed B.named) hts (fun q h => Or.inr h) hz1 ⟨hP, hD0.self, va_S.rf, hK⟩ hl ⟨B.notSynchronized, hno, rfl, rfl⟩ (fun r g' lg' ar' bk' pc ls H locs hp hw hd => jx_lret B.exec B.bytes hr B.notSynchronized hw hp hd) (fun g' lg' ar' bk' pc ls rest H locs ce q hp hw h1 h2 h3 => jx_xout hno B.notSynchronized hw hp h1 h2 h3)
theorem jx_metv {post : jP} (hret : ret = none)
    (hy : plainName y.cls = true) (hw : wy = Cond.code y cc maxL ret :: wy') (hn : (lg_sl av).length ≤ maxL)
    (body : ∀ (p : Program) (e : Env) (s : State) (m : MethodId) (args : Array Value) (below : List Frame) (meth : Method) (c : Code) (ls : Array Slot) (Q : State → Prop) (A : Nat → Prop), p.tables.exec = Jvm.exec → c.code = cc → c.maxLocals = maxL → s.vm.findClass y.cls = some m.cls → (∀ w ∈ wy, w.before args s = true) → (∀ q, s.heap.size ≤ q → A q) → hk_YY t3 A s → hk_W D (jT cI cJ) A s s.heap [] ws → lv_has ls maxL (lv_args 0 av) →
      (meth.locks = false ∧ (∀ x ∈ c.exceptionTable.toList, False) ∧ A = va_A ws s.heap.size ∧ Q = vx_MQ below (va_Qv (fun (u : jS) => post u.1 u.2.1 u.2.2.1 u.2.2.2) (jE wf cI cJ ad D s.heap.size A) A) (jX wf cI cJ ad D A px) args s mc ms A) →
      (∀ (g' : Nat → Int32) (lg' : Nat → Int64) (ar' : Nat → Nat → Int32) (bk' : Nat → Int64) (pc : Nat) (ls : Array Slot) (H : Heap) (locs : List Loc), post g' lg' ar' bk' → hk_W D (jT cI cJ) A s H locs (wf cI cJ ad g' lg' ar' bk') → decode cc pc = .ok (.return_, 1) → W p l e rm s m args below meth c H locs 0 0 Q (F0 m pc ls [])) →
      (∀ (g' : Nat → Int32) (lg' : Nat → Int64) (ar' : Nat → Nat → Int32) (bk' : Nat → Int64) (pc : Nat) (ls : Array Slot) (rest : List Value) (H : Heap) (locs : List Loc) (ce : Cell) (q : Addr), px g' lg' ar' bk' → hk_W D (jT cI cJ) A s H locs (wf cI cJ ad g' lg' ar' bk') → H[q]? = some ce → ce.vm = .none → s.vm.findClass jISE = some ce.cls → vx_W p l e rm s m args below meth c H locs mc ms Q (F0 m pc ls rest) q) →
      W p l e rm s m args below meth c s.heap [] 0 0 Q (F0 m 0 ls [])) :
    JMv l y wy rm t3 D wf cI cJ ad av ws sz mc ms post px := by
  unfold JMv
  refine vx_ofW (cc := cc) (maxL := maxL) (ret := ret) hy hw ?_
  intro p e s m args below meth c s₁ B hml hno hv
  obtain ⟨rfl, ⟨hsz, hP, hK, hD0⟩, hz1⟩ := hv
  subst hsz
  have hts := atoms_spec (ws := wy) B.pre
  have hl := lv_entry av (n := maxL) hn
  rw [lg_entry_eq]
  generalize (lg_sl av ++ List.replicate (maxL - (lg_sl av).length) Slot.unset).toArray = ls at hl ⊢
  have hr := B.returns
  rw [hret] at hr
  exact body p e s m _ below meth c ls _ (va_A ws s.heap.size) B.exec B.bytes hml (findClass_of_methodNamed B.named) hts (fun q h => Or.inr h) hz1 ⟨hP, hD0.self, va_S.rf, hK⟩ hl ⟨B.notSynchronized, hno, rfl, rfl⟩ (fun g' lg' ar' bk' pc ls H locs hp hw hd => jx_vret B.exec B.bytes hr B.notSynchronized hw hp hd) (fun g' lg' ar' bk' pc ls rest H locs ce q hp hw h1 h2 h3 => jx_xout hno B.notSynchronized hw hp h1 h2 h3)
end JM
