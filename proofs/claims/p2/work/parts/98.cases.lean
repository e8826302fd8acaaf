/-! THE CLAIM OUT OF ONE WALK OF THE LAW'S BODY. Your part is whole_start (and what it stands on); all else here is the same for every law, but numbers. -/
def R_law : String := "LzmaChainsLaw"
def lw_P (b : Addr) (xs : List Int32) (args : Array Value) (s : State) : Prop := args = #[.ref b] ∧ s.IntsAt b xs ∧ xs.length ≤ 3073 ∧ (Jvm.Cond.and given_1 narrow_1).before args s = true
def lw_Q (_ : Array Value) (s : State) (o : Outcome) (t : State) : Prop := o = .returned (some (.int 1)) ∧ Framed s o t [] 601024 7293000
def lw_Z (below : List Frame) (a : Array Value) (s : State) : State → Prop := fun t => ∃ o, t.status = .running ∧ Ended t below o ∧ lw_Q a s o t
/-- the law's own end, with 1 on the stack, nothing written that was there before, its room as the claim has it -/
theorem lw_ret {p : Program} {l : Launch} {e : Env} {s : State} {m : MethodId} {below : List Frame} {meth : Method} {c : Code} {b : Nat} (hx : p.tables.exec = Jvm.exec) (hb : c.code = code) (hr : meth.sig.returnType = ret) (hlocks : meth.locks = false) {pc : Nat} {H : Heap} {ls : Array Slot} (hdg : decode code pc = .ok (.ireturn, 1)) : W p l e room_1 s m #[Value.ref b] below meth c H [] 601024 7293000 (lw_Z below #[Value.ref b] s) (F0 m pc ls [.int 1]) := by
  intro T hT X
  obtain ⟨fs, hret, hrun, hended, hW, hframe⟩ := X.leave (v := some (.int 1)) (hlocks := hlocks) (fun h => by rw [hr] at h; cases h)
  have hmeth' : T.vm.method? m = some meth := X.method'
  refine ⟨T.setFrames fs, ?_, .returned (some (.int 1)), hrun, hended, rfl, ⟨_, rfl⟩, hW, hframe⟩
  jvm_step X.here [X.here.top, hx, hb, hdg, hmeth', hr, ret, narrow_b1]
  (try refine ⟨rfl, ?_⟩); (try refine ⟨rfl, ?_⟩)
  first | (intro acts; rw [hret _ acts rfl rfl rfl]) | rw [hret _ _ rfl rfl rfl]
  exact Steps.refl _
/-- what holds at the law's entry: the machine, the code, the tables' words (any of lw_tbl by 'hts w (by decide +kernel)'), the script of L ints xs at the cell b, what the Statement gives of the start (any of its parts by flat_of_before) -/
def lw_At (p : Program) (s : State) (m : MethodId) (meth : Method) (c : Code) (b L : Nat) (xs : Nat → Int32) : Prop :=
  p.tables.exec = Jvm.exec ∧ c.code = code ∧ meth.sig.returnType = ret ∧ c.maxLocals = 7 ∧ s.vm.findClass R_law = some m.cls ∧ (∀ w ∈ lw_tbl, w.before #[Value.ref b] s = true) ∧ va_X b L xs s s.heap ∧ b < s.heap.size ∧ meth.locks = false ∧ (Jvm.Cond.and given_1 narrow_1).before #[Value.ref b] s = true
theorem law_fin {p : Program} {e : Env} {s : State} {m : MethodId} {below : List Frame} {meth : Method} {c : Code} {l : Launch} {b : Nat} {D : va_G} {tys : List (ClassId × FieldType)} {H : Heap} {locs : List Loc} {ls : Array Slot} {cells slots : Nat} {ws : va_W} (hx : p.tables.exec = Jvm.exec) (hb : c.code = code) (hr : meth.sig.returnType = ret) (hlocks : meth.locks = false) (hc : cells ≤ 601024) (hs : slots ≤ 7293000) (hw : hk_W D tys (fun q : Nat => s.heap.size ≤ q) s H locs ws) : W p l e room_1 s m #[Value.ref b] below meth c H locs cells slots (lw_Z below #[Value.ref b] s) (F0 m 649 ls []) := by
  refine lv_iconst (v := 1) hx hb dL_law_649 (by decide) ?_
  refine va_forget (fun q hq => hw.2.2.1.2.2 q hq) ?_
  refine W.widen (k := 601024) (n := 7293000) hc hs ?_
  exact lw_ret hx hb hr hlocks dL_law_650
set_option maxHeartbeats 4000000 in
set_option maxRecDepth 100000 in
theorem law_c0 {p : Program} {e : Env} {s : State} {m : MethodId} {below : List Frame} {meth : Method} {c : Code} {l : Launch} {b L : Nat} {xs : Nat → Int32} {D : va_G} {cI cJ : ClassId} {t3 : Nat × Nat × Nat} {ad md : Nat → Nat} {al : Nat} {g : Nat → Int32} {lg : Nat → Int64} {ar : Nat → Nat → Int32} {bk : Nat → Int64} {g2 : Nat → Int32} {l2 : Nat → Int64} {a2 : Nat → Nat → Int32} {b2 : Nat → Int64} {bl : Nat → Int64} {i : Int32} {cells slots : Nat} {H : Heap} {locs : List Loc} {ls : Array Slot} (hlt : l.stackTraces = false) (hx : p.tables.exec = Jvm.exec) (hb : c.code = code) (hr : meth.sig.returnType = ret) (hml : c.maxLocals = 7) (hown : s.vm.findClass RL = some m.cls) (hts : ∀ w ∈ lw_tbl, w.before #[Value.ref b] s = true) (hbl : b < s.heap.size) (hlocks : meth.locks = false) (hX : va_X b L xs s s.heap) (hL : L ≤ 3073) (hZ : hk_YY t3 (fun q : Nat => s.heap.size ≤ q) s) (hi : 1 ≤ i.toInt ∧ i.toInt + 6 ≤ (L : Int)) (hw : hk_W D (jT cI cJ) (fun q : Nat => s.heap.size ≤ q) s H locs (([(al, .inl (cJ, 1, .inr (.inl bl)))] ++ xw cI cJ ad g lg ar bk) ++ mw cI cJ md g2 l2 a2 b2)) (hI : law_IX g ar) (hJ : law_IM g2 a2) (hR : law_R g g2) (hl : lv_has ls 7 [(4, .int i), (3, .ref al), (2, .ref (md 0)), (1, .ref (ad 0)), (0, .ref b)]) (hc : cells + 2 ≤ room_1.cells) (hs : slots + 12 ≤ room_1.slots) (kk : ∀ (g : Nat → Int32) (lg : Nat → Int64) (ar : Nat → Nat → Int32) (bk : Nat → Int64) (g2 : Nat → Int32) (l2 : Nat → Int64) (a2 : Nat → Nat → Int32) (b2 : Nat → Int64) (bl : Nat → Int64) (ls : Array Slot) (H : Heap) (locs : List Loc), law_IX g ar → law_IM g2 a2 → law_R g g2 → hk_W D (jT cI cJ) (fun q : Nat => s.heap.size ≤ q) s H locs (([(al, .inl (cJ, 1, .inr (.inl bl)))] ++ xw cI cJ ad g lg ar bk) ++ mw cI cJ md g2 l2 a2 b2) → lv_has ls 7 [(4, .int i), (3, .ref al), (2, .ref (md 0)), (1, .ref (ad 0)), (0, .ref b)] → W p l e room_1 s m #[Value.ref b] below meth c H locs (cells + 2) (slots + 12) (lw_Z below #[Value.ref b] s) (F0 m 643 ls [])) : W p l e room_1 s m #[Value.ref b] below meth c H locs cells slots (lw_Z below #[Value.ref b] s) (F0 m 128 ls []) := by
  have hA : ∀ q : Nat, s.heap.size ≤ q → (fun q : Nat => s.heap.size ≤ q) q := fun _ h => h
  have hbA : ¬ (fun q : Nat => s.heap.size ≤ q) b := Nat.not_le.mpr hbl
  refine lv_aload_n hx hb dL_law_128 rfl (lv_at hl 3 rfl) ?_
  refine lv_aload_n hx hb dL_law_129 rfl (lv_at hl 4 rfl) ?_
  refine lv_iload hx hb dL_law_130 (lv_at hl 0 rfl) ?_
  refine lv_iconst (v := 1) hx hb dL_law_132 (by decide) ?_
  refine lv_iadd hx hb dL_law_133 ?_
  refine hk_topi (i + 1) rfl ?_
  refine va_sld hx hb hX hbl hbA hw.2.2.1 (law_ix 1 hi hL (by decide)) dL_law_134 ?_
  refine hk_topi (xs (i + 1).toNatClampNeg) rfl ?_
  refine lv_aload_n hx hb dL_law_135 rfl (lv_at hl 4 rfl) ?_
  refine lv_iload hx hb dL_law_136 (lv_at hl 0 rfl) ?_
  refine lv_iconst (v := 2) hx hb dL_law_138 (by decide) ?_
  refine lv_iadd hx hb dL_law_139 ?_
  refine hk_topi (i + 2) rfl ?_
  refine va_sld hx hb hX hbl hbA hw.2.2.1 (law_ix 2 hi hL (by decide)) dL_law_140 ?_
  refine hk_topi (xs (i + 2).toNatClampNeg) rfl ?_
  obtain ⟨u0, u1, u2, u3, u4, u5, u6, u7, u8, u9, u10, u11, u12, u13, u14⟩ := id hI
  refine jp_Vi (wc := xw cI cJ ad g lg ar bk) (wr := [(al, .inl (cJ, 1, .inr (.inl bl)))] ++ mw cI cJ md g2 l2 a2 b2) (As := [.int (xs (i + 1).toNatClampNeg), .int (xs (i + 2).toNatClampNeg)]) (rest := []) ⟨hx, hb, hml, hown, hts⟩ hZ hw hA [1, 2, 3, 4, 5, 6, 7, 8, 9, 10, 11, 12, 13, 14, 15, 16, 17, 18, 19, 20, 21, 22, 23, 24, 25, 26, 27, 28, 29, 30, 31] [0, 32, 33, 34, 35, 36, 37, 38, 39, 40, 41, 42, 43, 44, 45, 46, 47, 48, 49, 50, 51, 52, 53, 54, 55, 56, 57] rfl rfl (by decide) (by decide) (by decide) (jo_X11_property l hlt D t3 cI cJ ad g lg ar bk _ ((xs (i + 1).toNatClampNeg)) ((xs (i + 2).toNatClampNeg)) u4 u5 u12 u2) (fun _ _ _ _ h => h) (cwV 2 hts gl_X11_property rfl rfl rfl (by decide +kernel) ⟨Nat.le_of_ble_eq_true rfl, Nat.le_of_ble_eq_true rfl⟩) 0 (ci := 14) (T := TX11) (N := 11) rfl rfl rfl hl.1 rfl (Nat.le_of_ble_eq_true rfl) dL_law_141 ⟨by omega, by omega⟩ (fun r1 g1 l1 a1 b1 H locs hp1 hw => ?_)
  have hI1 := li_X11_property hI hp1
  refine lv_aload_n hx hb dL_law_144 rfl (lv_at hl 2 rfl) ?_
  refine lv_aload_n hx hb dL_law_145 rfl (lv_at hl 4 rfl) ?_
  refine lv_iload hx hb dL_law_146 (lv_at hl 0 rfl) ?_
  refine lv_iconst (v := 1) hx hb dL_law_148 (by decide) ?_
  refine lv_iadd hx hb dL_law_149 ?_
  refine hk_topi (i + 1) rfl ?_
  refine va_sld hx hb hX hbl hbA hw.2.2.1 (law_ix 1 hi hL (by decide)) dL_law_150 ?_
  refine hk_topi (xs (i + 1).toNatClampNeg) rfl ?_
  refine lv_aload_n hx hb dL_law_151 rfl (lv_at hl 4 rfl) ?_
  refine lv_iload hx hb dL_law_152 (lv_at hl 0 rfl) ?_
  refine lv_iconst (v := 2) hx hb dL_law_154 (by decide) ?_
  refine lv_iadd hx hb dL_law_155 ?_
  refine hk_topi (i + 2) rfl ?_
  refine va_sld hx hb hX hbl hbA hw.2.2.1 (law_ix 2 hi hL (by decide)) dL_law_156 ?_
  refine hk_topi (xs (i + 2).toNatClampNeg) rfl ?_
  obtain ⟨v0, v1, v2, v3, v4, v5, v6, v7, v8, v9, v10, v11, v12, v13, v14, v15, v16, v17, v18, v19, v20, v21, v22⟩ := id hJ
  refine jp_Vi (wc := mw cI cJ md g2 l2 a2 b2) (wr := [(al, .inl (cJ, 1, .inr (.inl bl)))] ++ xw cI cJ ad g1 l1 a1 b1) (As := [.int (xs (i + 1).toNatClampNeg), .int (xs (i + 2).toNatClampNeg)]) (rest := [.int r1]) ⟨hx, hb, hml, hown, hts⟩ hZ hw hA [1, 2, 3, 4, 5, 6, 7, 8, 9, 10, 11, 12, 13, 14, 15, 16, 17, 18, 19, 20, 21, 22, 23, 24, 25, 26] [0, 27, 28, 29, 30, 31, 32, 33, 34, 35, 36, 37, 38, 39, 40, 41, 42, 43, 44, 45, 46, 47, 48, 49, 50, 51, 52, 53, 54, 55, 56, 57] rfl rfl (by decide) (by decide) (by decide) (jo_X12_property l hlt D t3 cI cJ md g2 l2 a2 b2 _ ((xs (i + 1).toNatClampNeg)) ((xs (i + 2).toNatClampNeg)) v16 v17 v18 v19 v20 v21 v22) (fun _ _ _ _ h => h) (cwV 2 hts gl_X12_property rfl rfl rfl (by decide +kernel) ⟨Nat.le_of_ble_eq_true rfl, Nat.le_of_ble_eq_true rfl⟩) 0 (ci := 15) (T := TX12) (N := 92) rfl rfl rfl hl.1 rfl (Nat.le_of_ble_eq_true rfl) dL_law_157 ⟨by omega, by omega⟩ (fun r2 g2 l2 a2 b2 H locs hp2 hw => ?_)
  have hJ2 := li_X12_property hJ hp2
  have hE2 := law_prop hR hp1 hp2
  refine lv_icmp_eq (tgt := 643) hx hb dL_law_160 (by decide) (fun _ => ?_) (fun cn => absurd (Int32.toInt_inj.mp hE2.1) cn)
  refine W.widen (k := cells + 2) (n := slots + 12) (by omega) (by omega) ?_
  exact kk g1 l1 a1 b1 g2 l2 a2 b2 bl ls _ _ hI1 hJ2 hE2.2 hw hl

set_option maxHeartbeats 4000000 in
set_option maxRecDepth 100000 in
theorem law_c1 {p : Program} {e : Env} {s : State} {m : MethodId} {below : List Frame} {meth : Method} {c : Code} {l : Launch} {b L : Nat} {xs : Nat → Int32} {D : va_G} {cI cJ : ClassId} {t3 : Nat × Nat × Nat} {ad md : Nat → Nat} {al : Nat} {g : Nat → Int32} {lg : Nat → Int64} {ar : Nat → Nat → Int32} {bk : Nat → Int64} {g2 : Nat → Int32} {l2 : Nat → Int64} {a2 : Nat → Nat → Int32} {b2 : Nat → Int64} {bl : Nat → Int64} {i : Int32} {cells slots : Nat} {H : Heap} {locs : List Loc} {ls : Array Slot} (hlt : l.stackTraces = false) (hx : p.tables.exec = Jvm.exec) (hb : c.code = code) (hr : meth.sig.returnType = ret) (hml : c.maxLocals = 7) (hown : s.vm.findClass RL = some m.cls) (hts : ∀ w ∈ lw_tbl, w.before #[Value.ref b] s = true) (hbl : b < s.heap.size) (hlocks : meth.locks = false) (hX : va_X b L xs s s.heap) (hL : L ≤ 3073) (hZ : hk_YY t3 (fun q : Nat => s.heap.size ≤ q) s) (hi : 1 ≤ i.toInt ∧ i.toInt + 6 ≤ (L : Int)) (hw : hk_W D (jT cI cJ) (fun q : Nat => s.heap.size ≤ q) s H locs (([(al, .inl (cJ, 1, .inr (.inl bl)))] ++ xw cI cJ ad g lg ar bk) ++ mw cI cJ md g2 l2 a2 b2)) (hI : law_IX g ar) (hJ : law_IM g2 a2) (hR : law_R g g2) (hl : lv_has ls 7 [(4, .int i), (3, .ref al), (2, .ref (md 0)), (1, .ref (ad 0)), (0, .ref b)]) (hc : cells + 2 ≤ room_1.cells) (hs : slots + 12 ≤ room_1.slots) (kk : ∀ (g : Nat → Int32) (lg : Nat → Int64) (ar : Nat → Nat → Int32) (bk : Nat → Int64) (g2 : Nat → Int32) (l2 : Nat → Int64) (a2 : Nat → Nat → Int32) (b2 : Nat → Int64) (bl : Nat → Int64) (ls : Array Slot) (H : Heap) (locs : List Loc), law_IX g ar → law_IM g2 a2 → law_R g g2 → hk_W D (jT cI cJ) (fun q : Nat => s.heap.size ≤ q) s H locs (([(al, .inl (cJ, 1, .inr (.inl bl)))] ++ xw cI cJ ad g lg ar bk) ++ mw cI cJ md g2 l2 a2 b2) → lv_has ls 7 [(4, .int i), (3, .ref al), (2, .ref (md 0)), (1, .ref (ad 0)), (0, .ref b)] → W p l e room_1 s m #[Value.ref b] below meth c H locs (cells + 2) (slots + 12) (lw_Z below #[Value.ref b] s) (F0 m 643 ls [])) : W p l e room_1 s m #[Value.ref b] below meth c H locs cells slots (lw_Z below #[Value.ref b] s) (F0 m 165 ls []) := by
  have hA : ∀ q : Nat, s.heap.size ≤ q → (fun q : Nat => s.heap.size ≤ q) q := fun _ h => h
  have hbA : ¬ (fun q : Nat => s.heap.size ≤ q) b := Nat.not_le.mpr hbl
  refine lv_aload_n hx hb dL_law_165 rfl (lv_at hl 3 rfl) ?_
  refine lv_aload_n hx hb dL_law_166 rfl (lv_at hl 4 rfl) ?_
  refine lv_iload hx hb dL_law_167 (lv_at hl 0 rfl) ?_
  refine lv_iconst (v := 1) hx hb dL_law_169 (by decide) ?_
  refine lv_iadd hx hb dL_law_170 ?_
  refine hk_topi (i + 1) rfl ?_
  refine va_sld hx hb hX hbl hbA hw.2.2.1 (law_ix 1 hi hL (by decide)) dL_law_171 ?_
  refine hk_topi (xs (i + 1).toNatClampNeg) rfl ?_
  refine lv_aload_n hx hb dL_law_172 rfl (lv_at hl 4 rfl) ?_
  refine lv_iload hx hb dL_law_173 (lv_at hl 0 rfl) ?_
  refine lv_iconst (v := 2) hx hb dL_law_175 (by decide) ?_
  refine lv_iadd hx hb dL_law_176 ?_
  refine hk_topi (i + 2) rfl ?_
  refine va_sld hx hb hX hbl hbA hw.2.2.1 (law_ix 2 hi hL (by decide)) dL_law_177 ?_
  refine hk_topi (xs (i + 2).toNatClampNeg) rfl ?_
  refine jp_Vi (wc := xw cI cJ ad g lg ar bk) (wr := [(al, .inl (cJ, 1, .inr (.inl bl)))] ++ mw cI cJ md g2 l2 a2 b2) (As := [.int (xs (i + 1).toNatClampNeg), .int (xs (i + 2).toNatClampNeg)]) (rest := []) ⟨hx, hb, hml, hown, hts⟩ hZ hw hA [1, 2, 3, 4, 5, 6, 7, 8, 9, 10, 11, 12, 13, 14, 15, 16, 17, 18, 19, 20, 21, 22, 23, 24, 25, 26, 27, 28, 29, 30, 31] [0, 32, 33, 34, 35, 36, 37, 38, 39, 40, 41, 42, 43, 44, 45, 46, 47, 48, 49, 50, 51, 52, 53, 54, 55, 56, 57] rfl rfl (by decide) (by decide) (by decide) (jx_X11_filter l hlt D t3 cI cJ ad g lg ar bk _ ((xs (i + 1).toNatClampNeg)) ((xs (i + 2).toNatClampNeg))) (fun _ _ _ _ h => h) (cwV 2 hts gl_X11_filter rfl rfl rfl (by decide +kernel) ⟨Nat.le_of_ble_eq_true rfl, Nat.le_of_ble_eq_true rfl⟩) 0 (ci := 14) (T := TX11) (N := 11) rfl rfl rfl hl.1 rfl (Nat.le_of_ble_eq_true rfl) dL_law_178 ⟨by omega, by omega⟩ (fun r1 g1 l1 a1 b1 H locs hp1 hw => ?_)
  have hI1 := li_X11_filter hI hp1
  have hR1 := lr_X11_filter hR hp1
  refine lv_pop hx hb dL_law_181 rfl ?_
  refine lv_aload_n hx hb dL_law_182 rfl (lv_at hl 2 rfl) ?_
  refine lv_aload_n hx hb dL_law_183 rfl (lv_at hl 4 rfl) ?_
  refine lv_iload hx hb dL_law_184 (lv_at hl 0 rfl) ?_
  refine lv_iconst (v := 1) hx hb dL_law_186 (by decide) ?_
  refine lv_iadd hx hb dL_law_187 ?_
  refine hk_topi (i + 1) rfl ?_
  refine va_sld hx hb hX hbl hbA hw.2.2.1 (law_ix 1 hi hL (by decide)) dL_law_188 ?_
  refine hk_topi (xs (i + 1).toNatClampNeg) rfl ?_
  refine lv_aload_n hx hb dL_law_189 rfl (lv_at hl 4 rfl) ?_
  refine lv_iload hx hb dL_law_190 (lv_at hl 0 rfl) ?_
  refine lv_iconst (v := 2) hx hb dL_law_192 (by decide) ?_
  refine lv_iadd hx hb dL_law_193 ?_
  refine hk_topi (i + 2) rfl ?_
  refine va_sld hx hb hX hbl hbA hw.2.2.1 (law_ix 2 hi hL (by decide)) dL_law_194 ?_
  refine hk_topi (xs (i + 2).toNatClampNeg) rfl ?_
  obtain ⟨v0, v1, v2, v3, v4, v5, v6, v7, v8, v9, v10, v11, v12, v13, v14, v15, v16, v17, v18, v19, v20, v21, v22⟩ := id hJ
  refine jp_Vi (wc := mw cI cJ md g2 l2 a2 b2) (wr := [(al, .inl (cJ, 1, .inr (.inl bl)))] ++ xw cI cJ ad g1 l1 a1 b1) (As := [.int (xs (i + 1).toNatClampNeg), .int (xs (i + 2).toNatClampNeg)]) (rest := []) ⟨hx, hb, hml, hown, hts⟩ hZ hw hA [1, 2, 3, 4, 5, 6, 7, 8, 9, 10, 11, 12, 13, 14, 15, 16, 17, 18, 19, 20, 21, 22, 23, 24, 25, 26] [0, 27, 28, 29, 30, 31, 32, 33, 34, 35, 36, 37, 38, 39, 40, 41, 42, 43, 44, 45, 46, 47, 48, 49, 50, 51, 52, 53, 54, 55, 56, 57] rfl rfl (by decide) (by decide) (by decide) (jm_X12_filter l hlt D t3 cI cJ md g2 l2 a2 b2 _ ((xs (i + 1).toNatClampNeg)) ((xs (i + 2).toNatClampNeg)) v4) (fun _ _ _ _ h => h) (cwV 2 hts gl_X12_filter rfl rfl rfl (by decide +kernel) ⟨Nat.le_of_ble_eq_true rfl, Nat.le_of_ble_eq_true rfl⟩) 0 (ci := 15) (T := TX12) (N := 92) rfl rfl rfl hl.1 rfl (Nat.le_of_ble_eq_true rfl) dL_law_195 ⟨by omega, by omega⟩ (fun r2 g2 l2 a2 b2 H locs hp2 hw => ?_)
  have hJ2 := li_X12_filter hJ hp2
  have hR2 := lr_X12_filter hR1 hp2
  refine lv_pop hx hb dL_law_198 rfl ?_
  refine lv_goto (tgt := 643) hx hb dL_law_199 (by decide) ?_
  refine W.widen (k := cells + 2) (n := slots + 12) (by omega) (by omega) ?_
  exact kk g1 l1 a1 b1 g2 l2 a2 b2 bl ls _ _ hI1 hJ2 hR2 hw hl

set_option maxHeartbeats 4000000 in
set_option maxRecDepth 100000 in
theorem law_c2 {p : Program} {e : Env} {s : State} {m : MethodId} {below : List Frame} {meth : Method} {c : Code} {l : Launch} {b L : Nat} {xs : Nat → Int32} {D : va_G} {cI cJ : ClassId} {t3 : Nat × Nat × Nat} {ad md : Nat → Nat} {al : Nat} {g : Nat → Int32} {lg : Nat → Int64} {ar : Nat → Nat → Int32} {bk : Nat → Int64} {g2 : Nat → Int32} {l2 : Nat → Int64} {a2 : Nat → Nat → Int32} {b2 : Nat → Int64} {bl : Nat → Int64} {i : Int32} {cells slots : Nat} {H : Heap} {locs : List Loc} {ls : Array Slot} (hlt : l.stackTraces = false) (hx : p.tables.exec = Jvm.exec) (hb : c.code = code) (hr : meth.sig.returnType = ret) (hml : c.maxLocals = 7) (hown : s.vm.findClass RL = some m.cls) (hts : ∀ w ∈ lw_tbl, w.before #[Value.ref b] s = true) (hbl : b < s.heap.size) (hlocks : meth.locks = false) (hX : va_X b L xs s s.heap) (hL : L ≤ 3073) (hZ : hk_YY t3 (fun q : Nat => s.heap.size ≤ q) s) (hi : 1 ≤ i.toInt ∧ i.toInt + 6 ≤ (L : Int)) (hw : hk_W D (jT cI cJ) (fun q : Nat => s.heap.size ≤ q) s H locs (([(al, .inl (cJ, 1, .inr (.inl bl)))] ++ xw cI cJ ad g lg ar bk) ++ mw cI cJ md g2 l2 a2 b2)) (hI : law_IX g ar) (hJ : law_IM g2 a2) (hR : law_R g g2) (hl : lv_has ls 7 [(4, .int i), (3, .ref al), (2, .ref (md 0)), (1, .ref (ad 0)), (0, .ref b)]) (hc : cells + 2 ≤ room_1.cells) (hs : slots + 12 ≤ room_1.slots) (kk : ∀ (g : Nat → Int32) (lg : Nat → Int64) (ar : Nat → Nat → Int32) (bk : Nat → Int64) (g2 : Nat → Int32) (l2 : Nat → Int64) (a2 : Nat → Nat → Int32) (b2 : Nat → Int64) (bl : Nat → Int64) (ls : Array Slot) (H : Heap) (locs : List Loc), law_IX g ar → law_IM g2 a2 → law_R g g2 → hk_W D (jT cI cJ) (fun q : Nat => s.heap.size ≤ q) s H locs (([(al, .inl (cJ, 1, .inr (.inl bl)))] ++ xw cI cJ ad g lg ar bk) ++ mw cI cJ md g2 l2 a2 b2) → lv_has ls 7 [(4, .int i), (3, .ref al), (2, .ref (md 0)), (1, .ref (ad 0)), (0, .ref b)] → W p l e room_1 s m #[Value.ref b] below meth c H locs (cells + 2) (slots + 12) (lw_Z below #[Value.ref b] s) (F0 m 643 ls [])) : W p l e room_1 s m #[Value.ref b] below meth c H locs cells slots (lw_Z below #[Value.ref b] s) (F0 m 202 ls []) := by
  have hA : ∀ q : Nat, s.heap.size ≤ q → (fun q : Nat => s.heap.size ≤ q) q := fun _ h => h
  have hbA : ¬ (fun q : Nat => s.heap.size ≤ q) b := Nat.not_le.mpr hbl
  refine lv_aload_n hx hb dL_law_202 rfl (lv_at hl 3 rfl) ?_
  refine lv_aload_n hx hb dL_law_203 rfl (lv_at hl 4 rfl) ?_
  refine lv_iload hx hb dL_law_204 (lv_at hl 0 rfl) ?_
  refine lv_iconst (v := 1) hx hb dL_law_206 (by decide) ?_
  refine lv_iadd hx hb dL_law_207 ?_
  refine hk_topi (i + 1) rfl ?_
  refine va_sld hx hb hX hbl hbA hw.2.2.1 (law_ix 1 hi hL (by decide)) dL_law_208 ?_
  refine hk_topi (xs (i + 1).toNatClampNeg) rfl ?_
  refine lv_aload_n hx hb dL_law_209 rfl (lv_at hl 4 rfl) ?_
  refine lv_iload hx hb dL_law_210 (lv_at hl 0 rfl) ?_
  refine lv_iconst (v := 2) hx hb dL_law_212 (by decide) ?_
  refine lv_iadd hx hb dL_law_213 ?_
  refine hk_topi (i + 2) rfl ?_
  refine va_sld hx hb hX hbl hbA hw.2.2.1 (law_ix 2 hi hL (by decide)) dL_law_214 ?_
  refine hk_topi (xs (i + 2).toNatClampNeg) rfl ?_
  refine lv_aload_n hx hb dL_law_215 rfl (lv_at hl 4 rfl) ?_
  refine lv_iload hx hb dL_law_216 (lv_at hl 0 rfl) ?_
  refine lv_iconst (v := 3) hx hb dL_law_218 (by decide) ?_
  refine lv_iadd hx hb dL_law_219 ?_
  refine hk_topi (i + 3) rfl ?_
  refine va_sld hx hb hX hbl hbA hw.2.2.1 (law_ix 3 hi hL (by decide)) dL_law_220 ?_
  refine hk_topi (xs (i + 3).toNatClampNeg) rfl ?_
  refine lv_aload_n hx hb dL_law_221 rfl (lv_at hl 4 rfl) ?_
  refine lv_iload hx hb dL_law_222 (lv_at hl 0 rfl) ?_
  refine lv_iconst (v := 4) hx hb dL_law_224 (by decide) ?_
  refine lv_iadd hx hb dL_law_225 ?_
  refine hk_topi (i + 4) rfl ?_
  refine va_sld hx hb hX hbl hbA hw.2.2.1 (law_ix 4 hi hL (by decide)) dL_law_226 ?_
  refine hk_topi (xs (i + 4).toNatClampNeg) rfl ?_
  refine lv_aload_n hx hb dL_law_227 rfl (lv_at hl 4 rfl) ?_
  refine lv_iload hx hb dL_law_228 (lv_at hl 0 rfl) ?_
  refine lv_iconst (v := 5) hx hb dL_law_230 (by decide) ?_
  refine lv_iadd hx hb dL_law_231 ?_
  refine hk_topi (i + 5) rfl ?_
  refine va_sld hx hb hX hbl hbA hw.2.2.1 (law_ix 5 hi hL (by decide)) dL_law_232 ?_
  refine hk_topi (xs (i + 5).toNatClampNeg) rfl ?_
  obtain ⟨u0, u1, u2, u3, u4, u5, u6, u7, u8, u9, u10, u11, u12, u13, u14⟩ := id hI
  refine jp_Vi (wc := xw cI cJ ad g lg ar bk) (wr := [(al, .inl (cJ, 1, .inr (.inl bl)))] ++ mw cI cJ md g2 l2 a2 b2) (As := [.int (xs (i + 1).toNatClampNeg), .int (xs (i + 2).toNatClampNeg), .int (xs (i + 3).toNatClampNeg), .int (xs (i + 4).toNatClampNeg), .int (xs (i + 5).toNatClampNeg)]) (rest := []) ⟨hx, hb, hml, hown, hts⟩ hZ hw hA [1, 2, 3, 4, 5, 6, 7, 8, 9, 10, 11, 12, 13, 14, 15, 16, 17, 18, 19, 20, 21, 22, 23, 24, 25, 26, 27, 28, 29, 30, 31] [0, 32, 33, 34, 35, 36, 37, 38, 39, 40, 41, 42, 43, 44, 45, 46, 47, 48, 49, 50, 51, 52, 53, 54, 55, 56, 57] rfl rfl (by decide) (by decide) (by decide) (jx_X11_feed l hlt D t3 cI cJ ad g lg ar bk _ ((xs (i + 1).toNatClampNeg)) ((xs (i + 2).toNatClampNeg)) ((xs (i + 3).toNatClampNeg)) ((xs (i + 4).toNatClampNeg)) ((xs (i + 5).toNatClampNeg)) u0 u1) (fun _ _ _ _ h => h) (cwV 5 hts gl_X11_feed rfl rfl rfl (by decide +kernel) ⟨Nat.le_of_ble_eq_true rfl, Nat.le_of_ble_eq_true rfl⟩) 0 (ci := 14) (T := TX11) (N := 11) rfl rfl rfl hl.1 rfl (Nat.le_of_ble_eq_true rfl) dL_law_233 ⟨by omega, by omega⟩ (fun r1 g1 l1 a1 b1 H locs hp1 hw => ?_)
  have hI1 := li_X11_feed hI hp1
  have hR1 := lr_X11_feed hR hp1
  refine lv_pop hx hb dL_law_236 rfl ?_
  refine lv_aload_n hx hb dL_law_237 rfl (lv_at hl 2 rfl) ?_
  refine lv_aload_n hx hb dL_law_238 rfl (lv_at hl 4 rfl) ?_
  refine lv_iload hx hb dL_law_239 (lv_at hl 0 rfl) ?_
  refine lv_iconst (v := 1) hx hb dL_law_241 (by decide) ?_
  refine lv_iadd hx hb dL_law_242 ?_
  refine hk_topi (i + 1) rfl ?_
  refine va_sld hx hb hX hbl hbA hw.2.2.1 (law_ix 1 hi hL (by decide)) dL_law_243 ?_
  refine hk_topi (xs (i + 1).toNatClampNeg) rfl ?_
  refine lv_aload_n hx hb dL_law_244 rfl (lv_at hl 4 rfl) ?_
  refine lv_iload hx hb dL_law_245 (lv_at hl 0 rfl) ?_
  refine lv_iconst (v := 2) hx hb dL_law_247 (by decide) ?_
  refine lv_iadd hx hb dL_law_248 ?_
  refine hk_topi (i + 2) rfl ?_
  refine va_sld hx hb hX hbl hbA hw.2.2.1 (law_ix 2 hi hL (by decide)) dL_law_249 ?_
  refine hk_topi (xs (i + 2).toNatClampNeg) rfl ?_
  refine lv_aload_n hx hb dL_law_250 rfl (lv_at hl 4 rfl) ?_
  refine lv_iload hx hb dL_law_251 (lv_at hl 0 rfl) ?_
  refine lv_iconst (v := 3) hx hb dL_law_253 (by decide) ?_
  refine lv_iadd hx hb dL_law_254 ?_
  refine hk_topi (i + 3) rfl ?_
  refine va_sld hx hb hX hbl hbA hw.2.2.1 (law_ix 3 hi hL (by decide)) dL_law_255 ?_
  refine hk_topi (xs (i + 3).toNatClampNeg) rfl ?_
  refine lv_aload_n hx hb dL_law_256 rfl (lv_at hl 4 rfl) ?_
  refine lv_iload hx hb dL_law_257 (lv_at hl 0 rfl) ?_
  refine lv_iconst (v := 4) hx hb dL_law_259 (by decide) ?_
  refine lv_iadd hx hb dL_law_260 ?_
  refine hk_topi (i + 4) rfl ?_
  refine va_sld hx hb hX hbl hbA hw.2.2.1 (law_ix 4 hi hL (by decide)) dL_law_261 ?_
  refine hk_topi (xs (i + 4).toNatClampNeg) rfl ?_
  refine lv_aload_n hx hb dL_law_262 rfl (lv_at hl 4 rfl) ?_
  refine lv_iload hx hb dL_law_263 (lv_at hl 0 rfl) ?_
  refine lv_iconst (v := 5) hx hb dL_law_265 (by decide) ?_
  refine lv_iadd hx hb dL_law_266 ?_
  refine hk_topi (i + 5) rfl ?_
  refine va_sld hx hb hX hbl hbA hw.2.2.1 (law_ix 5 hi hL (by decide)) dL_law_267 ?_
  refine hk_topi (xs (i + 5).toNatClampNeg) rfl ?_
  obtain ⟨v0, v1, v2, v3, v4, v5, v6, v7, v8, v9, v10, v11, v12, v13, v14, v15, v16, v17, v18, v19, v20, v21, v22⟩ := id hJ
  refine jp_Vi (wc := mw cI cJ md g2 l2 a2 b2) (wr := [(al, .inl (cJ, 1, .inr (.inl bl)))] ++ xw cI cJ ad g1 l1 a1 b1) (As := [.int (xs (i + 1).toNatClampNeg), .int (xs (i + 2).toNatClampNeg), .int (xs (i + 3).toNatClampNeg), .int (xs (i + 4).toNatClampNeg), .int (xs (i + 5).toNatClampNeg)]) (rest := []) ⟨hx, hb, hml, hown, hts⟩ hZ hw hA [1, 2, 3, 4, 5, 6, 7, 8, 9, 10, 11, 12, 13, 14, 15, 16, 17, 18, 19, 20, 21, 22, 23, 24, 25, 26] [0, 27, 28, 29, 30, 31, 32, 33, 34, 35, 36, 37, 38, 39, 40, 41, 42, 43, 44, 45, 46, 47, 48, 49, 50, 51, 52, 53, 54, 55, 56, 57] rfl rfl (by decide) (by decide) (by decide) (jm_X12_feed l hlt D t3 cI cJ md g2 l2 a2 b2 _ ((xs (i + 1).toNatClampNeg)) ((xs (i + 2).toNatClampNeg)) ((xs (i + 3).toNatClampNeg)) ((xs (i + 4).toNatClampNeg)) ((xs (i + 5).toNatClampNeg)) v0 v1) (fun _ _ _ _ h => h) (cwV 5 hts gl_X12_feed rfl rfl rfl (by decide +kernel) ⟨Nat.le_of_ble_eq_true rfl, Nat.le_of_ble_eq_true rfl⟩) 0 (ci := 15) (T := TX12) (N := 92) rfl rfl rfl hl.1 rfl (Nat.le_of_ble_eq_true rfl) dL_law_268 ⟨by omega, by omega⟩ (fun r2 g2 l2 a2 b2 H locs hp2 hw => ?_)
  have hJ2 := li_X12_feed hJ hp2
  have hR2 := lr_X12_feed hR1 hp2
  refine lv_pop hx hb dL_law_271 rfl ?_
  refine lv_goto (tgt := 643) hx hb dL_law_272 (by decide) ?_
  refine W.widen (k := cells + 2) (n := slots + 12) (by omega) (by omega) ?_
  exact kk g1 l1 a1 b1 g2 l2 a2 b2 bl ls _ _ hI1 hJ2 hR2 hw hl

set_option maxHeartbeats 4000000 in
set_option maxRecDepth 100000 in
theorem law_c3 {p : Program} {e : Env} {s : State} {m : MethodId} {below : List Frame} {meth : Method} {c : Code} {l : Launch} {b L : Nat} {xs : Nat → Int32} {D : va_G} {cI cJ : ClassId} {t3 : Nat × Nat × Nat} {ad md : Nat → Nat} {al : Nat} {g : Nat → Int32} {lg : Nat → Int64} {ar : Nat → Nat → Int32} {bk : Nat → Int64} {g2 : Nat → Int32} {l2 : Nat → Int64} {a2 : Nat → Nat → Int32} {b2 : Nat → Int64} {bl : Nat → Int64} {i : Int32} {cells slots : Nat} {H : Heap} {locs : List Loc} {ls : Array Slot} (hlt : l.stackTraces = false) (hx : p.tables.exec = Jvm.exec) (hb : c.code = code) (hr : meth.sig.returnType = ret) (hml : c.maxLocals = 7) (hown : s.vm.findClass RL = some m.cls) (hts : ∀ w ∈ lw_tbl, w.before #[Value.ref b] s = true) (hbl : b < s.heap.size) (hlocks : meth.locks = false) (hX : va_X b L xs s s.heap) (hL : L ≤ 3073) (hZ : hk_YY t3 (fun q : Nat => s.heap.size ≤ q) s) (hi : 1 ≤ i.toInt ∧ i.toInt + 6 ≤ (L : Int)) (hw : hk_W D (jT cI cJ) (fun q : Nat => s.heap.size ≤ q) s H locs (([(al, .inl (cJ, 1, .inr (.inl bl)))] ++ xw cI cJ ad g lg ar bk) ++ mw cI cJ md g2 l2 a2 b2)) (hI : law_IX g ar) (hJ : law_IM g2 a2) (hR : law_R g g2) (hl : lv_has ls 7 [(4, .int i), (3, .ref al), (2, .ref (md 0)), (1, .ref (ad 0)), (0, .ref b)]) (hc : cells + 2 ≤ room_1.cells) (hs : slots + 12 ≤ room_1.slots) (kk : ∀ (g : Nat → Int32) (lg : Nat → Int64) (ar : Nat → Nat → Int32) (bk : Nat → Int64) (g2 : Nat → Int32) (l2 : Nat → Int64) (a2 : Nat → Nat → Int32) (b2 : Nat → Int64) (bl : Nat → Int64) (ls : Array Slot) (H : Heap) (locs : List Loc), law_IX g ar → law_IM g2 a2 → law_R g g2 → hk_W D (jT cI cJ) (fun q : Nat => s.heap.size ≤ q) s H locs (([(al, .inl (cJ, 1, .inr (.inl bl)))] ++ xw cI cJ ad g lg ar bk) ++ mw cI cJ md g2 l2 a2 b2) → lv_has ls 7 [(4, .int i), (3, .ref al), (2, .ref (md 0)), (1, .ref (ad 0)), (0, .ref b)] → W p l e room_1 s m #[Value.ref b] below meth c H locs (cells + 2) (slots + 12) (lw_Z below #[Value.ref b] s) (F0 m 643 ls [])) : W p l e room_1 s m #[Value.ref b] below meth c H locs cells slots (lw_Z below #[Value.ref b] s) (F0 m 275 ls []) := by
  have hA : ∀ q : Nat, s.heap.size ≤ q → (fun q : Nat => s.heap.size ≤ q) q := fun _ h => h
  have hbA : ¬ (fun q : Nat => s.heap.size ≤ q) b := Nat.not_le.mpr hbl
  refine lv_aload_n hx hb dL_law_275 rfl (lv_at hl 3 rfl) ?_
  refine lv_aload_n hx hb dL_law_276 rfl (lv_at hl 4 rfl) ?_
  refine lv_iload hx hb dL_law_277 (lv_at hl 0 rfl) ?_
  refine lv_iconst (v := 1) hx hb dL_law_279 (by decide) ?_
  refine lv_iadd hx hb dL_law_280 ?_
  refine hk_topi (i + 1) rfl ?_
  refine va_sld hx hb hX hbl hbA hw.2.2.1 (law_ix 1 hi hL (by decide)) dL_law_281 ?_
  refine hk_topi (xs (i + 1).toNatClampNeg) rfl ?_
  obtain ⟨u0, u1, u2, u3, u4, u5, u6, u7, u8, u9, u10, u11, u12, u13, u14⟩ := id hI
  refine jp_Vi (wc := xw cI cJ ad g lg ar bk) (wr := [(al, .inl (cJ, 1, .inr (.inl bl)))] ++ mw cI cJ md g2 l2 a2 b2) (As := [.int (xs (i + 1).toNatClampNeg)]) (rest := []) ⟨hx, hb, hml, hown, hts⟩ hZ hw hA [1, 2, 3, 4, 5, 6, 7, 8, 9, 10, 11, 12, 13, 14, 15, 16, 17, 18, 19, 20, 21, 22, 23, 24, 25, 26, 27, 28, 29, 30, 31] [0, 32, 33, 34, 35, 36, 37, 38, 39, 40, 41, 42, 43, 44, 45, 46, 47, 48, 49, 50, 51, 52, 53, 54, 55, 56, 57] rfl rfl (by decide) (by decide) (by decide) (jx_X11_end l hlt D t3 cI cJ ad g lg ar bk _ ((xs (i + 1).toNatClampNeg)) u0) (fun _ _ _ _ h => h) (cwV 1 hts gl_X11_end rfl rfl rfl (by decide +kernel) ⟨Nat.le_of_ble_eq_true rfl, Nat.le_of_ble_eq_true rfl⟩) 0 (ci := 14) (T := TX11) (N := 11) rfl rfl rfl hl.1 rfl (Nat.le_of_ble_eq_true rfl) dL_law_282 ⟨by omega, by omega⟩ (fun r1 g1 l1 a1 b1 H locs hp1 hw => ?_)
  have hI1 := li_X11_end hI hp1
  have hR1 := lr_X11_end hR hp1
  refine lv_pop hx hb dL_law_285 rfl ?_
  refine lv_aload_n hx hb dL_law_286 rfl (lv_at hl 2 rfl) ?_
  refine lv_aload_n hx hb dL_law_287 rfl (lv_at hl 4 rfl) ?_
  refine lv_iload hx hb dL_law_288 (lv_at hl 0 rfl) ?_
  refine lv_iconst (v := 1) hx hb dL_law_290 (by decide) ?_
  refine lv_iadd hx hb dL_law_291 ?_
  refine hk_topi (i + 1) rfl ?_
  refine va_sld hx hb hX hbl hbA hw.2.2.1 (law_ix 1 hi hL (by decide)) dL_law_292 ?_
  refine hk_topi (xs (i + 1).toNatClampNeg) rfl ?_
  obtain ⟨v0, v1, v2, v3, v4, v5, v6, v7, v8, v9, v10, v11, v12, v13, v14, v15, v16, v17, v18, v19, v20, v21, v22⟩ := id hJ
  refine jp_Vi (wc := mw cI cJ md g2 l2 a2 b2) (wr := [(al, .inl (cJ, 1, .inr (.inl bl)))] ++ xw cI cJ ad g1 l1 a1 b1) (As := [.int (xs (i + 1).toNatClampNeg)]) (rest := []) ⟨hx, hb, hml, hown, hts⟩ hZ hw hA [1, 2, 3, 4, 5, 6, 7, 8, 9, 10, 11, 12, 13, 14, 15, 16, 17, 18, 19, 20, 21, 22, 23, 24, 25, 26] [0, 27, 28, 29, 30, 31, 32, 33, 34, 35, 36, 37, 38, 39, 40, 41, 42, 43, 44, 45, 46, 47, 48, 49, 50, 51, 52, 53, 54, 55, 56, 57] rfl rfl (by decide) (by decide) (by decide) (jm_X12_end l hlt D t3 cI cJ md g2 l2 a2 b2 _ ((xs (i + 1).toNatClampNeg)) v0) (fun _ _ _ _ h => h) (cwV 1 hts gl_X12_end rfl rfl rfl (by decide +kernel) ⟨Nat.le_of_ble_eq_true rfl, Nat.le_of_ble_eq_true rfl⟩) 0 (ci := 15) (T := TX12) (N := 92) rfl rfl rfl hl.1 rfl (Nat.le_of_ble_eq_true rfl) dL_law_293 ⟨by omega, by omega⟩ (fun r2 g2 l2 a2 b2 H locs hp2 hw => ?_)
  have hJ2 := li_X12_end hJ hp2
  have hR2 := lr_X12_end hR1 hp2
  refine lv_pop hx hb dL_law_296 rfl ?_
  refine lv_goto (tgt := 643) hx hb dL_law_297 (by decide) ?_
  refine W.widen (k := cells + 2) (n := slots + 12) (by omega) (by omega) ?_
  exact kk g1 l1 a1 b1 g2 l2 a2 b2 bl ls _ _ hI1 hJ2 hR2 hw hl

set_option maxHeartbeats 4000000 in
set_option maxRecDepth 100000 in
theorem law_c4 {p : Program} {e : Env} {s : State} {m : MethodId} {below : List Frame} {meth : Method} {c : Code} {l : Launch} {b L : Nat} {xs : Nat → Int32} {D : va_G} {cI cJ : ClassId} {t3 : Nat × Nat × Nat} {ad md : Nat → Nat} {al : Nat} {g : Nat → Int32} {lg : Nat → Int64} {ar : Nat → Nat → Int32} {bk : Nat → Int64} {g2 : Nat → Int32} {l2 : Nat → Int64} {a2 : Nat → Nat → Int32} {b2 : Nat → Int64} {bl : Nat → Int64} {i : Int32} {cells slots : Nat} {H : Heap} {locs : List Loc} {ls : Array Slot} (hlt : l.stackTraces = false) (hx : p.tables.exec = Jvm.exec) (hb : c.code = code) (hr : meth.sig.returnType = ret) (hml : c.maxLocals = 7) (hown : s.vm.findClass RL = some m.cls) (hts : ∀ w ∈ lw_tbl, w.before #[Value.ref b] s = true) (hbl : b < s.heap.size) (hlocks : meth.locks = false) (hX : va_X b L xs s s.heap) (hL : L ≤ 3073) (hZ : hk_YY t3 (fun q : Nat => s.heap.size ≤ q) s) (hi : 1 ≤ i.toInt ∧ i.toInt + 6 ≤ (L : Int)) (hw : hk_W D (jT cI cJ) (fun q : Nat => s.heap.size ≤ q) s H locs (([(al, .inl (cJ, 1, .inr (.inl bl)))] ++ xw cI cJ ad g lg ar bk) ++ mw cI cJ md g2 l2 a2 b2)) (hI : law_IX g ar) (hJ : law_IM g2 a2) (hR : law_R g g2) (hl : lv_has ls 7 [(4, .int i), (3, .ref al), (2, .ref (md 0)), (1, .ref (ad 0)), (0, .ref b)]) (hc : cells + 2 ≤ room_1.cells) (hs : slots + 12 ≤ room_1.slots) (kk : ∀ (g : Nat → Int32) (lg : Nat → Int64) (ar : Nat → Nat → Int32) (bk : Nat → Int64) (g2 : Nat → Int32) (l2 : Nat → Int64) (a2 : Nat → Nat → Int32) (b2 : Nat → Int64) (bl : Nat → Int64) (ls : Array Slot) (H : Heap) (locs : List Loc), law_IX g ar → law_IM g2 a2 → law_R g g2 → hk_W D (jT cI cJ) (fun q : Nat => s.heap.size ≤ q) s H locs (([(al, .inl (cJ, 1, .inr (.inl bl)))] ++ xw cI cJ ad g lg ar bk) ++ mw cI cJ md g2 l2 a2 b2) → lv_has ls 7 [(4, .int i), (3, .ref al), (2, .ref (md 0)), (1, .ref (ad 0)), (0, .ref b)] → W p l e room_1 s m #[Value.ref b] below meth c H locs (cells + 2) (slots + 12) (lw_Z below #[Value.ref b] s) (F0 m 643 ls [])) : W p l e room_1 s m #[Value.ref b] below meth c H locs cells slots (lw_Z below #[Value.ref b] s) (F0 m 300 ls []) := by
  have hA : ∀ q : Nat, s.heap.size ≤ q → (fun q : Nat => s.heap.size ≤ q) q := fun _ h => h
  have hbA : ¬ (fun q : Nat => s.heap.size ≤ q) b := Nat.not_le.mpr hbl
  refine lv_aload_n hx hb dL_law_300 rfl (lv_at hl 3 rfl) ?_
  refine lv_aload_n hx hb dL_law_301 rfl (lv_at hl 4 rfl) ?_
  refine lv_iload hx hb dL_law_302 (lv_at hl 0 rfl) ?_
  refine lv_iconst (v := 1) hx hb dL_law_304 (by decide) ?_
  refine lv_iadd hx hb dL_law_305 ?_
  refine hk_topi (i + 1) rfl ?_
  refine va_sld hx hb hX hbl hbA hw.2.2.1 (law_ix 1 hi hL (by decide)) dL_law_306 ?_
  refine hk_topi (xs (i + 1).toNatClampNeg) rfl ?_
  obtain ⟨u0, u1, u2, u3, u4, u5, u6, u7, u8, u9, u10, u11, u12, u13, u14⟩ := id hI
  refine jp_Vi (wc := xw cI cJ ad g lg ar bk) (wr := [(al, .inl (cJ, 1, .inr (.inl bl)))] ++ mw cI cJ md g2 l2 a2 b2) (As := [.int (xs (i + 1).toNatClampNeg)]) (rest := []) ⟨hx, hb, hml, hown, hts⟩ hZ hw hA [1, 2, 3, 4, 5, 6, 7, 8, 9, 10, 11, 12, 13, 14, 15, 16, 17, 18, 19, 20, 21, 22, 23, 24, 25, 26, 27, 28, 29, 30, 31] [0, 32, 33, 34, 35, 36, 37, 38, 39, 40, 41, 42, 43, 44, 45, 46, 47, 48, 49, 50, 51, 52, 53, 54, 55, 56, 57] rfl rfl (by decide) (by decide) (by decide) (jx_X11_octet l hlt D t3 cI cJ ad g lg ar bk _ ((xs (i + 1).toNatClampNeg)) u0 u1) (fun _ _ _ _ h => h) (cwV 1 hts gl_X11_octet rfl rfl rfl (by decide +kernel) ⟨Nat.le_of_ble_eq_true rfl, Nat.le_of_ble_eq_true rfl⟩) 0 (ci := 14) (T := TX11) (N := 11) rfl rfl rfl hl.1 rfl (Nat.le_of_ble_eq_true rfl) dL_law_307 ⟨by omega, by omega⟩ (fun r1 g1 l1 a1 b1 H locs hp1 hw => ?_)
  have hI1 := li_X11_octet hI hp1
  have hR1 := lr_X11_octet hR hp1
  refine lv_pop hx hb dL_law_310 rfl ?_
  refine lv_aload_n hx hb dL_law_311 rfl (lv_at hl 2 rfl) ?_
  refine lv_aload_n hx hb dL_law_312 rfl (lv_at hl 4 rfl) ?_
  refine lv_iload hx hb dL_law_313 (lv_at hl 0 rfl) ?_
  refine lv_iconst (v := 1) hx hb dL_law_315 (by decide) ?_
  refine lv_iadd hx hb dL_law_316 ?_
  refine hk_topi (i + 1) rfl ?_
  refine va_sld hx hb hX hbl hbA hw.2.2.1 (law_ix 1 hi hL (by decide)) dL_law_317 ?_
  refine hk_topi (xs (i + 1).toNatClampNeg) rfl ?_
  obtain ⟨v0, v1, v2, v3, v4, v5, v6, v7, v8, v9, v10, v11, v12, v13, v14, v15, v16, v17, v18, v19, v20, v21, v22⟩ := id hJ
  refine jp_Vi (wc := mw cI cJ md g2 l2 a2 b2) (wr := [(al, .inl (cJ, 1, .inr (.inl bl)))] ++ xw cI cJ ad g1 l1 a1 b1) (As := [.int (xs (i + 1).toNatClampNeg)]) (rest := []) ⟨hx, hb, hml, hown, hts⟩ hZ hw hA [1, 2, 3, 4, 5, 6, 7, 8, 9, 10, 11, 12, 13, 14, 15, 16, 17, 18, 19, 20, 21, 22, 23, 24, 25, 26] [0, 27, 28, 29, 30, 31, 32, 33, 34, 35, 36, 37, 38, 39, 40, 41, 42, 43, 44, 45, 46, 47, 48, 49, 50, 51, 52, 53, 54, 55, 56, 57] rfl rfl (by decide) (by decide) (by decide) (jm_X12_octet l hlt D t3 cI cJ md g2 l2 a2 b2 _ ((xs (i + 1).toNatClampNeg)) v0 v1) (fun _ _ _ _ h => h) (cwV 1 hts gl_X12_octet rfl rfl rfl (by decide +kernel) ⟨Nat.le_of_ble_eq_true rfl, Nat.le_of_ble_eq_true rfl⟩) 0 (ci := 15) (T := TX12) (N := 92) rfl rfl rfl hl.1 rfl (Nat.le_of_ble_eq_true rfl) dL_law_318 ⟨by omega, by omega⟩ (fun r2 g2 l2 a2 b2 H locs hp2 hw => ?_)
  have hJ2 := li_X12_octet hJ hp2
  have hR2 := lr_X12_octet hR1 hp2
  refine lv_pop hx hb dL_law_321 rfl ?_
  refine lv_goto (tgt := 643) hx hb dL_law_322 (by decide) ?_
  refine W.widen (k := cells + 2) (n := slots + 12) (by omega) (by omega) ?_
  exact kk g1 l1 a1 b1 g2 l2 a2 b2 bl ls _ _ hI1 hJ2 hR2 hw hl

set_option maxHeartbeats 4000000 in
set_option maxRecDepth 100000 in
theorem law_c5 {p : Program} {e : Env} {s : State} {m : MethodId} {below : List Frame} {meth : Method} {c : Code} {l : Launch} {b L : Nat} {xs : Nat → Int32} {D : va_G} {cI cJ : ClassId} {t3 : Nat × Nat × Nat} {ad md : Nat → Nat} {al : Nat} {g : Nat → Int32} {lg : Nat → Int64} {ar : Nat → Nat → Int32} {bk : Nat → Int64} {g2 : Nat → Int32} {l2 : Nat → Int64} {a2 : Nat → Nat → Int32} {b2 : Nat → Int64} {bl : Nat → Int64} {i : Int32} {cells slots : Nat} {H : Heap} {locs : List Loc} {ls : Array Slot} (hlt : l.stackTraces = false) (hx : p.tables.exec = Jvm.exec) (hb : c.code = code) (hr : meth.sig.returnType = ret) (hml : c.maxLocals = 7) (hown : s.vm.findClass RL = some m.cls) (hts : ∀ w ∈ lw_tbl, w.before #[Value.ref b] s = true) (hbl : b < s.heap.size) (hlocks : meth.locks = false) (hX : va_X b L xs s s.heap) (hL : L ≤ 3073) (hZ : hk_YY t3 (fun q : Nat => s.heap.size ≤ q) s) (hi : 1 ≤ i.toInt ∧ i.toInt + 6 ≤ (L : Int)) (hw : hk_W D (jT cI cJ) (fun q : Nat => s.heap.size ≤ q) s H locs (([(al, .inl (cJ, 1, .inr (.inl bl)))] ++ xw cI cJ ad g lg ar bk) ++ mw cI cJ md g2 l2 a2 b2)) (hI : law_IX g ar) (hJ : law_IM g2 a2) (hR : law_R g g2) (hl : lv_has ls 7 [(4, .int i), (3, .ref al), (2, .ref (md 0)), (1, .ref (ad 0)), (0, .ref b)]) (hc : cells + 2 ≤ room_1.cells) (hs : slots + 12 ≤ room_1.slots) (kk : ∀ (g : Nat → Int32) (lg : Nat → Int64) (ar : Nat → Nat → Int32) (bk : Nat → Int64) (g2 : Nat → Int32) (l2 : Nat → Int64) (a2 : Nat → Nat → Int32) (b2 : Nat → Int64) (bl : Nat → Int64) (ls : Array Slot) (H : Heap) (locs : List Loc), law_IX g ar → law_IM g2 a2 → law_R g g2 → hk_W D (jT cI cJ) (fun q : Nat => s.heap.size ≤ q) s H locs (([(al, .inl (cJ, 1, .inr (.inl bl)))] ++ xw cI cJ ad g lg ar bk) ++ mw cI cJ md g2 l2 a2 b2) → lv_has ls 7 [(4, .int i), (3, .ref al), (2, .ref (md 0)), (1, .ref (ad 0)), (0, .ref b)] → W p l e room_1 s m #[Value.ref b] below meth c H locs (cells + 2) (slots + 12) (lw_Z below #[Value.ref b] s) (F0 m 643 ls [])) : W p l e room_1 s m #[Value.ref b] below meth c H locs cells slots (lw_Z below #[Value.ref b] s) (F0 m 325 ls []) := by
  have hA : ∀ q : Nat, s.heap.size ≤ q → (fun q : Nat => s.heap.size ≤ q) q := fun _ h => h
  have hbA : ¬ (fun q : Nat => s.heap.size ≤ q) b := Nat.not_le.mpr hbl
  refine lv_aload_n hx hb dL_law_325 rfl (lv_at hl 3 rfl) ?_
  refine lv_aload_n hx hb dL_law_326 rfl (lv_at hl 4 rfl) ?_
  refine lv_iload hx hb dL_law_327 (lv_at hl 0 rfl) ?_
  refine lv_iconst (v := 1) hx hb dL_law_329 (by decide) ?_
  refine lv_iadd hx hb dL_law_330 ?_
  refine hk_topi (i + 1) rfl ?_
  refine va_sld hx hb hX hbl hbA hw.2.2.1 (law_ix 1 hi hL (by decide)) dL_law_331 ?_
  refine hk_topi (xs (i + 1).toNatClampNeg) rfl ?_
  obtain ⟨u0, u1, u2, u3, u4, u5, u6, u7, u8, u9, u10, u11, u12, u13, u14⟩ := id hI
  refine jp_Vi (wc := xw cI cJ ad g lg ar bk) (wr := [(al, .inl (cJ, 1, .inr (.inl bl)))] ++ mw cI cJ md g2 l2 a2 b2) (As := [.int (xs (i + 1).toNatClampNeg)]) (rest := []) ⟨hx, hb, hml, hown, hts⟩ hZ hw hA [1, 2, 3, 4, 5, 6, 7, 8, 9, 10, 11, 12, 13, 14, 15, 16, 17, 18, 19, 20, 21, 22, 23, 24, 25, 26, 27, 28, 29, 30, 31] [0, 32, 33, 34, 35, 36, 37, 38, 39, 40, 41, 42, 43, 44, 45, 46, 47, 48, 49, 50, 51, 52, 53, 54, 55, 56, 57] rfl rfl (by decide) (by decide) (by decide) (jx_X11_pack l hlt D t3 cI cJ ad g lg ar bk _ ((xs (i + 1).toNatClampNeg)) u2 u3 u4 u5 u6 u7 u8 u0 u9 u10 u11 u1 u12 u13) (fun _ _ _ _ h => h) (cwV 1 hts gl_X11_pack rfl rfl rfl (by decide +kernel) ⟨Nat.le_of_ble_eq_true rfl, Nat.le_of_ble_eq_true rfl⟩) 0 (ci := 14) (T := TX11) (N := 11) rfl rfl rfl hl.1 rfl (Nat.le_of_ble_eq_true rfl) dL_law_332 ⟨by omega, by omega⟩ (fun r1 g1 l1 a1 b1 H locs hp1 hw => ?_)
  have hI1 := li_X11_pack hI hp1
  have hR1 := lr_X11_pack hR hp1
  refine lv_pop hx hb dL_law_335 rfl ?_
  refine lv_aload_n hx hb dL_law_336 rfl (lv_at hl 2 rfl) ?_
  refine lv_aload_n hx hb dL_law_337 rfl (lv_at hl 4 rfl) ?_
  refine lv_iload hx hb dL_law_338 (lv_at hl 0 rfl) ?_
  refine lv_iconst (v := 1) hx hb dL_law_340 (by decide) ?_
  refine lv_iadd hx hb dL_law_341 ?_
  refine hk_topi (i + 1) rfl ?_
  refine va_sld hx hb hX hbl hbA hw.2.2.1 (law_ix 1 hi hL (by decide)) dL_law_342 ?_
  refine hk_topi (xs (i + 1).toNatClampNeg) rfl ?_
  obtain ⟨v0, v1, v2, v3, v4, v5, v6, v7, v8, v9, v10, v11, v12, v13, v14, v15, v16, v17, v18, v19, v20, v21, v22⟩ := id hJ
  refine jp_Vi (wc := mw cI cJ md g2 l2 a2 b2) (wr := [(al, .inl (cJ, 1, .inr (.inl bl)))] ++ xw cI cJ ad g1 l1 a1 b1) (As := [.int (xs (i + 1).toNatClampNeg)]) (rest := []) ⟨hx, hb, hml, hown, hts⟩ hZ hw hA [1, 2, 3, 4, 5, 6, 7, 8, 9, 10, 11, 12, 13, 14, 15, 16, 17, 18, 19, 20, 21, 22, 23, 24, 25, 26] [0, 27, 28, 29, 30, 31, 32, 33, 34, 35, 36, 37, 38, 39, 40, 41, 42, 43, 44, 45, 46, 47, 48, 49, 50, 51, 52, 53, 54, 55, 56, 57] rfl rfl (by decide) (by decide) (by decide) (jm_X12_pack l hlt D t3 cI cJ md g2 l2 a2 b2 _ ((xs (i + 1).toNatClampNeg)) v0 v1 v15 v2 v8 v16 v17 v18 v19 v7 v20 v9 v6 v21 v22 v4 v5 v12 v13 v14 v3) (fun _ _ _ _ h => h) (cwV 1 hts gl_X12_pack rfl rfl rfl (by decide +kernel) ⟨Nat.le_of_ble_eq_true rfl, Nat.le_of_ble_eq_true rfl⟩) 0 (ci := 15) (T := TX12) (N := 92) rfl rfl rfl hl.1 rfl (Nat.le_of_ble_eq_true rfl) dL_law_343 ⟨by omega, by omega⟩ (fun r2 g2 l2 a2 b2 H locs hp2 hw => ?_)
  have hJ2 := li_X12_pack hJ hp2
  have hR2 := lr_X12_pack hR1 hp2
  refine lv_pop hx hb dL_law_346 rfl ?_
  refine lv_goto (tgt := 643) hx hb dL_law_347 (by decide) ?_
  refine W.widen (k := cells + 2) (n := slots + 12) (by omega) (by omega) ?_
  exact kk g1 l1 a1 b1 g2 l2 a2 b2 bl ls _ _ hI1 hJ2 hR2 hw hl

set_option maxHeartbeats 4000000 in
set_option maxRecDepth 100000 in
theorem law_c6 {p : Program} {e : Env} {s : State} {m : MethodId} {below : List Frame} {meth : Method} {c : Code} {l : Launch} {b L : Nat} {xs : Nat → Int32} {D : va_G} {cI cJ : ClassId} {t3 : Nat × Nat × Nat} {ad md : Nat → Nat} {al : Nat} {g : Nat → Int32} {lg : Nat → Int64} {ar : Nat → Nat → Int32} {bk : Nat → Int64} {g2 : Nat → Int32} {l2 : Nat → Int64} {a2 : Nat → Nat → Int32} {b2 : Nat → Int64} {bl : Nat → Int64} {i : Int32} {cells slots : Nat} {H : Heap} {locs : List Loc} {ls : Array Slot} (hlt : l.stackTraces = false) (hx : p.tables.exec = Jvm.exec) (hb : c.code = code) (hr : meth.sig.returnType = ret) (hml : c.maxLocals = 7) (hown : s.vm.findClass RL = some m.cls) (hts : ∀ w ∈ lw_tbl, w.before #[Value.ref b] s = true) (hbl : b < s.heap.size) (hlocks : meth.locks = false) (hX : va_X b L xs s s.heap) (hL : L ≤ 3073) (hZ : hk_YY t3 (fun q : Nat => s.heap.size ≤ q) s) (hi : 1 ≤ i.toInt ∧ i.toInt + 6 ≤ (L : Int)) (hw : hk_W D (jT cI cJ) (fun q : Nat => s.heap.size ≤ q) s H locs (([(al, .inl (cJ, 1, .inr (.inl bl)))] ++ xw cI cJ ad g lg ar bk) ++ mw cI cJ md g2 l2 a2 b2)) (hI : law_IX g ar) (hJ : law_IM g2 a2) (hR : law_R g g2) (hl : lv_has ls 7 [(4, .int i), (3, .ref al), (2, .ref (md 0)), (1, .ref (ad 0)), (0, .ref b)]) (hc : cells + 2 ≤ room_1.cells) (hs : slots + 12 ≤ room_1.slots) (kk : ∀ (g : Nat → Int32) (lg : Nat → Int64) (ar : Nat → Nat → Int32) (bk : Nat → Int64) (g2 : Nat → Int32) (l2 : Nat → Int64) (a2 : Nat → Nat → Int32) (b2 : Nat → Int64) (bl : Nat → Int64) (ls : Array Slot) (H : Heap) (locs : List Loc), law_IX g ar → law_IM g2 a2 → law_R g g2 → hk_W D (jT cI cJ) (fun q : Nat => s.heap.size ≤ q) s H locs (([(al, .inl (cJ, 1, .inr (.inl bl)))] ++ xw cI cJ ad g lg ar bk) ++ mw cI cJ md g2 l2 a2 b2) → lv_has ls 7 [(4, .int i), (3, .ref al), (2, .ref (md 0)), (1, .ref (ad 0)), (0, .ref b)] → W p l e room_1 s m #[Value.ref b] below meth c H locs (cells + 2) (slots + 12) (lw_Z below #[Value.ref b] s) (F0 m 643 ls [])) : W p l e room_1 s m #[Value.ref b] below meth c H locs cells slots (lw_Z below #[Value.ref b] s) (F0 m 350 ls []) := by
  have hA : ∀ q : Nat, s.heap.size ≤ q → (fun q : Nat => s.heap.size ≤ q) q := fun _ h => h
  have hbA : ¬ (fun q : Nat => s.heap.size ≤ q) b := Nat.not_le.mpr hbl
  refine lv_aload_n hx hb dL_law_350 rfl (lv_at hl 3 rfl) ?_
  refine lv_aload_n hx hb dL_law_351 rfl (lv_at hl 4 rfl) ?_
  refine lv_iload hx hb dL_law_352 (lv_at hl 0 rfl) ?_
  refine lv_iconst (v := 1) hx hb dL_law_354 (by decide) ?_
  refine lv_iadd hx hb dL_law_355 ?_
  refine hk_topi (i + 1) rfl ?_
  refine va_sld hx hb hX hbl hbA hw.2.2.1 (law_ix 1 hi hL (by decide)) dL_law_356 ?_
  refine hk_topi (xs (i + 1).toNatClampNeg) rfl ?_
  obtain ⟨u0, u1, u2, u3, u4, u5, u6, u7, u8, u9, u10, u11, u12, u13, u14⟩ := id hI
  refine jp_Ni (wc := xw cI cJ ad g lg ar bk) (wr := [(al, .inl (cJ, 1, .inr (.inl bl)))] ++ mw cI cJ md g2 l2 a2 b2) (As := [.int (xs (i + 1).toNatClampNeg)]) (rest := []) ⟨hx, hb, hml, hown, hts⟩ hZ hw hA [1, 2, 3, 4, 5, 6, 7, 8, 9, 10, 11, 12, 13, 14, 15, 16, 17, 18, 19, 20, 21, 22, 23, 24, 25, 26, 27, 28, 29, 30, 31] [0, 32, 33, 34, 35, 36, 37, 38, 39, 40, 41, 42, 43, 44, 45, 46, 47, 48, 49, 50, 51, 52, 53, 54, 55, 56, 57] rfl rfl (by decide) (by decide) (by decide) (jo_X11_open l hlt D t3 cI cJ ad g lg ar bk _ ((xs (i + 1).toNatClampNeg)) u3 u14 u6 u7 u8 u1 u13 u0) (vx_cwVW 1 hts gl_X11_open rfl rfl rfl (by decide +kernel) ⟨Nat.le_of_ble_eq_true rfl, Nat.le_of_ble_eq_true rfl⟩) 0 (ci := 14) (T := TX11) (N := 11) rfl rfl rfl hl.1 rfl (Nat.le_of_ble_eq_true rfl) dL_law_357 ⟨by omega, by omega⟩ (fun r1 g1 l1 a1 b1 H locs hp1 hw => ?_)
  have hI1 := li_X11_open hI hp1
  have hR1 := lr_X11_open hR hp1
  refine lv_pop hx hb dL_law_360 rfl ?_
  refine lv_aload_n hx hb dL_law_361 rfl (lv_at hl 2 rfl) ?_
  refine lv_aload_n hx hb dL_law_362 rfl (lv_at hl 4 rfl) ?_
  refine lv_iload hx hb dL_law_363 (lv_at hl 0 rfl) ?_
  refine lv_iconst (v := 1) hx hb dL_law_365 (by decide) ?_
  refine lv_iadd hx hb dL_law_366 ?_
  refine hk_topi (i + 1) rfl ?_
  refine va_sld hx hb hX hbl hbA hw.2.2.1 (law_ix 1 hi hL (by decide)) dL_law_367 ?_
  refine hk_topi (xs (i + 1).toNatClampNeg) rfl ?_
  obtain ⟨v0, v1, v2, v3, v4, v5, v6, v7, v8, v9, v10, v11, v12, v13, v14, v15, v16, v17, v18, v19, v20, v21, v22⟩ := id hJ
  refine jp_Vi (wc := mw cI cJ md g2 l2 a2 b2) (wr := [(al, .inl (cJ, 1, .inr (.inl bl)))] ++ xw cI cJ ad g1 l1 a1 b1) (As := [.int (xs (i + 1).toNatClampNeg)]) (rest := []) ⟨hx, hb, hml, hown, hts⟩ hZ hw hA [1, 2, 3, 4, 5, 6, 7, 8, 9, 10, 11, 12, 13, 14, 15, 16, 17, 18, 19, 20, 21, 22, 23, 24, 25, 26] [0, 27, 28, 29, 30, 31, 32, 33, 34, 35, 36, 37, 38, 39, 40, 41, 42, 43, 44, 45, 46, 47, 48, 49, 50, 51, 52, 53, 54, 55, 56, 57] rfl rfl (by decide) (by decide) (by decide) (jm_X12_open l hlt D t3 cI cJ md g2 l2 a2 b2 _ ((xs (i + 1).toNatClampNeg)) v0 v2 v8 v1 v6 v9 v7 v10 v11 v5 v3 v12 v13 v14) (fun _ _ _ _ h => h) (cwV 1 hts gl_X12_open rfl rfl rfl (by decide +kernel) ⟨Nat.le_of_ble_eq_true rfl, Nat.le_of_ble_eq_true rfl⟩) 0 (ci := 15) (T := TX12) (N := 92) rfl rfl rfl hl.1 rfl (Nat.le_of_ble_eq_true rfl) dL_law_368 ⟨by omega, by omega⟩ (fun r2 g2 l2 a2 b2 H locs hp2 hw => ?_)
  have hJ2 := li_X12_open hJ hp2
  have hR2 := lr_X12_open hR1 hp2
  refine lv_pop hx hb dL_law_371 rfl ?_
  refine lv_goto (tgt := 643) hx hb dL_law_372 (by decide) ?_
  refine W.widen (k := cells + 2) (n := slots + 12) (by omega) (by omega) ?_
  exact kk g1 l1 a1 b1 g2 l2 a2 b2 bl ls _ _ hI1 hJ2 hR2 hw hl

set_option maxHeartbeats 4000000 in
set_option maxRecDepth 100000 in
theorem law_c7 {p : Program} {e : Env} {s : State} {m : MethodId} {below : List Frame} {meth : Method} {c : Code} {l : Launch} {b L : Nat} {xs : Nat → Int32} {D : va_G} {cI cJ : ClassId} {t3 : Nat × Nat × Nat} {ad md : Nat → Nat} {al : Nat} {g : Nat → Int32} {lg : Nat → Int64} {ar : Nat → Nat → Int32} {bk : Nat → Int64} {g2 : Nat → Int32} {l2 : Nat → Int64} {a2 : Nat → Nat → Int32} {b2 : Nat → Int64} {bl : Nat → Int64} {i : Int32} {cells slots : Nat} {H : Heap} {locs : List Loc} {ls : Array Slot} (hlt : l.stackTraces = false) (hx : p.tables.exec = Jvm.exec) (hb : c.code = code) (hr : meth.sig.returnType = ret) (hml : c.maxLocals = 7) (hown : s.vm.findClass RL = some m.cls) (hts : ∀ w ∈ lw_tbl, w.before #[Value.ref b] s = true) (hbl : b < s.heap.size) (hlocks : meth.locks = false) (hX : va_X b L xs s s.heap) (hL : L ≤ 3073) (hZ : hk_YY t3 (fun q : Nat => s.heap.size ≤ q) s) (hi : 1 ≤ i.toInt ∧ i.toInt + 6 ≤ (L : Int)) (hw : hk_W D (jT cI cJ) (fun q : Nat => s.heap.size ≤ q) s H locs (([(al, .inl (cJ, 1, .inr (.inl bl)))] ++ xw cI cJ ad g lg ar bk) ++ mw cI cJ md g2 l2 a2 b2)) (hI : law_IX g ar) (hJ : law_IM g2 a2) (hR : law_R g g2) (hl : lv_has ls 7 [(4, .int i), (3, .ref al), (2, .ref (md 0)), (1, .ref (ad 0)), (0, .ref b)]) (hc : cells + 2 ≤ room_1.cells) (hs : slots + 12 ≤ room_1.slots) (kk : ∀ (g : Nat → Int32) (lg : Nat → Int64) (ar : Nat → Nat → Int32) (bk : Nat → Int64) (g2 : Nat → Int32) (l2 : Nat → Int64) (a2 : Nat → Nat → Int32) (b2 : Nat → Int64) (bl : Nat → Int64) (ls : Array Slot) (H : Heap) (locs : List Loc), law_IX g ar → law_IM g2 a2 → law_R g g2 → hk_W D (jT cI cJ) (fun q : Nat => s.heap.size ≤ q) s H locs (([(al, .inl (cJ, 1, .inr (.inl bl)))] ++ xw cI cJ ad g lg ar bk) ++ mw cI cJ md g2 l2 a2 b2) → lv_has ls 7 [(4, .int i), (3, .ref al), (2, .ref (md 0)), (1, .ref (ad 0)), (0, .ref b)] → W p l e room_1 s m #[Value.ref b] below meth c H locs (cells + 2) (slots + 12) (lw_Z below #[Value.ref b] s) (F0 m 643 ls [])) : W p l e room_1 s m #[Value.ref b] below meth c H locs cells slots (lw_Z below #[Value.ref b] s) (F0 m 375 ls []) := by
  have hA : ∀ q : Nat, s.heap.size ≤ q → (fun q : Nat => s.heap.size ≤ q) q := fun _ h => h
  have hbA : ¬ (fun q : Nat => s.heap.size ≤ q) b := Nat.not_le.mpr hbl
  refine lv_aload_n hx hb dL_law_375 rfl (lv_at hl 3 rfl) ?_
  refine jp_Vi (wc := xw cI cJ ad g lg ar bk) (wr := [(al, .inl (cJ, 1, .inr (.inl bl)))] ++ mw cI cJ md g2 l2 a2 b2) (As := []) (rest := []) ⟨hx, hb, hml, hown, hts⟩ hZ hw hA [1, 2, 3, 4, 5, 6, 7, 8, 9, 10, 11, 12, 13, 14, 15, 16, 17, 18, 19, 20, 21, 22, 23, 24, 25, 26, 27, 28, 29, 30, 31] [0, 32, 33, 34, 35, 36, 37, 38, 39, 40, 41, 42, 43, 44, 45, 46, 47, 48, 49, 50, 51, 52, 53, 54, 55, 56, 57] rfl rfl (by decide) (by decide) (by decide) (jx_X11_rule l hlt D t3 cI cJ ad g lg ar bk _) (fun _ _ _ _ h => h) (cwV 0 hts gl_X11_rule rfl rfl rfl (by decide +kernel) ⟨Nat.le_of_ble_eq_true rfl, Nat.le_of_ble_eq_true rfl⟩) 0 (ci := 14) (T := TX11) (N := 11) rfl rfl rfl hl.1 rfl (Nat.le_of_ble_eq_true rfl) dL_law_376 ⟨by omega, by omega⟩ (fun r1 g1 l1 a1 b1 H locs hp1 hw => ?_)
  have hI1 := li_X11_rule hI hp1
  have hR1 := lr_X11_rule hR hp1
  refine lv_pop hx hb dL_law_379 rfl ?_
  refine lv_aload_n hx hb dL_law_380 rfl (lv_at hl 2 rfl) ?_
  refine jp_Vi (wc := mw cI cJ md g2 l2 a2 b2) (wr := [(al, .inl (cJ, 1, .inr (.inl bl)))] ++ xw cI cJ ad g1 l1 a1 b1) (As := []) (rest := []) ⟨hx, hb, hml, hown, hts⟩ hZ hw hA [1, 2, 3, 4, 5, 6, 7, 8, 9, 10, 11, 12, 13, 14, 15, 16, 17, 18, 19, 20, 21, 22, 23, 24, 25, 26] [0, 27, 28, 29, 30, 31, 32, 33, 34, 35, 36, 37, 38, 39, 40, 41, 42, 43, 44, 45, 46, 47, 48, 49, 50, 51, 52, 53, 54, 55, 56, 57] rfl rfl (by decide) (by decide) (by decide) (jm_X12_rule l hlt D t3 cI cJ md g2 l2 a2 b2 _) (fun _ _ _ _ h => h) (cwV 0 hts gl_X12_rule rfl rfl rfl (by decide +kernel) ⟨Nat.le_of_ble_eq_true rfl, Nat.le_of_ble_eq_true rfl⟩) 0 (ci := 15) (T := TX12) (N := 92) rfl rfl rfl hl.1 rfl (Nat.le_of_ble_eq_true rfl) dL_law_381 ⟨by omega, by omega⟩ (fun r2 g2 l2 a2 b2 H locs hp2 hw => ?_)
  have hJ2 := li_X12_rule hJ hp2
  have hR2 := lr_X12_rule hR1 hp2
  refine lv_pop hx hb dL_law_384 rfl ?_
  refine lv_goto (tgt := 643) hx hb dL_law_385 (by decide) ?_
  refine W.widen (k := cells + 2) (n := slots + 12) (by omega) (by omega) ?_
  exact kk g1 l1 a1 b1 g2 l2 a2 b2 bl ls _ _ hI1 hJ2 hR2 hw hl

set_option maxHeartbeats 4000000 in
set_option maxRecDepth 100000 in
theorem law_c8 {p : Program} {e : Env} {s : State} {m : MethodId} {below : List Frame} {meth : Method} {c : Code} {l : Launch} {b L : Nat} {xs : Nat → Int32} {D : va_G} {cI cJ : ClassId} {t3 : Nat × Nat × Nat} {ad md : Nat → Nat} {al : Nat} {g : Nat → Int32} {lg : Nat → Int64} {ar : Nat → Nat → Int32} {bk : Nat → Int64} {g2 : Nat → Int32} {l2 : Nat → Int64} {a2 : Nat → Nat → Int32} {b2 : Nat → Int64} {bl : Nat → Int64} {i : Int32} {cells slots : Nat} {H : Heap} {locs : List Loc} {ls : Array Slot} (hlt : l.stackTraces = false) (hx : p.tables.exec = Jvm.exec) (hb : c.code = code) (hr : meth.sig.returnType = ret) (hml : c.maxLocals = 7) (hown : s.vm.findClass RL = some m.cls) (hts : ∀ w ∈ lw_tbl, w.before #[Value.ref b] s = true) (hbl : b < s.heap.size) (hlocks : meth.locks = false) (hX : va_X b L xs s s.heap) (hL : L ≤ 3073) (hZ : hk_YY t3 (fun q : Nat => s.heap.size ≤ q) s) (hi : 1 ≤ i.toInt ∧ i.toInt + 6 ≤ (L : Int)) (hw : hk_W D (jT cI cJ) (fun q : Nat => s.heap.size ≤ q) s H locs (([(al, .inl (cJ, 1, .inr (.inl bl)))] ++ xw cI cJ ad g lg ar bk) ++ mw cI cJ md g2 l2 a2 b2)) (hI : law_IX g ar) (hJ : law_IM g2 a2) (hR : law_R g g2) (hl : lv_has ls 7 [(4, .int i), (3, .ref al), (2, .ref (md 0)), (1, .ref (ad 0)), (0, .ref b)]) (hc : cells + 2 ≤ room_1.cells) (hs : slots + 12 ≤ room_1.slots) (kk : ∀ (g : Nat → Int32) (lg : Nat → Int64) (ar : Nat → Nat → Int32) (bk : Nat → Int64) (g2 : Nat → Int32) (l2 : Nat → Int64) (a2 : Nat → Nat → Int32) (b2 : Nat → Int64) (bl : Nat → Int64) (ls : Array Slot) (H : Heap) (locs : List Loc), law_IX g ar → law_IM g2 a2 → law_R g g2 → hk_W D (jT cI cJ) (fun q : Nat => s.heap.size ≤ q) s H locs (([(al, .inl (cJ, 1, .inr (.inl bl)))] ++ xw cI cJ ad g lg ar bk) ++ mw cI cJ md g2 l2 a2 b2) → lv_has ls 7 [(4, .int i), (3, .ref al), (2, .ref (md 0)), (1, .ref (ad 0)), (0, .ref b)] → W p l e room_1 s m #[Value.ref b] below meth c H locs (cells + 2) (slots + 12) (lw_Z below #[Value.ref b] s) (F0 m 643 ls [])) : W p l e room_1 s m #[Value.ref b] below meth c H locs cells slots (lw_Z below #[Value.ref b] s) (F0 m 388 ls []) := by
  have hA : ∀ q : Nat, s.heap.size ≤ q → (fun q : Nat => s.heap.size ≤ q) q := fun _ h => h
  have hbA : ¬ (fun q : Nat => s.heap.size ≤ q) b := Nat.not_le.mpr hbl
  refine lv_aload_n hx hb dL_law_388 rfl (lv_at hl 3 rfl) ?_
  obtain ⟨u0, u1, u2, u3, u4, u5, u6, u7, u8, u9, u10, u11, u12, u13, u14⟩ := id hI
  refine jp_Vi (wc := xw cI cJ ad g lg ar bk) (wr := [(al, .inl (cJ, 1, .inr (.inl bl)))] ++ mw cI cJ md g2 l2 a2 b2) (As := []) (rest := []) ⟨hx, hb, hml, hown, hts⟩ hZ hw hA [1, 2, 3, 4, 5, 6, 7, 8, 9, 10, 11, 12, 13, 14, 15, 16, 17, 18, 19, 20, 21, 22, 23, 24, 25, 26, 27, 28, 29, 30, 31] [0, 32, 33, 34, 35, 36, 37, 38, 39, 40, 41, 42, 43, 44, 45, 46, 47, 48, 49, 50, 51, 52, 53, 54, 55, 56, 57] rfl rfl (by decide) (by decide) (by decide) (jx_X11_pass l hlt D t3 cI cJ ad g lg ar bk _ u0 u1) (fun _ _ _ _ h => h) (cwV 0 hts gl_X11_pass rfl rfl rfl (by decide +kernel) ⟨Nat.le_of_ble_eq_true rfl, Nat.le_of_ble_eq_true rfl⟩) 0 (ci := 14) (T := TX11) (N := 11) rfl rfl rfl hl.1 rfl (Nat.le_of_ble_eq_true rfl) dL_law_389 ⟨by omega, by omega⟩ (fun r1 g1 l1 a1 b1 H locs hp1 hw => ?_)
  have hI1 := li_X11_pass hI hp1
  have hR1 := lr_X11_pass hR hp1
  refine lv_pop hx hb dL_law_392 rfl ?_
  refine lv_aload_n hx hb dL_law_393 rfl (lv_at hl 2 rfl) ?_
  obtain ⟨v0, v1, v2, v3, v4, v5, v6, v7, v8, v9, v10, v11, v12, v13, v14, v15, v16, v17, v18, v19, v20, v21, v22⟩ := id hJ
  refine jp_Vi (wc := mw cI cJ md g2 l2 a2 b2) (wr := [(al, .inl (cJ, 1, .inr (.inl bl)))] ++ xw cI cJ ad g1 l1 a1 b1) (As := []) (rest := []) ⟨hx, hb, hml, hown, hts⟩ hZ hw hA [1, 2, 3, 4, 5, 6, 7, 8, 9, 10, 11, 12, 13, 14, 15, 16, 17, 18, 19, 20, 21, 22, 23, 24, 25, 26] [0, 27, 28, 29, 30, 31, 32, 33, 34, 35, 36, 37, 38, 39, 40, 41, 42, 43, 44, 45, 46, 47, 48, 49, 50, 51, 52, 53, 54, 55, 56, 57] rfl rfl (by decide) (by decide) (by decide) (jm_X12_pass l hlt D t3 cI cJ md g2 l2 a2 b2 _ v0 v2 v3 v1) (fun _ _ _ _ h => h) (cwV 0 hts gl_X12_pass rfl rfl rfl (by decide +kernel) ⟨Nat.le_of_ble_eq_true rfl, Nat.le_of_ble_eq_true rfl⟩) 0 (ci := 15) (T := TX12) (N := 92) rfl rfl rfl hl.1 rfl (Nat.le_of_ble_eq_true rfl) dL_law_394 ⟨by omega, by omega⟩ (fun r2 g2 l2 a2 b2 H locs hp2 hw => ?_)
  have hJ2 := li_X12_pass hJ hp2
  have hR2 := lr_X12_pass hR1 hp2
  refine lv_pop hx hb dL_law_397 rfl ?_
  refine lv_goto (tgt := 643) hx hb dL_law_398 (by decide) ?_
  refine W.widen (k := cells + 2) (n := slots + 12) (by omega) (by omega) ?_
  exact kk g1 l1 a1 b1 g2 l2 a2 b2 bl ls _ _ hI1 hJ2 hR2 hw hl

set_option maxHeartbeats 4000000 in
set_option maxRecDepth 100000 in
theorem law_c9 {p : Program} {e : Env} {s : State} {m : MethodId} {below : List Frame} {meth : Method} {c : Code} {l : Launch} {b L : Nat} {xs : Nat → Int32} {D : va_G} {cI cJ : ClassId} {t3 : Nat × Nat × Nat} {ad md : Nat → Nat} {al : Nat} {g : Nat → Int32} {lg : Nat → Int64} {ar : Nat → Nat → Int32} {bk : Nat → Int64} {g2 : Nat → Int32} {l2 : Nat → Int64} {a2 : Nat → Nat → Int32} {b2 : Nat → Int64} {bl : Nat → Int64} {i : Int32} {cells slots : Nat} {H : Heap} {locs : List Loc} {ls : Array Slot} (hlt : l.stackTraces = false) (hx : p.tables.exec = Jvm.exec) (hb : c.code = code) (hr : meth.sig.returnType = ret) (hml : c.maxLocals = 7) (hown : s.vm.findClass RL = some m.cls) (hts : ∀ w ∈ lw_tbl, w.before #[Value.ref b] s = true) (hbl : b < s.heap.size) (hlocks : meth.locks = false) (hX : va_X b L xs s s.heap) (hL : L ≤ 3073) (hZ : hk_YY t3 (fun q : Nat => s.heap.size ≤ q) s) (hi : 1 ≤ i.toInt ∧ i.toInt + 6 ≤ (L : Int)) (hw : hk_W D (jT cI cJ) (fun q : Nat => s.heap.size ≤ q) s H locs (([(al, .inl (cJ, 1, .inr (.inl bl)))] ++ xw cI cJ ad g lg ar bk) ++ mw cI cJ md g2 l2 a2 b2)) (hI : law_IX g ar) (hJ : law_IM g2 a2) (hR : law_R g g2) (hl : lv_has ls 7 [(4, .int i), (3, .ref al), (2, .ref (md 0)), (1, .ref (ad 0)), (0, .ref b)]) (hc : cells + 2 ≤ room_1.cells) (hs : slots + 12 ≤ room_1.slots) (kk : ∀ (g : Nat → Int32) (lg : Nat → Int64) (ar : Nat → Nat → Int32) (bk : Nat → Int64) (g2 : Nat → Int32) (l2 : Nat → Int64) (a2 : Nat → Nat → Int32) (b2 : Nat → Int64) (bl : Nat → Int64) (ls : Array Slot) (H : Heap) (locs : List Loc), law_IX g ar → law_IM g2 a2 → law_R g g2 → hk_W D (jT cI cJ) (fun q : Nat => s.heap.size ≤ q) s H locs (([(al, .inl (cJ, 1, .inr (.inl bl)))] ++ xw cI cJ ad g lg ar bk) ++ mw cI cJ md g2 l2 a2 b2) → lv_has ls 7 [(4, .int i), (3, .ref al), (2, .ref (md 0)), (1, .ref (ad 0)), (0, .ref b)] → W p l e room_1 s m #[Value.ref b] below meth c H locs (cells + 2) (slots + 12) (lw_Z below #[Value.ref b] s) (F0 m 643 ls [])) : W p l e room_1 s m #[Value.ref b] below meth c H locs cells slots (lw_Z below #[Value.ref b] s) (F0 m 401 ls []) := by
  have hA : ∀ q : Nat, s.heap.size ≤ q → (fun q : Nat => s.heap.size ≤ q) q := fun _ h => h
  have hbA : ¬ (fun q : Nat => s.heap.size ≤ q) b := Nat.not_le.mpr hbl
  refine lv_aload_n hx hb dL_law_401 rfl (lv_at hl 3 rfl) ?_
  refine lv_aload_n hx hb dL_law_402 rfl (lv_at hl 4 rfl) ?_
  refine lv_iload hx hb dL_law_403 (lv_at hl 0 rfl) ?_
  refine lv_iconst (v := 1) hx hb dL_law_405 (by decide) ?_
  refine lv_iadd hx hb dL_law_406 ?_
  refine hk_topi (i + 1) rfl ?_
  refine va_sld hx hb hX hbl hbA hw.2.2.1 (law_ix 1 hi hL (by decide)) dL_law_407 ?_
  refine hk_topi (xs (i + 1).toNatClampNeg) rfl ?_
  refine lv_aload_n hx hb dL_law_408 rfl (lv_at hl 1 rfl) ?_
  refine hk_pi (wc := xq3 cI cJ ad g lg ar bk al bl) (wr := mw cI cJ md g2 l2 a2 b2) hw hA [1, 2, 3, 4, 5, 6, 7, 8, 9, 10, 11, 12, 13, 14, 15, 16, 17, 18, 19, 20, 21, 22, 23, 24, 25, 26, 27, 28, 29, 30, 31, 0] [32, 33, 34, 35, 36, 37, 38, 39, 40, 41, 42, 43, 44, 45, 46, 47, 48, 49, 50, 51, 52, 53, 54, 55, 56, 57] rfl rfl (by decide) (by decide) (by decide) (hk_rSW (As := [.ref (ad 0), .int (xs (i + 1).toNatClampNeg), .ref al]) (rest := []) ⟨hx, hb, hml, hown, hts⟩ hZ hw hA [1, 2, 3, 4, 5, 6, 7, 8, 9, 10, 11, 12, 13, 14, 15, 16, 17, 18, 19, 20, 21, 22, 23, 24, 25, 26, 27, 28, 29, 30, 31, 0] rfl (by decide) (jl_out l hlt D t3 cI cJ ad g lg ar bk al bl _ (xs (i + 1).toNatClampNeg)) (vx_cwSW 3 hts gl_lout rfl rfl rfl (by decide +kernel) ⟨Nat.le_of_ble_eq_true rfl, Nat.le_of_ble_eq_true rfl⟩) rfl hl.1 rfl (Nat.le_of_ble_eq_true rfl) dL_law_409 ⟨by omega, by omega⟩) (fun r1 bl1 H locs _ hw => ?_)
  have hw := hk_sub (ws' := ([(al, .inl (cJ, 1, .inr (.inl bl1)))] ++ xw cI cJ ad g lg ar bk) ++ mw cI cJ md g2 l2 a2 b2) hw [57, 26, 27, 28, 29, 30, 31, 32, 33, 34, 35, 36, 37, 38, 39, 40, 41, 42, 43, 44, 45, 46, 47, 48, 49, 50, 51, 52, 53, 54, 55, 56, 0, 1, 2, 3, 4, 5, 6, 7, 8, 9, 10, 11, 12, 13, 14, 15, 16, 17, 18, 19, 20, 21, 22, 23, 24, 25] (by decide) rfl
  refine lv_istore (lv' := [(5, .int r1), (4, .int i), (3, .ref al), (2, .ref (md 0)), (1, .ref (ad 0)), (0, .ref b)]) hx hb dL_law_412 hl (by decide) rfl (fun ls hl => ?_)
  refine lv_aload_n hx hb dL_law_414 rfl (lv_at hl 3 rfl) ?_
  refine lv_aload_n hx hb dL_law_415 rfl (lv_at hl 5 rfl) ?_
  refine lv_iload hx hb dL_law_416 (lv_at hl 1 rfl) ?_
  refine lv_iconst (v := 1) hx hb dL_law_418 (by decide) ?_
  refine lv_iadd hx hb dL_law_419 ?_
  refine hk_topi (i + 1) rfl ?_
  refine va_sld hx hb hX hbl hbA hw.2.2.1 (law_ix 1 hi hL (by decide)) dL_law_420 ?_
  refine hk_topi (xs (i + 1).toNatClampNeg) rfl ?_
  obtain ⟨v0, v1, v2, v3, v4, v5, v6, v7, v8, v9, v10, v11, v12, v13, v14, v15, v16, v17, v18, v19, v20, v21, v22⟩ := id hJ
  refine jp_Vi (wc := mw cI cJ md g2 l2 a2 b2) (wr := [(al, .inl (cJ, 1, .inr (.inl bl1)))] ++ xw cI cJ ad g lg ar bk) (As := [.int (xs (i + 1).toNatClampNeg)]) (rest := []) ⟨hx, hb, hml, hown, hts⟩ hZ hw hA [32, 33, 34, 35, 36, 37, 38, 39, 40, 41, 42, 43, 44, 45, 46, 47, 48, 49, 50, 51, 52, 53, 54, 55, 56, 57] [0, 1, 2, 3, 4, 5, 6, 7, 8, 9, 10, 11, 12, 13, 14, 15, 16, 17, 18, 19, 20, 21, 22, 23, 24, 25, 26, 27, 28, 29, 30, 31] rfl rfl (by decide) (by decide) (by decide) (jm_X12_out l hlt D t3 cI cJ md g2 l2 a2 b2 _ ((xs (i + 1).toNatClampNeg)) v2) (fun _ _ _ _ h => h) (cwV 1 hts gl_X12_out rfl rfl rfl (by decide +kernel) ⟨Nat.le_of_ble_eq_true rfl, Nat.le_of_ble_eq_true rfl⟩) 0 (ci := 15) (T := TX12) (N := 92) rfl rfl rfl hl.1 rfl (Nat.le_of_ble_eq_true rfl) dL_law_421 ⟨by omega, by omega⟩ (fun r2 g2 l2 a2 b2 H locs hp2 hw => ?_)
  have hJ2 := li_X12_out hJ hp2
  have hR2 := lr_X12_out hR hp2
  refine lv_istore (lv' := [(6, .int r2), (5, .int r1), (4, .int i), (3, .ref al), (2, .ref (md 0)), (1, .ref (ad 0)), (0, .ref b)]) hx hb dL_law_424 hl (by decide) rfl (fun ls hl => ?_)
  refine lv_goto (tgt := 643) hx hb dL_law_426 (by decide) ?_
  refine W.widen (k := cells + 2) (n := slots + 12) (by omega) (by omega) ?_
  exact kk g lg ar bk g2 l2 a2 b2 bl1 ls _ _ hI hJ2 hR2 hw (lv_sub hl [2, 3, 4, 5, 6] rfl)

set_option maxHeartbeats 4000000 in
set_option maxRecDepth 100000 in
theorem law_c10 {p : Program} {e : Env} {s : State} {m : MethodId} {below : List Frame} {meth : Method} {c : Code} {l : Launch} {b L : Nat} {xs : Nat → Int32} {D : va_G} {cI cJ : ClassId} {t3 : Nat × Nat × Nat} {ad md : Nat → Nat} {al : Nat} {g : Nat → Int32} {lg : Nat → Int64} {ar : Nat → Nat → Int32} {bk : Nat → Int64} {g2 : Nat → Int32} {l2 : Nat → Int64} {a2 : Nat → Nat → Int32} {b2 : Nat → Int64} {bl : Nat → Int64} {i : Int32} {cells slots : Nat} {H : Heap} {locs : List Loc} {ls : Array Slot} (hlt : l.stackTraces = false) (hx : p.tables.exec = Jvm.exec) (hb : c.code = code) (hr : meth.sig.returnType = ret) (hml : c.maxLocals = 7) (hown : s.vm.findClass RL = some m.cls) (hts : ∀ w ∈ lw_tbl, w.before #[Value.ref b] s = true) (hbl : b < s.heap.size) (hlocks : meth.locks = false) (hX : va_X b L xs s s.heap) (hL : L ≤ 3073) (hZ : hk_YY t3 (fun q : Nat => s.heap.size ≤ q) s) (hi : 1 ≤ i.toInt ∧ i.toInt + 6 ≤ (L : Int)) (hw : hk_W D (jT cI cJ) (fun q : Nat => s.heap.size ≤ q) s H locs (([(al, .inl (cJ, 1, .inr (.inl bl)))] ++ xw cI cJ ad g lg ar bk) ++ mw cI cJ md g2 l2 a2 b2)) (hI : law_IX g ar) (hJ : law_IM g2 a2) (hR : law_R g g2) (hl : lv_has ls 7 [(4, .int i), (3, .ref al), (2, .ref (md 0)), (1, .ref (ad 0)), (0, .ref b)]) (hc : cells + 2 ≤ room_1.cells) (hs : slots + 12 ≤ room_1.slots) (kk : ∀ (g : Nat → Int32) (lg : Nat → Int64) (ar : Nat → Nat → Int32) (bk : Nat → Int64) (g2 : Nat → Int32) (l2 : Nat → Int64) (a2 : Nat → Nat → Int32) (b2 : Nat → Int64) (bl : Nat → Int64) (ls : Array Slot) (H : Heap) (locs : List Loc), law_IX g ar → law_IM g2 a2 → law_R g g2 → hk_W D (jT cI cJ) (fun q : Nat => s.heap.size ≤ q) s H locs (([(al, .inl (cJ, 1, .inr (.inl bl)))] ++ xw cI cJ ad g lg ar bk) ++ mw cI cJ md g2 l2 a2 b2) → lv_has ls 7 [(4, .int i), (3, .ref al), (2, .ref (md 0)), (1, .ref (ad 0)), (0, .ref b)] → W p l e room_1 s m #[Value.ref b] below meth c H locs (cells + 2) (slots + 12) (lw_Z below #[Value.ref b] s) (F0 m 643 ls [])) : W p l e room_1 s m #[Value.ref b] below meth c H locs cells slots (lw_Z below #[Value.ref b] s) (F0 m 429 ls []) := by
  have hA : ∀ q : Nat, s.heap.size ≤ q → (fun q : Nat => s.heap.size ≤ q) q := fun _ h => h
  have hbA : ¬ (fun q : Nat => s.heap.size ≤ q) b := Nat.not_le.mpr hbl
  refine lv_aload_n hx hb dL_law_429 rfl (lv_at hl 3 rfl) ?_
  refine lv_aload_n hx hb dL_law_430 rfl (lv_at hl 4 rfl) ?_
  refine lv_iload hx hb dL_law_431 (lv_at hl 0 rfl) ?_
  refine lv_iconst (v := 1) hx hb dL_law_433 (by decide) ?_
  refine lv_iadd hx hb dL_law_434 ?_
  refine hk_topi (i + 1) rfl ?_
  refine va_sld hx hb hX hbl hbA hw.2.2.1 (law_ix 1 hi hL (by decide)) dL_law_435 ?_
  refine hk_topi (xs (i + 1).toNatClampNeg) rfl ?_
  refine lv_aload_n hx hb dL_law_436 rfl (lv_at hl 4 rfl) ?_
  refine lv_iload hx hb dL_law_437 (lv_at hl 0 rfl) ?_
  refine lv_iconst (v := 2) hx hb dL_law_439 (by decide) ?_
  refine lv_iadd hx hb dL_law_440 ?_
  refine hk_topi (i + 2) rfl ?_
  refine va_sld hx hb hX hbl hbA hw.2.2.1 (law_ix 2 hi hL (by decide)) dL_law_441 ?_
  refine hk_topi (xs (i + 2).toNatClampNeg) rfl ?_
  refine jp_Vi (wc := xw cI cJ ad g lg ar bk) (wr := [(al, .inl (cJ, 1, .inr (.inl bl)))] ++ mw cI cJ md g2 l2 a2 b2) (As := [.int (xs (i + 1).toNatClampNeg), .int (xs (i + 2).toNatClampNeg)]) (rest := []) ⟨hx, hb, hml, hown, hts⟩ hZ hw hA [1, 2, 3, 4, 5, 6, 7, 8, 9, 10, 11, 12, 13, 14, 15, 16, 17, 18, 19, 20, 21, 22, 23, 24, 25, 26, 27, 28, 29, 30, 31] [0, 32, 33, 34, 35, 36, 37, 38, 39, 40, 41, 42, 43, 44, 45, 46, 47, 48, 49, 50, 51, 52, 53, 54, 55, 56, 57] rfl rfl (by decide) (by decide) (by decide) (jx_X11_step l hlt D t3 cI cJ ad g lg ar bk _ ((xs (i + 1).toNatClampNeg)) ((xs (i + 2).toNatClampNeg))) (fun _ _ _ _ h => h) (cwV 2 hts gl_X11_step rfl rfl rfl (by decide +kernel) ⟨Nat.le_of_ble_eq_true rfl, Nat.le_of_ble_eq_true rfl⟩) 0 (ci := 14) (T := TX11) (N := 11) rfl rfl rfl hl.1 rfl (Nat.le_of_ble_eq_true rfl) dL_law_442 ⟨by omega, by omega⟩ (fun r1 g1 l1 a1 b1 H locs hp1 hw => ?_)
  have hI1 := li_X11_step hI hp1
  have hR1 := lr_X11_step hR hp1
  refine lv_pop hx hb dL_law_445 rfl ?_
  refine lv_aload_n hx hb dL_law_446 rfl (lv_at hl 2 rfl) ?_
  refine lv_aload_n hx hb dL_law_447 rfl (lv_at hl 4 rfl) ?_
  refine lv_iload hx hb dL_law_448 (lv_at hl 0 rfl) ?_
  refine lv_iconst (v := 1) hx hb dL_law_450 (by decide) ?_
  refine lv_iadd hx hb dL_law_451 ?_
  refine hk_topi (i + 1) rfl ?_
  refine va_sld hx hb hX hbl hbA hw.2.2.1 (law_ix 1 hi hL (by decide)) dL_law_452 ?_
  refine hk_topi (xs (i + 1).toNatClampNeg) rfl ?_
  refine lv_aload_n hx hb dL_law_453 rfl (lv_at hl 4 rfl) ?_
  refine lv_iload hx hb dL_law_454 (lv_at hl 0 rfl) ?_
  refine lv_iconst (v := 2) hx hb dL_law_456 (by decide) ?_
  refine lv_iadd hx hb dL_law_457 ?_
  refine hk_topi (i + 2) rfl ?_
  refine va_sld hx hb hX hbl hbA hw.2.2.1 (law_ix 2 hi hL (by decide)) dL_law_458 ?_
  refine hk_topi (xs (i + 2).toNatClampNeg) rfl ?_
  refine jp_Vi (wc := mw cI cJ md g2 l2 a2 b2) (wr := [(al, .inl (cJ, 1, .inr (.inl bl)))] ++ xw cI cJ ad g1 l1 a1 b1) (As := [.int (xs (i + 1).toNatClampNeg), .int (xs (i + 2).toNatClampNeg)]) (rest := []) ⟨hx, hb, hml, hown, hts⟩ hZ hw hA [1, 2, 3, 4, 5, 6, 7, 8, 9, 10, 11, 12, 13, 14, 15, 16, 17, 18, 19, 20, 21, 22, 23, 24, 25, 26] [0, 27, 28, 29, 30, 31, 32, 33, 34, 35, 36, 37, 38, 39, 40, 41, 42, 43, 44, 45, 46, 47, 48, 49, 50, 51, 52, 53, 54, 55, 56, 57] rfl rfl (by decide) (by decide) (by decide) (jm_X12_step l hlt D t3 cI cJ md g2 l2 a2 b2 _ ((xs (i + 1).toNatClampNeg)) ((xs (i + 2).toNatClampNeg))) (fun _ _ _ _ h => h) (cwV 2 hts gl_X12_step rfl rfl rfl (by decide +kernel) ⟨Nat.le_of_ble_eq_true rfl, Nat.le_of_ble_eq_true rfl⟩) 0 (ci := 15) (T := TX12) (N := 92) rfl rfl rfl hl.1 rfl (Nat.le_of_ble_eq_true rfl) dL_law_459 ⟨by omega, by omega⟩ (fun r2 g2 l2 a2 b2 H locs hp2 hw => ?_)
  have hJ2 := li_X12_step hJ hp2
  have hR2 := lr_X12_step hR1 hp2
  refine lv_pop hx hb dL_law_462 rfl ?_
  refine lv_goto (tgt := 643) hx hb dL_law_463 (by decide) ?_
  refine W.widen (k := cells + 2) (n := slots + 12) (by omega) (by omega) ?_
  exact kk g1 l1 a1 b1 g2 l2 a2 b2 bl ls _ _ hI1 hJ2 hR2 hw hl

set_option maxHeartbeats 4000000 in
set_option maxRecDepth 100000 in
theorem law_c11 {p : Program} {e : Env} {s : State} {m : MethodId} {below : List Frame} {meth : Method} {c : Code} {l : Launch} {b L : Nat} {xs : Nat → Int32} {D : va_G} {cI cJ : ClassId} {t3 : Nat × Nat × Nat} {ad md : Nat → Nat} {al : Nat} {g : Nat → Int32} {lg : Nat → Int64} {ar : Nat → Nat → Int32} {bk : Nat → Int64} {g2 : Nat → Int32} {l2 : Nat → Int64} {a2 : Nat → Nat → Int32} {b2 : Nat → Int64} {bl : Nat → Int64} {i : Int32} {cells slots : Nat} {H : Heap} {locs : List Loc} {ls : Array Slot} (hlt : l.stackTraces = false) (hx : p.tables.exec = Jvm.exec) (hb : c.code = code) (hr : meth.sig.returnType = ret) (hml : c.maxLocals = 7) (hown : s.vm.findClass RL = some m.cls) (hts : ∀ w ∈ lw_tbl, w.before #[Value.ref b] s = true) (hbl : b < s.heap.size) (hlocks : meth.locks = false) (hX : va_X b L xs s s.heap) (hL : L ≤ 3073) (hZ : hk_YY t3 (fun q : Nat => s.heap.size ≤ q) s) (hi : 1 ≤ i.toInt ∧ i.toInt + 6 ≤ (L : Int)) (hw : hk_W D (jT cI cJ) (fun q : Nat => s.heap.size ≤ q) s H locs (([(al, .inl (cJ, 1, .inr (.inl bl)))] ++ xw cI cJ ad g lg ar bk) ++ mw cI cJ md g2 l2 a2 b2)) (hI : law_IX g ar) (hJ : law_IM g2 a2) (hR : law_R g g2) (hl : lv_has ls 7 [(4, .int i), (3, .ref al), (2, .ref (md 0)), (1, .ref (ad 0)), (0, .ref b)]) (hc : cells + 2 ≤ room_1.cells) (hs : slots + 12 ≤ room_1.slots) (kk : ∀ (g : Nat → Int32) (lg : Nat → Int64) (ar : Nat → Nat → Int32) (bk : Nat → Int64) (g2 : Nat → Int32) (l2 : Nat → Int64) (a2 : Nat → Nat → Int32) (b2 : Nat → Int64) (bl : Nat → Int64) (ls : Array Slot) (H : Heap) (locs : List Loc), law_IX g ar → law_IM g2 a2 → law_R g g2 → hk_W D (jT cI cJ) (fun q : Nat => s.heap.size ≤ q) s H locs (([(al, .inl (cJ, 1, .inr (.inl bl)))] ++ xw cI cJ ad g lg ar bk) ++ mw cI cJ md g2 l2 a2 b2) → lv_has ls 7 [(4, .int i), (3, .ref al), (2, .ref (md 0)), (1, .ref (ad 0)), (0, .ref b)] → W p l e room_1 s m #[Value.ref b] below meth c H locs (cells + 2) (slots + 12) (lw_Z below #[Value.ref b] s) (F0 m 643 ls [])) : W p l e room_1 s m #[Value.ref b] below meth c H locs cells slots (lw_Z below #[Value.ref b] s) (F0 m 466 ls []) := by
  have hA : ∀ q : Nat, s.heap.size ≤ q → (fun q : Nat => s.heap.size ≤ q) q := fun _ h => h
  have hbA : ¬ (fun q : Nat => s.heap.size ≤ q) b := Nat.not_le.mpr hbl
  refine lv_aload_n hx hb dL_law_466 rfl (lv_at hl 3 rfl) ?_
  refine jp_Vi (wc := xw cI cJ ad g lg ar bk) (wr := [(al, .inl (cJ, 1, .inr (.inl bl)))] ++ mw cI cJ md g2 l2 a2 b2) (As := []) (rest := []) ⟨hx, hb, hml, hown, hts⟩ hZ hw hA [1, 2, 3, 4, 5, 6, 7, 8, 9, 10, 11, 12, 13, 14, 15, 16, 17, 18, 19, 20, 21, 22, 23, 24, 25, 26, 27, 28, 29, 30, 31] [0, 32, 33, 34, 35, 36, 37, 38, 39, 40, 41, 42, 43, 44, 45, 46, 47, 48, 49, 50, 51, 52, 53, 54, 55, 56, 57] rfl rfl (by decide) (by decide) (by decide) (jx_X11_state l hlt D t3 cI cJ ad g lg ar bk _) (fun _ _ _ _ h => h) (cwV 0 hts gl_X11_state rfl rfl rfl (by decide +kernel) ⟨Nat.le_of_ble_eq_true rfl, Nat.le_of_ble_eq_true rfl⟩) 0 (ci := 14) (T := TX11) (N := 11) rfl rfl rfl hl.1 rfl (Nat.le_of_ble_eq_true rfl) dL_law_467 ⟨by omega, by omega⟩ (fun r1 g1 l1 a1 b1 H locs hp1 hw => ?_)
  have hI1 := li_X11_state hI hp1
  have hR1 := lr_X11_state hR hp1
  refine lv_pop hx hb dL_law_470 rfl ?_
  refine lv_aload_n hx hb dL_law_471 rfl (lv_at hl 2 rfl) ?_
  refine jp_Vi (wc := mw cI cJ md g2 l2 a2 b2) (wr := [(al, .inl (cJ, 1, .inr (.inl bl)))] ++ xw cI cJ ad g1 l1 a1 b1) (As := []) (rest := []) ⟨hx, hb, hml, hown, hts⟩ hZ hw hA [1, 2, 3, 4, 5, 6, 7, 8, 9, 10, 11, 12, 13, 14, 15, 16, 17, 18, 19, 20, 21, 22, 23, 24, 25, 26] [0, 27, 28, 29, 30, 31, 32, 33, 34, 35, 36, 37, 38, 39, 40, 41, 42, 43, 44, 45, 46, 47, 48, 49, 50, 51, 52, 53, 54, 55, 56, 57] rfl rfl (by decide) (by decide) (by decide) (jm_X12_state l hlt D t3 cI cJ md g2 l2 a2 b2 _) (fun _ _ _ _ h => h) (cwV 0 hts gl_X12_state rfl rfl rfl (by decide +kernel) ⟨Nat.le_of_ble_eq_true rfl, Nat.le_of_ble_eq_true rfl⟩) 0 (ci := 15) (T := TX12) (N := 92) rfl rfl rfl hl.1 rfl (Nat.le_of_ble_eq_true rfl) dL_law_472 ⟨by omega, by omega⟩ (fun r2 g2 l2 a2 b2 H locs hp2 hw => ?_)
  have hJ2 := li_X12_state hJ hp2
  have hR2 := lr_X12_state hR1 hp2
  refine lv_pop hx hb dL_law_475 rfl ?_
  refine lv_goto (tgt := 643) hx hb dL_law_476 (by decide) ?_
  refine W.widen (k := cells + 2) (n := slots + 12) (by omega) (by omega) ?_
  exact kk g1 l1 a1 b1 g2 l2 a2 b2 bl ls _ _ hI1 hJ2 hR2 hw hl

set_option maxHeartbeats 4000000 in
set_option maxRecDepth 100000 in
theorem law_c12 {p : Program} {e : Env} {s : State} {m : MethodId} {below : List Frame} {meth : Method} {c : Code} {l : Launch} {b L : Nat} {xs : Nat → Int32} {D : va_G} {cI cJ : ClassId} {t3 : Nat × Nat × Nat} {ad md : Nat → Nat} {al : Nat} {g : Nat → Int32} {lg : Nat → Int64} {ar : Nat → Nat → Int32} {bk : Nat → Int64} {g2 : Nat → Int32} {l2 : Nat → Int64} {a2 : Nat → Nat → Int32} {b2 : Nat → Int64} {bl : Nat → Int64} {i : Int32} {cells slots : Nat} {H : Heap} {locs : List Loc} {ls : Array Slot} (hlt : l.stackTraces = false) (hx : p.tables.exec = Jvm.exec) (hb : c.code = code) (hr : meth.sig.returnType = ret) (hml : c.maxLocals = 7) (hown : s.vm.findClass RL = some m.cls) (hts : ∀ w ∈ lw_tbl, w.before #[Value.ref b] s = true) (hbl : b < s.heap.size) (hlocks : meth.locks = false) (hX : va_X b L xs s s.heap) (hL : L ≤ 3073) (hZ : hk_YY t3 (fun q : Nat => s.heap.size ≤ q) s) (hi : 1 ≤ i.toInt ∧ i.toInt + 6 ≤ (L : Int)) (hw : hk_W D (jT cI cJ) (fun q : Nat => s.heap.size ≤ q) s H locs (([(al, .inl (cJ, 1, .inr (.inl bl)))] ++ xw cI cJ ad g lg ar bk) ++ mw cI cJ md g2 l2 a2 b2)) (hI : law_IX g ar) (hJ : law_IM g2 a2) (hR : law_R g g2) (hl : lv_has ls 7 [(4, .int i), (3, .ref al), (2, .ref (md 0)), (1, .ref (ad 0)), (0, .ref b)]) (hc : cells + 2 ≤ room_1.cells) (hs : slots + 12 ≤ room_1.slots) (kk : ∀ (g : Nat → Int32) (lg : Nat → Int64) (ar : Nat → Nat → Int32) (bk : Nat → Int64) (g2 : Nat → Int32) (l2 : Nat → Int64) (a2 : Nat → Nat → Int32) (b2 : Nat → Int64) (bl : Nat → Int64) (ls : Array Slot) (H : Heap) (locs : List Loc), law_IX g ar → law_IM g2 a2 → law_R g g2 → hk_W D (jT cI cJ) (fun q : Nat => s.heap.size ≤ q) s H locs (([(al, .inl (cJ, 1, .inr (.inl bl)))] ++ xw cI cJ ad g lg ar bk) ++ mw cI cJ md g2 l2 a2 b2) → lv_has ls 7 [(4, .int i), (3, .ref al), (2, .ref (md 0)), (1, .ref (ad 0)), (0, .ref b)] → W p l e room_1 s m #[Value.ref b] below meth c H locs (cells + 2) (slots + 12) (lw_Z below #[Value.ref b] s) (F0 m 643 ls [])) : W p l e room_1 s m #[Value.ref b] below meth c H locs cells slots (lw_Z below #[Value.ref b] s) (F0 m 479 ls []) := by
  have hA : ∀ q : Nat, s.heap.size ≤ q → (fun q : Nat => s.heap.size ≤ q) q := fun _ h => h
  have hbA : ¬ (fun q : Nat => s.heap.size ≤ q) b := Nat.not_le.mpr hbl
  refine lv_aload_n hx hb dL_law_479 rfl (lv_at hl 3 rfl) ?_
  refine lv_aload_n hx hb dL_law_480 rfl (lv_at hl 4 rfl) ?_
  refine lv_iload hx hb dL_law_481 (lv_at hl 0 rfl) ?_
  refine lv_iconst (v := 1) hx hb dL_law_483 (by decide) ?_
  refine lv_iadd hx hb dL_law_484 ?_
  refine hk_topi (i + 1) rfl ?_
  refine va_sld hx hb hX hbl hbA hw.2.2.1 (law_ix 1 hi hL (by decide)) dL_law_485 ?_
  refine hk_topi (xs (i + 1).toNatClampNeg) rfl ?_
  refine lv_aload_n hx hb dL_law_486 rfl (lv_at hl 4 rfl) ?_
  refine lv_iload hx hb dL_law_487 (lv_at hl 0 rfl) ?_
  refine lv_iconst (v := 2) hx hb dL_law_489 (by decide) ?_
  refine lv_iadd hx hb dL_law_490 ?_
  refine hk_topi (i + 2) rfl ?_
  refine va_sld hx hb hX hbl hbA hw.2.2.1 (law_ix 2 hi hL (by decide)) dL_law_491 ?_
  refine hk_topi (xs (i + 2).toNatClampNeg) rfl ?_
  obtain ⟨u0, u1, u2, u3, u4, u5, u6, u7, u8, u9, u10, u11, u12, u13, u14⟩ := id hI
  refine jp_Vi (wc := xw cI cJ ad g lg ar bk) (wr := [(al, .inl (cJ, 1, .inr (.inl bl)))] ++ mw cI cJ md g2 l2 a2 b2) (As := [.int (xs (i + 1).toNatClampNeg), .int (xs (i + 2).toNatClampNeg)]) (rest := []) ⟨hx, hb, hml, hown, hts⟩ hZ hw hA [1, 2, 3, 4, 5, 6, 7, 8, 9, 10, 11, 12, 13, 14, 15, 16, 17, 18, 19, 20, 21, 22, 23, 24, 25, 26, 27, 28, 29, 30, 31] [0, 32, 33, 34, 35, 36, 37, 38, 39, 40, 41, 42, 43, 44, 45, 46, 47, 48, 49, 50, 51, 52, 53, 54, 55, 56, 57] rfl rfl (by decide) (by decide) (by decide) (jx_X11_block l hlt D t3 cI cJ ad g lg ar bk _ ((xs (i + 1).toNatClampNeg)) ((xs (i + 2).toNatClampNeg)) u13) (fun _ _ _ _ h => h) (cwV 2 hts gl_X11_block rfl rfl rfl (by decide +kernel) ⟨Nat.le_of_ble_eq_true rfl, Nat.le_of_ble_eq_true rfl⟩) 0 (ci := 14) (T := TX11) (N := 11) rfl rfl rfl hl.1 rfl (Nat.le_of_ble_eq_true rfl) dL_law_492 ⟨by omega, by omega⟩ (fun r1 g1 l1 a1 b1 H locs hp1 hw => ?_)
  have hI1 := li_X11_block hI hp1
  have hR1 := lr_X11_block hR hp1
  refine lv_pop hx hb dL_law_495 rfl ?_
  refine lv_aload_n hx hb dL_law_496 rfl (lv_at hl 2 rfl) ?_
  refine lv_aload_n hx hb dL_law_497 rfl (lv_at hl 4 rfl) ?_
  refine lv_iload hx hb dL_law_498 (lv_at hl 0 rfl) ?_
  refine lv_iconst (v := 1) hx hb dL_law_500 (by decide) ?_
  refine lv_iadd hx hb dL_law_501 ?_
  refine hk_topi (i + 1) rfl ?_
  refine va_sld hx hb hX hbl hbA hw.2.2.1 (law_ix 1 hi hL (by decide)) dL_law_502 ?_
  refine hk_topi (xs (i + 1).toNatClampNeg) rfl ?_
  refine lv_aload_n hx hb dL_law_503 rfl (lv_at hl 4 rfl) ?_
  refine lv_iload hx hb dL_law_504 (lv_at hl 0 rfl) ?_
  refine lv_iconst (v := 2) hx hb dL_law_506 (by decide) ?_
  refine lv_iadd hx hb dL_law_507 ?_
  refine hk_topi (i + 2) rfl ?_
  refine va_sld hx hb hX hbl hbA hw.2.2.1 (law_ix 2 hi hL (by decide)) dL_law_508 ?_
  refine hk_topi (xs (i + 2).toNatClampNeg) rfl ?_
  obtain ⟨v0, v1, v2, v3, v4, v5, v6, v7, v8, v9, v10, v11, v12, v13, v14, v15, v16, v17, v18, v19, v20, v21, v22⟩ := id hJ
  refine jp_Vi (wc := mw cI cJ md g2 l2 a2 b2) (wr := [(al, .inl (cJ, 1, .inr (.inl bl)))] ++ xw cI cJ ad g1 l1 a1 b1) (As := [.int (xs (i + 1).toNatClampNeg), .int (xs (i + 2).toNatClampNeg)]) (rest := []) ⟨hx, hb, hml, hown, hts⟩ hZ hw hA [1, 2, 3, 4, 5, 6, 7, 8, 9, 10, 11, 12, 13, 14, 15, 16, 17, 18, 19, 20, 21, 22, 23, 24, 25, 26] [0, 27, 28, 29, 30, 31, 32, 33, 34, 35, 36, 37, 38, 39, 40, 41, 42, 43, 44, 45, 46, 47, 48, 49, 50, 51, 52, 53, 54, 55, 56, 57] rfl rfl (by decide) (by decide) (by decide) (jm_X12_block l hlt D t3 cI cJ md g2 l2 a2 b2 _ ((xs (i + 1).toNatClampNeg)) ((xs (i + 2).toNatClampNeg)) v8) (fun _ _ _ _ h => h) (cwV 2 hts gl_X12_block rfl rfl rfl (by decide +kernel) ⟨Nat.le_of_ble_eq_true rfl, Nat.le_of_ble_eq_true rfl⟩) 0 (ci := 15) (T := TX12) (N := 92) rfl rfl rfl hl.1 rfl (Nat.le_of_ble_eq_true rfl) dL_law_509 ⟨by omega, by omega⟩ (fun r2 g2 l2 a2 b2 H locs hp2 hw => ?_)
  have hJ2 := li_X12_block hJ hp2
  have hR2 := lr_X12_block hR1 hp2
  refine lv_pop hx hb dL_law_512 rfl ?_
  refine lv_goto (tgt := 643) hx hb dL_law_513 (by decide) ?_
  refine W.widen (k := cells + 2) (n := slots + 12) (by omega) (by omega) ?_
  exact kk g1 l1 a1 b1 g2 l2 a2 b2 bl ls _ _ hI1 hJ2 hR2 hw hl

set_option maxHeartbeats 4000000 in
set_option maxRecDepth 100000 in
theorem law_c13 {p : Program} {e : Env} {s : State} {m : MethodId} {below : List Frame} {meth : Method} {c : Code} {l : Launch} {b L : Nat} {xs : Nat → Int32} {D : va_G} {cI cJ : ClassId} {t3 : Nat × Nat × Nat} {ad md : Nat → Nat} {al : Nat} {g : Nat → Int32} {lg : Nat → Int64} {ar : Nat → Nat → Int32} {bk : Nat → Int64} {g2 : Nat → Int32} {l2 : Nat → Int64} {a2 : Nat → Nat → Int32} {b2 : Nat → Int64} {bl : Nat → Int64} {i : Int32} {cells slots : Nat} {H : Heap} {locs : List Loc} {ls : Array Slot} (hlt : l.stackTraces = false) (hx : p.tables.exec = Jvm.exec) (hb : c.code = code) (hr : meth.sig.returnType = ret) (hml : c.maxLocals = 7) (hown : s.vm.findClass RL = some m.cls) (hts : ∀ w ∈ lw_tbl, w.before #[Value.ref b] s = true) (hbl : b < s.heap.size) (hlocks : meth.locks = false) (hX : va_X b L xs s s.heap) (hL : L ≤ 3073) (hZ : hk_YY t3 (fun q : Nat => s.heap.size ≤ q) s) (hi : 1 ≤ i.toInt ∧ i.toInt + 6 ≤ (L : Int)) (hw : hk_W D (jT cI cJ) (fun q : Nat => s.heap.size ≤ q) s H locs (([(al, .inl (cJ, 1, .inr (.inl bl)))] ++ xw cI cJ ad g lg ar bk) ++ mw cI cJ md g2 l2 a2 b2)) (hI : law_IX g ar) (hJ : law_IM g2 a2) (hR : law_R g g2) (hl : lv_has ls 7 [(4, .int i), (3, .ref al), (2, .ref (md 0)), (1, .ref (ad 0)), (0, .ref b)]) (hc : cells + 2 ≤ room_1.cells) (hs : slots + 12 ≤ room_1.slots) (kk : ∀ (g : Nat → Int32) (lg : Nat → Int64) (ar : Nat → Nat → Int32) (bk : Nat → Int64) (g2 : Nat → Int32) (l2 : Nat → Int64) (a2 : Nat → Nat → Int32) (b2 : Nat → Int64) (bl : Nat → Int64) (ls : Array Slot) (H : Heap) (locs : List Loc), law_IX g ar → law_IM g2 a2 → law_R g g2 → hk_W D (jT cI cJ) (fun q : Nat => s.heap.size ≤ q) s H locs (([(al, .inl (cJ, 1, .inr (.inl bl)))] ++ xw cI cJ ad g lg ar bk) ++ mw cI cJ md g2 l2 a2 b2) → lv_has ls 7 [(4, .int i), (3, .ref al), (2, .ref (md 0)), (1, .ref (ad 0)), (0, .ref b)] → W p l e room_1 s m #[Value.ref b] below meth c H locs (cells + 2) (slots + 12) (lw_Z below #[Value.ref b] s) (F0 m 643 ls [])) : W p l e room_1 s m #[Value.ref b] below meth c H locs cells slots (lw_Z below #[Value.ref b] s) (F0 m 516 ls []) := by
  have hA : ∀ q : Nat, s.heap.size ≤ q → (fun q : Nat => s.heap.size ≤ q) q := fun _ h => h
  have hbA : ¬ (fun q : Nat => s.heap.size ≤ q) b := Nat.not_le.mpr hbl
  refine lv_aload_n hx hb dL_law_516 rfl (lv_at hl 3 rfl) ?_
  refine lv_aload_n hx hb dL_law_517 rfl (lv_at hl 4 rfl) ?_
  refine lv_iload hx hb dL_law_518 (lv_at hl 0 rfl) ?_
  refine lv_iconst (v := 1) hx hb dL_law_520 (by decide) ?_
  refine lv_iadd hx hb dL_law_521 ?_
  refine hk_topi (i + 1) rfl ?_
  refine va_sld hx hb hX hbl hbA hw.2.2.1 (law_ix 1 hi hL (by decide)) dL_law_522 ?_
  refine hk_topi (xs (i + 1).toNatClampNeg) rfl ?_
  refine lv_aload_n hx hb dL_law_523 rfl (lv_at hl 4 rfl) ?_
  refine lv_iload hx hb dL_law_524 (lv_at hl 0 rfl) ?_
  refine lv_iconst (v := 2) hx hb dL_law_526 (by decide) ?_
  refine lv_iadd hx hb dL_law_527 ?_
  refine hk_topi (i + 2) rfl ?_
  refine va_sld hx hb hX hbl hbA hw.2.2.1 (law_ix 2 hi hL (by decide)) dL_law_528 ?_
  refine hk_topi (xs (i + 2).toNatClampNeg) rfl ?_
  refine jp_Vi (wc := xw cI cJ ad g lg ar bk) (wr := [(al, .inl (cJ, 1, .inr (.inl bl)))] ++ mw cI cJ md g2 l2 a2 b2) (As := [.int (xs (i + 1).toNatClampNeg), .int (xs (i + 2).toNatClampNeg)]) (rest := []) ⟨hx, hb, hml, hown, hts⟩ hZ hw hA [1, 2, 3, 4, 5, 6, 7, 8, 9, 10, 11, 12, 13, 14, 15, 16, 17, 18, 19, 20, 21, 22, 23, 24, 25, 26, 27, 28, 29, 30, 31] [0, 32, 33, 34, 35, 36, 37, 38, 39, 40, 41, 42, 43, 44, 45, 46, 47, 48, 49, 50, 51, 52, 53, 54, 55, 56, 57] rfl rfl (by decide) (by decide) (by decide) (jx_X11_check l hlt D t3 cI cJ ad g lg ar bk _ ((xs (i + 1).toNatClampNeg)) ((xs (i + 2).toNatClampNeg))) (fun _ _ _ _ h => h) (cwV 2 hts gl_X11_check rfl rfl rfl (by decide +kernel) ⟨Nat.le_of_ble_eq_true rfl, Nat.le_of_ble_eq_true rfl⟩) 0 (ci := 14) (T := TX11) (N := 11) rfl rfl rfl hl.1 rfl (Nat.le_of_ble_eq_true rfl) dL_law_529 ⟨by omega, by omega⟩ (fun r1 g1 l1 a1 b1 H locs hp1 hw => ?_)
  have hI1 := li_X11_check hI hp1
  have hR1 := lr_X11_check hR hp1
  refine lv_pop hx hb dL_law_532 rfl ?_
  refine lv_aload_n hx hb dL_law_533 rfl (lv_at hl 2 rfl) ?_
  refine lv_aload_n hx hb dL_law_534 rfl (lv_at hl 4 rfl) ?_
  refine lv_iload hx hb dL_law_535 (lv_at hl 0 rfl) ?_
  refine lv_iconst (v := 1) hx hb dL_law_537 (by decide) ?_
  refine lv_iadd hx hb dL_law_538 ?_
  refine hk_topi (i + 1) rfl ?_
  refine va_sld hx hb hX hbl hbA hw.2.2.1 (law_ix 1 hi hL (by decide)) dL_law_539 ?_
  refine hk_topi (xs (i + 1).toNatClampNeg) rfl ?_
  refine lv_aload_n hx hb dL_law_540 rfl (lv_at hl 4 rfl) ?_
  refine lv_iload hx hb dL_law_541 (lv_at hl 0 rfl) ?_
  refine lv_iconst (v := 2) hx hb dL_law_543 (by decide) ?_
  refine lv_iadd hx hb dL_law_544 ?_
  refine hk_topi (i + 2) rfl ?_
  refine va_sld hx hb hX hbl hbA hw.2.2.1 (law_ix 2 hi hL (by decide)) dL_law_545 ?_
  refine hk_topi (xs (i + 2).toNatClampNeg) rfl ?_
  obtain ⟨v0, v1, v2, v3, v4, v5, v6, v7, v8, v9, v10, v11, v12, v13, v14, v15, v16, v17, v18, v19, v20, v21, v22⟩ := id hJ
  refine jp_Vi (wc := mw cI cJ md g2 l2 a2 b2) (wr := [(al, .inl (cJ, 1, .inr (.inl bl)))] ++ xw cI cJ ad g1 l1 a1 b1) (As := [.int (xs (i + 1).toNatClampNeg), .int (xs (i + 2).toNatClampNeg)]) (rest := []) ⟨hx, hb, hml, hown, hts⟩ hZ hw hA [1, 2, 3, 4, 5, 6, 7, 8, 9, 10, 11, 12, 13, 14, 15, 16, 17, 18, 19, 20, 21, 22, 23, 24, 25, 26] [0, 27, 28, 29, 30, 31, 32, 33, 34, 35, 36, 37, 38, 39, 40, 41, 42, 43, 44, 45, 46, 47, 48, 49, 50, 51, 52, 53, 54, 55, 56, 57] rfl rfl (by decide) (by decide) (by decide) (jm_X12_check l hlt D t3 cI cJ md g2 l2 a2 b2 _ ((xs (i + 1).toNatClampNeg)) ((xs (i + 2).toNatClampNeg)) v2 v5) (fun _ _ _ _ h => h) (cwV 2 hts gl_X12_check rfl rfl rfl (by decide +kernel) ⟨Nat.le_of_ble_eq_true rfl, Nat.le_of_ble_eq_true rfl⟩) 0 (ci := 15) (T := TX12) (N := 92) rfl rfl rfl hl.1 rfl (Nat.le_of_ble_eq_true rfl) dL_law_546 ⟨by omega, by omega⟩ (fun r2 g2 l2 a2 b2 H locs hp2 hw => ?_)
  have hJ2 := li_X12_check hJ hp2
  have hR2 := lr_X12_check hR1 hp2
  refine lv_pop hx hb dL_law_549 rfl ?_
  refine lv_goto (tgt := 643) hx hb dL_law_550 (by decide) ?_
  refine W.widen (k := cells + 2) (n := slots + 12) (by omega) (by omega) ?_
  exact kk g1 l1 a1 b1 g2 l2 a2 b2 bl ls _ _ hI1 hJ2 hR2 hw hl

set_option maxHeartbeats 4000000 in
set_option maxRecDepth 100000 in
theorem law_c14 {p : Program} {e : Env} {s : State} {m : MethodId} {below : List Frame} {meth : Method} {c : Code} {l : Launch} {b L : Nat} {xs : Nat → Int32} {D : va_G} {cI cJ : ClassId} {t3 : Nat × Nat × Nat} {ad md : Nat → Nat} {al : Nat} {g : Nat → Int32} {lg : Nat → Int64} {ar : Nat → Nat → Int32} {bk : Nat → Int64} {g2 : Nat → Int32} {l2 : Nat → Int64} {a2 : Nat → Nat → Int32} {b2 : Nat → Int64} {bl : Nat → Int64} {i : Int32} {cells slots : Nat} {H : Heap} {locs : List Loc} {ls : Array Slot} (hlt : l.stackTraces = false) (hx : p.tables.exec = Jvm.exec) (hb : c.code = code) (hr : meth.sig.returnType = ret) (hml : c.maxLocals = 7) (hown : s.vm.findClass RL = some m.cls) (hts : ∀ w ∈ lw_tbl, w.before #[Value.ref b] s = true) (hbl : b < s.heap.size) (hlocks : meth.locks = false) (hX : va_X b L xs s s.heap) (hL : L ≤ 3073) (hZ : hk_YY t3 (fun q : Nat => s.heap.size ≤ q) s) (hi : 1 ≤ i.toInt ∧ i.toInt + 6 ≤ (L : Int)) (hw : hk_W D (jT cI cJ) (fun q : Nat => s.heap.size ≤ q) s H locs (([(al, .inl (cJ, 1, .inr (.inl bl)))] ++ xw cI cJ ad g lg ar bk) ++ mw cI cJ md g2 l2 a2 b2)) (hI : law_IX g ar) (hJ : law_IM g2 a2) (hR : law_R g g2) (hl : lv_has ls 7 [(4, .int i), (3, .ref al), (2, .ref (md 0)), (1, .ref (ad 0)), (0, .ref b)]) (hc : cells + 2 ≤ room_1.cells) (hs : slots + 12 ≤ room_1.slots) (kk : ∀ (g : Nat → Int32) (lg : Nat → Int64) (ar : Nat → Nat → Int32) (bk : Nat → Int64) (g2 : Nat → Int32) (l2 : Nat → Int64) (a2 : Nat → Nat → Int32) (b2 : Nat → Int64) (bl : Nat → Int64) (ls : Array Slot) (H : Heap) (locs : List Loc), law_IX g ar → law_IM g2 a2 → law_R g g2 → hk_W D (jT cI cJ) (fun q : Nat => s.heap.size ≤ q) s H locs (([(al, .inl (cJ, 1, .inr (.inl bl)))] ++ xw cI cJ ad g lg ar bk) ++ mw cI cJ md g2 l2 a2 b2) → lv_has ls 7 [(4, .int i), (3, .ref al), (2, .ref (md 0)), (1, .ref (ad 0)), (0, .ref b)] → W p l e room_1 s m #[Value.ref b] below meth c H locs (cells + 2) (slots + 12) (lw_Z below #[Value.ref b] s) (F0 m 643 ls [])) : W p l e room_1 s m #[Value.ref b] below meth c H locs cells slots (lw_Z below #[Value.ref b] s) (F0 m 553 ls []) := by
  have hA : ∀ q : Nat, s.heap.size ≤ q → (fun q : Nat => s.heap.size ≤ q) q := fun _ h => h
  have hbA : ¬ (fun q : Nat => s.heap.size ≤ q) b := Nat.not_le.mpr hbl
  refine lv_aload_n hx hb dL_law_553 rfl (lv_at hl 3 rfl) ?_
  refine lv_aload_n hx hb dL_law_554 rfl (lv_at hl 4 rfl) ?_
  refine lv_iload hx hb dL_law_555 (lv_at hl 0 rfl) ?_
  refine lv_iconst (v := 1) hx hb dL_law_557 (by decide) ?_
  refine lv_iadd hx hb dL_law_558 ?_
  refine hk_topi (i + 1) rfl ?_
  refine va_sld hx hb hX hbl hbA hw.2.2.1 (law_ix 1 hi hL (by decide)) dL_law_559 ?_
  refine hk_topi (xs (i + 1).toNatClampNeg) rfl ?_
  refine lv_aload_n hx hb dL_law_560 rfl (lv_at hl 4 rfl) ?_
  refine lv_iload hx hb dL_law_561 (lv_at hl 0 rfl) ?_
  refine lv_iconst (v := 2) hx hb dL_law_563 (by decide) ?_
  refine lv_iadd hx hb dL_law_564 ?_
  refine hk_topi (i + 2) rfl ?_
  refine va_sld hx hb hX hbl hbA hw.2.2.1 (law_ix 2 hi hL (by decide)) dL_law_565 ?_
  refine hk_topi (xs (i + 2).toNatClampNeg) rfl ?_
  refine lv_aload_n hx hb dL_law_566 rfl (lv_at hl 4 rfl) ?_
  refine lv_iload hx hb dL_law_567 (lv_at hl 0 rfl) ?_
  refine lv_iconst (v := 3) hx hb dL_law_569 (by decide) ?_
  refine lv_iadd hx hb dL_law_570 ?_
  refine hk_topi (i + 3) rfl ?_
  refine va_sld hx hb hX hbl hbA hw.2.2.1 (law_ix 3 hi hL (by decide)) dL_law_571 ?_
  refine hk_topi (xs (i + 3).toNatClampNeg) rfl ?_
  refine lv_if_eq (tgt := 579) hx hb dL_law_572 (by decide) (fun _ => ?_) (fun _ => ?_)
  · refine lv_iconst (v := 0) hx hb dL_law_579 (by decide) ?_
    obtain ⟨u0, u1, u2, u3, u4, u5, u6, u7, u8, u9, u10, u11, u12, u13, u14⟩ := id hI
    refine jp_Vi (wc := xw cI cJ ad g lg ar bk) (wr := [(al, .inl (cJ, 1, .inr (.inl bl)))] ++ mw cI cJ md g2 l2 a2 b2) (As := [.int (xs (i + 1).toNatClampNeg), .int (xs (i + 2).toNatClampNeg), .int 0]) (rest := []) ⟨hx, hb, hml, hown, hts⟩ hZ hw hA [1, 2, 3, 4, 5, 6, 7, 8, 9, 10, 11, 12, 13, 14, 15, 16, 17, 18, 19, 20, 21, 22, 23, 24, 25, 26, 27, 28, 29, 30, 31] [0, 32, 33, 34, 35, 36, 37, 38, 39, 40, 41, 42, 43, 44, 45, 46, 47, 48, 49, 50, 51, 52, 53, 54, 55, 56, 57] rfl rfl (by decide) (by decide) (by decide) (jx_X11_turn l hlt D t3 cI cJ ad g lg ar bk _ ((xs (i + 1).toNatClampNeg)) ((xs (i + 2).toNatClampNeg)) (0) u3.2) (fun _ _ _ _ h => h) (cwV 3 hts gl_X11_turn rfl rfl rfl (by decide +kernel) ⟨Nat.le_of_ble_eq_true rfl, Nat.le_of_ble_eq_true rfl⟩) 0 (ci := 14) (T := TX11) (N := 11) rfl rfl rfl hl.1 rfl (Nat.le_of_ble_eq_true rfl) dL_law_580 ⟨by omega, by omega⟩ (fun r1 g1 l1 a1 b1 H locs hp1 hw => ?_)
    have hI1 := li_X11_turn hI hp1
    have hR1 := lr_X11_turn hR hp1
    refine lv_pop hx hb dL_law_583 rfl ?_
    refine lv_aload_n hx hb dL_law_584 rfl (lv_at hl 2 rfl) ?_
    refine lv_aload_n hx hb dL_law_585 rfl (lv_at hl 4 rfl) ?_
    refine lv_iload hx hb dL_law_586 (lv_at hl 0 rfl) ?_
    refine lv_iconst (v := 1) hx hb dL_law_588 (by decide) ?_
    refine lv_iadd hx hb dL_law_589 ?_
    refine hk_topi (i + 1) rfl ?_
    refine va_sld hx hb hX hbl hbA hw.2.2.1 (law_ix 1 hi hL (by decide)) dL_law_590 ?_
    refine hk_topi (xs (i + 1).toNatClampNeg) rfl ?_
    refine lv_aload_n hx hb dL_law_591 rfl (lv_at hl 4 rfl) ?_
    refine lv_iload hx hb dL_law_592 (lv_at hl 0 rfl) ?_
    refine lv_iconst (v := 2) hx hb dL_law_594 (by decide) ?_
    refine lv_iadd hx hb dL_law_595 ?_
    refine hk_topi (i + 2) rfl ?_
    refine va_sld hx hb hX hbl hbA hw.2.2.1 (law_ix 2 hi hL (by decide)) dL_law_596 ?_
    refine hk_topi (xs (i + 2).toNatClampNeg) rfl ?_
    refine lv_aload_n hx hb dL_law_597 rfl (lv_at hl 4 rfl) ?_
    refine lv_iload hx hb dL_law_598 (lv_at hl 0 rfl) ?_
    refine lv_iconst (v := 3) hx hb dL_law_600 (by decide) ?_
    refine lv_iadd hx hb dL_law_601 ?_
    refine hk_topi (i + 3) rfl ?_
    refine va_sld hx hb hX hbl hbA hw.2.2.1 (law_ix 3 hi hL (by decide)) dL_law_602 ?_
    refine hk_topi (xs (i + 3).toNatClampNeg) rfl ?_
    refine lv_if_eq (tgt := 610) hx hb dL_law_603 (by decide) (fun _ => ?_) (fun _ => ?_)
    · refine lv_iconst (v := 0) hx hb dL_law_610 (by decide) ?_
      obtain ⟨v0, v1, v2, v3, v4, v5, v6, v7, v8, v9, v10, v11, v12, v13, v14, v15, v16, v17, v18, v19, v20, v21, v22⟩ := id hJ
      refine jp_Vi (wc := mw cI cJ md g2 l2 a2 b2) (wr := [(al, .inl (cJ, 1, .inr (.inl bl)))] ++ xw cI cJ ad g1 l1 a1 b1) (As := [.int (xs (i + 1).toNatClampNeg), .int (xs (i + 2).toNatClampNeg), .int 0]) (rest := []) ⟨hx, hb, hml, hown, hts⟩ hZ hw hA [1, 2, 3, 4, 5, 6, 7, 8, 9, 10, 11, 12, 13, 14, 15, 16, 17, 18, 19, 20, 21, 22, 23, 24, 25, 26] [0, 27, 28, 29, 30, 31, 32, 33, 34, 35, 36, 37, 38, 39, 40, 41, 42, 43, 44, 45, 46, 47, 48, 49, 50, 51, 52, 53, 54, 55, 56, 57] rfl rfl (by decide) (by decide) (by decide) (jm_X12_turn l hlt D t3 cI cJ md g2 l2 a2 b2 _ ((xs (i + 1).toNatClampNeg)) ((xs (i + 2).toNatClampNeg)) (0) v2 v3 v6 v7) (fun _ _ _ _ h => h) (cwV 3 hts gl_X12_turn rfl rfl rfl (by decide +kernel) ⟨Nat.le_of_ble_eq_true rfl, Nat.le_of_ble_eq_true rfl⟩) 0 (ci := 15) (T := TX12) (N := 92) rfl rfl rfl hl.1 rfl (Nat.le_of_ble_eq_true rfl) dL_law_611 ⟨by omega, by omega⟩ (fun r2 g2 l2 a2 b2 H locs hp2 hw => ?_)
      have hJ2 := li_X12_turn hJ hp2
      have hR2 := lr_X12_turn hR1 hp2
      refine lv_pop hx hb dL_law_614 rfl ?_
      refine lv_goto (tgt := 643) hx hb dL_law_615 (by decide) ?_
      refine W.widen (k := cells + 2) (n := slots + 12) (by omega) (by omega) ?_
      exact kk g1 l1 a1 b1 g2 l2 a2 b2 bl ls _ _ hI1 hJ2 hR2 hw hl
    · refine lv_iconst (v := 1) hx hb dL_law_606 (by decide) ?_
      refine lv_goto (tgt := 611) hx hb dL_law_607 (by decide) ?_
      obtain ⟨v0, v1, v2, v3, v4, v5, v6, v7, v8, v9, v10, v11, v12, v13, v14, v15, v16, v17, v18, v19, v20, v21, v22⟩ := id hJ
      refine jp_Vi (wc := mw cI cJ md g2 l2 a2 b2) (wr := [(al, .inl (cJ, 1, .inr (.inl bl)))] ++ xw cI cJ ad g1 l1 a1 b1) (As := [.int (xs (i + 1).toNatClampNeg), .int (xs (i + 2).toNatClampNeg), .int 1]) (rest := []) ⟨hx, hb, hml, hown, hts⟩ hZ hw hA [1, 2, 3, 4, 5, 6, 7, 8, 9, 10, 11, 12, 13, 14, 15, 16, 17, 18, 19, 20, 21, 22, 23, 24, 25, 26] [0, 27, 28, 29, 30, 31, 32, 33, 34, 35, 36, 37, 38, 39, 40, 41, 42, 43, 44, 45, 46, 47, 48, 49, 50, 51, 52, 53, 54, 55, 56, 57] rfl rfl (by decide) (by decide) (by decide) (jm_X12_turn l hlt D t3 cI cJ md g2 l2 a2 b2 _ ((xs (i + 1).toNatClampNeg)) ((xs (i + 2).toNatClampNeg)) (1) v2 v3 v6 v7) (fun _ _ _ _ h => h) (cwV 3 hts gl_X12_turn rfl rfl rfl (by decide +kernel) ⟨Nat.le_of_ble_eq_true rfl, Nat.le_of_ble_eq_true rfl⟩) 0 (ci := 15) (T := TX12) (N := 92) rfl rfl rfl hl.1 rfl (Nat.le_of_ble_eq_true rfl) dL_law_611 ⟨by omega, by omega⟩ (fun r3 g3 l3 a3 b3 H locs hp3 hw => ?_)
      have hJ3 := li_X12_turn hJ hp3
      have hR3 := lr_X12_turn hR1 hp3
      refine lv_pop hx hb dL_law_614 rfl ?_
      refine lv_goto (tgt := 643) hx hb dL_law_615 (by decide) ?_
      refine W.widen (k := cells + 2) (n := slots + 12) (by omega) (by omega) ?_
      exact kk g1 l1 a1 b1 g3 l3 a3 b3 bl ls _ _ hI1 hJ3 hR3 hw hl
  · refine lv_iconst (v := 1) hx hb dL_law_575 (by decide) ?_
    refine lv_goto (tgt := 580) hx hb dL_law_576 (by decide) ?_
    obtain ⟨u0, u1, u2, u3, u4, u5, u6, u7, u8, u9, u10, u11, u12, u13, u14⟩ := id hI
    refine jp_Vi (wc := xw cI cJ ad g lg ar bk) (wr := [(al, .inl (cJ, 1, .inr (.inl bl)))] ++ mw cI cJ md g2 l2 a2 b2) (As := [.int (xs (i + 1).toNatClampNeg), .int (xs (i + 2).toNatClampNeg), .int 1]) (rest := []) ⟨hx, hb, hml, hown, hts⟩ hZ hw hA [1, 2, 3, 4, 5, 6, 7, 8, 9, 10, 11, 12, 13, 14, 15, 16, 17, 18, 19, 20, 21, 22, 23, 24, 25, 26, 27, 28, 29, 30, 31] [0, 32, 33, 34, 35, 36, 37, 38, 39, 40, 41, 42, 43, 44, 45, 46, 47, 48, 49, 50, 51, 52, 53, 54, 55, 56, 57] rfl rfl (by decide) (by decide) (by decide) (jx_X11_turn l hlt D t3 cI cJ ad g lg ar bk _ ((xs (i + 1).toNatClampNeg)) ((xs (i + 2).toNatClampNeg)) (1) u3.2) (fun _ _ _ _ h => h) (cwV 3 hts gl_X11_turn rfl rfl rfl (by decide +kernel) ⟨Nat.le_of_ble_eq_true rfl, Nat.le_of_ble_eq_true rfl⟩) 0 (ci := 14) (T := TX11) (N := 11) rfl rfl rfl hl.1 rfl (Nat.le_of_ble_eq_true rfl) dL_law_580 ⟨by omega, by omega⟩ (fun r4 g4 l4 a4 b4 H locs hp4 hw => ?_)
    have hI4 := li_X11_turn hI hp4
    have hR4 := lr_X11_turn hR hp4
    refine lv_pop hx hb dL_law_583 rfl ?_
    refine lv_aload_n hx hb dL_law_584 rfl (lv_at hl 2 rfl) ?_
    refine lv_aload_n hx hb dL_law_585 rfl (lv_at hl 4 rfl) ?_
    refine lv_iload hx hb dL_law_586 (lv_at hl 0 rfl) ?_
    refine lv_iconst (v := 1) hx hb dL_law_588 (by decide) ?_
    refine lv_iadd hx hb dL_law_589 ?_
    refine hk_topi (i + 1) rfl ?_
    refine va_sld hx hb hX hbl hbA hw.2.2.1 (law_ix 1 hi hL (by decide)) dL_law_590 ?_
    refine hk_topi (xs (i + 1).toNatClampNeg) rfl ?_
    refine lv_aload_n hx hb dL_law_591 rfl (lv_at hl 4 rfl) ?_
    refine lv_iload hx hb dL_law_592 (lv_at hl 0 rfl) ?_
    refine lv_iconst (v := 2) hx hb dL_law_594 (by decide) ?_
    refine lv_iadd hx hb dL_law_595 ?_
    refine hk_topi (i + 2) rfl ?_
    refine va_sld hx hb hX hbl hbA hw.2.2.1 (law_ix 2 hi hL (by decide)) dL_law_596 ?_
    refine hk_topi (xs (i + 2).toNatClampNeg) rfl ?_
    refine lv_aload_n hx hb dL_law_597 rfl (lv_at hl 4 rfl) ?_
    refine lv_iload hx hb dL_law_598 (lv_at hl 0 rfl) ?_
    refine lv_iconst (v := 3) hx hb dL_law_600 (by decide) ?_
    refine lv_iadd hx hb dL_law_601 ?_
    refine hk_topi (i + 3) rfl ?_
    refine va_sld hx hb hX hbl hbA hw.2.2.1 (law_ix 3 hi hL (by decide)) dL_law_602 ?_
    refine hk_topi (xs (i + 3).toNatClampNeg) rfl ?_
    refine lv_if_eq (tgt := 610) hx hb dL_law_603 (by decide) (fun _ => ?_) (fun _ => ?_)
    · refine lv_iconst (v := 0) hx hb dL_law_610 (by decide) ?_
      obtain ⟨v0, v1, v2, v3, v4, v5, v6, v7, v8, v9, v10, v11, v12, v13, v14, v15, v16, v17, v18, v19, v20, v21, v22⟩ := id hJ
      refine jp_Vi (wc := mw cI cJ md g2 l2 a2 b2) (wr := [(al, .inl (cJ, 1, .inr (.inl bl)))] ++ xw cI cJ ad g4 l4 a4 b4) (As := [.int (xs (i + 1).toNatClampNeg), .int (xs (i + 2).toNatClampNeg), .int 0]) (rest := []) ⟨hx, hb, hml, hown, hts⟩ hZ hw hA [1, 2, 3, 4, 5, 6, 7, 8, 9, 10, 11, 12, 13, 14, 15, 16, 17, 18, 19, 20, 21, 22, 23, 24, 25, 26] [0, 27, 28, 29, 30, 31, 32, 33, 34, 35, 36, 37, 38, 39, 40, 41, 42, 43, 44, 45, 46, 47, 48, 49, 50, 51, 52, 53, 54, 55, 56, 57] rfl rfl (by decide) (by decide) (by decide) (jm_X12_turn l hlt D t3 cI cJ md g2 l2 a2 b2 _ ((xs (i + 1).toNatClampNeg)) ((xs (i + 2).toNatClampNeg)) (0) v2 v3 v6 v7) (fun _ _ _ _ h => h) (cwV 3 hts gl_X12_turn rfl rfl rfl (by decide +kernel) ⟨Nat.le_of_ble_eq_true rfl, Nat.le_of_ble_eq_true rfl⟩) 0 (ci := 15) (T := TX12) (N := 92) rfl rfl rfl hl.1 rfl (Nat.le_of_ble_eq_true rfl) dL_law_611 ⟨by omega, by omega⟩ (fun r5 g5 l5 a5 b5 H locs hp5 hw => ?_)
      have hJ5 := li_X12_turn hJ hp5
      have hR5 := lr_X12_turn hR4 hp5
      refine lv_pop hx hb dL_law_614 rfl ?_
      refine lv_goto (tgt := 643) hx hb dL_law_615 (by decide) ?_
      refine W.widen (k := cells + 2) (n := slots + 12) (by omega) (by omega) ?_
      exact kk g4 l4 a4 b4 g5 l5 a5 b5 bl ls _ _ hI4 hJ5 hR5 hw hl
    · refine lv_iconst (v := 1) hx hb dL_law_606 (by decide) ?_
      refine lv_goto (tgt := 611) hx hb dL_law_607 (by decide) ?_
      obtain ⟨v0, v1, v2, v3, v4, v5, v6, v7, v8, v9, v10, v11, v12, v13, v14, v15, v16, v17, v18, v19, v20, v21, v22⟩ := id hJ
      refine jp_Vi (wc := mw cI cJ md g2 l2 a2 b2) (wr := [(al, .inl (cJ, 1, .inr (.inl bl)))] ++ xw cI cJ ad g4 l4 a4 b4) (As := [.int (xs (i + 1).toNatClampNeg), .int (xs (i + 2).toNatClampNeg), .int 1]) (rest := []) ⟨hx, hb, hml, hown, hts⟩ hZ hw hA [1, 2, 3, 4, 5, 6, 7, 8, 9, 10, 11, 12, 13, 14, 15, 16, 17, 18, 19, 20, 21, 22, 23, 24, 25, 26] [0, 27, 28, 29, 30, 31, 32, 33, 34, 35, 36, 37, 38, 39, 40, 41, 42, 43, 44, 45, 46, 47, 48, 49, 50, 51, 52, 53, 54, 55, 56, 57] rfl rfl (by decide) (by decide) (by decide) (jm_X12_turn l hlt D t3 cI cJ md g2 l2 a2 b2 _ ((xs (i + 1).toNatClampNeg)) ((xs (i + 2).toNatClampNeg)) (1) v2 v3 v6 v7) (fun _ _ _ _ h => h) (cwV 3 hts gl_X12_turn rfl rfl rfl (by decide +kernel) ⟨Nat.le_of_ble_eq_true rfl, Nat.le_of_ble_eq_true rfl⟩) 0 (ci := 15) (T := TX12) (N := 92) rfl rfl rfl hl.1 rfl (Nat.le_of_ble_eq_true rfl) dL_law_611 ⟨by omega, by omega⟩ (fun r6 g6 l6 a6 b6 H locs hp6 hw => ?_)
      have hJ6 := li_X12_turn hJ hp6
      have hR6 := lr_X12_turn hR4 hp6
      refine lv_pop hx hb dL_law_614 rfl ?_
      refine lv_goto (tgt := 643) hx hb dL_law_615 (by decide) ?_
      refine W.widen (k := cells + 2) (n := slots + 12) (by omega) (by omega) ?_
      exact kk g4 l4 a4 b4 g6 l6 a6 b6 bl ls _ _ hI4 hJ6 hR6 hw hl

set_option maxHeartbeats 4000000 in
set_option maxRecDepth 100000 in
theorem law_c15 {p : Program} {e : Env} {s : State} {m : MethodId} {below : List Frame} {meth : Method} {c : Code} {l : Launch} {b L : Nat} {xs : Nat → Int32} {D : va_G} {cI cJ : ClassId} {t3 : Nat × Nat × Nat} {ad md : Nat → Nat} {al : Nat} {g : Nat → Int32} {lg : Nat → Int64} {ar : Nat → Nat → Int32} {bk : Nat → Int64} {g2 : Nat → Int32} {l2 : Nat → Int64} {a2 : Nat → Nat → Int32} {b2 : Nat → Int64} {bl : Nat → Int64} {i : Int32} {cells slots : Nat} {H : Heap} {locs : List Loc} {ls : Array Slot} (hlt : l.stackTraces = false) (hx : p.tables.exec = Jvm.exec) (hb : c.code = code) (hr : meth.sig.returnType = ret) (hml : c.maxLocals = 7) (hown : s.vm.findClass RL = some m.cls) (hts : ∀ w ∈ lw_tbl, w.before #[Value.ref b] s = true) (hbl : b < s.heap.size) (hlocks : meth.locks = false) (hX : va_X b L xs s s.heap) (hL : L ≤ 3073) (hZ : hk_YY t3 (fun q : Nat => s.heap.size ≤ q) s) (hi : 1 ≤ i.toInt ∧ i.toInt + 6 ≤ (L : Int)) (hw : hk_W D (jT cI cJ) (fun q : Nat => s.heap.size ≤ q) s H locs (([(al, .inl (cJ, 1, .inr (.inl bl)))] ++ xw cI cJ ad g lg ar bk) ++ mw cI cJ md g2 l2 a2 b2)) (hI : law_IX g ar) (hJ : law_IM g2 a2) (hR : law_R g g2) (hl : lv_has ls 7 [(4, .int i), (3, .ref al), (2, .ref (md 0)), (1, .ref (ad 0)), (0, .ref b)]) (hc : cells + 2 ≤ room_1.cells) (hs : slots + 12 ≤ room_1.slots) (kk : ∀ (g : Nat → Int32) (lg : Nat → Int64) (ar : Nat → Nat → Int32) (bk : Nat → Int64) (g2 : Nat → Int32) (l2 : Nat → Int64) (a2 : Nat → Nat → Int32) (b2 : Nat → Int64) (bl : Nat → Int64) (ls : Array Slot) (H : Heap) (locs : List Loc), law_IX g ar → law_IM g2 a2 → law_R g g2 → hk_W D (jT cI cJ) (fun q : Nat => s.heap.size ≤ q) s H locs (([(al, .inl (cJ, 1, .inr (.inl bl)))] ++ xw cI cJ ad g lg ar bk) ++ mw cI cJ md g2 l2 a2 b2) → lv_has ls 7 [(4, .int i), (3, .ref al), (2, .ref (md 0)), (1, .ref (ad 0)), (0, .ref b)] → W p l e room_1 s m #[Value.ref b] below meth c H locs (cells + 2) (slots + 12) (lw_Z below #[Value.ref b] s) (F0 m 643 ls [])) : W p l e room_1 s m #[Value.ref b] below meth c H locs cells slots (lw_Z below #[Value.ref b] s) (F0 m 618 ls []) := by
  have hA : ∀ q : Nat, s.heap.size ≤ q → (fun q : Nat => s.heap.size ≤ q) q := fun _ h => h
  have hbA : ¬ (fun q : Nat => s.heap.size ≤ q) b := Nat.not_le.mpr hbl
  refine lv_aload_n hx hb dL_law_618 rfl (lv_at hl 3 rfl) ?_
  refine lv_aload_n hx hb dL_law_619 rfl (lv_at hl 4 rfl) ?_
  refine lv_iload hx hb dL_law_620 (lv_at hl 0 rfl) ?_
  refine lv_iconst (v := 1) hx hb dL_law_622 (by decide) ?_
  refine lv_iadd hx hb dL_law_623 ?_
  refine hk_topi (i + 1) rfl ?_
  refine va_sld hx hb hX hbl hbA hw.2.2.1 (law_ix 1 hi hL (by decide)) dL_law_624 ?_
  refine hk_topi (xs (i + 1).toNatClampNeg) rfl ?_
  refine jp_Vi (wc := xw cI cJ ad g lg ar bk) (wr := [(al, .inl (cJ, 1, .inr (.inl bl)))] ++ mw cI cJ md g2 l2 a2 b2) (As := [.int (xs (i + 1).toNatClampNeg)]) (rest := []) ⟨hx, hb, hml, hown, hts⟩ hZ hw hA [1, 2, 3, 4, 5, 6, 7, 8, 9, 10, 11, 12, 13, 14, 15, 16, 17, 18, 19, 20, 21, 22, 23, 24, 25, 26, 27, 28, 29, 30, 31] [0, 32, 33, 34, 35, 36, 37, 38, 39, 40, 41, 42, 43, 44, 45, 46, 47, 48, 49, 50, 51, 52, 53, 54, 55, 56, 57] rfl rfl (by decide) (by decide) (by decide) (jx_X11_count l hlt D t3 cI cJ ad g lg ar bk _ ((xs (i + 1).toNatClampNeg))) (fun _ _ _ _ h => h) (cwV 1 hts gl_X11_count rfl rfl rfl (by decide +kernel) ⟨Nat.le_of_ble_eq_true rfl, Nat.le_of_ble_eq_true rfl⟩) 0 (ci := 14) (T := TX11) (N := 11) rfl rfl rfl hl.1 rfl (Nat.le_of_ble_eq_true rfl) dL_law_625 ⟨by omega, by omega⟩ (fun r1 g1 l1 a1 b1 H locs hp1 hw => ?_)
  have hI1 := li_X11_count hI hp1
  have hR1 := lr_X11_count hR hp1
  refine lv_pop hx hb dL_law_628 rfl ?_
  refine lv_aload_n hx hb dL_law_629 rfl (lv_at hl 2 rfl) ?_
  refine lv_aload_n hx hb dL_law_630 rfl (lv_at hl 4 rfl) ?_
  refine lv_iload hx hb dL_law_631 (lv_at hl 0 rfl) ?_
  refine lv_iconst (v := 1) hx hb dL_law_633 (by decide) ?_
  refine lv_iadd hx hb dL_law_634 ?_
  refine hk_topi (i + 1) rfl ?_
  refine va_sld hx hb hX hbl hbA hw.2.2.1 (law_ix 1 hi hL (by decide)) dL_law_635 ?_
  refine hk_topi (xs (i + 1).toNatClampNeg) rfl ?_
  refine jp_Vi (wc := mw cI cJ md g2 l2 a2 b2) (wr := [(al, .inl (cJ, 1, .inr (.inl bl)))] ++ xw cI cJ ad g1 l1 a1 b1) (As := [.int (xs (i + 1).toNatClampNeg)]) (rest := []) ⟨hx, hb, hml, hown, hts⟩ hZ hw hA [1, 2, 3, 4, 5, 6, 7, 8, 9, 10, 11, 12, 13, 14, 15, 16, 17, 18, 19, 20, 21, 22, 23, 24, 25, 26] [0, 27, 28, 29, 30, 31, 32, 33, 34, 35, 36, 37, 38, 39, 40, 41, 42, 43, 44, 45, 46, 47, 48, 49, 50, 51, 52, 53, 54, 55, 56, 57] rfl rfl (by decide) (by decide) (by decide) (jm_X12_count l hlt D t3 cI cJ md g2 l2 a2 b2 _ ((xs (i + 1).toNatClampNeg))) (fun _ _ _ _ h => h) (cwV 1 hts gl_X12_count rfl rfl rfl (by decide +kernel) ⟨Nat.le_of_ble_eq_true rfl, Nat.le_of_ble_eq_true rfl⟩) 0 (ci := 15) (T := TX12) (N := 92) rfl rfl rfl hl.1 rfl (Nat.le_of_ble_eq_true rfl) dL_law_636 ⟨by omega, by omega⟩ (fun r2 g2 l2 a2 b2 H locs hp2 hw => ?_)
  have hJ2 := li_X12_count hJ hp2
  have hR2 := lr_X12_count hR1 hp2
  refine lv_pop hx hb dL_law_639 rfl ?_
  refine lv_goto (tgt := 643) hx hb dL_law_640 (by decide) ?_
  refine W.widen (k := cells + 2) (n := slots + 12) (by omega) (by omega) ?_
  exact kk g1 l1 a1 b1 g2 l2 a2 b2 bl ls _ _ hI1 hJ2 hR2 hw hl
