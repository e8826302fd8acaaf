/-! THE CLAIM OUT OF ONE WALK OF THE LAW'S BODY. Your part is whole_start (and what it stands on); all else here is the same for every law, but numbers. -/
def R_law : String := "LzmaChainsLaw"
def lw_P (b : Addr) (xs : List Int32) (args : Array Value) (s : State) : Prop := args = #[.ref b] ∧ s.IntsAt b xs ∧ xs.length ≤ 7 ∧ (Jvm.Cond.and given_1 narrow_1).before args s = true
def lw_Q (_ : Array Value) (s : State) (o : Outcome) (t : State) : Prop := o = .returned (some (.int 1)) ∧ Framed s o t [] 600002 7302198
def lw_Z (below : List Frame) (a : Array Value) (s : State) : State → Prop := fun t => ∃ o, t.status = .running ∧ Ended t below o ∧ lw_Q a s o t
/-- the law's own end, with 1 on the stack, nothing written that was there before, its room as the claim has it -/
theorem lw_ret {p : Program} {l : Launch} {e : Env} {s : State} {m : MethodId} {below : List Frame} {meth : Method} {c : Code} {b : Nat} (hx : p.tables.exec = Jvm.exec) (hb : c.code = code) (hr : meth.sig.returnType = ret) (hlocks : meth.locks = false) {pc : Nat} {H : Heap} {ls : Array Slot} (hdg : decode code pc = .ok (.ireturn, 1)) : W p l e room_1 s m #[Value.ref b] below meth c H [] 600002 7302198 (lw_Z below #[Value.ref b] s) (F0 m pc ls [.int 1]) := by
  intro T hT X
  obtain ⟨fs, hret, hrun, hended, hW, hframe⟩ := X.leave (v := some (.int 1)) (hlocks := hlocks) (fun h => by rw [hr] at h; cases h)
  have hmeth' : T.vm.method? m = some meth := X.method'
  refine ⟨T.setFrames fs, ?_, .returned (some (.int 1)), hrun, hended, rfl, ⟨_, rfl⟩, hW, hframe⟩
  jvm_step X.here [X.here.top, hx, hb, hdg, hmeth', hr, ret, narrow_b1]
  (try refine ⟨rfl, ?_⟩); (try refine ⟨rfl, ?_⟩)
  first | (intro acts; rw [hret _ acts rfl rfl rfl]) | rw [hret _ _ rfl rfl rfl]
  exact Steps.refl _
/-- what holds at the law's entry: the machine, the code, the tables' words (any of lw_tbl by 'hts w (by decide +kernel)'), the script of L ints xs at the cell b, what the Statement gives of the start (any of its parts by flat_of_before) -/
def lw_At (p : Program) (s : State) (m : MethodId) (meth : Method) (c : Code) (b L : Nat) (xs : Nat → Int32) : Prop :=
  p.tables.exec = Jvm.exec ∧ c.code = code ∧ meth.sig.returnType = ret ∧ c.maxLocals = 7 ∧ s.vm.findClass R_law = some m.cls ∧ (∀ w ∈ lw_tbl, w.before #[Value.ref b] s = true) ∧ va_X b L xs s s.heap ∧ b < s.heap.size ∧ meth.locks = false ∧ (Jvm.Cond.and given_1 narrow_1).before #[Value.ref b] s = true
/-- the law's end, behind its loop -/
theorem law_fin {p : Program} {e : Env} {s : State} {m : MethodId} {below : List Frame} {meth : Method} {c : Code} {l : Launch} {b : Nat} {D : va_G} {tys : List (ClassId × FieldType)} {H : Heap} {locs : List Loc} {ls : Array Slot} {cells slots : Nat} {ws : va_W} (hx : p.tables.exec = Jvm.exec) (hb : c.code = code) (hr : meth.sig.returnType = ret) (hml : c.maxLocals = 7) (hown : s.vm.findClass RL = some m.cls) (hts : ∀ w ∈ lw_tbl, w.before #[Value.ref b] s = true) (hbl : b < s.heap.size) (hlocks : meth.locks = false) (hc : cells ≤ 600002) (hs : slots ≤ 7302198) (hw : hk_W D tys (fun q : Nat => s.heap.size ≤ q) s H locs ws) : W p l e room_1 s m #[Value.ref b] below meth c H locs cells slots (lw_Z below #[Value.ref b] s) (F0 m 677 ls []) := by
  refine lv_iconst (v := 1) hx hb dL_law_677 (by decide) ?_
  refine va_forget (fun q hq => hw.2.2.1.2.2 q hq) ?_
  refine W.widen (k := 600002) (n := 7302198) hc hs ?_
  exact lw_ret hx hb hr hlocks dL_law_678
/-- behind the one call -/
theorem law_end {p : Program} {e : Env} {s : State} {m : MethodId} {below : List Frame} {meth : Method} {c : Code} {l : Launch} {b : Nat} {xs : Nat → Int32} {D : va_G} {tys : List (ClassId × FieldType)} {H : Heap} {locs : List Loc} {ls : Array Slot} {cells slots : Nat} {ws : va_W} (hx : p.tables.exec = Jvm.exec) (hb : c.code = code) (hr : meth.sig.returnType = ret) (hml : c.maxLocals = 7) (hown : s.vm.findClass RL = some m.cls) (hts : ∀ w ∈ lw_tbl, w.before #[Value.ref b] s = true) (hbl : b < s.heap.size) (hlocks : meth.locks = false) (hX : va_X b 7 xs s s.heap) (hc : cells ≤ 600002) (hs : slots ≤ 7302198) (hw : hk_W D tys (fun q : Nat => s.heap.size ≤ q) s H locs ws) (hl : lv_has ls 7 [(4, .int 1), (0, .ref b)]) : W p l e room_1 s m #[Value.ref b] below meth c H locs cells slots (lw_Z below #[Value.ref b] s) (F0 m 671 ls []) := by
  have hbA : ¬ (fun q : Nat => s.heap.size ≤ q) b := Nat.not_le.mpr hbl
  refine lv_iinc (v := 7) (lv' := [(4, .int 7), (0, .ref b)]) hx hb dL_law_671 hl (k := 0) rfl rfl (by decide) rfl (fun ls hl => ?_)
  refine lv_goto (tgt := 33) hx hb dL_law_674 (by decide) ?_
  refine lv_iload hx hb dL_law_33 (lv_at hl 0 rfl) ?_
  refine lv_aload_n hx hb dL_law_35 rfl (lv_at hl 1 rfl) ?_
  refine va_slen hx hb hX hbl hbA hw.2.2.1 dL_law_36 ?_
  refine lv_bipush (v := 6) hx hb dL_law_37 (by decide) ?_
  refine lv_isub hx hb dL_law_39 ?_
  refine lv_icmp_gt (tgt := 677) hx hb dL_law_40 (by decide) (fun _ => ?_) (fun h => absurd (by decide) h)
  exact law_fin hx hb hr hml hown hts hbl hlocks hc hs hw
def hk_a31 (ad : Nat → Nat) (al : Nat) : Nat → Nat := fun k => if k = 31 then al else ad k
theorem hk_k4 (k : Int32) : k = 1 ∨ k = 4 ∨ k = 10 ∨ (k.toInt ≠ 1 ∧ k.toInt ≠ 4 ∧ k.toInt ≠ 10) := by
  rcases Decidable.em (k = 1) with h | h
  · exact Or.inl h
  rcases Decidable.em (k = 4) with h4 | h4
  · exact Or.inr (Or.inl h4)
  rcases Decidable.em (k = 10) with h10 | h10
  · exact Or.inr (Or.inr (Or.inl h10))
  · exact Or.inr (Or.inr (Or.inr ⟨fun q => h (Int32.toInt_inj.mp (q.trans (by decide))), fun q => h4 (Int32.toInt_inj.mp (q.trans (by decide))), fun q => h10 (Int32.toInt_inj.mp (q.trans (by decide)))⟩))
set_option maxHeartbeats 4000000 in
set_option maxRecDepth 100000 in
/-- the law at one call: property -/
theorem law_c0 {p : Program} {e : Env} {s : State} {m : MethodId} {below : List Frame} {meth : Method} {c : Code} {l : Launch} {b : Nat} {xs : Nat → Int32} {D : va_G} {cI cJ : ClassId} {t3 : Nat × Nat × Nat} {ad md : Nat → Nat} {fm : Int32} {ar mr : Nat → Nat → Int32} {al : Nat} {H : Heap} {locs : List Loc} {ls : Array Slot} (hlt : l.stackTraces = false) (hx : p.tables.exec = Jvm.exec) (hb : c.code = code) (hr : meth.sig.returnType = ret) (hml : c.maxLocals = 7) (hown : s.vm.findClass RL = some m.cls) (hts : ∀ w ∈ lw_tbl, w.before #[Value.ref b] s = true) (hbl : b < s.heap.size) (hlocks : meth.locks = false) (hX : va_X b 7 xs s s.heap) (hZ : hk_YY t3 (fun q : Nat => s.heap.size ≤ q) s) (hw : hk_W D [(cI, .int), (cJ, .long)] (fun q : Nat => s.heap.size ≤ q) s H locs (xw cI cJ ad (xf_g fm) xf_l ar (fun _ => 0) ++ (mw cI cJ md (mf_g fm) mf_l mr (fun _ => 0) ++ [(al, .inl (cJ, 1, .inr (.inl (fun _ => 0))))]))) (hl : lv_has ls 7 [(4, .int 1), (3, .ref al), (2, .ref (md 0)), (1, .ref (ad 0)), (0, .ref b)]) : W p l e room_1 s m #[Value.ref b] below meth c H locs 58 133226 (lw_Z below #[Value.ref b] s) (F0 m 128 ls []) := by
  have hA : ∀ q : Nat, s.heap.size ≤ q → (fun q : Nat => s.heap.size ≤ q) q := fun _ h => h
  have hbA : ¬ (fun q : Nat => s.heap.size ≤ q) b := Nat.not_le.mpr hbl
  refine lv_aload_n hx hb dL_law_128 rfl (lv_at hl 3 rfl) ?_
  refine lv_aload_n hx hb dL_law_129 rfl (lv_at hl 4 rfl) ?_
  refine lv_iload hx hb dL_law_130 (lv_at hl 0 rfl) ?_
  refine lv_iconst (v := 1) hx hb dL_law_132 (by decide) ?_
  refine lv_iadd hx hb dL_law_133 ?_
  refine hk_topi 2 (by decide +kernel) ?_
  refine va_sld hx hb hX hbl hbA hw.2.2.1 (show ¬ ((2 : Int32) < 0 ∨ 7 ≤ (2 : Int32).toNatClampNeg) by decide) dL_law_134 ?_
  refine hk_topi (xs 2) rfl ?_
  refine lv_aload_n hx hb dL_law_135 rfl (lv_at hl 4 rfl) ?_
  refine lv_iload hx hb dL_law_136 (lv_at hl 0 rfl) ?_
  refine lv_iconst (v := 2) hx hb dL_law_138 (by decide) ?_
  refine lv_iadd hx hb dL_law_139 ?_
  refine hk_topi 3 (by decide +kernel) ?_
  refine va_sld hx hb hX hbl hbA hw.2.2.1 (show ¬ ((3 : Int32) < 0 ∨ 7 ≤ (3 : Int32).toNatClampNeg) by decide) dL_law_140 ?_
  refine hk_topi (xs 3) rfl ?_
  refine hk_pi (wc := xw cI cJ ad (xf_g fm) xf_l ar (fun _ => 0)) (wr := mw cI cJ md (mf_g fm) mf_l mr (fun _ => 0) ++ ([(al, .inl (cJ, 1, .inr (.inl (fun _ => 0))))])) hw hA [0, 1, 2, 3, 4, 5, 6, 7, 8, 9, 10, 11, 12, 13, 14, 15, 16, 17, 18, 19, 20, 21, 22, 23, 24, 25, 26, 27, 28, 29, 30] [31, 32, 33, 34, 35, 36, 37, 38, 39, 40, 41, 42, 43, 44, 45, 46, 47, 48, 49, 50, 51, 52, 53, 54, 55, 56, 57] rfl rfl (by decide) (by decide) (by decide) (hk_rV (As := [.int (xs 2), .int (xs 3)]) (rest := []) ⟨hx, hb, hml, hown, hts⟩ hZ hw hA [0, 1, 2, 3, 4, 5, 6, 7, 8, 9, 10, 11, 12, 13, 14, 15, 16, 17, 18, 19, 20, 21, 22, 23, 24, 25, 26, 27, 28, 29, 30] rfl (by decide) (hk_toY (ct_property l D cI cJ ad fm ar (fun _ => 0) _ (xs 2) (xs 3))) (cwV 2 hts gl_ct_property rfl rfl rfl (by decide +kernel) ⟨Nat.le_of_ble_eq_true rfl, Nat.le_of_ble_eq_true rfl⟩) 0 (ci := 14) (T := TX11) (N := 11) rfl rfl rfl hl.1 rfl (Nat.le_of_ble_eq_true rfl) dL_law_141 ⟨Nat.le_of_ble_eq_true rfl, Nat.le_of_ble_eq_true rfl⟩) (fun r_1 u_2 H locs hp_3 hw => ?_)
  have hw : hk_W D [(cI, .int), (cJ, .long)] (fun q : Nat => s.heap.size ≤ q) s _ _ ((mw cI cJ md (mf_g fm) mf_l mr (fun _ => 0) ++ ([(al, .inl (cJ, 1, .inr (.inl (fun _ => 0))))])) ++ (xw cI cJ ad u_2.1 u_2.2.1 u_2.2.2.1 u_2.2.2.2)) := hw
  have hw : hk_W D [(cI, .int), (cJ, .long)] (fun q : Nat => s.heap.size ≤ q) s _ _ (mw cI cJ md (mf_g fm) mf_l mr (fun _ => 0) ++ ([(al, .inl (cJ, 1, .inr (.inl (fun _ => 0))))] ++ (xw cI cJ ad u_2.1 u_2.2.1 u_2.2.2.1 u_2.2.2.2))) := hk_cast (by simp only [List.append_assoc]) hw
  try dsimp only at hp_3
  refine lv_aload_n hx hb dL_law_144 rfl (lv_at hl 2 rfl) ?_
  refine lv_aload_n hx hb dL_law_145 rfl (lv_at hl 4 rfl) ?_
  refine lv_iload hx hb dL_law_146 (lv_at hl 0 rfl) ?_
  refine lv_iconst (v := 1) hx hb dL_law_148 (by decide) ?_
  refine lv_iadd hx hb dL_law_149 ?_
  refine hk_topi 2 (by decide +kernel) ?_
  refine va_sld hx hb hX hbl hbA hw.2.2.1 (show ¬ ((2 : Int32) < 0 ∨ 7 ≤ (2 : Int32).toNatClampNeg) by decide) dL_law_150 ?_
  refine hk_topi (xs 2) rfl ?_
  refine lv_aload_n hx hb dL_law_151 rfl (lv_at hl 4 rfl) ?_
  refine lv_iload hx hb dL_law_152 (lv_at hl 0 rfl) ?_
  refine lv_iconst (v := 2) hx hb dL_law_154 (by decide) ?_
  refine lv_iadd hx hb dL_law_155 ?_
  refine hk_topi 3 (by decide +kernel) ?_
  refine va_sld hx hb hX hbl hbA hw.2.2.1 (show ¬ ((3 : Int32) < 0 ∨ 7 ≤ (3 : Int32).toNatClampNeg) by decide) dL_law_156 ?_
  refine hk_topi (xs 3) rfl ?_
  refine hk_pi (wc := mw cI cJ md (mf_g fm) mf_l mr (fun _ => 0)) (wr := [(al, .inl (cJ, 1, .inr (.inl (fun _ => 0))))] ++ (xw cI cJ ad u_2.1 u_2.2.1 u_2.2.2.1 u_2.2.2.2)) hw hA [0, 1, 2, 3, 4, 5, 6, 7, 8, 9, 10, 11, 12, 13, 14, 15, 16, 17, 18, 19, 20, 21, 22, 23, 24, 25] [26, 27, 28, 29, 30, 31, 32, 33, 34, 35, 36, 37, 38, 39, 40, 41, 42, 43, 44, 45, 46, 47, 48, 49, 50, 51, 52, 53, 54, 55, 56, 57] rfl rfl (by decide) (by decide) (by decide) (hk_rV (As := [.int (xs 2), .int (xs 3)]) (rest := [.int r_1]) ⟨hx, hb, hml, hown, hts⟩ hZ hw hA [0, 1, 2, 3, 4, 5, 6, 7, 8, 9, 10, 11, 12, 13, 14, 15, 16, 17, 18, 19, 20, 21, 22, 23, 24, 25] rfl (by decide) (hk_toY (cm_property l D cI cJ md fm mr (fun _ => 0) _ (xs 2) (xs 3))) (cwV 2 hts gl_cm_property rfl rfl rfl (by decide +kernel) ⟨Nat.le_of_ble_eq_true rfl, Nat.le_of_ble_eq_true rfl⟩) 0 (ci := 15) (T := TX12) (N := 92) rfl rfl rfl hl.1 rfl (Nat.le_of_ble_eq_true rfl) dL_law_157 ⟨Nat.le_of_ble_eq_true rfl, Nat.le_of_ble_eq_true rfl⟩) (fun r_4 u_5 H locs hp_6 hw => ?_)
  have hw : hk_W D [(cI, .int), (cJ, .long)] (fun q : Nat => s.heap.size ≤ q) s _ _ (([(al, .inl (cJ, 1, .inr (.inl (fun _ => 0))))] ++ (xw cI cJ ad u_2.1 u_2.2.1 u_2.2.2.1 u_2.2.2.2)) ++ (mw cI cJ md u_5.1 u_5.2.1 u_5.2.2.1 u_5.2.2.2)) := hw
  have hw : hk_W D [(cI, .int), (cJ, .long)] (fun q : Nat => s.heap.size ≤ q) s _ _ ([(al, .inl (cJ, 1, .inr (.inl (fun _ => 0))))] ++ (xw cI cJ ad u_2.1 u_2.2.1 u_2.2.2.1 u_2.2.2.2 ++ (mw cI cJ md u_5.1 u_5.2.1 u_5.2.2.1 u_5.2.2.2))) := hk_cast (by simp only [List.append_assoc]) hw
  try dsimp only at hp_6
  refine lv_icmp_eq (tgt := 671) hx hb dL_law_160 (by decide) (fun _ => ?_) (fun cn => absurd (hp_3.trans hp_6.symm) cn)
  exact law_end hx hb hr hml hown hts hbl hlocks hX (Nat.le_of_ble_eq_true rfl) (Nat.le_of_ble_eq_true rfl) hw (lv_sub hl [0, 4] rfl)

set_option maxHeartbeats 4000000 in
set_option maxRecDepth 100000 in
/-- the law at one call: filter -/
theorem law_c1 {p : Program} {e : Env} {s : State} {m : MethodId} {below : List Frame} {meth : Method} {c : Code} {l : Launch} {b : Nat} {xs : Nat → Int32} {D : va_G} {cI cJ : ClassId} {t3 : Nat × Nat × Nat} {ad md : Nat → Nat} {fm : Int32} {ar mr : Nat → Nat → Int32} {al : Nat} {H : Heap} {locs : List Loc} {ls : Array Slot} (hlt : l.stackTraces = false) (hx : p.tables.exec = Jvm.exec) (hb : c.code = code) (hr : meth.sig.returnType = ret) (hml : c.maxLocals = 7) (hown : s.vm.findClass RL = some m.cls) (hts : ∀ w ∈ lw_tbl, w.before #[Value.ref b] s = true) (hbl : b < s.heap.size) (hlocks : meth.locks = false) (hX : va_X b 7 xs s s.heap) (hZ : hk_YY t3 (fun q : Nat => s.heap.size ≤ q) s) (hw : hk_W D [(cI, .int), (cJ, .long)] (fun q : Nat => s.heap.size ≤ q) s H locs (xw cI cJ ad (xf_g fm) xf_l ar (fun _ => 0) ++ (mw cI cJ md (mf_g fm) mf_l mr (fun _ => 0) ++ [(al, .inl (cJ, 1, .inr (.inl (fun _ => 0))))]))) (hl : lv_has ls 7 [(4, .int 1), (3, .ref al), (2, .ref (md 0)), (1, .ref (ad 0)), (0, .ref b)]) : W p l e room_1 s m #[Value.ref b] below meth c H locs 58 133226 (lw_Z below #[Value.ref b] s) (F0 m 165 ls []) := by
  have hA : ∀ q : Nat, s.heap.size ≤ q → (fun q : Nat => s.heap.size ≤ q) q := fun _ h => h
  have hbA : ¬ (fun q : Nat => s.heap.size ≤ q) b := Nat.not_le.mpr hbl
  refine lv_aload_n hx hb dL_law_165 rfl (lv_at hl 3 rfl) ?_
  refine lv_aload_n hx hb dL_law_166 rfl (lv_at hl 4 rfl) ?_
  refine lv_iload hx hb dL_law_167 (lv_at hl 0 rfl) ?_
  refine lv_iconst (v := 1) hx hb dL_law_169 (by decide) ?_
  refine lv_iadd hx hb dL_law_170 ?_
  refine hk_topi 2 (by decide +kernel) ?_
  refine va_sld hx hb hX hbl hbA hw.2.2.1 (show ¬ ((2 : Int32) < 0 ∨ 7 ≤ (2 : Int32).toNatClampNeg) by decide) dL_law_171 ?_
  refine hk_topi (xs 2) rfl ?_
  refine lv_aload_n hx hb dL_law_172 rfl (lv_at hl 4 rfl) ?_
  refine lv_iload hx hb dL_law_173 (lv_at hl 0 rfl) ?_
  refine lv_iconst (v := 2) hx hb dL_law_175 (by decide) ?_
  refine lv_iadd hx hb dL_law_176 ?_
  refine hk_topi 3 (by decide +kernel) ?_
  refine va_sld hx hb hX hbl hbA hw.2.2.1 (show ¬ ((3 : Int32) < 0 ∨ 7 ≤ (3 : Int32).toNatClampNeg) by decide) dL_law_177 ?_
  refine hk_topi (xs 3) rfl ?_
  refine hk_pi (wc := xw cI cJ ad (xf_g fm) xf_l ar (fun _ => 0)) (wr := mw cI cJ md (mf_g fm) mf_l mr (fun _ => 0) ++ ([(al, .inl (cJ, 1, .inr (.inl (fun _ => 0))))])) hw hA [0, 1, 2, 3, 4, 5, 6, 7, 8, 9, 10, 11, 12, 13, 14, 15, 16, 17, 18, 19, 20, 21, 22, 23, 24, 25, 26, 27, 28, 29, 30] [31, 32, 33, 34, 35, 36, 37, 38, 39, 40, 41, 42, 43, 44, 45, 46, 47, 48, 49, 50, 51, 52, 53, 54, 55, 56, 57] rfl rfl (by decide) (by decide) (by decide) (hk_rV (As := [.int (xs 2), .int (xs 3)]) (rest := []) ⟨hx, hb, hml, hown, hts⟩ hZ hw hA [0, 1, 2, 3, 4, 5, 6, 7, 8, 9, 10, 11, 12, 13, 14, 15, 16, 17, 18, 19, 20, 21, 22, 23, 24, 25, 26, 27, 28, 29, 30] rfl (by decide) (hk_toY (ct_filter l D cI cJ ad fm ar (fun _ => 0) _ (xs 2) (xs 3))) (cwV 2 hts gl_ct_filter rfl rfl rfl (by decide +kernel) ⟨Nat.le_of_ble_eq_true rfl, Nat.le_of_ble_eq_true rfl⟩) 0 (ci := 14) (T := TX11) (N := 11) rfl rfl rfl hl.1 rfl (Nat.le_of_ble_eq_true rfl) dL_law_178 ⟨Nat.le_of_ble_eq_true rfl, Nat.le_of_ble_eq_true rfl⟩) (fun r_1 u_2 H locs hp_3 hw => ?_)
  have hw : hk_W D [(cI, .int), (cJ, .long)] (fun q : Nat => s.heap.size ≤ q) s _ _ ((mw cI cJ md (mf_g fm) mf_l mr (fun _ => 0) ++ ([(al, .inl (cJ, 1, .inr (.inl (fun _ => 0))))])) ++ (xw cI cJ ad u_2.1 u_2.2.1 u_2.2.2.1 u_2.2.2.2)) := hw
  have hw : hk_W D [(cI, .int), (cJ, .long)] (fun q : Nat => s.heap.size ≤ q) s _ _ (mw cI cJ md (mf_g fm) mf_l mr (fun _ => 0) ++ ([(al, .inl (cJ, 1, .inr (.inl (fun _ => 0))))] ++ (xw cI cJ ad u_2.1 u_2.2.1 u_2.2.2.1 u_2.2.2.2))) := hk_cast (by simp only [List.append_assoc]) hw
  try dsimp only at hp_3
  refine lv_aload_n hx hb dL_law_181 rfl (lv_at hl 2 rfl) ?_
  refine lv_aload_n hx hb dL_law_182 rfl (lv_at hl 4 rfl) ?_
  refine lv_iload hx hb dL_law_183 (lv_at hl 0 rfl) ?_
  refine lv_iconst (v := 1) hx hb dL_law_185 (by decide) ?_
  refine lv_iadd hx hb dL_law_186 ?_
  refine hk_topi 2 (by decide +kernel) ?_
  refine va_sld hx hb hX hbl hbA hw.2.2.1 (show ¬ ((2 : Int32) < 0 ∨ 7 ≤ (2 : Int32).toNatClampNeg) by decide) dL_law_187 ?_
  refine hk_topi (xs 2) rfl ?_
  refine lv_aload_n hx hb dL_law_188 rfl (lv_at hl 4 rfl) ?_
  refine lv_iload hx hb dL_law_189 (lv_at hl 0 rfl) ?_
  refine lv_iconst (v := 2) hx hb dL_law_191 (by decide) ?_
  refine lv_iadd hx hb dL_law_192 ?_
  refine hk_topi 3 (by decide +kernel) ?_
  refine va_sld hx hb hX hbl hbA hw.2.2.1 (show ¬ ((3 : Int32) < 0 ∨ 7 ≤ (3 : Int32).toNatClampNeg) by decide) dL_law_193 ?_
  refine hk_topi (xs 3) rfl ?_
  refine hk_pi (wc := mw cI cJ md (mf_g fm) mf_l mr (fun _ => 0)) (wr := [(al, .inl (cJ, 1, .inr (.inl (fun _ => 0))))] ++ (xw cI cJ ad u_2.1 u_2.2.1 u_2.2.2.1 u_2.2.2.2)) hw hA [0, 1, 2, 3, 4, 5, 6, 7, 8, 9, 10, 11, 12, 13, 14, 15, 16, 17, 18, 19, 20, 21, 22, 23, 24, 25] [26, 27, 28, 29, 30, 31, 32, 33, 34, 35, 36, 37, 38, 39, 40, 41, 42, 43, 44, 45, 46, 47, 48, 49, 50, 51, 52, 53, 54, 55, 56, 57] rfl rfl (by decide) (by decide) (by decide) (hk_rV (As := [.int (xs 2), .int (xs 3)]) (rest := [.int r_1]) ⟨hx, hb, hml, hown, hts⟩ hZ hw hA [0, 1, 2, 3, 4, 5, 6, 7, 8, 9, 10, 11, 12, 13, 14, 15, 16, 17, 18, 19, 20, 21, 22, 23, 24, 25] rfl (by decide) (hk_toY (cm_filter l D cI cJ md fm mr (fun _ => 0) _ (xs 2) (xs 3))) (cwV 2 hts gl_cm_filter rfl rfl rfl (by decide +kernel) ⟨Nat.le_of_ble_eq_true rfl, Nat.le_of_ble_eq_true rfl⟩) 0 (ci := 15) (T := TX12) (N := 92) rfl rfl rfl hl.1 rfl (Nat.le_of_ble_eq_true rfl) dL_law_194 ⟨Nat.le_of_ble_eq_true rfl, Nat.le_of_ble_eq_true rfl⟩) (fun r_4 u_5 H locs hp_6 hw => ?_)
  have hw : hk_W D [(cI, .int), (cJ, .long)] (fun q : Nat => s.heap.size ≤ q) s _ _ (([(al, .inl (cJ, 1, .inr (.inl (fun _ => 0))))] ++ (xw cI cJ ad u_2.1 u_2.2.1 u_2.2.2.1 u_2.2.2.2)) ++ (mw cI cJ md u_5.1 u_5.2.1 u_5.2.2.1 u_5.2.2.2)) := hw
  have hw : hk_W D [(cI, .int), (cJ, .long)] (fun q : Nat => s.heap.size ≤ q) s _ _ ([(al, .inl (cJ, 1, .inr (.inl (fun _ => 0))))] ++ (xw cI cJ ad u_2.1 u_2.2.1 u_2.2.2.1 u_2.2.2.2 ++ (mw cI cJ md u_5.1 u_5.2.1 u_5.2.2.1 u_5.2.2.2))) := hk_cast (by simp only [List.append_assoc]) hw
  try dsimp only at hp_6
  refine lv_icmp_eq (tgt := 671) hx hb dL_law_197 (by decide) (fun _ => ?_) (fun cn => absurd (Int32.toInt_inj.mp (by omega)) cn)
  exact law_end hx hb hr hml hown hts hbl hlocks hX (Nat.le_of_ble_eq_true rfl) (Nat.le_of_ble_eq_true rfl) hw (lv_sub hl [0, 4] rfl)

set_option maxHeartbeats 4000000 in
set_option maxRecDepth 100000 in
/-- the law at one call: feed -/
theorem law_c2 {p : Program} {e : Env} {s : State} {m : MethodId} {below : List Frame} {meth : Method} {c : Code} {l : Launch} {b : Nat} {xs : Nat → Int32} {D : va_G} {cI cJ : ClassId} {t3 : Nat × Nat × Nat} {ad md : Nat → Nat} {fm : Int32} {ar mr : Nat → Nat → Int32} {al : Nat} {H : Heap} {locs : List Loc} {ls : Array Slot} (hlt : l.stackTraces = false) (hx : p.tables.exec = Jvm.exec) (hb : c.code = code) (hr : meth.sig.returnType = ret) (hml : c.maxLocals = 7) (hown : s.vm.findClass RL = some m.cls) (hts : ∀ w ∈ lw_tbl, w.before #[Value.ref b] s = true) (hbl : b < s.heap.size) (hlocks : meth.locks = false) (hX : va_X b 7 xs s s.heap) (hZ : hk_YY t3 (fun q : Nat => s.heap.size ≤ q) s) (hw : hk_W D [(cI, .int), (cJ, .long)] (fun q : Nat => s.heap.size ≤ q) s H locs (xw cI cJ ad (xf_g fm) xf_l ar (fun _ => 0) ++ (mw cI cJ md (mf_g fm) mf_l mr (fun _ => 0) ++ [(al, .inl (cJ, 1, .inr (.inl (fun _ => 0))))]))) (hl : lv_has ls 7 [(4, .int 1), (3, .ref al), (2, .ref (md 0)), (1, .ref (ad 0)), (0, .ref b)]) : W p l e room_1 s m #[Value.ref b] below meth c H locs 58 133226 (lw_Z below #[Value.ref b] s) (F0 m 202 ls []) := by
  have hA : ∀ q : Nat, s.heap.size ≤ q → (fun q : Nat => s.heap.size ≤ q) q := fun _ h => h
  have hbA : ¬ (fun q : Nat => s.heap.size ≤ q) b := Nat.not_le.mpr hbl
  refine lv_aload_n hx hb dL_law_202 rfl (lv_at hl 3 rfl) ?_
  refine lv_aload_n hx hb dL_law_203 rfl (lv_at hl 4 rfl) ?_
  refine lv_iload hx hb dL_law_204 (lv_at hl 0 rfl) ?_
  refine lv_iconst (v := 1) hx hb dL_law_206 (by decide) ?_
  refine lv_iadd hx hb dL_law_207 ?_
  refine hk_topi 2 (by decide +kernel) ?_
  refine va_sld hx hb hX hbl hbA hw.2.2.1 (show ¬ ((2 : Int32) < 0 ∨ 7 ≤ (2 : Int32).toNatClampNeg) by decide) dL_law_208 ?_
  refine hk_topi (xs 2) rfl ?_
  refine lv_aload_n hx hb dL_law_209 rfl (lv_at hl 4 rfl) ?_
  refine lv_iload hx hb dL_law_210 (lv_at hl 0 rfl) ?_
  refine lv_iconst (v := 2) hx hb dL_law_212 (by decide) ?_
  refine lv_iadd hx hb dL_law_213 ?_
  refine hk_topi 3 (by decide +kernel) ?_
  refine va_sld hx hb hX hbl hbA hw.2.2.1 (show ¬ ((3 : Int32) < 0 ∨ 7 ≤ (3 : Int32).toNatClampNeg) by decide) dL_law_214 ?_
  refine hk_topi (xs 3) rfl ?_
  refine lv_aload_n hx hb dL_law_215 rfl (lv_at hl 4 rfl) ?_
  refine lv_iload hx hb dL_law_216 (lv_at hl 0 rfl) ?_
  refine lv_iconst (v := 3) hx hb dL_law_218 (by decide) ?_
  refine lv_iadd hx hb dL_law_219 ?_
  refine hk_topi 4 (by decide +kernel) ?_
  refine va_sld hx hb hX hbl hbA hw.2.2.1 (show ¬ ((4 : Int32) < 0 ∨ 7 ≤ (4 : Int32).toNatClampNeg) by decide) dL_law_220 ?_
  refine hk_topi (xs 4) rfl ?_
  refine lv_aload_n hx hb dL_law_221 rfl (lv_at hl 4 rfl) ?_
  refine lv_iload hx hb dL_law_222 (lv_at hl 0 rfl) ?_
  refine lv_iconst (v := 4) hx hb dL_law_224 (by decide) ?_
  refine lv_iadd hx hb dL_law_225 ?_
  refine hk_topi 5 (by decide +kernel) ?_
  refine va_sld hx hb hX hbl hbA hw.2.2.1 (show ¬ ((5 : Int32) < 0 ∨ 7 ≤ (5 : Int32).toNatClampNeg) by decide) dL_law_226 ?_
  refine hk_topi (xs 5) rfl ?_
  refine lv_aload_n hx hb dL_law_227 rfl (lv_at hl 4 rfl) ?_
  refine lv_iload hx hb dL_law_228 (lv_at hl 0 rfl) ?_
  refine lv_iconst (v := 5) hx hb dL_law_230 (by decide) ?_
  refine lv_iadd hx hb dL_law_231 ?_
  refine hk_topi 6 (by decide +kernel) ?_
  refine va_sld hx hb hX hbl hbA hw.2.2.1 (show ¬ ((6 : Int32) < 0 ∨ 7 ≤ (6 : Int32).toNatClampNeg) by decide) dL_law_232 ?_
  refine hk_topi (xs 6) rfl ?_
  refine hk_pi (wc := xw cI cJ ad (xf_g fm) xf_l ar (fun _ => 0)) (wr := mw cI cJ md (mf_g fm) mf_l mr (fun _ => 0) ++ ([(al, .inl (cJ, 1, .inr (.inl (fun _ => 0))))])) hw hA [0, 1, 2, 3, 4, 5, 6, 7, 8, 9, 10, 11, 12, 13, 14, 15, 16, 17, 18, 19, 20, 21, 22, 23, 24, 25, 26, 27, 28, 29, 30] [31, 32, 33, 34, 35, 36, 37, 38, 39, 40, 41, 42, 43, 44, 45, 46, 47, 48, 49, 50, 51, 52, 53, 54, 55, 56, 57] rfl rfl (by decide) (by decide) (by decide) (hk_rV (As := [.int (xs 2), .int (xs 3), .int (xs 4), .int (xs 5), .int (xs 6)]) (rest := []) ⟨hx, hb, hml, hown, hts⟩ hZ hw hA [0, 1, 2, 3, 4, 5, 6, 7, 8, 9, 10, 11, 12, 13, 14, 15, 16, 17, 18, 19, 20, 21, 22, 23, 24, 25, 26, 27, 28, 29, 30] rfl (by decide) (hk_toY (ct_feed l D cI cJ ad fm ar (fun _ => 0) _ (xs 2) (xs 3) (xs 4) (xs 5) (xs 6))) (cwV 5 hts gl_ct_feed rfl rfl rfl (by decide +kernel) ⟨Nat.le_of_ble_eq_true rfl, Nat.le_of_ble_eq_true rfl⟩) 0 (ci := 14) (T := TX11) (N := 11) rfl rfl rfl hl.1 rfl (Nat.le_of_ble_eq_true rfl) dL_law_233 ⟨Nat.le_of_ble_eq_true rfl, Nat.le_of_ble_eq_true rfl⟩) (fun r_1 u_2 H locs hp_3 hw => ?_)
  have hw : hk_W D [(cI, .int), (cJ, .long)] (fun q : Nat => s.heap.size ≤ q) s _ _ ((mw cI cJ md (mf_g fm) mf_l mr (fun _ => 0) ++ ([(al, .inl (cJ, 1, .inr (.inl (fun _ => 0))))])) ++ (xw cI cJ ad u_2.1 u_2.2.1 u_2.2.2.1 u_2.2.2.2)) := hw
  have hw : hk_W D [(cI, .int), (cJ, .long)] (fun q : Nat => s.heap.size ≤ q) s _ _ (mw cI cJ md (mf_g fm) mf_l mr (fun _ => 0) ++ ([(al, .inl (cJ, 1, .inr (.inl (fun _ => 0))))] ++ (xw cI cJ ad u_2.1 u_2.2.1 u_2.2.2.1 u_2.2.2.2))) := hk_cast (by simp only [List.append_assoc]) hw
  try dsimp only at hp_3
  refine lv_aload_n hx hb dL_law_236 rfl (lv_at hl 2 rfl) ?_
  refine lv_aload_n hx hb dL_law_237 rfl (lv_at hl 4 rfl) ?_
  refine lv_iload hx hb dL_law_238 (lv_at hl 0 rfl) ?_
  refine lv_iconst (v := 1) hx hb dL_law_240 (by decide) ?_
  refine lv_iadd hx hb dL_law_241 ?_
  refine hk_topi 2 (by decide +kernel) ?_
  refine va_sld hx hb hX hbl hbA hw.2.2.1 (show ¬ ((2 : Int32) < 0 ∨ 7 ≤ (2 : Int32).toNatClampNeg) by decide) dL_law_242 ?_
  refine hk_topi (xs 2) rfl ?_
  refine lv_aload_n hx hb dL_law_243 rfl (lv_at hl 4 rfl) ?_
  refine lv_iload hx hb dL_law_244 (lv_at hl 0 rfl) ?_
  refine lv_iconst (v := 2) hx hb dL_law_246 (by decide) ?_
  refine lv_iadd hx hb dL_law_247 ?_
  refine hk_topi 3 (by decide +kernel) ?_
  refine va_sld hx hb hX hbl hbA hw.2.2.1 (show ¬ ((3 : Int32) < 0 ∨ 7 ≤ (3 : Int32).toNatClampNeg) by decide) dL_law_248 ?_
  refine hk_topi (xs 3) rfl ?_
  refine lv_aload_n hx hb dL_law_249 rfl (lv_at hl 4 rfl) ?_
  refine lv_iload hx hb dL_law_250 (lv_at hl 0 rfl) ?_
  refine lv_iconst (v := 3) hx hb dL_law_252 (by decide) ?_
  refine lv_iadd hx hb dL_law_253 ?_
  refine hk_topi 4 (by decide +kernel) ?_
  refine va_sld hx hb hX hbl hbA hw.2.2.1 (show ¬ ((4 : Int32) < 0 ∨ 7 ≤ (4 : Int32).toNatClampNeg) by decide) dL_law_254 ?_
  refine hk_topi (xs 4) rfl ?_
  refine lv_aload_n hx hb dL_law_255 rfl (lv_at hl 4 rfl) ?_
  refine lv_iload hx hb dL_law_256 (lv_at hl 0 rfl) ?_
  refine lv_iconst (v := 4) hx hb dL_law_258 (by decide) ?_
  refine lv_iadd hx hb dL_law_259 ?_
  refine hk_topi 5 (by decide +kernel) ?_
  refine va_sld hx hb hX hbl hbA hw.2.2.1 (show ¬ ((5 : Int32) < 0 ∨ 7 ≤ (5 : Int32).toNatClampNeg) by decide) dL_law_260 ?_
  refine hk_topi (xs 5) rfl ?_
  refine lv_aload_n hx hb dL_law_261 rfl (lv_at hl 4 rfl) ?_
  refine lv_iload hx hb dL_law_262 (lv_at hl 0 rfl) ?_
  refine lv_iconst (v := 5) hx hb dL_law_264 (by decide) ?_
  refine lv_iadd hx hb dL_law_265 ?_
  refine hk_topi 6 (by decide +kernel) ?_
  refine va_sld hx hb hX hbl hbA hw.2.2.1 (show ¬ ((6 : Int32) < 0 ∨ 7 ≤ (6 : Int32).toNatClampNeg) by decide) dL_law_266 ?_
  refine hk_topi (xs 6) rfl ?_
  refine hk_pi (wc := mw cI cJ md (mf_g fm) mf_l mr (fun _ => 0)) (wr := [(al, .inl (cJ, 1, .inr (.inl (fun _ => 0))))] ++ (xw cI cJ ad u_2.1 u_2.2.1 u_2.2.2.1 u_2.2.2.2)) hw hA [0, 1, 2, 3, 4, 5, 6, 7, 8, 9, 10, 11, 12, 13, 14, 15, 16, 17, 18, 19, 20, 21, 22, 23, 24, 25] [26, 27, 28, 29, 30, 31, 32, 33, 34, 35, 36, 37, 38, 39, 40, 41, 42, 43, 44, 45, 46, 47, 48, 49, 50, 51, 52, 53, 54, 55, 56, 57] rfl rfl (by decide) (by decide) (by decide) (hk_rV (As := [.int (xs 2), .int (xs 3), .int (xs 4), .int (xs 5), .int (xs 6)]) (rest := [.int r_1]) ⟨hx, hb, hml, hown, hts⟩ hZ hw hA [0, 1, 2, 3, 4, 5, 6, 7, 8, 9, 10, 11, 12, 13, 14, 15, 16, 17, 18, 19, 20, 21, 22, 23, 24, 25] rfl (by decide) (hk_toY (cm_feed l D cI cJ md fm mr (fun _ => 0) _ (xs 2) (xs 3) (xs 4) (xs 5) (xs 6))) (cwV 5 hts gl_cm_feed rfl rfl rfl (by decide +kernel) ⟨Nat.le_of_ble_eq_true rfl, Nat.le_of_ble_eq_true rfl⟩) 0 (ci := 15) (T := TX12) (N := 92) rfl rfl rfl hl.1 rfl (Nat.le_of_ble_eq_true rfl) dL_law_267 ⟨Nat.le_of_ble_eq_true rfl, Nat.le_of_ble_eq_true rfl⟩) (fun r_4 u_5 H locs hp_6 hw => ?_)
  have hw : hk_W D [(cI, .int), (cJ, .long)] (fun q : Nat => s.heap.size ≤ q) s _ _ (([(al, .inl (cJ, 1, .inr (.inl (fun _ => 0))))] ++ (xw cI cJ ad u_2.1 u_2.2.1 u_2.2.2.1 u_2.2.2.2)) ++ (mw cI cJ md u_5.1 u_5.2.1 u_5.2.2.1 u_5.2.2.2)) := hw
  have hw : hk_W D [(cI, .int), (cJ, .long)] (fun q : Nat => s.heap.size ≤ q) s _ _ ([(al, .inl (cJ, 1, .inr (.inl (fun _ => 0))))] ++ (xw cI cJ ad u_2.1 u_2.2.1 u_2.2.2.1 u_2.2.2.2 ++ (mw cI cJ md u_5.1 u_5.2.1 u_5.2.2.1 u_5.2.2.2))) := hk_cast (by simp only [List.append_assoc]) hw
  try dsimp only at hp_6
  refine lv_icmp_eq (tgt := 671) hx hb dL_law_270 (by decide) (fun _ => ?_) (fun cn => absurd (hp_3.trans hp_6.symm) cn)
  exact law_end hx hb hr hml hown hts hbl hlocks hX (Nat.le_of_ble_eq_true rfl) (Nat.le_of_ble_eq_true rfl) hw (lv_sub hl [0, 4] rfl)

set_option maxHeartbeats 4000000 in
set_option maxRecDepth 100000 in
/-- the law at one call: end -/
theorem law_c3 {p : Program} {e : Env} {s : State} {m : MethodId} {below : List Frame} {meth : Method} {c : Code} {l : Launch} {b : Nat} {xs : Nat → Int32} {D : va_G} {cI cJ : ClassId} {t3 : Nat × Nat × Nat} {ad md : Nat → Nat} {fm : Int32} {ar mr : Nat → Nat → Int32} {al : Nat} {H : Heap} {locs : List Loc} {ls : Array Slot} (hlt : l.stackTraces = false) (hx : p.tables.exec = Jvm.exec) (hb : c.code = code) (hr : meth.sig.returnType = ret) (hml : c.maxLocals = 7) (hown : s.vm.findClass RL = some m.cls) (hts : ∀ w ∈ lw_tbl, w.before #[Value.ref b] s = true) (hbl : b < s.heap.size) (hlocks : meth.locks = false) (hX : va_X b 7 xs s s.heap) (hZ : hk_YY t3 (fun q : Nat => s.heap.size ≤ q) s) (hw : hk_W D [(cI, .int), (cJ, .long)] (fun q : Nat => s.heap.size ≤ q) s H locs (xw cI cJ ad (xf_g fm) xf_l ar (fun _ => 0) ++ (mw cI cJ md (mf_g fm) mf_l mr (fun _ => 0) ++ [(al, .inl (cJ, 1, .inr (.inl (fun _ => 0))))]))) (hl : lv_has ls 7 [(4, .int 1), (3, .ref al), (2, .ref (md 0)), (1, .ref (ad 0)), (0, .ref b)]) : W p l e room_1 s m #[Value.ref b] below meth c H locs 58 133226 (lw_Z below #[Value.ref b] s) (F0 m 275 ls []) := by
  have hA : ∀ q : Nat, s.heap.size ≤ q → (fun q : Nat => s.heap.size ≤ q) q := fun _ h => h
  have hbA : ¬ (fun q : Nat => s.heap.size ≤ q) b := Nat.not_le.mpr hbl
  refine lv_aload_n hx hb dL_law_275 rfl (lv_at hl 3 rfl) ?_
  refine lv_aload_n hx hb dL_law_276 rfl (lv_at hl 4 rfl) ?_
  refine lv_iload hx hb dL_law_277 (lv_at hl 0 rfl) ?_
  refine lv_iconst (v := 1) hx hb dL_law_279 (by decide) ?_
  refine lv_iadd hx hb dL_law_280 ?_
  refine hk_topi 2 (by decide +kernel) ?_
  refine va_sld hx hb hX hbl hbA hw.2.2.1 (show ¬ ((2 : Int32) < 0 ∨ 7 ≤ (2 : Int32).toNatClampNeg) by decide) dL_law_281 ?_
  refine hk_topi (xs 2) rfl ?_
  refine hk_pi (wc := xw cI cJ ad (xf_g fm) xf_l ar (fun _ => 0)) (wr := mw cI cJ md (mf_g fm) mf_l mr (fun _ => 0) ++ ([(al, .inl (cJ, 1, .inr (.inl (fun _ => 0))))])) hw hA [0, 1, 2, 3, 4, 5, 6, 7, 8, 9, 10, 11, 12, 13, 14, 15, 16, 17, 18, 19, 20, 21, 22, 23, 24, 25, 26, 27, 28, 29, 30] [31, 32, 33, 34, 35, 36, 37, 38, 39, 40, 41, 42, 43, 44, 45, 46, 47, 48, 49, 50, 51, 52, 53, 54, 55, 56, 57] rfl rfl (by decide) (by decide) (by decide) (hk_rV (As := [.int (xs 2)]) (rest := []) ⟨hx, hb, hml, hown, hts⟩ hZ hw hA [0, 1, 2, 3, 4, 5, 6, 7, 8, 9, 10, 11, 12, 13, 14, 15, 16, 17, 18, 19, 20, 21, 22, 23, 24, 25, 26, 27, 28, 29, 30] rfl (by decide) (hk_toY (ct_end l D cI cJ ad fm ar (fun _ => 0) _ (xs 2))) (cwV 1 hts gl_ct_end rfl rfl rfl (by decide +kernel) ⟨Nat.le_of_ble_eq_true rfl, Nat.le_of_ble_eq_true rfl⟩) 0 (ci := 14) (T := TX11) (N := 11) rfl rfl rfl hl.1 rfl (Nat.le_of_ble_eq_true rfl) dL_law_282 ⟨Nat.le_of_ble_eq_true rfl, Nat.le_of_ble_eq_true rfl⟩) (fun r_1 u_2 H locs hp_3 hw => ?_)
  have hw : hk_W D [(cI, .int), (cJ, .long)] (fun q : Nat => s.heap.size ≤ q) s _ _ ((mw cI cJ md (mf_g fm) mf_l mr (fun _ => 0) ++ ([(al, .inl (cJ, 1, .inr (.inl (fun _ => 0))))])) ++ (xw cI cJ ad u_2.1 u_2.2.1 u_2.2.2.1 u_2.2.2.2)) := hw
  have hw : hk_W D [(cI, .int), (cJ, .long)] (fun q : Nat => s.heap.size ≤ q) s _ _ (mw cI cJ md (mf_g fm) mf_l mr (fun _ => 0) ++ ([(al, .inl (cJ, 1, .inr (.inl (fun _ => 0))))] ++ (xw cI cJ ad u_2.1 u_2.2.1 u_2.2.2.1 u_2.2.2.2))) := hk_cast (by simp only [List.append_assoc]) hw
  try dsimp only at hp_3
  refine lv_aload_n hx hb dL_law_285 rfl (lv_at hl 2 rfl) ?_
  refine lv_aload_n hx hb dL_law_286 rfl (lv_at hl 4 rfl) ?_
  refine lv_iload hx hb dL_law_287 (lv_at hl 0 rfl) ?_
  refine lv_iconst (v := 1) hx hb dL_law_289 (by decide) ?_
  refine lv_iadd hx hb dL_law_290 ?_
  refine hk_topi 2 (by decide +kernel) ?_
  refine va_sld hx hb hX hbl hbA hw.2.2.1 (show ¬ ((2 : Int32) < 0 ∨ 7 ≤ (2 : Int32).toNatClampNeg) by decide) dL_law_291 ?_
  refine hk_topi (xs 2) rfl ?_
  refine hk_pi (wc := mw cI cJ md (mf_g fm) mf_l mr (fun _ => 0)) (wr := [(al, .inl (cJ, 1, .inr (.inl (fun _ => 0))))] ++ (xw cI cJ ad u_2.1 u_2.2.1 u_2.2.2.1 u_2.2.2.2)) hw hA [0, 1, 2, 3, 4, 5, 6, 7, 8, 9, 10, 11, 12, 13, 14, 15, 16, 17, 18, 19, 20, 21, 22, 23, 24, 25] [26, 27, 28, 29, 30, 31, 32, 33, 34, 35, 36, 37, 38, 39, 40, 41, 42, 43, 44, 45, 46, 47, 48, 49, 50, 51, 52, 53, 54, 55, 56, 57] rfl rfl (by decide) (by decide) (by decide) (hk_rV (As := [.int (xs 2)]) (rest := [.int r_1]) ⟨hx, hb, hml, hown, hts⟩ hZ hw hA [0, 1, 2, 3, 4, 5, 6, 7, 8, 9, 10, 11, 12, 13, 14, 15, 16, 17, 18, 19, 20, 21, 22, 23, 24, 25] rfl (by decide) (hk_toY (cm_end l D cI cJ md fm mr (fun _ => 0) _ (xs 2))) (cwV 1 hts gl_cm_end rfl rfl rfl (by decide +kernel) ⟨Nat.le_of_ble_eq_true rfl, Nat.le_of_ble_eq_true rfl⟩) 0 (ci := 15) (T := TX12) (N := 92) rfl rfl rfl hl.1 rfl (Nat.le_of_ble_eq_true rfl) dL_law_292 ⟨Nat.le_of_ble_eq_true rfl, Nat.le_of_ble_eq_true rfl⟩) (fun r_4 u_5 H locs hp_6 hw => ?_)
  have hw : hk_W D [(cI, .int), (cJ, .long)] (fun q : Nat => s.heap.size ≤ q) s _ _ (([(al, .inl (cJ, 1, .inr (.inl (fun _ => 0))))] ++ (xw cI cJ ad u_2.1 u_2.2.1 u_2.2.2.1 u_2.2.2.2)) ++ (mw cI cJ md u_5.1 u_5.2.1 u_5.2.2.1 u_5.2.2.2)) := hw
  have hw : hk_W D [(cI, .int), (cJ, .long)] (fun q : Nat => s.heap.size ≤ q) s _ _ ([(al, .inl (cJ, 1, .inr (.inl (fun _ => 0))))] ++ (xw cI cJ ad u_2.1 u_2.2.1 u_2.2.2.1 u_2.2.2.2 ++ (mw cI cJ md u_5.1 u_5.2.1 u_5.2.2.1 u_5.2.2.2))) := hk_cast (by simp only [List.append_assoc]) hw
  try dsimp only at hp_6
  refine lv_icmp_eq (tgt := 671) hx hb dL_law_295 (by decide) (fun _ => ?_) (fun cn => absurd (hp_3.trans hp_6.symm) cn)
  exact law_end hx hb hr hml hown hts hbl hlocks hX (Nat.le_of_ble_eq_true rfl) (Nat.le_of_ble_eq_true rfl) hw (lv_sub hl [0, 4] rfl)

set_option maxHeartbeats 4000000 in
set_option maxRecDepth 100000 in
/-- the law at one call: octet -/
theorem law_c4 {p : Program} {e : Env} {s : State} {m : MethodId} {below : List Frame} {meth : Method} {c : Code} {l : Launch} {b : Nat} {xs : Nat → Int32} {D : va_G} {cI cJ : ClassId} {t3 : Nat × Nat × Nat} {ad md : Nat → Nat} {fm : Int32} {ar mr : Nat → Nat → Int32} {al : Nat} {H : Heap} {locs : List Loc} {ls : Array Slot} (hlt : l.stackTraces = false) (hx : p.tables.exec = Jvm.exec) (hb : c.code = code) (hr : meth.sig.returnType = ret) (hml : c.maxLocals = 7) (hown : s.vm.findClass RL = some m.cls) (hts : ∀ w ∈ lw_tbl, w.before #[Value.ref b] s = true) (hbl : b < s.heap.size) (hlocks : meth.locks = false) (hX : va_X b 7 xs s s.heap) (hZ : hk_YY t3 (fun q : Nat => s.heap.size ≤ q) s) (hw : hk_W D [(cI, .int), (cJ, .long)] (fun q : Nat => s.heap.size ≤ q) s H locs (xw cI cJ ad (xf_g fm) xf_l ar (fun _ => 0) ++ (mw cI cJ md (mf_g fm) mf_l mr (fun _ => 0) ++ [(al, .inl (cJ, 1, .inr (.inl (fun _ => 0))))]))) (hl : lv_has ls 7 [(4, .int 1), (3, .ref al), (2, .ref (md 0)), (1, .ref (ad 0)), (0, .ref b)]) : W p l e room_1 s m #[Value.ref b] below meth c H locs 58 133226 (lw_Z below #[Value.ref b] s) (F0 m 300 ls []) := by
  have hA : ∀ q : Nat, s.heap.size ≤ q → (fun q : Nat => s.heap.size ≤ q) q := fun _ h => h
  have hbA : ¬ (fun q : Nat => s.heap.size ≤ q) b := Nat.not_le.mpr hbl
  refine lv_aload_n hx hb dL_law_300 rfl (lv_at hl 3 rfl) ?_
  refine lv_aload_n hx hb dL_law_301 rfl (lv_at hl 4 rfl) ?_
  refine lv_iload hx hb dL_law_302 (lv_at hl 0 rfl) ?_
  refine lv_iconst (v := 1) hx hb dL_law_304 (by decide) ?_
  refine lv_iadd hx hb dL_law_305 ?_
  refine hk_topi 2 (by decide +kernel) ?_
  refine va_sld hx hb hX hbl hbA hw.2.2.1 (show ¬ ((2 : Int32) < 0 ∨ 7 ≤ (2 : Int32).toNatClampNeg) by decide) dL_law_306 ?_
  refine hk_topi (xs 2) rfl ?_
  refine hk_pi (wc := xw cI cJ ad (xf_g fm) xf_l ar (fun _ => 0)) (wr := mw cI cJ md (mf_g fm) mf_l mr (fun _ => 0) ++ ([(al, .inl (cJ, 1, .inr (.inl (fun _ => 0))))])) hw hA [0, 1, 2, 3, 4, 5, 6, 7, 8, 9, 10, 11, 12, 13, 14, 15, 16, 17, 18, 19, 20, 21, 22, 23, 24, 25, 26, 27, 28, 29, 30] [31, 32, 33, 34, 35, 36, 37, 38, 39, 40, 41, 42, 43, 44, 45, 46, 47, 48, 49, 50, 51, 52, 53, 54, 55, 56, 57] rfl rfl (by decide) (by decide) (by decide) (hk_rV (As := [.int (xs 2)]) (rest := []) ⟨hx, hb, hml, hown, hts⟩ hZ hw hA [0, 1, 2, 3, 4, 5, 6, 7, 8, 9, 10, 11, 12, 13, 14, 15, 16, 17, 18, 19, 20, 21, 22, 23, 24, 25, 26, 27, 28, 29, 30] rfl (by decide) (hk_toY (ct_octet l D cI cJ ad fm ar (fun _ => 0) _ (xs 2))) (cwV 1 hts gl_ct_octet rfl rfl rfl (by decide +kernel) ⟨Nat.le_of_ble_eq_true rfl, Nat.le_of_ble_eq_true rfl⟩) 0 (ci := 14) (T := TX11) (N := 11) rfl rfl rfl hl.1 rfl (Nat.le_of_ble_eq_true rfl) dL_law_307 ⟨Nat.le_of_ble_eq_true rfl, Nat.le_of_ble_eq_true rfl⟩) (fun r_1 u_2 H locs hp_3 hw => ?_)
  have hw : hk_W D [(cI, .int), (cJ, .long)] (fun q : Nat => s.heap.size ≤ q) s _ _ ((mw cI cJ md (mf_g fm) mf_l mr (fun _ => 0) ++ ([(al, .inl (cJ, 1, .inr (.inl (fun _ => 0))))])) ++ (xw cI cJ ad u_2.1 u_2.2.1 u_2.2.2.1 u_2.2.2.2)) := hw
  have hw : hk_W D [(cI, .int), (cJ, .long)] (fun q : Nat => s.heap.size ≤ q) s _ _ (mw cI cJ md (mf_g fm) mf_l mr (fun _ => 0) ++ ([(al, .inl (cJ, 1, .inr (.inl (fun _ => 0))))] ++ (xw cI cJ ad u_2.1 u_2.2.1 u_2.2.2.1 u_2.2.2.2))) := hk_cast (by simp only [List.append_assoc]) hw
  try dsimp only at hp_3
  refine lv_aload_n hx hb dL_law_310 rfl (lv_at hl 2 rfl) ?_
  refine lv_aload_n hx hb dL_law_311 rfl (lv_at hl 4 rfl) ?_
  refine lv_iload hx hb dL_law_312 (lv_at hl 0 rfl) ?_
  refine lv_iconst (v := 1) hx hb dL_law_314 (by decide) ?_
  refine lv_iadd hx hb dL_law_315 ?_
  refine hk_topi 2 (by decide +kernel) ?_
  refine va_sld hx hb hX hbl hbA hw.2.2.1 (show ¬ ((2 : Int32) < 0 ∨ 7 ≤ (2 : Int32).toNatClampNeg) by decide) dL_law_316 ?_
  refine hk_topi (xs 2) rfl ?_
  refine hk_pi (wc := mw cI cJ md (mf_g fm) mf_l mr (fun _ => 0)) (wr := [(al, .inl (cJ, 1, .inr (.inl (fun _ => 0))))] ++ (xw cI cJ ad u_2.1 u_2.2.1 u_2.2.2.1 u_2.2.2.2)) hw hA [0, 1, 2, 3, 4, 5, 6, 7, 8, 9, 10, 11, 12, 13, 14, 15, 16, 17, 18, 19, 20, 21, 22, 23, 24, 25] [26, 27, 28, 29, 30, 31, 32, 33, 34, 35, 36, 37, 38, 39, 40, 41, 42, 43, 44, 45, 46, 47, 48, 49, 50, 51, 52, 53, 54, 55, 56, 57] rfl rfl (by decide) (by decide) (by decide) (hk_rV (As := [.int (xs 2)]) (rest := [.int r_1]) ⟨hx, hb, hml, hown, hts⟩ hZ hw hA [0, 1, 2, 3, 4, 5, 6, 7, 8, 9, 10, 11, 12, 13, 14, 15, 16, 17, 18, 19, 20, 21, 22, 23, 24, 25] rfl (by decide) (hk_toY (cm_octet l D cI cJ md fm mr (fun _ => 0) _ (xs 2))) (cwV 1 hts gl_cm_octet rfl rfl rfl (by decide +kernel) ⟨Nat.le_of_ble_eq_true rfl, Nat.le_of_ble_eq_true rfl⟩) 0 (ci := 15) (T := TX12) (N := 92) rfl rfl rfl hl.1 rfl (Nat.le_of_ble_eq_true rfl) dL_law_317 ⟨Nat.le_of_ble_eq_true rfl, Nat.le_of_ble_eq_true rfl⟩) (fun r_4 u_5 H locs hp_6 hw => ?_)
  have hw : hk_W D [(cI, .int), (cJ, .long)] (fun q : Nat => s.heap.size ≤ q) s _ _ (([(al, .inl (cJ, 1, .inr (.inl (fun _ => 0))))] ++ (xw cI cJ ad u_2.1 u_2.2.1 u_2.2.2.1 u_2.2.2.2)) ++ (mw cI cJ md u_5.1 u_5.2.1 u_5.2.2.1 u_5.2.2.2)) := hw
  have hw : hk_W D [(cI, .int), (cJ, .long)] (fun q : Nat => s.heap.size ≤ q) s _ _ ([(al, .inl (cJ, 1, .inr (.inl (fun _ => 0))))] ++ (xw cI cJ ad u_2.1 u_2.2.1 u_2.2.2.1 u_2.2.2.2 ++ (mw cI cJ md u_5.1 u_5.2.1 u_5.2.2.1 u_5.2.2.2))) := hk_cast (by simp only [List.append_assoc]) hw
  try dsimp only at hp_6
  refine lv_icmp_eq (tgt := 671) hx hb dL_law_320 (by decide) (fun _ => ?_) (fun cn => absurd (hp_3.trans hp_6.symm) cn)
  exact law_end hx hb hr hml hown hts hbl hlocks hX (Nat.le_of_ble_eq_true rfl) (Nat.le_of_ble_eq_true rfl) hw (lv_sub hl [0, 4] rfl)

set_option maxHeartbeats 4000000 in
set_option maxRecDepth 100000 in
/-- the law at one call: pack -/
theorem law_c5 {p : Program} {e : Env} {s : State} {m : MethodId} {below : List Frame} {meth : Method} {c : Code} {l : Launch} {b : Nat} {xs : Nat → Int32} {D : va_G} {cI cJ : ClassId} {t3 : Nat × Nat × Nat} {ad md : Nat → Nat} {fm : Int32} {ar mr : Nat → Nat → Int32} {al : Nat} {H : Heap} {locs : List Loc} {ls : Array Slot} (hlt : l.stackTraces = false) (hx : p.tables.exec = Jvm.exec) (hb : c.code = code) (hr : meth.sig.returnType = ret) (hml : c.maxLocals = 7) (hown : s.vm.findClass RL = some m.cls) (hts : ∀ w ∈ lw_tbl, w.before #[Value.ref b] s = true) (hbl : b < s.heap.size) (hlocks : meth.locks = false) (hX : va_X b 7 xs s s.heap) (hZ : hk_YY t3 (fun q : Nat => s.heap.size ≤ q) s) (hw : hk_W D [(cI, .int), (cJ, .long)] (fun q : Nat => s.heap.size ≤ q) s H locs (xw cI cJ ad (xf_g fm) xf_l ar (fun _ => 0) ++ (mw cI cJ md (mf_g fm) mf_l mr (fun _ => 0) ++ [(al, .inl (cJ, 1, .inr (.inl (fun _ => 0))))]))) (hl : lv_has ls 7 [(4, .int 1), (3, .ref al), (2, .ref (md 0)), (1, .ref (ad 0)), (0, .ref b)]) : W p l e room_1 s m #[Value.ref b] below meth c H locs 58 133226 (lw_Z below #[Value.ref b] s) (F0 m 325 ls []) := by
  have hA : ∀ q : Nat, s.heap.size ≤ q → (fun q : Nat => s.heap.size ≤ q) q := fun _ h => h
  have hbA : ¬ (fun q : Nat => s.heap.size ≤ q) b := Nat.not_le.mpr hbl
  refine lv_aload_n hx hb dL_law_325 rfl (lv_at hl 3 rfl) ?_
  refine lv_aload_n hx hb dL_law_326 rfl (lv_at hl 4 rfl) ?_
  refine lv_iload hx hb dL_law_327 (lv_at hl 0 rfl) ?_
  refine lv_iconst (v := 1) hx hb dL_law_329 (by decide) ?_
  refine lv_iadd hx hb dL_law_330 ?_
  refine hk_topi 2 (by decide +kernel) ?_
  refine va_sld hx hb hX hbl hbA hw.2.2.1 (show ¬ ((2 : Int32) < 0 ∨ 7 ≤ (2 : Int32).toNatClampNeg) by decide) dL_law_331 ?_
  refine hk_topi (xs 2) rfl ?_
  refine hk_pi (wc := xw cI cJ ad (xf_g fm) xf_l ar (fun _ => 0)) (wr := mw cI cJ md (mf_g fm) mf_l mr (fun _ => 0) ++ ([(al, .inl (cJ, 1, .inr (.inl (fun _ => 0))))])) hw hA [0, 1, 2, 3, 4, 5, 6, 7, 8, 9, 10, 11, 12, 13, 14, 15, 16, 17, 18, 19, 20, 21, 22, 23, 24, 25, 26, 27, 28, 29, 30] [31, 32, 33, 34, 35, 36, 37, 38, 39, 40, 41, 42, 43, 44, 45, 46, 47, 48, 49, 50, 51, 52, 53, 54, 55, 56, 57] rfl rfl (by decide) (by decide) (by decide) (hk_rV (As := [.int (xs 2)]) (rest := []) ⟨hx, hb, hml, hown, hts⟩ hZ hw hA [0, 1, 2, 3, 4, 5, 6, 7, 8, 9, 10, 11, 12, 13, 14, 15, 16, 17, 18, 19, 20, 21, 22, 23, 24, 25, 26, 27, 28, 29, 30] rfl (by decide) (hk_toY (ct_pack l D cI cJ ad fm ar (fun _ => 0) _ (xs 2))) (cwV 1 hts gl_ct_pack rfl rfl rfl (by decide +kernel) ⟨Nat.le_of_ble_eq_true rfl, Nat.le_of_ble_eq_true rfl⟩) 0 (ci := 14) (T := TX11) (N := 11) rfl rfl rfl hl.1 rfl (Nat.le_of_ble_eq_true rfl) dL_law_332 ⟨Nat.le_of_ble_eq_true rfl, Nat.le_of_ble_eq_true rfl⟩) (fun r_1 u_2 H locs hp_3 hw => ?_)
  have hw : hk_W D [(cI, .int), (cJ, .long)] (fun q : Nat => s.heap.size ≤ q) s _ _ ((mw cI cJ md (mf_g fm) mf_l mr (fun _ => 0) ++ ([(al, .inl (cJ, 1, .inr (.inl (fun _ => 0))))])) ++ (xw cI cJ ad u_2.1 u_2.2.1 u_2.2.2.1 u_2.2.2.2)) := hw
  have hw : hk_W D [(cI, .int), (cJ, .long)] (fun q : Nat => s.heap.size ≤ q) s _ _ (mw cI cJ md (mf_g fm) mf_l mr (fun _ => 0) ++ ([(al, .inl (cJ, 1, .inr (.inl (fun _ => 0))))] ++ (xw cI cJ ad u_2.1 u_2.2.1 u_2.2.2.1 u_2.2.2.2))) := hk_cast (by simp only [List.append_assoc]) hw
  try dsimp only at hp_3
  refine lv_aload_n hx hb dL_law_335 rfl (lv_at hl 2 rfl) ?_
  refine lv_aload_n hx hb dL_law_336 rfl (lv_at hl 4 rfl) ?_
  refine lv_iload hx hb dL_law_337 (lv_at hl 0 rfl) ?_
  refine lv_iconst (v := 1) hx hb dL_law_339 (by decide) ?_
  refine lv_iadd hx hb dL_law_340 ?_
  refine hk_topi 2 (by decide +kernel) ?_
  refine va_sld hx hb hX hbl hbA hw.2.2.1 (show ¬ ((2 : Int32) < 0 ∨ 7 ≤ (2 : Int32).toNatClampNeg) by decide) dL_law_341 ?_
  refine hk_topi (xs 2) rfl ?_
  refine hk_pi (wc := mw cI cJ md (mf_g fm) mf_l mr (fun _ => 0)) (wr := [(al, .inl (cJ, 1, .inr (.inl (fun _ => 0))))] ++ (xw cI cJ ad u_2.1 u_2.2.1 u_2.2.2.1 u_2.2.2.2)) hw hA [0, 1, 2, 3, 4, 5, 6, 7, 8, 9, 10, 11, 12, 13, 14, 15, 16, 17, 18, 19, 20, 21, 22, 23, 24, 25] [26, 27, 28, 29, 30, 31, 32, 33, 34, 35, 36, 37, 38, 39, 40, 41, 42, 43, 44, 45, 46, 47, 48, 49, 50, 51, 52, 53, 54, 55, 56, 57] rfl rfl (by decide) (by decide) (by decide) (hk_rV (As := [.int (xs 2)]) (rest := [.int r_1]) ⟨hx, hb, hml, hown, hts⟩ hZ hw hA [0, 1, 2, 3, 4, 5, 6, 7, 8, 9, 10, 11, 12, 13, 14, 15, 16, 17, 18, 19, 20, 21, 22, 23, 24, 25] rfl (by decide) (hk_toY (cm_pack l D cI cJ md fm mr (fun _ => 0) _ (xs 2))) (cwV 1 hts gl_cm_pack rfl rfl rfl (by decide +kernel) ⟨Nat.le_of_ble_eq_true rfl, Nat.le_of_ble_eq_true rfl⟩) 0 (ci := 15) (T := TX12) (N := 92) rfl rfl rfl hl.1 rfl (Nat.le_of_ble_eq_true rfl) dL_law_342 ⟨Nat.le_of_ble_eq_true rfl, Nat.le_of_ble_eq_true rfl⟩) (fun r_4 u_5 H locs hp_6 hw => ?_)
  have hw : hk_W D [(cI, .int), (cJ, .long)] (fun q : Nat => s.heap.size ≤ q) s _ _ (([(al, .inl (cJ, 1, .inr (.inl (fun _ => 0))))] ++ (xw cI cJ ad u_2.1 u_2.2.1 u_2.2.2.1 u_2.2.2.2)) ++ (mw cI cJ md u_5.1 u_5.2.1 u_5.2.2.1 u_5.2.2.2)) := hw
  have hw : hk_W D [(cI, .int), (cJ, .long)] (fun q : Nat => s.heap.size ≤ q) s _ _ ([(al, .inl (cJ, 1, .inr (.inl (fun _ => 0))))] ++ (xw cI cJ ad u_2.1 u_2.2.1 u_2.2.2.1 u_2.2.2.2 ++ (mw cI cJ md u_5.1 u_5.2.1 u_5.2.2.1 u_5.2.2.2))) := hk_cast (by simp only [List.append_assoc]) hw
  try dsimp only at hp_6
  refine lv_icmp_eq (tgt := 671) hx hb dL_law_345 (by decide) (fun _ => ?_) (fun cn => absurd (Int32.toInt_inj.mp (by omega)) cn)
  exact law_end hx hb hr hml hown hts hbl hlocks hX (Nat.le_of_ble_eq_true rfl) (Nat.le_of_ble_eq_true rfl) hw (lv_sub hl [0, 4] rfl)

set_option maxHeartbeats 4000000 in
set_option maxRecDepth 100000 in
/-- the law at one call: open -/
theorem law_c6 {p : Program} {e : Env} {s : State} {m : MethodId} {below : List Frame} {meth : Method} {c : Code} {l : Launch} {b : Nat} {xs : Nat → Int32} {D : va_G} {cI cJ : ClassId} {t3 : Nat × Nat × Nat} {ad md : Nat → Nat} {fm : Int32} {ar mr : Nat → Nat → Int32} {al : Nat} {H : Heap} {locs : List Loc} {ls : Array Slot} (hlt : l.stackTraces = false) (hx : p.tables.exec = Jvm.exec) (hb : c.code = code) (hr : meth.sig.returnType = ret) (hml : c.maxLocals = 7) (hown : s.vm.findClass RL = some m.cls) (hts : ∀ w ∈ lw_tbl, w.before #[Value.ref b] s = true) (hbl : b < s.heap.size) (hlocks : meth.locks = false) (hX : va_X b 7 xs s s.heap) (hZ : hk_YY t3 (fun q : Nat => s.heap.size ≤ q) s) (hw : hk_W D [(cI, .int), (cJ, .long)] (fun q : Nat => s.heap.size ≤ q) s H locs (xw cI cJ ad (xf_g fm) xf_l ar (fun _ => 0) ++ (mw cI cJ md (mf_g fm) mf_l mr (fun _ => 0) ++ [(al, .inl (cJ, 1, .inr (.inl (fun _ => 0))))]))) (hl : lv_has ls 7 [(4, .int 1), (3, .ref al), (2, .ref (md 0)), (1, .ref (ad 0)), (0, .ref b)]) : W p l e room_1 s m #[Value.ref b] below meth c H locs 58 133226 (lw_Z below #[Value.ref b] s) (F0 m 350 ls []) := by
  have hA : ∀ q : Nat, s.heap.size ≤ q → (fun q : Nat => s.heap.size ≤ q) q := fun _ h => h
  have hbA : ¬ (fun q : Nat => s.heap.size ≤ q) b := Nat.not_le.mpr hbl
  refine lv_aload_n hx hb dL_law_350 rfl (lv_at hl 3 rfl) ?_
  refine lv_aload_n hx hb dL_law_351 rfl (lv_at hl 4 rfl) ?_
  refine lv_iload hx hb dL_law_352 (lv_at hl 0 rfl) ?_
  refine lv_iconst (v := 1) hx hb dL_law_354 (by decide) ?_
  refine lv_iadd hx hb dL_law_355 ?_
  refine hk_topi 2 (by decide +kernel) ?_
  refine va_sld hx hb hX hbl hbA hw.2.2.1 (show ¬ ((2 : Int32) < 0 ∨ 7 ≤ (2 : Int32).toNatClampNeg) by decide) dL_law_356 ?_
  refine hk_topi (xs 2) rfl ?_
  refine hk_pi (wc := xw cI cJ ad (xf_g fm) xf_l ar (fun _ => 0)) (wr := mw cI cJ md (mf_g fm) mf_l mr (fun _ => 0) ++ ([(al, .inl (cJ, 1, .inr (.inl (fun _ => 0))))])) hw hA [0, 1, 2, 3, 4, 5, 6, 7, 8, 9, 10, 11, 12, 13, 14, 15, 16, 17, 18, 19, 20, 21, 22, 23, 24, 25, 26, 27, 28, 29, 30] [31, 32, 33, 34, 35, 36, 37, 38, 39, 40, 41, 42, 43, 44, 45, 46, 47, 48, 49, 50, 51, 52, 53, 54, 55, 56, 57] rfl rfl (by decide) (by decide) (by decide) (hk_rVW (As := [.int (xs 2)]) (rest := []) ⟨hx, hb, hml, hown, hts⟩ hZ hw hA [0, 1, 2, 3, 4, 5, 6, 7, 8, 9, 10, 11, 12, 13, 14, 15, 16, 17, 18, 19, 20, 21, 22, 23, 24, 25, 26, 27, 28, 29, 30] rfl (by decide) (ct_open l hlt t3 D cI cJ ad fm ar (fun _ => 0) _ (xs 2)) (vx_cwVW 1 hts gl_ct_open rfl rfl rfl (by decide +kernel) ⟨Nat.le_of_ble_eq_true rfl, Nat.le_of_ble_eq_true rfl⟩) 0 (ci := 14) (T := TX11) (N := 11) rfl rfl rfl hl.1 rfl (Nat.le_of_ble_eq_true rfl) dL_law_357 ⟨Nat.le_of_ble_eq_true rfl, Nat.le_of_ble_eq_true rfl⟩) (fun r_1 u_2 H locs hp_3 hw => ?_)
  have hw : hk_W D [(cI, .int), (cJ, .long)] (fun q : Nat => s.heap.size ≤ q) s _ _ ((mw cI cJ md (mf_g fm) mf_l mr (fun _ => 0) ++ ([(al, .inl (cJ, 1, .inr (.inl (fun _ => 0))))])) ++ (xw cI cJ ad u_2.1 u_2.2.1 u_2.2.2.1 u_2.2.2.2)) := hw
  have hw : hk_W D [(cI, .int), (cJ, .long)] (fun q : Nat => s.heap.size ≤ q) s _ _ (mw cI cJ md (mf_g fm) mf_l mr (fun _ => 0) ++ ([(al, .inl (cJ, 1, .inr (.inl (fun _ => 0))))] ++ (xw cI cJ ad u_2.1 u_2.2.1 u_2.2.2.1 u_2.2.2.2))) := hk_cast (by simp only [List.append_assoc]) hw
  try dsimp only at hp_3
  refine lv_aload_n hx hb dL_law_360 rfl (lv_at hl 2 rfl) ?_
  refine lv_aload_n hx hb dL_law_361 rfl (lv_at hl 4 rfl) ?_
  refine lv_iload hx hb dL_law_362 (lv_at hl 0 rfl) ?_
  refine lv_iconst (v := 1) hx hb dL_law_364 (by decide) ?_
  refine lv_iadd hx hb dL_law_365 ?_
  refine hk_topi 2 (by decide +kernel) ?_
  refine va_sld hx hb hX hbl hbA hw.2.2.1 (show ¬ ((2 : Int32) < 0 ∨ 7 ≤ (2 : Int32).toNatClampNeg) by decide) dL_law_366 ?_
  refine hk_topi (xs 2) rfl ?_
  refine hk_pi (wc := mw cI cJ md (mf_g fm) mf_l mr (fun _ => 0)) (wr := [(al, .inl (cJ, 1, .inr (.inl (fun _ => 0))))] ++ (xw cI cJ ad u_2.1 u_2.2.1 u_2.2.2.1 u_2.2.2.2)) hw hA [0, 1, 2, 3, 4, 5, 6, 7, 8, 9, 10, 11, 12, 13, 14, 15, 16, 17, 18, 19, 20, 21, 22, 23, 24, 25] [26, 27, 28, 29, 30, 31, 32, 33, 34, 35, 36, 37, 38, 39, 40, 41, 42, 43, 44, 45, 46, 47, 48, 49, 50, 51, 52, 53, 54, 55, 56, 57] rfl rfl (by decide) (by decide) (by decide) (hk_rV (As := [.int (xs 2)]) (rest := [.int r_1]) ⟨hx, hb, hml, hown, hts⟩ hZ hw hA [0, 1, 2, 3, 4, 5, 6, 7, 8, 9, 10, 11, 12, 13, 14, 15, 16, 17, 18, 19, 20, 21, 22, 23, 24, 25] rfl (by decide) (hk_toY (cm_open l D cI cJ md fm mr (fun _ => 0) _ (xs 2))) (cwV 1 hts gl_cm_open rfl rfl rfl (by decide +kernel) ⟨Nat.le_of_ble_eq_true rfl, Nat.le_of_ble_eq_true rfl⟩) 0 (ci := 15) (T := TX12) (N := 92) rfl rfl rfl hl.1 rfl (Nat.le_of_ble_eq_true rfl) dL_law_367 ⟨Nat.le_of_ble_eq_true rfl, Nat.le_of_ble_eq_true rfl⟩) (fun r_4 u_5 H locs hp_6 hw => ?_)
  have hw : hk_W D [(cI, .int), (cJ, .long)] (fun q : Nat => s.heap.size ≤ q) s _ _ (([(al, .inl (cJ, 1, .inr (.inl (fun _ => 0))))] ++ (xw cI cJ ad u_2.1 u_2.2.1 u_2.2.2.1 u_2.2.2.2)) ++ (mw cI cJ md u_5.1 u_5.2.1 u_5.2.2.1 u_5.2.2.2)) := hw
  have hw : hk_W D [(cI, .int), (cJ, .long)] (fun q : Nat => s.heap.size ≤ q) s _ _ ([(al, .inl (cJ, 1, .inr (.inl (fun _ => 0))))] ++ (xw cI cJ ad u_2.1 u_2.2.1 u_2.2.2.1 u_2.2.2.2 ++ (mw cI cJ md u_5.1 u_5.2.1 u_5.2.2.1 u_5.2.2.2))) := hk_cast (by simp only [List.append_assoc]) hw
  try dsimp only at hp_6
  refine lv_icmp_eq (tgt := 671) hx hb dL_law_370 (by decide) (fun _ => ?_) (fun cn => absurd (hp_3.trans hp_6.symm) cn)
  exact law_end hx hb hr hml hown hts hbl hlocks hX (Nat.le_of_ble_eq_true rfl) (Nat.le_of_ble_eq_true rfl) hw (lv_sub hl [0, 4] rfl)

set_option maxHeartbeats 4000000 in
set_option maxRecDepth 100000 in
/-- the law at one call: rule -/
theorem law_c7 {p : Program} {e : Env} {s : State} {m : MethodId} {below : List Frame} {meth : Method} {c : Code} {l : Launch} {b : Nat} {xs : Nat → Int32} {D : va_G} {cI cJ : ClassId} {t3 : Nat × Nat × Nat} {ad md : Nat → Nat} {fm : Int32} {ar mr : Nat → Nat → Int32} {al : Nat} {H : Heap} {locs : List Loc} {ls : Array Slot} (hlt : l.stackTraces = false) (hx : p.tables.exec = Jvm.exec) (hb : c.code = code) (hr : meth.sig.returnType = ret) (hml : c.maxLocals = 7) (hown : s.vm.findClass RL = some m.cls) (hts : ∀ w ∈ lw_tbl, w.before #[Value.ref b] s = true) (hbl : b < s.heap.size) (hlocks : meth.locks = false) (hX : va_X b 7 xs s s.heap) (hZ : hk_YY t3 (fun q : Nat => s.heap.size ≤ q) s) (hw : hk_W D [(cI, .int), (cJ, .long)] (fun q : Nat => s.heap.size ≤ q) s H locs (xw cI cJ ad (xf_g fm) xf_l ar (fun _ => 0) ++ (mw cI cJ md (mf_g fm) mf_l mr (fun _ => 0) ++ [(al, .inl (cJ, 1, .inr (.inl (fun _ => 0))))]))) (hl : lv_has ls 7 [(4, .int 1), (3, .ref al), (2, .ref (md 0)), (1, .ref (ad 0)), (0, .ref b)]) : W p l e room_1 s m #[Value.ref b] below meth c H locs 58 133226 (lw_Z below #[Value.ref b] s) (F0 m 375 ls []) := by
  have hA : ∀ q : Nat, s.heap.size ≤ q → (fun q : Nat => s.heap.size ≤ q) q := fun _ h => h
  have hbA : ¬ (fun q : Nat => s.heap.size ≤ q) b := Nat.not_le.mpr hbl
  refine lv_aload_n hx hb dL_law_375 rfl (lv_at hl 3 rfl) ?_
  refine hk_pi (wc := xw cI cJ ad (xf_g fm) xf_l ar (fun _ => 0)) (wr := mw cI cJ md (mf_g fm) mf_l mr (fun _ => 0) ++ ([(al, .inl (cJ, 1, .inr (.inl (fun _ => 0))))])) hw hA [0, 1, 2, 3, 4, 5, 6, 7, 8, 9, 10, 11, 12, 13, 14, 15, 16, 17, 18, 19, 20, 21, 22, 23, 24, 25, 26, 27, 28, 29, 30] [31, 32, 33, 34, 35, 36, 37, 38, 39, 40, 41, 42, 43, 44, 45, 46, 47, 48, 49, 50, 51, 52, 53, 54, 55, 56, 57] rfl rfl (by decide) (by decide) (by decide) (hk_rV (As := []) (rest := []) ⟨hx, hb, hml, hown, hts⟩ hZ hw hA [0, 1, 2, 3, 4, 5, 6, 7, 8, 9, 10, 11, 12, 13, 14, 15, 16, 17, 18, 19, 20, 21, 22, 23, 24, 25, 26, 27, 28, 29, 30] rfl (by decide) (hk_toY (ct_rule l D cI cJ ad fm ar (fun _ => 0) _ )) (cwV 0 hts gl_ct_rule rfl rfl rfl (by decide +kernel) ⟨Nat.le_of_ble_eq_true rfl, Nat.le_of_ble_eq_true rfl⟩) 0 (ci := 14) (T := TX11) (N := 11) rfl rfl rfl hl.1 rfl (Nat.le_of_ble_eq_true rfl) dL_law_376 ⟨Nat.le_of_ble_eq_true rfl, Nat.le_of_ble_eq_true rfl⟩) (fun r_1 u_2 H locs hp_3 hw => ?_)
  have hw : hk_W D [(cI, .int), (cJ, .long)] (fun q : Nat => s.heap.size ≤ q) s _ _ ((mw cI cJ md (mf_g fm) mf_l mr (fun _ => 0) ++ ([(al, .inl (cJ, 1, .inr (.inl (fun _ => 0))))])) ++ (xw cI cJ ad u_2.1 u_2.2.1 u_2.2.2.1 u_2.2.2.2)) := hw
  have hw : hk_W D [(cI, .int), (cJ, .long)] (fun q : Nat => s.heap.size ≤ q) s _ _ (mw cI cJ md (mf_g fm) mf_l mr (fun _ => 0) ++ ([(al, .inl (cJ, 1, .inr (.inl (fun _ => 0))))] ++ (xw cI cJ ad u_2.1 u_2.2.1 u_2.2.2.1 u_2.2.2.2))) := hk_cast (by simp only [List.append_assoc]) hw
  try dsimp only at hp_3
  refine lv_aload_n hx hb dL_law_379 rfl (lv_at hl 2 rfl) ?_
  refine hk_pi (wc := mw cI cJ md (mf_g fm) mf_l mr (fun _ => 0)) (wr := [(al, .inl (cJ, 1, .inr (.inl (fun _ => 0))))] ++ (xw cI cJ ad u_2.1 u_2.2.1 u_2.2.2.1 u_2.2.2.2)) hw hA [0, 1, 2, 3, 4, 5, 6, 7, 8, 9, 10, 11, 12, 13, 14, 15, 16, 17, 18, 19, 20, 21, 22, 23, 24, 25] [26, 27, 28, 29, 30, 31, 32, 33, 34, 35, 36, 37, 38, 39, 40, 41, 42, 43, 44, 45, 46, 47, 48, 49, 50, 51, 52, 53, 54, 55, 56, 57] rfl rfl (by decide) (by decide) (by decide) (hk_rV (As := []) (rest := [.int r_1]) ⟨hx, hb, hml, hown, hts⟩ hZ hw hA [0, 1, 2, 3, 4, 5, 6, 7, 8, 9, 10, 11, 12, 13, 14, 15, 16, 17, 18, 19, 20, 21, 22, 23, 24, 25] rfl (by decide) (hk_toY (cm_rule l D cI cJ md fm mr (fun _ => 0) _ )) (cwV 0 hts gl_cm_rule rfl rfl rfl (by decide +kernel) ⟨Nat.le_of_ble_eq_true rfl, Nat.le_of_ble_eq_true rfl⟩) 0 (ci := 15) (T := TX12) (N := 92) rfl rfl rfl hl.1 rfl (Nat.le_of_ble_eq_true rfl) dL_law_380 ⟨Nat.le_of_ble_eq_true rfl, Nat.le_of_ble_eq_true rfl⟩) (fun r_4 u_5 H locs hp_6 hw => ?_)
  have hw : hk_W D [(cI, .int), (cJ, .long)] (fun q : Nat => s.heap.size ≤ q) s _ _ (([(al, .inl (cJ, 1, .inr (.inl (fun _ => 0))))] ++ (xw cI cJ ad u_2.1 u_2.2.1 u_2.2.2.1 u_2.2.2.2)) ++ (mw cI cJ md u_5.1 u_5.2.1 u_5.2.2.1 u_5.2.2.2)) := hw
  have hw : hk_W D [(cI, .int), (cJ, .long)] (fun q : Nat => s.heap.size ≤ q) s _ _ ([(al, .inl (cJ, 1, .inr (.inl (fun _ => 0))))] ++ (xw cI cJ ad u_2.1 u_2.2.1 u_2.2.2.1 u_2.2.2.2 ++ (mw cI cJ md u_5.1 u_5.2.1 u_5.2.2.1 u_5.2.2.2))) := hk_cast (by simp only [List.append_assoc]) hw
  try dsimp only at hp_6
  refine lv_icmp_eq (tgt := 671) hx hb dL_law_383 (by decide) (fun _ => ?_) (fun cn => absurd (hp_3.trans hp_6.symm) cn)
  exact law_end hx hb hr hml hown hts hbl hlocks hX (Nat.le_of_ble_eq_true rfl) (Nat.le_of_ble_eq_true rfl) hw (lv_sub hl [0, 4] rfl)

set_option maxHeartbeats 4000000 in
set_option maxRecDepth 100000 in
/-- the law at one call: pass -/
theorem law_c8 {p : Program} {e : Env} {s : State} {m : MethodId} {below : List Frame} {meth : Method} {c : Code} {l : Launch} {b : Nat} {xs : Nat → Int32} {D : va_G} {cI cJ : ClassId} {t3 : Nat × Nat × Nat} {ad md : Nat → Nat} {fm : Int32} {ar mr : Nat → Nat → Int32} {al : Nat} {H : Heap} {locs : List Loc} {ls : Array Slot} (hlt : l.stackTraces = false) (hx : p.tables.exec = Jvm.exec) (hb : c.code = code) (hr : meth.sig.returnType = ret) (hml : c.maxLocals = 7) (hown : s.vm.findClass RL = some m.cls) (hts : ∀ w ∈ lw_tbl, w.before #[Value.ref b] s = true) (hbl : b < s.heap.size) (hlocks : meth.locks = false) (hX : va_X b 7 xs s s.heap) (hZ : hk_YY t3 (fun q : Nat => s.heap.size ≤ q) s) (hw : hk_W D [(cI, .int), (cJ, .long)] (fun q : Nat => s.heap.size ≤ q) s H locs (xw cI cJ ad (xf_g fm) xf_l ar (fun _ => 0) ++ (mw cI cJ md (mf_g fm) mf_l mr (fun _ => 0) ++ [(al, .inl (cJ, 1, .inr (.inl (fun _ => 0))))]))) (hl : lv_has ls 7 [(4, .int 1), (3, .ref al), (2, .ref (md 0)), (1, .ref (ad 0)), (0, .ref b)]) : W p l e room_1 s m #[Value.ref b] below meth c H locs 58 133226 (lw_Z below #[Value.ref b] s) (F0 m 388 ls []) := by
  have hA : ∀ q : Nat, s.heap.size ≤ q → (fun q : Nat => s.heap.size ≤ q) q := fun _ h => h
  have hbA : ¬ (fun q : Nat => s.heap.size ≤ q) b := Nat.not_le.mpr hbl
  refine lv_aload_n hx hb dL_law_388 rfl (lv_at hl 3 rfl) ?_
  refine hk_pi (wc := xw cI cJ ad (xf_g fm) xf_l ar (fun _ => 0)) (wr := mw cI cJ md (mf_g fm) mf_l mr (fun _ => 0) ++ ([(al, .inl (cJ, 1, .inr (.inl (fun _ => 0))))])) hw hA [0, 1, 2, 3, 4, 5, 6, 7, 8, 9, 10, 11, 12, 13, 14, 15, 16, 17, 18, 19, 20, 21, 22, 23, 24, 25, 26, 27, 28, 29, 30] [31, 32, 33, 34, 35, 36, 37, 38, 39, 40, 41, 42, 43, 44, 45, 46, 47, 48, 49, 50, 51, 52, 53, 54, 55, 56, 57] rfl rfl (by decide) (by decide) (by decide) (hk_rV (As := []) (rest := []) ⟨hx, hb, hml, hown, hts⟩ hZ hw hA [0, 1, 2, 3, 4, 5, 6, 7, 8, 9, 10, 11, 12, 13, 14, 15, 16, 17, 18, 19, 20, 21, 22, 23, 24, 25, 26, 27, 28, 29, 30] rfl (by decide) (hk_toY (ct_pass l D cI cJ ad fm ar (fun _ => 0) _ )) (cwV 0 hts gl_ct_pass rfl rfl rfl (by decide +kernel) ⟨Nat.le_of_ble_eq_true rfl, Nat.le_of_ble_eq_true rfl⟩) 0 (ci := 14) (T := TX11) (N := 11) rfl rfl rfl hl.1 rfl (Nat.le_of_ble_eq_true rfl) dL_law_389 ⟨Nat.le_of_ble_eq_true rfl, Nat.le_of_ble_eq_true rfl⟩) (fun r_1 u_2 H locs hp_3 hw => ?_)
  have hw : hk_W D [(cI, .int), (cJ, .long)] (fun q : Nat => s.heap.size ≤ q) s _ _ ((mw cI cJ md (mf_g fm) mf_l mr (fun _ => 0) ++ ([(al, .inl (cJ, 1, .inr (.inl (fun _ => 0))))])) ++ (xw cI cJ ad u_2.1 u_2.2.1 u_2.2.2.1 u_2.2.2.2)) := hw
  have hw : hk_W D [(cI, .int), (cJ, .long)] (fun q : Nat => s.heap.size ≤ q) s _ _ (mw cI cJ md (mf_g fm) mf_l mr (fun _ => 0) ++ ([(al, .inl (cJ, 1, .inr (.inl (fun _ => 0))))] ++ (xw cI cJ ad u_2.1 u_2.2.1 u_2.2.2.1 u_2.2.2.2))) := hk_cast (by simp only [List.append_assoc]) hw
  try dsimp only at hp_3
  refine lv_aload_n hx hb dL_law_392 rfl (lv_at hl 2 rfl) ?_
  refine hk_pi (wc := mw cI cJ md (mf_g fm) mf_l mr (fun _ => 0)) (wr := [(al, .inl (cJ, 1, .inr (.inl (fun _ => 0))))] ++ (xw cI cJ ad u_2.1 u_2.2.1 u_2.2.2.1 u_2.2.2.2)) hw hA [0, 1, 2, 3, 4, 5, 6, 7, 8, 9, 10, 11, 12, 13, 14, 15, 16, 17, 18, 19, 20, 21, 22, 23, 24, 25] [26, 27, 28, 29, 30, 31, 32, 33, 34, 35, 36, 37, 38, 39, 40, 41, 42, 43, 44, 45, 46, 47, 48, 49, 50, 51, 52, 53, 54, 55, 56, 57] rfl rfl (by decide) (by decide) (by decide) (hk_rV (As := []) (rest := [.int r_1]) ⟨hx, hb, hml, hown, hts⟩ hZ hw hA [0, 1, 2, 3, 4, 5, 6, 7, 8, 9, 10, 11, 12, 13, 14, 15, 16, 17, 18, 19, 20, 21, 22, 23, 24, 25] rfl (by decide) (hk_toY (cm_pass l D cI cJ md fm mr (fun _ => 0) _ )) (cwV 0 hts gl_cm_pass rfl rfl rfl (by decide +kernel) ⟨Nat.le_of_ble_eq_true rfl, Nat.le_of_ble_eq_true rfl⟩) 0 (ci := 15) (T := TX12) (N := 92) rfl rfl rfl hl.1 rfl (Nat.le_of_ble_eq_true rfl) dL_law_393 ⟨Nat.le_of_ble_eq_true rfl, Nat.le_of_ble_eq_true rfl⟩) (fun r_4 u_5 H locs hp_6 hw => ?_)
  have hw : hk_W D [(cI, .int), (cJ, .long)] (fun q : Nat => s.heap.size ≤ q) s _ _ (([(al, .inl (cJ, 1, .inr (.inl (fun _ => 0))))] ++ (xw cI cJ ad u_2.1 u_2.2.1 u_2.2.2.1 u_2.2.2.2)) ++ (mw cI cJ md u_5.1 u_5.2.1 u_5.2.2.1 u_5.2.2.2)) := hw
  have hw : hk_W D [(cI, .int), (cJ, .long)] (fun q : Nat => s.heap.size ≤ q) s _ _ ([(al, .inl (cJ, 1, .inr (.inl (fun _ => 0))))] ++ (xw cI cJ ad u_2.1 u_2.2.1 u_2.2.2.1 u_2.2.2.2 ++ (mw cI cJ md u_5.1 u_5.2.1 u_5.2.2.1 u_5.2.2.2))) := hk_cast (by simp only [List.append_assoc]) hw
  try dsimp only at hp_6
  refine lv_icmp_eq (tgt := 671) hx hb dL_law_396 (by decide) (fun _ => ?_) (fun cn => absurd (hp_3.trans hp_6.symm) cn)
  exact law_end hx hb hr hml hown hts hbl hlocks hX (Nat.le_of_ble_eq_true rfl) (Nat.le_of_ble_eq_true rfl) hw (lv_sub hl [0, 4] rfl)

set_option maxHeartbeats 4000000 in
set_option maxRecDepth 100000 in
/-- the law at one call: out -/
theorem law_c9 {p : Program} {e : Env} {s : State} {m : MethodId} {below : List Frame} {meth : Method} {c : Code} {l : Launch} {b : Nat} {xs : Nat → Int32} {D : va_G} {cI cJ : ClassId} {t3 : Nat × Nat × Nat} {ad md : Nat → Nat} {fm : Int32} {ar mr : Nat → Nat → Int32} {al : Nat} {H : Heap} {locs : List Loc} {ls : Array Slot} (hlt : l.stackTraces = false) (hx : p.tables.exec = Jvm.exec) (hb : c.code = code) (hr : meth.sig.returnType = ret) (hml : c.maxLocals = 7) (hown : s.vm.findClass RL = some m.cls) (hts : ∀ w ∈ lw_tbl, w.before #[Value.ref b] s = true) (hbl : b < s.heap.size) (hlocks : meth.locks = false) (hX : va_X b 7 xs s s.heap) (hZ : hk_YY t3 (fun q : Nat => s.heap.size ≤ q) s) (hw : hk_W D [(cI, .int), (cJ, .long)] (fun q : Nat => s.heap.size ≤ q) s H locs (xw cI cJ ad (xf_g fm) xf_l ar (fun _ => 0) ++ (mw cI cJ md (mf_g fm) mf_l mr (fun _ => 0) ++ [(al, .inl (cJ, 1, .inr (.inl (fun _ => 0))))]))) (hl : lv_has ls 7 [(4, .int 1), (3, .ref al), (2, .ref (md 0)), (1, .ref (ad 0)), (0, .ref b)]) : W p l e room_1 s m #[Value.ref b] below meth c H locs 58 133226 (lw_Z below #[Value.ref b] s) (F0 m 401 ls []) := by
  have hA : ∀ q : Nat, s.heap.size ≤ q → (fun q : Nat => s.heap.size ≤ q) q := fun _ h => h
  have hbA : ¬ (fun q : Nat => s.heap.size ≤ q) b := Nat.not_le.mpr hbl
  refine lv_aload_n hx hb dL_law_401 rfl (lv_at hl 3 rfl) ?_
  refine lv_aload_n hx hb dL_law_402 rfl (lv_at hl 4 rfl) ?_
  refine lv_iload hx hb dL_law_403 (lv_at hl 0 rfl) ?_
  refine lv_iconst (v := 1) hx hb dL_law_405 (by decide) ?_
  refine lv_iadd hx hb dL_law_406 ?_
  refine hk_topi 2 (by decide +kernel) ?_
  refine va_sld hx hb hX hbl hbA hw.2.2.1 (show ¬ ((2 : Int32) < 0 ∨ 7 ≤ (2 : Int32).toNatClampNeg) by decide) dL_law_407 ?_
  refine hk_topi (xs 2) rfl ?_
  refine lv_aload_n hx hb dL_law_408 rfl (lv_at hl 1 rfl) ?_
  refine hk_pi (wc := xq cI cJ (hk_a31 ad al) (xf_g fm) xf_l ar (fun _ => 0)) (wr := mw cI cJ md (mf_g fm) mf_l mr (fun _ => 0)) hw hA [0, 1, 2, 3, 4, 5, 6, 7, 8, 9, 10, 11, 12, 13, 14, 15, 16, 17, 18, 19, 20, 21, 22, 23, 24, 25, 26, 27, 28, 29, 30, 57] [31, 32, 33, 34, 35, 36, 37, 38, 39, 40, 41, 42, 43, 44, 45, 46, 47, 48, 49, 50, 51, 52, 53, 54, 55, 56] rfl rfl (by decide) (by decide) (by decide) (hk_rSW (As := [.ref (ad 0), .int (xs 2), .ref al]) (rest := []) ⟨hx, hb, hml, hown, hts⟩ hZ hw hA [0, 1, 2, 3, 4, 5, 6, 7, 8, 9, 10, 11, 12, 13, 14, 15, 16, 17, 18, 19, 20, 21, 22, 23, 24, 25, 26, 27, 28, 29, 30, 57] rfl (by decide) (cl_out l hlt t3 D cI cJ (hk_a31 ad al) (xf_g fm) xf_l ar (fun _ => 0) _ (xs 2) rfl) (vx_cwSW 3 hts gl_lout rfl rfl rfl (by decide +kernel) ⟨Nat.le_of_ble_eq_true rfl, Nat.le_of_ble_eq_true rfl⟩) rfl hl.1 rfl (Nat.le_of_ble_eq_true rfl) dL_law_409 ⟨Nat.le_of_ble_eq_true rfl, Nat.le_of_ble_eq_true rfl⟩) (fun r_1 u_3 H locs hp_2 hw => ?_)
  subst hp_2
  have hw : hk_W D [(cI, .int), (cJ, .long)] (fun q : Nat => s.heap.size ≤ q) s _ _ (mw cI cJ md (mf_g fm) mf_l mr (fun _ => 0) ++ xq cI cJ (hk_a31 ad al) (xf_g fm) xf_l ar (fun _ => 0)) := hw
  refine lv_istore (lv' := [(5, .int 1), (4, .int 1), (3, .ref al), (2, .ref (md 0)), (1, .ref (ad 0)), (0, .ref b)]) hx hb dL_law_412 hl (by decide) rfl (fun ls hl => ?_)
  refine lv_aload_n hx hb dL_law_414 rfl (lv_at hl 3 rfl) ?_
  refine lv_aload_n hx hb dL_law_415 rfl (lv_at hl 5 rfl) ?_
  refine lv_iload hx hb dL_law_416 (lv_at hl 1 rfl) ?_
  refine lv_iconst (v := 1) hx hb dL_law_418 (by decide) ?_
  refine lv_iadd hx hb dL_law_419 ?_
  refine hk_topi 2 (by decide +kernel) ?_
  refine va_sld hx hb hX hbl hbA hw.2.2.1 (show ¬ ((2 : Int32) < 0 ∨ 7 ≤ (2 : Int32).toNatClampNeg) by decide) dL_law_420 ?_
  refine hk_topi (xs 2) rfl ?_
  refine hk_pi (wc := mw cI cJ md (mf_g fm) mf_l mr (fun _ => 0)) (wr := xq cI cJ (hk_a31 ad al) (xf_g fm) xf_l ar (fun _ => 0)) hw hA [0, 1, 2, 3, 4, 5, 6, 7, 8, 9, 10, 11, 12, 13, 14, 15, 16, 17, 18, 19, 20, 21, 22, 23, 24, 25] [26, 27, 28, 29, 30, 31, 32, 33, 34, 35, 36, 37, 38, 39, 40, 41, 42, 43, 44, 45, 46, 47, 48, 49, 50, 51, 52, 53, 54, 55, 56, 57] rfl rfl (by decide) (by decide) (by decide) (hk_rV (As := [.int (xs 2)]) (rest := []) ⟨hx, hb, hml, hown, hts⟩ hZ hw hA [0, 1, 2, 3, 4, 5, 6, 7, 8, 9, 10, 11, 12, 13, 14, 15, 16, 17, 18, 19, 20, 21, 22, 23, 24, 25] rfl (by decide) (hk_toY (cm_out l D cI cJ md fm mr (fun _ => 0) _ (xs 2))) (cwV 1 hts gl_cm_out rfl rfl rfl (by decide +kernel) ⟨Nat.le_of_ble_eq_true rfl, Nat.le_of_ble_eq_true rfl⟩) 0 (ci := 15) (T := TX12) (N := 92) rfl rfl rfl hl.1 rfl (Nat.le_of_ble_eq_true rfl) dL_law_421 ⟨Nat.le_of_ble_eq_true rfl, Nat.le_of_ble_eq_true rfl⟩) (fun r_4 u_5 H locs hp_6 hw => ?_)
  have hw : hk_W D [(cI, .int), (cJ, .long)] (fun q : Nat => s.heap.size ≤ q) s _ _ ((xq cI cJ (hk_a31 ad al) (xf_g fm) xf_l ar (fun _ => 0)) ++ (mw cI cJ md (upd (mf_g fm) 1 1) mf_l mr (fun _ => 0))) := hw
  subst hp_6
  refine lv_istore (lv' := [(6, .int 0), (5, .int 1), (4, .int 1), (3, .ref al), (2, .ref (md 0)), (1, .ref (ad 0)), (0, .ref b)]) hx hb dL_law_424 hl (by decide) rfl (fun ls hl => ?_)
  refine lv_aload_n hx hb dL_law_426 rfl (lv_at hl 4 rfl) ?_
  refine hk_pi (wc := mw cI cJ md (upd (mf_g fm) 1 1) mf_l mr (fun _ => 0)) (wr := xq cI cJ (hk_a31 ad al) (xf_g fm) xf_l ar (fun _ => 0)) hw hA [32, 33, 34, 35, 36, 37, 38, 39, 40, 41, 42, 43, 44, 45, 46, 47, 48, 49, 50, 51, 52, 53, 54, 55, 56, 57] [0, 1, 2, 3, 4, 5, 6, 7, 8, 9, 10, 11, 12, 13, 14, 15, 16, 17, 18, 19, 20, 21, 22, 23, 24, 25, 26, 27, 28, 29, 30, 31] rfl rfl (by decide) (by decide) (by decide) (hk_rV (As := []) (rest := []) ⟨hx, hb, hml, hown, hts⟩ hZ hw hA [32, 33, 34, 35, 36, 37, 38, 39, 40, 41, 42, 43, 44, 45, 46, 47, 48, 49, 50, 51, 52, 53, 54, 55, 56, 57] rfl (by decide) (hk_toY (cm_thrown l D cI cJ md (upd (mf_g fm) 1 1) mf_l mr (fun _ => 0) _ rfl)) (cwV 0 hts gl_cm_thrown rfl rfl rfl (by decide +kernel) ⟨Nat.le_of_ble_eq_true rfl, Nat.le_of_ble_eq_true rfl⟩) 0 (ci := 15) (T := TX12) (N := 92) rfl rfl rfl hl.1 rfl (Nat.le_of_ble_eq_true rfl) dL_law_427 ⟨Nat.le_of_ble_eq_true rfl, Nat.le_of_ble_eq_true rfl⟩) (fun r_7 u_8 H locs hp_9 hw => ?_)
  have hw : hk_W D [(cI, .int), (cJ, .long)] (fun q : Nat => s.heap.size ≤ q) s _ _ ((xq cI cJ (hk_a31 ad al) (xf_g fm) xf_l ar (fun _ => 0)) ++ (mw cI cJ md (upd (mf_g fm) 1 1) mf_l mr (fun _ => 0))) := hw
  subst hp_9
  refine lv_iload hx hb dL_law_430 (lv_at hl 1 rfl) ?_
  refine lv_icmp_eq (tgt := 437) hx hb dL_law_432 (by decide) (fun _ => ?_) (fun cc_10 => absurd (by decide) cc_10)
  refine lv_iload hx hb dL_law_437 (lv_at hl 1 rfl) ?_
  refine lv_if_ne (tgt := 454) hx hb dL_law_439 (by decide) (fun _ => ?_) (fun cc_11 => absurd cc_11 (by decide))
  refine lv_goto (tgt := 671) hx hb dL_law_454 (by decide) ?_
  exact law_end hx hb hr hml hown hts hbl hlocks hX (Nat.le_of_ble_eq_true rfl) (Nat.le_of_ble_eq_true rfl) hw (lv_sub hl [2, 6] rfl)

set_option maxHeartbeats 4000000 in
set_option maxRecDepth 100000 in
/-- the law at one call: step -/
theorem law_c10 {p : Program} {e : Env} {s : State} {m : MethodId} {below : List Frame} {meth : Method} {c : Code} {l : Launch} {b : Nat} {xs : Nat → Int32} {D : va_G} {cI cJ : ClassId} {t3 : Nat × Nat × Nat} {ad md : Nat → Nat} {fm : Int32} {ar mr : Nat → Nat → Int32} {al : Nat} {H : Heap} {locs : List Loc} {ls : Array Slot} (hlt : l.stackTraces = false) (hx : p.tables.exec = Jvm.exec) (hb : c.code = code) (hr : meth.sig.returnType = ret) (hml : c.maxLocals = 7) (hown : s.vm.findClass RL = some m.cls) (hts : ∀ w ∈ lw_tbl, w.before #[Value.ref b] s = true) (hbl : b < s.heap.size) (hlocks : meth.locks = false) (hX : va_X b 7 xs s s.heap) (hZ : hk_YY t3 (fun q : Nat => s.heap.size ≤ q) s) (hw : hk_W D [(cI, .int), (cJ, .long)] (fun q : Nat => s.heap.size ≤ q) s H locs (xw cI cJ ad (xf_g fm) xf_l ar (fun _ => 0) ++ (mw cI cJ md (mf_g fm) mf_l mr (fun _ => 0) ++ [(al, .inl (cJ, 1, .inr (.inl (fun _ => 0))))]))) (hl : lv_has ls 7 [(4, .int 1), (3, .ref al), (2, .ref (md 0)), (1, .ref (ad 0)), (0, .ref b)]) : W p l e room_1 s m #[Value.ref b] below meth c H locs 58 133226 (lw_Z below #[Value.ref b] s) (F0 m 457 ls []) := by
  have hA : ∀ q : Nat, s.heap.size ≤ q → (fun q : Nat => s.heap.size ≤ q) q := fun _ h => h
  have hbA : ¬ (fun q : Nat => s.heap.size ≤ q) b := Nat.not_le.mpr hbl
  refine lv_aload_n hx hb dL_law_457 rfl (lv_at hl 3 rfl) ?_
  refine lv_aload_n hx hb dL_law_458 rfl (lv_at hl 4 rfl) ?_
  refine lv_iload hx hb dL_law_459 (lv_at hl 0 rfl) ?_
  refine lv_iconst (v := 1) hx hb dL_law_461 (by decide) ?_
  refine lv_iadd hx hb dL_law_462 ?_
  refine hk_topi 2 (by decide +kernel) ?_
  refine va_sld hx hb hX hbl hbA hw.2.2.1 (show ¬ ((2 : Int32) < 0 ∨ 7 ≤ (2 : Int32).toNatClampNeg) by decide) dL_law_463 ?_
  refine hk_topi (xs 2) rfl ?_
  refine lv_aload_n hx hb dL_law_464 rfl (lv_at hl 4 rfl) ?_
  refine lv_iload hx hb dL_law_465 (lv_at hl 0 rfl) ?_
  refine lv_iconst (v := 2) hx hb dL_law_467 (by decide) ?_
  refine lv_iadd hx hb dL_law_468 ?_
  refine hk_topi 3 (by decide +kernel) ?_
  refine va_sld hx hb hX hbl hbA hw.2.2.1 (show ¬ ((3 : Int32) < 0 ∨ 7 ≤ (3 : Int32).toNatClampNeg) by decide) dL_law_469 ?_
  refine hk_topi (xs 3) rfl ?_
  refine hk_pi (wc := xw cI cJ ad (xf_g fm) xf_l ar (fun _ => 0)) (wr := mw cI cJ md (mf_g fm) mf_l mr (fun _ => 0) ++ ([(al, .inl (cJ, 1, .inr (.inl (fun _ => 0))))])) hw hA [0, 1, 2, 3, 4, 5, 6, 7, 8, 9, 10, 11, 12, 13, 14, 15, 16, 17, 18, 19, 20, 21, 22, 23, 24, 25, 26, 27, 28, 29, 30] [31, 32, 33, 34, 35, 36, 37, 38, 39, 40, 41, 42, 43, 44, 45, 46, 47, 48, 49, 50, 51, 52, 53, 54, 55, 56, 57] rfl rfl (by decide) (by decide) (by decide) (hk_rV (As := [.int (xs 2), .int (xs 3)]) (rest := []) ⟨hx, hb, hml, hown, hts⟩ hZ hw hA [0, 1, 2, 3, 4, 5, 6, 7, 8, 9, 10, 11, 12, 13, 14, 15, 16, 17, 18, 19, 20, 21, 22, 23, 24, 25, 26, 27, 28, 29, 30] rfl (by decide) (hk_toY (ct_step l D cI cJ ad fm ar (fun _ => 0) _ (xs 2) (xs 3))) (cwV 2 hts gl_ct_step rfl rfl rfl (by decide +kernel) ⟨Nat.le_of_ble_eq_true rfl, Nat.le_of_ble_eq_true rfl⟩) 0 (ci := 14) (T := TX11) (N := 11) rfl rfl rfl hl.1 rfl (Nat.le_of_ble_eq_true rfl) dL_law_470 ⟨Nat.le_of_ble_eq_true rfl, Nat.le_of_ble_eq_true rfl⟩) (fun r_1 u_2 H locs hp_3 hw => ?_)
  have hw : hk_W D [(cI, .int), (cJ, .long)] (fun q : Nat => s.heap.size ≤ q) s _ _ ((mw cI cJ md (mf_g fm) mf_l mr (fun _ => 0) ++ ([(al, .inl (cJ, 1, .inr (.inl (fun _ => 0))))])) ++ (xw cI cJ ad u_2.1 u_2.2.1 u_2.2.2.1 u_2.2.2.2)) := hw
  have hw : hk_W D [(cI, .int), (cJ, .long)] (fun q : Nat => s.heap.size ≤ q) s _ _ (mw cI cJ md (mf_g fm) mf_l mr (fun _ => 0) ++ ([(al, .inl (cJ, 1, .inr (.inl (fun _ => 0))))] ++ (xw cI cJ ad u_2.1 u_2.2.1 u_2.2.2.1 u_2.2.2.2))) := hk_cast (by simp only [List.append_assoc]) hw
  try dsimp only at hp_3
  refine lv_aload_n hx hb dL_law_473 rfl (lv_at hl 2 rfl) ?_
  refine lv_aload_n hx hb dL_law_474 rfl (lv_at hl 4 rfl) ?_
  refine lv_iload hx hb dL_law_475 (lv_at hl 0 rfl) ?_
  refine lv_iconst (v := 1) hx hb dL_law_477 (by decide) ?_
  refine lv_iadd hx hb dL_law_478 ?_
  refine hk_topi 2 (by decide +kernel) ?_
  refine va_sld hx hb hX hbl hbA hw.2.2.1 (show ¬ ((2 : Int32) < 0 ∨ 7 ≤ (2 : Int32).toNatClampNeg) by decide) dL_law_479 ?_
  refine hk_topi (xs 2) rfl ?_
  refine lv_aload_n hx hb dL_law_480 rfl (lv_at hl 4 rfl) ?_
  refine lv_iload hx hb dL_law_481 (lv_at hl 0 rfl) ?_
  refine lv_iconst (v := 2) hx hb dL_law_483 (by decide) ?_
  refine lv_iadd hx hb dL_law_484 ?_
  refine hk_topi 3 (by decide +kernel) ?_
  refine va_sld hx hb hX hbl hbA hw.2.2.1 (show ¬ ((3 : Int32) < 0 ∨ 7 ≤ (3 : Int32).toNatClampNeg) by decide) dL_law_485 ?_
  refine hk_topi (xs 3) rfl ?_
  refine hk_pi (wc := mw cI cJ md (mf_g fm) mf_l mr (fun _ => 0)) (wr := [(al, .inl (cJ, 1, .inr (.inl (fun _ => 0))))] ++ (xw cI cJ ad u_2.1 u_2.2.1 u_2.2.2.1 u_2.2.2.2)) hw hA [0, 1, 2, 3, 4, 5, 6, 7, 8, 9, 10, 11, 12, 13, 14, 15, 16, 17, 18, 19, 20, 21, 22, 23, 24, 25] [26, 27, 28, 29, 30, 31, 32, 33, 34, 35, 36, 37, 38, 39, 40, 41, 42, 43, 44, 45, 46, 47, 48, 49, 50, 51, 52, 53, 54, 55, 56, 57] rfl rfl (by decide) (by decide) (by decide) (hk_rV (As := [.int (xs 2), .int (xs 3)]) (rest := [.int r_1]) ⟨hx, hb, hml, hown, hts⟩ hZ hw hA [0, 1, 2, 3, 4, 5, 6, 7, 8, 9, 10, 11, 12, 13, 14, 15, 16, 17, 18, 19, 20, 21, 22, 23, 24, 25] rfl (by decide) (hk_toY (cm_step l D cI cJ md fm mr (fun _ => 0) _ (xs 2) (xs 3))) (cwV 2 hts gl_cm_step rfl rfl rfl (by decide +kernel) ⟨Nat.le_of_ble_eq_true rfl, Nat.le_of_ble_eq_true rfl⟩) 0 (ci := 15) (T := TX12) (N := 92) rfl rfl rfl hl.1 rfl (Nat.le_of_ble_eq_true rfl) dL_law_486 ⟨Nat.le_of_ble_eq_true rfl, Nat.le_of_ble_eq_true rfl⟩) (fun r_4 u_5 H locs hp_6 hw => ?_)
  have hw : hk_W D [(cI, .int), (cJ, .long)] (fun q : Nat => s.heap.size ≤ q) s _ _ (([(al, .inl (cJ, 1, .inr (.inl (fun _ => 0))))] ++ (xw cI cJ ad u_2.1 u_2.2.1 u_2.2.2.1 u_2.2.2.2)) ++ (mw cI cJ md u_5.1 u_5.2.1 u_5.2.2.1 u_5.2.2.2)) := hw
  have hw : hk_W D [(cI, .int), (cJ, .long)] (fun q : Nat => s.heap.size ≤ q) s _ _ ([(al, .inl (cJ, 1, .inr (.inl (fun _ => 0))))] ++ (xw cI cJ ad u_2.1 u_2.2.1 u_2.2.2.1 u_2.2.2.2 ++ (mw cI cJ md u_5.1 u_5.2.1 u_5.2.2.1 u_5.2.2.2))) := hk_cast (by simp only [List.append_assoc]) hw
  try dsimp only at hp_6
  refine lv_icmp_eq (tgt := 671) hx hb dL_law_489 (by decide) (fun _ => ?_) (fun cn => absurd (Int32.toInt_inj.mp (by omega)) cn)
  exact law_end hx hb hr hml hown hts hbl hlocks hX (Nat.le_of_ble_eq_true rfl) (Nat.le_of_ble_eq_true rfl) hw (lv_sub hl [0, 4] rfl)

set_option maxHeartbeats 4000000 in
set_option maxRecDepth 100000 in
/-- the law at one call: state -/
theorem law_c11 {p : Program} {e : Env} {s : State} {m : MethodId} {below : List Frame} {meth : Method} {c : Code} {l : Launch} {b : Nat} {xs : Nat → Int32} {D : va_G} {cI cJ : ClassId} {t3 : Nat × Nat × Nat} {ad md : Nat → Nat} {fm : Int32} {ar mr : Nat → Nat → Int32} {al : Nat} {H : Heap} {locs : List Loc} {ls : Array Slot} (hlt : l.stackTraces = false) (hx : p.tables.exec = Jvm.exec) (hb : c.code = code) (hr : meth.sig.returnType = ret) (hml : c.maxLocals = 7) (hown : s.vm.findClass RL = some m.cls) (hts : ∀ w ∈ lw_tbl, w.before #[Value.ref b] s = true) (hbl : b < s.heap.size) (hlocks : meth.locks = false) (hX : va_X b 7 xs s s.heap) (hZ : hk_YY t3 (fun q : Nat => s.heap.size ≤ q) s) (hw : hk_W D [(cI, .int), (cJ, .long)] (fun q : Nat => s.heap.size ≤ q) s H locs (xw cI cJ ad (xf_g fm) xf_l ar (fun _ => 0) ++ (mw cI cJ md (mf_g fm) mf_l mr (fun _ => 0) ++ [(al, .inl (cJ, 1, .inr (.inl (fun _ => 0))))]))) (hl : lv_has ls 7 [(4, .int 1), (3, .ref al), (2, .ref (md 0)), (1, .ref (ad 0)), (0, .ref b)]) : W p l e room_1 s m #[Value.ref b] below meth c H locs 58 133226 (lw_Z below #[Value.ref b] s) (F0 m 494 ls []) := by
  have hA : ∀ q : Nat, s.heap.size ≤ q → (fun q : Nat => s.heap.size ≤ q) q := fun _ h => h
  have hbA : ¬ (fun q : Nat => s.heap.size ≤ q) b := Nat.not_le.mpr hbl
  refine lv_aload_n hx hb dL_law_494 rfl (lv_at hl 3 rfl) ?_
  refine hk_pi (wc := xw cI cJ ad (xf_g fm) xf_l ar (fun _ => 0)) (wr := mw cI cJ md (mf_g fm) mf_l mr (fun _ => 0) ++ ([(al, .inl (cJ, 1, .inr (.inl (fun _ => 0))))])) hw hA [0, 1, 2, 3, 4, 5, 6, 7, 8, 9, 10, 11, 12, 13, 14, 15, 16, 17, 18, 19, 20, 21, 22, 23, 24, 25, 26, 27, 28, 29, 30] [31, 32, 33, 34, 35, 36, 37, 38, 39, 40, 41, 42, 43, 44, 45, 46, 47, 48, 49, 50, 51, 52, 53, 54, 55, 56, 57] rfl rfl (by decide) (by decide) (by decide) (hk_rV (As := []) (rest := []) ⟨hx, hb, hml, hown, hts⟩ hZ hw hA [0, 1, 2, 3, 4, 5, 6, 7, 8, 9, 10, 11, 12, 13, 14, 15, 16, 17, 18, 19, 20, 21, 22, 23, 24, 25, 26, 27, 28, 29, 30] rfl (by decide) (hk_toY (ct_state l D cI cJ ad fm ar (fun _ => 0) _ )) (cwV 0 hts gl_ct_state rfl rfl rfl (by decide +kernel) ⟨Nat.le_of_ble_eq_true rfl, Nat.le_of_ble_eq_true rfl⟩) 0 (ci := 14) (T := TX11) (N := 11) rfl rfl rfl hl.1 rfl (Nat.le_of_ble_eq_true rfl) dL_law_495 ⟨Nat.le_of_ble_eq_true rfl, Nat.le_of_ble_eq_true rfl⟩) (fun r_1 u_2 H locs hp_3 hw => ?_)
  have hw : hk_W D [(cI, .int), (cJ, .long)] (fun q : Nat => s.heap.size ≤ q) s _ _ ((mw cI cJ md (mf_g fm) mf_l mr (fun _ => 0) ++ ([(al, .inl (cJ, 1, .inr (.inl (fun _ => 0))))])) ++ (xw cI cJ ad u_2.1 u_2.2.1 u_2.2.2.1 u_2.2.2.2)) := hw
  have hw : hk_W D [(cI, .int), (cJ, .long)] (fun q : Nat => s.heap.size ≤ q) s _ _ (mw cI cJ md (mf_g fm) mf_l mr (fun _ => 0) ++ ([(al, .inl (cJ, 1, .inr (.inl (fun _ => 0))))] ++ (xw cI cJ ad u_2.1 u_2.2.1 u_2.2.2.1 u_2.2.2.2))) := hk_cast (by simp only [List.append_assoc]) hw
  try dsimp only at hp_3
  refine lv_aload_n hx hb dL_law_498 rfl (lv_at hl 2 rfl) ?_
  refine hk_pi (wc := mw cI cJ md (mf_g fm) mf_l mr (fun _ => 0)) (wr := [(al, .inl (cJ, 1, .inr (.inl (fun _ => 0))))] ++ (xw cI cJ ad u_2.1 u_2.2.1 u_2.2.2.1 u_2.2.2.2)) hw hA [0, 1, 2, 3, 4, 5, 6, 7, 8, 9, 10, 11, 12, 13, 14, 15, 16, 17, 18, 19, 20, 21, 22, 23, 24, 25] [26, 27, 28, 29, 30, 31, 32, 33, 34, 35, 36, 37, 38, 39, 40, 41, 42, 43, 44, 45, 46, 47, 48, 49, 50, 51, 52, 53, 54, 55, 56, 57] rfl rfl (by decide) (by decide) (by decide) (hk_rV (As := []) (rest := [.int r_1]) ⟨hx, hb, hml, hown, hts⟩ hZ hw hA [0, 1, 2, 3, 4, 5, 6, 7, 8, 9, 10, 11, 12, 13, 14, 15, 16, 17, 18, 19, 20, 21, 22, 23, 24, 25] rfl (by decide) (hk_toY (cm_state l D cI cJ md fm mr (fun _ => 0) _ )) (cwV 0 hts gl_cm_state rfl rfl rfl (by decide +kernel) ⟨Nat.le_of_ble_eq_true rfl, Nat.le_of_ble_eq_true rfl⟩) 0 (ci := 15) (T := TX12) (N := 92) rfl rfl rfl hl.1 rfl (Nat.le_of_ble_eq_true rfl) dL_law_499 ⟨Nat.le_of_ble_eq_true rfl, Nat.le_of_ble_eq_true rfl⟩) (fun r_4 u_5 H locs hp_6 hw => ?_)
  have hw : hk_W D [(cI, .int), (cJ, .long)] (fun q : Nat => s.heap.size ≤ q) s _ _ (([(al, .inl (cJ, 1, .inr (.inl (fun _ => 0))))] ++ (xw cI cJ ad u_2.1 u_2.2.1 u_2.2.2.1 u_2.2.2.2)) ++ (mw cI cJ md u_5.1 u_5.2.1 u_5.2.2.1 u_5.2.2.2)) := hw
  have hw : hk_W D [(cI, .int), (cJ, .long)] (fun q : Nat => s.heap.size ≤ q) s _ _ ([(al, .inl (cJ, 1, .inr (.inl (fun _ => 0))))] ++ (xw cI cJ ad u_2.1 u_2.2.1 u_2.2.2.1 u_2.2.2.2 ++ (mw cI cJ md u_5.1 u_5.2.1 u_5.2.2.1 u_5.2.2.2))) := hk_cast (by simp only [List.append_assoc]) hw
  try dsimp only at hp_6
  refine lv_icmp_eq (tgt := 671) hx hb dL_law_502 (by decide) (fun _ => ?_) (fun cn => absurd (hp_3.trans hp_6.symm) cn)
  exact law_end hx hb hr hml hown hts hbl hlocks hX (Nat.le_of_ble_eq_true rfl) (Nat.le_of_ble_eq_true rfl) hw (lv_sub hl [0, 4] rfl)

set_option maxHeartbeats 4000000 in
set_option maxRecDepth 100000 in
/-- the law at one call: block -/
theorem law_c12 {p : Program} {e : Env} {s : State} {m : MethodId} {below : List Frame} {meth : Method} {c : Code} {l : Launch} {b : Nat} {xs : Nat → Int32} {D : va_G} {cI cJ : ClassId} {t3 : Nat × Nat × Nat} {ad md : Nat → Nat} {fm : Int32} {ar mr : Nat → Nat → Int32} {al : Nat} {H : Heap} {locs : List Loc} {ls : Array Slot} (hlt : l.stackTraces = false) (hx : p.tables.exec = Jvm.exec) (hb : c.code = code) (hr : meth.sig.returnType = ret) (hml : c.maxLocals = 7) (hown : s.vm.findClass RL = some m.cls) (hts : ∀ w ∈ lw_tbl, w.before #[Value.ref b] s = true) (hbl : b < s.heap.size) (hlocks : meth.locks = false) (hX : va_X b 7 xs s s.heap) (hZ : hk_YY t3 (fun q : Nat => s.heap.size ≤ q) s) (hw : hk_W D [(cI, .int), (cJ, .long)] (fun q : Nat => s.heap.size ≤ q) s H locs (xw cI cJ ad (xf_g fm) xf_l ar (fun _ => 0) ++ (mw cI cJ md (mf_g fm) mf_l mr (fun _ => 0) ++ [(al, .inl (cJ, 1, .inr (.inl (fun _ => 0))))]))) (hl : lv_has ls 7 [(4, .int 1), (3, .ref al), (2, .ref (md 0)), (1, .ref (ad 0)), (0, .ref b)]) : W p l e room_1 s m #[Value.ref b] below meth c H locs 58 133226 (lw_Z below #[Value.ref b] s) (F0 m 507 ls []) := by
  have hA : ∀ q : Nat, s.heap.size ≤ q → (fun q : Nat => s.heap.size ≤ q) q := fun _ h => h
  have hbA : ¬ (fun q : Nat => s.heap.size ≤ q) b := Nat.not_le.mpr hbl
  refine lv_aload_n hx hb dL_law_507 rfl (lv_at hl 3 rfl) ?_
  refine lv_aload_n hx hb dL_law_508 rfl (lv_at hl 4 rfl) ?_
  refine lv_iload hx hb dL_law_509 (lv_at hl 0 rfl) ?_
  refine lv_iconst (v := 1) hx hb dL_law_511 (by decide) ?_
  refine lv_iadd hx hb dL_law_512 ?_
  refine hk_topi 2 (by decide +kernel) ?_
  refine va_sld hx hb hX hbl hbA hw.2.2.1 (show ¬ ((2 : Int32) < 0 ∨ 7 ≤ (2 : Int32).toNatClampNeg) by decide) dL_law_513 ?_
  refine hk_topi (xs 2) rfl ?_
  refine lv_aload_n hx hb dL_law_514 rfl (lv_at hl 4 rfl) ?_
  refine lv_iload hx hb dL_law_515 (lv_at hl 0 rfl) ?_
  refine lv_iconst (v := 2) hx hb dL_law_517 (by decide) ?_
  refine lv_iadd hx hb dL_law_518 ?_
  refine hk_topi 3 (by decide +kernel) ?_
  refine va_sld hx hb hX hbl hbA hw.2.2.1 (show ¬ ((3 : Int32) < 0 ∨ 7 ≤ (3 : Int32).toNatClampNeg) by decide) dL_law_519 ?_
  refine hk_topi (xs 3) rfl ?_
  refine hk_pi (wc := xw cI cJ ad (xf_g fm) xf_l ar (fun _ => 0)) (wr := mw cI cJ md (mf_g fm) mf_l mr (fun _ => 0) ++ ([(al, .inl (cJ, 1, .inr (.inl (fun _ => 0))))])) hw hA [0, 1, 2, 3, 4, 5, 6, 7, 8, 9, 10, 11, 12, 13, 14, 15, 16, 17, 18, 19, 20, 21, 22, 23, 24, 25, 26, 27, 28, 29, 30] [31, 32, 33, 34, 35, 36, 37, 38, 39, 40, 41, 42, 43, 44, 45, 46, 47, 48, 49, 50, 51, 52, 53, 54, 55, 56, 57] rfl rfl (by decide) (by decide) (by decide) (hk_rV (As := [.int (xs 2), .int (xs 3)]) (rest := []) ⟨hx, hb, hml, hown, hts⟩ hZ hw hA [0, 1, 2, 3, 4, 5, 6, 7, 8, 9, 10, 11, 12, 13, 14, 15, 16, 17, 18, 19, 20, 21, 22, 23, 24, 25, 26, 27, 28, 29, 30] rfl (by decide) (hk_toY (ct_block l D cI cJ ad fm ar (fun _ => 0) _ (xs 2) (xs 3))) (cwV 2 hts gl_ct_block rfl rfl rfl (by decide +kernel) ⟨Nat.le_of_ble_eq_true rfl, Nat.le_of_ble_eq_true rfl⟩) 0 (ci := 14) (T := TX11) (N := 11) rfl rfl rfl hl.1 rfl (Nat.le_of_ble_eq_true rfl) dL_law_520 ⟨Nat.le_of_ble_eq_true rfl, Nat.le_of_ble_eq_true rfl⟩) (fun r_1 u_2 H locs hp_3 hw => ?_)
  have hw : hk_W D [(cI, .int), (cJ, .long)] (fun q : Nat => s.heap.size ≤ q) s _ _ ((mw cI cJ md (mf_g fm) mf_l mr (fun _ => 0) ++ ([(al, .inl (cJ, 1, .inr (.inl (fun _ => 0))))])) ++ (xw cI cJ ad u_2.1 u_2.2.1 u_2.2.2.1 u_2.2.2.2)) := hw
  have hw : hk_W D [(cI, .int), (cJ, .long)] (fun q : Nat => s.heap.size ≤ q) s _ _ (mw cI cJ md (mf_g fm) mf_l mr (fun _ => 0) ++ ([(al, .inl (cJ, 1, .inr (.inl (fun _ => 0))))] ++ (xw cI cJ ad u_2.1 u_2.2.1 u_2.2.2.1 u_2.2.2.2))) := hk_cast (by simp only [List.append_assoc]) hw
  try dsimp only at hp_3
  refine lv_aload_n hx hb dL_law_523 rfl (lv_at hl 2 rfl) ?_
  refine lv_aload_n hx hb dL_law_524 rfl (lv_at hl 4 rfl) ?_
  refine lv_iload hx hb dL_law_525 (lv_at hl 0 rfl) ?_
  refine lv_iconst (v := 1) hx hb dL_law_527 (by decide) ?_
  refine lv_iadd hx hb dL_law_528 ?_
  refine hk_topi 2 (by decide +kernel) ?_
  refine va_sld hx hb hX hbl hbA hw.2.2.1 (show ¬ ((2 : Int32) < 0 ∨ 7 ≤ (2 : Int32).toNatClampNeg) by decide) dL_law_529 ?_
  refine hk_topi (xs 2) rfl ?_
  refine lv_aload_n hx hb dL_law_530 rfl (lv_at hl 4 rfl) ?_
  refine lv_iload hx hb dL_law_531 (lv_at hl 0 rfl) ?_
  refine lv_iconst (v := 2) hx hb dL_law_533 (by decide) ?_
  refine lv_iadd hx hb dL_law_534 ?_
  refine hk_topi 3 (by decide +kernel) ?_
  refine va_sld hx hb hX hbl hbA hw.2.2.1 (show ¬ ((3 : Int32) < 0 ∨ 7 ≤ (3 : Int32).toNatClampNeg) by decide) dL_law_535 ?_
  refine hk_topi (xs 3) rfl ?_
  refine hk_pi (wc := mw cI cJ md (mf_g fm) mf_l mr (fun _ => 0)) (wr := [(al, .inl (cJ, 1, .inr (.inl (fun _ => 0))))] ++ (xw cI cJ ad u_2.1 u_2.2.1 u_2.2.2.1 u_2.2.2.2)) hw hA [0, 1, 2, 3, 4, 5, 6, 7, 8, 9, 10, 11, 12, 13, 14, 15, 16, 17, 18, 19, 20, 21, 22, 23, 24, 25] [26, 27, 28, 29, 30, 31, 32, 33, 34, 35, 36, 37, 38, 39, 40, 41, 42, 43, 44, 45, 46, 47, 48, 49, 50, 51, 52, 53, 54, 55, 56, 57] rfl rfl (by decide) (by decide) (by decide) (hk_rV (As := [.int (xs 2), .int (xs 3)]) (rest := [.int r_1]) ⟨hx, hb, hml, hown, hts⟩ hZ hw hA [0, 1, 2, 3, 4, 5, 6, 7, 8, 9, 10, 11, 12, 13, 14, 15, 16, 17, 18, 19, 20, 21, 22, 23, 24, 25] rfl (by decide) (hk_toY (cm_block l D cI cJ md fm mr (fun _ => 0) _ (xs 2) (xs 3))) (cwV 2 hts gl_cm_block rfl rfl rfl (by decide +kernel) ⟨Nat.le_of_ble_eq_true rfl, Nat.le_of_ble_eq_true rfl⟩) 0 (ci := 15) (T := TX12) (N := 92) rfl rfl rfl hl.1 rfl (Nat.le_of_ble_eq_true rfl) dL_law_536 ⟨Nat.le_of_ble_eq_true rfl, Nat.le_of_ble_eq_true rfl⟩) (fun r_4 u_5 H locs hp_6 hw => ?_)
  have hw : hk_W D [(cI, .int), (cJ, .long)] (fun q : Nat => s.heap.size ≤ q) s _ _ (([(al, .inl (cJ, 1, .inr (.inl (fun _ => 0))))] ++ (xw cI cJ ad u_2.1 u_2.2.1 u_2.2.2.1 u_2.2.2.2)) ++ (mw cI cJ md u_5.1 u_5.2.1 u_5.2.2.1 u_5.2.2.2)) := hw
  have hw : hk_W D [(cI, .int), (cJ, .long)] (fun q : Nat => s.heap.size ≤ q) s _ _ ([(al, .inl (cJ, 1, .inr (.inl (fun _ => 0))))] ++ (xw cI cJ ad u_2.1 u_2.2.1 u_2.2.2.1 u_2.2.2.2 ++ (mw cI cJ md u_5.1 u_5.2.1 u_5.2.2.1 u_5.2.2.2))) := hk_cast (by simp only [List.append_assoc]) hw
  try dsimp only at hp_6
  refine lv_icmp_eq (tgt := 671) hx hb dL_law_539 (by decide) (fun _ => ?_) (fun cn => absurd (Int32.toInt_inj.mp (by omega)) cn)
  exact law_end hx hb hr hml hown hts hbl hlocks hX (Nat.le_of_ble_eq_true rfl) (Nat.le_of_ble_eq_true rfl) hw (lv_sub hl [0, 4] rfl)

set_option maxHeartbeats 4000000 in
set_option maxRecDepth 100000 in
/-- the law at one call: check -/
theorem law_c13_1 {p : Program} {e : Env} {s : State} {m : MethodId} {below : List Frame} {meth : Method} {c : Code} {l : Launch} {b : Nat} {xs : Nat → Int32} {D : va_G} {cI cJ : ClassId} {t3 : Nat × Nat × Nat} {ad md : Nat → Nat} {fm : Int32} {ar mr : Nat → Nat → Int32} {al : Nat} {H : Heap} {locs : List Loc} {ls : Array Slot} (hlt : l.stackTraces = false) (hx : p.tables.exec = Jvm.exec) (hb : c.code = code) (hr : meth.sig.returnType = ret) (hml : c.maxLocals = 7) (hown : s.vm.findClass RL = some m.cls) (hts : ∀ w ∈ lw_tbl, w.before #[Value.ref b] s = true) (hbl : b < s.heap.size) (hlocks : meth.locks = false) (hX : va_X b 7 xs s s.heap) (hZ : hk_YY t3 (fun q : Nat => s.heap.size ≤ q) s) (hw : hk_W D [(cI, .int), (cJ, .long)] (fun q : Nat => s.heap.size ≤ q) s H locs (xw cI cJ ad (xf_g fm) xf_l ar (fun _ => 0) ++ (mw cI cJ md (mf_g fm) mf_l mr (fun _ => 0) ++ [(al, .inl (cJ, 1, .inr (.inl (fun _ => 0))))]))) (hl : lv_has ls 7 [(4, .int 1), (3, .ref al), (2, .ref (md 0)), (1, .ref (ad 0)), (0, .ref b)]) (hk1 : xs 2 = 1) : W p l e room_1 s m #[Value.ref b] below meth c H locs 58 133226 (lw_Z below #[Value.ref b] s) (F0 m 544 ls []) := by
  have hA : ∀ q : Nat, s.heap.size ≤ q → (fun q : Nat => s.heap.size ≤ q) q := fun _ h => h
  have hbA : ¬ (fun q : Nat => s.heap.size ≤ q) b := Nat.not_le.mpr hbl
  refine lv_aload_n hx hb dL_law_544 rfl (lv_at hl 3 rfl) ?_
  refine lv_aload_n hx hb dL_law_545 rfl (lv_at hl 4 rfl) ?_
  refine lv_iload hx hb dL_law_546 (lv_at hl 0 rfl) ?_
  refine lv_iconst (v := 1) hx hb dL_law_548 (by decide) ?_
  refine lv_iadd hx hb dL_law_549 ?_
  refine hk_topi 2 (by decide +kernel) ?_
  refine va_sld hx hb hX hbl hbA hw.2.2.1 (show ¬ ((2 : Int32) < 0 ∨ 7 ≤ (2 : Int32).toNatClampNeg) by decide) dL_law_550 ?_
  refine hk_topi (xs 2) rfl ?_
  refine hk_topi 1 hk1 ?_
  refine lv_aload_n hx hb dL_law_551 rfl (lv_at hl 4 rfl) ?_
  refine lv_iload hx hb dL_law_552 (lv_at hl 0 rfl) ?_
  refine lv_iconst (v := 2) hx hb dL_law_554 (by decide) ?_
  refine lv_iadd hx hb dL_law_555 ?_
  refine hk_topi 3 (by decide +kernel) ?_
  refine va_sld hx hb hX hbl hbA hw.2.2.1 (show ¬ ((3 : Int32) < 0 ∨ 7 ≤ (3 : Int32).toNatClampNeg) by decide) dL_law_556 ?_
  refine hk_topi (xs 3) rfl ?_
  refine hk_pi (wc := xw cI cJ ad (xf_g fm) xf_l ar (fun _ => 0)) (wr := mw cI cJ md (mf_g fm) mf_l mr (fun _ => 0) ++ ([(al, .inl (cJ, 1, .inr (.inl (fun _ => 0))))])) hw hA [0, 1, 2, 3, 4, 5, 6, 7, 8, 9, 10, 11, 12, 13, 14, 15, 16, 17, 18, 19, 20, 21, 22, 23, 24, 25, 26, 27, 28, 29, 30] [31, 32, 33, 34, 35, 36, 37, 38, 39, 40, 41, 42, 43, 44, 45, 46, 47, 48, 49, 50, 51, 52, 53, 54, 55, 56, 57] rfl rfl (by decide) (by decide) (by decide) (hk_rV (As := [.int 1, .int (xs 3)]) (rest := []) ⟨hx, hb, hml, hown, hts⟩ hZ hw hA [0, 1, 2, 3, 4, 5, 6, 7, 8, 9, 10, 11, 12, 13, 14, 15, 16, 17, 18, 19, 20, 21, 22, 23, 24, 25, 26, 27, 28, 29, 30] rfl (by decide) (hk_toY (ct_check1 l D cI cJ ad fm ar (fun _ => 0) _ (xs 3))) (cwV 2 hts gl_ct_check1 rfl rfl rfl (by decide +kernel) ⟨Nat.le_of_ble_eq_true rfl, Nat.le_of_ble_eq_true rfl⟩) 0 (ci := 14) (T := TX11) (N := 11) rfl rfl rfl hl.1 rfl (Nat.le_of_ble_eq_true rfl) dL_law_557 ⟨Nat.le_of_ble_eq_true rfl, Nat.le_of_ble_eq_true rfl⟩) (fun r_1 u_2 H locs hp_3 hw => ?_)
  have hw : hk_W D [(cI, .int), (cJ, .long)] (fun q : Nat => s.heap.size ≤ q) s _ _ ((mw cI cJ md (mf_g fm) mf_l mr (fun _ => 0) ++ ([(al, .inl (cJ, 1, .inr (.inl (fun _ => 0))))])) ++ (xw cI cJ ad u_2.1 u_2.2.1 u_2.2.2.1 u_2.2.2.2)) := hw
  have hw : hk_W D [(cI, .int), (cJ, .long)] (fun q : Nat => s.heap.size ≤ q) s _ _ (mw cI cJ md (mf_g fm) mf_l mr (fun _ => 0) ++ ([(al, .inl (cJ, 1, .inr (.inl (fun _ => 0))))] ++ (xw cI cJ ad u_2.1 u_2.2.1 u_2.2.2.1 u_2.2.2.2))) := hk_cast (by simp only [List.append_assoc]) hw
  try dsimp only at hp_3
  refine lv_aload_n hx hb dL_law_560 rfl (lv_at hl 2 rfl) ?_
  refine lv_aload_n hx hb dL_law_561 rfl (lv_at hl 4 rfl) ?_
  refine lv_iload hx hb dL_law_562 (lv_at hl 0 rfl) ?_
  refine lv_iconst (v := 1) hx hb dL_law_564 (by decide) ?_
  refine lv_iadd hx hb dL_law_565 ?_
  refine hk_topi 2 (by decide +kernel) ?_
  refine va_sld hx hb hX hbl hbA hw.2.2.1 (show ¬ ((2 : Int32) < 0 ∨ 7 ≤ (2 : Int32).toNatClampNeg) by decide) dL_law_566 ?_
  refine hk_topi (xs 2) rfl ?_
  refine hk_topi 1 hk1 ?_
  refine lv_aload_n hx hb dL_law_567 rfl (lv_at hl 4 rfl) ?_
  refine lv_iload hx hb dL_law_568 (lv_at hl 0 rfl) ?_
  refine lv_iconst (v := 2) hx hb dL_law_570 (by decide) ?_
  refine lv_iadd hx hb dL_law_571 ?_
  refine hk_topi 3 (by decide +kernel) ?_
  refine va_sld hx hb hX hbl hbA hw.2.2.1 (show ¬ ((3 : Int32) < 0 ∨ 7 ≤ (3 : Int32).toNatClampNeg) by decide) dL_law_572 ?_
  refine hk_topi (xs 3) rfl ?_
  refine hk_pi (wc := mw cI cJ md (mf_g fm) mf_l mr (fun _ => 0)) (wr := [(al, .inl (cJ, 1, .inr (.inl (fun _ => 0))))] ++ (xw cI cJ ad u_2.1 u_2.2.1 u_2.2.2.1 u_2.2.2.2)) hw hA [0, 1, 2, 3, 4, 5, 6, 7, 8, 9, 10, 11, 12, 13, 14, 15, 16, 17, 18, 19, 20, 21, 22, 23, 24, 25] [26, 27, 28, 29, 30, 31, 32, 33, 34, 35, 36, 37, 38, 39, 40, 41, 42, 43, 44, 45, 46, 47, 48, 49, 50, 51, 52, 53, 54, 55, 56, 57] rfl rfl (by decide) (by decide) (by decide) (hk_rV (As := [.int 1, .int (xs 3)]) (rest := [.int r_1]) ⟨hx, hb, hml, hown, hts⟩ hZ hw hA [0, 1, 2, 3, 4, 5, 6, 7, 8, 9, 10, 11, 12, 13, 14, 15, 16, 17, 18, 19, 20, 21, 22, 23, 24, 25] rfl (by decide) (hk_toY (cm_check1 l D cI cJ md fm mr (fun _ => 0) _ (xs 3))) (cwV 2 hts gl_cm_check1 rfl rfl rfl (by decide +kernel) ⟨Nat.le_of_ble_eq_true rfl, Nat.le_of_ble_eq_true rfl⟩) 0 (ci := 15) (T := TX12) (N := 92) rfl rfl rfl hl.1 rfl (Nat.le_of_ble_eq_true rfl) dL_law_573 ⟨Nat.le_of_ble_eq_true rfl, Nat.le_of_ble_eq_true rfl⟩) (fun r_4 u_5 H locs hp_6 hw => ?_)
  have hw : hk_W D [(cI, .int), (cJ, .long)] (fun q : Nat => s.heap.size ≤ q) s _ _ (([(al, .inl (cJ, 1, .inr (.inl (fun _ => 0))))] ++ (xw cI cJ ad u_2.1 u_2.2.1 u_2.2.2.1 u_2.2.2.2)) ++ (mw cI cJ md u_5.1 u_5.2.1 u_5.2.2.1 u_5.2.2.2)) := hw
  have hw : hk_W D [(cI, .int), (cJ, .long)] (fun q : Nat => s.heap.size ≤ q) s _ _ ([(al, .inl (cJ, 1, .inr (.inl (fun _ => 0))))] ++ (xw cI cJ ad u_2.1 u_2.2.1 u_2.2.2.1 u_2.2.2.2 ++ (mw cI cJ md u_5.1 u_5.2.1 u_5.2.2.1 u_5.2.2.2))) := hk_cast (by simp only [List.append_assoc]) hw
  try dsimp only at hp_6
  refine lv_icmp_eq (tgt := 671) hx hb dL_law_576 (by decide) (fun _ => ?_) (fun cn => absurd (hp_3.trans hp_6.symm) cn)
  exact law_end hx hb hr hml hown hts hbl hlocks hX (Nat.le_of_ble_eq_true rfl) (Nat.le_of_ble_eq_true rfl) hw (lv_sub hl [0, 4] rfl)

set_option maxHeartbeats 4000000 in
set_option maxRecDepth 100000 in
/-- the law at one call: check -/
theorem law_c13_4 {p : Program} {e : Env} {s : State} {m : MethodId} {below : List Frame} {meth : Method} {c : Code} {l : Launch} {b : Nat} {xs : Nat → Int32} {D : va_G} {cI cJ : ClassId} {t3 : Nat × Nat × Nat} {ad md : Nat → Nat} {fm : Int32} {ar mr : Nat → Nat → Int32} {al : Nat} {H : Heap} {locs : List Loc} {ls : Array Slot} (hlt : l.stackTraces = false) (hx : p.tables.exec = Jvm.exec) (hb : c.code = code) (hr : meth.sig.returnType = ret) (hml : c.maxLocals = 7) (hown : s.vm.findClass RL = some m.cls) (hts : ∀ w ∈ lw_tbl, w.before #[Value.ref b] s = true) (hbl : b < s.heap.size) (hlocks : meth.locks = false) (hX : va_X b 7 xs s s.heap) (hZ : hk_YY t3 (fun q : Nat => s.heap.size ≤ q) s) (hw : hk_W D [(cI, .int), (cJ, .long)] (fun q : Nat => s.heap.size ≤ q) s H locs (xw cI cJ ad (xf_g fm) xf_l ar (fun _ => 0) ++ (mw cI cJ md (mf_g fm) mf_l mr (fun _ => 0) ++ [(al, .inl (cJ, 1, .inr (.inl (fun _ => 0))))]))) (hl : lv_has ls 7 [(4, .int 1), (3, .ref al), (2, .ref (md 0)), (1, .ref (ad 0)), (0, .ref b)]) (hk1 : xs 2 = 4) : W p l e room_1 s m #[Value.ref b] below meth c H locs 58 133226 (lw_Z below #[Value.ref b] s) (F0 m 544 ls []) := by
  have hA : ∀ q : Nat, s.heap.size ≤ q → (fun q : Nat => s.heap.size ≤ q) q := fun _ h => h
  have hbA : ¬ (fun q : Nat => s.heap.size ≤ q) b := Nat.not_le.mpr hbl
  refine lv_aload_n hx hb dL_law_544 rfl (lv_at hl 3 rfl) ?_
  refine lv_aload_n hx hb dL_law_545 rfl (lv_at hl 4 rfl) ?_
  refine lv_iload hx hb dL_law_546 (lv_at hl 0 rfl) ?_
  refine lv_iconst (v := 1) hx hb dL_law_548 (by decide) ?_
  refine lv_iadd hx hb dL_law_549 ?_
  refine hk_topi 2 (by decide +kernel) ?_
  refine va_sld hx hb hX hbl hbA hw.2.2.1 (show ¬ ((2 : Int32) < 0 ∨ 7 ≤ (2 : Int32).toNatClampNeg) by decide) dL_law_550 ?_
  refine hk_topi (xs 2) rfl ?_
  refine hk_topi 4 hk1 ?_
  refine lv_aload_n hx hb dL_law_551 rfl (lv_at hl 4 rfl) ?_
  refine lv_iload hx hb dL_law_552 (lv_at hl 0 rfl) ?_
  refine lv_iconst (v := 2) hx hb dL_law_554 (by decide) ?_
  refine lv_iadd hx hb dL_law_555 ?_
  refine hk_topi 3 (by decide +kernel) ?_
  refine va_sld hx hb hX hbl hbA hw.2.2.1 (show ¬ ((3 : Int32) < 0 ∨ 7 ≤ (3 : Int32).toNatClampNeg) by decide) dL_law_556 ?_
  refine hk_topi (xs 3) rfl ?_
  refine hk_pi (wc := xw cI cJ ad (xf_g fm) xf_l ar (fun _ => 0)) (wr := mw cI cJ md (mf_g fm) mf_l mr (fun _ => 0) ++ ([(al, .inl (cJ, 1, .inr (.inl (fun _ => 0))))])) hw hA [0, 1, 2, 3, 4, 5, 6, 7, 8, 9, 10, 11, 12, 13, 14, 15, 16, 17, 18, 19, 20, 21, 22, 23, 24, 25, 26, 27, 28, 29, 30] [31, 32, 33, 34, 35, 36, 37, 38, 39, 40, 41, 42, 43, 44, 45, 46, 47, 48, 49, 50, 51, 52, 53, 54, 55, 56, 57] rfl rfl (by decide) (by decide) (by decide) (hk_rV (As := [.int 4, .int (xs 3)]) (rest := []) ⟨hx, hb, hml, hown, hts⟩ hZ hw hA [0, 1, 2, 3, 4, 5, 6, 7, 8, 9, 10, 11, 12, 13, 14, 15, 16, 17, 18, 19, 20, 21, 22, 23, 24, 25, 26, 27, 28, 29, 30] rfl (by decide) (hk_toY (ct_check4 l D cI cJ ad fm ar (fun _ => 0) _ (xs 3))) (cwV 2 hts gl_ct_check4 rfl rfl rfl (by decide +kernel) ⟨Nat.le_of_ble_eq_true rfl, Nat.le_of_ble_eq_true rfl⟩) 0 (ci := 14) (T := TX11) (N := 11) rfl rfl rfl hl.1 rfl (Nat.le_of_ble_eq_true rfl) dL_law_557 ⟨Nat.le_of_ble_eq_true rfl, Nat.le_of_ble_eq_true rfl⟩) (fun r_1 u_2 H locs hp_3 hw => ?_)
  have hw : hk_W D [(cI, .int), (cJ, .long)] (fun q : Nat => s.heap.size ≤ q) s _ _ ((mw cI cJ md (mf_g fm) mf_l mr (fun _ => 0) ++ ([(al, .inl (cJ, 1, .inr (.inl (fun _ => 0))))])) ++ (xw cI cJ ad u_2.1 u_2.2.1 u_2.2.2.1 u_2.2.2.2)) := hw
  have hw : hk_W D [(cI, .int), (cJ, .long)] (fun q : Nat => s.heap.size ≤ q) s _ _ (mw cI cJ md (mf_g fm) mf_l mr (fun _ => 0) ++ ([(al, .inl (cJ, 1, .inr (.inl (fun _ => 0))))] ++ (xw cI cJ ad u_2.1 u_2.2.1 u_2.2.2.1 u_2.2.2.2))) := hk_cast (by simp only [List.append_assoc]) hw
  try dsimp only at hp_3
  refine lv_aload_n hx hb dL_law_560 rfl (lv_at hl 2 rfl) ?_
  refine lv_aload_n hx hb dL_law_561 rfl (lv_at hl 4 rfl) ?_
  refine lv_iload hx hb dL_law_562 (lv_at hl 0 rfl) ?_
  refine lv_iconst (v := 1) hx hb dL_law_564 (by decide) ?_
  refine lv_iadd hx hb dL_law_565 ?_
  refine hk_topi 2 (by decide +kernel) ?_
  refine va_sld hx hb hX hbl hbA hw.2.2.1 (show ¬ ((2 : Int32) < 0 ∨ 7 ≤ (2 : Int32).toNatClampNeg) by decide) dL_law_566 ?_
  refine hk_topi (xs 2) rfl ?_
  refine hk_topi 4 hk1 ?_
  refine lv_aload_n hx hb dL_law_567 rfl (lv_at hl 4 rfl) ?_
  refine lv_iload hx hb dL_law_568 (lv_at hl 0 rfl) ?_
  refine lv_iconst (v := 2) hx hb dL_law_570 (by decide) ?_
  refine lv_iadd hx hb dL_law_571 ?_
  refine hk_topi 3 (by decide +kernel) ?_
  refine va_sld hx hb hX hbl hbA hw.2.2.1 (show ¬ ((3 : Int32) < 0 ∨ 7 ≤ (3 : Int32).toNatClampNeg) by decide) dL_law_572 ?_
  refine hk_topi (xs 3) rfl ?_
  refine hk_pi (wc := mw cI cJ md (mf_g fm) mf_l mr (fun _ => 0)) (wr := [(al, .inl (cJ, 1, .inr (.inl (fun _ => 0))))] ++ (xw cI cJ ad u_2.1 u_2.2.1 u_2.2.2.1 u_2.2.2.2)) hw hA [0, 1, 2, 3, 4, 5, 6, 7, 8, 9, 10, 11, 12, 13, 14, 15, 16, 17, 18, 19, 20, 21, 22, 23, 24, 25] [26, 27, 28, 29, 30, 31, 32, 33, 34, 35, 36, 37, 38, 39, 40, 41, 42, 43, 44, 45, 46, 47, 48, 49, 50, 51, 52, 53, 54, 55, 56, 57] rfl rfl (by decide) (by decide) (by decide) (hk_rV (As := [.int 4, .int (xs 3)]) (rest := [.int r_1]) ⟨hx, hb, hml, hown, hts⟩ hZ hw hA [0, 1, 2, 3, 4, 5, 6, 7, 8, 9, 10, 11, 12, 13, 14, 15, 16, 17, 18, 19, 20, 21, 22, 23, 24, 25] rfl (by decide) (hk_toY (cm_check4 l D cI cJ md fm mr (fun _ => 0) _ (xs 3))) (cwV 2 hts gl_cm_check4 rfl rfl rfl (by decide +kernel) ⟨Nat.le_of_ble_eq_true rfl, Nat.le_of_ble_eq_true rfl⟩) 0 (ci := 15) (T := TX12) (N := 92) rfl rfl rfl hl.1 rfl (Nat.le_of_ble_eq_true rfl) dL_law_573 ⟨Nat.le_of_ble_eq_true rfl, Nat.le_of_ble_eq_true rfl⟩) (fun r_4 u_5 H locs hp_6 hw => ?_)
  have hw : hk_W D [(cI, .int), (cJ, .long)] (fun q : Nat => s.heap.size ≤ q) s _ _ (([(al, .inl (cJ, 1, .inr (.inl (fun _ => 0))))] ++ (xw cI cJ ad u_2.1 u_2.2.1 u_2.2.2.1 u_2.2.2.2)) ++ (mw cI cJ md u_5.1 u_5.2.1 u_5.2.2.1 u_5.2.2.2)) := hw
  have hw : hk_W D [(cI, .int), (cJ, .long)] (fun q : Nat => s.heap.size ≤ q) s _ _ ([(al, .inl (cJ, 1, .inr (.inl (fun _ => 0))))] ++ (xw cI cJ ad u_2.1 u_2.2.1 u_2.2.2.1 u_2.2.2.2 ++ (mw cI cJ md u_5.1 u_5.2.1 u_5.2.2.1 u_5.2.2.2))) := hk_cast (by simp only [List.append_assoc]) hw
  try dsimp only at hp_6
  refine lv_icmp_eq (tgt := 671) hx hb dL_law_576 (by decide) (fun _ => ?_) (fun cn => absurd (hp_3.trans hp_6.symm) cn)
  exact law_end hx hb hr hml hown hts hbl hlocks hX (Nat.le_of_ble_eq_true rfl) (Nat.le_of_ble_eq_true rfl) hw (lv_sub hl [0, 4] rfl)

set_option maxHeartbeats 4000000 in
set_option maxRecDepth 100000 in
/-- the law at one call: check -/
theorem law_c13_10 {p : Program} {e : Env} {s : State} {m : MethodId} {below : List Frame} {meth : Method} {c : Code} {l : Launch} {b : Nat} {xs : Nat → Int32} {D : va_G} {cI cJ : ClassId} {t3 : Nat × Nat × Nat} {ad md : Nat → Nat} {fm : Int32} {ar mr : Nat → Nat → Int32} {al : Nat} {H : Heap} {locs : List Loc} {ls : Array Slot} (hlt : l.stackTraces = false) (hx : p.tables.exec = Jvm.exec) (hb : c.code = code) (hr : meth.sig.returnType = ret) (hml : c.maxLocals = 7) (hown : s.vm.findClass RL = some m.cls) (hts : ∀ w ∈ lw_tbl, w.before #[Value.ref b] s = true) (hbl : b < s.heap.size) (hlocks : meth.locks = false) (hX : va_X b 7 xs s s.heap) (hZ : hk_YY t3 (fun q : Nat => s.heap.size ≤ q) s) (hw : hk_W D [(cI, .int), (cJ, .long)] (fun q : Nat => s.heap.size ≤ q) s H locs (xw cI cJ ad (xf_g fm) xf_l ar (fun _ => 0) ++ (mw cI cJ md (mf_g fm) mf_l mr (fun _ => 0) ++ [(al, .inl (cJ, 1, .inr (.inl (fun _ => 0))))]))) (hl : lv_has ls 7 [(4, .int 1), (3, .ref al), (2, .ref (md 0)), (1, .ref (ad 0)), (0, .ref b)]) (hk1 : xs 2 = 10) : W p l e room_1 s m #[Value.ref b] below meth c H locs 58 133226 (lw_Z below #[Value.ref b] s) (F0 m 544 ls []) := by
  have hA : ∀ q : Nat, s.heap.size ≤ q → (fun q : Nat => s.heap.size ≤ q) q := fun _ h => h
  have hbA : ¬ (fun q : Nat => s.heap.size ≤ q) b := Nat.not_le.mpr hbl
  refine lv_aload_n hx hb dL_law_544 rfl (lv_at hl 3 rfl) ?_
  refine lv_aload_n hx hb dL_law_545 rfl (lv_at hl 4 rfl) ?_
  refine lv_iload hx hb dL_law_546 (lv_at hl 0 rfl) ?_
  refine lv_iconst (v := 1) hx hb dL_law_548 (by decide) ?_
  refine lv_iadd hx hb dL_law_549 ?_
  refine hk_topi 2 (by decide +kernel) ?_
  refine va_sld hx hb hX hbl hbA hw.2.2.1 (show ¬ ((2 : Int32) < 0 ∨ 7 ≤ (2 : Int32).toNatClampNeg) by decide) dL_law_550 ?_
  refine hk_topi (xs 2) rfl ?_
  refine hk_topi 10 hk1 ?_
  refine lv_aload_n hx hb dL_law_551 rfl (lv_at hl 4 rfl) ?_
  refine lv_iload hx hb dL_law_552 (lv_at hl 0 rfl) ?_
  refine lv_iconst (v := 2) hx hb dL_law_554 (by decide) ?_
  refine lv_iadd hx hb dL_law_555 ?_
  refine hk_topi 3 (by decide +kernel) ?_
  refine va_sld hx hb hX hbl hbA hw.2.2.1 (show ¬ ((3 : Int32) < 0 ∨ 7 ≤ (3 : Int32).toNatClampNeg) by decide) dL_law_556 ?_
  refine hk_topi (xs 3) rfl ?_
  refine hk_pi (wc := xw cI cJ ad (xf_g fm) xf_l ar (fun _ => 0)) (wr := mw cI cJ md (mf_g fm) mf_l mr (fun _ => 0) ++ ([(al, .inl (cJ, 1, .inr (.inl (fun _ => 0))))])) hw hA [0, 1, 2, 3, 4, 5, 6, 7, 8, 9, 10, 11, 12, 13, 14, 15, 16, 17, 18, 19, 20, 21, 22, 23, 24, 25, 26, 27, 28, 29, 30] [31, 32, 33, 34, 35, 36, 37, 38, 39, 40, 41, 42, 43, 44, 45, 46, 47, 48, 49, 50, 51, 52, 53, 54, 55, 56, 57] rfl rfl (by decide) (by decide) (by decide) (hk_rV (As := [.int 10, .int (xs 3)]) (rest := []) ⟨hx, hb, hml, hown, hts⟩ hZ hw hA [0, 1, 2, 3, 4, 5, 6, 7, 8, 9, 10, 11, 12, 13, 14, 15, 16, 17, 18, 19, 20, 21, 22, 23, 24, 25, 26, 27, 28, 29, 30] rfl (by decide) (ct_check10 l t3 D cI cJ ad fm ar (fun _ => 0) _ (xs 3)) (cwV 2 hts gl_ct_check10 rfl rfl rfl (by decide +kernel) ⟨Nat.le_of_ble_eq_true rfl, Nat.le_of_ble_eq_true rfl⟩) 0 (ci := 14) (T := TX11) (N := 11) rfl rfl rfl hl.1 rfl (Nat.le_of_ble_eq_true rfl) dL_law_557 ⟨Nat.le_of_ble_eq_true rfl, Nat.le_of_ble_eq_true rfl⟩) (fun r_1 u_2 H locs hp_3 hw => ?_)
  have hw : hk_W D [(cI, .int), (cJ, .long)] (fun q : Nat => s.heap.size ≤ q) s _ _ ((mw cI cJ md (mf_g fm) mf_l mr (fun _ => 0) ++ ([(al, .inl (cJ, 1, .inr (.inl (fun _ => 0))))])) ++ (xw cI cJ ad u_2.1 u_2.2.1 u_2.2.2.1 u_2.2.2.2)) := hw
  have hw : hk_W D [(cI, .int), (cJ, .long)] (fun q : Nat => s.heap.size ≤ q) s _ _ (mw cI cJ md (mf_g fm) mf_l mr (fun _ => 0) ++ ([(al, .inl (cJ, 1, .inr (.inl (fun _ => 0))))] ++ (xw cI cJ ad u_2.1 u_2.2.1 u_2.2.2.1 u_2.2.2.2))) := hk_cast (by simp only [List.append_assoc]) hw
  try dsimp only at hp_3
  refine lv_aload_n hx hb dL_law_560 rfl (lv_at hl 2 rfl) ?_
  refine lv_aload_n hx hb dL_law_561 rfl (lv_at hl 4 rfl) ?_
  refine lv_iload hx hb dL_law_562 (lv_at hl 0 rfl) ?_
  refine lv_iconst (v := 1) hx hb dL_law_564 (by decide) ?_
  refine lv_iadd hx hb dL_law_565 ?_
  refine hk_topi 2 (by decide +kernel) ?_
  refine va_sld hx hb hX hbl hbA hw.2.2.1 (show ¬ ((2 : Int32) < 0 ∨ 7 ≤ (2 : Int32).toNatClampNeg) by decide) dL_law_566 ?_
  refine hk_topi (xs 2) rfl ?_
  refine hk_topi 10 hk1 ?_
  refine lv_aload_n hx hb dL_law_567 rfl (lv_at hl 4 rfl) ?_
  refine lv_iload hx hb dL_law_568 (lv_at hl 0 rfl) ?_
  refine lv_iconst (v := 2) hx hb dL_law_570 (by decide) ?_
  refine lv_iadd hx hb dL_law_571 ?_
  refine hk_topi 3 (by decide +kernel) ?_
  refine va_sld hx hb hX hbl hbA hw.2.2.1 (show ¬ ((3 : Int32) < 0 ∨ 7 ≤ (3 : Int32).toNatClampNeg) by decide) dL_law_572 ?_
  refine hk_topi (xs 3) rfl ?_
  refine hk_pi (wc := mw cI cJ md (mf_g fm) mf_l mr (fun _ => 0)) (wr := [(al, .inl (cJ, 1, .inr (.inl (fun _ => 0))))] ++ (xw cI cJ ad u_2.1 u_2.2.1 u_2.2.2.1 u_2.2.2.2)) hw hA [0, 1, 2, 3, 4, 5, 6, 7, 8, 9, 10, 11, 12, 13, 14, 15, 16, 17, 18, 19, 20, 21, 22, 23, 24, 25] [26, 27, 28, 29, 30, 31, 32, 33, 34, 35, 36, 37, 38, 39, 40, 41, 42, 43, 44, 45, 46, 47, 48, 49, 50, 51, 52, 53, 54, 55, 56, 57] rfl rfl (by decide) (by decide) (by decide) (hk_rV (As := [.int 10, .int (xs 3)]) (rest := [.int r_1]) ⟨hx, hb, hml, hown, hts⟩ hZ hw hA [0, 1, 2, 3, 4, 5, 6, 7, 8, 9, 10, 11, 12, 13, 14, 15, 16, 17, 18, 19, 20, 21, 22, 23, 24, 25] rfl (by decide) (cm_check10 l t3 D cI cJ md fm mr (fun _ => 0) _ (xs 3)) (cwV 2 hts gl_cm_check10 rfl rfl rfl (by decide +kernel) ⟨Nat.le_of_ble_eq_true rfl, Nat.le_of_ble_eq_true rfl⟩) 0 (ci := 15) (T := TX12) (N := 92) rfl rfl rfl hl.1 rfl (Nat.le_of_ble_eq_true rfl) dL_law_573 ⟨Nat.le_of_ble_eq_true rfl, Nat.le_of_ble_eq_true rfl⟩) (fun r_4 u_5 H locs hp_6 hw => ?_)
  have hw : hk_W D [(cI, .int), (cJ, .long)] (fun q : Nat => s.heap.size ≤ q) s _ _ (([(al, .inl (cJ, 1, .inr (.inl (fun _ => 0))))] ++ (xw cI cJ ad u_2.1 u_2.2.1 u_2.2.2.1 u_2.2.2.2)) ++ (mw cI cJ md u_5.1 u_5.2.1 u_5.2.2.1 u_5.2.2.2)) := hw
  have hw : hk_W D [(cI, .int), (cJ, .long)] (fun q : Nat => s.heap.size ≤ q) s _ _ ([(al, .inl (cJ, 1, .inr (.inl (fun _ => 0))))] ++ (xw cI cJ ad u_2.1 u_2.2.1 u_2.2.2.1 u_2.2.2.2 ++ (mw cI cJ md u_5.1 u_5.2.1 u_5.2.2.1 u_5.2.2.2))) := hk_cast (by simp only [List.append_assoc]) hw
  try dsimp only at hp_6
  refine lv_icmp_eq (tgt := 671) hx hb dL_law_576 (by decide) (fun _ => ?_) (fun cn => absurd (hp_3.trans hp_6.symm) cn)
  exact law_end hx hb hr hml hown hts hbl hlocks hX (Nat.le_of_ble_eq_true rfl) (Nat.le_of_ble_eq_true rfl) hw (lv_sub hl [0, 4] rfl)

set_option maxHeartbeats 4000000 in
set_option maxRecDepth 100000 in
/-- the law at one call: check -/
theorem law_c13_N {p : Program} {e : Env} {s : State} {m : MethodId} {below : List Frame} {meth : Method} {c : Code} {l : Launch} {b : Nat} {xs : Nat → Int32} {D : va_G} {cI cJ : ClassId} {t3 : Nat × Nat × Nat} {ad md : Nat → Nat} {fm : Int32} {ar mr : Nat → Nat → Int32} {al : Nat} {H : Heap} {locs : List Loc} {ls : Array Slot} (hlt : l.stackTraces = false) (hx : p.tables.exec = Jvm.exec) (hb : c.code = code) (hr : meth.sig.returnType = ret) (hml : c.maxLocals = 7) (hown : s.vm.findClass RL = some m.cls) (hts : ∀ w ∈ lw_tbl, w.before #[Value.ref b] s = true) (hbl : b < s.heap.size) (hlocks : meth.locks = false) (hX : va_X b 7 xs s s.heap) (hZ : hk_YY t3 (fun q : Nat => s.heap.size ≤ q) s) (hw : hk_W D [(cI, .int), (cJ, .long)] (fun q : Nat => s.heap.size ≤ q) s H locs (xw cI cJ ad (xf_g fm) xf_l ar (fun _ => 0) ++ (mw cI cJ md (mf_g fm) mf_l mr (fun _ => 0) ++ [(al, .inl (cJ, 1, .inr (.inl (fun _ => 0))))]))) (hl : lv_has ls 7 [(4, .int 1), (3, .ref al), (2, .ref (md 0)), (1, .ref (ad 0)), (0, .ref b)]) (hk1 : (xs 2).toInt ≠ 1) (hk4 : (xs 2).toInt ≠ 4) (hk10 : (xs 2).toInt ≠ 10) : W p l e room_1 s m #[Value.ref b] below meth c H locs 58 133226 (lw_Z below #[Value.ref b] s) (F0 m 544 ls []) := by
  have hA : ∀ q : Nat, s.heap.size ≤ q → (fun q : Nat => s.heap.size ≤ q) q := fun _ h => h
  have hbA : ¬ (fun q : Nat => s.heap.size ≤ q) b := Nat.not_le.mpr hbl
  refine lv_aload_n hx hb dL_law_544 rfl (lv_at hl 3 rfl) ?_
  refine lv_aload_n hx hb dL_law_545 rfl (lv_at hl 4 rfl) ?_
  refine lv_iload hx hb dL_law_546 (lv_at hl 0 rfl) ?_
  refine lv_iconst (v := 1) hx hb dL_law_548 (by decide) ?_
  refine lv_iadd hx hb dL_law_549 ?_
  refine hk_topi 2 (by decide +kernel) ?_
  refine va_sld hx hb hX hbl hbA hw.2.2.1 (show ¬ ((2 : Int32) < 0 ∨ 7 ≤ (2 : Int32).toNatClampNeg) by decide) dL_law_550 ?_
  refine hk_topi (xs 2) rfl ?_
  refine lv_aload_n hx hb dL_law_551 rfl (lv_at hl 4 rfl) ?_
  refine lv_iload hx hb dL_law_552 (lv_at hl 0 rfl) ?_
  refine lv_iconst (v := 2) hx hb dL_law_554 (by decide) ?_
  refine lv_iadd hx hb dL_law_555 ?_
  refine hk_topi 3 (by decide +kernel) ?_
  refine va_sld hx hb hX hbl hbA hw.2.2.1 (show ¬ ((3 : Int32) < 0 ∨ 7 ≤ (3 : Int32).toNatClampNeg) by decide) dL_law_556 ?_
  refine hk_topi (xs 3) rfl ?_
  refine hk_pi (wc := xw cI cJ ad (xf_g fm) xf_l ar (fun _ => 0)) (wr := mw cI cJ md (mf_g fm) mf_l mr (fun _ => 0) ++ ([(al, .inl (cJ, 1, .inr (.inl (fun _ => 0))))])) hw hA [0, 1, 2, 3, 4, 5, 6, 7, 8, 9, 10, 11, 12, 13, 14, 15, 16, 17, 18, 19, 20, 21, 22, 23, 24, 25, 26, 27, 28, 29, 30] [31, 32, 33, 34, 35, 36, 37, 38, 39, 40, 41, 42, 43, 44, 45, 46, 47, 48, 49, 50, 51, 52, 53, 54, 55, 56, 57] rfl rfl (by decide) (by decide) (by decide) (hk_rV (As := [.int (xs 2), .int (xs 3)]) (rest := []) ⟨hx, hb, hml, hown, hts⟩ hZ hw hA [0, 1, 2, 3, 4, 5, 6, 7, 8, 9, 10, 11, 12, 13, 14, 15, 16, 17, 18, 19, 20, 21, 22, 23, 24, 25, 26, 27, 28, 29, 30] rfl (by decide) (hk_toY (ct_checkN l D cI cJ ad fm ar (fun _ => 0) _ (xs 2) (xs 3) hk1 hk4 hk10)) (cwV 2 hts gl_ct_checkN rfl rfl rfl (by decide +kernel) ⟨Nat.le_of_ble_eq_true rfl, Nat.le_of_ble_eq_true rfl⟩) 0 (ci := 14) (T := TX11) (N := 11) rfl rfl rfl hl.1 rfl (Nat.le_of_ble_eq_true rfl) dL_law_557 ⟨Nat.le_of_ble_eq_true rfl, Nat.le_of_ble_eq_true rfl⟩) (fun r_1 u_2 H locs hp_3 hw => ?_)
  have hw : hk_W D [(cI, .int), (cJ, .long)] (fun q : Nat => s.heap.size ≤ q) s _ _ ((mw cI cJ md (mf_g fm) mf_l mr (fun _ => 0) ++ ([(al, .inl (cJ, 1, .inr (.inl (fun _ => 0))))])) ++ (xw cI cJ ad u_2.1 u_2.2.1 u_2.2.2.1 u_2.2.2.2)) := hw
  have hw : hk_W D [(cI, .int), (cJ, .long)] (fun q : Nat => s.heap.size ≤ q) s _ _ (mw cI cJ md (mf_g fm) mf_l mr (fun _ => 0) ++ ([(al, .inl (cJ, 1, .inr (.inl (fun _ => 0))))] ++ (xw cI cJ ad u_2.1 u_2.2.1 u_2.2.2.1 u_2.2.2.2))) := hk_cast (by simp only [List.append_assoc]) hw
  try dsimp only at hp_3
  refine lv_aload_n hx hb dL_law_560 rfl (lv_at hl 2 rfl) ?_
  refine lv_aload_n hx hb dL_law_561 rfl (lv_at hl 4 rfl) ?_
  refine lv_iload hx hb dL_law_562 (lv_at hl 0 rfl) ?_
  refine lv_iconst (v := 1) hx hb dL_law_564 (by decide) ?_
  refine lv_iadd hx hb dL_law_565 ?_
  refine hk_topi 2 (by decide +kernel) ?_
  refine va_sld hx hb hX hbl hbA hw.2.2.1 (show ¬ ((2 : Int32) < 0 ∨ 7 ≤ (2 : Int32).toNatClampNeg) by decide) dL_law_566 ?_
  refine hk_topi (xs 2) rfl ?_
  refine lv_aload_n hx hb dL_law_567 rfl (lv_at hl 4 rfl) ?_
  refine lv_iload hx hb dL_law_568 (lv_at hl 0 rfl) ?_
  refine lv_iconst (v := 2) hx hb dL_law_570 (by decide) ?_
  refine lv_iadd hx hb dL_law_571 ?_
  refine hk_topi 3 (by decide +kernel) ?_
  refine va_sld hx hb hX hbl hbA hw.2.2.1 (show ¬ ((3 : Int32) < 0 ∨ 7 ≤ (3 : Int32).toNatClampNeg) by decide) dL_law_572 ?_
  refine hk_topi (xs 3) rfl ?_
  refine hk_pi (wc := mw cI cJ md (mf_g fm) mf_l mr (fun _ => 0)) (wr := [(al, .inl (cJ, 1, .inr (.inl (fun _ => 0))))] ++ (xw cI cJ ad u_2.1 u_2.2.1 u_2.2.2.1 u_2.2.2.2)) hw hA [0, 1, 2, 3, 4, 5, 6, 7, 8, 9, 10, 11, 12, 13, 14, 15, 16, 17, 18, 19, 20, 21, 22, 23, 24, 25] [26, 27, 28, 29, 30, 31, 32, 33, 34, 35, 36, 37, 38, 39, 40, 41, 42, 43, 44, 45, 46, 47, 48, 49, 50, 51, 52, 53, 54, 55, 56, 57] rfl rfl (by decide) (by decide) (by decide) (hk_rV (As := [.int (xs 2), .int (xs 3)]) (rest := [.int r_1]) ⟨hx, hb, hml, hown, hts⟩ hZ hw hA [0, 1, 2, 3, 4, 5, 6, 7, 8, 9, 10, 11, 12, 13, 14, 15, 16, 17, 18, 19, 20, 21, 22, 23, 24, 25] rfl (by decide) (hk_toY (cm_checkN l D cI cJ md fm mr (fun _ => 0) _ (xs 2) (xs 3) hk1 hk4 hk10)) (cwV 2 hts gl_cm_checkN rfl rfl rfl (by decide +kernel) ⟨Nat.le_of_ble_eq_true rfl, Nat.le_of_ble_eq_true rfl⟩) 0 (ci := 15) (T := TX12) (N := 92) rfl rfl rfl hl.1 rfl (Nat.le_of_ble_eq_true rfl) dL_law_573 ⟨Nat.le_of_ble_eq_true rfl, Nat.le_of_ble_eq_true rfl⟩) (fun r_4 u_5 H locs hp_6 hw => ?_)
  have hw : hk_W D [(cI, .int), (cJ, .long)] (fun q : Nat => s.heap.size ≤ q) s _ _ (([(al, .inl (cJ, 1, .inr (.inl (fun _ => 0))))] ++ (xw cI cJ ad u_2.1 u_2.2.1 u_2.2.2.1 u_2.2.2.2)) ++ (mw cI cJ md u_5.1 u_5.2.1 u_5.2.2.1 u_5.2.2.2)) := hw
  have hw : hk_W D [(cI, .int), (cJ, .long)] (fun q : Nat => s.heap.size ≤ q) s _ _ ([(al, .inl (cJ, 1, .inr (.inl (fun _ => 0))))] ++ (xw cI cJ ad u_2.1 u_2.2.1 u_2.2.2.1 u_2.2.2.2 ++ (mw cI cJ md u_5.1 u_5.2.1 u_5.2.2.1 u_5.2.2.2))) := hk_cast (by simp only [List.append_assoc]) hw
  try dsimp only at hp_6
  refine lv_icmp_eq (tgt := 671) hx hb dL_law_576 (by decide) (fun _ => ?_) (fun cn => absurd (hp_3.trans hp_6.symm) cn)
  exact law_end hx hb hr hml hown hts hbl hlocks hX (Nat.le_of_ble_eq_true rfl) (Nat.le_of_ble_eq_true rfl) hw (lv_sub hl [0, 4] rfl)

set_option maxHeartbeats 4000000 in
set_option maxRecDepth 100000 in
/-- the law at one call: turn -/
theorem law_c14 {p : Program} {e : Env} {s : State} {m : MethodId} {below : List Frame} {meth : Method} {c : Code} {l : Launch} {b : Nat} {xs : Nat → Int32} {D : va_G} {cI cJ : ClassId} {t3 : Nat × Nat × Nat} {ad md : Nat → Nat} {fm : Int32} {ar mr : Nat → Nat → Int32} {al : Nat} {H : Heap} {locs : List Loc} {ls : Array Slot} (hlt : l.stackTraces = false) (hx : p.tables.exec = Jvm.exec) (hb : c.code = code) (hr : meth.sig.returnType = ret) (hml : c.maxLocals = 7) (hown : s.vm.findClass RL = some m.cls) (hts : ∀ w ∈ lw_tbl, w.before #[Value.ref b] s = true) (hbl : b < s.heap.size) (hlocks : meth.locks = false) (hX : va_X b 7 xs s s.heap) (hZ : hk_YY t3 (fun q : Nat => s.heap.size ≤ q) s) (hw : hk_W D [(cI, .int), (cJ, .long)] (fun q : Nat => s.heap.size ≤ q) s H locs (xw cI cJ ad (xf_g fm) xf_l ar (fun _ => 0) ++ (mw cI cJ md (mf_g fm) mf_l mr (fun _ => 0) ++ [(al, .inl (cJ, 1, .inr (.inl (fun _ => 0))))]))) (hl : lv_has ls 7 [(4, .int 1), (3, .ref al), (2, .ref (md 0)), (1, .ref (ad 0)), (0, .ref b)]) : W p l e room_1 s m #[Value.ref b] below meth c H locs 58 133226 (lw_Z below #[Value.ref b] s) (F0 m 581 ls []) := by
  have hA : ∀ q : Nat, s.heap.size ≤ q → (fun q : Nat => s.heap.size ≤ q) q := fun _ h => h
  have hbA : ¬ (fun q : Nat => s.heap.size ≤ q) b := Nat.not_le.mpr hbl
  refine lv_aload_n hx hb dL_law_581 rfl (lv_at hl 3 rfl) ?_
  refine lv_aload_n hx hb dL_law_582 rfl (lv_at hl 4 rfl) ?_
  refine lv_iload hx hb dL_law_583 (lv_at hl 0 rfl) ?_
  refine lv_iconst (v := 1) hx hb dL_law_585 (by decide) ?_
  refine lv_iadd hx hb dL_law_586 ?_
  refine hk_topi 2 (by decide +kernel) ?_
  refine va_sld hx hb hX hbl hbA hw.2.2.1 (show ¬ ((2 : Int32) < 0 ∨ 7 ≤ (2 : Int32).toNatClampNeg) by decide) dL_law_587 ?_
  refine hk_topi (xs 2) rfl ?_
  refine lv_aload_n hx hb dL_law_588 rfl (lv_at hl 4 rfl) ?_
  refine lv_iload hx hb dL_law_589 (lv_at hl 0 rfl) ?_
  refine lv_iconst (v := 2) hx hb dL_law_591 (by decide) ?_
  refine lv_iadd hx hb dL_law_592 ?_
  refine hk_topi 3 (by decide +kernel) ?_
  refine va_sld hx hb hX hbl hbA hw.2.2.1 (show ¬ ((3 : Int32) < 0 ∨ 7 ≤ (3 : Int32).toNatClampNeg) by decide) dL_law_593 ?_
  refine hk_topi (xs 3) rfl ?_
  refine lv_aload_n hx hb dL_law_594 rfl (lv_at hl 4 rfl) ?_
  refine lv_iload hx hb dL_law_595 (lv_at hl 0 rfl) ?_
  refine lv_iconst (v := 3) hx hb dL_law_597 (by decide) ?_
  refine lv_iadd hx hb dL_law_598 ?_
  refine hk_topi 4 (by decide +kernel) ?_
  refine va_sld hx hb hX hbl hbA hw.2.2.1 (show ¬ ((4 : Int32) < 0 ∨ 7 ≤ (4 : Int32).toNatClampNeg) by decide) dL_law_599 ?_
  refine hk_topi (xs 4) rfl ?_
  refine lv_if_eq (tgt := 607) hx hb dL_law_600 (by decide) (fun cc_1 => ?_) (fun cc_1 => ?_)
  · refine lv_iconst (v := 0) hx hb dL_law_607 (by decide) ?_
    refine hk_pi (wc := xw cI cJ ad (xf_g fm) xf_l ar (fun _ => 0)) (wr := mw cI cJ md (mf_g fm) mf_l mr (fun _ => 0) ++ ([(al, .inl (cJ, 1, .inr (.inl (fun _ => 0))))])) hw hA [0, 1, 2, 3, 4, 5, 6, 7, 8, 9, 10, 11, 12, 13, 14, 15, 16, 17, 18, 19, 20, 21, 22, 23, 24, 25, 26, 27, 28, 29, 30] [31, 32, 33, 34, 35, 36, 37, 38, 39, 40, 41, 42, 43, 44, 45, 46, 47, 48, 49, 50, 51, 52, 53, 54, 55, 56, 57] rfl rfl (by decide) (by decide) (by decide) (hk_rV (As := [.int (xs 2), .int (xs 3), .int 0]) (rest := []) ⟨hx, hb, hml, hown, hts⟩ hZ hw hA [0, 1, 2, 3, 4, 5, 6, 7, 8, 9, 10, 11, 12, 13, 14, 15, 16, 17, 18, 19, 20, 21, 22, 23, 24, 25, 26, 27, 28, 29, 30] rfl (by decide) (hk_toY (ct_turn l D cI cJ ad fm ar (fun _ => 0) _ (xs 2) (xs 3) 0)) (cwV 3 hts gl_ct_turn rfl rfl rfl (by decide +kernel) ⟨Nat.le_of_ble_eq_true rfl, Nat.le_of_ble_eq_true rfl⟩) 0 (ci := 14) (T := TX11) (N := 11) rfl rfl rfl hl.1 rfl (Nat.le_of_ble_eq_true rfl) dL_law_608 ⟨Nat.le_of_ble_eq_true rfl, Nat.le_of_ble_eq_true rfl⟩) (fun r_2 u_3 H locs hp_4 hw => ?_)
    have hw : hk_W D [(cI, .int), (cJ, .long)] (fun q : Nat => s.heap.size ≤ q) s _ _ ((mw cI cJ md (mf_g fm) mf_l mr (fun _ => 0) ++ ([(al, .inl (cJ, 1, .inr (.inl (fun _ => 0))))])) ++ (xw cI cJ ad u_3.1 u_3.2.1 u_3.2.2.1 u_3.2.2.2)) := hw
    have hw : hk_W D [(cI, .int), (cJ, .long)] (fun q : Nat => s.heap.size ≤ q) s _ _ (mw cI cJ md (mf_g fm) mf_l mr (fun _ => 0) ++ ([(al, .inl (cJ, 1, .inr (.inl (fun _ => 0))))] ++ (xw cI cJ ad u_3.1 u_3.2.1 u_3.2.2.1 u_3.2.2.2))) := hk_cast (by simp only [List.append_assoc]) hw
    try dsimp only at hp_4
    refine lv_aload_n hx hb dL_law_611 rfl (lv_at hl 2 rfl) ?_
    refine lv_aload_n hx hb dL_law_612 rfl (lv_at hl 4 rfl) ?_
    refine lv_iload hx hb dL_law_613 (lv_at hl 0 rfl) ?_
    refine lv_iconst (v := 1) hx hb dL_law_615 (by decide) ?_
    refine lv_iadd hx hb dL_law_616 ?_
    refine hk_topi 2 (by decide +kernel) ?_
    refine va_sld hx hb hX hbl hbA hw.2.2.1 (show ¬ ((2 : Int32) < 0 ∨ 7 ≤ (2 : Int32).toNatClampNeg) by decide) dL_law_617 ?_
    refine hk_topi (xs 2) rfl ?_
    refine lv_aload_n hx hb dL_law_618 rfl (lv_at hl 4 rfl) ?_
    refine lv_iload hx hb dL_law_619 (lv_at hl 0 rfl) ?_
    refine lv_iconst (v := 2) hx hb dL_law_621 (by decide) ?_
    refine lv_iadd hx hb dL_law_622 ?_
    refine hk_topi 3 (by decide +kernel) ?_
    refine va_sld hx hb hX hbl hbA hw.2.2.1 (show ¬ ((3 : Int32) < 0 ∨ 7 ≤ (3 : Int32).toNatClampNeg) by decide) dL_law_623 ?_
    refine hk_topi (xs 3) rfl ?_
    refine lv_aload_n hx hb dL_law_624 rfl (lv_at hl 4 rfl) ?_
    refine lv_iload hx hb dL_law_625 (lv_at hl 0 rfl) ?_
    refine lv_iconst (v := 3) hx hb dL_law_627 (by decide) ?_
    refine lv_iadd hx hb dL_law_628 ?_
    refine hk_topi 4 (by decide +kernel) ?_
    refine va_sld hx hb hX hbl hbA hw.2.2.1 (show ¬ ((4 : Int32) < 0 ∨ 7 ≤ (4 : Int32).toNatClampNeg) by decide) dL_law_629 ?_
    refine hk_topi (xs 4) rfl ?_
    refine lv_if_eq (tgt := 637) hx hb dL_law_630 (by decide) (fun cc_5 => ?_) (fun cc_5 => ?_)
    · refine lv_iconst (v := 0) hx hb dL_law_637 (by decide) ?_
      refine hk_pi (wc := mw cI cJ md (mf_g fm) mf_l mr (fun _ => 0)) (wr := [(al, .inl (cJ, 1, .inr (.inl (fun _ => 0))))] ++ (xw cI cJ ad u_3.1 u_3.2.1 u_3.2.2.1 u_3.2.2.2)) hw hA [0, 1, 2, 3, 4, 5, 6, 7, 8, 9, 10, 11, 12, 13, 14, 15, 16, 17, 18, 19, 20, 21, 22, 23, 24, 25] [26, 27, 28, 29, 30, 31, 32, 33, 34, 35, 36, 37, 38, 39, 40, 41, 42, 43, 44, 45, 46, 47, 48, 49, 50, 51, 52, 53, 54, 55, 56, 57] rfl rfl (by decide) (by decide) (by decide) (hk_rV (As := [.int (xs 2), .int (xs 3), .int 0]) (rest := [.int r_2]) ⟨hx, hb, hml, hown, hts⟩ hZ hw hA [0, 1, 2, 3, 4, 5, 6, 7, 8, 9, 10, 11, 12, 13, 14, 15, 16, 17, 18, 19, 20, 21, 22, 23, 24, 25] rfl (by decide) (hk_toY (cm_turn l D cI cJ md fm mr (fun _ => 0) _ (xs 2) (xs 3) 0)) (cwV 3 hts gl_cm_turn rfl rfl rfl (by decide +kernel) ⟨Nat.le_of_ble_eq_true rfl, Nat.le_of_ble_eq_true rfl⟩) 0 (ci := 15) (T := TX12) (N := 92) rfl rfl rfl hl.1 rfl (Nat.le_of_ble_eq_true rfl) dL_law_638 ⟨Nat.le_of_ble_eq_true rfl, Nat.le_of_ble_eq_true rfl⟩) (fun r_6 u_7 H locs hp_8 hw => ?_)
      have hw : hk_W D [(cI, .int), (cJ, .long)] (fun q : Nat => s.heap.size ≤ q) s _ _ (([(al, .inl (cJ, 1, .inr (.inl (fun _ => 0))))] ++ (xw cI cJ ad u_3.1 u_3.2.1 u_3.2.2.1 u_3.2.2.2)) ++ (mw cI cJ md u_7.1 u_7.2.1 u_7.2.2.1 u_7.2.2.2)) := hw
      have hw : hk_W D [(cI, .int), (cJ, .long)] (fun q : Nat => s.heap.size ≤ q) s _ _ ([(al, .inl (cJ, 1, .inr (.inl (fun _ => 0))))] ++ (xw cI cJ ad u_3.1 u_3.2.1 u_3.2.2.1 u_3.2.2.2 ++ (mw cI cJ md u_7.1 u_7.2.1 u_7.2.2.1 u_7.2.2.2))) := hk_cast (by simp only [List.append_assoc]) hw
      try dsimp only at hp_8
      refine lv_icmp_eq (tgt := 671) hx hb dL_law_641 (by decide) (fun _ => ?_) (fun cn => absurd (Int32.toInt_inj.mp (by omega)) cn)
      exact law_end hx hb hr hml hown hts hbl hlocks hX (Nat.le_of_ble_eq_true rfl) (Nat.le_of_ble_eq_true rfl) hw (lv_sub hl [0, 4] rfl)
    · refine lv_iconst (v := 1) hx hb dL_law_633 (by decide) ?_
      refine lv_goto (tgt := 638) hx hb dL_law_634 (by decide) ?_
      refine hk_pi (wc := mw cI cJ md (mf_g fm) mf_l mr (fun _ => 0)) (wr := [(al, .inl (cJ, 1, .inr (.inl (fun _ => 0))))] ++ (xw cI cJ ad u_3.1 u_3.2.1 u_3.2.2.1 u_3.2.2.2)) hw hA [0, 1, 2, 3, 4, 5, 6, 7, 8, 9, 10, 11, 12, 13, 14, 15, 16, 17, 18, 19, 20, 21, 22, 23, 24, 25] [26, 27, 28, 29, 30, 31, 32, 33, 34, 35, 36, 37, 38, 39, 40, 41, 42, 43, 44, 45, 46, 47, 48, 49, 50, 51, 52, 53, 54, 55, 56, 57] rfl rfl (by decide) (by decide) (by decide) (hk_rV (As := [.int (xs 2), .int (xs 3), .int 1]) (rest := [.int r_2]) ⟨hx, hb, hml, hown, hts⟩ hZ hw hA [0, 1, 2, 3, 4, 5, 6, 7, 8, 9, 10, 11, 12, 13, 14, 15, 16, 17, 18, 19, 20, 21, 22, 23, 24, 25] rfl (by decide) (hk_toY (cm_turn l D cI cJ md fm mr (fun _ => 0) _ (xs 2) (xs 3) 1)) (cwV 3 hts gl_cm_turn rfl rfl rfl (by decide +kernel) ⟨Nat.le_of_ble_eq_true rfl, Nat.le_of_ble_eq_true rfl⟩) 0 (ci := 15) (T := TX12) (N := 92) rfl rfl rfl hl.1 rfl (Nat.le_of_ble_eq_true rfl) dL_law_638 ⟨Nat.le_of_ble_eq_true rfl, Nat.le_of_ble_eq_true rfl⟩) (fun r_9 u_10 H locs hp_11 hw => ?_)
      have hw : hk_W D [(cI, .int), (cJ, .long)] (fun q : Nat => s.heap.size ≤ q) s _ _ (([(al, .inl (cJ, 1, .inr (.inl (fun _ => 0))))] ++ (xw cI cJ ad u_3.1 u_3.2.1 u_3.2.2.1 u_3.2.2.2)) ++ (mw cI cJ md u_10.1 u_10.2.1 u_10.2.2.1 u_10.2.2.2)) := hw
      have hw : hk_W D [(cI, .int), (cJ, .long)] (fun q : Nat => s.heap.size ≤ q) s _ _ ([(al, .inl (cJ, 1, .inr (.inl (fun _ => 0))))] ++ (xw cI cJ ad u_3.1 u_3.2.1 u_3.2.2.1 u_3.2.2.2 ++ (mw cI cJ md u_10.1 u_10.2.1 u_10.2.2.1 u_10.2.2.2))) := hk_cast (by simp only [List.append_assoc]) hw
      try dsimp only at hp_11
      refine lv_icmp_eq (tgt := 671) hx hb dL_law_641 (by decide) (fun _ => ?_) (fun cn => absurd (Int32.toInt_inj.mp (by omega)) cn)
      exact law_end hx hb hr hml hown hts hbl hlocks hX (Nat.le_of_ble_eq_true rfl) (Nat.le_of_ble_eq_true rfl) hw (lv_sub hl [0, 4] rfl)
  · refine lv_iconst (v := 1) hx hb dL_law_603 (by decide) ?_
    refine lv_goto (tgt := 608) hx hb dL_law_604 (by decide) ?_
    refine hk_pi (wc := xw cI cJ ad (xf_g fm) xf_l ar (fun _ => 0)) (wr := mw cI cJ md (mf_g fm) mf_l mr (fun _ => 0) ++ ([(al, .inl (cJ, 1, .inr (.inl (fun _ => 0))))])) hw hA [0, 1, 2, 3, 4, 5, 6, 7, 8, 9, 10, 11, 12, 13, 14, 15, 16, 17, 18, 19, 20, 21, 22, 23, 24, 25, 26, 27, 28, 29, 30] [31, 32, 33, 34, 35, 36, 37, 38, 39, 40, 41, 42, 43, 44, 45, 46, 47, 48, 49, 50, 51, 52, 53, 54, 55, 56, 57] rfl rfl (by decide) (by decide) (by decide) (hk_rV (As := [.int (xs 2), .int (xs 3), .int 1]) (rest := []) ⟨hx, hb, hml, hown, hts⟩ hZ hw hA [0, 1, 2, 3, 4, 5, 6, 7, 8, 9, 10, 11, 12, 13, 14, 15, 16, 17, 18, 19, 20, 21, 22, 23, 24, 25, 26, 27, 28, 29, 30] rfl (by decide) (hk_toY (ct_turn l D cI cJ ad fm ar (fun _ => 0) _ (xs 2) (xs 3) 1)) (cwV 3 hts gl_ct_turn rfl rfl rfl (by decide +kernel) ⟨Nat.le_of_ble_eq_true rfl, Nat.le_of_ble_eq_true rfl⟩) 0 (ci := 14) (T := TX11) (N := 11) rfl rfl rfl hl.1 rfl (Nat.le_of_ble_eq_true rfl) dL_law_608 ⟨Nat.le_of_ble_eq_true rfl, Nat.le_of_ble_eq_true rfl⟩) (fun r_12 u_13 H locs hp_14 hw => ?_)
    have hw : hk_W D [(cI, .int), (cJ, .long)] (fun q : Nat => s.heap.size ≤ q) s _ _ ((mw cI cJ md (mf_g fm) mf_l mr (fun _ => 0) ++ ([(al, .inl (cJ, 1, .inr (.inl (fun _ => 0))))])) ++ (xw cI cJ ad u_13.1 u_13.2.1 u_13.2.2.1 u_13.2.2.2)) := hw
    have hw : hk_W D [(cI, .int), (cJ, .long)] (fun q : Nat => s.heap.size ≤ q) s _ _ (mw cI cJ md (mf_g fm) mf_l mr (fun _ => 0) ++ ([(al, .inl (cJ, 1, .inr (.inl (fun _ => 0))))] ++ (xw cI cJ ad u_13.1 u_13.2.1 u_13.2.2.1 u_13.2.2.2))) := hk_cast (by simp only [List.append_assoc]) hw
    try dsimp only at hp_14
    refine lv_aload_n hx hb dL_law_611 rfl (lv_at hl 2 rfl) ?_
    refine lv_aload_n hx hb dL_law_612 rfl (lv_at hl 4 rfl) ?_
    refine lv_iload hx hb dL_law_613 (lv_at hl 0 rfl) ?_
    refine lv_iconst (v := 1) hx hb dL_law_615 (by decide) ?_
    refine lv_iadd hx hb dL_law_616 ?_
    refine hk_topi 2 (by decide +kernel) ?_
    refine va_sld hx hb hX hbl hbA hw.2.2.1 (show ¬ ((2 : Int32) < 0 ∨ 7 ≤ (2 : Int32).toNatClampNeg) by decide) dL_law_617 ?_
    refine hk_topi (xs 2) rfl ?_
    refine lv_aload_n hx hb dL_law_618 rfl (lv_at hl 4 rfl) ?_
    refine lv_iload hx hb dL_law_619 (lv_at hl 0 rfl) ?_
    refine lv_iconst (v := 2) hx hb dL_law_621 (by decide) ?_
    refine lv_iadd hx hb dL_law_622 ?_
    refine hk_topi 3 (by decide +kernel) ?_
    refine va_sld hx hb hX hbl hbA hw.2.2.1 (show ¬ ((3 : Int32) < 0 ∨ 7 ≤ (3 : Int32).toNatClampNeg) by decide) dL_law_623 ?_
    refine hk_topi (xs 3) rfl ?_
    refine lv_aload_n hx hb dL_law_624 rfl (lv_at hl 4 rfl) ?_
    refine lv_iload hx hb dL_law_625 (lv_at hl 0 rfl) ?_
    refine lv_iconst (v := 3) hx hb dL_law_627 (by decide) ?_
    refine lv_iadd hx hb dL_law_628 ?_
    refine hk_topi 4 (by decide +kernel) ?_
    refine va_sld hx hb hX hbl hbA hw.2.2.1 (show ¬ ((4 : Int32) < 0 ∨ 7 ≤ (4 : Int32).toNatClampNeg) by decide) dL_law_629 ?_
    refine hk_topi (xs 4) rfl ?_
    refine lv_if_eq (tgt := 637) hx hb dL_law_630 (by decide) (fun cc_15 => ?_) (fun cc_15 => ?_)
    · refine lv_iconst (v := 0) hx hb dL_law_637 (by decide) ?_
      refine hk_pi (wc := mw cI cJ md (mf_g fm) mf_l mr (fun _ => 0)) (wr := [(al, .inl (cJ, 1, .inr (.inl (fun _ => 0))))] ++ (xw cI cJ ad u_13.1 u_13.2.1 u_13.2.2.1 u_13.2.2.2)) hw hA [0, 1, 2, 3, 4, 5, 6, 7, 8, 9, 10, 11, 12, 13, 14, 15, 16, 17, 18, 19, 20, 21, 22, 23, 24, 25] [26, 27, 28, 29, 30, 31, 32, 33, 34, 35, 36, 37, 38, 39, 40, 41, 42, 43, 44, 45, 46, 47, 48, 49, 50, 51, 52, 53, 54, 55, 56, 57] rfl rfl (by decide) (by decide) (by decide) (hk_rV (As := [.int (xs 2), .int (xs 3), .int 0]) (rest := [.int r_12]) ⟨hx, hb, hml, hown, hts⟩ hZ hw hA [0, 1, 2, 3, 4, 5, 6, 7, 8, 9, 10, 11, 12, 13, 14, 15, 16, 17, 18, 19, 20, 21, 22, 23, 24, 25] rfl (by decide) (hk_toY (cm_turn l D cI cJ md fm mr (fun _ => 0) _ (xs 2) (xs 3) 0)) (cwV 3 hts gl_cm_turn rfl rfl rfl (by decide +kernel) ⟨Nat.le_of_ble_eq_true rfl, Nat.le_of_ble_eq_true rfl⟩) 0 (ci := 15) (T := TX12) (N := 92) rfl rfl rfl hl.1 rfl (Nat.le_of_ble_eq_true rfl) dL_law_638 ⟨Nat.le_of_ble_eq_true rfl, Nat.le_of_ble_eq_true rfl⟩) (fun r_16 u_17 H locs hp_18 hw => ?_)
      have hw : hk_W D [(cI, .int), (cJ, .long)] (fun q : Nat => s.heap.size ≤ q) s _ _ (([(al, .inl (cJ, 1, .inr (.inl (fun _ => 0))))] ++ (xw cI cJ ad u_13.1 u_13.2.1 u_13.2.2.1 u_13.2.2.2)) ++ (mw cI cJ md u_17.1 u_17.2.1 u_17.2.2.1 u_17.2.2.2)) := hw
      have hw : hk_W D [(cI, .int), (cJ, .long)] (fun q : Nat => s.heap.size ≤ q) s _ _ ([(al, .inl (cJ, 1, .inr (.inl (fun _ => 0))))] ++ (xw cI cJ ad u_13.1 u_13.2.1 u_13.2.2.1 u_13.2.2.2 ++ (mw cI cJ md u_17.1 u_17.2.1 u_17.2.2.1 u_17.2.2.2))) := hk_cast (by simp only [List.append_assoc]) hw
      try dsimp only at hp_18
      refine lv_icmp_eq (tgt := 671) hx hb dL_law_641 (by decide) (fun _ => ?_) (fun cn => absurd (Int32.toInt_inj.mp (by omega)) cn)
      exact law_end hx hb hr hml hown hts hbl hlocks hX (Nat.le_of_ble_eq_true rfl) (Nat.le_of_ble_eq_true rfl) hw (lv_sub hl [0, 4] rfl)
    · refine lv_iconst (v := 1) hx hb dL_law_633 (by decide) ?_
      refine lv_goto (tgt := 638) hx hb dL_law_634 (by decide) ?_
      refine hk_pi (wc := mw cI cJ md (mf_g fm) mf_l mr (fun _ => 0)) (wr := [(al, .inl (cJ, 1, .inr (.inl (fun _ => 0))))] ++ (xw cI cJ ad u_13.1 u_13.2.1 u_13.2.2.1 u_13.2.2.2)) hw hA [0, 1, 2, 3, 4, 5, 6, 7, 8, 9, 10, 11, 12, 13, 14, 15, 16, 17, 18, 19, 20, 21, 22, 23, 24, 25] [26, 27, 28, 29, 30, 31, 32, 33, 34, 35, 36, 37, 38, 39, 40, 41, 42, 43, 44, 45, 46, 47, 48, 49, 50, 51, 52, 53, 54, 55, 56, 57] rfl rfl (by decide) (by decide) (by decide) (hk_rV (As := [.int (xs 2), .int (xs 3), .int 1]) (rest := [.int r_12]) ⟨hx, hb, hml, hown, hts⟩ hZ hw hA [0, 1, 2, 3, 4, 5, 6, 7, 8, 9, 10, 11, 12, 13, 14, 15, 16, 17, 18, 19, 20, 21, 22, 23, 24, 25] rfl (by decide) (hk_toY (cm_turn l D cI cJ md fm mr (fun _ => 0) _ (xs 2) (xs 3) 1)) (cwV 3 hts gl_cm_turn rfl rfl rfl (by decide +kernel) ⟨Nat.le_of_ble_eq_true rfl, Nat.le_of_ble_eq_true rfl⟩) 0 (ci := 15) (T := TX12) (N := 92) rfl rfl rfl hl.1 rfl (Nat.le_of_ble_eq_true rfl) dL_law_638 ⟨Nat.le_of_ble_eq_true rfl, Nat.le_of_ble_eq_true rfl⟩) (fun r_19 u_20 H locs hp_21 hw => ?_)
      have hw : hk_W D [(cI, .int), (cJ, .long)] (fun q : Nat => s.heap.size ≤ q) s _ _ (([(al, .inl (cJ, 1, .inr (.inl (fun _ => 0))))] ++ (xw cI cJ ad u_13.1 u_13.2.1 u_13.2.2.1 u_13.2.2.2)) ++ (mw cI cJ md u_20.1 u_20.2.1 u_20.2.2.1 u_20.2.2.2)) := hw
      have hw : hk_W D [(cI, .int), (cJ, .long)] (fun q : Nat => s.heap.size ≤ q) s _ _ ([(al, .inl (cJ, 1, .inr (.inl (fun _ => 0))))] ++ (xw cI cJ ad u_13.1 u_13.2.1 u_13.2.2.1 u_13.2.2.2 ++ (mw cI cJ md u_20.1 u_20.2.1 u_20.2.2.1 u_20.2.2.2))) := hk_cast (by simp only [List.append_assoc]) hw
      try dsimp only at hp_21
      refine lv_icmp_eq (tgt := 671) hx hb dL_law_641 (by decide) (fun _ => ?_) (fun cn => absurd (Int32.toInt_inj.mp (by omega)) cn)
      exact law_end hx hb hr hml hown hts hbl hlocks hX (Nat.le_of_ble_eq_true rfl) (Nat.le_of_ble_eq_true rfl) hw (lv_sub hl [0, 4] rfl)

set_option maxHeartbeats 4000000 in
set_option maxRecDepth 100000 in
/-- the law at one call: count -/
theorem law_c15 {p : Program} {e : Env} {s : State} {m : MethodId} {below : List Frame} {meth : Method} {c : Code} {l : Launch} {b : Nat} {xs : Nat → Int32} {D : va_G} {cI cJ : ClassId} {t3 : Nat × Nat × Nat} {ad md : Nat → Nat} {fm : Int32} {ar mr : Nat → Nat → Int32} {al : Nat} {H : Heap} {locs : List Loc} {ls : Array Slot} (hlt : l.stackTraces = false) (hx : p.tables.exec = Jvm.exec) (hb : c.code = code) (hr : meth.sig.returnType = ret) (hml : c.maxLocals = 7) (hown : s.vm.findClass RL = some m.cls) (hts : ∀ w ∈ lw_tbl, w.before #[Value.ref b] s = true) (hbl : b < s.heap.size) (hlocks : meth.locks = false) (hX : va_X b 7 xs s s.heap) (hZ : hk_YY t3 (fun q : Nat => s.heap.size ≤ q) s) (hw : hk_W D [(cI, .int), (cJ, .long)] (fun q : Nat => s.heap.size ≤ q) s H locs (xw cI cJ ad (xf_g fm) xf_l ar (fun _ => 0) ++ (mw cI cJ md (mf_g fm) mf_l mr (fun _ => 0) ++ [(al, .inl (cJ, 1, .inr (.inl (fun _ => 0))))]))) (hl : lv_has ls 7 [(4, .int 1), (3, .ref al), (2, .ref (md 0)), (1, .ref (ad 0)), (0, .ref b)]) : W p l e room_1 s m #[Value.ref b] below meth c H locs 58 133226 (lw_Z below #[Value.ref b] s) (F0 m 646 ls []) := by
  have hA : ∀ q : Nat, s.heap.size ≤ q → (fun q : Nat => s.heap.size ≤ q) q := fun _ h => h
  have hbA : ¬ (fun q : Nat => s.heap.size ≤ q) b := Nat.not_le.mpr hbl
  refine lv_aload_n hx hb dL_law_646 rfl (lv_at hl 3 rfl) ?_
  refine lv_aload_n hx hb dL_law_647 rfl (lv_at hl 4 rfl) ?_
  refine lv_iload hx hb dL_law_648 (lv_at hl 0 rfl) ?_
  refine lv_iconst (v := 1) hx hb dL_law_650 (by decide) ?_
  refine lv_iadd hx hb dL_law_651 ?_
  refine hk_topi 2 (by decide +kernel) ?_
  refine va_sld hx hb hX hbl hbA hw.2.2.1 (show ¬ ((2 : Int32) < 0 ∨ 7 ≤ (2 : Int32).toNatClampNeg) by decide) dL_law_652 ?_
  refine hk_topi (xs 2) rfl ?_
  refine hk_pi (wc := xw cI cJ ad (xf_g fm) xf_l ar (fun _ => 0)) (wr := mw cI cJ md (mf_g fm) mf_l mr (fun _ => 0) ++ ([(al, .inl (cJ, 1, .inr (.inl (fun _ => 0))))])) hw hA [0, 1, 2, 3, 4, 5, 6, 7, 8, 9, 10, 11, 12, 13, 14, 15, 16, 17, 18, 19, 20, 21, 22, 23, 24, 25, 26, 27, 28, 29, 30] [31, 32, 33, 34, 35, 36, 37, 38, 39, 40, 41, 42, 43, 44, 45, 46, 47, 48, 49, 50, 51, 52, 53, 54, 55, 56, 57] rfl rfl (by decide) (by decide) (by decide) (hk_rV (As := [.int (xs 2)]) (rest := []) ⟨hx, hb, hml, hown, hts⟩ hZ hw hA [0, 1, 2, 3, 4, 5, 6, 7, 8, 9, 10, 11, 12, 13, 14, 15, 16, 17, 18, 19, 20, 21, 22, 23, 24, 25, 26, 27, 28, 29, 30] rfl (by decide) (hk_toY (ct_count l D cI cJ ad fm ar (fun _ => 0) _ (xs 2))) (cwV 1 hts gl_ct_count rfl rfl rfl (by decide +kernel) ⟨Nat.le_of_ble_eq_true rfl, Nat.le_of_ble_eq_true rfl⟩) 0 (ci := 14) (T := TX11) (N := 11) rfl rfl rfl hl.1 rfl (Nat.le_of_ble_eq_true rfl) dL_law_653 ⟨Nat.le_of_ble_eq_true rfl, Nat.le_of_ble_eq_true rfl⟩) (fun r_1 u_2 H locs hp_3 hw => ?_)
  have hw : hk_W D [(cI, .int), (cJ, .long)] (fun q : Nat => s.heap.size ≤ q) s _ _ ((mw cI cJ md (mf_g fm) mf_l mr (fun _ => 0) ++ ([(al, .inl (cJ, 1, .inr (.inl (fun _ => 0))))])) ++ (xw cI cJ ad u_2.1 u_2.2.1 u_2.2.2.1 u_2.2.2.2)) := hw
  have hw : hk_W D [(cI, .int), (cJ, .long)] (fun q : Nat => s.heap.size ≤ q) s _ _ (mw cI cJ md (mf_g fm) mf_l mr (fun _ => 0) ++ ([(al, .inl (cJ, 1, .inr (.inl (fun _ => 0))))] ++ (xw cI cJ ad u_2.1 u_2.2.1 u_2.2.2.1 u_2.2.2.2))) := hk_cast (by simp only [List.append_assoc]) hw
  try dsimp only at hp_3
  refine lv_aload_n hx hb dL_law_656 rfl (lv_at hl 2 rfl) ?_
  refine lv_aload_n hx hb dL_law_657 rfl (lv_at hl 4 rfl) ?_
  refine lv_iload hx hb dL_law_658 (lv_at hl 0 rfl) ?_
  refine lv_iconst (v := 1) hx hb dL_law_660 (by decide) ?_
  refine lv_iadd hx hb dL_law_661 ?_
  refine hk_topi 2 (by decide +kernel) ?_
  refine va_sld hx hb hX hbl hbA hw.2.2.1 (show ¬ ((2 : Int32) < 0 ∨ 7 ≤ (2 : Int32).toNatClampNeg) by decide) dL_law_662 ?_
  refine hk_topi (xs 2) rfl ?_
  refine hk_pi (wc := mw cI cJ md (mf_g fm) mf_l mr (fun _ => 0)) (wr := [(al, .inl (cJ, 1, .inr (.inl (fun _ => 0))))] ++ (xw cI cJ ad u_2.1 u_2.2.1 u_2.2.2.1 u_2.2.2.2)) hw hA [0, 1, 2, 3, 4, 5, 6, 7, 8, 9, 10, 11, 12, 13, 14, 15, 16, 17, 18, 19, 20, 21, 22, 23, 24, 25] [26, 27, 28, 29, 30, 31, 32, 33, 34, 35, 36, 37, 38, 39, 40, 41, 42, 43, 44, 45, 46, 47, 48, 49, 50, 51, 52, 53, 54, 55, 56, 57] rfl rfl (by decide) (by decide) (by decide) (hk_rV (As := [.int (xs 2)]) (rest := [.int r_1]) ⟨hx, hb, hml, hown, hts⟩ hZ hw hA [0, 1, 2, 3, 4, 5, 6, 7, 8, 9, 10, 11, 12, 13, 14, 15, 16, 17, 18, 19, 20, 21, 22, 23, 24, 25] rfl (by decide) (hk_toY (cm_count l D cI cJ md fm mr (fun _ => 0) _ (xs 2))) (cwV 1 hts gl_cm_count rfl rfl rfl (by decide +kernel) ⟨Nat.le_of_ble_eq_true rfl, Nat.le_of_ble_eq_true rfl⟩) 0 (ci := 15) (T := TX12) (N := 92) rfl rfl rfl hl.1 rfl (Nat.le_of_ble_eq_true rfl) dL_law_663 ⟨Nat.le_of_ble_eq_true rfl, Nat.le_of_ble_eq_true rfl⟩) (fun r_4 u_5 H locs hp_6 hw => ?_)
  have hw : hk_W D [(cI, .int), (cJ, .long)] (fun q : Nat => s.heap.size ≤ q) s _ _ (([(al, .inl (cJ, 1, .inr (.inl (fun _ => 0))))] ++ (xw cI cJ ad u_2.1 u_2.2.1 u_2.2.2.1 u_2.2.2.2)) ++ (mw cI cJ md u_5.1 u_5.2.1 u_5.2.2.1 u_5.2.2.2)) := hw
  have hw : hk_W D [(cI, .int), (cJ, .long)] (fun q : Nat => s.heap.size ≤ q) s _ _ ([(al, .inl (cJ, 1, .inr (.inl (fun _ => 0))))] ++ (xw cI cJ ad u_2.1 u_2.2.1 u_2.2.2.1 u_2.2.2.2 ++ (mw cI cJ md u_5.1 u_5.2.1 u_5.2.2.1 u_5.2.2.2))) := hk_cast (by simp only [List.append_assoc]) hw
  try dsimp only at hp_6
  refine lv_icmp_eq (tgt := 671) hx hb dL_law_666 (by decide) (fun _ => ?_) (fun cn => absurd (Int32.toInt_inj.mp (by omega)) cn)
  exact law_end hx hb hr hml hown hts hbl hlocks hX (Nat.le_of_ble_eq_true rfl) (Nat.le_of_ble_eq_true rfl) hw (lv_sub hl [0, 4] rfl)
