set_option maxHeartbeats 4000000 in
set_option maxRecDepth 100000 in
theorem law_step {p : Program} {e : Env} {s : State} {m : MethodId} {below : List Frame} {meth : Method} {c : Code} {l : Launch} {b L : Nat} {xs : Nat → Int32} {D : va_G} {cI cJ : ClassId} {t3 : Nat × Nat × Nat} {ad md : Nat → Nat} {al : Nat} {g : Nat → Int32} {lg : Nat → Int64} {ar : Nat → Nat → Int32} {bk : Nat → Int64} {g2 : Nat → Int32} {l2 : Nat → Int64} {a2 : Nat → Nat → Int32} {b2 : Nat → Int64} {bl : Nat → Int64} {i : Int32} {cells slots : Nat} {H : Heap} {locs : List Loc} {ls : Array Slot} (hlt : l.stackTraces = false) (hx : p.tables.exec = Jvm.exec) (hb : c.code = code) (hr : meth.sig.returnType = ret) (hml : c.maxLocals = 7) (hown : s.vm.findClass RL = some m.cls) (hts : ∀ w ∈ lw_tbl, w.before #[Value.ref b] s = true) (hbl : b < s.heap.size) (hlocks : meth.locks = false) (hX : va_X b L xs s s.heap) (hL : L ≤ 3073) (hZ : hk_YY t3 (fun q : Nat => s.heap.size ≤ q) s) (hi : 1 ≤ i.toInt ∧ i.toInt + 6 ≤ (L : Int)) (hw : hk_W D (jT cI cJ) (fun q : Nat => s.heap.size ≤ q) s H locs (([(al, .inl (cJ, 1, .inr (.inl bl)))] ++ xw cI cJ ad g lg ar bk) ++ mw cI cJ md g2 l2 a2 b2)) (hI : law_IX g ar) (hJ : law_IM g2 a2) (hR : law_R g g2) (hl : lv_has ls 7 [(4, .int i), (3, .ref al), (2, .ref (md 0)), (1, .ref (ad 0)), (0, .ref b)]) (hc : cells + 2 ≤ room_1.cells) (hs : slots + 12 ≤ room_1.slots) (kk : ∀ (g : Nat → Int32) (lg : Nat → Int64) (ar : Nat → Nat → Int32) (bk : Nat → Int64) (g2 : Nat → Int32) (l2 : Nat → Int64) (a2 : Nat → Nat → Int32) (b2 : Nat → Int64) (bl : Nat → Int64) (ls : Array Slot) (H : Heap) (locs : List Loc), law_IX g ar → law_IM g2 a2 → law_R g g2 → hk_W D (jT cI cJ) (fun q : Nat => s.heap.size ≤ q) s H locs (([(al, .inl (cJ, 1, .inr (.inl bl)))] ++ xw cI cJ ad g lg ar bk) ++ mw cI cJ md g2 l2 a2 b2) → lv_has ls 7 [(4, .int i), (3, .ref al), (2, .ref (md 0)), (1, .ref (ad 0)), (0, .ref b)] → W p l e room_1 s m #[Value.ref b] below meth c H locs (cells + 2) (slots + 12) (lw_Z below #[Value.ref b] s) (F0 m 643 ls [])) : W p l e room_1 s m #[Value.ref b] below meth c H locs cells slots (lw_Z below #[Value.ref b] s) (F0 m 43 ls []) := by
  have hA : ∀ q : Nat, s.heap.size ≤ q → (fun q : Nat => s.heap.size ≤ q) q := fun _ h => h
  have hbA : ¬ (fun q : Nat => s.heap.size ≤ q) b := Nat.not_le.mpr hbl
  refine lv_aload_n hx hb dL_law_43 rfl (lv_at hl 4 rfl) ?_
  refine lv_iload hx hb dL_law_44 (lv_at hl 0 rfl) ?_
  refine va_sld hx hb hX hbl hbA hw.2.2.1 (law_ix0 hi) dL_law_46 ?_
  refine lv_bipush (v := 15) hx hb dL_law_47 (by decide) ?_
  refine lv_iand hx hb dL_law_49 ?_
  generalize xs i.toNatClampNeg &&& 15 = z
  rcases hk_eqOr z 0 with cc0 | cc0
  · subst cc0
    refine lv_tableIn (tgt := 128) (off := 78) hx hb dL_law_50 (by decide) (by decide) rfl (by decide) ?_
    exact law_c0 hlt hx hb hr hml hown hts hbl hlocks hX hL hZ hi hw hI hJ hR hl hc hs kk
  rcases hk_eqOr z 1 with cc1 | cc1
  · subst cc1
    refine lv_tableIn (tgt := 165) (off := 115) hx hb dL_law_50 (by decide) (by decide) rfl (by decide) ?_
    exact law_c1 hlt hx hb hr hml hown hts hbl hlocks hX hL hZ hi hw hI hJ hR hl hc hs kk
  rcases hk_eqOr z 2 with cc2 | cc2
  · subst cc2
    refine lv_tableIn (tgt := 202) (off := 152) hx hb dL_law_50 (by decide) (by decide) rfl (by decide) ?_
    exact law_c2 hlt hx hb hr hml hown hts hbl hlocks hX hL hZ hi hw hI hJ hR hl hc hs kk
  rcases hk_eqOr z 3 with cc3 | cc3
  · subst cc3
    refine lv_tableIn (tgt := 275) (off := 225) hx hb dL_law_50 (by decide) (by decide) rfl (by decide) ?_
    exact law_c3 hlt hx hb hr hml hown hts hbl hlocks hX hL hZ hi hw hI hJ hR hl hc hs kk
  rcases hk_eqOr z 4 with cc4 | cc4
  · subst cc4
    refine lv_tableIn (tgt := 300) (off := 250) hx hb dL_law_50 (by decide) (by decide) rfl (by decide) ?_
    exact law_c4 hlt hx hb hr hml hown hts hbl hlocks hX hL hZ hi hw hI hJ hR hl hc hs kk
  rcases hk_eqOr z 5 with cc5 | cc5
  · subst cc5
    refine lv_tableIn (tgt := 325) (off := 275) hx hb dL_law_50 (by decide) (by decide) rfl (by decide) ?_
    exact law_c5 hlt hx hb hr hml hown hts hbl hlocks hX hL hZ hi hw hI hJ hR hl hc hs kk
  rcases hk_eqOr z 6 with cc6 | cc6
  · subst cc6
    refine lv_tableIn (tgt := 350) (off := 300) hx hb dL_law_50 (by decide) (by decide) rfl (by decide) ?_
    exact law_c6 hlt hx hb hr hml hown hts hbl hlocks hX hL hZ hi hw hI hJ hR hl hc hs kk
  rcases hk_eqOr z 7 with cc7 | cc7
  · subst cc7
    refine lv_tableIn (tgt := 375) (off := 325) hx hb dL_law_50 (by decide) (by decide) rfl (by decide) ?_
    exact law_c7 hlt hx hb hr hml hown hts hbl hlocks hX hL hZ hi hw hI hJ hR hl hc hs kk
  rcases hk_eqOr z 8 with cc8 | cc8
  · subst cc8
    refine lv_tableIn (tgt := 388) (off := 338) hx hb dL_law_50 (by decide) (by decide) rfl (by decide) ?_
    exact law_c8 hlt hx hb hr hml hown hts hbl hlocks hX hL hZ hi hw hI hJ hR hl hc hs kk
  rcases hk_eqOr z 9 with cc9 | cc9
  · subst cc9
    refine lv_tableIn (tgt := 401) (off := 351) hx hb dL_law_50 (by decide) (by decide) rfl (by decide) ?_
    exact law_c9 hlt hx hb hr hml hown hts hbl hlocks hX hL hZ hi hw hI hJ hR hl hc hs kk
  rcases hk_eqOr z 10 with cc10 | cc10
  · subst cc10
    refine lv_tableIn (tgt := 429) (off := 379) hx hb dL_law_50 (by decide) (by decide) rfl (by decide) ?_
    exact law_c10 hlt hx hb hr hml hown hts hbl hlocks hX hL hZ hi hw hI hJ hR hl hc hs kk
  rcases hk_eqOr z 11 with cc11 | cc11
  · subst cc11
    refine lv_tableIn (tgt := 466) (off := 416) hx hb dL_law_50 (by decide) (by decide) rfl (by decide) ?_
    exact law_c11 hlt hx hb hr hml hown hts hbl hlocks hX hL hZ hi hw hI hJ hR hl hc hs kk
  rcases hk_eqOr z 12 with cc12 | cc12
  · subst cc12
    refine lv_tableIn (tgt := 479) (off := 429) hx hb dL_law_50 (by decide) (by decide) rfl (by decide) ?_
    exact law_c12 hlt hx hb hr hml hown hts hbl hlocks hX hL hZ hi hw hI hJ hR hl hc hs kk
  rcases hk_eqOr z 13 with cc13 | cc13
  · subst cc13
    refine lv_tableIn (tgt := 516) (off := 466) hx hb dL_law_50 (by decide) (by decide) rfl (by decide) ?_
    exact law_c13 hlt hx hb hr hml hown hts hbl hlocks hX hL hZ hi hw hI hJ hR hl hc hs kk
  rcases hk_eqOr z 14 with cc14 | cc14
  · subst cc14
    refine lv_tableIn (tgt := 553) (off := 503) hx hb dL_law_50 (by decide) (by decide) rfl (by decide) ?_
    exact law_c14 hlt hx hb hr hml hown hts hbl hlocks hX hL hZ hi hw hI hJ hR hl hc hs kk
  rcases hk_eqOr z 15 with cc15 | cc15
  · subst cc15
    refine lv_tableIn (tgt := 618) (off := 568) hx hb dL_law_50 (by decide) (by decide) rfl (by decide) ?_
    exact law_c15 hlt hx hb hr hml hown hts hbl hlocks hX hL hZ hi hw hI hJ hR hl hc hs kk
  have e0 : z.toInt ≠ 0 := fun q => cc0 (Int32.toInt_inj.mp (q.trans (by decide)))
  have e1 : z.toInt ≠ 1 := fun q => cc1 (Int32.toInt_inj.mp (q.trans (by decide)))
  have e2 : z.toInt ≠ 2 := fun q => cc2 (Int32.toInt_inj.mp (q.trans (by decide)))
  have e3 : z.toInt ≠ 3 := fun q => cc3 (Int32.toInt_inj.mp (q.trans (by decide)))
  have e4 : z.toInt ≠ 4 := fun q => cc4 (Int32.toInt_inj.mp (q.trans (by decide)))
  have e5 : z.toInt ≠ 5 := fun q => cc5 (Int32.toInt_inj.mp (q.trans (by decide)))
  have e6 : z.toInt ≠ 6 := fun q => cc6 (Int32.toInt_inj.mp (q.trans (by decide)))
  have e7 : z.toInt ≠ 7 := fun q => cc7 (Int32.toInt_inj.mp (q.trans (by decide)))
  have e8 : z.toInt ≠ 8 := fun q => cc8 (Int32.toInt_inj.mp (q.trans (by decide)))
  have e9 : z.toInt ≠ 9 := fun q => cc9 (Int32.toInt_inj.mp (q.trans (by decide)))
  have e10 : z.toInt ≠ 10 := fun q => cc10 (Int32.toInt_inj.mp (q.trans (by decide)))
  have e11 : z.toInt ≠ 11 := fun q => cc11 (Int32.toInt_inj.mp (q.trans (by decide)))
  have e12 : z.toInt ≠ 12 := fun q => cc12 (Int32.toInt_inj.mp (q.trans (by decide)))
  have e13 : z.toInt ≠ 13 := fun q => cc13 (Int32.toInt_inj.mp (q.trans (by decide)))
  have e14 : z.toInt ≠ 14 := fun q => cc14 (Int32.toInt_inj.mp (q.trans (by decide)))
  have e15 : z.toInt ≠ 15 := fun q => cc15 (Int32.toInt_inj.mp (q.trans (by decide)))
  refine lv_tableOut (tgt := 643) hx hb dL_law_50 (by omega) (by decide) ?_
  refine W.widen (k := cells + 2) (n := slots + 12) (by omega) (by omega) ?_
  exact kk g lg ar bk g2 l2 a2 b2 bl ls _ _ hI hJ hR hw hl
set_option maxHeartbeats 4000000 in
set_option maxRecDepth 100000 in
theorem law_loop {p : Program} {e : Env} {s : State} {m : MethodId} {below : List Frame} {meth : Method} {c : Code} {l : Launch} {b L : Nat} {xs : Nat → Int32} {D : va_G} {cI cJ : ClassId} {t3 : Nat × Nat × Nat} {ad md : Nat → Nat} {al : Nat} (hlt : l.stackTraces = false) (hx : p.tables.exec = Jvm.exec) (hb : c.code = code) (hr : meth.sig.returnType = ret) (hml : c.maxLocals = 7) (hown : s.vm.findClass RL = some m.cls) (hts : ∀ w ∈ lw_tbl, w.before #[Value.ref b] s = true) (hbl : b < s.heap.size) (hlocks : meth.locks = false) (hX : va_X b L xs s s.heap) (hL : L ≤ 3073) (hZ : hk_YY t3 (fun q : Nat => s.heap.size ≤ q) s) : ∀ (n k : Nat) (i : Int32) (g : Nat → Int32) (lg : Nat → Int64) (ar : Nat → Nat → Int32) (bk : Nat → Int64) (g2 : Nat → Int32) (l2 : Nat → Int64) (a2 : Nat → Nat → Int32) (b2 : Nat → Int64) (bl : Nat → Int64) (ls : Array Slot) (H : Heap) (locs : List Loc), i.toInt = 1 + 6 * (k : Int) → L < 7 + 6 * (k + n) → k + n ≤ 512 → law_IX g ar → law_IM g2 a2 → law_R g g2 → hk_W D (jT cI cJ) (fun q : Nat => s.heap.size ≤ q) s H locs (([(al, .inl (cJ, 1, .inr (.inl bl)))] ++ xw cI cJ ad g lg ar bk) ++ mw cI cJ md g2 l2 a2 b2) → lv_has ls 7 [(4, .int i), (3, .ref al), (2, .ref (md 0)), (1, .ref (ad 0)), (0, .ref b)] → W p l e room_1 s m #[Value.ref b] below meth c H locs (58 + 2 * k) (133226 + 12 * k) (lw_Z below #[Value.ref b] s) (F0 m 33 ls []) := by
  have hA : ∀ q : Nat, s.heap.size ≤ q → (fun q : Nat => s.heap.size ≤ q) q := fun _ h => h
  have hbA : ¬ (fun q : Nat => s.heap.size ≤ q) b := Nat.not_le.mpr hbl
  intro n
  induction n with
  | zero =>
    intro k i g lg ar bk g2 l2 a2 b2 bl ls H locs hik hLn hkn hI hJ hR hw hl
    refine lv_iload hx hb dL_law_33 (lv_at hl 0 rfl) ?_
    refine lv_aload_n hx hb dL_law_35 rfl (lv_at hl 4 rfl) ?_
    refine va_slen hx hb hX hbl hbA hw.2.2.1 dL_law_36 ?_
    refine lv_bipush (v := 6) hx hb dL_law_37 (by decide) ?_
    refine lv_isub hx hb dL_law_39 ?_
    refine lv_icmp_gt (tgt := 649) hx hb dL_law_40 (by decide) (fun _ => ?_) (fun hc => ?_)
    · exact law_fin hx hb hr hlocks (by omega) (by omega) hw
    · have h1 := hE_nlt hc
      rw [law_len hL] at h1
      exact absurd h1 (by omega)
  | succ n ih =>
    intro k i g lg ar bk g2 l2 a2 b2 bl ls H locs hik hLn hkn hI hJ hR hw hl
    refine lv_iload hx hb dL_law_33 (lv_at hl 0 rfl) ?_
    refine lv_aload_n hx hb dL_law_35 rfl (lv_at hl 4 rfl) ?_
    refine va_slen hx hb hX hbl hbA hw.2.2.1 dL_law_36 ?_
    refine lv_bipush (v := 6) hx hb dL_law_37 (by decide) ?_
    refine lv_isub hx hb dL_law_39 ?_
    refine lv_icmp_gt (tgt := 649) hx hb dL_law_40 (by decide) (fun _ => ?_) (fun hc => ?_)
    · exact law_fin hx hb hr hlocks (by omega) (by omega) hw
    · have h1 := hE_nlt hc
      rw [law_len hL] at h1
      refine law_step hlt hx hb hr hml hown hts hbl hlocks hX hL hZ (i := i) ⟨by omega, by omega⟩ hw hI hJ hR hl (show 58 + 2 * k + 2 ≤ 601024 by omega) (show 133226 + 12 * k + 12 ≤ 7293000 by omega) (fun g lg ar bk g2 l2 a2 b2 bl ls H locs hI hJ hR hw hl => ?_)
      have h6 := hE_add (x := i) (y := 6) rfl
      have e6 : (6 : Int32).toInt = 6 := by decide
      refine lv_iinc (v := i + 6) (lv' := [(4, .int (i + 6)), (3, .ref al), (2, .ref (md 0)), (1, .ref (ad 0)), (0, .ref b)]) hx hb dL_law_643 hl (k := 0) rfl rfl (by decide) rfl (fun ls hl => ?_)
      refine lv_goto (tgt := 33) hx hb dL_law_646 (by decide) ?_
      have h := ih (k + 1) (i + 6) g lg ar bk g2 l2 a2 b2 bl ls H locs (by omega) (by omega) (by omega) hI hJ hR hw hl
      exact h
set_option maxHeartbeats 4000000 in
set_option maxRecDepth 100000 in
theorem whole_start {p : Program} {e : Env} {s : State} {m : MethodId} {below : List Frame} {meth : Method} {c : Code} (l : Launch) (hlt : l.stackTraces = false) {b L : Nat} {xs : Nat → Int32} (hL : L ≤ 3073) (C0 : lw_At p s m meth c b L xs) : W p l e room_1 s m #[Value.ref b] below meth c s.heap [] 0 0 (lw_Z below #[Value.ref b] s) (entryFrame m ([Value.ref b] : List Value).toArray 7) := by
  obtain ⟨hx, hb, hr, hml, hown0, hts, hX, hbl, hlocks, hgv⟩ := id C0
  have hown : s.vm.findClass RL = some m.cls := hown0
  have hA : ∀ q : Nat, s.heap.size ≤ q → (fun q : Nat => s.heap.size ≤ q) q := fun _ h => h
  have hbA : ¬ (fun q : Nat => s.heap.size ≤ q) b := Nat.not_le.mpr hbl
  obtain ⟨cI, hcI⟩ := hk_arrI (hts _ tw_1627.1)
  obtain ⟨cJ, hcJ⟩ := hk_arrJ (hts _ tw_1608.1)
  obtain ⟨D, hK⟩ := law_K hts hcI hcJ
  obtain ⟨t3, hZ⟩ := law_YY hts hgv
  have hw : hk_W D (jT cI cJ) (fun q : Nat => s.heap.size ≤ q) s s.heap [] [] := ⟨fun k q h => by simp at h, ⟨fun i j p q h => by simp at h, fun k q h => by simp at h⟩, va_S.rf, hK⟩
  have hl := lv_entry ([.ref b]) (n := 7) (Nat.le_of_ble_eq_true rfl)
  rw [lg_entry_eq]
  generalize (lg_sl ([.ref b]) ++ List.replicate (7 - (lg_sl ([.ref b])).length) Slot.unset).toArray = ls at hl ⊢
  have hl : lv_has ls 7 [(0, .ref b)] := hl
  refine hk_new (ci := 14) (fs := [.int 0, .null, .null, .null, .null, .null, .null, .null, .null, .int 0, .int 0]) (C := RX11) (T := TX11) (N := 11) hx hb hts (fun w h => (gb_X11 w h).1) tyX11 tyX11_ok hown (hts _ tw_1658.1) (hts _ tw_1659.1) (hts _ tw_192.1) hw hA rfl (fun j hj => by rcases (show j = 0 ∨ j = 1 ∨ j = 2 ∨ j = 3 ∨ j = 4 ∨ j = 5 ∨ j = 6 ∨ j = 7 ∨ j = 8 ∨ j = 9 ∨ j = 10 by omega) with rfl | rfl | rfl | rfl | rfl | rfl | rfl | rfl | rfl | rfl | rfl <;> rfl) (Nat.le_of_ble_eq_true rfl) (Nat.le_of_ble_eq_true rfl) dL_law_0 (fun q1 H hw => ?_)
  have hw : hk_W D (jT cI cJ) (fun q : Nat => s.heap.size ≤ q) s _ _ [(q1, .inr (14, [.int 0, .null, .null, .null, .null, .null, .null, .null, .null, .int 0, .int 0]))] := hw
  refine lv_dup hx hb dL_law_3 rfl ?_
  refine lv_aload_n hx hb dL_law_4 rfl (lv_at hl 0 rfl) ?_
  refine lv_iconst (v := 0) hx hb dL_law_5 (by decide) ?_
  refine hk_pc hw hA (hk_rC (rest := [.ref q1, .ref q1]) ⟨hx, hb, hml, hown, hts⟩ hX hbl hbA hL hw hA (va_cwS 2 hts gl_cell rfl rfl rfl (by decide +kernel) ⟨Nat.le_of_ble_eq_true rfl, Nat.le_of_ble_eq_true rfl⟩) hl.1 rfl (Nat.le_of_ble_eq_true rfl) dL_law_6 ⟨Nat.le_of_ble_eq_true rfl, Nat.le_of_ble_eq_true rfl⟩) (fun fo H locs efo hw => ?_)
  refine hk_Iv (As := [.int fo]) (rest := [.ref q1]) (wc := [(q1, .inr (14, [.int 0, .null, .null, .null, .null, .null, .null, .null, .null, .int 0, .int 0]))]) (wr := []) ⟨hx, hb, hml, hown, hts⟩ hw hA [0] [] rfl rfl (by decide) (by decide) (by decide) (cc_X11 l D cI cJ _ q1 fo) (cwI 1 hts gl_X11 rfl rfl rfl (hts _ tw_192.1) (hts _ tw_1662.1) (hts _ tw_1663.1) rfl (by decide +kernel) ⟨Nat.le_of_ble_eq_true rfl, Nat.le_of_ble_eq_true rfl⟩) rfl hl.1 rfl (Nat.le_of_ble_eq_true rfl) dL_law_9 ⟨Nat.le_of_ble_eq_true rfl, Nat.le_of_ble_eq_true rfl⟩ (fun u H locs hp hw9 => ?_)
  obtain ⟨ad, fm, ar⟩ := u
  obtain ⟨rfl, hn1, har⟩ := hp
  have har : ar = fun _ _ => 0 := har
  subst har
  have hw : hk_W D (jT cI cJ) (fun q : Nat => s.heap.size ≤ q) s _ _ (xw cI cJ ad (xf_g fm) xf_l (fun _ _ => 0) (fun _ => 0)) := hw9
  refine lv_astore_n (lv' := [(1, .ref (ad 0)), (0, .ref b)]) hx hb dL_law_12 rfl hl (by decide) rfl (fun ls hl => ?_)
  refine hk_new (ci := 15) (fs := [.int 0, .int 0, .int 0, .int 0, .int 0, .int 0, .int 0, .int 0, .int 0, .int 0, .int 0, .int 0, .null, .int 0, .null, .int 0, .null, .int 0, .long 0, .null, .null, .int 0, .long 0, .null, .int 0, .null, .int 0, .int 0, .null, .null, .null, .null, .int 0, .int 0, .null, .null, .null, .null, .null, .int 0, .int 0, .null, .null, .int 0, .int 0, .int 0, .int 0, .int 0, .int 0, .int 0, .int 0, .int 0, .null, .int 0, .long 0, .long 0, .int 0, .int 0, .int 0, .int 0, .int 0, .int 0, .int 0, .int 0, .null, .null, .null, .int 0, .null, .int 0, .int 0, .int 0, .int 0, .int 0, .int 0, .int 0, .int 0, .int 0, .int 0, .long 0, .long 0, .int 0, .int 0, .int 0, .int 0, .int 0, .int 0, .null, .null, .int 0, .long 0, .long 0]) (C := RX12) (T := TX12) (N := 92) hx hb hts (fun w h => (gb_X12 w h).1) tyX12 tyX12_ok hown (hts _ tw_1660.1) (hts _ tw_1661.1) (hts _ tw_733.1) hw hA rfl (fun j hj => (show ∀ j, j < 92 → defaultValue (tyX12 j) = vp_V [.int 0, .int 0, .int 0, .int 0, .int 0, .int 0, .int 0, .int 0, .int 0, .int 0, .int 0, .int 0, .null, .int 0, .null, .int 0, .null, .int 0, .long 0, .null, .null, .int 0, .long 0, .null, .int 0, .null, .int 0, .int 0, .null, .null, .null, .null, .int 0, .int 0, .null, .null, .null, .null, .null, .int 0, .int 0, .null, .null, .int 0, .int 0, .int 0, .int 0, .int 0, .int 0, .int 0, .int 0, .int 0, .null, .int 0, .long 0, .long 0, .int 0, .int 0, .int 0, .int 0, .int 0, .int 0, .int 0, .int 0, .null, .null, .null, .int 0, .null, .int 0, .int 0, .int 0, .int 0, .int 0, .int 0, .int 0, .int 0, .int 0, .int 0, .long 0, .long 0, .int 0, .int 0, .int 0, .int 0, .int 0, .int 0, .null, .null, .int 0, .long 0, .long 0] j by decide +kernel) j hj) (Nat.le_of_ble_eq_true rfl) (Nat.le_of_ble_eq_true rfl) dL_law_13 (fun q2 H hw => ?_)
  refine lv_dup hx hb dL_law_16 rfl ?_
  refine lv_aload_n hx hb dL_law_17 rfl (lv_at hl 1 rfl) ?_
  refine lv_iconst (v := 0) hx hb dL_law_18 (by decide) ?_
  refine hk_pc hw hA (hk_rC (rest := [.ref q2, .ref q2]) ⟨hx, hb, hml, hown, hts⟩ hX hbl hbA hL hw hA (va_cwS 2 hts gl_cell rfl rfl rfl (by decide +kernel) ⟨Nat.le_of_ble_eq_true rfl, Nat.le_of_ble_eq_true rfl⟩) hl.1 rfl (Nat.le_of_ble_eq_true rfl) dL_law_19 ⟨Nat.le_of_ble_eq_true rfl, Nat.le_of_ble_eq_true rfl⟩) (fun fo2 H locs efo2 hw => ?_)
  refine hk_Iv (As := [.int fo2]) (rest := [.ref q2]) (wc := [(q2, .inr (15, [.int 0, .int 0, .int 0, .int 0, .int 0, .int 0, .int 0, .int 0, .int 0, .int 0, .int 0, .int 0, .null, .int 0, .null, .int 0, .null, .int 0, .long 0, .null, .null, .int 0, .long 0, .null, .int 0, .null, .int 0, .int 0, .null, .null, .null, .null, .int 0, .int 0, .null, .null, .null, .null, .null, .int 0, .int 0, .null, .null, .int 0, .int 0, .int 0, .int 0, .int 0, .int 0, .int 0, .int 0, .int 0, .null, .int 0, .long 0, .long 0, .int 0, .int 0, .int 0, .int 0, .int 0, .int 0, .int 0, .int 0, .null, .null, .null, .int 0, .null, .int 0, .int 0, .int 0, .int 0, .int 0, .int 0, .int 0, .int 0, .int 0, .int 0, .long 0, .long 0, .int 0, .int 0, .int 0, .int 0, .int 0, .int 0, .null, .null, .int 0, .long 0, .long 0]))]) (wr := xw cI cJ ad (xf_g fm) xf_l (fun _ _ => 0) (fun _ => 0)) ⟨hx, hb, hml, hown, hts⟩ hw hA [31] [0, 1, 2, 3, 4, 5, 6, 7, 8, 9, 10, 11, 12, 13, 14, 15, 16, 17, 18, 19, 20, 21, 22, 23, 24, 25, 26, 27, 28, 29, 30] rfl rfl (by decide) (by decide) (by decide) (cc_X12 l D cI cJ _ q2 fo2) (cwI 1 hts gl_X12 rfl rfl rfl (hts _ tw_733.1) (hts _ tw_1664.1) (hts _ tw_1665.1) rfl (by decide +kernel) ⟨Nat.le_of_ble_eq_true rfl, Nat.le_of_ble_eq_true rfl⟩) rfl hl.1 rfl (Nat.le_of_ble_eq_true rfl) dL_law_22 ⟨Nat.le_of_ble_eq_true rfl, Nat.le_of_ble_eq_true rfl⟩ (fun u H locs hp hw8 => ?_)
  obtain ⟨md, fm2, mr⟩ := u
  obtain ⟨rfl, hn2, hmr⟩ := hp
  have hmr : ∀ k, k ≠ 2 → mr k = (fun _ => 0) := hmr
  have hw : hk_W D (jT cI cJ) (fun q : Nat => s.heap.size ≤ q) s _ _ (xw cI cJ ad (xf_g fm) xf_l (fun _ _ => 0) (fun _ => 0) ++ mw cI cJ md (mf_g fm2) mf_l mr (fun _ => 0)) := hw8
  refine lv_astore_n (lv' := [(2, .ref (md 0)), (1, .ref (ad 0)), (0, .ref b)]) hx hb dL_law_25 rfl hl (by decide) rfl (fun ls hl => ?_)
  refine lv_iconst (v := 1) hx hb dL_law_26 (by decide) ?_
  refine hk_newl (N := 1) hx hb (hts _ tw_1608.1) hw hA 1 rfl (by decide) (by decide) (by decide) (Nat.le_of_ble_eq_true rfl) (Nat.le_of_ble_eq_true rfl) dL_law_27 (fun al H hw => ?_)
  have hw := hk_sub (ws' := ([(al, .inl (cJ, 1, .inr (.inl (fun _ => 0))))] ++ xw cI cJ ad (xf_g fm) xf_l (fun _ _ => 0) (fun _ => 0)) ++ mw cI cJ md (mf_g fm2) mf_l mr (fun _ => 0)) hw [57, 0, 1, 2, 3, 4, 5, 6, 7, 8, 9, 10, 11, 12, 13, 14, 15, 16, 17, 18, 19, 20, 21, 22, 23, 24, 25, 26, 27, 28, 29, 30, 31, 32, 33, 34, 35, 36, 37, 38, 39, 40, 41, 42, 43, 44, 45, 46, 47, 48, 49, 50, 51, 52, 53, 54, 55, 56] (by decide) rfl
  refine lv_astore_n (lv' := [(3, .ref al), (2, .ref (md 0)), (1, .ref (ad 0)), (0, .ref b)]) hx hb dL_law_29 rfl hl (by decide) rfl (fun ls hl => ?_)
  refine lv_iconst (v := 1) hx hb dL_law_30 (by decide) ?_
  refine lv_istore (lv' := [(4, .int 1), (3, .ref al), (2, .ref (md 0)), (1, .ref (ad 0)), (0, .ref b)]) hx hb dL_law_31 hl (by decide) rfl (fun ls hl => ?_)
  refine W.widen (k := 58 + 2 * 0) (n := 133226 + 12 * 0) (Nat.le_of_ble_eq_true rfl) (Nat.le_of_ble_eq_true rfl) ?_
  have hI0 : law_IX (xf_g fm) (fun _ _ => 0) := ⟨(show 0 ≤ ((0) : Int32).toInt ∧ ((0) : Int32).toInt ≤ 1500 by decide), (fun _ => (show (0 : Int) ≤ (0 : Int32).toInt ∧ (0 : Int32).toInt ≤ (255 : Int) by decide)), (show 1 ≤ ((1024) : Int32).toInt ∧ ((1024) : Int32).toInt ≤ 1500 by decide), (show -2147483648 ≤ ((0) : Int32).toInt ∧ ((0) : Int32).toInt ≤ 600000 by decide), (show 0 ≤ ((3) : Int32).toInt ∧ ((3) : Int32).toInt ≤ 4 by decide), (show 0 ≤ ((0) : Int32).toInt ∧ ((0) : Int32).toInt ≤ 4 by decide), (show 0 ≤ ((0) : Int32).toInt ∧ ((0) : Int32).toInt ≤ 200 by decide), (show 0 ≤ ((0) : Int32).toInt ∧ ((0) : Int32).toInt ≤ 4 by decide), (show 0 ≤ ((0) : Int32).toInt ∧ ((0) : Int32).toInt ≤ 4 by decide), (fun _ => (show (-2147483648 : Int) ≤ (0 : Int32).toInt ∧ (0 : Int32).toInt ≤ (273 : Int) by decide)), (fun _ => (show (-2147483648 : Int) ≤ (0 : Int32).toInt ∧ (0 : Int32).toInt ≤ (1501 : Int) by decide)), (show -2147483648 ≤ ((0) : Int32).toInt ∧ ((0) : Int32).toInt ≤ 1501 by decide), (show 1 ≤ ((512) : Int32).toInt ∧ ((512) : Int32).toInt ≤ 1500 by decide), (fun _ _ => (show (-3000 : Int) ≤ (0 : Int32).toInt ∧ (0 : Int32).toInt ≤ (3000 : Int) by decide)), (show 0 ≤ ((0) : Int32).toInt ∧ ((0) : Int32).toInt ≤ 3000 by decide)⟩
  have hJ0 : law_IM (mf_g fm2) mr := ⟨(show 0 ≤ ((0) : Int32).toInt ∧ ((0) : Int32).toInt ≤ 1500 by decide), (by rw [hmr 0 (by decide)]; exact fun _ => (show (0 : Int) ≤ (0 : Int32).toInt ∧ (0 : Int32).toInt ≤ (255 : Int) by decide)), (show 0 ≤ ((0) : Int32).toInt ∧ ((0) : Int32).toInt ≤ 3000 by decide), (by rw [hmr 1 (by decide)]; exact fun _ => (show (0 : Int) ≤ (0 : Int32).toInt ∧ (0 : Int32).toInt ≤ (255 : Int) by decide)), (show 0 ≤ ((0) : Int32).toInt ∧ ((0) : Int32).toInt ≤ 256 by decide), (show 0 ≤ ((0) : Int32).toInt ∧ ((0) : Int32).toInt ≤ 63 by decide), (show 0 ≤ ((0) : Int32).toInt ∧ ((0) : Int32).toInt ≤ 3000 by decide), (by rw [hmr 6 (by decide)]; exact fun _ => (show (0 : Int) ≤ (0 : Int32).toInt ∧ (0 : Int32).toInt ≤ (255 : Int) by decide)), (show 0 ≤ ((0) : Int32).toInt ∧ ((0) : Int32).toInt ≤ 3001 by decide), (show 0 ≤ ((0) : Int32).toInt ∧ ((0) : Int32).toInt ≤ 11 by decide), (show 0 ≤ ((0) : Int32).toInt ∧ ((0) : Int32).toInt ≤ 4 by decide), (by rw [hmr 24 (by decide)]; exact fun _ => (show (0 : Int) ≤ (0 : Int32).toInt ∧ (0 : Int32).toInt ≤ (255 : Int) by decide)), (by rw [hmr 12 (by decide)]; exact fun _ => (show (0 : Int) ≤ (0 : Int32).toInt ∧ (0 : Int32).toInt ≤ (20000 : Int) by decide)), (by rw [hmr 13 (by decide)]; exact fun _ => (show (0 : Int) ≤ (0 : Int32).toInt ∧ (0 : Int32).toInt ≤ (20000 : Int) by decide)), (by rw [hmr 14 (by decide)]; exact fun _ => (show (0 : Int) ≤ (0 : Int32).toInt ∧ (0 : Int32).toInt ≤ (20000 : Int) by decide)), (by rw [hmr 22 (by decide)]; exact fun _ => (show (0 : Int) ≤ (0 : Int32).toInt ∧ (0 : Int32).toInt ≤ (255 : Int) by decide)), (show 0 ≤ ((3) : Int32).toInt ∧ ((3) : Int32).toInt ≤ 4 by decide), (show 0 ≤ ((0) : Int32).toInt ∧ ((0) : Int32).toInt ≤ 4 by decide), (show ((3) : Int32).toInt + ((0) : Int32).toInt ≤ 4 by decide), (show 0 ≤ ((2) : Int32).toInt ∧ ((2) : Int32).toInt ≤ 4 by decide), (show 1 ≤ ((4096) : Int32).toInt ∧ ((4096) : Int32).toInt ≤ 4096 by decide), (show 1 ≤ ((512) : Int32).toInt ∧ ((512) : Int32).toInt ≤ 1500 by decide), (show 1 ≤ ((1024) : Int32).toInt ∧ ((1024) : Int32).toInt ≤ 1500 by decide)⟩
  have hfm : fm.toInt = fm2.toInt := by simp only [efo, efo2, hk_nf] at hn1 hn2; omega
  have hR0 : law_R (xf_g fm) (mf_g fm2) := ⟨hfm, (show ((3 : Int32)).toInt = ((3 : Int32)).toInt from rfl), (show ((0 : Int32)).toInt = ((0 : Int32)).toInt from rfl)⟩
  exact law_loop hlt hx hb hr hml hown hts hbl hlocks hX hL hZ 512 0 1 (xf_g fm) xf_l (fun _ _ => 0) (fun _ => 0) (mf_g fm2) mf_l mr (fun _ => 0) (fun _ => 0) ls _ _ (by decide) (by omega) (by decide) hI0 hJ0 hR0 hw hl
set_option maxHeartbeats 4000000 in
theorem lw_walk (l : Launch) (hlt : l.stackTraces = false) (b : Addr) (xs : List Int32) : MetFree l x (headSpec (Jvm.Cond.code x code maxLocals ret :: tables_1) room_1) (lw_P b xs) (fun _ _ _ _ _ => True) lw_Q := by
  refine MetFree.of_bodyS (code := code) (maxLocals := maxLocals) (ret := ret) (by decide) ?_ ?_
  · intro args s m h hn
    obtain ⟨meth, c, h1, h2, h3, h4, h5, h6, -, -⟩ := Cond.code_spec hn (atoms_spec (ws := Jvm.Cond.code x code maxLocals ret :: tables_1) h _ List.mem_cons_self)
    exact ⟨meth, c, h1, h2, h3, h4, h5, h6⟩
  · intro p e s m args below meth c s₁ B hml0 hP _
    obtain ⟨rfl, hx, hbd, hgv⟩ := hP
    obtain ⟨scr, harrAt, hlist, hof, hsmall⟩ := hx
    obtain ⟨hcb, hkn, -, -⟩ := State.arrayAt?_spec harrAt
    have hown : s.vm.findClass R_law = some m.cls := findClass_of_methodNamed B.named
    have hts0 : ∀ c ∈ (Jvm.Cond.code x code maxLocals ret :: tables_1), c.before #[Value.ref b] s = true := atoms_spec (ws := Jvm.Cond.code x code maxLocals ret :: tables_1) B.pre
    have hts : ∀ w ∈ lw_tbl, w.before #[Value.ref b] s = true := k2_hts_sels lw_privs (fun w hw => hts0 w (List.mem_cons_of_mem _ hw)) lw_privs_ok
    have hml : c.maxLocals = 7 := B.maxLocals_eq (hts0 _ List.mem_cons_self)
    have X₀ : Stand p l e room_1 s m #[Value.ref b] below meth c s₁ [] 0 0 := Stand.of_body B
    have hh0 : s₁.heap = s.heap := by rw [B.state]; rfl
    have hsz : scr.slots.size = xs.length := by rw [← Array.length_toList, hlist, List.length_map]
    have hval : ∀ j : Nat, j < xs.length → scr.slots[j]? = some (.int (xs.getD j 0)) := fun j hj => by
      rw [← Array.getElem?_toList, hlist]
      simp [hj]
    have hbl : b < s.heap.size := (Array.getElem?_eq_some_iff.mp hcb).1
    have hX : va_X b xs.length (fun j => xs.getD j 0) s s.heap := ⟨scr, hcb, hof, hkn, hsz, hval⟩
    have K : W p l e room_1 s m #[Value.ref b] below meth c s₁.heap [] 0 0 (lw_Z below #[Value.ref b] s) (entryFrame m ([Value.ref b] : List Value).toArray 7) := by
      rw [hh0]
      exact whole_start l hlt hbd ⟨B.exec, B.bytes, B.returns, hml, hown, hts, hX, hbl, B.notSynchronized, hgv⟩
    obtain ⟨t, a1, o, b1, b2, b3⟩ := K s₁ rfl X₀
    exact ⟨t, o, a1, b1, b2, b3⟩
theorem lw_pre_spec {args : Array Value} {s : State} (h : (Jvm.Cond.and given_1 narrow_1).before args s = true) (hr : rest_1_c.before args s = true) : ∃ (b : Addr) (xs : List Int32), lw_P b xs args s := by
  have hs := flat_of_before _ h
  have hq := flat_of_before _ hr
  have hc : (Cond.count 1).before args s = true := hs _ (by decide +kernel)
  have harr : (Cond.arrayOf (.arg 0) .int).before args s = true := hs _ (by decide +kernel)
  have hle : (Cond.le (.length (.arg 0)) (.int 3073)).before args s = true := hs _ (by decide +kernel)
  have hlen : (Cond.isInt (.length (.arg 0))).before args s = true := hq _ (by decide +kernel)
  have hall : (Cond.all (.arg 0) (.isInt (.elem (.arg 0) (.index 0)))).before args s = true := hq _ (by decide +kernel)
  obtain ⟨b, xs, hb, hx⟩ := State.ints_of_pre rfl harr hlen hall
  have hsm : xs.length < 2 ^ 31 := hx.choose_spec.2.2.2
  have hev : (Term.length (.arg 0)).eval args s none [] s = some (.int xs.length.toInt32) := hx.length_eval hb
  have hv := Cond.le_ints hev (show (Term.int 3073).eval args s none [] s = some (.int 3073) from rfl)
  have hd : xs.length.toInt32 ≤ 3073 := by
    simpa [Cond.before, Cond.holds, hv] using hle
  have hN : xs.length ≤ 3073 := (Int32.ofNat_le_ofNat hsm (by decide)).mp (show Int32.ofNat xs.length ≤ Int32.ofNat 3073 from hd)
  exact ⟨b, xs, Cond.one_arg hc (show args[0]? = some (.ref b) from hb), hx, hN, h⟩
theorem lw_comes (l : Launch) (hlt : l.stackTraces = false) : Comes l x (Jvm.Cond.code x code maxLocals ret :: tables_1) room_1 (fun tb e args s => Calls_1 tb e args s ∧ rest_1 tb e args s ∧ Pre_1 tb e args s)
    (fun _ _ args s o t => lw_Q args s o t) := by
  intro p e ha hc hk s m args below hf hfit hheap happ hpre
  obtain ⟨b, xs, hP⟩ := lw_pre_spec hpre.2.2 hpre.2.1
  obtain ⟨k, o, h1, h2, h3, hQ⟩ := lw_walk l hlt b xs p e ha hc hk s m args below hf ((Spec.applies_iff_loose hf).mp happ).1 hP trivial
  exact ⟨k, o, h1, h2, h3, hQ⟩
theorem lw_frame {s t : State} {o : Outcome} {args : Array Value} (h : Framed s o t [] 601024 7293000) :
    Framed s o t (fieldLocs frame_1_writes args s ++ arrayLocs frame_1_arrays args s ++ staticLocs frame_1_statics s) 601024 7293000 := h
theorem lw_limb (L : Cond) (hL : ∀ (args : Array Value) (s t : State), L.after args s (.returned (some (.int 1))) t = true) :
    ArmFor flags0 classFile x code maxLocals ret World_1 tables_1 room_1 Calls_1 rest_1 Pre_1
      (fun tb e a s o t => postC L tb e a s o t ∧ Framed s o t (fieldLocs frame_1_writes a s ++ arrayLocs frame_1_arrays a s ++ staticLocs frame_1_statics s) 601024 7293000) := by
  intro l hfl _ _ p e ha hc hk s m args below hf hfit hheap happ hpre
  have hlt : l.stackTraces = false := by
    show (!l.flags.contains noTraceFlag) = false
    rw [hfl]
    decide +kernel
  obtain ⟨k, o, h1, h2, h3, rfl, hF⟩ := lw_comes l hlt p e ha hc hk s m args below hf hfit hheap happ hpre
  exact ⟨k, _, h1, h2, h3, hL args s _, lw_frame hF⟩
theorem i_vc : Claimed_1_1 ∧ Claimed_1_2 := ⟨lw_limb limb_1_1 (fun args s t => by simp [limb_1_1, Cond.after, Cond.holds, Cond.value]), lw_limb limb_1_2 (fun args s t => Cond.after_iff.mpr (by
  first | (rw [show limb_1_2 = Cond.eq .result (.int 1) from rfl, Cond.eq_ints (x := 1) (y := 1) rfl rfl]; simp; done) | (simp [limb_1_2, Cond.value, Term.eval]; done)))⟩

