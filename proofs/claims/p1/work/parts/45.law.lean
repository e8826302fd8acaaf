set_option maxHeartbeats 4000000 in
set_option maxRecDepth 100000 in
/-- from the entry, for every script of at most 7 ints, the law comes to its end with true -/
theorem whole_start {p : Program} {e : Env} {s : State} {m : MethodId} {below : List Frame} {meth : Method} {c : Code} (l : Launch) (hlt : l.stackTraces = false) {b L : Nat} {xs : Nat → Int32} (hL : L ≤ 7) (C0 : lw_At p s m meth c b L xs) : W p l e room_1 s m #[Value.ref b] below meth c s.heap [] 0 0 (lw_Z below #[Value.ref b] s) (entryFrame m ([Value.ref b] : List Value).toArray 7) := by
  obtain ⟨hx, hb, hr, hml, hown0, hts, hX, hbl, hlocks, hgv⟩ := id C0
  have hown : s.vm.findClass RL = some m.cls := hown0
  have hA : ∀ q : Nat, s.heap.size ≤ q → (fun q : Nat => s.heap.size ≤ q) q := fun _ h => h
  have hbA : ¬ (fun q : Nat => s.heap.size ≤ q) b := Nat.not_le.mpr hbl
  obtain ⟨cI, hI⟩ := hk_arrI (hts _ tw_1048.1)
  obtain ⟨cJ, hJ⟩ := hk_arrJ (hts _ tw_1027.1)
  obtain ⟨D, hK⟩ := law_K hts hI hJ
  obtain ⟨t3, hZ⟩ := law_YY hts hgv
  have hw : hk_W D [(cI, .int), (cJ, .long)] (fun q : Nat => s.heap.size ≤ q) s s.heap [] [] := ⟨fun k q h => by simp at h, ⟨fun i j p q h => by simp at h, fun k q h => by simp at h⟩, va_S.rf, hK⟩
  have hl := lv_entry ([.ref b]) (n := 7) (Nat.le_of_ble_eq_true rfl)
  rw [lg_entry_eq]
  generalize (lg_sl ([.ref b]) ++ List.replicate (7 - (lg_sl ([.ref b])).length) Slot.unset).toArray = ls at hl ⊢
  have hl : lv_has ls 7 [(0, .ref b)] := hl
  refine hk_new (ci := 14) (fs := [.int 0, .null, .null, .null, .null, .null, .null, .null, .null, .int 0, .int 0]) (C := RX11) (T := TX11) (N := 11) hx hb hts (fun w h => (gb_X11 w h).1) tyX11 tyX11_ok hown (hts _ tw_1089.1) (hts _ tw_1090.1) (hts _ tw_0.1) hw hA rfl (fun j hj => by rcases (show j = 0 ∨ j = 1 ∨ j = 2 ∨ j = 3 ∨ j = 4 ∨ j = 5 ∨ j = 6 ∨ j = 7 ∨ j = 8 ∨ j = 9 ∨ j = 10 by omega) with rfl | rfl | rfl | rfl | rfl | rfl | rfl | rfl | rfl | rfl | rfl <;> rfl) (Nat.le_of_ble_eq_true rfl) (Nat.le_of_ble_eq_true rfl) dL_law_0 (fun q1 H hw => ?_)
  have hw : hk_W D [(cI, .int), (cJ, .long)] (fun q : Nat => s.heap.size ≤ q) s _ _ [(q1, .inr (14, [.int 0, .null, .null, .null, .null, .null, .null, .null, .null, .int 0, .int 0]))] := hw
  refine lv_dup hx hb dL_law_3 rfl ?_
  refine lv_aload_n hx hb dL_law_4 rfl (lv_at hl 0 rfl) ?_
  refine lv_iconst (v := 0) hx hb dL_law_5 (by decide) ?_
  refine hk_pc hw hA (hk_rC (rest := [.ref q1, .ref q1]) ⟨hx, hb, hml, hown, hts⟩ hX hbl hbA hL hw hA (va_cwS 2 hts gl_cell rfl rfl rfl (by decide +kernel) ⟨Nat.le_of_ble_eq_true rfl, Nat.le_of_ble_eq_true rfl⟩) hl.1 rfl (Nat.le_of_ble_eq_true rfl) dL_law_6 ⟨Nat.le_of_ble_eq_true rfl, Nat.le_of_ble_eq_true rfl⟩) (fun fo H locs efo hw => ?_)
  refine hk_Iv (As := [.int fo]) (rest := [.ref q1]) (wc := [(q1, .inr (14, [.int 0, .null, .null, .null, .null, .null, .null, .null, .null, .int 0, .int 0]))]) (wr := []) ⟨hx, hb, hml, hown, hts⟩ hw hA [0] [] rfl rfl (by decide) (by decide) (by decide) (cc_X11 l D cI cJ _ q1 fo) (cwI 1 hts gl_X11 rfl rfl rfl (hts _ tw_0.1) (hts _ tw_1093.1) (hts _ tw_1094.1) rfl (by decide +kernel) ⟨Nat.le_of_ble_eq_true rfl, Nat.le_of_ble_eq_true rfl⟩) rfl hl.1 rfl (Nat.le_of_ble_eq_true rfl) dL_law_9 ⟨Nat.le_of_ble_eq_true rfl, Nat.le_of_ble_eq_true rfl⟩ (fun u H locs hp hw9 => ?_)
  obtain ⟨ad, fm, ar⟩ := u
  obtain ⟨rfl, hn1⟩ := hp
  have hw : hk_W D [(cI, .int), (cJ, .long)] (fun q : Nat => s.heap.size ≤ q) s _ _ (xw cI cJ ad (xf_g fm) xf_l ar (fun _ => 0)) := hw9
  refine lv_astore_n (lv' := [(1, .ref (ad 0)), (0, .ref b)]) hx hb dL_law_12 rfl hl (by decide) rfl (fun ls hl => ?_)
  refine hk_new (ci := 15) (fs := [.int 0, .int 0, .int 0, .int 0, .int 0, .int 0, .int 0, .int 0, .int 0, .int 0, .int 0, .int 0, .null, .int 0, .null, .int 0, .null, .int 0, .long 0, .null, .null, .int 0, .long 0, .null, .int 0, .null, .int 0, .int 0, .null, .null, .null, .null, .int 0, .int 0, .null, .null, .null, .null, .null, .int 0, .int 0, .null, .null, .int 0, .int 0, .int 0, .int 0, .int 0, .int 0, .int 0, .int 0, .int 0, .null, .int 0, .long 0, .long 0, .int 0, .int 0, .int 0, .int 0, .int 0, .int 0, .int 0, .int 0, .null, .null, .null, .int 0, .null, .int 0, .int 0, .int 0, .int 0, .int 0, .int 0, .int 0, .int 0, .int 0, .int 0, .long 0, .long 0, .int 0, .int 0, .int 0, .int 0, .int 0, .int 0, .null, .null, .int 0, .long 0, .long 0]) (C := RX12) (T := TX12) (N := 92) hx hb hts (fun w h => (gb_X12 w h).1) tyX12 tyX12_ok hown (hts _ tw_1091.1) (hts _ tw_1092.1) (hts _ tw_49.1) hw hA rfl (fun j hj => (show ∀ j, j < 92 → defaultValue (tyX12 j) = vp_V [.int 0, .int 0, .int 0, .int 0, .int 0, .int 0, .int 0, .int 0, .int 0, .int 0, .int 0, .int 0, .null, .int 0, .null, .int 0, .null, .int 0, .long 0, .null, .null, .int 0, .long 0, .null, .int 0, .null, .int 0, .int 0, .null, .null, .null, .null, .int 0, .int 0, .null, .null, .null, .null, .null, .int 0, .int 0, .null, .null, .int 0, .int 0, .int 0, .int 0, .int 0, .int 0, .int 0, .int 0, .int 0, .null, .int 0, .long 0, .long 0, .int 0, .int 0, .int 0, .int 0, .int 0, .int 0, .int 0, .int 0, .null, .null, .null, .int 0, .null, .int 0, .int 0, .int 0, .int 0, .int 0, .int 0, .int 0, .int 0, .int 0, .int 0, .long 0, .long 0, .int 0, .int 0, .int 0, .int 0, .int 0, .int 0, .null, .null, .int 0, .long 0, .long 0] j by decide +kernel) j hj) (Nat.le_of_ble_eq_true rfl) (Nat.le_of_ble_eq_true rfl) dL_law_13 (fun q2 H hw => ?_)
  refine lv_dup hx hb dL_law_16 rfl ?_
  refine lv_aload_n hx hb dL_law_17 rfl (lv_at hl 1 rfl) ?_
  refine lv_iconst (v := 0) hx hb dL_law_18 (by decide) ?_
  refine hk_pc hw hA (hk_rC (rest := [.ref q2, .ref q2]) ⟨hx, hb, hml, hown, hts⟩ hX hbl hbA hL hw hA (va_cwS 2 hts gl_cell rfl rfl rfl (by decide +kernel) ⟨Nat.le_of_ble_eq_true rfl, Nat.le_of_ble_eq_true rfl⟩) hl.1 rfl (Nat.le_of_ble_eq_true rfl) dL_law_19 ⟨Nat.le_of_ble_eq_true rfl, Nat.le_of_ble_eq_true rfl⟩) (fun fo2 H locs efo2 hw => ?_)
  refine hk_Iv (As := [.int fo2]) (rest := [.ref q2]) (wc := [(q2, .inr (15, [.int 0, .int 0, .int 0, .int 0, .int 0, .int 0, .int 0, .int 0, .int 0, .int 0, .int 0, .int 0, .null, .int 0, .null, .int 0, .null, .int 0, .long 0, .null, .null, .int 0, .long 0, .null, .int 0, .null, .int 0, .int 0, .null, .null, .null, .null, .int 0, .int 0, .null, .null, .null, .null, .null, .int 0, .int 0, .null, .null, .int 0, .int 0, .int 0, .int 0, .int 0, .int 0, .int 0, .int 0, .int 0, .null, .int 0, .long 0, .long 0, .int 0, .int 0, .int 0, .int 0, .int 0, .int 0, .int 0, .int 0, .null, .null, .null, .int 0, .null, .int 0, .int 0, .int 0, .int 0, .int 0, .int 0, .int 0, .int 0, .int 0, .int 0, .long 0, .long 0, .int 0, .int 0, .int 0, .int 0, .int 0, .int 0, .null, .null, .int 0, .long 0, .long 0]))]) (wr := xw cI cJ ad (xf_g fm) xf_l ar (fun _ => 0)) ⟨hx, hb, hml, hown, hts⟩ hw hA [31] [0, 1, 2, 3, 4, 5, 6, 7, 8, 9, 10, 11, 12, 13, 14, 15, 16, 17, 18, 19, 20, 21, 22, 23, 24, 25, 26, 27, 28, 29, 30] rfl rfl (by decide) (by decide) (by decide) (cc_X12 l D cI cJ _ q2 fo2) (cwI 1 hts gl_X12 rfl rfl rfl (hts _ tw_49.1) (hts _ tw_1095.1) (hts _ tw_1096.1) rfl (by decide +kernel) ⟨Nat.le_of_ble_eq_true rfl, Nat.le_of_ble_eq_true rfl⟩) rfl hl.1 rfl (Nat.le_of_ble_eq_true rfl) dL_law_22 ⟨Nat.le_of_ble_eq_true rfl, Nat.le_of_ble_eq_true rfl⟩ (fun u H locs hp hw8 => ?_)
  obtain ⟨md, fm2, mr⟩ := u
  obtain ⟨rfl, hn2⟩ := hp
  try dsimp only at hn1
  try dsimp only at hn2
  obtain rfl : fm2 = fm := Int32.toInt_inj.mp (by simp only [efo, efo2, hk_nf] at hn1 hn2; omega)
  have hw : hk_W D [(cI, .int), (cJ, .long)] (fun q : Nat => s.heap.size ≤ q) s _ _ (xw cI cJ ad (xf_g fm2) xf_l ar (fun _ => 0) ++ mw cI cJ md (mf_g fm2) mf_l mr (fun _ => 0)) := hw8
  refine lv_astore_n (lv' := [(2, .ref (md 0)), (1, .ref (ad 0)), (0, .ref b)]) hx hb dL_law_25 rfl hl (by decide) rfl (fun ls hl => ?_)
  refine lv_iconst (v := 1) hx hb dL_law_26 (by decide) ?_
  refine hk_newl (N := 1) hx hb (hts _ tw_1027.1) hw hA 1 rfl (by decide) (by decide) (by decide) (Nat.le_of_ble_eq_true rfl) (Nat.le_of_ble_eq_true rfl) dL_law_27 (fun al H hw => ?_)
  have hw : hk_W D [(cI, .int), (cJ, .long)] (fun q : Nat => s.heap.size ≤ q) s _ _ (xw cI cJ ad (xf_g fm2) xf_l ar (fun _ => 0) ++ (mw cI cJ md (mf_g fm2) mf_l mr (fun _ => 0) ++ [(al, .inl (cJ, 1, .inr (.inl (fun _ => 0))))])) := hk_cast (List.append_assoc _ _ _) hw
  refine lv_astore_n (lv' := [(3, .ref al), (2, .ref (md 0)), (1, .ref (ad 0)), (0, .ref b)]) hx hb dL_law_29 rfl hl (by decide) rfl (fun ls hl => ?_)
  refine lv_iconst (v := 1) hx hb dL_law_30 (by decide) ?_
  refine lv_istore (lv' := [(4, .int 1), (3, .ref al), (2, .ref (md 0)), (1, .ref (ad 0)), (0, .ref b)]) hx hb dL_law_31 hl (by decide) rfl (fun ls hl => ?_)
  refine lv_iload hx hb dL_law_33 (lv_at hl 0 rfl) ?_
  refine lv_aload_n hx hb dL_law_35 rfl (lv_at hl 4 rfl) ?_
  refine va_slen hx hb hX hbl hbA hw.2.2.1 dL_law_36 ?_
  refine lv_bipush (v := 6) hx hb dL_law_37 (by decide) ?_
  refine lv_isub hx hb dL_law_39 ?_
  refine W.widen (k := 58) (n := 133226) (Nat.le_of_ble_eq_true rfl) (Nat.le_of_ble_eq_true rfl) ?_
  refine lv_icmp_gt (tgt := 677) hx hb dL_law_40 (by decide) (fun _ => ?_) (fun cg => ?_)
  · exact law_fin hx hb hr hml hown hts hbl hlocks (Nat.le_of_ble_eq_true rfl) (Nat.le_of_ble_eq_true rfl) hw
  · obtain rfl : L = 7 := (show ∀ L, L < 8 → ¬ (Int32.ofNat L - 6 < 1) → L = 7 by decide +kernel) L (by omega) cg
    refine lv_aload_n hx hb dL_law_43 rfl (lv_at hl 4 rfl) ?_
    refine lv_iload hx hb dL_law_44 (lv_at hl 0 rfl) ?_
    refine va_sld hx hb hX hbl hbA hw.2.2.1 (show ¬ ((1 : Int32) < 0 ∨ 7 ≤ (1 : Int32).toNatClampNeg) by decide) dL_law_46 ?_
    refine hk_topi (xs 1) rfl ?_
    refine lv_bipush (v := 15) hx hb dL_law_47 (by decide) ?_
    refine lv_iand hx hb dL_law_49 ?_
    rcases hk_eqOr (xs 1 &&& 15) 0 with cc0 | cc0
    · refine lv_tableIn (tgt := 128) (off := 78) hx hb dL_law_50 (by rw [cc0]; decide) (by rw [cc0]; decide) (by rw [cc0]; rfl) (by decide) ?_
      exact law_c0 hlt hx hb hr hml hown hts hbl hlocks hX hZ hw hl
    rcases hk_eqOr (xs 1 &&& 15) 1 with cc1 | cc1
    · refine lv_tableIn (tgt := 165) (off := 115) hx hb dL_law_50 (by rw [cc1]; decide) (by rw [cc1]; decide) (by rw [cc1]; rfl) (by decide) ?_
      exact law_c1 hlt hx hb hr hml hown hts hbl hlocks hX hZ hw hl
    rcases hk_eqOr (xs 1 &&& 15) 2 with cc2 | cc2
    · refine lv_tableIn (tgt := 202) (off := 152) hx hb dL_law_50 (by rw [cc2]; decide) (by rw [cc2]; decide) (by rw [cc2]; rfl) (by decide) ?_
      exact law_c2 hlt hx hb hr hml hown hts hbl hlocks hX hZ hw hl
    rcases hk_eqOr (xs 1 &&& 15) 3 with cc3 | cc3
    · refine lv_tableIn (tgt := 275) (off := 225) hx hb dL_law_50 (by rw [cc3]; decide) (by rw [cc3]; decide) (by rw [cc3]; rfl) (by decide) ?_
      exact law_c3 hlt hx hb hr hml hown hts hbl hlocks hX hZ hw hl
    rcases hk_eqOr (xs 1 &&& 15) 4 with cc4 | cc4
    · refine lv_tableIn (tgt := 300) (off := 250) hx hb dL_law_50 (by rw [cc4]; decide) (by rw [cc4]; decide) (by rw [cc4]; rfl) (by decide) ?_
      exact law_c4 hlt hx hb hr hml hown hts hbl hlocks hX hZ hw hl
    rcases hk_eqOr (xs 1 &&& 15) 5 with cc5 | cc5
    · refine lv_tableIn (tgt := 325) (off := 275) hx hb dL_law_50 (by rw [cc5]; decide) (by rw [cc5]; decide) (by rw [cc5]; rfl) (by decide) ?_
      exact law_c5 hlt hx hb hr hml hown hts hbl hlocks hX hZ hw hl
    rcases hk_eqOr (xs 1 &&& 15) 6 with cc6 | cc6
    · refine lv_tableIn (tgt := 350) (off := 300) hx hb dL_law_50 (by rw [cc6]; decide) (by rw [cc6]; decide) (by rw [cc6]; rfl) (by decide) ?_
      exact law_c6 hlt hx hb hr hml hown hts hbl hlocks hX hZ hw hl
    rcases hk_eqOr (xs 1 &&& 15) 7 with cc7 | cc7
    · refine lv_tableIn (tgt := 375) (off := 325) hx hb dL_law_50 (by rw [cc7]; decide) (by rw [cc7]; decide) (by rw [cc7]; rfl) (by decide) ?_
      exact law_c7 hlt hx hb hr hml hown hts hbl hlocks hX hZ hw hl
    rcases hk_eqOr (xs 1 &&& 15) 8 with cc8 | cc8
    · refine lv_tableIn (tgt := 388) (off := 338) hx hb dL_law_50 (by rw [cc8]; decide) (by rw [cc8]; decide) (by rw [cc8]; rfl) (by decide) ?_
      exact law_c8 hlt hx hb hr hml hown hts hbl hlocks hX hZ hw hl
    rcases hk_eqOr (xs 1 &&& 15) 9 with cc9 | cc9
    · refine lv_tableIn (tgt := 401) (off := 351) hx hb dL_law_50 (by rw [cc9]; decide) (by rw [cc9]; decide) (by rw [cc9]; rfl) (by decide) ?_
      exact law_c9 hlt hx hb hr hml hown hts hbl hlocks hX hZ hw hl
    rcases hk_eqOr (xs 1 &&& 15) 10 with cc10 | cc10
    · refine lv_tableIn (tgt := 457) (off := 407) hx hb dL_law_50 (by rw [cc10]; decide) (by rw [cc10]; decide) (by rw [cc10]; rfl) (by decide) ?_
      exact law_c10 hlt hx hb hr hml hown hts hbl hlocks hX hZ hw hl
    rcases hk_eqOr (xs 1 &&& 15) 11 with cc11 | cc11
    · refine lv_tableIn (tgt := 494) (off := 444) hx hb dL_law_50 (by rw [cc11]; decide) (by rw [cc11]; decide) (by rw [cc11]; rfl) (by decide) ?_
      exact law_c11 hlt hx hb hr hml hown hts hbl hlocks hX hZ hw hl
    rcases hk_eqOr (xs 1 &&& 15) 12 with cc12 | cc12
    · refine lv_tableIn (tgt := 507) (off := 457) hx hb dL_law_50 (by rw [cc12]; decide) (by rw [cc12]; decide) (by rw [cc12]; rfl) (by decide) ?_
      exact law_c12 hlt hx hb hr hml hown hts hbl hlocks hX hZ hw hl
    rcases hk_eqOr (xs 1 &&& 15) 13 with cc13 | cc13
    · refine lv_tableIn (tgt := 544) (off := 494) hx hb dL_law_50 (by rw [cc13]; decide) (by rw [cc13]; decide) (by rw [cc13]; rfl) (by decide) ?_
      rcases hk_k4 (xs 2) with h | h | h | ⟨h1, h4, h10⟩
      · exact law_c13_1 hlt hx hb hr hml hown hts hbl hlocks hX hZ hw hl h
      · exact law_c13_4 hlt hx hb hr hml hown hts hbl hlocks hX hZ hw hl h
      · exact law_c13_10 hlt hx hb hr hml hown hts hbl hlocks hX hZ hw hl h
      · exact law_c13_N hlt hx hb hr hml hown hts hbl hlocks hX hZ hw hl h1 h4 h10
    rcases hk_eqOr (xs 1 &&& 15) 14 with cc14 | cc14
    · refine lv_tableIn (tgt := 581) (off := 531) hx hb dL_law_50 (by rw [cc14]; decide) (by rw [cc14]; decide) (by rw [cc14]; rfl) (by decide) ?_
      exact law_c14 hlt hx hb hr hml hown hts hbl hlocks hX hZ hw hl
    rcases hk_eqOr (xs 1 &&& 15) 15 with cc15 | cc15
    · refine lv_tableIn (tgt := 646) (off := 596) hx hb dL_law_50 (by rw [cc15]; decide) (by rw [cc15]; decide) (by rw [cc15]; rfl) (by decide) ?_
      exact law_c15 hlt hx hb hr hml hown hts hbl hlocks hX hZ hw hl
    refine lv_tableOut (tgt := 671) hx hb dL_law_50 (by simp only [← Int32.toInt_inj, hk_t0, hk_t1, hk_t2, hk_t3, hk_t4, hk_t5, hk_t6, hk_t7, hk_t8, hk_t9, hk_t10, hk_t11, hk_t12, hk_t13, hk_t14, hk_t15] at cc0 cc1 cc2 cc3 cc4 cc5 cc6 cc7 cc8 cc9 cc10 cc11 cc12 cc13 cc14 cc15; omega) (by decide) ?_
    exact law_end hx hb hr hml hown hts hbl hlocks hX (Nat.le_of_ble_eq_true rfl) (Nat.le_of_ble_eq_true rfl) hw (lv_sub hl [0, 4] rfl)
set_option maxHeartbeats 4000000 in
theorem lw_walk (l : Launch) (hlt : l.stackTraces = false) (b : Addr) (xs : List Int32) : MetFree l x (headSpec (Jvm.Cond.code x code maxLocals ret :: tables_1) room_1) (lw_P b xs) (fun _ _ _ _ _ => True) lw_Q := by
  refine MetFree.of_bodyS (code := code) (maxLocals := maxLocals) (ret := ret) (by decide) ?_ ?_
  · intro args s m h hn
    obtain ⟨meth, c, h1, h2, h3, h4, h5, h6, -, -⟩ := Cond.code_spec hn (atoms_spec (ws := Jvm.Cond.code x code maxLocals ret :: tables_1) h _ List.mem_cons_self)
    exact ⟨meth, c, h1, h2, h3, h4, h5, h6⟩
  · intro p e s m args below meth c s₁ B hml0 hP _
    obtain ⟨rfl, hx, hbd, hgv⟩ := hP
    obtain ⟨scr, harrAt, hlist, hof, hsmall⟩ := hx
    obtain ⟨hcb, hkn, -, -⟩ := State.arrayAt?_spec harrAt
    have hown : s.vm.findClass R_law = some m.cls := findClass_of_methodNamed B.named
    have hts0 : ∀ c ∈ (Jvm.Cond.code x code maxLocals ret :: tables_1), c.before #[Value.ref b] s = true := atoms_spec (ws := Jvm.Cond.code x code maxLocals ret :: tables_1) B.pre
    have hts : ∀ w ∈ lw_tbl, w.before #[Value.ref b] s = true := k2_hts_sels lw_privs (fun w hw => hts0 w (List.mem_cons_of_mem _ hw)) lw_privs_ok
    have hml : c.maxLocals = 7 := B.maxLocals_eq (hts0 _ List.mem_cons_self)
    have X₀ : Stand p l e room_1 s m #[Value.ref b] below meth c s₁ [] 0 0 := Stand.of_body B
    have hh0 : s₁.heap = s.heap := by rw [B.state]; rfl
    have hsz : scr.slots.size = xs.length := by rw [← Array.length_toList, hlist, List.length_map]
    have hval : ∀ j : Nat, j < xs.length → scr.slots[j]? = some (.int (xs.getD j 0)) := fun j hj => by
      rw [← Array.getElem?_toList, hlist]
      simp [hj]
    have hbl : b < s.heap.size := (Array.getElem?_eq_some_iff.mp hcb).1
    have hX : va_X b xs.length (fun j => xs.getD j 0) s s.heap := ⟨scr, hcb, hof, hkn, hsz, hval⟩
    have K : W p l e room_1 s m #[Value.ref b] below meth c s₁.heap [] 0 0 (lw_Z below #[Value.ref b] s) (entryFrame m ([Value.ref b] : List Value).toArray 7) := by
      rw [hh0]
      exact whole_start l hlt hbd ⟨B.exec, B.bytes, B.returns, hml, hown, hts, hX, hbl, B.notSynchronized, hgv⟩
    obtain ⟨t, a1, o, b1, b2, b3⟩ := K s₁ rfl X₀
    exact ⟨t, o, a1, b1, b2, b3⟩
theorem lw_pre_spec {args : Array Value} {s : State} (h : (Jvm.Cond.and given_1 narrow_1).before args s = true) (hr : rest_1_c.before args s = true) : ∃ (b : Addr) (xs : List Int32), lw_P b xs args s := by
  have hs := flat_of_before _ h
  have hq := flat_of_before _ hr
  have hc : (Cond.count 1).before args s = true := hs _ (by decide +kernel)
  have harr : (Cond.arrayOf (.arg 0) .int).before args s = true := hs _ (by decide +kernel)
  have hle : (Cond.le (.length (.arg 0)) (.int 7)).before args s = true := hs _ (by decide +kernel)
  have hlen : (Cond.isInt (.length (.arg 0))).before args s = true := hq _ (by decide +kernel)
  have hall : (Cond.all (.arg 0) (.isInt (.elem (.arg 0) (.index 0)))).before args s = true := hq _ (by decide +kernel)
  obtain ⟨b, xs, hb, hx⟩ := State.ints_of_pre rfl harr hlen hall
  have hsm : xs.length < 2 ^ 31 := hx.choose_spec.2.2.2
  have hev : (Term.length (.arg 0)).eval args s none [] s = some (.int xs.length.toInt32) := hx.length_eval hb
  have hv := Cond.le_ints hev (show (Term.int 7).eval args s none [] s = some (.int 7) from rfl)
  have hd : xs.length.toInt32 ≤ 7 := by
    simpa [Cond.before, Cond.holds, hv] using hle
  have hN : xs.length ≤ 7 := (Int32.ofNat_le_ofNat hsm (by decide)).mp (show Int32.ofNat xs.length ≤ Int32.ofNat 7 from hd)
  exact ⟨b, xs, Cond.one_arg hc (show args[0]? = some (.ref b) from hb), hx, hN, h⟩
theorem lw_comes (l : Launch) (hlt : l.stackTraces = false) : Comes l x (Jvm.Cond.code x code maxLocals ret :: tables_1) room_1 (fun tb e args s => Calls_1 tb e args s ∧ rest_1 tb e args s ∧ Pre_1 tb e args s)
    (fun _ _ args s o t => lw_Q args s o t) := by
  intro p e ha hc hk s m args below hf hfit hheap happ hpre
  obtain ⟨b, xs, hP⟩ := lw_pre_spec hpre.2.2 hpre.2.1
  obtain ⟨k, o, h1, h2, h3, hQ⟩ := lw_walk l hlt b xs p e ha hc hk s m args below hf ((Spec.applies_iff_loose hf).mp happ).1 hP trivial
  exact ⟨k, o, h1, h2, h3, hQ⟩
theorem lw_frame {s t : State} {o : Outcome} {args : Array Value} (h : Framed s o t [] 600002 7302198) :
    Framed s o t (fieldLocs frame_1_writes args s ++ arrayLocs frame_1_arrays args s ++ staticLocs frame_1_statics s) 600002 7302198 := h
theorem lw_limb (L : Cond) (hL : ∀ (args : Array Value) (s t : State), L.after args s (.returned (some (.int 1))) t = true) :
    ArmFor flags0 classFile x code maxLocals ret World_1 tables_1 room_1 Calls_1 rest_1 Pre_1
      (fun tb e a s o t => postC L tb e a s o t ∧ Framed s o t (fieldLocs frame_1_writes a s ++ arrayLocs frame_1_arrays a s ++ staticLocs frame_1_statics s) 600002 7302198) := by
  intro l hfl _ _ p e ha hc hk s m args below hf hfit hheap happ hpre
  have hlt : l.stackTraces = false := by
    show (!l.flags.contains noTraceFlag) = false
    rw [hfl]
    decide +kernel
  obtain ⟨k, o, h1, h2, h3, rfl, hF⟩ := lw_comes l hlt p e ha hc hk s m args below hf hfit hheap happ hpre
  exact ⟨k, _, h1, h2, h3, hL args s _, lw_frame hF⟩
theorem i_vc : Claimed_1_1 ∧ Claimed_1_2 := ⟨lw_limb limb_1_1 (fun args s t => by simp [limb_1_1, Cond.after, Cond.holds, Cond.value]), lw_limb limb_1_2 (fun args s t => Cond.after_iff.mpr (by
  first | (rw [show limb_1_2 = Cond.eq .result (.int 1) from rfl, Cond.eq_ints (x := 1) (y := 1) rfl rfl]; simp; done) | (simp [limb_1_2, Cond.value, Term.eval]; done)))⟩

