def ww_cn_turned : List Cond := Cond.code yX12_turned cX12_turned 2 (some .int) :: ([] ++ ([]))
set_option maxHeartbeats 4000000 in
set_option maxRecDepth 100000 in
/-- turning right -/
theorem cn_turned (l : Launch) (D : va_G) (cI cJ : ClassId) (ad : Nat → Nat) (g : Nat → Int32) (lg : Nat → Int64) (ar : Nat → Nat → Int32) (bk : Nat → Int64) (sz : Nat) (x n : Int32) : Met l yX12_turned ww_cn_turned { frames := 0, cells := 0, slots := 0, locals := 0 } (va_Pc [.int x, .int n] (hk_B D [(cI, .int), (cJ, .long)] sz (mw cI cJ ad g lg ar bk))) (va_Qi (fun (r : Int32) (u : Unit) => r = hs_t x n) (fun u : Unit => hk_E D [(cI, .int), (cJ, .long)] (va_A (mw cI cJ ad g lg ar bk) sz) (mw cI cJ ad g lg ar bk)) (va_A (mw cI cJ ad g lg ar bk) sz)) 0 0 (va_A (mw cI cJ ad g lg ar bk) sz) := by
  refine hk_met (cc := cX12_turned) (maxL := 2) (ret := (some .int)) (by decide) rfl (Nat.le_of_ble_eq_true rfl) ?_
  intro p e s m below meth c ls hx hb hr hml hown hts hlocks hin hA hw hl
  have hl : lv_has ls 2 [(0, .int x), (1, .int n)] := hl
  refine lv_iload_n hx hb dX12_turned_0 rfl (lv_at hl 0 rfl) ?_
  refine lv_iload_n hx hb dX12_turned_1 rfl (lv_at hl 1 rfl) ?_
  refine lv_iushr (v := ((x : Int32).toUInt32 >>> ((n : Int32).toUInt32 &&& Int32.toUInt32 31)).toInt32) hx hb dX12_turned_2 rfl ?_
  refine lv_iload_n hx hb dX12_turned_3 rfl (lv_at hl 0 rfl) ?_
  refine lv_bipush (v := 32) hx hb dX12_turned_4 (by decide) ?_
  refine lv_iload_n hx hb dX12_turned_6 rfl (lv_at hl 1 rfl) ?_
  refine lv_isub hx hb dX12_turned_7 ?_
  refine lv_ishl hx hb dX12_turned_8 ?_
  refine lv_ior hx hb dX12_turned_9 ?_
  exact hk_iret (u := ()) hx hb hr hlocks (hw) (rfl) dX12_turned_10

theorem hs_aw {f P : Nat → Int32} {n m : Nat} {v : Int32} (h : ∀ w, 4 * w < n → f w = P w) (hm : m = n / 4) (hv : v = P (n / 4)) : ∀ w, 4 * w < n + 1 → upd f m v w = P w := by
  intro w hw
  subst hm hv
  by_cases e : w = n / 4
  · subst e; simp [upd]
  · simp only [upd, if_neg e]; exact h w (by omega)

def ww_cn_mixSha : List Cond := Cond.code yX12_mixSha cX12_mixSha 12 none :: ([Cond.fieldLink RX12 38 "LzmaChainsModel" "sha" "[I", Cond.methodLink RX12 160 yX12_turned, Cond.static yX12_turned, Cond.initialized RX12, Cond.code yX12_turned cX12_turned 2 (some .int), Cond.fieldLink RX12 164 "LzmaChainsModel" "ROUND" "[I", Cond.fieldLink RX12 41 "LzmaChainsModel" "shaRow" "[I"] ++ (wsX120 ++ ([])))
set_option maxRecDepth 20000 in
theorem gw_cn_mixSha_0 : GoodIn ww_cn_mixSha (va_wsS RX12 160 yX12_turned ww_cn_turned) := goodIn_r _ [2, 3, 4, 5] rfl (by decide +kernel)
set_option maxHeartbeats 4000000 in
set_option maxRecDepth 100000 in
/-- the reference: mixSha -/
theorem cn_mixSha (l : Launch) (t3 : Nat × Nat × Nat) (D : va_G) (cI cJ : ClassId) (ad : Nat → Nat) (g : Nat → Int32) (lg : Nat → Int64) (ar : Nat → Nat → Int32) (bk : Nat → Int64) (sz : Nat) (h8 : ∀ j, j < 8 → ar 3 j = hs_H j) (h16 : ∀ j, j < 16 → ar 4 j = hs_L j) : Met l yX12_mixSha ww_cn_mixSha { frames := 1, cells := 0, slots := 0, locals := 21 } (va_Pc [.ref (ad 0)] (hk_BY t3 D [(cI, .int), (cJ, .long)] sz (mw cI cJ ad g lg ar bk))) (va_Qv (fun u : (Nat → Int32) × (Nat → Int32) => ∀ j, j < 8 → u.1 j = hs_O j) (fun u : (Nat → Int32) × (Nat → Int32) => hk_E D [(cI, .int), (cJ, .long)] (va_A (mw cI cJ ad g lg ar bk) sz) (mw cI cJ ad g lg (va_up (va_up ar 4 u.2) 3 u.1) bk)) (va_A (mw cI cJ ad g lg ar bk) sz)) 0 0 (va_A (mw cI cJ ad g lg ar bk) sz) := by
  refine hk_smet (t3 := t3) (cc := cX12_mixSha) (maxL := 12) (ret := none) (by decide) rfl (Nat.le_of_ble_eq_true rfl) ?_
  intro p e s m below meth c ls hx hb hr hml hown hts hlocks hin hA hZ hw hl
  have iX12 : ∀ w ∈ wsX120, w ∈ ww_cn_mixSha := fun _ h => List.mem_cons_of_mem _ (List.mem_append_right _ (List.mem_append_left _ h))
  have hl : lv_has ls 12 [(0, .ref (ad 0))] := hl
  refine lv_bipush (v := 16) hx hb dX12_mixSha_0 (by decide) ?_
  refine lv_istore_n (lv' := [(1, .int 16), (0, .ref (ad 0))]) hx hb dX12_mixSha_2 rfl hl (by decide) rfl (fun ls hl => ?_)
  have loop_2 : ∀ (ki i : Nat) (jj_1 : Nat → Int32) (ls : Array Slot) (H : Heap) (locs : List Loc), i + ki = 64 → 16 ≤ i → (∀ j, j < i → jj_1 j = hs_L j) → hk_W D [(cI, .int), (cJ, .long)] (va_A (mw cI cJ ad g lg ar bk) sz) s H locs (mw cI cJ ad g lg (va_up ar 4 jj_1) bk) → lv_has ls 12 [(1, .int (nI i)), (0, .ref (ad 0))] → W p l e { frames := 1, cells := 0, slots := 0, locals := 21 } s m (List.toArray [.ref (ad 0)]) below meth c H locs 0 0 (MQ below (va_Qv (fun u : (Nat → Int32) × (Nat → Int32) => ∀ j, j < 8 → u.1 j = hs_O j) (fun u : (Nat → Int32) × (Nat → Int32) => hk_E D [(cI, .int), (cJ, .long)] (va_A (mw cI cJ ad g lg ar bk) sz) (mw cI cJ ad g lg (va_up (va_up ar 4 u.2) 3 u.1) bk)) (va_A (mw cI cJ ad g lg ar bk) sz)) (List.toArray [.ref (ad 0)]) s 0 0 (va_A (mw cI cJ ad g lg ar bk) sz)) (F0 m 3 ls []) := by
    intro ki
    induction ki with
    | zero =>
      intro i jj_1 ls H locs hik hge hL hw hl
      refine lv_iload_n hx hb dX12_mixSha_3 rfl (lv_at hl 0 rfl) ?_
      refine lv_bipush (v := 64) hx hb dX12_mixSha_4 (by decide) ?_
      refine lv_icmp_ge (tgt := 96) hx hb dX12_mixSha_6 (by decide) (fun _ => ?_) (fun cc_3 => absurd (hk_le (a := 64) (b := i) (by omega) (by omega)) cc_3)
      refine lv_aload_n hx hb dX12_mixSha_96 rfl (lv_at hl 1 rfl) ?_
      refine hk_get (ci := 15) (C := RX12) (T := TX12) (N := 92) (v := .ref (ad 4)) hx hb hts iX12 hown hw 0 rfl rfl 19 (by decide) (hts _ (List.mem_of_getElem? (i := 1) rfl)) rfl dX12_mixSha_97 ?_
      refine lv_iconst (v := 0) hx hb dX12_mixSha_100 (by decide) ?_
      refine hk_iald (v := (hs_M 0 0)) hx hb hw 4 0 rfl rfl (show ¬ (_ ∨ _) by decide) dX12_mixSha_101 ((h8 0 (by decide)).trans (by decide +kernel)) ?_
      refine lv_istore_n (lv' := [(1, .int (hs_M 0 0)), (0, .ref (ad 0))]) hx hb dX12_mixSha_102 rfl hl (by decide) rfl (fun ls hl => ?_)
      refine lv_aload_n hx hb dX12_mixSha_103 rfl (lv_at hl 1 rfl) ?_
      refine hk_get (ci := 15) (C := RX12) (T := TX12) (N := 92) (v := .ref (ad 4)) hx hb hts iX12 hown hw 0 rfl rfl 19 (by decide) (hts _ (List.mem_of_getElem? (i := 1) rfl)) rfl dX12_mixSha_104 ?_
      refine lv_iconst (v := 1) hx hb dX12_mixSha_107 (by decide) ?_
      refine hk_iald (v := (hs_M 0 1)) hx hb hw 4 0 rfl rfl (show ¬ (_ ∨ _) by decide) dX12_mixSha_108 ((h8 1 (by decide)).trans (by decide +kernel)) ?_
      refine lv_istore_n (lv' := [(2, .int (hs_M 0 1)), (1, .int (hs_M 0 0)), (0, .ref (ad 0))]) hx hb dX12_mixSha_109 rfl hl (by decide) rfl (fun ls hl => ?_)
      refine lv_aload_n hx hb dX12_mixSha_110 rfl (lv_at hl 2 rfl) ?_
      refine hk_get (ci := 15) (C := RX12) (T := TX12) (N := 92) (v := .ref (ad 4)) hx hb hts iX12 hown hw 0 rfl rfl 19 (by decide) (hts _ (List.mem_of_getElem? (i := 1) rfl)) rfl dX12_mixSha_111 ?_
      refine lv_iconst (v := 2) hx hb dX12_mixSha_114 (by decide) ?_
      refine hk_iald (v := (hs_M 0 2)) hx hb hw 4 0 rfl rfl (show ¬ (_ ∨ _) by decide) dX12_mixSha_115 ((h8 2 (by decide)).trans (by decide +kernel)) ?_
      refine lv_istore_n (lv' := [(3, .int (hs_M 0 2)), (2, .int (hs_M 0 1)), (1, .int (hs_M 0 0)), (0, .ref (ad 0))]) hx hb dX12_mixSha_116 rfl hl (by decide) rfl (fun ls hl => ?_)
      refine lv_aload_n hx hb dX12_mixSha_117 rfl (lv_at hl 3 rfl) ?_
      refine hk_get (ci := 15) (C := RX12) (T := TX12) (N := 92) (v := .ref (ad 4)) hx hb hts iX12 hown hw 0 rfl rfl 19 (by decide) (hts _ (List.mem_of_getElem? (i := 1) rfl)) rfl dX12_mixSha_118 ?_
      refine lv_iconst (v := 3) hx hb dX12_mixSha_121 (by decide) ?_
      refine hk_iald (v := (hs_M 0 3)) hx hb hw 4 0 rfl rfl (show ¬ (_ ∨ _) by decide) dX12_mixSha_122 ((h8 3 (by decide)).trans (by decide +kernel)) ?_
      refine lv_istore (lv' := [(4, .int (hs_M 0 3)), (3, .int (hs_M 0 2)), (2, .int (hs_M 0 1)), (1, .int (hs_M 0 0)), (0, .ref (ad 0))]) hx hb dX12_mixSha_123 hl (by decide) rfl (fun ls hl => ?_)
      refine lv_aload_n hx hb dX12_mixSha_125 rfl (lv_at hl 4 rfl) ?_
      refine hk_get (ci := 15) (C := RX12) (T := TX12) (N := 92) (v := .ref (ad 4)) hx hb hts iX12 hown hw 0 rfl rfl 19 (by decide) (hts _ (List.mem_of_getElem? (i := 1) rfl)) rfl dX12_mixSha_126 ?_
      refine lv_iconst (v := 4) hx hb dX12_mixSha_129 (by decide) ?_
      refine hk_iald (v := (hs_M 0 4)) hx hb hw 4 0 rfl rfl (show ¬ (_ ∨ _) by decide) dX12_mixSha_130 ((h8 4 (by decide)).trans (by decide +kernel)) ?_
      refine lv_istore (lv' := [(5, .int (hs_M 0 4)), (4, .int (hs_M 0 3)), (3, .int (hs_M 0 2)), (2, .int (hs_M 0 1)), (1, .int (hs_M 0 0)), (0, .ref (ad 0))]) hx hb dX12_mixSha_131 hl (by decide) rfl (fun ls hl => ?_)
      refine lv_aload_n hx hb dX12_mixSha_133 rfl (lv_at hl 5 rfl) ?_
      refine hk_get (ci := 15) (C := RX12) (T := TX12) (N := 92) (v := .ref (ad 4)) hx hb hts iX12 hown hw 0 rfl rfl 19 (by decide) (hts _ (List.mem_of_getElem? (i := 1) rfl)) rfl dX12_mixSha_134 ?_
      refine lv_iconst (v := 5) hx hb dX12_mixSha_137 (by decide) ?_
      refine hk_iald (v := (hs_M 0 5)) hx hb hw 4 0 rfl rfl (show ¬ (_ ∨ _) by decide) dX12_mixSha_138 ((h8 5 (by decide)).trans (by decide +kernel)) ?_
      refine lv_istore (lv' := [(6, .int (hs_M 0 5)), (5, .int (hs_M 0 4)), (4, .int (hs_M 0 3)), (3, .int (hs_M 0 2)), (2, .int (hs_M 0 1)), (1, .int (hs_M 0 0)), (0, .ref (ad 0))]) hx hb dX12_mixSha_139 hl (by decide) rfl (fun ls hl => ?_)
      refine lv_aload_n hx hb dX12_mixSha_141 rfl (lv_at hl 6 rfl) ?_
      refine hk_get (ci := 15) (C := RX12) (T := TX12) (N := 92) (v := .ref (ad 4)) hx hb hts iX12 hown hw 0 rfl rfl 19 (by decide) (hts _ (List.mem_of_getElem? (i := 1) rfl)) rfl dX12_mixSha_142 ?_
      refine lv_bipush (v := 6) hx hb dX12_mixSha_145 (by decide) ?_
      refine hk_iald (v := (hs_M 0 6)) hx hb hw 4 0 rfl rfl (show ¬ (_ ∨ _) by decide) dX12_mixSha_147 ((h8 6 (by decide)).trans (by decide +kernel)) ?_
      refine lv_istore (lv' := [(7, .int (hs_M 0 6)), (6, .int (hs_M 0 5)), (5, .int (hs_M 0 4)), (4, .int (hs_M 0 3)), (3, .int (hs_M 0 2)), (2, .int (hs_M 0 1)), (1, .int (hs_M 0 0)), (0, .ref (ad 0))]) hx hb dX12_mixSha_148 hl (by decide) rfl (fun ls hl => ?_)
      refine lv_aload_n hx hb dX12_mixSha_150 rfl (lv_at hl 7 rfl) ?_
      refine hk_get (ci := 15) (C := RX12) (T := TX12) (N := 92) (v := .ref (ad 4)) hx hb hts iX12 hown hw 0 rfl rfl 19 (by decide) (hts _ (List.mem_of_getElem? (i := 1) rfl)) rfl dX12_mixSha_151 ?_
      refine lv_bipush (v := 7) hx hb dX12_mixSha_154 (by decide) ?_
      refine hk_iald (v := (hs_M 0 7)) hx hb hw 4 0 rfl rfl (show ¬ (_ ∨ _) by decide) dX12_mixSha_156 ((h8 7 (by decide)).trans (by decide +kernel)) ?_
      refine lv_istore (lv' := [(8, .int (hs_M 0 7)), (7, .int (hs_M 0 6)), (6, .int (hs_M 0 5)), (5, .int (hs_M 0 4)), (4, .int (hs_M 0 3)), (3, .int (hs_M 0 2)), (2, .int (hs_M 0 1)), (1, .int (hs_M 0 0)), (0, .ref (ad 0))]) hx hb dX12_mixSha_157 hl (by decide) rfl (fun ls hl => ?_)
      refine lv_iconst (v := 0) hx hb dX12_mixSha_159 (by decide) ?_
      refine lv_istore (lv' := [(9, .int 0), (8, .int (hs_M 0 7)), (7, .int (hs_M 0 6)), (6, .int (hs_M 0 5)), (5, .int (hs_M 0 4)), (4, .int (hs_M 0 3)), (3, .int (hs_M 0 2)), (2, .int (hs_M 0 1)), (1, .int (hs_M 0 0)), (0, .ref (ad 0))]) hx hb dX12_mixSha_160 hl (by decide) rfl (fun ls hl => ?_)
      have loop_4 : ∀ (kk k : Nat) (ls : Array Slot) (H : Heap) (locs : List Loc), k + kk = 64 → hk_W D [(cI, .int), (cJ, .long)] (va_A (mw cI cJ ad g lg ar bk) sz) s H locs (mw cI cJ ad g lg (va_up ar 4 jj_1) bk) → lv_has ls 12 [(9, .int (nI k)), (8, .int (hs_M k 7)), (7, .int (hs_M k 6)), (6, .int (hs_M k 5)), (5, .int (hs_M k 4)), (4, .int (hs_M k 3)), (3, .int (hs_M k 2)), (2, .int (hs_M k 1)), (1, .int (hs_M k 0)), (0, .ref (ad 0))] → W p l e { frames := 1, cells := 0, slots := 0, locals := 21 } s m (List.toArray [.ref (ad 0)]) below meth c H locs 0 0 (MQ below (va_Qv (fun u : (Nat → Int32) × (Nat → Int32) => ∀ j, j < 8 → u.1 j = hs_O j) (fun u : (Nat → Int32) × (Nat → Int32) => hk_E D [(cI, .int), (cJ, .long)] (va_A (mw cI cJ ad g lg ar bk) sz) (mw cI cJ ad g lg (va_up (va_up ar 4 u.2) 3 u.1) bk)) (va_A (mw cI cJ ad g lg ar bk) sz)) (List.toArray [.ref (ad 0)]) s 0 0 (va_A (mw cI cJ ad g lg ar bk) sz)) (F0 m 162 ls []) := by
        intro kk
        induction kk with
        | zero =>
          intro k  ls H locs hkk  hw hl
          refine lv_iload hx hb dX12_mixSha_162 (lv_at hl 0 rfl) ?_
          refine lv_bipush (v := 64) hx hb dX12_mixSha_164 (by decide) ?_
          refine lv_icmp_ge (tgt := 297) hx hb dX12_mixSha_166 (by decide) (fun _ => ?_) (fun cc_5 => absurd (hk_le (a := 64) (b := k) (by omega) (by omega)) cc_5)
          refine lv_aload_n hx hb dX12_mixSha_297 rfl (lv_at hl 9 rfl) ?_
          refine hk_get (ci := 15) (C := RX12) (T := TX12) (N := 92) (v := .ref (ad 4)) hx hb hts iX12 hown hw 0 rfl rfl 19 (by decide) (hts _ (List.mem_of_getElem? (i := 1) rfl)) rfl dX12_mixSha_298 ?_
          refine lv_iconst (v := 0) hx hb dX12_mixSha_301 (by decide) ?_
          refine lv_dup2_11 hx hb dX12_mixSha_302 rfl rfl ?_
          refine hk_iald (v := (hs_H 0)) hx hb hw 4 0 rfl rfl (show ¬ (_ ∨ _) by decide) dX12_mixSha_303 (h8 0 (by decide)) ?_
          refine lv_iload_n hx hb dX12_mixSha_304 rfl (lv_at hl 8 rfl) ?_
          refine lv_iadd hx hb dX12_mixSha_305 ?_
          refine hk_topi (hs_O 0) (by rw [show k = 64 by omega]; decide +kernel) ?_
          refine hk_iast hx hb hw 4 0 rfl rfl (show ¬ (_ ∨ _) by decide) dX12_mixSha_306 (ws' := mw cI cJ ad g lg (va_up (va_up ar 4 jj_1) 3 (upd (ar 3) 0 (hs_O 0))) bk) rfl (fun H locs hw => ?_)
          refine lv_aload_n hx hb dX12_mixSha_307 rfl (lv_at hl 9 rfl) ?_
          refine hk_get (ci := 15) (C := RX12) (T := TX12) (N := 92) (v := .ref (ad 4)) hx hb hts iX12 hown hw 0 rfl rfl 19 (by decide) (hts _ (List.mem_of_getElem? (i := 1) rfl)) rfl dX12_mixSha_308 ?_
          refine lv_iconst (v := 1) hx hb dX12_mixSha_311 (by decide) ?_
          refine lv_dup2_11 hx hb dX12_mixSha_312 rfl rfl ?_
          refine hk_iald (v := (hs_H 1)) hx hb hw 4 0 rfl rfl (show ¬ (_ ∨ _) by decide) dX12_mixSha_313 (h8 1 (by decide)) ?_
          refine lv_iload_n hx hb dX12_mixSha_314 rfl (lv_at hl 7 rfl) ?_
          refine lv_iadd hx hb dX12_mixSha_315 ?_
          refine hk_topi (hs_O 1) (by rw [show k = 64 by omega]; decide +kernel) ?_
          refine hk_iast hx hb hw 4 0 rfl rfl (show ¬ (_ ∨ _) by decide) dX12_mixSha_316 (ws' := mw cI cJ ad g lg (va_up (va_up ar 4 jj_1) 3 (upd (upd (ar 3) 0 (hs_O 0)) 1 (hs_O 1))) bk) rfl (fun H locs hw => ?_)
          refine lv_aload_n hx hb dX12_mixSha_317 rfl (lv_at hl 9 rfl) ?_
          refine hk_get (ci := 15) (C := RX12) (T := TX12) (N := 92) (v := .ref (ad 4)) hx hb hts iX12 hown hw 0 rfl rfl 19 (by decide) (hts _ (List.mem_of_getElem? (i := 1) rfl)) rfl dX12_mixSha_318 ?_
          refine lv_iconst (v := 2) hx hb dX12_mixSha_321 (by decide) ?_
          refine lv_dup2_11 hx hb dX12_mixSha_322 rfl rfl ?_
          refine hk_iald (v := (hs_H 2)) hx hb hw 4 0 rfl rfl (show ¬ (_ ∨ _) by decide) dX12_mixSha_323 (h8 2 (by decide)) ?_
          refine lv_iload_n hx hb dX12_mixSha_324 rfl (lv_at hl 6 rfl) ?_
          refine lv_iadd hx hb dX12_mixSha_325 ?_
          refine hk_topi (hs_O 2) (by rw [show k = 64 by omega]; decide +kernel) ?_
          refine hk_iast hx hb hw 4 0 rfl rfl (show ¬ (_ ∨ _) by decide) dX12_mixSha_326 (ws' := mw cI cJ ad g lg (va_up (va_up ar 4 jj_1) 3 (upd (upd (upd (ar 3) 0 (hs_O 0)) 1 (hs_O 1)) 2 (hs_O 2))) bk) rfl (fun H locs hw => ?_)
          refine lv_aload_n hx hb dX12_mixSha_327 rfl (lv_at hl 9 rfl) ?_
          refine hk_get (ci := 15) (C := RX12) (T := TX12) (N := 92) (v := .ref (ad 4)) hx hb hts iX12 hown hw 0 rfl rfl 19 (by decide) (hts _ (List.mem_of_getElem? (i := 1) rfl)) rfl dX12_mixSha_328 ?_
          refine lv_iconst (v := 3) hx hb dX12_mixSha_331 (by decide) ?_
          refine lv_dup2_11 hx hb dX12_mixSha_332 rfl rfl ?_
          refine hk_iald (v := (hs_H 3)) hx hb hw 4 0 rfl rfl (show ¬ (_ ∨ _) by decide) dX12_mixSha_333 (h8 3 (by decide)) ?_
          refine lv_iload hx hb dX12_mixSha_334 (lv_at hl 5 rfl) ?_
          refine lv_iadd hx hb dX12_mixSha_336 ?_
          refine hk_topi (hs_O 3) (by rw [show k = 64 by omega]; decide +kernel) ?_
          refine hk_iast hx hb hw 4 0 rfl rfl (show ¬ (_ ∨ _) by decide) dX12_mixSha_337 (ws' := mw cI cJ ad g lg (va_up (va_up ar 4 jj_1) 3 (upd (upd (upd (upd (ar 3) 0 (hs_O 0)) 1 (hs_O 1)) 2 (hs_O 2)) 3 (hs_O 3))) bk) rfl (fun H locs hw => ?_)
          refine lv_aload_n hx hb dX12_mixSha_338 rfl (lv_at hl 9 rfl) ?_
          refine hk_get (ci := 15) (C := RX12) (T := TX12) (N := 92) (v := .ref (ad 4)) hx hb hts iX12 hown hw 0 rfl rfl 19 (by decide) (hts _ (List.mem_of_getElem? (i := 1) rfl)) rfl dX12_mixSha_339 ?_
          refine lv_iconst (v := 4) hx hb dX12_mixSha_342 (by decide) ?_
          refine lv_dup2_11 hx hb dX12_mixSha_343 rfl rfl ?_
          refine hk_iald (v := (hs_H 4)) hx hb hw 4 0 rfl rfl (show ¬ (_ ∨ _) by decide) dX12_mixSha_344 (h8 4 (by decide)) ?_
          refine lv_iload hx hb dX12_mixSha_345 (lv_at hl 4 rfl) ?_
          refine lv_iadd hx hb dX12_mixSha_347 ?_
          refine hk_topi (hs_O 4) (by rw [show k = 64 by omega]; decide +kernel) ?_
          refine hk_iast hx hb hw 4 0 rfl rfl (show ¬ (_ ∨ _) by decide) dX12_mixSha_348 (ws' := mw cI cJ ad g lg (va_up (va_up ar 4 jj_1) 3 (upd (upd (upd (upd (upd (ar 3) 0 (hs_O 0)) 1 (hs_O 1)) 2 (hs_O 2)) 3 (hs_O 3)) 4 (hs_O 4))) bk) rfl (fun H locs hw => ?_)
          refine lv_aload_n hx hb dX12_mixSha_349 rfl (lv_at hl 9 rfl) ?_
          refine hk_get (ci := 15) (C := RX12) (T := TX12) (N := 92) (v := .ref (ad 4)) hx hb hts iX12 hown hw 0 rfl rfl 19 (by decide) (hts _ (List.mem_of_getElem? (i := 1) rfl)) rfl dX12_mixSha_350 ?_
          refine lv_iconst (v := 5) hx hb dX12_mixSha_353 (by decide) ?_
          refine lv_dup2_11 hx hb dX12_mixSha_354 rfl rfl ?_
          refine hk_iald (v := (hs_H 5)) hx hb hw 4 0 rfl rfl (show ¬ (_ ∨ _) by decide) dX12_mixSha_355 (h8 5 (by decide)) ?_
          refine lv_iload hx hb dX12_mixSha_356 (lv_at hl 3 rfl) ?_
          refine lv_iadd hx hb dX12_mixSha_358 ?_
          refine hk_topi (hs_O 5) (by rw [show k = 64 by omega]; decide +kernel) ?_
          refine hk_iast hx hb hw 4 0 rfl rfl (show ¬ (_ ∨ _) by decide) dX12_mixSha_359 (ws' := mw cI cJ ad g lg (va_up (va_up ar 4 jj_1) 3 (upd (upd (upd (upd (upd (upd (ar 3) 0 (hs_O 0)) 1 (hs_O 1)) 2 (hs_O 2)) 3 (hs_O 3)) 4 (hs_O 4)) 5 (hs_O 5))) bk) rfl (fun H locs hw => ?_)
          refine lv_aload_n hx hb dX12_mixSha_360 rfl (lv_at hl 9 rfl) ?_
          refine hk_get (ci := 15) (C := RX12) (T := TX12) (N := 92) (v := .ref (ad 4)) hx hb hts iX12 hown hw 0 rfl rfl 19 (by decide) (hts _ (List.mem_of_getElem? (i := 1) rfl)) rfl dX12_mixSha_361 ?_
          refine lv_bipush (v := 6) hx hb dX12_mixSha_364 (by decide) ?_
          refine lv_dup2_11 hx hb dX12_mixSha_366 rfl rfl ?_
          refine hk_iald (v := (hs_H 6)) hx hb hw 4 0 rfl rfl (show ¬ (_ ∨ _) by decide) dX12_mixSha_367 (h8 6 (by decide)) ?_
          refine lv_iload hx hb dX12_mixSha_368 (lv_at hl 2 rfl) ?_
          refine lv_iadd hx hb dX12_mixSha_370 ?_
          refine hk_topi (hs_O 6) (by rw [show k = 64 by omega]; decide +kernel) ?_
          refine hk_iast hx hb hw 4 0 rfl rfl (show ¬ (_ ∨ _) by decide) dX12_mixSha_371 (ws' := mw cI cJ ad g lg (va_up (va_up ar 4 jj_1) 3 (upd (upd (upd (upd (upd (upd (upd (ar 3) 0 (hs_O 0)) 1 (hs_O 1)) 2 (hs_O 2)) 3 (hs_O 3)) 4 (hs_O 4)) 5 (hs_O 5)) 6 (hs_O 6))) bk) rfl (fun H locs hw => ?_)
          refine lv_aload_n hx hb dX12_mixSha_372 rfl (lv_at hl 9 rfl) ?_
          refine hk_get (ci := 15) (C := RX12) (T := TX12) (N := 92) (v := .ref (ad 4)) hx hb hts iX12 hown hw 0 rfl rfl 19 (by decide) (hts _ (List.mem_of_getElem? (i := 1) rfl)) rfl dX12_mixSha_373 ?_
          refine lv_bipush (v := 7) hx hb dX12_mixSha_376 (by decide) ?_
          refine lv_dup2_11 hx hb dX12_mixSha_378 rfl rfl ?_
          refine hk_iald (v := (hs_H 7)) hx hb hw 4 0 rfl rfl (show ¬ (_ ∨ _) by decide) dX12_mixSha_379 (h8 7 (by decide)) ?_
          refine lv_iload hx hb dX12_mixSha_380 (lv_at hl 1 rfl) ?_
          refine lv_iadd hx hb dX12_mixSha_382 ?_
          refine hk_topi (hs_O 7) (by rw [show k = 64 by omega]; decide +kernel) ?_
          refine hk_iast hx hb hw 4 0 rfl rfl (show ¬ (_ ∨ _) by decide) dX12_mixSha_383 (ws' := mw cI cJ ad g lg (va_up (va_up ar 4 jj_1) 3 (upd (upd (upd (upd (upd (upd (upd (upd (ar 3) 0 (hs_O 0)) 1 (hs_O 1)) 2 (hs_O 2)) 3 (hs_O 3)) 4 (hs_O 4)) 5 (hs_O 5)) 6 (hs_O 6)) 7 (hs_O 7))) bk) rfl (fun H locs hw => ?_)
          exact hk_vret (u := ((upd (upd (upd (upd (upd (upd (upd (upd (ar 3) 0 (hs_O 0)) 1 (hs_O 1)) 2 (hs_O 2)) 3 (hs_O 3)) 4 (hs_O 4)) 5 (hs_O 5)) 6 (hs_O 6)) 7 (hs_O 7)), jj_1)) hx hb hr hlocks (show hk_W D [(cI, .int), (cJ, .long)] _ s _ _ (mw cI cJ ad g lg (va_up (va_up ar 4 (((upd (upd (upd (upd (upd (upd (upd (upd (ar 3) 0 (hs_O 0)) 1 (hs_O 1)) 2 (hs_O 2)) 3 (hs_O 3)) 4 (hs_O 4)) 5 (hs_O 5)) 6 (hs_O 6)) 7 (hs_O 7)), jj_1).2)) 3 (((upd (upd (upd (upd (upd (upd (upd (upd (ar 3) 0 (hs_O 0)) 1 (hs_O 1)) 2 (hs_O 2)) 3 (hs_O 3)) 4 (hs_O 4)) 5 (hs_O 5)) 6 (hs_O 6)) 7 (hs_O 7)), jj_1).1)) bk) from hw) (fun j hj => by match j, hj with | 0, _ => rfl | 1, _ => rfl | 2, _ => rfl | 3, _ => rfl | 4, _ => rfl | 5, _ => rfl | 6, _ => rfl | 7, _ => rfl) dX12_mixSha_384
        | succ kk ihk =>
          intro k  ls H locs hkk  hw hl
          refine lv_iload hx hb dX12_mixSha_162 (lv_at hl 0 rfl) ?_
          refine lv_bipush (v := 64) hx hb dX12_mixSha_164 (by decide) ?_
          refine lv_icmp_ge (tgt := 297) hx hb dX12_mixSha_166 (by decide) (fun cc_6 => absurd cc_6 (hk_nle (a := k) (b := 64) (by omega) (by omega))) (fun _ => ?_)
          refine lv_iload hx hb dX12_mixSha_169 (lv_at hl 1 rfl) ?_
          refine lv_iload hx hb dX12_mixSha_171 (lv_at hl 4 rfl) ?_
          refine lv_bipush (v := 6) hx hb dX12_mixSha_173 (by decide) ?_
          refine hk_Si (As := [.int (hs_M k 4), .int 6]) (rest := [.int (hs_M k 7)]) ⟨hx, hb, hml, hown, hts⟩ hw hA (cn_turned l D cI cJ ad g lg (va_up ar 4 jj_1) bk _ (hs_M k 4) 6) (va_cwS 2 hts gw_cn_mixSha_0 rfl rfl rfl (by decide +kernel) ⟨Nat.le_of_ble_eq_true rfl, Nat.le_of_ble_eq_true rfl⟩) rfl hl.1 rfl (Nat.le_of_ble_eq_true rfl) dX12_mixSha_175 ⟨Nat.le_of_ble_eq_true rfl, Nat.le_of_ble_eq_true rfl⟩ (fun rr_7 uu_8 H locs hp_9 hw => ?_)
          subst hp_9
          have hw : hk_W D [(cI, .int), (cJ, .long)] _ s _ _ (mw cI cJ ad g lg (va_up ar 4 jj_1) bk) := hw
          refine lv_iload hx hb dX12_mixSha_178 (lv_at hl 4 rfl) ?_
          refine lv_bipush (v := 11) hx hb dX12_mixSha_180 (by decide) ?_
          refine hk_Si (As := [.int (hs_M k 4), .int 11]) (rest := [.int (hs_t (hs_M k 4) 6), .int (hs_M k 7)]) ⟨hx, hb, hml, hown, hts⟩ hw hA (cn_turned l D cI cJ ad g lg (va_up ar 4 jj_1) bk _ (hs_M k 4) 11) (va_cwS 2 hts gw_cn_mixSha_0 rfl rfl rfl (by decide +kernel) ⟨Nat.le_of_ble_eq_true rfl, Nat.le_of_ble_eq_true rfl⟩) rfl hl.1 rfl (Nat.le_of_ble_eq_true rfl) dX12_mixSha_182 ⟨Nat.le_of_ble_eq_true rfl, Nat.le_of_ble_eq_true rfl⟩ (fun rr_10 uu_11 H locs hp_12 hw => ?_)
          subst hp_12
          have hw : hk_W D [(cI, .int), (cJ, .long)] _ s _ _ (mw cI cJ ad g lg (va_up ar 4 jj_1) bk) := hw
          refine lv_ixor hx hb dX12_mixSha_185 ?_
          refine lv_iload hx hb dX12_mixSha_186 (lv_at hl 4 rfl) ?_
          refine lv_bipush (v := 25) hx hb dX12_mixSha_188 (by decide) ?_
          refine hk_Si (As := [.int (hs_M k 4), .int 25]) (rest := [.int ((hs_t (hs_M k 4) 6) ^^^ (hs_t (hs_M k 4) 11)), .int (hs_M k 7)]) ⟨hx, hb, hml, hown, hts⟩ hw hA (cn_turned l D cI cJ ad g lg (va_up ar 4 jj_1) bk _ (hs_M k 4) 25) (va_cwS 2 hts gw_cn_mixSha_0 rfl rfl rfl (by decide +kernel) ⟨Nat.le_of_ble_eq_true rfl, Nat.le_of_ble_eq_true rfl⟩) rfl hl.1 rfl (Nat.le_of_ble_eq_true rfl) dX12_mixSha_190 ⟨Nat.le_of_ble_eq_true rfl, Nat.le_of_ble_eq_true rfl⟩ (fun rr_13 uu_14 H locs hp_15 hw => ?_)
          subst hp_15
          have hw : hk_W D [(cI, .int), (cJ, .long)] _ s _ _ (mw cI cJ ad g lg (va_up ar 4 jj_1) bk) := hw
          refine lv_ixor hx hb dX12_mixSha_193 ?_
          refine lv_iadd hx hb dX12_mixSha_194 ?_
          refine lv_iload hx hb dX12_mixSha_195 (lv_at hl 4 rfl) ?_
          refine lv_iload hx hb dX12_mixSha_197 (lv_at hl 3 rfl) ?_
          refine lv_iand hx hb dX12_mixSha_199 ?_
          refine lv_iload hx hb dX12_mixSha_200 (lv_at hl 4 rfl) ?_
          refine lv_iconst (v := (-1)) hx hb dX12_mixSha_202 (by decide) ?_
          refine lv_ixor hx hb dX12_mixSha_203 ?_
          refine lv_iload hx hb dX12_mixSha_204 (lv_at hl 2 rfl) ?_
          refine lv_iand hx hb dX12_mixSha_206 ?_
          refine lv_ixor hx hb dX12_mixSha_207 ?_
          refine lv_iadd hx hb dX12_mixSha_208 ?_
          refine hk_gets hx hb hZ.2.2.2.2 hw hown (hts _ (List.mem_of_getElem? (i := 6) rfl)) dX12_mixSha_209 ?_
          refine lv_iload hx hb dX12_mixSha_212 (lv_at hl 0 rfl) ?_
          refine hk_ti (v := (hs_K k)) hx hb hZ.2.2.2.2 hw (vp_in_nI (by omega) (by omega)) (by rw [nI_clamp (by omega)]) dX12_mixSha_214 ?_
          refine lv_iadd hx hb dX12_mixSha_215 ?_
          refine lv_aload_n hx hb dX12_mixSha_216 rfl (lv_at hl 9 rfl) ?_
          refine hk_get (ci := 15) (C := RX12) (T := TX12) (N := 92) (v := .ref (ad 5)) hx hb hts iX12 hown hw 0 rfl rfl 20 (by decide) (hts _ (List.mem_of_getElem? (i := 7) rfl)) rfl dX12_mixSha_217 ?_
          refine lv_iload hx hb dX12_mixSha_220 (lv_at hl 0 rfl) ?_
          refine hk_iald (v := (hs_L k)) hx hb hw 5 0 rfl rfl (vp_in_nI (by omega) (by omega)) dX12_mixSha_222 (by rw [nI_clamp (by omega)]; exact hL _ (by omega)) ?_
          refine lv_iadd hx hb dX12_mixSha_223 ?_
          refine lv_istore (lv' := [(10, .int (((((hs_M k 7) + (((hs_t (hs_M k 4) 6) ^^^ (hs_t (hs_M k 4) 11)) ^^^ (hs_t (hs_M k 4) 25))) + (((hs_M k 4) &&& (hs_M k 5)) ^^^ (((hs_M k 4) ^^^ (-1)) &&& (hs_M k 6)))) + (hs_K k)) + (hs_L k))), (9, .int (nI k)), (8, .int (hs_M k 7)), (7, .int (hs_M k 6)), (6, .int (hs_M k 5)), (5, .int (hs_M k 4)), (4, .int (hs_M k 3)), (3, .int (hs_M k 2)), (2, .int (hs_M k 1)), (1, .int (hs_M k 0)), (0, .ref (ad 0))]) hx hb dX12_mixSha_224 hl (by decide) rfl (fun ls hl => ?_)
          refine lv_iload_n hx hb dX12_mixSha_226 rfl (lv_at hl 9 rfl) ?_
          refine lv_iconst (v := 2) hx hb dX12_mixSha_227 (by decide) ?_
          refine hk_Si (As := [.int (hs_M k 0), .int 2]) (rest := []) ⟨hx, hb, hml, hown, hts⟩ hw hA (cn_turned l D cI cJ ad g lg (va_up ar 4 jj_1) bk _ (hs_M k 0) 2) (va_cwS 2 hts gw_cn_mixSha_0 rfl rfl rfl (by decide +kernel) ⟨Nat.le_of_ble_eq_true rfl, Nat.le_of_ble_eq_true rfl⟩) rfl hl.1 rfl (Nat.le_of_ble_eq_true rfl) dX12_mixSha_228 ⟨Nat.le_of_ble_eq_true rfl, Nat.le_of_ble_eq_true rfl⟩ (fun rr_16 uu_17 H locs hp_18 hw => ?_)
          subst hp_18
          have hw : hk_W D [(cI, .int), (cJ, .long)] _ s _ _ (mw cI cJ ad g lg (va_up ar 4 jj_1) bk) := hw
          refine lv_iload_n hx hb dX12_mixSha_231 rfl (lv_at hl 9 rfl) ?_
          refine lv_bipush (v := 13) hx hb dX12_mixSha_232 (by decide) ?_
          refine hk_Si (As := [.int (hs_M k 0), .int 13]) (rest := [.int (hs_t (hs_M k 0) 2)]) ⟨hx, hb, hml, hown, hts⟩ hw hA (cn_turned l D cI cJ ad g lg (va_up ar 4 jj_1) bk _ (hs_M k 0) 13) (va_cwS 2 hts gw_cn_mixSha_0 rfl rfl rfl (by decide +kernel) ⟨Nat.le_of_ble_eq_true rfl, Nat.le_of_ble_eq_true rfl⟩) rfl hl.1 rfl (Nat.le_of_ble_eq_true rfl) dX12_mixSha_234 ⟨Nat.le_of_ble_eq_true rfl, Nat.le_of_ble_eq_true rfl⟩ (fun rr_19 uu_20 H locs hp_21 hw => ?_)
          subst hp_21
          have hw : hk_W D [(cI, .int), (cJ, .long)] _ s _ _ (mw cI cJ ad g lg (va_up ar 4 jj_1) bk) := hw
          refine lv_ixor hx hb dX12_mixSha_237 ?_
          refine lv_iload_n hx hb dX12_mixSha_238 rfl (lv_at hl 9 rfl) ?_
          refine lv_bipush (v := 22) hx hb dX12_mixSha_239 (by decide) ?_
          refine hk_Si (As := [.int (hs_M k 0), .int 22]) (rest := [.int ((hs_t (hs_M k 0) 2) ^^^ (hs_t (hs_M k 0) 13))]) ⟨hx, hb, hml, hown, hts⟩ hw hA (cn_turned l D cI cJ ad g lg (va_up ar 4 jj_1) bk _ (hs_M k 0) 22) (va_cwS 2 hts gw_cn_mixSha_0 rfl rfl rfl (by decide +kernel) ⟨Nat.le_of_ble_eq_true rfl, Nat.le_of_ble_eq_true rfl⟩) rfl hl.1 rfl (Nat.le_of_ble_eq_true rfl) dX12_mixSha_241 ⟨Nat.le_of_ble_eq_true rfl, Nat.le_of_ble_eq_true rfl⟩ (fun rr_22 uu_23 H locs hp_24 hw => ?_)
          subst hp_24
          have hw : hk_W D [(cI, .int), (cJ, .long)] _ s _ _ (mw cI cJ ad g lg (va_up ar 4 jj_1) bk) := hw
          refine lv_ixor hx hb dX12_mixSha_244 ?_
          refine lv_iload_n hx hb dX12_mixSha_245 rfl (lv_at hl 9 rfl) ?_
          refine lv_iload_n hx hb dX12_mixSha_246 rfl (lv_at hl 8 rfl) ?_
          refine lv_iand hx hb dX12_mixSha_247 ?_
          refine lv_iload_n hx hb dX12_mixSha_248 rfl (lv_at hl 9 rfl) ?_
          refine lv_iload_n hx hb dX12_mixSha_249 rfl (lv_at hl 7 rfl) ?_
          refine lv_iand hx hb dX12_mixSha_250 ?_
          refine lv_ixor hx hb dX12_mixSha_251 ?_
          refine lv_iload_n hx hb dX12_mixSha_252 rfl (lv_at hl 8 rfl) ?_
          refine lv_iload_n hx hb dX12_mixSha_253 rfl (lv_at hl 7 rfl) ?_
          refine lv_iand hx hb dX12_mixSha_254 ?_
          refine lv_ixor hx hb dX12_mixSha_255 ?_
          refine lv_iadd hx hb dX12_mixSha_256 ?_
          refine lv_istore (lv' := [(11, .int ((((hs_t (hs_M k 0) 2) ^^^ (hs_t (hs_M k 0) 13)) ^^^ (hs_t (hs_M k 0) 22)) + ((((hs_M k 0) &&& (hs_M k 1)) ^^^ ((hs_M k 0) &&& (hs_M k 2))) ^^^ ((hs_M k 1) &&& (hs_M k 2))))), (10, .int (((((hs_M k 7) + (((hs_t (hs_M k 4) 6) ^^^ (hs_t (hs_M k 4) 11)) ^^^ (hs_t (hs_M k 4) 25))) + (((hs_M k 4) &&& (hs_M k 5)) ^^^ (((hs_M k 4) ^^^ (-1)) &&& (hs_M k 6)))) + (hs_K k)) + (hs_L k))), (9, .int (nI k)), (8, .int (hs_M k 7)), (7, .int (hs_M k 6)), (6, .int (hs_M k 5)), (5, .int (hs_M k 4)), (4, .int (hs_M k 3)), (3, .int (hs_M k 2)), (2, .int (hs_M k 1)), (1, .int (hs_M k 0)), (0, .ref (ad 0))]) hx hb dX12_mixSha_257 hl (by decide) rfl (fun ls hl => ?_)
          refine lv_iload hx hb dX12_mixSha_259 (lv_at hl 4 rfl) ?_
          refine hk_topi (hs_M (k + 1) 7) ((show ∀ k, k < 64 → hs_M k 6 = hs_M (k + 1) 7 by decide +kernel) k (by omega)) ?_
          refine lv_istore (lv' := [(8, .int (hs_M (k + 1) 7)), (11, .int ((((hs_t (hs_M k 0) 2) ^^^ (hs_t (hs_M k 0) 13)) ^^^ (hs_t (hs_M k 0) 22)) + ((((hs_M k 0) &&& (hs_M k 1)) ^^^ ((hs_M k 0) &&& (hs_M k 2))) ^^^ ((hs_M k 1) &&& (hs_M k 2))))), (10, .int (((((hs_M k 7) + (((hs_t (hs_M k 4) 6) ^^^ (hs_t (hs_M k 4) 11)) ^^^ (hs_t (hs_M k 4) 25))) + (((hs_M k 4) &&& (hs_M k 5)) ^^^ (((hs_M k 4) ^^^ (-1)) &&& (hs_M k 6)))) + (hs_K k)) + (hs_L k))), (9, .int (nI k)), (7, .int (hs_M k 6)), (6, .int (hs_M k 5)), (5, .int (hs_M k 4)), (4, .int (hs_M k 3)), (3, .int (hs_M k 2)), (2, .int (hs_M k 1)), (1, .int (hs_M k 0)), (0, .ref (ad 0))]) hx hb dX12_mixSha_261 hl (by decide) rfl (fun ls hl => ?_)
          refine lv_iload hx hb dX12_mixSha_263 (lv_at hl 5 rfl) ?_
          refine hk_topi (hs_M (k + 1) 6) ((show ∀ k, k < 64 → hs_M k 5 = hs_M (k + 1) 6 by decide +kernel) k (by omega)) ?_
          refine lv_istore (lv' := [(7, .int (hs_M (k + 1) 6)), (8, .int (hs_M (k + 1) 7)), (11, .int ((((hs_t (hs_M k 0) 2) ^^^ (hs_t (hs_M k 0) 13)) ^^^ (hs_t (hs_M k 0) 22)) + ((((hs_M k 0) &&& (hs_M k 1)) ^^^ ((hs_M k 0) &&& (hs_M k 2))) ^^^ ((hs_M k 1) &&& (hs_M k 2))))), (10, .int (((((hs_M k 7) + (((hs_t (hs_M k 4) 6) ^^^ (hs_t (hs_M k 4) 11)) ^^^ (hs_t (hs_M k 4) 25))) + (((hs_M k 4) &&& (hs_M k 5)) ^^^ (((hs_M k 4) ^^^ (-1)) &&& (hs_M k 6)))) + (hs_K k)) + (hs_L k))), (9, .int (nI k)), (6, .int (hs_M k 5)), (5, .int (hs_M k 4)), (4, .int (hs_M k 3)), (3, .int (hs_M k 2)), (2, .int (hs_M k 1)), (1, .int (hs_M k 0)), (0, .ref (ad 0))]) hx hb dX12_mixSha_265 hl (by decide) rfl (fun ls hl => ?_)
          refine lv_iload hx hb dX12_mixSha_267 (lv_at hl 6 rfl) ?_
          refine hk_topi (hs_M (k + 1) 5) ((show ∀ k, k < 64 → hs_M k 4 = hs_M (k + 1) 5 by decide +kernel) k (by omega)) ?_
          refine lv_istore (lv' := [(6, .int (hs_M (k + 1) 5)), (7, .int (hs_M (k + 1) 6)), (8, .int (hs_M (k + 1) 7)), (11, .int ((((hs_t (hs_M k 0) 2) ^^^ (hs_t (hs_M k 0) 13)) ^^^ (hs_t (hs_M k 0) 22)) + ((((hs_M k 0) &&& (hs_M k 1)) ^^^ ((hs_M k 0) &&& (hs_M k 2))) ^^^ ((hs_M k 1) &&& (hs_M k 2))))), (10, .int (((((hs_M k 7) + (((hs_t (hs_M k 4) 6) ^^^ (hs_t (hs_M k 4) 11)) ^^^ (hs_t (hs_M k 4) 25))) + (((hs_M k 4) &&& (hs_M k 5)) ^^^ (((hs_M k 4) ^^^ (-1)) &&& (hs_M k 6)))) + (hs_K k)) + (hs_L k))), (9, .int (nI k)), (5, .int (hs_M k 4)), (4, .int (hs_M k 3)), (3, .int (hs_M k 2)), (2, .int (hs_M k 1)), (1, .int (hs_M k 0)), (0, .ref (ad 0))]) hx hb dX12_mixSha_269 hl (by decide) rfl (fun ls hl => ?_)
          refine lv_iload hx hb dX12_mixSha_271 (lv_at hl 7 rfl) ?_
          refine lv_iload hx hb dX12_mixSha_273 (lv_at hl 4 rfl) ?_
          refine lv_iadd hx hb dX12_mixSha_275 ?_
          refine hk_topi (hs_M (k + 1) 4) ((show ∀ k, k < 64 → ((hs_M k 3) + (((((hs_M k 7) + (((hs_t (hs_M k 4) 6) ^^^ (hs_t (hs_M k 4) 11)) ^^^ (hs_t (hs_M k 4) 25))) + (((hs_M k 4) &&& (hs_M k 5)) ^^^ (((hs_M k 4) ^^^ (-1)) &&& (hs_M k 6)))) + (hs_K k)) + (hs_L k))) = (hs_M (k + 1) 4) by decide +kernel) k (by omega)) ?_
          refine lv_istore (lv' := [(5, .int (hs_M (k + 1) 4)), (6, .int (hs_M (k + 1) 5)), (7, .int (hs_M (k + 1) 6)), (8, .int (hs_M (k + 1) 7)), (11, .int ((((hs_t (hs_M k 0) 2) ^^^ (hs_t (hs_M k 0) 13)) ^^^ (hs_t (hs_M k 0) 22)) + ((((hs_M k 0) &&& (hs_M k 1)) ^^^ ((hs_M k 0) &&& (hs_M k 2))) ^^^ ((hs_M k 1) &&& (hs_M k 2))))), (10, .int (((((hs_M k 7) + (((hs_t (hs_M k 4) 6) ^^^ (hs_t (hs_M k 4) 11)) ^^^ (hs_t (hs_M k 4) 25))) + (((hs_M k 4) &&& (hs_M k 5)) ^^^ (((hs_M k 4) ^^^ (-1)) &&& (hs_M k 6)))) + (hs_K k)) + (hs_L k))), (9, .int (nI k)), (4, .int (hs_M k 3)), (3, .int (hs_M k 2)), (2, .int (hs_M k 1)), (1, .int (hs_M k 0)), (0, .ref (ad 0))]) hx hb dX12_mixSha_276 hl (by decide) rfl (fun ls hl => ?_)
          refine lv_iload_n hx hb dX12_mixSha_278 rfl (lv_at hl 8 rfl) ?_
          refine hk_topi (hs_M (k + 1) 3) ((show ∀ k, k < 64 → hs_M k 2 = hs_M (k + 1) 3 by decide +kernel) k (by omega)) ?_
          refine lv_istore (lv' := [(4, .int (hs_M (k + 1) 3)), (5, .int (hs_M (k + 1) 4)), (6, .int (hs_M (k + 1) 5)), (7, .int (hs_M (k + 1) 6)), (8, .int (hs_M (k + 1) 7)), (11, .int ((((hs_t (hs_M k 0) 2) ^^^ (hs_t (hs_M k 0) 13)) ^^^ (hs_t (hs_M k 0) 22)) + ((((hs_M k 0) &&& (hs_M k 1)) ^^^ ((hs_M k 0) &&& (hs_M k 2))) ^^^ ((hs_M k 1) &&& (hs_M k 2))))), (10, .int (((((hs_M k 7) + (((hs_t (hs_M k 4) 6) ^^^ (hs_t (hs_M k 4) 11)) ^^^ (hs_t (hs_M k 4) 25))) + (((hs_M k 4) &&& (hs_M k 5)) ^^^ (((hs_M k 4) ^^^ (-1)) &&& (hs_M k 6)))) + (hs_K k)) + (hs_L k))), (9, .int (nI k)), (3, .int (hs_M k 2)), (2, .int (hs_M k 1)), (1, .int (hs_M k 0)), (0, .ref (ad 0))]) hx hb dX12_mixSha_279 hl (by decide) rfl (fun ls hl => ?_)
          refine lv_iload_n hx hb dX12_mixSha_281 rfl (lv_at hl 9 rfl) ?_
          refine hk_topi (hs_M (k + 1) 2) ((show ∀ k, k < 64 → hs_M k 1 = hs_M (k + 1) 2 by decide +kernel) k (by omega)) ?_
          refine lv_istore_n (lv' := [(3, .int (hs_M (k + 1) 2)), (4, .int (hs_M (k + 1) 3)), (5, .int (hs_M (k + 1) 4)), (6, .int (hs_M (k + 1) 5)), (7, .int (hs_M (k + 1) 6)), (8, .int (hs_M (k + 1) 7)), (11, .int ((((hs_t (hs_M k 0) 2) ^^^ (hs_t (hs_M k 0) 13)) ^^^ (hs_t (hs_M k 0) 22)) + ((((hs_M k 0) &&& (hs_M k 1)) ^^^ ((hs_M k 0) &&& (hs_M k 2))) ^^^ ((hs_M k 1) &&& (hs_M k 2))))), (10, .int (((((hs_M k 7) + (((hs_t (hs_M k 4) 6) ^^^ (hs_t (hs_M k 4) 11)) ^^^ (hs_t (hs_M k 4) 25))) + (((hs_M k 4) &&& (hs_M k 5)) ^^^ (((hs_M k 4) ^^^ (-1)) &&& (hs_M k 6)))) + (hs_K k)) + (hs_L k))), (9, .int (nI k)), (2, .int (hs_M k 1)), (1, .int (hs_M k 0)), (0, .ref (ad 0))]) hx hb dX12_mixSha_282 rfl hl (by decide) rfl (fun ls hl => ?_)
          refine lv_iload_n hx hb dX12_mixSha_283 rfl (lv_at hl 10 rfl) ?_
          refine hk_topi (hs_M (k + 1) 1) ((show ∀ k, k < 64 → hs_M k 0 = hs_M (k + 1) 1 by decide +kernel) k (by omega)) ?_
          refine lv_istore_n (lv' := [(2, .int (hs_M (k + 1) 1)), (3, .int (hs_M (k + 1) 2)), (4, .int (hs_M (k + 1) 3)), (5, .int (hs_M (k + 1) 4)), (6, .int (hs_M (k + 1) 5)), (7, .int (hs_M (k + 1) 6)), (8, .int (hs_M (k + 1) 7)), (11, .int ((((hs_t (hs_M k 0) 2) ^^^ (hs_t (hs_M k 0) 13)) ^^^ (hs_t (hs_M k 0) 22)) + ((((hs_M k 0) &&& (hs_M k 1)) ^^^ ((hs_M k 0) &&& (hs_M k 2))) ^^^ ((hs_M k 1) &&& (hs_M k 2))))), (10, .int (((((hs_M k 7) + (((hs_t (hs_M k 4) 6) ^^^ (hs_t (hs_M k 4) 11)) ^^^ (hs_t (hs_M k 4) 25))) + (((hs_M k 4) &&& (hs_M k 5)) ^^^ (((hs_M k 4) ^^^ (-1)) &&& (hs_M k 6)))) + (hs_K k)) + (hs_L k))), (9, .int (nI k)), (1, .int (hs_M k 0)), (0, .ref (ad 0))]) hx hb dX12_mixSha_284 rfl hl (by decide) rfl (fun ls hl => ?_)
          refine lv_iload hx hb dX12_mixSha_285 (lv_at hl 8 rfl) ?_
          refine lv_iload hx hb dX12_mixSha_287 (lv_at hl 7 rfl) ?_
          refine lv_iadd hx hb dX12_mixSha_289 ?_
          refine hk_topi (hs_M (k + 1) 0) ((show ∀ k, k < 64 → ((((((hs_M k 7) + (((hs_t (hs_M k 4) 6) ^^^ (hs_t (hs_M k 4) 11)) ^^^ (hs_t (hs_M k 4) 25))) + (((hs_M k 4) &&& (hs_M k 5)) ^^^ (((hs_M k 4) ^^^ (-1)) &&& (hs_M k 6)))) + (hs_K k)) + (hs_L k)) + ((((hs_t (hs_M k 0) 2) ^^^ (hs_t (hs_M k 0) 13)) ^^^ (hs_t (hs_M k 0) 22)) + ((((hs_M k 0) &&& (hs_M k 1)) ^^^ ((hs_M k 0) &&& (hs_M k 2))) ^^^ ((hs_M k 1) &&& (hs_M k 2))))) = (hs_M (k + 1) 0) by decide +kernel) k (by omega)) ?_
          refine lv_istore_n (lv' := [(1, .int (hs_M (k + 1) 0)), (2, .int (hs_M (k + 1) 1)), (3, .int (hs_M (k + 1) 2)), (4, .int (hs_M (k + 1) 3)), (5, .int (hs_M (k + 1) 4)), (6, .int (hs_M (k + 1) 5)), (7, .int (hs_M (k + 1) 6)), (8, .int (hs_M (k + 1) 7)), (11, .int ((((hs_t (hs_M k 0) 2) ^^^ (hs_t (hs_M k 0) 13)) ^^^ (hs_t (hs_M k 0) 22)) + ((((hs_M k 0) &&& (hs_M k 1)) ^^^ ((hs_M k 0) &&& (hs_M k 2))) ^^^ ((hs_M k 1) &&& (hs_M k 2))))), (10, .int (((((hs_M k 7) + (((hs_t (hs_M k 4) 6) ^^^ (hs_t (hs_M k 4) 11)) ^^^ (hs_t (hs_M k 4) 25))) + (((hs_M k 4) &&& (hs_M k 5)) ^^^ (((hs_M k 4) ^^^ (-1)) &&& (hs_M k 6)))) + (hs_K k)) + (hs_L k))), (9, .int (nI k)), (0, .ref (ad 0))]) hx hb dX12_mixSha_290 rfl hl (by decide) rfl (fun ls hl => ?_)
          refine lv_iinc (v := (nI (k + 1))) (lv' := [(9, .int (nI (k + 1))), (1, .int (hs_M (k + 1) 0)), (2, .int (hs_M (k + 1) 1)), (3, .int (hs_M (k + 1) 2)), (4, .int (hs_M (k + 1) 3)), (5, .int (hs_M (k + 1) 4)), (6, .int (hs_M (k + 1) 5)), (7, .int (hs_M (k + 1) 6)), (8, .int (hs_M (k + 1) 7)), (11, .int ((((hs_t (hs_M k 0) 2) ^^^ (hs_t (hs_M k 0) 13)) ^^^ (hs_t (hs_M k 0) 22)) + ((((hs_M k 0) &&& (hs_M k 1)) ^^^ ((hs_M k 0) &&& (hs_M k 2))) ^^^ ((hs_M k 1) &&& (hs_M k 2))))), (10, .int (((((hs_M k 7) + (((hs_t (hs_M k 4) 6) ^^^ (hs_t (hs_M k 4) 11)) ^^^ (hs_t (hs_M k 4) 25))) + (((hs_M k 4) &&& (hs_M k 5)) ^^^ (((hs_M k 4) ^^^ (-1)) &&& (hs_M k 6)))) + (hs_K k)) + (hs_L k))), (0, .ref (ad 0))]) hx hb dX12_mixSha_291 hl (k := 10) rfl ((nI_succ k).symm) (by decide) rfl (fun ls hl => ?_)
          refine lv_goto (tgt := 162) hx hb dX12_mixSha_294 (by decide) ?_
          exact ihk (k + 1)  ls _ _ (by omega)  hw (lv_sub hl [0, 8, 7, 6, 5, 4, 3, 2, 1, 11] rfl)
      exact loop_4 (64 - 0) 0  ls _ _ (by omega)  hw (lv_sub hl [0, 1, 2, 3, 4, 5, 6, 7, 8, 9] rfl)
    | succ ki ih =>
      intro i jj_1 ls H locs hik hge hL hw hl
      refine lv_iload_n hx hb dX12_mixSha_3 rfl (lv_at hl 0 rfl) ?_
      refine lv_bipush (v := 64) hx hb dX12_mixSha_4 (by decide) ?_
      refine lv_icmp_ge (tgt := 96) hx hb dX12_mixSha_6 (by decide) (fun cc_25 => absurd cc_25 (hk_nle (a := i) (b := 64) (by omega) (by omega))) (fun _ => ?_)
      refine lv_aload_n hx hb dX12_mixSha_9 rfl (lv_at hl 1 rfl) ?_
      refine hk_get (ci := 15) (C := RX12) (T := TX12) (N := 92) (v := .ref (ad 5)) hx hb hts iX12 hown hw 0 rfl rfl 20 (by decide) (hts _ (List.mem_of_getElem? (i := 7) rfl)) rfl dX12_mixSha_10 ?_
      refine lv_iload_n hx hb dX12_mixSha_13 rfl (lv_at hl 0 rfl) ?_
      refine lv_bipush (v := 15) hx hb dX12_mixSha_14 (by decide) ?_
      refine lv_isub hx hb dX12_mixSha_16 ?_
      refine hk_iald (v := (hs_L (i - 15))) hx hb hw 5 0 rfl rfl ((show ∀ i, i < 64 → 16 ≤ i → ¬ ((nI i - 15 : Int32) < 0 ∨ 64 ≤ (nI i - 15 : Int32).toNatClampNeg) by decide +kernel) i (by omega) hge) dX12_mixSha_17 (by rw [(show ∀ i, i < 64 → 16 ≤ i → (nI i - 15 : Int32).toNatClampNeg = i - 15 by decide +kernel) i (by omega) hge]; exact hL _ (by omega)) ?_
      refine lv_istore_n (lv' := [(2, .int (hs_L (i - 15))), (1, .int (nI i)), (0, .ref (ad 0))]) hx hb dX12_mixSha_18 rfl hl (by decide) rfl (fun ls hl => ?_)
      refine lv_aload_n hx hb dX12_mixSha_19 rfl (lv_at hl 2 rfl) ?_
      refine hk_get (ci := 15) (C := RX12) (T := TX12) (N := 92) (v := .ref (ad 5)) hx hb hts iX12 hown hw 0 rfl rfl 20 (by decide) (hts _ (List.mem_of_getElem? (i := 7) rfl)) rfl dX12_mixSha_20 ?_
      refine lv_iload_n hx hb dX12_mixSha_23 rfl (lv_at hl 1 rfl) ?_
      refine lv_iconst (v := 2) hx hb dX12_mixSha_24 (by decide) ?_
      refine lv_isub hx hb dX12_mixSha_25 ?_
      refine hk_iald (v := (hs_L (i - 2))) hx hb hw 5 0 rfl rfl ((show ∀ i, i < 64 → 16 ≤ i → ¬ ((nI i - 2 : Int32) < 0 ∨ 64 ≤ (nI i - 2 : Int32).toNatClampNeg) by decide +kernel) i (by omega) hge) dX12_mixSha_26 (by rw [(show ∀ i, i < 64 → 16 ≤ i → (nI i - 2 : Int32).toNatClampNeg = i - 2 by decide +kernel) i (by omega) hge]; exact hL _ (by omega)) ?_
      refine lv_istore_n (lv' := [(3, .int (hs_L (i - 2))), (2, .int (hs_L (i - 15))), (1, .int (nI i)), (0, .ref (ad 0))]) hx hb dX12_mixSha_27 rfl hl (by decide) rfl (fun ls hl => ?_)
      refine lv_aload_n hx hb dX12_mixSha_28 rfl (lv_at hl 3 rfl) ?_
      refine hk_get (ci := 15) (C := RX12) (T := TX12) (N := 92) (v := .ref (ad 5)) hx hb hts iX12 hown hw 0 rfl rfl 20 (by decide) (hts _ (List.mem_of_getElem? (i := 7) rfl)) rfl dX12_mixSha_29 ?_
      refine lv_iload_n hx hb dX12_mixSha_32 rfl (lv_at hl 2 rfl) ?_
      refine lv_aload_n hx hb dX12_mixSha_33 rfl (lv_at hl 3 rfl) ?_
      refine hk_get (ci := 15) (C := RX12) (T := TX12) (N := 92) (v := .ref (ad 5)) hx hb hts iX12 hown hw 0 rfl rfl 20 (by decide) (hts _ (List.mem_of_getElem? (i := 7) rfl)) rfl dX12_mixSha_34 ?_
      refine lv_iload_n hx hb dX12_mixSha_37 rfl (lv_at hl 2 rfl) ?_
      refine lv_bipush (v := 16) hx hb dX12_mixSha_38 (by decide) ?_
      refine lv_isub hx hb dX12_mixSha_40 ?_
      refine hk_iald (v := (hs_L (i - 16))) hx hb hw 5 0 rfl rfl ((show ∀ i, i < 64 → 16 ≤ i → ¬ ((nI i - 16 : Int32) < 0 ∨ 64 ≤ (nI i - 16 : Int32).toNatClampNeg) by decide +kernel) i (by omega) hge) dX12_mixSha_41 (by rw [(show ∀ i, i < 64 → 16 ≤ i → (nI i - 16 : Int32).toNatClampNeg = i - 16 by decide +kernel) i (by omega) hge]; exact hL _ (by omega)) ?_
      refine lv_iload_n hx hb dX12_mixSha_42 rfl (lv_at hl 1 rfl) ?_
      refine lv_bipush (v := 7) hx hb dX12_mixSha_43 (by decide) ?_
      refine hk_Si (As := [.int (hs_L (i - 15)), .int 7]) (rest := [.int (hs_L (i - 16)), .int (nI i), .ref (ad 5)]) ⟨hx, hb, hml, hown, hts⟩ hw hA (cn_turned l D cI cJ ad g lg (va_up ar 4 jj_1) bk _ (hs_L (i - 15)) 7) (va_cwS 2 hts gw_cn_mixSha_0 rfl rfl rfl (by decide +kernel) ⟨Nat.le_of_ble_eq_true rfl, Nat.le_of_ble_eq_true rfl⟩) rfl hl.1 rfl (Nat.le_of_ble_eq_true rfl) dX12_mixSha_45 ⟨Nat.le_of_ble_eq_true rfl, Nat.le_of_ble_eq_true rfl⟩ (fun rr_26 uu_27 H locs hp_28 hw => ?_)
      subst hp_28
      have hw : hk_W D [(cI, .int), (cJ, .long)] _ s _ _ (mw cI cJ ad g lg (va_up ar 4 jj_1) bk) := hw
      refine lv_iload_n hx hb dX12_mixSha_48 rfl (lv_at hl 1 rfl) ?_
      refine lv_bipush (v := 18) hx hb dX12_mixSha_49 (by decide) ?_
      refine hk_Si (As := [.int (hs_L (i - 15)), .int 18]) (rest := [.int (hs_t (hs_L (i - 15)) 7), .int (hs_L (i - 16)), .int (nI i), .ref (ad 5)]) ⟨hx, hb, hml, hown, hts⟩ hw hA (cn_turned l D cI cJ ad g lg (va_up ar 4 jj_1) bk _ (hs_L (i - 15)) 18) (va_cwS 2 hts gw_cn_mixSha_0 rfl rfl rfl (by decide +kernel) ⟨Nat.le_of_ble_eq_true rfl, Nat.le_of_ble_eq_true rfl⟩) rfl hl.1 rfl (Nat.le_of_ble_eq_true rfl) dX12_mixSha_51 ⟨Nat.le_of_ble_eq_true rfl, Nat.le_of_ble_eq_true rfl⟩ (fun rr_29 uu_30 H locs hp_31 hw => ?_)
      subst hp_31
      have hw : hk_W D [(cI, .int), (cJ, .long)] _ s _ _ (mw cI cJ ad g lg (va_up ar 4 jj_1) bk) := hw
      refine lv_ixor hx hb dX12_mixSha_54 ?_
      refine lv_iload_n hx hb dX12_mixSha_55 rfl (lv_at hl 1 rfl) ?_
      refine lv_iconst (v := 3) hx hb dX12_mixSha_56 (by decide) ?_
      refine lv_iushr (v := (((hs_L (i - 15)) : Int32).toUInt32 >>> ((3 : Int32).toUInt32 &&& Int32.toUInt32 31)).toInt32) hx hb dX12_mixSha_57 rfl ?_
      refine lv_ixor hx hb dX12_mixSha_58 ?_
      refine lv_iadd hx hb dX12_mixSha_59 ?_
      refine lv_aload_n hx hb dX12_mixSha_60 rfl (lv_at hl 3 rfl) ?_
      refine hk_get (ci := 15) (C := RX12) (T := TX12) (N := 92) (v := .ref (ad 5)) hx hb hts iX12 hown hw 0 rfl rfl 20 (by decide) (hts _ (List.mem_of_getElem? (i := 7) rfl)) rfl dX12_mixSha_61 ?_
      refine lv_iload_n hx hb dX12_mixSha_64 rfl (lv_at hl 2 rfl) ?_
      refine lv_bipush (v := 7) hx hb dX12_mixSha_65 (by decide) ?_
      refine lv_isub hx hb dX12_mixSha_67 ?_
      refine hk_iald (v := (hs_L (i - 7))) hx hb hw 5 0 rfl rfl ((show ∀ i, i < 64 → 16 ≤ i → ¬ ((nI i - 7 : Int32) < 0 ∨ 64 ≤ (nI i - 7 : Int32).toNatClampNeg) by decide +kernel) i (by omega) hge) dX12_mixSha_68 (by rw [(show ∀ i, i < 64 → 16 ≤ i → (nI i - 7 : Int32).toNatClampNeg = i - 7 by decide +kernel) i (by omega) hge]; exact hL _ (by omega)) ?_
      refine lv_iadd hx hb dX12_mixSha_69 ?_
      refine lv_iload_n hx hb dX12_mixSha_70 rfl (lv_at hl 0 rfl) ?_
      refine lv_bipush (v := 17) hx hb dX12_mixSha_71 (by decide) ?_
      refine hk_Si (As := [.int (hs_L (i - 2)), .int 17]) (rest := [.int (((hs_L (i - 16)) + (((hs_t (hs_L (i - 15)) 7) ^^^ (hs_t (hs_L (i - 15)) 18)) ^^^ (((hs_L (i - 15)) : Int32).toUInt32 >>> ((3 : Int32).toUInt32 &&& Int32.toUInt32 31)).toInt32)) + (hs_L (i - 7))), .int (nI i), .ref (ad 5)]) ⟨hx, hb, hml, hown, hts⟩ hw hA (cn_turned l D cI cJ ad g lg (va_up ar 4 jj_1) bk _ (hs_L (i - 2)) 17) (va_cwS 2 hts gw_cn_mixSha_0 rfl rfl rfl (by decide +kernel) ⟨Nat.le_of_ble_eq_true rfl, Nat.le_of_ble_eq_true rfl⟩) rfl hl.1 rfl (Nat.le_of_ble_eq_true rfl) dX12_mixSha_73 ⟨Nat.le_of_ble_eq_true rfl, Nat.le_of_ble_eq_true rfl⟩ (fun rr_32 uu_33 H locs hp_34 hw => ?_)
      subst hp_34
      have hw : hk_W D [(cI, .int), (cJ, .long)] _ s _ _ (mw cI cJ ad g lg (va_up ar 4 jj_1) bk) := hw
      refine lv_iload_n hx hb dX12_mixSha_76 rfl (lv_at hl 0 rfl) ?_
      refine lv_bipush (v := 19) hx hb dX12_mixSha_77 (by decide) ?_
      refine hk_Si (As := [.int (hs_L (i - 2)), .int 19]) (rest := [.int (hs_t (hs_L (i - 2)) 17), .int (((hs_L (i - 16)) + (((hs_t (hs_L (i - 15)) 7) ^^^ (hs_t (hs_L (i - 15)) 18)) ^^^ (((hs_L (i - 15)) : Int32).toUInt32 >>> ((3 : Int32).toUInt32 &&& Int32.toUInt32 31)).toInt32)) + (hs_L (i - 7))), .int (nI i), .ref (ad 5)]) ⟨hx, hb, hml, hown, hts⟩ hw hA (cn_turned l D cI cJ ad g lg (va_up ar 4 jj_1) bk _ (hs_L (i - 2)) 19) (va_cwS 2 hts gw_cn_mixSha_0 rfl rfl rfl (by decide +kernel) ⟨Nat.le_of_ble_eq_true rfl, Nat.le_of_ble_eq_true rfl⟩) rfl hl.1 rfl (Nat.le_of_ble_eq_true rfl) dX12_mixSha_79 ⟨Nat.le_of_ble_eq_true rfl, Nat.le_of_ble_eq_true rfl⟩ (fun rr_35 uu_36 H locs hp_37 hw => ?_)
      subst hp_37
      have hw : hk_W D [(cI, .int), (cJ, .long)] _ s _ _ (mw cI cJ ad g lg (va_up ar 4 jj_1) bk) := hw
      refine lv_ixor hx hb dX12_mixSha_82 ?_
      refine lv_iload_n hx hb dX12_mixSha_83 rfl (lv_at hl 0 rfl) ?_
      refine lv_bipush (v := 10) hx hb dX12_mixSha_84 (by decide) ?_
      refine lv_iushr (v := (((hs_L (i - 2)) : Int32).toUInt32 >>> ((10 : Int32).toUInt32 &&& Int32.toUInt32 31)).toInt32) hx hb dX12_mixSha_86 rfl ?_
      refine lv_ixor hx hb dX12_mixSha_87 ?_
      refine lv_iadd hx hb dX12_mixSha_88 ?_
      refine hk_topi (hs_L i) ((show ∀ i, i < 64 → 16 ≤ i → ((((hs_L (i - 16)) + (((hs_t (hs_L (i - 15)) 7) ^^^ (hs_t (hs_L (i - 15)) 18)) ^^^ (((hs_L (i - 15)) : Int32).toUInt32 >>> ((3 : Int32).toUInt32 &&& Int32.toUInt32 31)).toInt32)) + (hs_L (i - 7))) + (((hs_t (hs_L (i - 2)) 17) ^^^ (hs_t (hs_L (i - 2)) 19)) ^^^ (((hs_L (i - 2)) : Int32).toUInt32 >>> ((10 : Int32).toUInt32 &&& Int32.toUInt32 31)).toInt32)) = (hs_L i) by decide +kernel) i (by omega) hge) ?_
      refine hk_iast hx hb hw 5 0 rfl rfl (vp_in_nI (by omega) (by omega)) dX12_mixSha_89 (ws' := mw cI cJ ad g lg (va_up ar 4 (upd jj_1 ((nI i)).toNatClampNeg (hs_L i))) bk) rfl (fun H locs hw => ?_)
      refine lv_iinc (v := (nI (i + 1))) (lv' := [(1, .int (nI (i + 1))), (3, .int (hs_L (i - 2))), (2, .int (hs_L (i - 15))), (0, .ref (ad 0))]) hx hb dX12_mixSha_90 hl (k := 2) rfl ((nI_succ i).symm) (by decide) rfl (fun ls hl => ?_)
      refine lv_goto (tgt := 3) hx hb dX12_mixSha_93 (by decide) ?_
      exact ih (i + 1) (upd jj_1 ((nI i)).toNatClampNeg (hs_L i)) ls _ _ (by omega) (by omega) (hs_up hL (nI_clamp (by omega)) rfl) hw (lv_sub hl [0, 3] rfl)
  exact loop_2 (64 - 16) 16 (ar 4) ls _ _ (by omega) (by decide) h16 hw (lv_sub hl [0, 1] rfl)

def ww_cn_add128 : List Cond := Cond.code yX12_addSha cX12_addSha 3 none :: ([Cond.fieldLink RX12 149 "LzmaChainsModel" "shaFilled" "I", Cond.fieldLink RX12 41 "LzmaChainsModel" "shaRow" "[I", Cond.fieldLink RX12 152 "LzmaChainsModel" "shaAll" "J", Cond.constantLong RX12 155 8] ++ (wsX120 ++ ([])))
set_option maxHeartbeats 4000000 in
set_option maxRecDepth 100000 in
/-- the reference: addSha, the first byte -/
theorem cn_add128 (l : Launch) (D : va_G) (cI cJ : ClassId) (ad : Nat → Nat) (g : Nat → Int32) (lg : Nat → Int64) (ar : Nat → Nat → Int32) (bk : Nat → Int64) (sz : Nat) (hf : g 15 = 0) : Met l yX12_addSha ww_cn_add128 { frames := 0, cells := 0, slots := 0, locals := 0 } (va_Pc [.ref (ad 0), .int 128] (hk_B D [(cI, .int), (cJ, .long)] sz (mw cI cJ ad g lg ar bk))) (va_Qv (fun u : (Nat → Int32) × Int64 => ∀ w, 4 * w < 1 → u.1 w = hs_L w) (fun u : (Nat → Int32) × Int64 => hk_E D [(cI, .int), (cJ, .long)] (va_A (mw cI cJ ad g lg ar bk) sz) (mw cI cJ ad (upd g 15 1) (vp_updL lg 1 u.2) (va_up ar 4 u.1) bk)) (va_A (mw cI cJ ad g lg ar bk) sz)) 0 0 (va_A (mw cI cJ ad g lg ar bk) sz) := by
  refine hk_met (cc := cX12_addSha) (maxL := 3) (ret := none) (by decide) rfl (Nat.le_of_ble_eq_true rfl) ?_
  intro p e s m below meth c ls hx hb hr hml hown hts hlocks hin hA hw hl
  have iX12 : ∀ w ∈ wsX120, w ∈ ww_cn_add128 := fun _ h => List.mem_cons_of_mem _ (List.mem_append_right _ (List.mem_append_left _ h))
  have hl : lv_has ls 3 [(0, .ref (ad 0)), (1, .int 128)] := hl
  refine lv_aload_n hx hb dX12_addSha_0 rfl (lv_at hl 0 rfl) ?_
  refine hk_get (ci := 15) (C := RX12) (T := TX12) (N := 92) (v := .int 0) hx hb hts iX12 hown hw 0 rfl rfl 21 (by decide) (hts _ (List.mem_of_getElem? (i := 1) rfl)) (congrArg (fun z => some (Value.int z)) hf) dX12_addSha_1 ?_
  refine lv_iconst (v := 4) hx hb dX12_addSha_4 (by decide) ?_
  refine lv_idiv hx hb dX12_addSha_5 (by decide) ?_
  refine hk_topi 0 (by decide +kernel) ?_
  refine lv_istore_n (lv' := [(2, .int 0), (0, .ref (ad 0)), (1, .int 128)]) hx hb dX12_addSha_6 rfl hl (by decide) rfl (fun ls hl => ?_)
  refine lv_aload_n hx hb dX12_addSha_7 rfl (lv_at hl 1 rfl) ?_
  refine hk_get (ci := 15) (C := RX12) (T := TX12) (N := 92) (v := .ref (ad 5)) hx hb hts iX12 hown hw 0 rfl rfl 20 (by decide) (hts _ (List.mem_of_getElem? (i := 2) rfl)) rfl dX12_addSha_8 ?_
  refine lv_iload_n hx hb dX12_addSha_11 rfl (lv_at hl 0 rfl) ?_
  refine lv_aload_n hx hb dX12_addSha_12 rfl (lv_at hl 1 rfl) ?_
  refine hk_get (ci := 15) (C := RX12) (T := TX12) (N := 92) (v := .int 0) hx hb hts iX12 hown hw 0 rfl rfl 21 (by decide) (hts _ (List.mem_of_getElem? (i := 1) rfl)) (congrArg (fun z => some (Value.int z)) hf) dX12_addSha_13 ?_
  refine lv_iconst (v := 4) hx hb dX12_addSha_16 (by decide) ?_
  refine lv_irem hx hb dX12_addSha_17 (by decide) ?_
  refine hk_topi 0 (by decide +kernel) ?_
  refine lv_if_ne (tgt := 28) hx hb dX12_addSha_18 (by decide) (fun cc_1 => absurd (by decide) cc_1) (fun _ => ?_)
  refine lv_iload_n hx hb dX12_addSha_21 rfl (lv_at hl 2 rfl) ?_
  refine lv_bipush (v := 24) hx hb dX12_addSha_22 (by decide) ?_
  refine lv_ishl hx hb dX12_addSha_24 ?_
  refine hk_topi (-2147483648) (by decide +kernel) ?_
  refine lv_goto (tgt := 49) hx hb dX12_addSha_25 (by decide) ?_
  refine hk_iast hx hb hw 5 0 rfl rfl (show ¬ (_ ∨ _) by decide) dX12_addSha_49 (ws' := mw cI cJ ad g lg (va_up ar 4 (upd (ar 4) 0 (-2147483648))) bk) rfl (fun H locs hw => ?_)
  refine lv_aload_n hx hb dX12_addSha_50 rfl (lv_at hl 1 rfl) ?_
  refine lv_dup hx hb dX12_addSha_51 rfl ?_
  refine hk_get (ci := 15) (C := RX12) (T := TX12) (N := 92) (v := .int 0) hx hb hts iX12 hown hw 0 rfl rfl 21 (by decide) (hts _ (List.mem_of_getElem? (i := 1) rfl)) (congrArg (fun z => some (Value.int z)) hf) dX12_addSha_52 ?_
  refine lv_iconst (v := 1) hx hb dX12_addSha_55 (by decide) ?_
  refine lv_iadd hx hb dX12_addSha_56 ?_
  refine hk_topi 1 (by decide +kernel) ?_
  refine hk_put (ci := 15) (C := RX12) (T := TX12) (N := 92) (ty := .int) (v := .int 1) hx hb hts iX12 tyX12 tyX12_ok nmX12 hown hw 0 rfl rfl 21 (by decide) (hts _ (List.mem_of_getElem? (i := 1) rfl)) rfl (by decide +kernel) rfl rfl (Nat.le_of_ble_eq_true rfl) dX12_addSha_57 (ws' := mw cI cJ ad (upd g 15 1) lg (va_up ar 4 (upd (ar 4) 0 (-2147483648))) bk) rfl (fun H locs hw => ?_)
  refine lv_aload_n hx hb dX12_addSha_60 rfl (lv_at hl 1 rfl) ?_
  refine lv_dup hx hb dX12_addSha_61 rfl ?_
  refine hk_get (ci := 15) (C := RX12) (T := TX12) (N := 92) (v := .long (lg 1)) hx hb hts iX12 hown hw 0 rfl rfl 22 (by decide) (hts _ (List.mem_of_getElem? (i := 3) rfl)) rfl dX12_addSha_62 ?_
  refine lv_ldc2 (v := 8) hx hb hown (hts _ (List.mem_of_getElem? (i := 4) rfl)) dX12_addSha_65 ?_
  refine lv_ladd hx hb dX12_addSha_68 ?_
  refine hk_put (ci := 15) (C := RX12) (T := TX12) (N := 92) (ty := .long) (v := .long ((lg 1) + 8)) hx hb hts iX12 tyX12 tyX12_ok nmX12 hown hw 0 rfl rfl 22 (by decide) (hts _ (List.mem_of_getElem? (i := 3) rfl)) rfl (by decide +kernel) rfl rfl (Nat.le_of_ble_eq_true rfl) dX12_addSha_69 (ws' := mw cI cJ ad (upd g 15 1) (vp_updL lg 1 ((lg 1) + 8)) (va_up ar 4 (upd (ar 4) 0 (-2147483648))) bk) rfl (fun H locs hw => ?_)
  refine lv_aload_n hx hb dX12_addSha_72 rfl (lv_at hl 1 rfl) ?_
  refine hk_get (ci := 15) (C := RX12) (T := TX12) (N := 92) (v := .int 1) hx hb hts iX12 hown hw 0 rfl rfl 21 (by decide) (hts _ (List.mem_of_getElem? (i := 1) rfl)) rfl dX12_addSha_73 ?_
  refine lv_bipush (v := 64) hx hb dX12_addSha_76 (by decide) ?_
  refine lv_icmp_ne (tgt := 90) hx hb dX12_addSha_78 (by decide) (fun _ => ?_) (fun cc_2 => absurd cc_2 (by decide))
  exact hk_vret (u := ((upd (ar 4) 0 (-2147483648)), ((lg 1) + 8))) hx hb hr hlocks (show hk_W D [(cI, .int), (cJ, .long)] _ s _ _ (mw cI cJ ad (upd g 15 1) (vp_updL lg 1 (((upd (ar 4) 0 (-2147483648)), ((lg 1) + 8)).2)) (va_up ar 4 (((upd (ar 4) 0 (-2147483648)), ((lg 1) + 8)).1)) bk) from hw) ((fun w hw => by rcases (show w = 0 by omega) with rfl; rfl)) dX12_addSha_90

def ww_cn_addZ : List Cond := Cond.code yX12_addSha cX12_addSha 3 none :: ([Cond.fieldLink RX12 149 "LzmaChainsModel" "shaFilled" "I", Cond.fieldLink RX12 41 "LzmaChainsModel" "shaRow" "[I", Cond.fieldLink RX12 152 "LzmaChainsModel" "shaAll" "J", Cond.constantLong RX12 155 8] ++ (wsX120 ++ ([])))
set_option maxHeartbeats 4000000 in
set_option maxRecDepth 100000 in
/-- the reference: addSha(0), on the way -/
theorem cn_addZ (l : Launch) (D : va_G) (cI cJ : ClassId) (ad : Nat → Nat) (g : Nat → Int32) (lg : Nat → Int64) (ar : Nat → Nat → Int32) (bk : Nat → Int64) (sz : Nat) (n : Nat) (h1 : 1 ≤ n) (h2 : n < 63) (hf : g 15 = nI n) (hrr : ∀ w, 4 * w < n → ar 4 w = hs_L w) : Met l yX12_addSha ww_cn_addZ { frames := 0, cells := 0, slots := 0, locals := 0 } (va_Pc [.ref (ad 0), .int 0] (hk_B D [(cI, .int), (cJ, .long)] sz (mw cI cJ ad g lg ar bk))) (va_Qv (fun u : (Nat → Int32) × Int64 => ∀ w, 4 * w < n + 1 → u.1 w = hs_L w) (fun u : (Nat → Int32) × Int64 => hk_E D [(cI, .int), (cJ, .long)] (va_A (mw cI cJ ad g lg ar bk) sz) (mw cI cJ ad (upd g 15 (nI (n + 1))) (vp_updL lg 1 u.2) (va_up ar 4 u.1) bk)) (va_A (mw cI cJ ad g lg ar bk) sz)) 0 0 (va_A (mw cI cJ ad g lg ar bk) sz) := by
  refine hk_met (cc := cX12_addSha) (maxL := 3) (ret := none) (by decide) rfl (Nat.le_of_ble_eq_true rfl) ?_
  intro p e s m below meth c ls hx hb hr hml hown hts hlocks hin hA hw hl
  have iX12 : ∀ w ∈ wsX120, w ∈ ww_cn_addZ := fun _ h => List.mem_cons_of_mem _ (List.mem_append_right _ (List.mem_append_left _ h))
  have hl : lv_has ls 3 [(0, .ref (ad 0)), (1, .int 0)] := hl
  refine lv_aload_n hx hb dX12_addSha_0 rfl (lv_at hl 0 rfl) ?_
  refine hk_get (ci := 15) (C := RX12) (T := TX12) (N := 92) (v := .int (nI n)) hx hb hts iX12 hown hw 0 rfl rfl 21 (by decide) (hts _ (List.mem_of_getElem? (i := 1) rfl)) (congrArg (fun z => some (Value.int z)) hf) dX12_addSha_1 ?_
  refine lv_iconst (v := 4) hx hb dX12_addSha_4 (by decide) ?_
  refine lv_idiv hx hb dX12_addSha_5 (by decide) ?_
  refine lv_istore_n (lv' := [(2, .int ((nI n) / 4)), (0, .ref (ad 0)), (1, .int 0)]) hx hb dX12_addSha_6 rfl hl (by decide) rfl (fun ls hl => ?_)
  refine lv_aload_n hx hb dX12_addSha_7 rfl (lv_at hl 1 rfl) ?_
  refine hk_get (ci := 15) (C := RX12) (T := TX12) (N := 92) (v := .ref (ad 5)) hx hb hts iX12 hown hw 0 rfl rfl 20 (by decide) (hts _ (List.mem_of_getElem? (i := 2) rfl)) rfl dX12_addSha_8 ?_
  refine lv_iload_n hx hb dX12_addSha_11 rfl (lv_at hl 0 rfl) ?_
  refine lv_aload_n hx hb dX12_addSha_12 rfl (lv_at hl 1 rfl) ?_
  refine hk_get (ci := 15) (C := RX12) (T := TX12) (N := 92) (v := .int (nI n)) hx hb hts iX12 hown hw 0 rfl rfl 21 (by decide) (hts _ (List.mem_of_getElem? (i := 1) rfl)) (congrArg (fun z => some (Value.int z)) hf) dX12_addSha_13 ?_
  refine lv_iconst (v := 4) hx hb dX12_addSha_16 (by decide) ?_
  refine lv_irem hx hb dX12_addSha_17 (by decide) ?_
  refine lv_if_ne (tgt := 28) hx hb dX12_addSha_18 (by decide) (fun cc_1 => ?_) (fun cc_1 => ?_)
  · refine lv_aload_n hx hb dX12_addSha_28 rfl (lv_at hl 1 rfl) ?_
    refine hk_get (ci := 15) (C := RX12) (T := TX12) (N := 92) (v := .ref (ad 5)) hx hb hts iX12 hown hw 0 rfl rfl 20 (by decide) (hts _ (List.mem_of_getElem? (i := 2) rfl)) rfl dX12_addSha_29 ?_
    refine lv_iload_n hx hb dX12_addSha_32 rfl (lv_at hl 0 rfl) ?_
    refine hk_iald (v := (hs_L (n / 4))) hx hb hw 5 0 rfl rfl ((show ∀ n, n < 63 → ¬ ((nI n / 4 : Int32) < 0 ∨ 64 ≤ (nI n / 4 : Int32).toNatClampNeg) by decide +kernel) n h2) dX12_addSha_33 (by rw [(show ∀ n, n < 63 → (nI n / 4 : Int32).toNatClampNeg = n / 4 by decide +kernel) n h2]; exact hrr _ ((show ∀ n, n < 63 → ¬ (nI n - nI n / 4 * 4 = 0) → 4 * (n / 4) < n by decide +kernel) n h2 cc_1)) ?_
    refine lv_iload_n hx hb dX12_addSha_34 rfl (lv_at hl 2 rfl) ?_
    refine lv_bipush (v := 24) hx hb dX12_addSha_35 (by decide) ?_
    refine lv_bipush (v := 8) hx hb dX12_addSha_37 (by decide) ?_
    refine lv_aload_n hx hb dX12_addSha_39 rfl (lv_at hl 1 rfl) ?_
    refine hk_get (ci := 15) (C := RX12) (T := TX12) (N := 92) (v := .int (nI n)) hx hb hts iX12 hown hw 0 rfl rfl 21 (by decide) (hts _ (List.mem_of_getElem? (i := 1) rfl)) (congrArg (fun z => some (Value.int z)) hf) dX12_addSha_40 ?_
    refine lv_iconst (v := 4) hx hb dX12_addSha_43 (by decide) ?_
    refine lv_irem hx hb dX12_addSha_44 (by decide) ?_
    refine lv_imul hx hb dX12_addSha_45 ?_
    refine lv_isub hx hb dX12_addSha_46 ?_
    refine lv_ishl hx hb dX12_addSha_47 ?_
    refine lv_ior hx hb dX12_addSha_48 ?_
    refine hk_topi (hs_L (n / 4)) ((show ∀ n, n < 63 → ((hs_L (n / 4)) ||| ((0 : Int32) <<< (((24 - (8 * ((nI n) - (nI n) / 4 * 4))) : Int32) &&& 31))) = (hs_L (n / 4)) by decide +kernel) n h2) ?_
    refine hk_iast hx hb hw 5 0 rfl rfl ((show ∀ n, n < 63 → ¬ ((nI n / 4 : Int32) < 0 ∨ 64 ≤ (nI n / 4 : Int32).toNatClampNeg) by decide +kernel) n h2) dX12_addSha_49 (ws' := mw cI cJ ad g lg (va_up ar 4 (upd (ar 4) (((nI n) / 4)).toNatClampNeg (hs_L (n / 4)))) bk) rfl (fun H locs hw => ?_)
    refine lv_aload_n hx hb dX12_addSha_50 rfl (lv_at hl 1 rfl) ?_
    refine lv_dup hx hb dX12_addSha_51 rfl ?_
    refine hk_get (ci := 15) (C := RX12) (T := TX12) (N := 92) (v := .int (nI n)) hx hb hts iX12 hown hw 0 rfl rfl 21 (by decide) (hts _ (List.mem_of_getElem? (i := 1) rfl)) (congrArg (fun z => some (Value.int z)) hf) dX12_addSha_52 ?_
    refine lv_iconst (v := 1) hx hb dX12_addSha_55 (by decide) ?_
    refine lv_iadd hx hb dX12_addSha_56 ?_
    refine hk_topi (nI (n + 1)) ((nI_succ n).symm) ?_
    refine hk_put (ci := 15) (C := RX12) (T := TX12) (N := 92) (ty := .int) (v := .int (nI (n + 1))) hx hb hts iX12 tyX12 tyX12_ok nmX12 hown hw 0 rfl rfl 21 (by decide) (hts _ (List.mem_of_getElem? (i := 1) rfl)) rfl (by decide +kernel) rfl rfl (Nat.le_of_ble_eq_true rfl) dX12_addSha_57 (ws' := mw cI cJ ad (upd g 15 (nI (n + 1))) lg (va_up ar 4 (upd (ar 4) (((nI n) / 4)).toNatClampNeg (hs_L (n / 4)))) bk) rfl (fun H locs hw => ?_)
    refine lv_aload_n hx hb dX12_addSha_60 rfl (lv_at hl 1 rfl) ?_
    refine lv_dup hx hb dX12_addSha_61 rfl ?_
    refine hk_get (ci := 15) (C := RX12) (T := TX12) (N := 92) (v := .long (lg 1)) hx hb hts iX12 hown hw 0 rfl rfl 22 (by decide) (hts _ (List.mem_of_getElem? (i := 3) rfl)) rfl dX12_addSha_62 ?_
    refine lv_ldc2 (v := 8) hx hb hown (hts _ (List.mem_of_getElem? (i := 4) rfl)) dX12_addSha_65 ?_
    refine lv_ladd hx hb dX12_addSha_68 ?_
    refine hk_put (ci := 15) (C := RX12) (T := TX12) (N := 92) (ty := .long) (v := .long ((lg 1) + 8)) hx hb hts iX12 tyX12 tyX12_ok nmX12 hown hw 0 rfl rfl 22 (by decide) (hts _ (List.mem_of_getElem? (i := 3) rfl)) rfl (by decide +kernel) rfl rfl (Nat.le_of_ble_eq_true rfl) dX12_addSha_69 (ws' := mw cI cJ ad (upd g 15 (nI (n + 1))) (vp_updL lg 1 ((lg 1) + 8)) (va_up ar 4 (upd (ar 4) (((nI n) / 4)).toNatClampNeg (hs_L (n / 4)))) bk) rfl (fun H locs hw => ?_)
    refine lv_aload_n hx hb dX12_addSha_72 rfl (lv_at hl 1 rfl) ?_
    refine hk_get (ci := 15) (C := RX12) (T := TX12) (N := 92) (v := .int (nI (n + 1))) hx hb hts iX12 hown hw 0 rfl rfl 21 (by decide) (hts _ (List.mem_of_getElem? (i := 1) rfl)) rfl dX12_addSha_73 ?_
    refine lv_bipush (v := 64) hx hb dX12_addSha_76 (by decide) ?_
    refine lv_icmp_ne (tgt := 90) hx hb dX12_addSha_78 (by decide) (fun _ => ?_) (fun cc_2 => absurd cc_2 ((show ∀ n, n < 63 → ¬ nI (n + 1) = 64 by decide +kernel) n h2))
    exact hk_vret (u := ((upd (ar 4) (((nI n) / 4)).toNatClampNeg (hs_L (n / 4))), ((lg 1) + 8))) hx hb hr hlocks (show hk_W D [(cI, .int), (cJ, .long)] _ s _ _ (mw cI cJ ad (upd g 15 (nI (n + 1))) (vp_updL lg 1 (((upd (ar 4) (((nI n) / 4)).toNatClampNeg (hs_L (n / 4))), ((lg 1) + 8)).2)) (va_up ar 4 (((upd (ar 4) (((nI n) / 4)).toNatClampNeg (hs_L (n / 4))), ((lg 1) + 8)).1)) bk) from hw) (hs_aw hrr ((show ∀ n, n < 63 → (nI n / 4 : Int32).toNatClampNeg = n / 4 by decide +kernel) n h2) rfl) dX12_addSha_90
  · refine lv_iload_n hx hb dX12_addSha_21 rfl (lv_at hl 2 rfl) ?_
    refine lv_bipush (v := 24) hx hb dX12_addSha_22 (by decide) ?_
    refine lv_ishl hx hb dX12_addSha_24 ?_
    refine hk_topi 0 (by decide +kernel) ?_
    refine lv_goto (tgt := 49) hx hb dX12_addSha_25 (by decide) ?_
    refine hk_iast hx hb hw 5 0 rfl rfl ((show ∀ n, n < 63 → ¬ ((nI n / 4 : Int32) < 0 ∨ 64 ≤ (nI n / 4 : Int32).toNatClampNeg) by decide +kernel) n h2) dX12_addSha_49 (ws' := mw cI cJ ad g lg (va_up ar 4 (upd (ar 4) (((nI n) / 4)).toNatClampNeg 0)) bk) rfl (fun H locs hw => ?_)
    refine lv_aload_n hx hb dX12_addSha_50 rfl (lv_at hl 1 rfl) ?_
    refine lv_dup hx hb dX12_addSha_51 rfl ?_
    refine hk_get (ci := 15) (C := RX12) (T := TX12) (N := 92) (v := .int (nI n)) hx hb hts iX12 hown hw 0 rfl rfl 21 (by decide) (hts _ (List.mem_of_getElem? (i := 1) rfl)) (congrArg (fun z => some (Value.int z)) hf) dX12_addSha_52 ?_
    refine lv_iconst (v := 1) hx hb dX12_addSha_55 (by decide) ?_
    refine lv_iadd hx hb dX12_addSha_56 ?_
    refine hk_topi (nI (n + 1)) ((nI_succ n).symm) ?_
    refine hk_put (ci := 15) (C := RX12) (T := TX12) (N := 92) (ty := .int) (v := .int (nI (n + 1))) hx hb hts iX12 tyX12 tyX12_ok nmX12 hown hw 0 rfl rfl 21 (by decide) (hts _ (List.mem_of_getElem? (i := 1) rfl)) rfl (by decide +kernel) rfl rfl (Nat.le_of_ble_eq_true rfl) dX12_addSha_57 (ws' := mw cI cJ ad (upd g 15 (nI (n + 1))) lg (va_up ar 4 (upd (ar 4) (((nI n) / 4)).toNatClampNeg 0)) bk) rfl (fun H locs hw => ?_)
    refine lv_aload_n hx hb dX12_addSha_60 rfl (lv_at hl 1 rfl) ?_
    refine lv_dup hx hb dX12_addSha_61 rfl ?_
    refine hk_get (ci := 15) (C := RX12) (T := TX12) (N := 92) (v := .long (lg 1)) hx hb hts iX12 hown hw 0 rfl rfl 22 (by decide) (hts _ (List.mem_of_getElem? (i := 3) rfl)) rfl dX12_addSha_62 ?_
    refine lv_ldc2 (v := 8) hx hb hown (hts _ (List.mem_of_getElem? (i := 4) rfl)) dX12_addSha_65 ?_
    refine lv_ladd hx hb dX12_addSha_68 ?_
    refine hk_put (ci := 15) (C := RX12) (T := TX12) (N := 92) (ty := .long) (v := .long ((lg 1) + 8)) hx hb hts iX12 tyX12 tyX12_ok nmX12 hown hw 0 rfl rfl 22 (by decide) (hts _ (List.mem_of_getElem? (i := 3) rfl)) rfl (by decide +kernel) rfl rfl (Nat.le_of_ble_eq_true rfl) dX12_addSha_69 (ws' := mw cI cJ ad (upd g 15 (nI (n + 1))) (vp_updL lg 1 ((lg 1) + 8)) (va_up ar 4 (upd (ar 4) (((nI n) / 4)).toNatClampNeg 0)) bk) rfl (fun H locs hw => ?_)
    refine lv_aload_n hx hb dX12_addSha_72 rfl (lv_at hl 1 rfl) ?_
    refine hk_get (ci := 15) (C := RX12) (T := TX12) (N := 92) (v := .int (nI (n + 1))) hx hb hts iX12 hown hw 0 rfl rfl 21 (by decide) (hts _ (List.mem_of_getElem? (i := 1) rfl)) rfl dX12_addSha_73 ?_
    refine lv_bipush (v := 64) hx hb dX12_addSha_76 (by decide) ?_
    refine lv_icmp_ne (tgt := 90) hx hb dX12_addSha_78 (by decide) (fun _ => ?_) (fun cc_3 => absurd cc_3 ((show ∀ n, n < 63 → ¬ nI (n + 1) = 64 by decide +kernel) n h2))
    exact hk_vret (u := ((upd (ar 4) (((nI n) / 4)).toNatClampNeg 0), ((lg 1) + 8))) hx hb hr hlocks (show hk_W D [(cI, .int), (cJ, .long)] _ s _ _ (mw cI cJ ad (upd g 15 (nI (n + 1))) (vp_updL lg 1 (((upd (ar 4) (((nI n) / 4)).toNatClampNeg 0), ((lg 1) + 8)).2)) (va_up ar 4 (((upd (ar 4) (((nI n) / 4)).toNatClampNeg 0), ((lg 1) + 8)).1)) bk) from hw) (hs_aw hrr ((show ∀ n, n < 63 → (nI n / 4 : Int32).toNatClampNeg = n / 4 by decide +kernel) n h2) ((show ∀ n, n < 63 → 1 ≤ n → nI n - nI n / 4 * 4 = 0 → (0 : Int32) = hs_L (n / 4) by decide +kernel) n h2 h1 cc_1)) dX12_addSha_90

def ww_cn_addLast : List Cond := Cond.code yX12_addSha cX12_addSha 3 none :: ([Cond.fieldLink RX12 149 "LzmaChainsModel" "shaFilled" "I", Cond.fieldLink RX12 41 "LzmaChainsModel" "shaRow" "[I", Cond.fieldLink RX12 152 "LzmaChainsModel" "shaAll" "J", Cond.constantLong RX12 155 8, Cond.methodLink RX12 157 yX12_mixSha, Cond.instanceMethod yX12_mixSha, Cond.selects RX12 yX12_mixSha yX12_mixSha, Cond.initialized RX12, Cond.code yX12_mixSha cX12_mixSha 12 none, Cond.fieldLink RX12 38 "LzmaChainsModel" "sha" "[I", Cond.methodLink RX12 160 yX12_turned, Cond.static yX12_turned, Cond.code yX12_turned cX12_turned 2 (some .int), Cond.fieldLink RX12 164 "LzmaChainsModel" "ROUND" "[I"] ++ (wsX120 ++ ([])))
set_option maxRecDepth 20000 in
theorem gw_cn_addLast_0 : GoodIn ww_cn_addLast (wsV RX12 157 RX12 yX12_mixSha ww_cn_mixSha) := goodIn_r _ [5, 6, 7, 8, 9, 10, 11, 12, 8, 13, 14, 2, 15, 16, 17, 18, 19, 20, 21, 22, 23, 24, 25, 26, 27, 28, 29, 30, 31, 32, 33, 34, 35, 36, 37, 38, 39, 40, 41, 42, 43, 44, 45, 46, 47, 48, 49, 50, 51, 52, 53, 54, 55, 56, 57, 58, 59, 60, 61, 62, 63, 64, 65, 66, 67, 68, 69, 70, 71, 72, 73, 74, 75, 76, 77, 78, 79, 80, 81, 82, 83, 84, 85, 86, 87, 88, 89, 90, 91, 92, 93, 94, 95, 96, 97, 98, 99, 100, 101, 102, 103, 104, 105, 106] rfl (by decide +kernel)
set_option maxHeartbeats 4000000 in
set_option maxRecDepth 100000 in
/-- the reference: addSha(0), the last of a part -/
theorem cn_addLast (l : Launch) (t3 : Nat × Nat × Nat) (D : va_G) (cI cJ : ClassId) (ad : Nat → Nat) (g : Nat → Int32) (lg : Nat → Int64) (ar : Nat → Nat → Int32) (bk : Nat → Int64) (sz : Nat) (hf : g 15 = 63) (hrr : ∀ w, 4 * w < 63 → ar 4 w = hs_L w) (h8 : ∀ j, j < 8 → ar 3 j = hs_H j) : Met l yX12_addSha ww_cn_addLast { frames := 2, cells := 0, slots := 0, locals := 52 } (va_Pc [.ref (ad 0), .int 0] (hk_BY t3 D [(cI, .int), (cJ, .long)] sz (mw cI cJ ad g lg ar bk))) (va_Qv (fun u : (Nat → Int32) × (Nat → Int32) × Int64 => ∀ j, j < 8 → u.1 j = hs_O j) (fun u : (Nat → Int32) × (Nat → Int32) × Int64 => hk_E D [(cI, .int), (cJ, .long)] (va_A (mw cI cJ ad g lg ar bk) sz) (mw cI cJ ad (upd g 15 0) (vp_updL lg 1 u.2.2) (va_up (va_up ar 4 u.2.1) 3 u.1) bk)) (va_A (mw cI cJ ad g lg ar bk) sz)) 0 0 (va_A (mw cI cJ ad g lg ar bk) sz) := by
  refine hk_smet (t3 := t3) (cc := cX12_addSha) (maxL := 3) (ret := none) (by decide) rfl (Nat.le_of_ble_eq_true rfl) ?_
  intro p e s m below meth c ls hx hb hr hml hown hts hlocks hin hA hZ hw hl
  have iX12 : ∀ w ∈ wsX120, w ∈ ww_cn_addLast := fun _ h => List.mem_cons_of_mem _ (List.mem_append_right _ (List.mem_append_left _ h))
  have hl : lv_has ls 3 [(0, .ref (ad 0)), (1, .int 0)] := hl
  refine lv_aload_n hx hb dX12_addSha_0 rfl (lv_at hl 0 rfl) ?_
  refine hk_get (ci := 15) (C := RX12) (T := TX12) (N := 92) (v := .int 63) hx hb hts iX12 hown hw 0 rfl rfl 21 (by decide) (hts _ (List.mem_of_getElem? (i := 1) rfl)) (congrArg (fun z => some (Value.int z)) hf) dX12_addSha_1 ?_
  refine lv_iconst (v := 4) hx hb dX12_addSha_4 (by decide) ?_
  refine lv_idiv hx hb dX12_addSha_5 (by decide) ?_
  refine hk_topi 15 (by decide +kernel) ?_
  refine lv_istore_n (lv' := [(2, .int 15), (0, .ref (ad 0)), (1, .int 0)]) hx hb dX12_addSha_6 rfl hl (by decide) rfl (fun ls hl => ?_)
  refine lv_aload_n hx hb dX12_addSha_7 rfl (lv_at hl 1 rfl) ?_
  refine hk_get (ci := 15) (C := RX12) (T := TX12) (N := 92) (v := .ref (ad 5)) hx hb hts iX12 hown hw 0 rfl rfl 20 (by decide) (hts _ (List.mem_of_getElem? (i := 2) rfl)) rfl dX12_addSha_8 ?_
  refine lv_iload_n hx hb dX12_addSha_11 rfl (lv_at hl 0 rfl) ?_
  refine lv_aload_n hx hb dX12_addSha_12 rfl (lv_at hl 1 rfl) ?_
  refine hk_get (ci := 15) (C := RX12) (T := TX12) (N := 92) (v := .int 63) hx hb hts iX12 hown hw 0 rfl rfl 21 (by decide) (hts _ (List.mem_of_getElem? (i := 1) rfl)) (congrArg (fun z => some (Value.int z)) hf) dX12_addSha_13 ?_
  refine lv_iconst (v := 4) hx hb dX12_addSha_16 (by decide) ?_
  refine lv_irem hx hb dX12_addSha_17 (by decide) ?_
  refine hk_topi 3 (by decide +kernel) ?_
  refine lv_if_ne (tgt := 28) hx hb dX12_addSha_18 (by decide) (fun _ => ?_) (fun cc_1 => absurd cc_1 (by decide))
  refine lv_aload_n hx hb dX12_addSha_28 rfl (lv_at hl 1 rfl) ?_
  refine hk_get (ci := 15) (C := RX12) (T := TX12) (N := 92) (v := .ref (ad 5)) hx hb hts iX12 hown hw 0 rfl rfl 20 (by decide) (hts _ (List.mem_of_getElem? (i := 2) rfl)) rfl dX12_addSha_29 ?_
  refine lv_iload_n hx hb dX12_addSha_32 rfl (lv_at hl 0 rfl) ?_
  refine hk_iald (v := (hs_L 15)) hx hb hw 5 0 rfl rfl (show ¬ (_ ∨ _) by decide) dX12_addSha_33 (hrr 15 (by decide)) ?_
  refine lv_iload_n hx hb dX12_addSha_34 rfl (lv_at hl 2 rfl) ?_
  refine lv_bipush (v := 24) hx hb dX12_addSha_35 (by decide) ?_
  refine lv_bipush (v := 8) hx hb dX12_addSha_37 (by decide) ?_
  refine lv_aload_n hx hb dX12_addSha_39 rfl (lv_at hl 1 rfl) ?_
  refine hk_get (ci := 15) (C := RX12) (T := TX12) (N := 92) (v := .int 63) hx hb hts iX12 hown hw 0 rfl rfl 21 (by decide) (hts _ (List.mem_of_getElem? (i := 1) rfl)) (congrArg (fun z => some (Value.int z)) hf) dX12_addSha_40 ?_
  refine lv_iconst (v := 4) hx hb dX12_addSha_43 (by decide) ?_
  refine lv_irem hx hb dX12_addSha_44 (by decide) ?_
  refine hk_topi 3 (by decide +kernel) ?_
  refine lv_imul hx hb dX12_addSha_45 ?_
  refine hk_topi 24 (by decide +kernel) ?_
  refine lv_isub hx hb dX12_addSha_46 ?_
  refine hk_topi 0 (by decide +kernel) ?_
  refine lv_ishl hx hb dX12_addSha_47 ?_
  refine hk_topi 0 (by decide +kernel) ?_
  refine lv_ior hx hb dX12_addSha_48 ?_
  refine hk_topi (hs_L 15) (by decide +kernel) ?_
  refine hk_iast hx hb hw 5 0 rfl rfl (show ¬ (_ ∨ _) by decide) dX12_addSha_49 (ws' := mw cI cJ ad g lg (va_up ar 4 (upd (ar 4) 15 (hs_L 15))) bk) rfl (fun H locs hw => ?_)
  refine lv_aload_n hx hb dX12_addSha_50 rfl (lv_at hl 1 rfl) ?_
  refine lv_dup hx hb dX12_addSha_51 rfl ?_
  refine hk_get (ci := 15) (C := RX12) (T := TX12) (N := 92) (v := .int 63) hx hb hts iX12 hown hw 0 rfl rfl 21 (by decide) (hts _ (List.mem_of_getElem? (i := 1) rfl)) (congrArg (fun z => some (Value.int z)) hf) dX12_addSha_52 ?_
  refine lv_iconst (v := 1) hx hb dX12_addSha_55 (by decide) ?_
  refine lv_iadd hx hb dX12_addSha_56 ?_
  refine hk_topi 64 (by decide +kernel) ?_
  refine hk_put (ci := 15) (C := RX12) (T := TX12) (N := 92) (ty := .int) (v := .int 64) hx hb hts iX12 tyX12 tyX12_ok nmX12 hown hw 0 rfl rfl 21 (by decide) (hts _ (List.mem_of_getElem? (i := 1) rfl)) rfl (by decide +kernel) rfl rfl (Nat.le_of_ble_eq_true rfl) dX12_addSha_57 (ws' := mw cI cJ ad (upd g 15 64) lg (va_up ar 4 (upd (ar 4) 15 (hs_L 15))) bk) rfl (fun H locs hw => ?_)
  refine lv_aload_n hx hb dX12_addSha_60 rfl (lv_at hl 1 rfl) ?_
  refine lv_dup hx hb dX12_addSha_61 rfl ?_
  refine hk_get (ci := 15) (C := RX12) (T := TX12) (N := 92) (v := .long (lg 1)) hx hb hts iX12 hown hw 0 rfl rfl 22 (by decide) (hts _ (List.mem_of_getElem? (i := 3) rfl)) rfl dX12_addSha_62 ?_
  refine lv_ldc2 (v := 8) hx hb hown (hts _ (List.mem_of_getElem? (i := 4) rfl)) dX12_addSha_65 ?_
  refine lv_ladd hx hb dX12_addSha_68 ?_
  refine hk_put (ci := 15) (C := RX12) (T := TX12) (N := 92) (ty := .long) (v := .long ((lg 1) + 8)) hx hb hts iX12 tyX12 tyX12_ok nmX12 hown hw 0 rfl rfl 22 (by decide) (hts _ (List.mem_of_getElem? (i := 3) rfl)) rfl (by decide +kernel) rfl rfl (Nat.le_of_ble_eq_true rfl) dX12_addSha_69 (ws' := mw cI cJ ad (upd g 15 64) (vp_updL lg 1 ((lg 1) + 8)) (va_up ar 4 (upd (ar 4) 15 (hs_L 15))) bk) rfl (fun H locs hw => ?_)
  refine lv_aload_n hx hb dX12_addSha_72 rfl (lv_at hl 1 rfl) ?_
  refine hk_get (ci := 15) (C := RX12) (T := TX12) (N := 92) (v := .int 64) hx hb hts iX12 hown hw 0 rfl rfl 21 (by decide) (hts _ (List.mem_of_getElem? (i := 1) rfl)) rfl dX12_addSha_73 ?_
  refine lv_bipush (v := 64) hx hb dX12_addSha_76 (by decide) ?_
  refine lv_icmp_ne (tgt := 90) hx hb dX12_addSha_78 (by decide) (fun cc_2 => absurd (by decide) cc_2) (fun _ => ?_)
  refine lv_aload_n hx hb dX12_addSha_81 rfl (lv_at hl 1 rfl) ?_
  refine hk_ZVv (As := []) (rest := []) ⟨hx, hb, hml, hown, hts⟩ hZ hw hA (cn_mixSha l t3 D cI cJ ad (upd g 15 64) (vp_updL lg 1 ((lg 1) + 8)) (va_up ar 4 (upd (ar 4) 15 (hs_L 15))) bk _ h8 (hs_ov (fun j hj => hrr j (by omega)) rfl)) (cwV 0 hts gw_cn_addLast_0 rfl rfl rfl (by decide +kernel) ⟨Nat.le_of_ble_eq_true rfl, Nat.le_of_ble_eq_true rfl⟩) 0 (ci := 15) (T := TX12) (N := 92) rfl rfl rfl hl.1 rfl (Nat.le_of_ble_eq_true rfl) dX12_addSha_82 ⟨Nat.le_of_ble_eq_true rfl, Nat.le_of_ble_eq_true rfl⟩ (fun uu_4 H locs hp_5 hw => ?_)
  have hO := hp_5
  have hw : hk_W D [(cI, .int), (cJ, .long)] _ s _ _ (mw cI cJ ad (upd g 15 64) (vp_updL lg 1 ((lg 1) + 8)) (va_up (va_up (va_up ar 4 (upd (ar 4) 15 (hs_L 15))) 4 uu_4.2) 3 uu_4.1) bk) := hw
  refine lv_aload_n hx hb dX12_addSha_85 rfl (lv_at hl 1 rfl) ?_
  refine lv_iconst (v := 0) hx hb dX12_addSha_86 (by decide) ?_
  refine hk_put (ci := 15) (C := RX12) (T := TX12) (N := 92) (ty := .int) (v := .int 0) hx hb hts iX12 tyX12 tyX12_ok nmX12 hown hw 0 rfl rfl 21 (by decide) (hts _ (List.mem_of_getElem? (i := 1) rfl)) rfl (by decide +kernel) rfl rfl (Nat.le_of_ble_eq_true rfl) dX12_addSha_87 (ws' := mw cI cJ ad (upd g 15 0) (vp_updL lg 1 ((lg 1) + 8)) (va_up (va_up ar 4 uu_4.2) 3 uu_4.1) bk) rfl (fun H locs hw => ?_)
  exact hk_vret (u := (uu_4.1, uu_4.2, ((lg 1) + 8))) hx hb hr hlocks (show hk_W D [(cI, .int), (cJ, .long)] _ s _ _ (mw cI cJ ad (upd g 15 0) (vp_updL lg 1 ((uu_4.1, uu_4.2, ((lg 1) + 8)).2.2)) (va_up (va_up ar 4 ((uu_4.1, uu_4.2, ((lg 1) + 8)).2.1)) 3 ((uu_4.1, uu_4.2, ((lg 1) + 8)).1)) bk) from hw) (hO) dX12_addSha_90

def ww_cn_beginSha : List Cond := Cond.code yX12_beginSha cX12_beginSha 1 none :: ([Cond.fieldLink RX12 38 "LzmaChainsModel" "sha" "[I", Cond.constant RX12 141 1779033703, Cond.constant RX12 142 (-1150833019), Cond.constant RX12 143 1013904242, Cond.constant RX12 144 (-1521486534), Cond.constant RX12 145 1359893119, Cond.constant RX12 146 (-1694144372), Cond.constant RX12 147 528734635, Cond.constant RX12 148 1541459225, Cond.fieldLink RX12 149 "LzmaChainsModel" "shaFilled" "I", Cond.fieldLink RX12 152 "LzmaChainsModel" "shaAll" "J"] ++ (wsX120 ++ ([])))
set_option maxHeartbeats 4000000 in
set_option maxRecDepth 100000 in
/-- the reference: beginSha -/
theorem cn_beginSha (l : Launch) (D : va_G) (cI cJ : ClassId) (ad : Nat → Nat) (g : Nat → Int32) (lg : Nat → Int64) (ar : Nat → Nat → Int32) (bk : Nat → Int64) (sz : Nat)  : Met l yX12_beginSha ww_cn_beginSha { frames := 0, cells := 0, slots := 0, locals := 0 } (va_Pc [.ref (ad 0)] (hk_B D [(cI, .int), (cJ, .long)] sz (mw cI cJ ad g lg ar bk))) (va_Qv (fun u : (Nat → Int32) => ∀ j, j < 8 → u j = hs_H j) (fun u : (Nat → Int32) => hk_E D [(cI, .int), (cJ, .long)] (va_A (mw cI cJ ad g lg ar bk) sz) (mw cI cJ ad (upd g 15 0) (vp_updL lg 1 0) (va_up ar 3 u) bk)) (va_A (mw cI cJ ad g lg ar bk) sz)) 0 0 (va_A (mw cI cJ ad g lg ar bk) sz) := by
  refine hk_met (cc := cX12_beginSha) (maxL := 1) (ret := none) (by decide) rfl (Nat.le_of_ble_eq_true rfl) ?_
  intro p e s m below meth c ls hx hb hr hml hown hts hlocks hin hA hw hl
  have iX12 : ∀ w ∈ wsX120, w ∈ ww_cn_beginSha := fun _ h => List.mem_cons_of_mem _ (List.mem_append_right _ (List.mem_append_left _ h))
  have hl : lv_has ls 1 [(0, .ref (ad 0))] := hl
  refine lv_aload_n hx hb dX12_beginSha_0 rfl (lv_at hl 0 rfl) ?_
  refine hk_get (ci := 15) (C := RX12) (T := TX12) (N := 92) (v := .ref (ad 4)) hx hb hts iX12 hown hw 0 rfl rfl 19 (by decide) (hts _ (List.mem_of_getElem? (i := 1) rfl)) rfl dX12_beginSha_1 ?_
  refine lv_iconst (v := 0) hx hb dX12_beginSha_4 (by decide) ?_
  refine lv_ldc (v := 1779033703) hx hb hown (hts _ (List.mem_of_getElem? (i := 2) rfl)) dX12_beginSha_5 ?_
  refine hk_iast hx hb hw 4 0 rfl rfl (show ¬ (_ ∨ _) by decide) dX12_beginSha_7 (ws' := mw cI cJ ad g lg (va_up ar 3 (upd (ar 3) 0 1779033703)) bk) rfl (fun H locs hw => ?_)
  refine lv_aload_n hx hb dX12_beginSha_8 rfl (lv_at hl 0 rfl) ?_
  refine hk_get (ci := 15) (C := RX12) (T := TX12) (N := 92) (v := .ref (ad 4)) hx hb hts iX12 hown hw 0 rfl rfl 19 (by decide) (hts _ (List.mem_of_getElem? (i := 1) rfl)) rfl dX12_beginSha_9 ?_
  refine lv_iconst (v := 1) hx hb dX12_beginSha_12 (by decide) ?_
  refine lv_ldc (v := (-1150833019)) hx hb hown (hts _ (List.mem_of_getElem? (i := 3) rfl)) dX12_beginSha_13 ?_
  refine hk_iast hx hb hw 4 0 rfl rfl (show ¬ (_ ∨ _) by decide) dX12_beginSha_15 (ws' := mw cI cJ ad g lg (va_up ar 3 (upd (upd (ar 3) 0 1779033703) 1 (-1150833019))) bk) rfl (fun H locs hw => ?_)
  refine lv_aload_n hx hb dX12_beginSha_16 rfl (lv_at hl 0 rfl) ?_
  refine hk_get (ci := 15) (C := RX12) (T := TX12) (N := 92) (v := .ref (ad 4)) hx hb hts iX12 hown hw 0 rfl rfl 19 (by decide) (hts _ (List.mem_of_getElem? (i := 1) rfl)) rfl dX12_beginSha_17 ?_
  refine lv_iconst (v := 2) hx hb dX12_beginSha_20 (by decide) ?_
  refine lv_ldc (v := 1013904242) hx hb hown (hts _ (List.mem_of_getElem? (i := 4) rfl)) dX12_beginSha_21 ?_
  refine hk_iast hx hb hw 4 0 rfl rfl (show ¬ (_ ∨ _) by decide) dX12_beginSha_23 (ws' := mw cI cJ ad g lg (va_up ar 3 (upd (upd (upd (ar 3) 0 1779033703) 1 (-1150833019)) 2 1013904242)) bk) rfl (fun H locs hw => ?_)
  refine lv_aload_n hx hb dX12_beginSha_24 rfl (lv_at hl 0 rfl) ?_
  refine hk_get (ci := 15) (C := RX12) (T := TX12) (N := 92) (v := .ref (ad 4)) hx hb hts iX12 hown hw 0 rfl rfl 19 (by decide) (hts _ (List.mem_of_getElem? (i := 1) rfl)) rfl dX12_beginSha_25 ?_
  refine lv_iconst (v := 3) hx hb dX12_beginSha_28 (by decide) ?_
  refine lv_ldc (v := (-1521486534)) hx hb hown (hts _ (List.mem_of_getElem? (i := 5) rfl)) dX12_beginSha_29 ?_
  refine hk_iast hx hb hw 4 0 rfl rfl (show ¬ (_ ∨ _) by decide) dX12_beginSha_31 (ws' := mw cI cJ ad g lg (va_up ar 3 (upd (upd (upd (upd (ar 3) 0 1779033703) 1 (-1150833019)) 2 1013904242) 3 (-1521486534))) bk) rfl (fun H locs hw => ?_)
  refine lv_aload_n hx hb dX12_beginSha_32 rfl (lv_at hl 0 rfl) ?_
  refine hk_get (ci := 15) (C := RX12) (T := TX12) (N := 92) (v := .ref (ad 4)) hx hb hts iX12 hown hw 0 rfl rfl 19 (by decide) (hts _ (List.mem_of_getElem? (i := 1) rfl)) rfl dX12_beginSha_33 ?_
  refine lv_iconst (v := 4) hx hb dX12_beginSha_36 (by decide) ?_
  refine lv_ldc (v := 1359893119) hx hb hown (hts _ (List.mem_of_getElem? (i := 6) rfl)) dX12_beginSha_37 ?_
  refine hk_iast hx hb hw 4 0 rfl rfl (show ¬ (_ ∨ _) by decide) dX12_beginSha_39 (ws' := mw cI cJ ad g lg (va_up ar 3 (upd (upd (upd (upd (upd (ar 3) 0 1779033703) 1 (-1150833019)) 2 1013904242) 3 (-1521486534)) 4 1359893119)) bk) rfl (fun H locs hw => ?_)
  refine lv_aload_n hx hb dX12_beginSha_40 rfl (lv_at hl 0 rfl) ?_
  refine hk_get (ci := 15) (C := RX12) (T := TX12) (N := 92) (v := .ref (ad 4)) hx hb hts iX12 hown hw 0 rfl rfl 19 (by decide) (hts _ (List.mem_of_getElem? (i := 1) rfl)) rfl dX12_beginSha_41 ?_
  refine lv_iconst (v := 5) hx hb dX12_beginSha_44 (by decide) ?_
  refine lv_ldc (v := (-1694144372)) hx hb hown (hts _ (List.mem_of_getElem? (i := 7) rfl)) dX12_beginSha_45 ?_
  refine hk_iast hx hb hw 4 0 rfl rfl (show ¬ (_ ∨ _) by decide) dX12_beginSha_47 (ws' := mw cI cJ ad g lg (va_up ar 3 (upd (upd (upd (upd (upd (upd (ar 3) 0 1779033703) 1 (-1150833019)) 2 1013904242) 3 (-1521486534)) 4 1359893119) 5 (-1694144372))) bk) rfl (fun H locs hw => ?_)
  refine lv_aload_n hx hb dX12_beginSha_48 rfl (lv_at hl 0 rfl) ?_
  refine hk_get (ci := 15) (C := RX12) (T := TX12) (N := 92) (v := .ref (ad 4)) hx hb hts iX12 hown hw 0 rfl rfl 19 (by decide) (hts _ (List.mem_of_getElem? (i := 1) rfl)) rfl dX12_beginSha_49 ?_
  refine lv_bipush (v := 6) hx hb dX12_beginSha_52 (by decide) ?_
  refine lv_ldc (v := 528734635) hx hb hown (hts _ (List.mem_of_getElem? (i := 8) rfl)) dX12_beginSha_54 ?_
  refine hk_iast hx hb hw 4 0 rfl rfl (show ¬ (_ ∨ _) by decide) dX12_beginSha_56 (ws' := mw cI cJ ad g lg (va_up ar 3 (upd (upd (upd (upd (upd (upd (upd (ar 3) 0 1779033703) 1 (-1150833019)) 2 1013904242) 3 (-1521486534)) 4 1359893119) 5 (-1694144372)) 6 528734635)) bk) rfl (fun H locs hw => ?_)
  refine lv_aload_n hx hb dX12_beginSha_57 rfl (lv_at hl 0 rfl) ?_
  refine hk_get (ci := 15) (C := RX12) (T := TX12) (N := 92) (v := .ref (ad 4)) hx hb hts iX12 hown hw 0 rfl rfl 19 (by decide) (hts _ (List.mem_of_getElem? (i := 1) rfl)) rfl dX12_beginSha_58 ?_
  refine lv_bipush (v := 7) hx hb dX12_beginSha_61 (by decide) ?_
  refine lv_ldc (v := 1541459225) hx hb hown (hts _ (List.mem_of_getElem? (i := 9) rfl)) dX12_beginSha_63 ?_
  refine hk_iast hx hb hw 4 0 rfl rfl (show ¬ (_ ∨ _) by decide) dX12_beginSha_65 (ws' := mw cI cJ ad g lg (va_up ar 3 (upd (upd (upd (upd (upd (upd (upd (upd (ar 3) 0 1779033703) 1 (-1150833019)) 2 1013904242) 3 (-1521486534)) 4 1359893119) 5 (-1694144372)) 6 528734635) 7 1541459225)) bk) rfl (fun H locs hw => ?_)
  refine lv_aload_n hx hb dX12_beginSha_66 rfl (lv_at hl 0 rfl) ?_
  refine lv_iconst (v := 0) hx hb dX12_beginSha_67 (by decide) ?_
  refine hk_put (ci := 15) (C := RX12) (T := TX12) (N := 92) (ty := .int) (v := .int 0) hx hb hts iX12 tyX12 tyX12_ok nmX12 hown hw 0 rfl rfl 21 (by decide) (hts _ (List.mem_of_getElem? (i := 10) rfl)) rfl (by decide +kernel) rfl rfl (Nat.le_of_ble_eq_true rfl) dX12_beginSha_68 (ws' := mw cI cJ ad (upd g 15 0) lg (va_up ar 3 (upd (upd (upd (upd (upd (upd (upd (upd (ar 3) 0 1779033703) 1 (-1150833019)) 2 1013904242) 3 (-1521486534)) 4 1359893119) 5 (-1694144372)) 6 528734635) 7 1541459225)) bk) rfl (fun H locs hw => ?_)
  refine lv_aload_n hx hb dX12_beginSha_71 rfl (lv_at hl 0 rfl) ?_
  refine lv_lconst (v := 0) hx hb dX12_beginSha_72 (by decide) ?_
  refine hk_put (ci := 15) (C := RX12) (T := TX12) (N := 92) (ty := .long) (v := .long 0) hx hb hts iX12 tyX12 tyX12_ok nmX12 hown hw 0 rfl rfl 22 (by decide) (hts _ (List.mem_of_getElem? (i := 11) rfl)) rfl (by decide +kernel) rfl rfl (Nat.le_of_ble_eq_true rfl) dX12_beginSha_73 (ws' := mw cI cJ ad (upd g 15 0) (vp_updL lg 1 0) (va_up ar 3 (upd (upd (upd (upd (upd (upd (upd (upd (ar 3) 0 1779033703) 1 (-1150833019)) 2 1013904242) 3 (-1521486534)) 4 1359893119) 5 (-1694144372)) 6 528734635) 7 1541459225)) bk) rfl (fun H locs hw => ?_)
  exact hk_vret (u := (upd (upd (upd (upd (upd (upd (upd (upd (ar 3) 0 1779033703) 1 (-1150833019)) 2 1013904242) 3 (-1521486534)) 4 1359893119) 5 (-1694144372)) 6 528734635) 7 1541459225)) hx hb hr hlocks (hw) (fun j hj => by match j, hj with | 0, _ => rfl | 1, _ => rfl | 2, _ => rfl | 3, _ => rfl | 4, _ => rfl | 5, _ => rfl | 6, _ => rfl | 7, _ => rfl) dX12_beginSha_76

def ww_cn_beginCheck : List Cond := Cond.code yX12_beginCheck cX12_beginCheck 2 none :: ([Cond.fieldLink RX12 171 "LzmaChainsModel" "checkNow" "I", Cond.methodLink RX12 174 yX12_begin32, Cond.instanceMethod yX12_begin32, Cond.selects RX12 yX12_begin32 yX12_begin32, Cond.initialized RX12, Cond.code yX12_begin32 cX12_begin32 1 none, Cond.fieldLink RX12 132 "LzmaChainsModel" "sum32" "I", Cond.constantLong RX12 177 (-1), Cond.fieldLink RX12 135 "LzmaChainsModel" "sum64" "J", Cond.methodLink RX12 179 yX12_beginSha, Cond.instanceMethod yX12_beginSha, Cond.selects RX12 yX12_beginSha yX12_beginSha, Cond.code yX12_beginSha cX12_beginSha 1 none, Cond.fieldLink RX12 38 "LzmaChainsModel" "sha" "[I", Cond.constant RX12 141 1779033703, Cond.constant RX12 142 (-1150833019), Cond.constant RX12 143 1013904242, Cond.constant RX12 144 (-1521486534), Cond.constant RX12 145 1359893119, Cond.constant RX12 146 (-1694144372), Cond.constant RX12 147 528734635, Cond.constant RX12 148 1541459225, Cond.fieldLink RX12 149 "LzmaChainsModel" "shaFilled" "I", Cond.fieldLink RX12 152 "LzmaChainsModel" "shaAll" "J"] ++ (wsX120 ++ ([])))
set_option maxRecDepth 20000 in
theorem gw_cn_beginCheck_0 : GoodIn ww_cn_beginCheck (wsV RX12 174 RX12 yX12_begin32 ww_cn_begin32) := goodIn_r _ [2, 3, 4, 5, 6, 7, 25, 26, 27, 28, 29, 30, 31, 32, 33, 34, 35, 36, 37, 38, 39, 40, 41, 42, 43, 44, 45, 46, 47, 48, 49, 50, 51, 52, 53, 54, 55, 56, 57, 58, 59, 60, 61, 62, 63, 64, 65, 66, 67, 68, 69, 70, 71, 72, 73, 74, 75, 76, 77, 78, 79, 80, 81, 82, 83, 84, 85, 86, 87, 88, 89, 90, 91, 92, 93, 94, 95, 96, 97, 98, 99, 100, 101, 102, 103, 104, 105, 106, 107, 108, 109, 110, 111, 112, 113, 114, 115, 116] rfl (by decide +kernel)
set_option maxRecDepth 20000 in
theorem gw_cn_beginCheck_1 : GoodIn ww_cn_beginCheck (wsV RX12 179 RX12 yX12_beginSha ww_cn_beginSha) := goodIn_r _ [10, 11, 12, 5, 13, 14, 15, 16, 17, 18, 19, 20, 21, 22, 23, 24, 25, 26, 27, 28, 29, 30, 31, 32, 33, 34, 35, 36, 37, 38, 39, 40, 41, 42, 43, 44, 45, 46, 47, 48, 49, 50, 51, 52, 53, 54, 55, 56, 57, 58, 59, 60, 61, 62, 63, 64, 65, 66, 67, 68, 69, 70, 71, 72, 73, 74, 75, 76, 77, 78, 79, 80, 81, 82, 83, 84, 85, 86, 87, 88, 89, 90, 91, 92, 93, 94, 95, 96, 97, 98, 99, 100, 101, 102, 103, 104, 105, 106, 107, 108, 109, 110, 111, 112, 113, 114, 115, 116] rfl (by decide +kernel)
set_option maxHeartbeats 4000000 in
set_option maxRecDepth 100000 in
/-- the reference: beginCheck -/
theorem cn_beginCheck (l : Launch) (D : va_G) (cI cJ : ClassId) (ad : Nat → Nat) (g : Nat → Int32) (lg : Nat → Int64) (ar : Nat → Nat → Int32) (bk : Nat → Int64) (sz : Nat) (k : Int32) : Met l yX12_beginCheck ww_cn_beginCheck { frames := 1, cells := 0, slots := 0, locals := 20 } (va_Pc [.ref (ad 0), .int k] (hk_B D [(cI, .int), (cJ, .long)] sz (mw cI cJ ad g lg ar bk))) (va_Qv (fun u : (Nat → Int32) => ∀ j, j < 8 → u j = hs_H j) (fun u : (Nat → Int32) => hk_E D [(cI, .int), (cJ, .long)] (va_A (mw cI cJ ad g lg ar bk) sz) (mw cI cJ ad (upd (upd (upd g 16 k) 14 (-1)) 15 0) (vp_updL (vp_updL lg 0 (-1)) 1 0) (va_up ar 3 u) bk)) (va_A (mw cI cJ ad g lg ar bk) sz)) 0 0 (va_A (mw cI cJ ad g lg ar bk) sz) := by
  refine hk_met (cc := cX12_beginCheck) (maxL := 2) (ret := none) (by decide) rfl (Nat.le_of_ble_eq_true rfl) ?_
  intro p e s m below meth c ls hx hb hr hml hown hts hlocks hin hA hw hl
  have iX12 : ∀ w ∈ wsX120, w ∈ ww_cn_beginCheck := fun _ h => List.mem_cons_of_mem _ (List.mem_append_right _ (List.mem_append_left _ h))
  have hl : lv_has ls 2 [(0, .ref (ad 0)), (1, .int k)] := hl
  refine lv_aload_n hx hb dX12_beginCheck_0 rfl (lv_at hl 0 rfl) ?_
  refine lv_iload_n hx hb dX12_beginCheck_1 rfl (lv_at hl 1 rfl) ?_
  refine hk_put (ci := 15) (C := RX12) (T := TX12) (N := 92) (ty := .int) (v := .int k) hx hb hts iX12 tyX12 tyX12_ok nmX12 hown hw 0 rfl rfl 24 (by decide) (hts _ (List.mem_of_getElem? (i := 1) rfl)) rfl (by decide +kernel) rfl rfl (Nat.le_of_ble_eq_true rfl) dX12_beginCheck_2 (ws' := mw cI cJ ad (upd g 16 k) lg ar bk) rfl (fun H locs hw => ?_)
  refine lv_aload_n hx hb dX12_beginCheck_5 rfl (lv_at hl 0 rfl) ?_
  refine hk_Vv (As := []) (rest := []) ⟨hx, hb, hml, hown, hts⟩ hw hA (cn_begin32 l D cI cJ ad (upd g 16 k) lg ar bk _) (cwV 0 hts gw_cn_beginCheck_0 rfl rfl rfl (by decide +kernel) ⟨Nat.le_of_ble_eq_true rfl, Nat.le_of_ble_eq_true rfl⟩) 0 (ci := 15) (T := TX12) (N := 92) rfl rfl rfl hl.1 rfl (Nat.le_of_ble_eq_true rfl) dX12_beginCheck_6 ⟨Nat.le_of_ble_eq_true rfl, Nat.le_of_ble_eq_true rfl⟩ (fun uu_2 H locs hp_3 hw => ?_)
  have hw : hk_W D [(cI, .int), (cJ, .long)] _ s _ _ (mw cI cJ ad (upd (upd g 16 k) 14 (-1)) lg ar bk) := hw
  refine lv_aload_n hx hb dX12_beginCheck_9 rfl (lv_at hl 0 rfl) ?_
  refine lv_ldc2 (v := (-1)) hx hb hown (hts _ (List.mem_of_getElem? (i := 8) rfl)) dX12_beginCheck_10 ?_
  refine hk_put (ci := 15) (C := RX12) (T := TX12) (N := 92) (ty := .long) (v := .long (-1)) hx hb hts iX12 tyX12 tyX12_ok nmX12 hown hw 0 rfl rfl 18 (by decide) (hts _ (List.mem_of_getElem? (i := 9) rfl)) rfl (by decide +kernel) rfl rfl (Nat.le_of_ble_eq_true rfl) dX12_beginCheck_13 (ws' := mw cI cJ ad (upd (upd g 16 k) 14 (-1)) (vp_updL lg 0 (-1)) ar bk) rfl (fun H locs hw => ?_)
  refine lv_aload_n hx hb dX12_beginCheck_16 rfl (lv_at hl 0 rfl) ?_
  refine hk_Vv (As := []) (rest := []) ⟨hx, hb, hml, hown, hts⟩ hw hA (cn_beginSha l D cI cJ ad (upd (upd g 16 k) 14 (-1)) (vp_updL lg 0 (-1)) ar bk _) (cwV 0 hts gw_cn_beginCheck_1 rfl rfl rfl (by decide +kernel) ⟨Nat.le_of_ble_eq_true rfl, Nat.le_of_ble_eq_true rfl⟩) 0 (ci := 15) (T := TX12) (N := 92) rfl rfl rfl hl.1 rfl (Nat.le_of_ble_eq_true rfl) dX12_beginCheck_17 ⟨Nat.le_of_ble_eq_true rfl, Nat.le_of_ble_eq_true rfl⟩ (fun uu_5 H locs hp_6 hw => ?_)
  have hS := hp_6
  have hw : hk_W D [(cI, .int), (cJ, .long)] _ s _ _ (mw cI cJ ad (upd (upd (upd g 16 k) 14 (-1)) 15 0) (vp_updL (vp_updL lg 0 (-1)) 1 0) (va_up ar 3 uu_5) bk) := hw
  exact hk_vret (u := uu_5) hx hb hr hlocks (hw) (hS) dX12_beginCheck_20

def ww_cn_endSha : List Cond := Cond.code yX12_endSha cX12_endSha 4 none :: ([Cond.fieldLink RX12 152 "LzmaChainsModel" "shaAll" "J", Cond.methodLink RX12 167 yX12_addSha, Cond.instanceMethod yX12_addSha, Cond.selects RX12 yX12_addSha yX12_addSha, Cond.initialized RX12, Cond.code yX12_addSha cX12_addSha 3 none, Cond.fieldLink RX12 149 "LzmaChainsModel" "shaFilled" "I", Cond.fieldLink RX12 41 "LzmaChainsModel" "shaRow" "[I", Cond.constantLong RX12 155 8, Cond.methodLink RX12 157 yX12_mixSha, Cond.instanceMethod yX12_mixSha, Cond.selects RX12 yX12_mixSha yX12_mixSha, Cond.code yX12_mixSha cX12_mixSha 12 none, Cond.fieldLink RX12 38 "LzmaChainsModel" "sha" "[I", Cond.methodLink RX12 160 yX12_turned, Cond.static yX12_turned, Cond.code yX12_turned cX12_turned 2 (some .int), Cond.fieldLink RX12 164 "LzmaChainsModel" "ROUND" "[I"] ++ (wsX120 ++ ([])))
set_option maxRecDepth 20000 in
theorem gw_cn_endSha_0 : GoodIn ww_cn_endSha (wsV RX12 167 RX12 yX12_addSha ww_cn_add128) := goodIn_r _ [2, 3, 4, 5, 6, 7, 8, 1, 9, 19, 20, 21, 22, 23, 24, 25, 26, 27, 28, 29, 30, 31, 32, 33, 34, 35, 36, 37, 38, 39, 40, 41, 42, 43, 44, 45, 46, 47, 48, 49, 50, 51, 52, 53, 54, 55, 56, 57, 58, 59, 60, 61, 62, 63, 64, 65, 66, 67, 68, 69, 70, 71, 72, 73, 74, 75, 76, 77, 78, 79, 80, 81, 82, 83, 84, 85, 86, 87, 88, 89, 90, 91, 92, 93, 94, 95, 96, 97, 98, 99, 100, 101, 102, 103, 104, 105, 106, 107, 108, 109, 110] rfl (by decide +kernel)
set_option maxRecDepth 20000 in
theorem gw_cn_endSha_1 : GoodIn ww_cn_endSha (wsV RX12 167 RX12 yX12_addSha ww_cn_addZ) := goodIn_r _ [2, 3, 4, 5, 6, 7, 8, 1, 9, 19, 20, 21, 22, 23, 24, 25, 26, 27, 28, 29, 30, 31, 32, 33, 34, 35, 36, 37, 38, 39, 40, 41, 42, 43, 44, 45, 46, 47, 48, 49, 50, 51, 52, 53, 54, 55, 56, 57, 58, 59, 60, 61, 62, 63, 64, 65, 66, 67, 68, 69, 70, 71, 72, 73, 74, 75, 76, 77, 78, 79, 80, 81, 82, 83, 84, 85, 86, 87, 88, 89, 90, 91, 92, 93, 94, 95, 96, 97, 98, 99, 100, 101, 102, 103, 104, 105, 106, 107, 108, 109, 110] rfl (by decide +kernel)
set_option maxRecDepth 20000 in
theorem gw_cn_endSha_2 : GoodIn ww_cn_endSha (wsV RX12 167 RX12 yX12_addSha ww_cn_addLast) := goodIn_r _ [2, 3, 4, 5, 6, 7, 8, 1, 9, 10, 11, 12, 5, 13, 14, 15, 16, 17, 18, 19, 20, 21, 22, 23, 24, 25, 26, 27, 28, 29, 30, 31, 32, 33, 34, 35, 36, 37, 38, 39, 40, 41, 42, 43, 44, 45, 46, 47, 48, 49, 50, 51, 52, 53, 54, 55, 56, 57, 58, 59, 60, 61, 62, 63, 64, 65, 66, 67, 68, 69, 70, 71, 72, 73, 74, 75, 76, 77, 78, 79, 80, 81, 82, 83, 84, 85, 86, 87, 88, 89, 90, 91, 92, 93, 94, 95, 96, 97, 98, 99, 100, 101, 102, 103, 104, 105, 106, 107, 108, 109, 110] rfl (by decide +kernel)
set_option maxHeartbeats 4000000 in
set_option maxRecDepth 100000 in
/-- the reference: endSha of nothing -/
theorem cn_endSha (l : Launch) (t3 : Nat × Nat × Nat) (D : va_G) (cI cJ : ClassId) (ad : Nat → Nat) (g : Nat → Int32) (lg : Nat → Int64) (ar : Nat → Nat → Int32) (bk : Nat → Int64) (sz : Nat) (hf : g 15 = 0) (hq : lg 1 = 0) (h8 : ∀ j, j < 8 → ar 3 j = hs_H j) : Met l yX12_endSha ww_cn_endSha { frames := 3, cells := 0, slots := 0, locals := 74 } (va_Pc [.ref (ad 0)] (hk_BY t3 D [(cI, .int), (cJ, .long)] sz (mw cI cJ ad g lg ar bk))) (va_Qv (fun u : (Nat → Int32) × (Nat → Int32) × Int64 => ∀ j, j < 8 → u.1 j = hs_O j) (fun u : (Nat → Int32) × (Nat → Int32) × Int64 => hk_E D [(cI, .int), (cJ, .long)] (va_A (mw cI cJ ad g lg ar bk) sz) (mw cI cJ ad (upd g 15 0) (vp_updL lg 1 u.2.2) (va_up (va_up ar 4 u.2.1) 3 u.1) bk)) (va_A (mw cI cJ ad g lg ar bk) sz)) 0 0 (va_A (mw cI cJ ad g lg ar bk) sz) := by
  refine hk_smet (t3 := t3) (cc := cX12_endSha) (maxL := 4) (ret := none) (by decide) rfl (Nat.le_of_ble_eq_true rfl) ?_
  intro p e s m below meth c ls hx hb hr hml hown hts hlocks hin hA hZ hw hl
  have iX12 : ∀ w ∈ wsX120, w ∈ ww_cn_endSha := fun _ h => List.mem_cons_of_mem _ (List.mem_append_right _ (List.mem_append_left _ h))
  have hl : lv_has ls 4 [(0, .ref (ad 0))] := hl
  refine lv_aload_n hx hb dX12_endSha_0 rfl (lv_at hl 0 rfl) ?_
  refine hk_get (ci := 15) (C := RX12) (T := TX12) (N := 92) (v := .long 0) hx hb hts iX12 hown hw 0 rfl rfl 22 (by decide) (hts _ (List.mem_of_getElem? (i := 1) rfl)) (congrArg (fun z => some (Value.long z)) hq) dX12_endSha_1 ?_
  refine lv_lstore_n (lv' := [(1, .long 0), (0, .ref (ad 0))]) hx hb dX12_endSha_4 rfl hl (by decide) rfl (fun ls hl => ?_)
  refine lv_aload_n hx hb dX12_endSha_5 rfl (lv_at hl 1 rfl) ?_
  refine lv_sipush (v := 128) hx hb dX12_endSha_6 (by decide) ?_
  refine hk_Vv (As := [.int 128]) (rest := []) ⟨hx, hb, hml, hown, hts⟩ hw hA (cn_add128 l D cI cJ ad g lg ar bk _ hf) (cwV 1 hts gw_cn_endSha_0 rfl rfl rfl (by decide +kernel) ⟨Nat.le_of_ble_eq_true rfl, Nat.le_of_ble_eq_true rfl⟩) 0 (ci := 15) (T := TX12) (N := 92) rfl rfl rfl hl.1 rfl (Nat.le_of_ble_eq_true rfl) dX12_endSha_9 ⟨Nat.le_of_ble_eq_true rfl, Nat.le_of_ble_eq_true rfl⟩ (fun uu_2 H locs hp_3 hw => ?_)
  have hR := hp_3
  have hw : hk_W D [(cI, .int), (cJ, .long)] _ s _ _ (mw cI cJ ad (upd g 15 1) (vp_updL lg 1 uu_2.2) (va_up ar 4 uu_2.1) bk) := hw
  have loop_6 : ∀ (ki i : Nat) (jj_4 : Nat → Int32) (jj_5 : Int64) (ls : Array Slot) (H : Heap) (locs : List Loc), i + ki = 56 → 1 ≤ i → (∀ w, 4 * w < i → jj_4 w = hs_L w) → hk_W D [(cI, .int), (cJ, .long)] (va_A (mw cI cJ ad g lg ar bk) sz) s H locs (mw cI cJ ad (upd (upd g 15 1) 15 (nI i)) (vp_updL (vp_updL lg 1 uu_2.2) 1 jj_5) (va_up (va_up ar 4 uu_2.1) 4 jj_4) bk) → lv_has ls 4 [(1, .long 0), (0, .ref (ad 0))] → W p l e { frames := 3, cells := 0, slots := 0, locals := 74 } s m (List.toArray [.ref (ad 0)]) below meth c H locs 0 0 (MQ below (va_Qv (fun u : (Nat → Int32) × (Nat → Int32) × Int64 => ∀ j, j < 8 → u.1 j = hs_O j) (fun u : (Nat → Int32) × (Nat → Int32) × Int64 => hk_E D [(cI, .int), (cJ, .long)] (va_A (mw cI cJ ad g lg ar bk) sz) (mw cI cJ ad (upd g 15 0) (vp_updL lg 1 u.2.2) (va_up (va_up ar 4 u.2.1) 3 u.1) bk)) (va_A (mw cI cJ ad g lg ar bk) sz)) (List.toArray [.ref (ad 0)]) s 0 0 (va_A (mw cI cJ ad g lg ar bk) sz)) (F0 m 12 ls []) := by
    intro ki
    induction ki with
    | zero =>
      intro i jj_4 jj_5 ls H locs hik hge hR hw hl
      refine lv_aload_n hx hb dX12_endSha_12 rfl (lv_at hl 1 rfl) ?_
      refine hk_get (ci := 15) (C := RX12) (T := TX12) (N := 92) (v := .int (nI i)) hx hb hts iX12 hown hw 0 rfl rfl 21 (by decide) (hts _ (List.mem_of_getElem? (i := 7) rfl)) rfl dX12_endSha_13 ?_
      refine lv_bipush (v := 56) hx hb dX12_endSha_16 (by decide) ?_
      refine lv_icmp_eq (tgt := 29) hx hb dX12_endSha_18 (by decide) (fun _ => ?_) (fun cc_7 => absurd (by rw [show i = 56 by omega]; rfl) cc_7)
      obtain rfl : i = 56 := by omega
      refine lv_bipush (v := 56) hx hb dX12_endSha_29 (by decide) ?_
      refine lv_istore_n (lv' := [(3, .int 56), (1, .long 0), (0, .ref (ad 0))]) hx hb dX12_endSha_31 rfl hl (by decide) rfl (fun ls hl => ?_)
      refine lv_iload_n hx hb dX12_endSha_32 rfl (lv_at hl 0 rfl) ?_
      refine lv_if_lt (tgt := 54) hx hb dX12_endSha_33 (by decide) (fun cc_8 => absurd cc_8 (by decide)) (fun _ => ?_)
      refine lv_aload_n hx hb dX12_endSha_36 rfl (lv_at hl 2 rfl) ?_
      refine lv_lload_n hx hb dX12_endSha_37 rfl (lv_at hl 1 rfl) ?_
      refine lv_iload_n hx hb dX12_endSha_38 rfl (lv_at hl 0 rfl) ?_
      refine lv_lshr (v := ((0 : Int64) >>> ((56 : Int32).toInt64 &&& 63))) hx hb dX12_endSha_39 rfl ?_
      refine hk_topl 0 (by decide +kernel) ?_
      refine lv_l2i (v := (0 : Int64).toInt32) hx hb dX12_endSha_40 rfl ?_
      refine hk_topi 0 (by decide +kernel) ?_
      refine lv_sipush (v := 255) hx hb dX12_endSha_41 (by decide) ?_
      refine lv_iand hx hb dX12_endSha_44 ?_
      refine hk_topi 0 (by decide +kernel) ?_
      refine hk_Vv (As := [.int 0]) (rest := []) ⟨hx, hb, hml, hown, hts⟩ hw hA (cn_addZ l D cI cJ ad (upd (upd g 15 1) 15 (nI 56)) (vp_updL (vp_updL lg 1 uu_2.2) 1 jj_5) (va_up (va_up ar 4 uu_2.1) 4 jj_4) bk _ 56 (by decide) (by decide) rfl hR) (cwV 1 hts gw_cn_endSha_1 rfl rfl rfl (by decide +kernel) ⟨Nat.le_of_ble_eq_true rfl, Nat.le_of_ble_eq_true rfl⟩) 0 (ci := 15) (T := TX12) (N := 92) rfl rfl rfl hl.1 rfl (Nat.le_of_ble_eq_true rfl) dX12_endSha_45 ⟨Nat.le_of_ble_eq_true rfl, Nat.le_of_ble_eq_true rfl⟩ (fun uu_10 H locs hp_11 hw => ?_)
      have hR := hp_11
      have hw : hk_W D [(cI, .int), (cJ, .long)] _ s _ _ (mw cI cJ ad (upd (upd (upd g 15 1) 15 (nI 56)) 15 (nI (56 + 1))) (vp_updL (vp_updL (vp_updL lg 1 uu_2.2) 1 jj_5) 1 uu_10.2) (va_up (va_up (va_up ar 4 uu_2.1) 4 jj_4) 4 uu_10.1) bk) := hw
      refine lv_iinc (v := 48) (lv' := [(3, .int 48), (1, .long 0), (0, .ref (ad 0))]) hx hb dX12_endSha_48 hl (k := 0) rfl rfl (by decide) rfl (fun ls hl => ?_)
      refine lv_goto (tgt := 32) hx hb dX12_endSha_51 (by decide) ?_
      refine lv_iload_n hx hb dX12_endSha_32 rfl (lv_at hl 0 rfl) ?_
      refine lv_if_lt (tgt := 54) hx hb dX12_endSha_33 (by decide) (fun cc_12 => absurd cc_12 (by decide)) (fun _ => ?_)
      refine lv_aload_n hx hb dX12_endSha_36 rfl (lv_at hl 2 rfl) ?_
      refine lv_lload_n hx hb dX12_endSha_37 rfl (lv_at hl 1 rfl) ?_
      refine lv_iload_n hx hb dX12_endSha_38 rfl (lv_at hl 0 rfl) ?_
      refine lv_lshr (v := ((0 : Int64) >>> ((48 : Int32).toInt64 &&& 63))) hx hb dX12_endSha_39 rfl ?_
      refine hk_topl 0 (by decide +kernel) ?_
      refine lv_l2i (v := (0 : Int64).toInt32) hx hb dX12_endSha_40 rfl ?_
      refine hk_topi 0 (by decide +kernel) ?_
      refine lv_sipush (v := 255) hx hb dX12_endSha_41 (by decide) ?_
      refine lv_iand hx hb dX12_endSha_44 ?_
      refine hk_topi 0 (by decide +kernel) ?_
      refine hk_Vv (As := [.int 0]) (rest := []) ⟨hx, hb, hml, hown, hts⟩ hw hA (cn_addZ l D cI cJ ad (upd (upd (upd g 15 1) 15 (nI 56)) 15 (nI (56 + 1))) (vp_updL (vp_updL (vp_updL lg 1 uu_2.2) 1 jj_5) 1 uu_10.2) (va_up (va_up (va_up ar 4 uu_2.1) 4 jj_4) 4 uu_10.1) bk _ 57 (by decide) (by decide) rfl hR) (cwV 1 hts gw_cn_endSha_1 rfl rfl rfl (by decide +kernel) ⟨Nat.le_of_ble_eq_true rfl, Nat.le_of_ble_eq_true rfl⟩) 0 (ci := 15) (T := TX12) (N := 92) rfl rfl rfl hl.1 rfl (Nat.le_of_ble_eq_true rfl) dX12_endSha_45 ⟨Nat.le_of_ble_eq_true rfl, Nat.le_of_ble_eq_true rfl⟩ (fun uu_14 H locs hp_15 hw => ?_)
      have hR := hp_15
      have hw : hk_W D [(cI, .int), (cJ, .long)] _ s _ _ (mw cI cJ ad (upd (upd (upd (upd g 15 1) 15 (nI 56)) 15 (nI (56 + 1))) 15 (nI (57 + 1))) (vp_updL (vp_updL (vp_updL (vp_updL lg 1 uu_2.2) 1 jj_5) 1 uu_10.2) 1 uu_14.2) (va_up (va_up (va_up (va_up ar 4 uu_2.1) 4 jj_4) 4 uu_10.1) 4 uu_14.1) bk) := hw
      refine lv_iinc (v := 40) (lv' := [(3, .int 40), (1, .long 0), (0, .ref (ad 0))]) hx hb dX12_endSha_48 hl (k := 0) rfl rfl (by decide) rfl (fun ls hl => ?_)
      refine lv_goto (tgt := 32) hx hb dX12_endSha_51 (by decide) ?_
      refine lv_iload_n hx hb dX12_endSha_32 rfl (lv_at hl 0 rfl) ?_
      refine lv_if_lt (tgt := 54) hx hb dX12_endSha_33 (by decide) (fun cc_16 => absurd cc_16 (by decide)) (fun _ => ?_)
      refine lv_aload_n hx hb dX12_endSha_36 rfl (lv_at hl 2 rfl) ?_
      refine lv_lload_n hx hb dX12_endSha_37 rfl (lv_at hl 1 rfl) ?_
      refine lv_iload_n hx hb dX12_endSha_38 rfl (lv_at hl 0 rfl) ?_
      refine lv_lshr (v := ((0 : Int64) >>> ((40 : Int32).toInt64 &&& 63))) hx hb dX12_endSha_39 rfl ?_
      refine hk_topl 0 (by decide +kernel) ?_
      refine lv_l2i (v := (0 : Int64).toInt32) hx hb dX12_endSha_40 rfl ?_
      refine hk_topi 0 (by decide +kernel) ?_
      refine lv_sipush (v := 255) hx hb dX12_endSha_41 (by decide) ?_
      refine lv_iand hx hb dX12_endSha_44 ?_
      refine hk_topi 0 (by decide +kernel) ?_
      refine hk_Vv (As := [.int 0]) (rest := []) ⟨hx, hb, hml, hown, hts⟩ hw hA (cn_addZ l D cI cJ ad (upd (upd (upd (upd g 15 1) 15 (nI 56)) 15 (nI (56 + 1))) 15 (nI (57 + 1))) (vp_updL (vp_updL (vp_updL (vp_updL lg 1 uu_2.2) 1 jj_5) 1 uu_10.2) 1 uu_14.2) (va_up (va_up (va_up (va_up ar 4 uu_2.1) 4 jj_4) 4 uu_10.1) 4 uu_14.1) bk _ 58 (by decide) (by decide) rfl hR) (cwV 1 hts gw_cn_endSha_1 rfl rfl rfl (by decide +kernel) ⟨Nat.le_of_ble_eq_true rfl, Nat.le_of_ble_eq_true rfl⟩) 0 (ci := 15) (T := TX12) (N := 92) rfl rfl rfl hl.1 rfl (Nat.le_of_ble_eq_true rfl) dX12_endSha_45 ⟨Nat.le_of_ble_eq_true rfl, Nat.le_of_ble_eq_true rfl⟩ (fun uu_18 H locs hp_19 hw => ?_)
      have hR := hp_19
      have hw : hk_W D [(cI, .int), (cJ, .long)] _ s _ _ (mw cI cJ ad (upd (upd (upd (upd (upd g 15 1) 15 (nI 56)) 15 (nI (56 + 1))) 15 (nI (57 + 1))) 15 (nI (58 + 1))) (vp_updL (vp_updL (vp_updL (vp_updL (vp_updL lg 1 uu_2.2) 1 jj_5) 1 uu_10.2) 1 uu_14.2) 1 uu_18.2) (va_up (va_up (va_up (va_up (va_up ar 4 uu_2.1) 4 jj_4) 4 uu_10.1) 4 uu_14.1) 4 uu_18.1) bk) := hw
      refine lv_iinc (v := 32) (lv' := [(3, .int 32), (1, .long 0), (0, .ref (ad 0))]) hx hb dX12_endSha_48 hl (k := 0) rfl rfl (by decide) rfl (fun ls hl => ?_)
      refine lv_goto (tgt := 32) hx hb dX12_endSha_51 (by decide) ?_
      refine lv_iload_n hx hb dX12_endSha_32 rfl (lv_at hl 0 rfl) ?_
      refine lv_if_lt (tgt := 54) hx hb dX12_endSha_33 (by decide) (fun cc_20 => absurd cc_20 (by decide)) (fun _ => ?_)
      refine lv_aload_n hx hb dX12_endSha_36 rfl (lv_at hl 2 rfl) ?_
      refine lv_lload_n hx hb dX12_endSha_37 rfl (lv_at hl 1 rfl) ?_
      refine lv_iload_n hx hb dX12_endSha_38 rfl (lv_at hl 0 rfl) ?_
      refine lv_lshr (v := ((0 : Int64) >>> ((32 : Int32).toInt64 &&& 63))) hx hb dX12_endSha_39 rfl ?_
      refine hk_topl 0 (by decide +kernel) ?_
      refine lv_l2i (v := (0 : Int64).toInt32) hx hb dX12_endSha_40 rfl ?_
      refine hk_topi 0 (by decide +kernel) ?_
      refine lv_sipush (v := 255) hx hb dX12_endSha_41 (by decide) ?_
      refine lv_iand hx hb dX12_endSha_44 ?_
      refine hk_topi 0 (by decide +kernel) ?_
      refine hk_Vv (As := [.int 0]) (rest := []) ⟨hx, hb, hml, hown, hts⟩ hw hA (cn_addZ l D cI cJ ad (upd (upd (upd (upd (upd g 15 1) 15 (nI 56)) 15 (nI (56 + 1))) 15 (nI (57 + 1))) 15 (nI (58 + 1))) (vp_updL (vp_updL (vp_updL (vp_updL (vp_updL lg 1 uu_2.2) 1 jj_5) 1 uu_10.2) 1 uu_14.2) 1 uu_18.2) (va_up (va_up (va_up (va_up (va_up ar 4 uu_2.1) 4 jj_4) 4 uu_10.1) 4 uu_14.1) 4 uu_18.1) bk _ 59 (by decide) (by decide) rfl hR) (cwV 1 hts gw_cn_endSha_1 rfl rfl rfl (by decide +kernel) ⟨Nat.le_of_ble_eq_true rfl, Nat.le_of_ble_eq_true rfl⟩) 0 (ci := 15) (T := TX12) (N := 92) rfl rfl rfl hl.1 rfl (Nat.le_of_ble_eq_true rfl) dX12_endSha_45 ⟨Nat.le_of_ble_eq_true rfl, Nat.le_of_ble_eq_true rfl⟩ (fun uu_22 H locs hp_23 hw => ?_)
      have hR := hp_23
      have hw : hk_W D [(cI, .int), (cJ, .long)] _ s _ _ (mw cI cJ ad (upd (upd (upd (upd (upd (upd g 15 1) 15 (nI 56)) 15 (nI (56 + 1))) 15 (nI (57 + 1))) 15 (nI (58 + 1))) 15 (nI (59 + 1))) (vp_updL (vp_updL (vp_updL (vp_updL (vp_updL (vp_updL lg 1 uu_2.2) 1 jj_5) 1 uu_10.2) 1 uu_14.2) 1 uu_18.2) 1 uu_22.2) (va_up (va_up (va_up (va_up (va_up (va_up ar 4 uu_2.1) 4 jj_4) 4 uu_10.1) 4 uu_14.1) 4 uu_18.1) 4 uu_22.1) bk) := hw
      refine lv_iinc (v := 24) (lv' := [(3, .int 24), (1, .long 0), (0, .ref (ad 0))]) hx hb dX12_endSha_48 hl (k := 0) rfl rfl (by decide) rfl (fun ls hl => ?_)
      refine lv_goto (tgt := 32) hx hb dX12_endSha_51 (by decide) ?_
      refine lv_iload_n hx hb dX12_endSha_32 rfl (lv_at hl 0 rfl) ?_
      refine lv_if_lt (tgt := 54) hx hb dX12_endSha_33 (by decide) (fun cc_24 => absurd cc_24 (by decide)) (fun _ => ?_)
      refine lv_aload_n hx hb dX12_endSha_36 rfl (lv_at hl 2 rfl) ?_
      refine lv_lload_n hx hb dX12_endSha_37 rfl (lv_at hl 1 rfl) ?_
      refine lv_iload_n hx hb dX12_endSha_38 rfl (lv_at hl 0 rfl) ?_
      refine lv_lshr (v := ((0 : Int64) >>> ((24 : Int32).toInt64 &&& 63))) hx hb dX12_endSha_39 rfl ?_
      refine hk_topl 0 (by decide +kernel) ?_
      refine lv_l2i (v := (0 : Int64).toInt32) hx hb dX12_endSha_40 rfl ?_
      refine hk_topi 0 (by decide +kernel) ?_
      refine lv_sipush (v := 255) hx hb dX12_endSha_41 (by decide) ?_
      refine lv_iand hx hb dX12_endSha_44 ?_
      refine hk_topi 0 (by decide +kernel) ?_
      refine hk_Vv (As := [.int 0]) (rest := []) ⟨hx, hb, hml, hown, hts⟩ hw hA (cn_addZ l D cI cJ ad (upd (upd (upd (upd (upd (upd g 15 1) 15 (nI 56)) 15 (nI (56 + 1))) 15 (nI (57 + 1))) 15 (nI (58 + 1))) 15 (nI (59 + 1))) (vp_updL (vp_updL (vp_updL (vp_updL (vp_updL (vp_updL lg 1 uu_2.2) 1 jj_5) 1 uu_10.2) 1 uu_14.2) 1 uu_18.2) 1 uu_22.2) (va_up (va_up (va_up (va_up (va_up (va_up ar 4 uu_2.1) 4 jj_4) 4 uu_10.1) 4 uu_14.1) 4 uu_18.1) 4 uu_22.1) bk _ 60 (by decide) (by decide) rfl hR) (cwV 1 hts gw_cn_endSha_1 rfl rfl rfl (by decide +kernel) ⟨Nat.le_of_ble_eq_true rfl, Nat.le_of_ble_eq_true rfl⟩) 0 (ci := 15) (T := TX12) (N := 92) rfl rfl rfl hl.1 rfl (Nat.le_of_ble_eq_true rfl) dX12_endSha_45 ⟨Nat.le_of_ble_eq_true rfl, Nat.le_of_ble_eq_true rfl⟩ (fun uu_26 H locs hp_27 hw => ?_)
      have hR := hp_27
      have hw : hk_W D [(cI, .int), (cJ, .long)] _ s _ _ (mw cI cJ ad (upd (upd (upd (upd (upd (upd (upd g 15 1) 15 (nI 56)) 15 (nI (56 + 1))) 15 (nI (57 + 1))) 15 (nI (58 + 1))) 15 (nI (59 + 1))) 15 (nI (60 + 1))) (vp_updL (vp_updL (vp_updL (vp_updL (vp_updL (vp_updL (vp_updL lg 1 uu_2.2) 1 jj_5) 1 uu_10.2) 1 uu_14.2) 1 uu_18.2) 1 uu_22.2) 1 uu_26.2) (va_up (va_up (va_up (va_up (va_up (va_up (va_up ar 4 uu_2.1) 4 jj_4) 4 uu_10.1) 4 uu_14.1) 4 uu_18.1) 4 uu_22.1) 4 uu_26.1) bk) := hw
      refine lv_iinc (v := 16) (lv' := [(3, .int 16), (1, .long 0), (0, .ref (ad 0))]) hx hb dX12_endSha_48 hl (k := 0) rfl rfl (by decide) rfl (fun ls hl => ?_)
      refine lv_goto (tgt := 32) hx hb dX12_endSha_51 (by decide) ?_
      refine lv_iload_n hx hb dX12_endSha_32 rfl (lv_at hl 0 rfl) ?_
      refine lv_if_lt (tgt := 54) hx hb dX12_endSha_33 (by decide) (fun cc_28 => absurd cc_28 (by decide)) (fun _ => ?_)
      refine lv_aload_n hx hb dX12_endSha_36 rfl (lv_at hl 2 rfl) ?_
      refine lv_lload_n hx hb dX12_endSha_37 rfl (lv_at hl 1 rfl) ?_
      refine lv_iload_n hx hb dX12_endSha_38 rfl (lv_at hl 0 rfl) ?_
      refine lv_lshr (v := ((0 : Int64) >>> ((16 : Int32).toInt64 &&& 63))) hx hb dX12_endSha_39 rfl ?_
      refine hk_topl 0 (by decide +kernel) ?_
      refine lv_l2i (v := (0 : Int64).toInt32) hx hb dX12_endSha_40 rfl ?_
      refine hk_topi 0 (by decide +kernel) ?_
      refine lv_sipush (v := 255) hx hb dX12_endSha_41 (by decide) ?_
      refine lv_iand hx hb dX12_endSha_44 ?_
      refine hk_topi 0 (by decide +kernel) ?_
      refine hk_Vv (As := [.int 0]) (rest := []) ⟨hx, hb, hml, hown, hts⟩ hw hA (cn_addZ l D cI cJ ad (upd (upd (upd (upd (upd (upd (upd g 15 1) 15 (nI 56)) 15 (nI (56 + 1))) 15 (nI (57 + 1))) 15 (nI (58 + 1))) 15 (nI (59 + 1))) 15 (nI (60 + 1))) (vp_updL (vp_updL (vp_updL (vp_updL (vp_updL (vp_updL (vp_updL lg 1 uu_2.2) 1 jj_5) 1 uu_10.2) 1 uu_14.2) 1 uu_18.2) 1 uu_22.2) 1 uu_26.2) (va_up (va_up (va_up (va_up (va_up (va_up (va_up ar 4 uu_2.1) 4 jj_4) 4 uu_10.1) 4 uu_14.1) 4 uu_18.1) 4 uu_22.1) 4 uu_26.1) bk _ 61 (by decide) (by decide) rfl hR) (cwV 1 hts gw_cn_endSha_1 rfl rfl rfl (by decide +kernel) ⟨Nat.le_of_ble_eq_true rfl, Nat.le_of_ble_eq_true rfl⟩) 0 (ci := 15) (T := TX12) (N := 92) rfl rfl rfl hl.1 rfl (Nat.le_of_ble_eq_true rfl) dX12_endSha_45 ⟨Nat.le_of_ble_eq_true rfl, Nat.le_of_ble_eq_true rfl⟩ (fun uu_30 H locs hp_31 hw => ?_)
      have hR := hp_31
      have hw : hk_W D [(cI, .int), (cJ, .long)] _ s _ _ (mw cI cJ ad (upd (upd (upd (upd (upd (upd (upd (upd g 15 1) 15 (nI 56)) 15 (nI (56 + 1))) 15 (nI (57 + 1))) 15 (nI (58 + 1))) 15 (nI (59 + 1))) 15 (nI (60 + 1))) 15 (nI (61 + 1))) (vp_updL (vp_updL (vp_updL (vp_updL (vp_updL (vp_updL (vp_updL (vp_updL lg 1 uu_2.2) 1 jj_5) 1 uu_10.2) 1 uu_14.2) 1 uu_18.2) 1 uu_22.2) 1 uu_26.2) 1 uu_30.2) (va_up (va_up (va_up (va_up (va_up (va_up (va_up (va_up ar 4 uu_2.1) 4 jj_4) 4 uu_10.1) 4 uu_14.1) 4 uu_18.1) 4 uu_22.1) 4 uu_26.1) 4 uu_30.1) bk) := hw
      refine lv_iinc (v := 8) (lv' := [(3, .int 8), (1, .long 0), (0, .ref (ad 0))]) hx hb dX12_endSha_48 hl (k := 0) rfl rfl (by decide) rfl (fun ls hl => ?_)
      refine lv_goto (tgt := 32) hx hb dX12_endSha_51 (by decide) ?_
      refine lv_iload_n hx hb dX12_endSha_32 rfl (lv_at hl 0 rfl) ?_
      refine lv_if_lt (tgt := 54) hx hb dX12_endSha_33 (by decide) (fun cc_32 => absurd cc_32 (by decide)) (fun _ => ?_)
      refine lv_aload_n hx hb dX12_endSha_36 rfl (lv_at hl 2 rfl) ?_
      refine lv_lload_n hx hb dX12_endSha_37 rfl (lv_at hl 1 rfl) ?_
      refine lv_iload_n hx hb dX12_endSha_38 rfl (lv_at hl 0 rfl) ?_
      refine lv_lshr (v := ((0 : Int64) >>> ((8 : Int32).toInt64 &&& 63))) hx hb dX12_endSha_39 rfl ?_
      refine hk_topl 0 (by decide +kernel) ?_
      refine lv_l2i (v := (0 : Int64).toInt32) hx hb dX12_endSha_40 rfl ?_
      refine hk_topi 0 (by decide +kernel) ?_
      refine lv_sipush (v := 255) hx hb dX12_endSha_41 (by decide) ?_
      refine lv_iand hx hb dX12_endSha_44 ?_
      refine hk_topi 0 (by decide +kernel) ?_
      refine hk_Vv (As := [.int 0]) (rest := []) ⟨hx, hb, hml, hown, hts⟩ hw hA (cn_addZ l D cI cJ ad (upd (upd (upd (upd (upd (upd (upd (upd g 15 1) 15 (nI 56)) 15 (nI (56 + 1))) 15 (nI (57 + 1))) 15 (nI (58 + 1))) 15 (nI (59 + 1))) 15 (nI (60 + 1))) 15 (nI (61 + 1))) (vp_updL (vp_updL (vp_updL (vp_updL (vp_updL (vp_updL (vp_updL (vp_updL lg 1 uu_2.2) 1 jj_5) 1 uu_10.2) 1 uu_14.2) 1 uu_18.2) 1 uu_22.2) 1 uu_26.2) 1 uu_30.2) (va_up (va_up (va_up (va_up (va_up (va_up (va_up (va_up ar 4 uu_2.1) 4 jj_4) 4 uu_10.1) 4 uu_14.1) 4 uu_18.1) 4 uu_22.1) 4 uu_26.1) 4 uu_30.1) bk _ 62 (by decide) (by decide) rfl hR) (cwV 1 hts gw_cn_endSha_1 rfl rfl rfl (by decide +kernel) ⟨Nat.le_of_ble_eq_true rfl, Nat.le_of_ble_eq_true rfl⟩) 0 (ci := 15) (T := TX12) (N := 92) rfl rfl rfl hl.1 rfl (Nat.le_of_ble_eq_true rfl) dX12_endSha_45 ⟨Nat.le_of_ble_eq_true rfl, Nat.le_of_ble_eq_true rfl⟩ (fun uu_34 H locs hp_35 hw => ?_)
      have hR := hp_35
      have hw : hk_W D [(cI, .int), (cJ, .long)] _ s _ _ (mw cI cJ ad (upd (upd (upd (upd (upd (upd (upd (upd (upd g 15 1) 15 (nI 56)) 15 (nI (56 + 1))) 15 (nI (57 + 1))) 15 (nI (58 + 1))) 15 (nI (59 + 1))) 15 (nI (60 + 1))) 15 (nI (61 + 1))) 15 (nI (62 + 1))) (vp_updL (vp_updL (vp_updL (vp_updL (vp_updL (vp_updL (vp_updL (vp_updL (vp_updL lg 1 uu_2.2) 1 jj_5) 1 uu_10.2) 1 uu_14.2) 1 uu_18.2) 1 uu_22.2) 1 uu_26.2) 1 uu_30.2) 1 uu_34.2) (va_up (va_up (va_up (va_up (va_up (va_up (va_up (va_up (va_up ar 4 uu_2.1) 4 jj_4) 4 uu_10.1) 4 uu_14.1) 4 uu_18.1) 4 uu_22.1) 4 uu_26.1) 4 uu_30.1) 4 uu_34.1) bk) := hw
      refine lv_iinc (v := 0) (lv' := [(3, .int 0), (1, .long 0), (0, .ref (ad 0))]) hx hb dX12_endSha_48 hl (k := 0) rfl rfl (by decide) rfl (fun ls hl => ?_)
      refine lv_goto (tgt := 32) hx hb dX12_endSha_51 (by decide) ?_
      refine lv_iload_n hx hb dX12_endSha_32 rfl (lv_at hl 0 rfl) ?_
      refine lv_if_lt (tgt := 54) hx hb dX12_endSha_33 (by decide) (fun cc_36 => absurd cc_36 (by decide)) (fun _ => ?_)
      refine lv_aload_n hx hb dX12_endSha_36 rfl (lv_at hl 2 rfl) ?_
      refine lv_lload_n hx hb dX12_endSha_37 rfl (lv_at hl 1 rfl) ?_
      refine lv_iload_n hx hb dX12_endSha_38 rfl (lv_at hl 0 rfl) ?_
      refine lv_lshr (v := ((0 : Int64) >>> ((0 : Int32).toInt64 &&& 63))) hx hb dX12_endSha_39 rfl ?_
      refine hk_topl 0 (by decide +kernel) ?_
      refine lv_l2i (v := (0 : Int64).toInt32) hx hb dX12_endSha_40 rfl ?_
      refine hk_topi 0 (by decide +kernel) ?_
      refine lv_sipush (v := 255) hx hb dX12_endSha_41 (by decide) ?_
      refine lv_iand hx hb dX12_endSha_44 ?_
      refine hk_topi 0 (by decide +kernel) ?_
      refine hk_ZVv (As := [.int 0]) (rest := []) ⟨hx, hb, hml, hown, hts⟩ hZ hw hA (cn_addLast l t3 D cI cJ ad (upd (upd (upd (upd (upd (upd (upd (upd (upd g 15 1) 15 (nI 56)) 15 (nI (56 + 1))) 15 (nI (57 + 1))) 15 (nI (58 + 1))) 15 (nI (59 + 1))) 15 (nI (60 + 1))) 15 (nI (61 + 1))) 15 (nI (62 + 1))) (vp_updL (vp_updL (vp_updL (vp_updL (vp_updL (vp_updL (vp_updL (vp_updL (vp_updL lg 1 uu_2.2) 1 jj_5) 1 uu_10.2) 1 uu_14.2) 1 uu_18.2) 1 uu_22.2) 1 uu_26.2) 1 uu_30.2) 1 uu_34.2) (va_up (va_up (va_up (va_up (va_up (va_up (va_up (va_up (va_up ar 4 uu_2.1) 4 jj_4) 4 uu_10.1) 4 uu_14.1) 4 uu_18.1) 4 uu_22.1) 4 uu_26.1) 4 uu_30.1) 4 uu_34.1) bk _ rfl hR h8) (cwV 1 hts gw_cn_endSha_2 rfl rfl rfl (by decide +kernel) ⟨Nat.le_of_ble_eq_true rfl, Nat.le_of_ble_eq_true rfl⟩) 0 (ci := 15) (T := TX12) (N := 92) rfl rfl rfl hl.1 rfl (Nat.le_of_ble_eq_true rfl) dX12_endSha_45 ⟨Nat.le_of_ble_eq_true rfl, Nat.le_of_ble_eq_true rfl⟩ (fun uu_38 H locs hp_39 hw => ?_)
      have hO := hp_39
      have hw : hk_W D [(cI, .int), (cJ, .long)] _ s _ _ (mw cI cJ ad (upd (upd (upd (upd (upd (upd (upd (upd (upd (upd g 15 1) 15 (nI 56)) 15 (nI (56 + 1))) 15 (nI (57 + 1))) 15 (nI (58 + 1))) 15 (nI (59 + 1))) 15 (nI (60 + 1))) 15 (nI (61 + 1))) 15 (nI (62 + 1))) 15 0) (vp_updL (vp_updL (vp_updL (vp_updL (vp_updL (vp_updL (vp_updL (vp_updL (vp_updL (vp_updL lg 1 uu_2.2) 1 jj_5) 1 uu_10.2) 1 uu_14.2) 1 uu_18.2) 1 uu_22.2) 1 uu_26.2) 1 uu_30.2) 1 uu_34.2) 1 uu_38.2.2) (va_up (va_up (va_up (va_up (va_up (va_up (va_up (va_up (va_up (va_up (va_up ar 4 uu_2.1) 4 jj_4) 4 uu_10.1) 4 uu_14.1) 4 uu_18.1) 4 uu_22.1) 4 uu_26.1) 4 uu_30.1) 4 uu_34.1) 4 uu_38.2.1) 3 uu_38.1) bk) := hw
      refine lv_iinc (v := (-8)) (lv' := [(3, .int (-8)), (1, .long 0), (0, .ref (ad 0))]) hx hb dX12_endSha_48 hl (k := 0) rfl rfl (by decide) rfl (fun ls hl => ?_)
      refine lv_goto (tgt := 32) hx hb dX12_endSha_51 (by decide) ?_
      refine lv_iload_n hx hb dX12_endSha_32 rfl (lv_at hl 0 rfl) ?_
      refine lv_if_lt (tgt := 54) hx hb dX12_endSha_33 (by decide) (fun _ => ?_) (fun cc_40 => absurd (by decide) cc_40)
      exact hk_vret (u := (uu_38.1, uu_38.2.1, uu_38.2.2)) hx hb hr hlocks (show hk_W D [(cI, .int), (cJ, .long)] _ s _ _ (mw cI cJ ad (upd g 15 0) (vp_updL lg 1 ((uu_38.1, uu_38.2.1, uu_38.2.2).2.2)) (va_up (va_up ar 4 ((uu_38.1, uu_38.2.1, uu_38.2.2).2.1)) 3 ((uu_38.1, uu_38.2.1, uu_38.2.2).1)) bk) from hw) (hO) dX12_endSha_54
    | succ ki ih =>
      intro i jj_4 jj_5 ls H locs hik hge hR hw hl
      refine lv_aload_n hx hb dX12_endSha_12 rfl (lv_at hl 1 rfl) ?_
      refine hk_get (ci := 15) (C := RX12) (T := TX12) (N := 92) (v := .int (nI i)) hx hb hts iX12 hown hw 0 rfl rfl 21 (by decide) (hts _ (List.mem_of_getElem? (i := 7) rfl)) rfl dX12_endSha_13 ?_
      refine lv_bipush (v := 56) hx hb dX12_endSha_16 (by decide) ?_
      refine lv_icmp_eq (tgt := 29) hx hb dX12_endSha_18 (by decide) (fun cc_41 => absurd cc_41 ((show ∀ i, i < 56 → ¬ nI i = 56 by decide +kernel) i (by omega))) (fun _ => ?_)
      refine lv_aload_n hx hb dX12_endSha_21 rfl (lv_at hl 1 rfl) ?_
      refine lv_iconst (v := 0) hx hb dX12_endSha_22 (by decide) ?_
      refine hk_Vv (As := [.int 0]) (rest := []) ⟨hx, hb, hml, hown, hts⟩ hw hA (cn_addZ l D cI cJ ad (upd (upd g 15 1) 15 (nI i)) (vp_updL (vp_updL lg 1 uu_2.2) 1 jj_5) (va_up (va_up ar 4 uu_2.1) 4 jj_4) bk _ i hge (by omega) rfl hR) (cwV 1 hts gw_cn_endSha_1 rfl rfl rfl (by decide +kernel) ⟨Nat.le_of_ble_eq_true rfl, Nat.le_of_ble_eq_true rfl⟩) 0 (ci := 15) (T := TX12) (N := 92) rfl rfl rfl hl.1 rfl (Nat.le_of_ble_eq_true rfl) dX12_endSha_23 ⟨Nat.le_of_ble_eq_true rfl, Nat.le_of_ble_eq_true rfl⟩ (fun uu_43 H locs hp_44 hw => ?_)
      have hRn := hp_44
      have hw : hk_W D [(cI, .int), (cJ, .long)] _ s _ _ (mw cI cJ ad (upd (upd (upd g 15 1) 15 (nI i)) 15 (nI (i + 1))) (vp_updL (vp_updL (vp_updL lg 1 uu_2.2) 1 jj_5) 1 uu_43.2) (va_up (va_up (va_up ar 4 uu_2.1) 4 jj_4) 4 uu_43.1) bk) := hw
      refine lv_goto (tgt := 12) hx hb dX12_endSha_26 (by decide) ?_
      exact ih (i + 1) uu_43.1 uu_43.2 ls _ _ (by omega) (by omega) hRn hw (lv_sub hl [0, 1] rfl)
  exact loop_6 (56 - 1) 1 uu_2.1 uu_2.2 ls _ _ (by omega) (by decide) hR hw (lv_sub hl [0, 1] rfl)

def ww_cn_size1 : List Cond := Cond.code yX12_checkSize cX12_checkSize 1 (some .int) :: ([] ++ ([]))
set_option maxHeartbeats 4000000 in
set_option maxRecDepth 100000 in
/-- the reference: checkSize(1) -/
theorem cn_size1 (l : Launch) (D : va_G) (cI cJ : ClassId) (ad : Nat → Nat) (g : Nat → Int32) (lg : Nat → Int64) (ar : Nat → Nat → Int32) (bk : Nat → Int64) (sz : Nat)  : Met l yX12_checkSize ww_cn_size1 { frames := 0, cells := 0, slots := 0, locals := 0 } (va_Pc [.int 1] (hk_B D [(cI, .int), (cJ, .long)] sz (mw cI cJ ad g lg ar bk))) (va_Qi (fun (r : Int32) (u : Unit) => r = 4) (fun u : Unit => hk_E D [(cI, .int), (cJ, .long)] (va_A (mw cI cJ ad g lg ar bk) sz) (mw cI cJ ad g lg ar bk)) (va_A (mw cI cJ ad g lg ar bk) sz)) 0 0 (va_A (mw cI cJ ad g lg ar bk) sz) := by
  refine hk_met (cc := cX12_checkSize) (maxL := 1) (ret := (some .int)) (by decide) rfl (Nat.le_of_ble_eq_true rfl) ?_
  intro p e s m below meth c ls hx hb hr hml hown hts hlocks hin hA hw hl
  have hl : lv_has ls 1 [(0, .int 1)] := hl
  refine lv_iload_n hx hb dX12_checkSize_0 rfl (lv_at hl 0 rfl) ?_
  refine lv_iconst (v := 1) hx hb dX12_checkSize_1 (by decide) ?_
  refine lv_icmp_ne (tgt := 9) hx hb dX12_checkSize_2 (by decide) (fun cc_1 => absurd (by decide) cc_1) (fun _ => ?_)
  refine lv_iconst (v := 4) hx hb dX12_checkSize_5 (by decide) ?_
  refine lv_goto (tgt := 31) hx hb dX12_checkSize_6 (by decide) ?_
  exact hk_iret (u := ()) hx hb hr hlocks (hw) (rfl) dX12_checkSize_31

def ww_cn_size4 : List Cond := Cond.code yX12_checkSize cX12_checkSize 1 (some .int) :: ([] ++ ([]))
set_option maxHeartbeats 4000000 in
set_option maxRecDepth 100000 in
/-- the reference: checkSize(4) -/
theorem cn_size4 (l : Launch) (D : va_G) (cI cJ : ClassId) (ad : Nat → Nat) (g : Nat → Int32) (lg : Nat → Int64) (ar : Nat → Nat → Int32) (bk : Nat → Int64) (sz : Nat)  : Met l yX12_checkSize ww_cn_size4 { frames := 0, cells := 0, slots := 0, locals := 0 } (va_Pc [.int 4] (hk_B D [(cI, .int), (cJ, .long)] sz (mw cI cJ ad g lg ar bk))) (va_Qi (fun (r : Int32) (u : Unit) => r = 8) (fun u : Unit => hk_E D [(cI, .int), (cJ, .long)] (va_A (mw cI cJ ad g lg ar bk) sz) (mw cI cJ ad g lg ar bk)) (va_A (mw cI cJ ad g lg ar bk) sz)) 0 0 (va_A (mw cI cJ ad g lg ar bk) sz) := by
  refine hk_met (cc := cX12_checkSize) (maxL := 1) (ret := (some .int)) (by decide) rfl (Nat.le_of_ble_eq_true rfl) ?_
  intro p e s m below meth c ls hx hb hr hml hown hts hlocks hin hA hw hl
  have hl : lv_has ls 1 [(0, .int 4)] := hl
  refine lv_iload_n hx hb dX12_checkSize_0 rfl (lv_at hl 0 rfl) ?_
  refine lv_iconst (v := 1) hx hb dX12_checkSize_1 (by decide) ?_
  refine lv_icmp_ne (tgt := 9) hx hb dX12_checkSize_2 (by decide) (fun _ => ?_) (fun cc_1 => absurd cc_1 (by decide))
  refine lv_iload_n hx hb dX12_checkSize_9 rfl (lv_at hl 0 rfl) ?_
  refine lv_iconst (v := 4) hx hb dX12_checkSize_10 (by decide) ?_
  refine lv_icmp_ne (tgt := 19) hx hb dX12_checkSize_11 (by decide) (fun cc_2 => absurd (by decide) cc_2) (fun _ => ?_)
  refine lv_bipush (v := 8) hx hb dX12_checkSize_14 (by decide) ?_
  refine lv_goto (tgt := 31) hx hb dX12_checkSize_16 (by decide) ?_
  exact hk_iret (u := ()) hx hb hr hlocks (hw) (rfl) dX12_checkSize_31

def ww_cn_size10 : List Cond := Cond.code yX12_checkSize cX12_checkSize 1 (some .int) :: ([] ++ ([]))
set_option maxHeartbeats 4000000 in
set_option maxRecDepth 100000 in
/-- the reference: checkSize(10) -/
theorem cn_size10 (l : Launch) (D : va_G) (cI cJ : ClassId) (ad : Nat → Nat) (g : Nat → Int32) (lg : Nat → Int64) (ar : Nat → Nat → Int32) (bk : Nat → Int64) (sz : Nat)  : Met l yX12_checkSize ww_cn_size10 { frames := 0, cells := 0, slots := 0, locals := 0 } (va_Pc [.int 10] (hk_B D [(cI, .int), (cJ, .long)] sz (mw cI cJ ad g lg ar bk))) (va_Qi (fun (r : Int32) (u : Unit) => r = 32) (fun u : Unit => hk_E D [(cI, .int), (cJ, .long)] (va_A (mw cI cJ ad g lg ar bk) sz) (mw cI cJ ad g lg ar bk)) (va_A (mw cI cJ ad g lg ar bk) sz)) 0 0 (va_A (mw cI cJ ad g lg ar bk) sz) := by
  refine hk_met (cc := cX12_checkSize) (maxL := 1) (ret := (some .int)) (by decide) rfl (Nat.le_of_ble_eq_true rfl) ?_
  intro p e s m below meth c ls hx hb hr hml hown hts hlocks hin hA hw hl
  have hl : lv_has ls 1 [(0, .int 10)] := hl
  refine lv_iload_n hx hb dX12_checkSize_0 rfl (lv_at hl 0 rfl) ?_
  refine lv_iconst (v := 1) hx hb dX12_checkSize_1 (by decide) ?_
  refine lv_icmp_ne (tgt := 9) hx hb dX12_checkSize_2 (by decide) (fun _ => ?_) (fun cc_1 => absurd cc_1 (by decide))
  refine lv_iload_n hx hb dX12_checkSize_9 rfl (lv_at hl 0 rfl) ?_
  refine lv_iconst (v := 4) hx hb dX12_checkSize_10 (by decide) ?_
  refine lv_icmp_ne (tgt := 19) hx hb dX12_checkSize_11 (by decide) (fun _ => ?_) (fun cc_2 => absurd cc_2 (by decide))
  refine lv_iload_n hx hb dX12_checkSize_19 rfl (lv_at hl 0 rfl) ?_
  refine lv_bipush (v := 10) hx hb dX12_checkSize_20 (by decide) ?_
  refine lv_icmp_ne (tgt := 30) hx hb dX12_checkSize_22 (by decide) (fun cc_3 => absurd (by decide) cc_3) (fun _ => ?_)
  refine lv_bipush (v := 32) hx hb dX12_checkSize_25 (by decide) ?_
  refine lv_goto (tgt := 31) hx hb dX12_checkSize_27 (by decide) ?_
  exact hk_iret (u := ()) hx hb hr hlocks (hw) (rfl) dX12_checkSize_31

def ww_cn_end32z : List Cond := Cond.code yX12_end32 cX12_end32 1 (some .int) :: ([Cond.fieldLink RX12 132 "LzmaChainsModel" "sum32" "I"] ++ (wsX120 ++ ([])))
set_option maxHeartbeats 4000000 in
set_option maxRecDepth 100000 in
/-- the reference: end32 of nothing -/
theorem cn_end32z (l : Launch) (D : va_G) (cI cJ : ClassId) (ad : Nat → Nat) (g : Nat → Int32) (lg : Nat → Int64) (ar : Nat → Nat → Int32) (bk : Nat → Int64) (sz : Nat)  (h14 : g 14 = (-1)) : Met l yX12_end32 ww_cn_end32z { frames := 0, cells := 0, slots := 0, locals := 0 } (va_Pc [.ref (ad 0)] (hk_B D [(cI, .int), (cJ, .long)] sz (mw cI cJ ad g lg ar bk))) (va_Qi (fun (r : Int32) (u : Unit) => r = 0) (fun u : Unit => hk_E D [(cI, .int), (cJ, .long)] (va_A (mw cI cJ ad g lg ar bk) sz) (mw cI cJ ad g lg ar bk)) (va_A (mw cI cJ ad g lg ar bk) sz)) 0 0 (va_A (mw cI cJ ad g lg ar bk) sz) := by
  refine hk_met (cc := cX12_end32) (maxL := 1) (ret := (some .int)) (by decide) rfl (Nat.le_of_ble_eq_true rfl) ?_
  intro p e s m below meth c ls hx hb hr hml hown hts hlocks hin hA hw hl
  have iX12 : ∀ w ∈ wsX120, w ∈ ww_cn_end32z := fun _ h => List.mem_cons_of_mem _ (List.mem_append_right _ (List.mem_append_left _ h))
  have hl : lv_has ls 1 [(0, .ref (ad 0))] := hl
  refine lv_aload_n hx hb dX12_end32_0 rfl (lv_at hl 0 rfl) ?_
  refine hk_get (ci := 15) (C := RX12) (T := TX12) (N := 92) (v := .int (-1)) hx hb hts iX12 hown hw 0 rfl rfl 17 (by decide) (hts _ (List.mem_of_getElem? (i := 1) rfl)) (congrArg (fun z => some (Value.int z)) h14) dX12_end32_1 ?_
  refine lv_iconst (v := (-1)) hx hb dX12_end32_4 (by decide) ?_
  refine lv_ixor hx hb dX12_end32_5 ?_
  refine hk_topi 0 (by decide +kernel) ?_
  exact hk_iret (u := ()) hx hb hr hlocks (hw) (rfl) dX12_end32_6

def ww_cn_endCheck1 : List Cond := Cond.code yX12_endCheck cX12_endCheck 2 none :: ([Cond.fieldLink RX12 171 "LzmaChainsModel" "checkNow" "I", Cond.methodLink RX12 191 yX12_checkSize, Cond.static yX12_checkSize, Cond.initialized RX12, Cond.code yX12_checkSize cX12_checkSize 1 (some .int), Cond.fieldLink RX12 44 "LzmaChainsModel" "checkByte" "[I", Cond.methodLink RX12 195 yX12_end32, Cond.instanceMethod yX12_end32, Cond.selects RX12 yX12_end32 yX12_end32, Cond.code yX12_end32 cX12_end32 1 (some .int), Cond.fieldLink RX12 132 "LzmaChainsModel" "sum32" "I"] ++ (wsX120 ++ ([])))
set_option maxRecDepth 20000 in
theorem gw_cn_endCheck1_0 : GoodIn ww_cn_endCheck1 (va_wsS RX12 191 yX12_checkSize ww_cn_size1) := goodIn_r _ [2, 3, 4, 5] rfl (by decide +kernel)
set_option maxRecDepth 20000 in
theorem gw_cn_endCheck1_1 : GoodIn ww_cn_endCheck1 (wsV RX12 195 RX12 yX12_end32 ww_cn_end32z) := goodIn_r _ [7, 8, 9, 4, 10, 11, 12, 13, 14, 15, 16, 17, 18, 19, 20, 21, 22, 23, 24, 25, 26, 27, 28, 29, 30, 31, 32, 33, 34, 35, 36, 37, 38, 39, 40, 41, 42, 43, 44, 45, 46, 47, 48, 49, 50, 51, 52, 53, 54, 55, 56, 57, 58, 59, 60, 61, 62, 63, 64, 65, 66, 67, 68, 69, 70, 71, 72, 73, 74, 75, 76, 77, 78, 79, 80, 81, 82, 83, 84, 85, 86, 87, 88, 89, 90, 91, 92, 93, 94, 95, 96, 97, 98, 99, 100, 101, 102, 103] rfl (by decide +kernel)
set_option maxHeartbeats 4000000 in
set_option maxRecDepth 100000 in
/-- the reference: endCheck, CRC32 of nothing -/
theorem cn_endCheck1 (l : Launch) (D : va_G) (cI cJ : ClassId) (ad : Nat → Nat) (g : Nat → Int32) (lg : Nat → Int64) (ar : Nat → Nat → Int32) (bk : Nat → Int64) (sz : Nat)  (h16 : g 16 = 1) (h14 : g 14 = (-1)) : Met l yX12_endCheck ww_cn_endCheck1 { frames := 1, cells := 0, slots := 0, locals := 20 } (va_Pc [.ref (ad 0)] (hk_B D [(cI, .int), (cJ, .long)] sz (mw cI cJ ad g lg ar bk))) (va_Qv (fun u : (Nat → Int32) => ∀ j, j < 4 → u j = 0) (fun u : (Nat → Int32) => hk_E D [(cI, .int), (cJ, .long)] (va_A (mw cI cJ ad g lg ar bk) sz) (mw cI cJ ad g lg (va_up ar 5 u) bk)) (va_A (mw cI cJ ad g lg ar bk) sz)) 0 0 (va_A (mw cI cJ ad g lg ar bk) sz) := by
  refine hk_met (cc := cX12_endCheck) (maxL := 2) (ret := none) (by decide) rfl (Nat.le_of_ble_eq_true rfl) ?_
  intro p e s m below meth c ls hx hb hr hml hown hts hlocks hin hA hw hl
  have iX12 : ∀ w ∈ wsX120, w ∈ ww_cn_endCheck1 := fun _ h => List.mem_cons_of_mem _ (List.mem_append_right _ (List.mem_append_left _ h))
  have hl : lv_has ls 2 [(0, .ref (ad 0))] := hl
  refine lv_aload_n hx hb dX12_endCheck_0 rfl (lv_at hl 0 rfl) ?_
  refine hk_get (ci := 15) (C := RX12) (T := TX12) (N := 92) (v := .int 1) hx hb hts iX12 hown hw 0 rfl rfl 24 (by decide) (hts _ (List.mem_of_getElem? (i := 1) rfl)) (congrArg (fun z => some (Value.int z)) h16) dX12_endCheck_1 ?_
  refine lv_bipush (v := 10) hx hb dX12_endCheck_4 (by decide) ?_
  refine lv_icmp_ne (tgt := 13) hx hb dX12_endCheck_6 (by decide) (fun _ => ?_) (fun cc_1 => absurd cc_1 (by decide))
  refine lv_iconst (v := 0) hx hb dX12_endCheck_13 (by decide) ?_
  refine lv_istore_n (lv' := [(1, .int 0), (0, .ref (ad 0))]) hx hb dX12_endCheck_14 rfl hl (by decide) rfl (fun ls hl => ?_)
  refine lv_iload_n hx hb dX12_endCheck_15 rfl (lv_at hl 0 rfl) ?_
  refine lv_aload_n hx hb dX12_endCheck_16 rfl (lv_at hl 1 rfl) ?_
  refine hk_get (ci := 15) (C := RX12) (T := TX12) (N := 92) (v := .int 1) hx hb hts iX12 hown hw 0 rfl rfl 24 (by decide) (hts _ (List.mem_of_getElem? (i := 1) rfl)) (congrArg (fun z => some (Value.int z)) h16) dX12_endCheck_17 ?_
  refine hk_Si (As := [.int 1]) (rest := [.int 0]) ⟨hx, hb, hml, hown, hts⟩ hw hA (cn_size1 l D cI cJ ad g lg ar bk _) (va_cwS 1 hts gw_cn_endCheck1_0 rfl rfl rfl (by decide +kernel) ⟨Nat.le_of_ble_eq_true rfl, Nat.le_of_ble_eq_true rfl⟩) rfl hl.1 rfl (Nat.le_of_ble_eq_true rfl) dX12_endCheck_20 ⟨Nat.le_of_ble_eq_true rfl, Nat.le_of_ble_eq_true rfl⟩ (fun rr_2 uu_3 H locs hp_4 hw => ?_)
  subst hp_4
  have hw : hk_W D [(cI, .int), (cJ, .long)] _ s _ _ (mw cI cJ ad g lg ar bk) := hw
  refine lv_icmp_ge (tgt := 113) hx hb dX12_endCheck_23 (by decide) (fun cc_5 => absurd cc_5 (by decide)) (fun _ => ?_)
  refine lv_aload_n hx hb dX12_endCheck_26 rfl (lv_at hl 1 rfl) ?_
  refine hk_get (ci := 15) (C := RX12) (T := TX12) (N := 92) (v := .ref (ad 6)) hx hb hts iX12 hown hw 0 rfl rfl 23 (by decide) (hts _ (List.mem_of_getElem? (i := 6) rfl)) rfl dX12_endCheck_27 ?_
  refine lv_iload_n hx hb dX12_endCheck_30 rfl (lv_at hl 0 rfl) ?_
  refine lv_aload_n hx hb dX12_endCheck_31 rfl (lv_at hl 1 rfl) ?_
  refine hk_get (ci := 15) (C := RX12) (T := TX12) (N := 92) (v := .int 1) hx hb hts iX12 hown hw 0 rfl rfl 24 (by decide) (hts _ (List.mem_of_getElem? (i := 1) rfl)) (congrArg (fun z => some (Value.int z)) h16) dX12_endCheck_32 ?_
  refine lv_iconst (v := 1) hx hb dX12_endCheck_35 (by decide) ?_
  refine lv_icmp_ne (tgt := 55) hx hb dX12_endCheck_36 (by decide) (fun cc_6 => absurd (by decide) cc_6) (fun _ => ?_)
  refine lv_aload_n hx hb dX12_endCheck_39 rfl (lv_at hl 1 rfl) ?_
  refine hk_Vi (As := []) (rest := [.int 0, .ref (ad 6)]) ⟨hx, hb, hml, hown, hts⟩ hw hA (cn_end32z l D cI cJ ad g lg ar bk _ h14) (cwV 0 hts gw_cn_endCheck1_1 rfl rfl rfl (by decide +kernel) ⟨Nat.le_of_ble_eq_true rfl, Nat.le_of_ble_eq_true rfl⟩) 0 (ci := 15) (T := TX12) (N := 92) rfl rfl rfl hl.1 rfl (Nat.le_of_ble_eq_true rfl) dX12_endCheck_40 ⟨Nat.le_of_ble_eq_true rfl, Nat.le_of_ble_eq_true rfl⟩ (fun rr_7 uu_8 H locs hp_9 hw => ?_)
  subst hp_9
  have hw : hk_W D [(cI, .int), (cJ, .long)] _ s _ _ (mw cI cJ ad g lg ar bk) := hw
  refine lv_bipush (v := 8) hx hb dX12_endCheck_43 (by decide) ?_
  refine lv_iload_n hx hb dX12_endCheck_45 rfl (lv_at hl 0 rfl) ?_
  refine lv_imul hx hb dX12_endCheck_46 ?_
  refine hk_topi 0 (by decide +kernel) ?_
  refine lv_ishr hx hb dX12_endCheck_47 ?_
  refine hk_topi 0 (by decide +kernel) ?_
  refine lv_sipush (v := 255) hx hb dX12_endCheck_48 (by decide) ?_
  refine lv_iand hx hb dX12_endCheck_51 ?_
  refine hk_topi 0 (by decide +kernel) ?_
  refine lv_goto (tgt := 106) hx hb dX12_endCheck_52 (by decide) ?_
  refine hk_iast hx hb hw 6 0 rfl rfl (show ¬ (_ ∨ _) by decide) dX12_endCheck_106 (ws' := mw cI cJ ad g lg (va_up ar 5 (upd (ar 5) 0 0)) bk) rfl (fun H locs hw => ?_)
  refine lv_iinc (v := 1) (lv' := [(1, .int 1), (0, .ref (ad 0))]) hx hb dX12_endCheck_107 hl (k := 0) rfl rfl (by decide) rfl (fun ls hl => ?_)
  refine lv_goto (tgt := 15) hx hb dX12_endCheck_110 (by decide) ?_
  refine lv_iload_n hx hb dX12_endCheck_15 rfl (lv_at hl 0 rfl) ?_
  refine lv_aload_n hx hb dX12_endCheck_16 rfl (lv_at hl 1 rfl) ?_
  refine hk_get (ci := 15) (C := RX12) (T := TX12) (N := 92) (v := .int 1) hx hb hts iX12 hown hw 0 rfl rfl 24 (by decide) (hts _ (List.mem_of_getElem? (i := 1) rfl)) (congrArg (fun z => some (Value.int z)) h16) dX12_endCheck_17 ?_
  refine hk_Si (As := [.int 1]) (rest := [.int 1]) ⟨hx, hb, hml, hown, hts⟩ hw hA (cn_size1 l D cI cJ ad g lg (va_up ar 5 (upd (ar 5) 0 0)) bk _) (va_cwS 1 hts gw_cn_endCheck1_0 rfl rfl rfl (by decide +kernel) ⟨Nat.le_of_ble_eq_true rfl, Nat.le_of_ble_eq_true rfl⟩) rfl hl.1 rfl (Nat.le_of_ble_eq_true rfl) dX12_endCheck_20 ⟨Nat.le_of_ble_eq_true rfl, Nat.le_of_ble_eq_true rfl⟩ (fun rr_10 uu_11 H locs hp_12 hw => ?_)
  subst hp_12
  have hw : hk_W D [(cI, .int), (cJ, .long)] _ s _ _ (mw cI cJ ad g lg (va_up ar 5 (upd (ar 5) 0 0)) bk) := hw
  refine lv_icmp_ge (tgt := 113) hx hb dX12_endCheck_23 (by decide) (fun cc_13 => absurd cc_13 (by decide)) (fun _ => ?_)
  refine lv_aload_n hx hb dX12_endCheck_26 rfl (lv_at hl 1 rfl) ?_
  refine hk_get (ci := 15) (C := RX12) (T := TX12) (N := 92) (v := .ref (ad 6)) hx hb hts iX12 hown hw 0 rfl rfl 23 (by decide) (hts _ (List.mem_of_getElem? (i := 6) rfl)) rfl dX12_endCheck_27 ?_
  refine lv_iload_n hx hb dX12_endCheck_30 rfl (lv_at hl 0 rfl) ?_
  refine lv_aload_n hx hb dX12_endCheck_31 rfl (lv_at hl 1 rfl) ?_
  refine hk_get (ci := 15) (C := RX12) (T := TX12) (N := 92) (v := .int 1) hx hb hts iX12 hown hw 0 rfl rfl 24 (by decide) (hts _ (List.mem_of_getElem? (i := 1) rfl)) (congrArg (fun z => some (Value.int z)) h16) dX12_endCheck_32 ?_
  refine lv_iconst (v := 1) hx hb dX12_endCheck_35 (by decide) ?_
  refine lv_icmp_ne (tgt := 55) hx hb dX12_endCheck_36 (by decide) (fun cc_14 => absurd (by decide) cc_14) (fun _ => ?_)
  refine lv_aload_n hx hb dX12_endCheck_39 rfl (lv_at hl 1 rfl) ?_
  refine hk_Vi (As := []) (rest := [.int 1, .ref (ad 6)]) ⟨hx, hb, hml, hown, hts⟩ hw hA (cn_end32z l D cI cJ ad g lg (va_up ar 5 (upd (ar 5) 0 0)) bk _ h14) (cwV 0 hts gw_cn_endCheck1_1 rfl rfl rfl (by decide +kernel) ⟨Nat.le_of_ble_eq_true rfl, Nat.le_of_ble_eq_true rfl⟩) 0 (ci := 15) (T := TX12) (N := 92) rfl rfl rfl hl.1 rfl (Nat.le_of_ble_eq_true rfl) dX12_endCheck_40 ⟨Nat.le_of_ble_eq_true rfl, Nat.le_of_ble_eq_true rfl⟩ (fun rr_15 uu_16 H locs hp_17 hw => ?_)
  subst hp_17
  have hw : hk_W D [(cI, .int), (cJ, .long)] _ s _ _ (mw cI cJ ad g lg (va_up ar 5 (upd (ar 5) 0 0)) bk) := hw
  refine lv_bipush (v := 8) hx hb dX12_endCheck_43 (by decide) ?_
  refine lv_iload_n hx hb dX12_endCheck_45 rfl (lv_at hl 0 rfl) ?_
  refine lv_imul hx hb dX12_endCheck_46 ?_
  refine hk_topi 8 (by decide +kernel) ?_
  refine lv_ishr hx hb dX12_endCheck_47 ?_
  refine hk_topi 0 (by decide +kernel) ?_
  refine lv_sipush (v := 255) hx hb dX12_endCheck_48 (by decide) ?_
  refine lv_iand hx hb dX12_endCheck_51 ?_
  refine hk_topi 0 (by decide +kernel) ?_
  refine lv_goto (tgt := 106) hx hb dX12_endCheck_52 (by decide) ?_
  refine hk_iast hx hb hw 6 0 rfl rfl (show ¬ (_ ∨ _) by decide) dX12_endCheck_106 (ws' := mw cI cJ ad g lg (va_up ar 5 (upd (upd (ar 5) 0 0) 1 0)) bk) rfl (fun H locs hw => ?_)
  refine lv_iinc (v := 2) (lv' := [(1, .int 2), (0, .ref (ad 0))]) hx hb dX12_endCheck_107 hl (k := 0) rfl rfl (by decide) rfl (fun ls hl => ?_)
  refine lv_goto (tgt := 15) hx hb dX12_endCheck_110 (by decide) ?_
  refine lv_iload_n hx hb dX12_endCheck_15 rfl (lv_at hl 0 rfl) ?_
  refine lv_aload_n hx hb dX12_endCheck_16 rfl (lv_at hl 1 rfl) ?_
  refine hk_get (ci := 15) (C := RX12) (T := TX12) (N := 92) (v := .int 1) hx hb hts iX12 hown hw 0 rfl rfl 24 (by decide) (hts _ (List.mem_of_getElem? (i := 1) rfl)) (congrArg (fun z => some (Value.int z)) h16) dX12_endCheck_17 ?_
  refine hk_Si (As := [.int 1]) (rest := [.int 2]) ⟨hx, hb, hml, hown, hts⟩ hw hA (cn_size1 l D cI cJ ad g lg (va_up ar 5 (upd (upd (ar 5) 0 0) 1 0)) bk _) (va_cwS 1 hts gw_cn_endCheck1_0 rfl rfl rfl (by decide +kernel) ⟨Nat.le_of_ble_eq_true rfl, Nat.le_of_ble_eq_true rfl⟩) rfl hl.1 rfl (Nat.le_of_ble_eq_true rfl) dX12_endCheck_20 ⟨Nat.le_of_ble_eq_true rfl, Nat.le_of_ble_eq_true rfl⟩ (fun rr_18 uu_19 H locs hp_20 hw => ?_)
  subst hp_20
  have hw : hk_W D [(cI, .int), (cJ, .long)] _ s _ _ (mw cI cJ ad g lg (va_up ar 5 (upd (upd (ar 5) 0 0) 1 0)) bk) := hw
  refine lv_icmp_ge (tgt := 113) hx hb dX12_endCheck_23 (by decide) (fun cc_21 => absurd cc_21 (by decide)) (fun _ => ?_)
  refine lv_aload_n hx hb dX12_endCheck_26 rfl (lv_at hl 1 rfl) ?_
  refine hk_get (ci := 15) (C := RX12) (T := TX12) (N := 92) (v := .ref (ad 6)) hx hb hts iX12 hown hw 0 rfl rfl 23 (by decide) (hts _ (List.mem_of_getElem? (i := 6) rfl)) rfl dX12_endCheck_27 ?_
  refine lv_iload_n hx hb dX12_endCheck_30 rfl (lv_at hl 0 rfl) ?_
  refine lv_aload_n hx hb dX12_endCheck_31 rfl (lv_at hl 1 rfl) ?_
  refine hk_get (ci := 15) (C := RX12) (T := TX12) (N := 92) (v := .int 1) hx hb hts iX12 hown hw 0 rfl rfl 24 (by decide) (hts _ (List.mem_of_getElem? (i := 1) rfl)) (congrArg (fun z => some (Value.int z)) h16) dX12_endCheck_32 ?_
  refine lv_iconst (v := 1) hx hb dX12_endCheck_35 (by decide) ?_
  refine lv_icmp_ne (tgt := 55) hx hb dX12_endCheck_36 (by decide) (fun cc_22 => absurd (by decide) cc_22) (fun _ => ?_)
  refine lv_aload_n hx hb dX12_endCheck_39 rfl (lv_at hl 1 rfl) ?_
  refine hk_Vi (As := []) (rest := [.int 2, .ref (ad 6)]) ⟨hx, hb, hml, hown, hts⟩ hw hA (cn_end32z l D cI cJ ad g lg (va_up ar 5 (upd (upd (ar 5) 0 0) 1 0)) bk _ h14) (cwV 0 hts gw_cn_endCheck1_1 rfl rfl rfl (by decide +kernel) ⟨Nat.le_of_ble_eq_true rfl, Nat.le_of_ble_eq_true rfl⟩) 0 (ci := 15) (T := TX12) (N := 92) rfl rfl rfl hl.1 rfl (Nat.le_of_ble_eq_true rfl) dX12_endCheck_40 ⟨Nat.le_of_ble_eq_true rfl, Nat.le_of_ble_eq_true rfl⟩ (fun rr_23 uu_24 H locs hp_25 hw => ?_)
  subst hp_25
  have hw : hk_W D [(cI, .int), (cJ, .long)] _ s _ _ (mw cI cJ ad g lg (va_up ar 5 (upd (upd (ar 5) 0 0) 1 0)) bk) := hw
  refine lv_bipush (v := 8) hx hb dX12_endCheck_43 (by decide) ?_
  refine lv_iload_n hx hb dX12_endCheck_45 rfl (lv_at hl 0 rfl) ?_
  refine lv_imul hx hb dX12_endCheck_46 ?_
  refine hk_topi 16 (by decide +kernel) ?_
  refine lv_ishr hx hb dX12_endCheck_47 ?_
  refine hk_topi 0 (by decide +kernel) ?_
  refine lv_sipush (v := 255) hx hb dX12_endCheck_48 (by decide) ?_
  refine lv_iand hx hb dX12_endCheck_51 ?_
  refine hk_topi 0 (by decide +kernel) ?_
  refine lv_goto (tgt := 106) hx hb dX12_endCheck_52 (by decide) ?_
  refine hk_iast hx hb hw 6 0 rfl rfl (show ¬ (_ ∨ _) by decide) dX12_endCheck_106 (ws' := mw cI cJ ad g lg (va_up ar 5 (upd (upd (upd (ar 5) 0 0) 1 0) 2 0)) bk) rfl (fun H locs hw => ?_)
  refine lv_iinc (v := 3) (lv' := [(1, .int 3), (0, .ref (ad 0))]) hx hb dX12_endCheck_107 hl (k := 0) rfl rfl (by decide) rfl (fun ls hl => ?_)
  refine lv_goto (tgt := 15) hx hb dX12_endCheck_110 (by decide) ?_
  refine lv_iload_n hx hb dX12_endCheck_15 rfl (lv_at hl 0 rfl) ?_
  refine lv_aload_n hx hb dX12_endCheck_16 rfl (lv_at hl 1 rfl) ?_
  refine hk_get (ci := 15) (C := RX12) (T := TX12) (N := 92) (v := .int 1) hx hb hts iX12 hown hw 0 rfl rfl 24 (by decide) (hts _ (List.mem_of_getElem? (i := 1) rfl)) (congrArg (fun z => some (Value.int z)) h16) dX12_endCheck_17 ?_
  refine hk_Si (As := [.int 1]) (rest := [.int 3]) ⟨hx, hb, hml, hown, hts⟩ hw hA (cn_size1 l D cI cJ ad g lg (va_up ar 5 (upd (upd (upd (ar 5) 0 0) 1 0) 2 0)) bk _) (va_cwS 1 hts gw_cn_endCheck1_0 rfl rfl rfl (by decide +kernel) ⟨Nat.le_of_ble_eq_true rfl, Nat.le_of_ble_eq_true rfl⟩) rfl hl.1 rfl (Nat.le_of_ble_eq_true rfl) dX12_endCheck_20 ⟨Nat.le_of_ble_eq_true rfl, Nat.le_of_ble_eq_true rfl⟩ (fun rr_26 uu_27 H locs hp_28 hw => ?_)
  subst hp_28
  have hw : hk_W D [(cI, .int), (cJ, .long)] _ s _ _ (mw cI cJ ad g lg (va_up ar 5 (upd (upd (upd (ar 5) 0 0) 1 0) 2 0)) bk) := hw
  refine lv_icmp_ge (tgt := 113) hx hb dX12_endCheck_23 (by decide) (fun cc_29 => absurd cc_29 (by decide)) (fun _ => ?_)
  refine lv_aload_n hx hb dX12_endCheck_26 rfl (lv_at hl 1 rfl) ?_
  refine hk_get (ci := 15) (C := RX12) (T := TX12) (N := 92) (v := .ref (ad 6)) hx hb hts iX12 hown hw 0 rfl rfl 23 (by decide) (hts _ (List.mem_of_getElem? (i := 6) rfl)) rfl dX12_endCheck_27 ?_
  refine lv_iload_n hx hb dX12_endCheck_30 rfl (lv_at hl 0 rfl) ?_
  refine lv_aload_n hx hb dX12_endCheck_31 rfl (lv_at hl 1 rfl) ?_
  refine hk_get (ci := 15) (C := RX12) (T := TX12) (N := 92) (v := .int 1) hx hb hts iX12 hown hw 0 rfl rfl 24 (by decide) (hts _ (List.mem_of_getElem? (i := 1) rfl)) (congrArg (fun z => some (Value.int z)) h16) dX12_endCheck_32 ?_
  refine lv_iconst (v := 1) hx hb dX12_endCheck_35 (by decide) ?_
  refine lv_icmp_ne (tgt := 55) hx hb dX12_endCheck_36 (by decide) (fun cc_30 => absurd (by decide) cc_30) (fun _ => ?_)
  refine lv_aload_n hx hb dX12_endCheck_39 rfl (lv_at hl 1 rfl) ?_
  refine hk_Vi (As := []) (rest := [.int 3, .ref (ad 6)]) ⟨hx, hb, hml, hown, hts⟩ hw hA (cn_end32z l D cI cJ ad g lg (va_up ar 5 (upd (upd (upd (ar 5) 0 0) 1 0) 2 0)) bk _ h14) (cwV 0 hts gw_cn_endCheck1_1 rfl rfl rfl (by decide +kernel) ⟨Nat.le_of_ble_eq_true rfl, Nat.le_of_ble_eq_true rfl⟩) 0 (ci := 15) (T := TX12) (N := 92) rfl rfl rfl hl.1 rfl (Nat.le_of_ble_eq_true rfl) dX12_endCheck_40 ⟨Nat.le_of_ble_eq_true rfl, Nat.le_of_ble_eq_true rfl⟩ (fun rr_31 uu_32 H locs hp_33 hw => ?_)
  subst hp_33
  have hw : hk_W D [(cI, .int), (cJ, .long)] _ s _ _ (mw cI cJ ad g lg (va_up ar 5 (upd (upd (upd (ar 5) 0 0) 1 0) 2 0)) bk) := hw
  refine lv_bipush (v := 8) hx hb dX12_endCheck_43 (by decide) ?_
  refine lv_iload_n hx hb dX12_endCheck_45 rfl (lv_at hl 0 rfl) ?_
  refine lv_imul hx hb dX12_endCheck_46 ?_
  refine hk_topi 24 (by decide +kernel) ?_
  refine lv_ishr hx hb dX12_endCheck_47 ?_
  refine hk_topi 0 (by decide +kernel) ?_
  refine lv_sipush (v := 255) hx hb dX12_endCheck_48 (by decide) ?_
  refine lv_iand hx hb dX12_endCheck_51 ?_
  refine hk_topi 0 (by decide +kernel) ?_
  refine lv_goto (tgt := 106) hx hb dX12_endCheck_52 (by decide) ?_
  refine hk_iast hx hb hw 6 0 rfl rfl (show ¬ (_ ∨ _) by decide) dX12_endCheck_106 (ws' := mw cI cJ ad g lg (va_up ar 5 (upd (upd (upd (upd (ar 5) 0 0) 1 0) 2 0) 3 0)) bk) rfl (fun H locs hw => ?_)
  refine lv_iinc (v := 4) (lv' := [(1, .int 4), (0, .ref (ad 0))]) hx hb dX12_endCheck_107 hl (k := 0) rfl rfl (by decide) rfl (fun ls hl => ?_)
  refine lv_goto (tgt := 15) hx hb dX12_endCheck_110 (by decide) ?_
  refine lv_iload_n hx hb dX12_endCheck_15 rfl (lv_at hl 0 rfl) ?_
  refine lv_aload_n hx hb dX12_endCheck_16 rfl (lv_at hl 1 rfl) ?_
  refine hk_get (ci := 15) (C := RX12) (T := TX12) (N := 92) (v := .int 1) hx hb hts iX12 hown hw 0 rfl rfl 24 (by decide) (hts _ (List.mem_of_getElem? (i := 1) rfl)) (congrArg (fun z => some (Value.int z)) h16) dX12_endCheck_17 ?_
  refine hk_Si (As := [.int 1]) (rest := [.int 4]) ⟨hx, hb, hml, hown, hts⟩ hw hA (cn_size1 l D cI cJ ad g lg (va_up ar 5 (upd (upd (upd (upd (ar 5) 0 0) 1 0) 2 0) 3 0)) bk _) (va_cwS 1 hts gw_cn_endCheck1_0 rfl rfl rfl (by decide +kernel) ⟨Nat.le_of_ble_eq_true rfl, Nat.le_of_ble_eq_true rfl⟩) rfl hl.1 rfl (Nat.le_of_ble_eq_true rfl) dX12_endCheck_20 ⟨Nat.le_of_ble_eq_true rfl, Nat.le_of_ble_eq_true rfl⟩ (fun rr_34 uu_35 H locs hp_36 hw => ?_)
  subst hp_36
  have hw : hk_W D [(cI, .int), (cJ, .long)] _ s _ _ (mw cI cJ ad g lg (va_up ar 5 (upd (upd (upd (upd (ar 5) 0 0) 1 0) 2 0) 3 0)) bk) := hw
  refine lv_icmp_ge (tgt := 113) hx hb dX12_endCheck_23 (by decide) (fun _ => ?_) (fun cc_37 => absurd (by decide) cc_37)
  exact hk_vret (u := (upd (upd (upd (upd (ar 5) 0 0) 1 0) 2 0) 3 0)) hx hb hr hlocks (hw) (fun j hj => by match j, hj with | 0, _ => rfl | 1, _ => rfl | 2, _ => rfl | 3, _ => rfl) dX12_endCheck_113

def ww_cn_endCheck4 : List Cond := Cond.code yX12_endCheck cX12_endCheck 2 none :: ([Cond.fieldLink RX12 171 "LzmaChainsModel" "checkNow" "I", Cond.methodLink RX12 191 yX12_checkSize, Cond.static yX12_checkSize, Cond.initialized RX12, Cond.code yX12_checkSize cX12_checkSize 1 (some .int), Cond.fieldLink RX12 44 "LzmaChainsModel" "checkByte" "[I", Cond.fieldLink RX12 135 "LzmaChainsModel" "sum64" "J", Cond.constantLong RX12 177 (-1)] ++ (wsX120 ++ ([])))
set_option maxRecDepth 20000 in
theorem gw_cn_endCheck4_0 : GoodIn ww_cn_endCheck4 (va_wsS RX12 191 yX12_checkSize ww_cn_size4) := goodIn_r _ [2, 3, 4, 5] rfl (by decide +kernel)
set_option maxHeartbeats 4000000 in
set_option maxRecDepth 100000 in
/-- the reference: endCheck, CRC64 of nothing -/
theorem cn_endCheck4 (l : Launch) (D : va_G) (cI cJ : ClassId) (ad : Nat → Nat) (g : Nat → Int32) (lg : Nat → Int64) (ar : Nat → Nat → Int32) (bk : Nat → Int64) (sz : Nat)  (h16 : g 16 = 4) (hL0 : lg 0 = (-1)) : Met l yX12_endCheck ww_cn_endCheck4 { frames := 1, cells := 0, slots := 0, locals := 20 } (va_Pc [.ref (ad 0)] (hk_B D [(cI, .int), (cJ, .long)] sz (mw cI cJ ad g lg ar bk))) (va_Qv (fun u : (Nat → Int32) => ∀ j, j < 8 → u j = 0) (fun u : (Nat → Int32) => hk_E D [(cI, .int), (cJ, .long)] (va_A (mw cI cJ ad g lg ar bk) sz) (mw cI cJ ad g lg (va_up ar 5 u) bk)) (va_A (mw cI cJ ad g lg ar bk) sz)) 0 0 (va_A (mw cI cJ ad g lg ar bk) sz) := by
  refine hk_met (cc := cX12_endCheck) (maxL := 2) (ret := none) (by decide) rfl (Nat.le_of_ble_eq_true rfl) ?_
  intro p e s m below meth c ls hx hb hr hml hown hts hlocks hin hA hw hl
  have iX12 : ∀ w ∈ wsX120, w ∈ ww_cn_endCheck4 := fun _ h => List.mem_cons_of_mem _ (List.mem_append_right _ (List.mem_append_left _ h))
  have hl : lv_has ls 2 [(0, .ref (ad 0))] := hl
  refine lv_aload_n hx hb dX12_endCheck_0 rfl (lv_at hl 0 rfl) ?_
  refine hk_get (ci := 15) (C := RX12) (T := TX12) (N := 92) (v := .int 4) hx hb hts iX12 hown hw 0 rfl rfl 24 (by decide) (hts _ (List.mem_of_getElem? (i := 1) rfl)) (congrArg (fun z => some (Value.int z)) h16) dX12_endCheck_1 ?_
  refine lv_bipush (v := 10) hx hb dX12_endCheck_4 (by decide) ?_
  refine lv_icmp_ne (tgt := 13) hx hb dX12_endCheck_6 (by decide) (fun _ => ?_) (fun cc_1 => absurd cc_1 (by decide))
  refine lv_iconst (v := 0) hx hb dX12_endCheck_13 (by decide) ?_
  refine lv_istore_n (lv' := [(1, .int 0), (0, .ref (ad 0))]) hx hb dX12_endCheck_14 rfl hl (by decide) rfl (fun ls hl => ?_)
  refine lv_iload_n hx hb dX12_endCheck_15 rfl (lv_at hl 0 rfl) ?_
  refine lv_aload_n hx hb dX12_endCheck_16 rfl (lv_at hl 1 rfl) ?_
  refine hk_get (ci := 15) (C := RX12) (T := TX12) (N := 92) (v := .int 4) hx hb hts iX12 hown hw 0 rfl rfl 24 (by decide) (hts _ (List.mem_of_getElem? (i := 1) rfl)) (congrArg (fun z => some (Value.int z)) h16) dX12_endCheck_17 ?_
  refine hk_Si (As := [.int 4]) (rest := [.int 0]) ⟨hx, hb, hml, hown, hts⟩ hw hA (cn_size4 l D cI cJ ad g lg ar bk _) (va_cwS 1 hts gw_cn_endCheck4_0 rfl rfl rfl (by decide +kernel) ⟨Nat.le_of_ble_eq_true rfl, Nat.le_of_ble_eq_true rfl⟩) rfl hl.1 rfl (Nat.le_of_ble_eq_true rfl) dX12_endCheck_20 ⟨Nat.le_of_ble_eq_true rfl, Nat.le_of_ble_eq_true rfl⟩ (fun rr_2 uu_3 H locs hp_4 hw => ?_)
  subst hp_4
  have hw : hk_W D [(cI, .int), (cJ, .long)] _ s _ _ (mw cI cJ ad g lg ar bk) := hw
  refine lv_icmp_ge (tgt := 113) hx hb dX12_endCheck_23 (by decide) (fun cc_5 => absurd cc_5 (by decide)) (fun _ => ?_)
  refine lv_aload_n hx hb dX12_endCheck_26 rfl (lv_at hl 1 rfl) ?_
  refine hk_get (ci := 15) (C := RX12) (T := TX12) (N := 92) (v := .ref (ad 6)) hx hb hts iX12 hown hw 0 rfl rfl 23 (by decide) (hts _ (List.mem_of_getElem? (i := 6) rfl)) rfl dX12_endCheck_27 ?_
  refine lv_iload_n hx hb dX12_endCheck_30 rfl (lv_at hl 0 rfl) ?_
  refine lv_aload_n hx hb dX12_endCheck_31 rfl (lv_at hl 1 rfl) ?_
  refine hk_get (ci := 15) (C := RX12) (T := TX12) (N := 92) (v := .int 4) hx hb hts iX12 hown hw 0 rfl rfl 24 (by decide) (hts _ (List.mem_of_getElem? (i := 1) rfl)) (congrArg (fun z => some (Value.int z)) h16) dX12_endCheck_32 ?_
  refine lv_iconst (v := 1) hx hb dX12_endCheck_35 (by decide) ?_
  refine lv_icmp_ne (tgt := 55) hx hb dX12_endCheck_36 (by decide) (fun _ => ?_) (fun cc_6 => absurd cc_6 (by decide))
  refine lv_aload_n hx hb dX12_endCheck_55 rfl (lv_at hl 1 rfl) ?_
  refine hk_get (ci := 15) (C := RX12) (T := TX12) (N := 92) (v := .int 4) hx hb hts iX12 hown hw 0 rfl rfl 24 (by decide) (hts _ (List.mem_of_getElem? (i := 1) rfl)) (congrArg (fun z => some (Value.int z)) h16) dX12_endCheck_56 ?_
  refine lv_iconst (v := 4) hx hb dX12_endCheck_59 (by decide) ?_
  refine lv_icmp_ne (tgt := 84) hx hb dX12_endCheck_60 (by decide) (fun cc_7 => absurd (by decide) cc_7) (fun _ => ?_)
  refine lv_aload_n hx hb dX12_endCheck_63 rfl (lv_at hl 1 rfl) ?_
  refine hk_get (ci := 15) (C := RX12) (T := TX12) (N := 92) (v := .long (-1)) hx hb hts iX12 hown hw 0 rfl rfl 18 (by decide) (hts _ (List.mem_of_getElem? (i := 7) rfl)) (congrArg (fun z => some (Value.long z)) hL0) dX12_endCheck_64 ?_
  refine lv_ldc2 (v := (-1)) hx hb hown (hts _ (List.mem_of_getElem? (i := 8) rfl)) dX12_endCheck_67 ?_
  refine lv_lxor hx hb dX12_endCheck_70 ?_
  refine hk_topl 0 (by decide +kernel) ?_
  refine lv_bipush (v := 8) hx hb dX12_endCheck_71 (by decide) ?_
  refine lv_iload_n hx hb dX12_endCheck_73 rfl (lv_at hl 0 rfl) ?_
  refine lv_imul hx hb dX12_endCheck_74 ?_
  refine hk_topi 0 (by decide +kernel) ?_
  refine lv_lshr (v := ((0 : Int64) >>> ((0 : Int32).toInt64 &&& 63))) hx hb dX12_endCheck_75 rfl ?_
  refine hk_topl 0 (by decide +kernel) ?_
  refine lv_l2i (v := (0 : Int64).toInt32) hx hb dX12_endCheck_76 rfl ?_
  refine hk_topi 0 (by decide +kernel) ?_
  refine lv_sipush (v := 255) hx hb dX12_endCheck_77 (by decide) ?_
  refine lv_iand hx hb dX12_endCheck_80 ?_
  refine hk_topi 0 (by decide +kernel) ?_
  refine lv_goto (tgt := 106) hx hb dX12_endCheck_81 (by decide) ?_
  refine hk_iast hx hb hw 6 0 rfl rfl (show ¬ (_ ∨ _) by decide) dX12_endCheck_106 (ws' := mw cI cJ ad g lg (va_up ar 5 (upd (ar 5) 0 0)) bk) rfl (fun H locs hw => ?_)
  refine lv_iinc (v := 1) (lv' := [(1, .int 1), (0, .ref (ad 0))]) hx hb dX12_endCheck_107 hl (k := 0) rfl rfl (by decide) rfl (fun ls hl => ?_)
  refine lv_goto (tgt := 15) hx hb dX12_endCheck_110 (by decide) ?_
  refine lv_iload_n hx hb dX12_endCheck_15 rfl (lv_at hl 0 rfl) ?_
  refine lv_aload_n hx hb dX12_endCheck_16 rfl (lv_at hl 1 rfl) ?_
  refine hk_get (ci := 15) (C := RX12) (T := TX12) (N := 92) (v := .int 4) hx hb hts iX12 hown hw 0 rfl rfl 24 (by decide) (hts _ (List.mem_of_getElem? (i := 1) rfl)) (congrArg (fun z => some (Value.int z)) h16) dX12_endCheck_17 ?_
  refine hk_Si (As := [.int 4]) (rest := [.int 1]) ⟨hx, hb, hml, hown, hts⟩ hw hA (cn_size4 l D cI cJ ad g lg (va_up ar 5 (upd (ar 5) 0 0)) bk _) (va_cwS 1 hts gw_cn_endCheck4_0 rfl rfl rfl (by decide +kernel) ⟨Nat.le_of_ble_eq_true rfl, Nat.le_of_ble_eq_true rfl⟩) rfl hl.1 rfl (Nat.le_of_ble_eq_true rfl) dX12_endCheck_20 ⟨Nat.le_of_ble_eq_true rfl, Nat.le_of_ble_eq_true rfl⟩ (fun rr_8 uu_9 H locs hp_10 hw => ?_)
  subst hp_10
  have hw : hk_W D [(cI, .int), (cJ, .long)] _ s _ _ (mw cI cJ ad g lg (va_up ar 5 (upd (ar 5) 0 0)) bk) := hw
  refine lv_icmp_ge (tgt := 113) hx hb dX12_endCheck_23 (by decide) (fun cc_11 => absurd cc_11 (by decide)) (fun _ => ?_)
  refine lv_aload_n hx hb dX12_endCheck_26 rfl (lv_at hl 1 rfl) ?_
  refine hk_get (ci := 15) (C := RX12) (T := TX12) (N := 92) (v := .ref (ad 6)) hx hb hts iX12 hown hw 0 rfl rfl 23 (by decide) (hts _ (List.mem_of_getElem? (i := 6) rfl)) rfl dX12_endCheck_27 ?_
  refine lv_iload_n hx hb dX12_endCheck_30 rfl (lv_at hl 0 rfl) ?_
  refine lv_aload_n hx hb dX12_endCheck_31 rfl (lv_at hl 1 rfl) ?_
  refine hk_get (ci := 15) (C := RX12) (T := TX12) (N := 92) (v := .int 4) hx hb hts iX12 hown hw 0 rfl rfl 24 (by decide) (hts _ (List.mem_of_getElem? (i := 1) rfl)) (congrArg (fun z => some (Value.int z)) h16) dX12_endCheck_32 ?_
  refine lv_iconst (v := 1) hx hb dX12_endCheck_35 (by decide) ?_
  refine lv_icmp_ne (tgt := 55) hx hb dX12_endCheck_36 (by decide) (fun _ => ?_) (fun cc_12 => absurd cc_12 (by decide))
  refine lv_aload_n hx hb dX12_endCheck_55 rfl (lv_at hl 1 rfl) ?_
  refine hk_get (ci := 15) (C := RX12) (T := TX12) (N := 92) (v := .int 4) hx hb hts iX12 hown hw 0 rfl rfl 24 (by decide) (hts _ (List.mem_of_getElem? (i := 1) rfl)) (congrArg (fun z => some (Value.int z)) h16) dX12_endCheck_56 ?_
  refine lv_iconst (v := 4) hx hb dX12_endCheck_59 (by decide) ?_
  refine lv_icmp_ne (tgt := 84) hx hb dX12_endCheck_60 (by decide) (fun cc_13 => absurd (by decide) cc_13) (fun _ => ?_)
  refine lv_aload_n hx hb dX12_endCheck_63 rfl (lv_at hl 1 rfl) ?_
  refine hk_get (ci := 15) (C := RX12) (T := TX12) (N := 92) (v := .long (-1)) hx hb hts iX12 hown hw 0 rfl rfl 18 (by decide) (hts _ (List.mem_of_getElem? (i := 7) rfl)) (congrArg (fun z => some (Value.long z)) hL0) dX12_endCheck_64 ?_
  refine lv_ldc2 (v := (-1)) hx hb hown (hts _ (List.mem_of_getElem? (i := 8) rfl)) dX12_endCheck_67 ?_
  refine lv_lxor hx hb dX12_endCheck_70 ?_
  refine hk_topl 0 (by decide +kernel) ?_
  refine lv_bipush (v := 8) hx hb dX12_endCheck_71 (by decide) ?_
  refine lv_iload_n hx hb dX12_endCheck_73 rfl (lv_at hl 0 rfl) ?_
  refine lv_imul hx hb dX12_endCheck_74 ?_
  refine hk_topi 8 (by decide +kernel) ?_
  refine lv_lshr (v := ((0 : Int64) >>> ((8 : Int32).toInt64 &&& 63))) hx hb dX12_endCheck_75 rfl ?_
  refine hk_topl 0 (by decide +kernel) ?_
  refine lv_l2i (v := (0 : Int64).toInt32) hx hb dX12_endCheck_76 rfl ?_
  refine hk_topi 0 (by decide +kernel) ?_
  refine lv_sipush (v := 255) hx hb dX12_endCheck_77 (by decide) ?_
  refine lv_iand hx hb dX12_endCheck_80 ?_
  refine hk_topi 0 (by decide +kernel) ?_
  refine lv_goto (tgt := 106) hx hb dX12_endCheck_81 (by decide) ?_
  refine hk_iast hx hb hw 6 0 rfl rfl (show ¬ (_ ∨ _) by decide) dX12_endCheck_106 (ws' := mw cI cJ ad g lg (va_up ar 5 (upd (upd (ar 5) 0 0) 1 0)) bk) rfl (fun H locs hw => ?_)
  refine lv_iinc (v := 2) (lv' := [(1, .int 2), (0, .ref (ad 0))]) hx hb dX12_endCheck_107 hl (k := 0) rfl rfl (by decide) rfl (fun ls hl => ?_)
  refine lv_goto (tgt := 15) hx hb dX12_endCheck_110 (by decide) ?_
  refine lv_iload_n hx hb dX12_endCheck_15 rfl (lv_at hl 0 rfl) ?_
  refine lv_aload_n hx hb dX12_endCheck_16 rfl (lv_at hl 1 rfl) ?_
  refine hk_get (ci := 15) (C := RX12) (T := TX12) (N := 92) (v := .int 4) hx hb hts iX12 hown hw 0 rfl rfl 24 (by decide) (hts _ (List.mem_of_getElem? (i := 1) rfl)) (congrArg (fun z => some (Value.int z)) h16) dX12_endCheck_17 ?_
  refine hk_Si (As := [.int 4]) (rest := [.int 2]) ⟨hx, hb, hml, hown, hts⟩ hw hA (cn_size4 l D cI cJ ad g lg (va_up ar 5 (upd (upd (ar 5) 0 0) 1 0)) bk _) (va_cwS 1 hts gw_cn_endCheck4_0 rfl rfl rfl (by decide +kernel) ⟨Nat.le_of_ble_eq_true rfl, Nat.le_of_ble_eq_true rfl⟩) rfl hl.1 rfl (Nat.le_of_ble_eq_true rfl) dX12_endCheck_20 ⟨Nat.le_of_ble_eq_true rfl, Nat.le_of_ble_eq_true rfl⟩ (fun rr_14 uu_15 H locs hp_16 hw => ?_)
  subst hp_16
  have hw : hk_W D [(cI, .int), (cJ, .long)] _ s _ _ (mw cI cJ ad g lg (va_up ar 5 (upd (upd (ar 5) 0 0) 1 0)) bk) := hw
  refine lv_icmp_ge (tgt := 113) hx hb dX12_endCheck_23 (by decide) (fun cc_17 => absurd cc_17 (by decide)) (fun _ => ?_)
  refine lv_aload_n hx hb dX12_endCheck_26 rfl (lv_at hl 1 rfl) ?_
  refine hk_get (ci := 15) (C := RX12) (T := TX12) (N := 92) (v := .ref (ad 6)) hx hb hts iX12 hown hw 0 rfl rfl 23 (by decide) (hts _ (List.mem_of_getElem? (i := 6) rfl)) rfl dX12_endCheck_27 ?_
  refine lv_iload_n hx hb dX12_endCheck_30 rfl (lv_at hl 0 rfl) ?_
  refine lv_aload_n hx hb dX12_endCheck_31 rfl (lv_at hl 1 rfl) ?_
  refine hk_get (ci := 15) (C := RX12) (T := TX12) (N := 92) (v := .int 4) hx hb hts iX12 hown hw 0 rfl rfl 24 (by decide) (hts _ (List.mem_of_getElem? (i := 1) rfl)) (congrArg (fun z => some (Value.int z)) h16) dX12_endCheck_32 ?_
  refine lv_iconst (v := 1) hx hb dX12_endCheck_35 (by decide) ?_
  refine lv_icmp_ne (tgt := 55) hx hb dX12_endCheck_36 (by decide) (fun _ => ?_) (fun cc_18 => absurd cc_18 (by decide))
  refine lv_aload_n hx hb dX12_endCheck_55 rfl (lv_at hl 1 rfl) ?_
  refine hk_get (ci := 15) (C := RX12) (T := TX12) (N := 92) (v := .int 4) hx hb hts iX12 hown hw 0 rfl rfl 24 (by decide) (hts _ (List.mem_of_getElem? (i := 1) rfl)) (congrArg (fun z => some (Value.int z)) h16) dX12_endCheck_56 ?_
  refine lv_iconst (v := 4) hx hb dX12_endCheck_59 (by decide) ?_
  refine lv_icmp_ne (tgt := 84) hx hb dX12_endCheck_60 (by decide) (fun cc_19 => absurd (by decide) cc_19) (fun _ => ?_)
  refine lv_aload_n hx hb dX12_endCheck_63 rfl (lv_at hl 1 rfl) ?_
  refine hk_get (ci := 15) (C := RX12) (T := TX12) (N := 92) (v := .long (-1)) hx hb hts iX12 hown hw 0 rfl rfl 18 (by decide) (hts _ (List.mem_of_getElem? (i := 7) rfl)) (congrArg (fun z => some (Value.long z)) hL0) dX12_endCheck_64 ?_
  refine lv_ldc2 (v := (-1)) hx hb hown (hts _ (List.mem_of_getElem? (i := 8) rfl)) dX12_endCheck_67 ?_
  refine lv_lxor hx hb dX12_endCheck_70 ?_
  refine hk_topl 0 (by decide +kernel) ?_
  refine lv_bipush (v := 8) hx hb dX12_endCheck_71 (by decide) ?_
  refine lv_iload_n hx hb dX12_endCheck_73 rfl (lv_at hl 0 rfl) ?_
  refine lv_imul hx hb dX12_endCheck_74 ?_
  refine hk_topi 16 (by decide +kernel) ?_
  refine lv_lshr (v := ((0 : Int64) >>> ((16 : Int32).toInt64 &&& 63))) hx hb dX12_endCheck_75 rfl ?_
  refine hk_topl 0 (by decide +kernel) ?_
  refine lv_l2i (v := (0 : Int64).toInt32) hx hb dX12_endCheck_76 rfl ?_
  refine hk_topi 0 (by decide +kernel) ?_
  refine lv_sipush (v := 255) hx hb dX12_endCheck_77 (by decide) ?_
  refine lv_iand hx hb dX12_endCheck_80 ?_
  refine hk_topi 0 (by decide +kernel) ?_
  refine lv_goto (tgt := 106) hx hb dX12_endCheck_81 (by decide) ?_
  refine hk_iast hx hb hw 6 0 rfl rfl (show ¬ (_ ∨ _) by decide) dX12_endCheck_106 (ws' := mw cI cJ ad g lg (va_up ar 5 (upd (upd (upd (ar 5) 0 0) 1 0) 2 0)) bk) rfl (fun H locs hw => ?_)
  refine lv_iinc (v := 3) (lv' := [(1, .int 3), (0, .ref (ad 0))]) hx hb dX12_endCheck_107 hl (k := 0) rfl rfl (by decide) rfl (fun ls hl => ?_)
  refine lv_goto (tgt := 15) hx hb dX12_endCheck_110 (by decide) ?_
  refine lv_iload_n hx hb dX12_endCheck_15 rfl (lv_at hl 0 rfl) ?_
  refine lv_aload_n hx hb dX12_endCheck_16 rfl (lv_at hl 1 rfl) ?_
  refine hk_get (ci := 15) (C := RX12) (T := TX12) (N := 92) (v := .int 4) hx hb hts iX12 hown hw 0 rfl rfl 24 (by decide) (hts _ (List.mem_of_getElem? (i := 1) rfl)) (congrArg (fun z => some (Value.int z)) h16) dX12_endCheck_17 ?_
  refine hk_Si (As := [.int 4]) (rest := [.int 3]) ⟨hx, hb, hml, hown, hts⟩ hw hA (cn_size4 l D cI cJ ad g lg (va_up ar 5 (upd (upd (upd (ar 5) 0 0) 1 0) 2 0)) bk _) (va_cwS 1 hts gw_cn_endCheck4_0 rfl rfl rfl (by decide +kernel) ⟨Nat.le_of_ble_eq_true rfl, Nat.le_of_ble_eq_true rfl⟩) rfl hl.1 rfl (Nat.le_of_ble_eq_true rfl) dX12_endCheck_20 ⟨Nat.le_of_ble_eq_true rfl, Nat.le_of_ble_eq_true rfl⟩ (fun rr_20 uu_21 H locs hp_22 hw => ?_)
  subst hp_22
  have hw : hk_W D [(cI, .int), (cJ, .long)] _ s _ _ (mw cI cJ ad g lg (va_up ar 5 (upd (upd (upd (ar 5) 0 0) 1 0) 2 0)) bk) := hw
  refine lv_icmp_ge (tgt := 113) hx hb dX12_endCheck_23 (by decide) (fun cc_23 => absurd cc_23 (by decide)) (fun _ => ?_)
  refine lv_aload_n hx hb dX12_endCheck_26 rfl (lv_at hl 1 rfl) ?_
  refine hk_get (ci := 15) (C := RX12) (T := TX12) (N := 92) (v := .ref (ad 6)) hx hb hts iX12 hown hw 0 rfl rfl 23 (by decide) (hts _ (List.mem_of_getElem? (i := 6) rfl)) rfl dX12_endCheck_27 ?_
  refine lv_iload_n hx hb dX12_endCheck_30 rfl (lv_at hl 0 rfl) ?_
  refine lv_aload_n hx hb dX12_endCheck_31 rfl (lv_at hl 1 rfl) ?_
  refine hk_get (ci := 15) (C := RX12) (T := TX12) (N := 92) (v := .int 4) hx hb hts iX12 hown hw 0 rfl rfl 24 (by decide) (hts _ (List.mem_of_getElem? (i := 1) rfl)) (congrArg (fun z => some (Value.int z)) h16) dX12_endCheck_32 ?_
  refine lv_iconst (v := 1) hx hb dX12_endCheck_35 (by decide) ?_
  refine lv_icmp_ne (tgt := 55) hx hb dX12_endCheck_36 (by decide) (fun _ => ?_) (fun cc_24 => absurd cc_24 (by decide))
  refine lv_aload_n hx hb dX12_endCheck_55 rfl (lv_at hl 1 rfl) ?_
  refine hk_get (ci := 15) (C := RX12) (T := TX12) (N := 92) (v := .int 4) hx hb hts iX12 hown hw 0 rfl rfl 24 (by decide) (hts _ (List.mem_of_getElem? (i := 1) rfl)) (congrArg (fun z => some (Value.int z)) h16) dX12_endCheck_56 ?_
  refine lv_iconst (v := 4) hx hb dX12_endCheck_59 (by decide) ?_
  refine lv_icmp_ne (tgt := 84) hx hb dX12_endCheck_60 (by decide) (fun cc_25 => absurd (by decide) cc_25) (fun _ => ?_)
  refine lv_aload_n hx hb dX12_endCheck_63 rfl (lv_at hl 1 rfl) ?_
  refine hk_get (ci := 15) (C := RX12) (T := TX12) (N := 92) (v := .long (-1)) hx hb hts iX12 hown hw 0 rfl rfl 18 (by decide) (hts _ (List.mem_of_getElem? (i := 7) rfl)) (congrArg (fun z => some (Value.long z)) hL0) dX12_endCheck_64 ?_
  refine lv_ldc2 (v := (-1)) hx hb hown (hts _ (List.mem_of_getElem? (i := 8) rfl)) dX12_endCheck_67 ?_
  refine lv_lxor hx hb dX12_endCheck_70 ?_
  refine hk_topl 0 (by decide +kernel) ?_
  refine lv_bipush (v := 8) hx hb dX12_endCheck_71 (by decide) ?_
  refine lv_iload_n hx hb dX12_endCheck_73 rfl (lv_at hl 0 rfl) ?_
  refine lv_imul hx hb dX12_endCheck_74 ?_
  refine hk_topi 24 (by decide +kernel) ?_
  refine lv_lshr (v := ((0 : Int64) >>> ((24 : Int32).toInt64 &&& 63))) hx hb dX12_endCheck_75 rfl ?_
  refine hk_topl 0 (by decide +kernel) ?_
  refine lv_l2i (v := (0 : Int64).toInt32) hx hb dX12_endCheck_76 rfl ?_
  refine hk_topi 0 (by decide +kernel) ?_
  refine lv_sipush (v := 255) hx hb dX12_endCheck_77 (by decide) ?_
  refine lv_iand hx hb dX12_endCheck_80 ?_
  refine hk_topi 0 (by decide +kernel) ?_
  refine lv_goto (tgt := 106) hx hb dX12_endCheck_81 (by decide) ?_
  refine hk_iast hx hb hw 6 0 rfl rfl (show ¬ (_ ∨ _) by decide) dX12_endCheck_106 (ws' := mw cI cJ ad g lg (va_up ar 5 (upd (upd (upd (upd (ar 5) 0 0) 1 0) 2 0) 3 0)) bk) rfl (fun H locs hw => ?_)
  refine lv_iinc (v := 4) (lv' := [(1, .int 4), (0, .ref (ad 0))]) hx hb dX12_endCheck_107 hl (k := 0) rfl rfl (by decide) rfl (fun ls hl => ?_)
  refine lv_goto (tgt := 15) hx hb dX12_endCheck_110 (by decide) ?_
  refine lv_iload_n hx hb dX12_endCheck_15 rfl (lv_at hl 0 rfl) ?_
  refine lv_aload_n hx hb dX12_endCheck_16 rfl (lv_at hl 1 rfl) ?_
  refine hk_get (ci := 15) (C := RX12) (T := TX12) (N := 92) (v := .int 4) hx hb hts iX12 hown hw 0 rfl rfl 24 (by decide) (hts _ (List.mem_of_getElem? (i := 1) rfl)) (congrArg (fun z => some (Value.int z)) h16) dX12_endCheck_17 ?_
  refine hk_Si (As := [.int 4]) (rest := [.int 4]) ⟨hx, hb, hml, hown, hts⟩ hw hA (cn_size4 l D cI cJ ad g lg (va_up ar 5 (upd (upd (upd (upd (ar 5) 0 0) 1 0) 2 0) 3 0)) bk _) (va_cwS 1 hts gw_cn_endCheck4_0 rfl rfl rfl (by decide +kernel) ⟨Nat.le_of_ble_eq_true rfl, Nat.le_of_ble_eq_true rfl⟩) rfl hl.1 rfl (Nat.le_of_ble_eq_true rfl) dX12_endCheck_20 ⟨Nat.le_of_ble_eq_true rfl, Nat.le_of_ble_eq_true rfl⟩ (fun rr_26 uu_27 H locs hp_28 hw => ?_)
  subst hp_28
  have hw : hk_W D [(cI, .int), (cJ, .long)] _ s _ _ (mw cI cJ ad g lg (va_up ar 5 (upd (upd (upd (upd (ar 5) 0 0) 1 0) 2 0) 3 0)) bk) := hw
  refine lv_icmp_ge (tgt := 113) hx hb dX12_endCheck_23 (by decide) (fun cc_29 => absurd cc_29 (by decide)) (fun _ => ?_)
  refine lv_aload_n hx hb dX12_endCheck_26 rfl (lv_at hl 1 rfl) ?_
  refine hk_get (ci := 15) (C := RX12) (T := TX12) (N := 92) (v := .ref (ad 6)) hx hb hts iX12 hown hw 0 rfl rfl 23 (by decide) (hts _ (List.mem_of_getElem? (i := 6) rfl)) rfl dX12_endCheck_27 ?_
  refine lv_iload_n hx hb dX12_endCheck_30 rfl (lv_at hl 0 rfl) ?_
  refine lv_aload_n hx hb dX12_endCheck_31 rfl (lv_at hl 1 rfl) ?_
  refine hk_get (ci := 15) (C := RX12) (T := TX12) (N := 92) (v := .int 4) hx hb hts iX12 hown hw 0 rfl rfl 24 (by decide) (hts _ (List.mem_of_getElem? (i := 1) rfl)) (congrArg (fun z => some (Value.int z)) h16) dX12_endCheck_32 ?_
  refine lv_iconst (v := 1) hx hb dX12_endCheck_35 (by decide) ?_
  refine lv_icmp_ne (tgt := 55) hx hb dX12_endCheck_36 (by decide) (fun _ => ?_) (fun cc_30 => absurd cc_30 (by decide))
  refine lv_aload_n hx hb dX12_endCheck_55 rfl (lv_at hl 1 rfl) ?_
  refine hk_get (ci := 15) (C := RX12) (T := TX12) (N := 92) (v := .int 4) hx hb hts iX12 hown hw 0 rfl rfl 24 (by decide) (hts _ (List.mem_of_getElem? (i := 1) rfl)) (congrArg (fun z => some (Value.int z)) h16) dX12_endCheck_56 ?_
  refine lv_iconst (v := 4) hx hb dX12_endCheck_59 (by decide) ?_
  refine lv_icmp_ne (tgt := 84) hx hb dX12_endCheck_60 (by decide) (fun cc_31 => absurd (by decide) cc_31) (fun _ => ?_)
  refine lv_aload_n hx hb dX12_endCheck_63 rfl (lv_at hl 1 rfl) ?_
  refine hk_get (ci := 15) (C := RX12) (T := TX12) (N := 92) (v := .long (-1)) hx hb hts iX12 hown hw 0 rfl rfl 18 (by decide) (hts _ (List.mem_of_getElem? (i := 7) rfl)) (congrArg (fun z => some (Value.long z)) hL0) dX12_endCheck_64 ?_
  refine lv_ldc2 (v := (-1)) hx hb hown (hts _ (List.mem_of_getElem? (i := 8) rfl)) dX12_endCheck_67 ?_
  refine lv_lxor hx hb dX12_endCheck_70 ?_
  refine hk_topl 0 (by decide +kernel) ?_
  refine lv_bipush (v := 8) hx hb dX12_endCheck_71 (by decide) ?_
  refine lv_iload_n hx hb dX12_endCheck_73 rfl (lv_at hl 0 rfl) ?_
  refine lv_imul hx hb dX12_endCheck_74 ?_
  refine hk_topi 32 (by decide +kernel) ?_
  refine lv_lshr (v := ((0 : Int64) >>> ((32 : Int32).toInt64 &&& 63))) hx hb dX12_endCheck_75 rfl ?_
  refine hk_topl 0 (by decide +kernel) ?_
  refine lv_l2i (v := (0 : Int64).toInt32) hx hb dX12_endCheck_76 rfl ?_
  refine hk_topi 0 (by decide +kernel) ?_
  refine lv_sipush (v := 255) hx hb dX12_endCheck_77 (by decide) ?_
  refine lv_iand hx hb dX12_endCheck_80 ?_
  refine hk_topi 0 (by decide +kernel) ?_
  refine lv_goto (tgt := 106) hx hb dX12_endCheck_81 (by decide) ?_
  refine hk_iast hx hb hw 6 0 rfl rfl (show ¬ (_ ∨ _) by decide) dX12_endCheck_106 (ws' := mw cI cJ ad g lg (va_up ar 5 (upd (upd (upd (upd (upd (ar 5) 0 0) 1 0) 2 0) 3 0) 4 0)) bk) rfl (fun H locs hw => ?_)
  refine lv_iinc (v := 5) (lv' := [(1, .int 5), (0, .ref (ad 0))]) hx hb dX12_endCheck_107 hl (k := 0) rfl rfl (by decide) rfl (fun ls hl => ?_)
  refine lv_goto (tgt := 15) hx hb dX12_endCheck_110 (by decide) ?_
  refine lv_iload_n hx hb dX12_endCheck_15 rfl (lv_at hl 0 rfl) ?_
  refine lv_aload_n hx hb dX12_endCheck_16 rfl (lv_at hl 1 rfl) ?_
  refine hk_get (ci := 15) (C := RX12) (T := TX12) (N := 92) (v := .int 4) hx hb hts iX12 hown hw 0 rfl rfl 24 (by decide) (hts _ (List.mem_of_getElem? (i := 1) rfl)) (congrArg (fun z => some (Value.int z)) h16) dX12_endCheck_17 ?_
  refine hk_Si (As := [.int 4]) (rest := [.int 5]) ⟨hx, hb, hml, hown, hts⟩ hw hA (cn_size4 l D cI cJ ad g lg (va_up ar 5 (upd (upd (upd (upd (upd (ar 5) 0 0) 1 0) 2 0) 3 0) 4 0)) bk _) (va_cwS 1 hts gw_cn_endCheck4_0 rfl rfl rfl (by decide +kernel) ⟨Nat.le_of_ble_eq_true rfl, Nat.le_of_ble_eq_true rfl⟩) rfl hl.1 rfl (Nat.le_of_ble_eq_true rfl) dX12_endCheck_20 ⟨Nat.le_of_ble_eq_true rfl, Nat.le_of_ble_eq_true rfl⟩ (fun rr_32 uu_33 H locs hp_34 hw => ?_)
  subst hp_34
  have hw : hk_W D [(cI, .int), (cJ, .long)] _ s _ _ (mw cI cJ ad g lg (va_up ar 5 (upd (upd (upd (upd (upd (ar 5) 0 0) 1 0) 2 0) 3 0) 4 0)) bk) := hw
  refine lv_icmp_ge (tgt := 113) hx hb dX12_endCheck_23 (by decide) (fun cc_35 => absurd cc_35 (by decide)) (fun _ => ?_)
  refine lv_aload_n hx hb dX12_endCheck_26 rfl (lv_at hl 1 rfl) ?_
  refine hk_get (ci := 15) (C := RX12) (T := TX12) (N := 92) (v := .ref (ad 6)) hx hb hts iX12 hown hw 0 rfl rfl 23 (by decide) (hts _ (List.mem_of_getElem? (i := 6) rfl)) rfl dX12_endCheck_27 ?_
  refine lv_iload_n hx hb dX12_endCheck_30 rfl (lv_at hl 0 rfl) ?_
  refine lv_aload_n hx hb dX12_endCheck_31 rfl (lv_at hl 1 rfl) ?_
  refine hk_get (ci := 15) (C := RX12) (T := TX12) (N := 92) (v := .int 4) hx hb hts iX12 hown hw 0 rfl rfl 24 (by decide) (hts _ (List.mem_of_getElem? (i := 1) rfl)) (congrArg (fun z => some (Value.int z)) h16) dX12_endCheck_32 ?_
  refine lv_iconst (v := 1) hx hb dX12_endCheck_35 (by decide) ?_
  refine lv_icmp_ne (tgt := 55) hx hb dX12_endCheck_36 (by decide) (fun _ => ?_) (fun cc_36 => absurd cc_36 (by decide))
  refine lv_aload_n hx hb dX12_endCheck_55 rfl (lv_at hl 1 rfl) ?_
  refine hk_get (ci := 15) (C := RX12) (T := TX12) (N := 92) (v := .int 4) hx hb hts iX12 hown hw 0 rfl rfl 24 (by decide) (hts _ (List.mem_of_getElem? (i := 1) rfl)) (congrArg (fun z => some (Value.int z)) h16) dX12_endCheck_56 ?_
  refine lv_iconst (v := 4) hx hb dX12_endCheck_59 (by decide) ?_
  refine lv_icmp_ne (tgt := 84) hx hb dX12_endCheck_60 (by decide) (fun cc_37 => absurd (by decide) cc_37) (fun _ => ?_)
  refine lv_aload_n hx hb dX12_endCheck_63 rfl (lv_at hl 1 rfl) ?_
  refine hk_get (ci := 15) (C := RX12) (T := TX12) (N := 92) (v := .long (-1)) hx hb hts iX12 hown hw 0 rfl rfl 18 (by decide) (hts _ (List.mem_of_getElem? (i := 7) rfl)) (congrArg (fun z => some (Value.long z)) hL0) dX12_endCheck_64 ?_
  refine lv_ldc2 (v := (-1)) hx hb hown (hts _ (List.mem_of_getElem? (i := 8) rfl)) dX12_endCheck_67 ?_
  refine lv_lxor hx hb dX12_endCheck_70 ?_
  refine hk_topl 0 (by decide +kernel) ?_
  refine lv_bipush (v := 8) hx hb dX12_endCheck_71 (by decide) ?_
  refine lv_iload_n hx hb dX12_endCheck_73 rfl (lv_at hl 0 rfl) ?_
  refine lv_imul hx hb dX12_endCheck_74 ?_
  refine hk_topi 40 (by decide +kernel) ?_
  refine lv_lshr (v := ((0 : Int64) >>> ((40 : Int32).toInt64 &&& 63))) hx hb dX12_endCheck_75 rfl ?_
  refine hk_topl 0 (by decide +kernel) ?_
  refine lv_l2i (v := (0 : Int64).toInt32) hx hb dX12_endCheck_76 rfl ?_
  refine hk_topi 0 (by decide +kernel) ?_
  refine lv_sipush (v := 255) hx hb dX12_endCheck_77 (by decide) ?_
  refine lv_iand hx hb dX12_endCheck_80 ?_
  refine hk_topi 0 (by decide +kernel) ?_
  refine lv_goto (tgt := 106) hx hb dX12_endCheck_81 (by decide) ?_
  refine hk_iast hx hb hw 6 0 rfl rfl (show ¬ (_ ∨ _) by decide) dX12_endCheck_106 (ws' := mw cI cJ ad g lg (va_up ar 5 (upd (upd (upd (upd (upd (upd (ar 5) 0 0) 1 0) 2 0) 3 0) 4 0) 5 0)) bk) rfl (fun H locs hw => ?_)
  refine lv_iinc (v := 6) (lv' := [(1, .int 6), (0, .ref (ad 0))]) hx hb dX12_endCheck_107 hl (k := 0) rfl rfl (by decide) rfl (fun ls hl => ?_)
  refine lv_goto (tgt := 15) hx hb dX12_endCheck_110 (by decide) ?_
  refine lv_iload_n hx hb dX12_endCheck_15 rfl (lv_at hl 0 rfl) ?_
  refine lv_aload_n hx hb dX12_endCheck_16 rfl (lv_at hl 1 rfl) ?_
  refine hk_get (ci := 15) (C := RX12) (T := TX12) (N := 92) (v := .int 4) hx hb hts iX12 hown hw 0 rfl rfl 24 (by decide) (hts _ (List.mem_of_getElem? (i := 1) rfl)) (congrArg (fun z => some (Value.int z)) h16) dX12_endCheck_17 ?_
  refine hk_Si (As := [.int 4]) (rest := [.int 6]) ⟨hx, hb, hml, hown, hts⟩ hw hA (cn_size4 l D cI cJ ad g lg (va_up ar 5 (upd (upd (upd (upd (upd (upd (ar 5) 0 0) 1 0) 2 0) 3 0) 4 0) 5 0)) bk _) (va_cwS 1 hts gw_cn_endCheck4_0 rfl rfl rfl (by decide +kernel) ⟨Nat.le_of_ble_eq_true rfl, Nat.le_of_ble_eq_true rfl⟩) rfl hl.1 rfl (Nat.le_of_ble_eq_true rfl) dX12_endCheck_20 ⟨Nat.le_of_ble_eq_true rfl, Nat.le_of_ble_eq_true rfl⟩ (fun rr_38 uu_39 H locs hp_40 hw => ?_)
  subst hp_40
  have hw : hk_W D [(cI, .int), (cJ, .long)] _ s _ _ (mw cI cJ ad g lg (va_up ar 5 (upd (upd (upd (upd (upd (upd (ar 5) 0 0) 1 0) 2 0) 3 0) 4 0) 5 0)) bk) := hw
  refine lv_icmp_ge (tgt := 113) hx hb dX12_endCheck_23 (by decide) (fun cc_41 => absurd cc_41 (by decide)) (fun _ => ?_)
  refine lv_aload_n hx hb dX12_endCheck_26 rfl (lv_at hl 1 rfl) ?_
  refine hk_get (ci := 15) (C := RX12) (T := TX12) (N := 92) (v := .ref (ad 6)) hx hb hts iX12 hown hw 0 rfl rfl 23 (by decide) (hts _ (List.mem_of_getElem? (i := 6) rfl)) rfl dX12_endCheck_27 ?_
  refine lv_iload_n hx hb dX12_endCheck_30 rfl (lv_at hl 0 rfl) ?_
  refine lv_aload_n hx hb dX12_endCheck_31 rfl (lv_at hl 1 rfl) ?_
  refine hk_get (ci := 15) (C := RX12) (T := TX12) (N := 92) (v := .int 4) hx hb hts iX12 hown hw 0 rfl rfl 24 (by decide) (hts _ (List.mem_of_getElem? (i := 1) rfl)) (congrArg (fun z => some (Value.int z)) h16) dX12_endCheck_32 ?_
  refine lv_iconst (v := 1) hx hb dX12_endCheck_35 (by decide) ?_
  refine lv_icmp_ne (tgt := 55) hx hb dX12_endCheck_36 (by decide) (fun _ => ?_) (fun cc_42 => absurd cc_42 (by decide))
  refine lv_aload_n hx hb dX12_endCheck_55 rfl (lv_at hl 1 rfl) ?_
  refine hk_get (ci := 15) (C := RX12) (T := TX12) (N := 92) (v := .int 4) hx hb hts iX12 hown hw 0 rfl rfl 24 (by decide) (hts _ (List.mem_of_getElem? (i := 1) rfl)) (congrArg (fun z => some (Value.int z)) h16) dX12_endCheck_56 ?_
  refine lv_iconst (v := 4) hx hb dX12_endCheck_59 (by decide) ?_
  refine lv_icmp_ne (tgt := 84) hx hb dX12_endCheck_60 (by decide) (fun cc_43 => absurd (by decide) cc_43) (fun _ => ?_)
  refine lv_aload_n hx hb dX12_endCheck_63 rfl (lv_at hl 1 rfl) ?_
  refine hk_get (ci := 15) (C := RX12) (T := TX12) (N := 92) (v := .long (-1)) hx hb hts iX12 hown hw 0 rfl rfl 18 (by decide) (hts _ (List.mem_of_getElem? (i := 7) rfl)) (congrArg (fun z => some (Value.long z)) hL0) dX12_endCheck_64 ?_
  refine lv_ldc2 (v := (-1)) hx hb hown (hts _ (List.mem_of_getElem? (i := 8) rfl)) dX12_endCheck_67 ?_
  refine lv_lxor hx hb dX12_endCheck_70 ?_
  refine hk_topl 0 (by decide +kernel) ?_
  refine lv_bipush (v := 8) hx hb dX12_endCheck_71 (by decide) ?_
  refine lv_iload_n hx hb dX12_endCheck_73 rfl (lv_at hl 0 rfl) ?_
  refine lv_imul hx hb dX12_endCheck_74 ?_
  refine hk_topi 48 (by decide +kernel) ?_
  refine lv_lshr (v := ((0 : Int64) >>> ((48 : Int32).toInt64 &&& 63))) hx hb dX12_endCheck_75 rfl ?_
  refine hk_topl 0 (by decide +kernel) ?_
  refine lv_l2i (v := (0 : Int64).toInt32) hx hb dX12_endCheck_76 rfl ?_
  refine hk_topi 0 (by decide +kernel) ?_
  refine lv_sipush (v := 255) hx hb dX12_endCheck_77 (by decide) ?_
  refine lv_iand hx hb dX12_endCheck_80 ?_
  refine hk_topi 0 (by decide +kernel) ?_
  refine lv_goto (tgt := 106) hx hb dX12_endCheck_81 (by decide) ?_
  refine hk_iast hx hb hw 6 0 rfl rfl (show ¬ (_ ∨ _) by decide) dX12_endCheck_106 (ws' := mw cI cJ ad g lg (va_up ar 5 (upd (upd (upd (upd (upd (upd (upd (ar 5) 0 0) 1 0) 2 0) 3 0) 4 0) 5 0) 6 0)) bk) rfl (fun H locs hw => ?_)
  refine lv_iinc (v := 7) (lv' := [(1, .int 7), (0, .ref (ad 0))]) hx hb dX12_endCheck_107 hl (k := 0) rfl rfl (by decide) rfl (fun ls hl => ?_)
  refine lv_goto (tgt := 15) hx hb dX12_endCheck_110 (by decide) ?_
  refine lv_iload_n hx hb dX12_endCheck_15 rfl (lv_at hl 0 rfl) ?_
  refine lv_aload_n hx hb dX12_endCheck_16 rfl (lv_at hl 1 rfl) ?_
  refine hk_get (ci := 15) (C := RX12) (T := TX12) (N := 92) (v := .int 4) hx hb hts iX12 hown hw 0 rfl rfl 24 (by decide) (hts _ (List.mem_of_getElem? (i := 1) rfl)) (congrArg (fun z => some (Value.int z)) h16) dX12_endCheck_17 ?_
  refine hk_Si (As := [.int 4]) (rest := [.int 7]) ⟨hx, hb, hml, hown, hts⟩ hw hA (cn_size4 l D cI cJ ad g lg (va_up ar 5 (upd (upd (upd (upd (upd (upd (upd (ar 5) 0 0) 1 0) 2 0) 3 0) 4 0) 5 0) 6 0)) bk _) (va_cwS 1 hts gw_cn_endCheck4_0 rfl rfl rfl (by decide +kernel) ⟨Nat.le_of_ble_eq_true rfl, Nat.le_of_ble_eq_true rfl⟩) rfl hl.1 rfl (Nat.le_of_ble_eq_true rfl) dX12_endCheck_20 ⟨Nat.le_of_ble_eq_true rfl, Nat.le_of_ble_eq_true rfl⟩ (fun rr_44 uu_45 H locs hp_46 hw => ?_)
  subst hp_46
  have hw : hk_W D [(cI, .int), (cJ, .long)] _ s _ _ (mw cI cJ ad g lg (va_up ar 5 (upd (upd (upd (upd (upd (upd (upd (ar 5) 0 0) 1 0) 2 0) 3 0) 4 0) 5 0) 6 0)) bk) := hw
  refine lv_icmp_ge (tgt := 113) hx hb dX12_endCheck_23 (by decide) (fun cc_47 => absurd cc_47 (by decide)) (fun _ => ?_)
  refine lv_aload_n hx hb dX12_endCheck_26 rfl (lv_at hl 1 rfl) ?_
  refine hk_get (ci := 15) (C := RX12) (T := TX12) (N := 92) (v := .ref (ad 6)) hx hb hts iX12 hown hw 0 rfl rfl 23 (by decide) (hts _ (List.mem_of_getElem? (i := 6) rfl)) rfl dX12_endCheck_27 ?_
  refine lv_iload_n hx hb dX12_endCheck_30 rfl (lv_at hl 0 rfl) ?_
  refine lv_aload_n hx hb dX12_endCheck_31 rfl (lv_at hl 1 rfl) ?_
  refine hk_get (ci := 15) (C := RX12) (T := TX12) (N := 92) (v := .int 4) hx hb hts iX12 hown hw 0 rfl rfl 24 (by decide) (hts _ (List.mem_of_getElem? (i := 1) rfl)) (congrArg (fun z => some (Value.int z)) h16) dX12_endCheck_32 ?_
  refine lv_iconst (v := 1) hx hb dX12_endCheck_35 (by decide) ?_
  refine lv_icmp_ne (tgt := 55) hx hb dX12_endCheck_36 (by decide) (fun _ => ?_) (fun cc_48 => absurd cc_48 (by decide))
  refine lv_aload_n hx hb dX12_endCheck_55 rfl (lv_at hl 1 rfl) ?_
  refine hk_get (ci := 15) (C := RX12) (T := TX12) (N := 92) (v := .int 4) hx hb hts iX12 hown hw 0 rfl rfl 24 (by decide) (hts _ (List.mem_of_getElem? (i := 1) rfl)) (congrArg (fun z => some (Value.int z)) h16) dX12_endCheck_56 ?_
  refine lv_iconst (v := 4) hx hb dX12_endCheck_59 (by decide) ?_
  refine lv_icmp_ne (tgt := 84) hx hb dX12_endCheck_60 (by decide) (fun cc_49 => absurd (by decide) cc_49) (fun _ => ?_)
  refine lv_aload_n hx hb dX12_endCheck_63 rfl (lv_at hl 1 rfl) ?_
  refine hk_get (ci := 15) (C := RX12) (T := TX12) (N := 92) (v := .long (-1)) hx hb hts iX12 hown hw 0 rfl rfl 18 (by decide) (hts _ (List.mem_of_getElem? (i := 7) rfl)) (congrArg (fun z => some (Value.long z)) hL0) dX12_endCheck_64 ?_
  refine lv_ldc2 (v := (-1)) hx hb hown (hts _ (List.mem_of_getElem? (i := 8) rfl)) dX12_endCheck_67 ?_
  refine lv_lxor hx hb dX12_endCheck_70 ?_
  refine hk_topl 0 (by decide +kernel) ?_
  refine lv_bipush (v := 8) hx hb dX12_endCheck_71 (by decide) ?_
  refine lv_iload_n hx hb dX12_endCheck_73 rfl (lv_at hl 0 rfl) ?_
  refine lv_imul hx hb dX12_endCheck_74 ?_
  refine hk_topi 56 (by decide +kernel) ?_
  refine lv_lshr (v := ((0 : Int64) >>> ((56 : Int32).toInt64 &&& 63))) hx hb dX12_endCheck_75 rfl ?_
  refine hk_topl 0 (by decide +kernel) ?_
  refine lv_l2i (v := (0 : Int64).toInt32) hx hb dX12_endCheck_76 rfl ?_
  refine hk_topi 0 (by decide +kernel) ?_
  refine lv_sipush (v := 255) hx hb dX12_endCheck_77 (by decide) ?_
  refine lv_iand hx hb dX12_endCheck_80 ?_
  refine hk_topi 0 (by decide +kernel) ?_
  refine lv_goto (tgt := 106) hx hb dX12_endCheck_81 (by decide) ?_
  refine hk_iast hx hb hw 6 0 rfl rfl (show ¬ (_ ∨ _) by decide) dX12_endCheck_106 (ws' := mw cI cJ ad g lg (va_up ar 5 (upd (upd (upd (upd (upd (upd (upd (upd (ar 5) 0 0) 1 0) 2 0) 3 0) 4 0) 5 0) 6 0) 7 0)) bk) rfl (fun H locs hw => ?_)
  refine lv_iinc (v := 8) (lv' := [(1, .int 8), (0, .ref (ad 0))]) hx hb dX12_endCheck_107 hl (k := 0) rfl rfl (by decide) rfl (fun ls hl => ?_)
  refine lv_goto (tgt := 15) hx hb dX12_endCheck_110 (by decide) ?_
  refine lv_iload_n hx hb dX12_endCheck_15 rfl (lv_at hl 0 rfl) ?_
  refine lv_aload_n hx hb dX12_endCheck_16 rfl (lv_at hl 1 rfl) ?_
  refine hk_get (ci := 15) (C := RX12) (T := TX12) (N := 92) (v := .int 4) hx hb hts iX12 hown hw 0 rfl rfl 24 (by decide) (hts _ (List.mem_of_getElem? (i := 1) rfl)) (congrArg (fun z => some (Value.int z)) h16) dX12_endCheck_17 ?_
  refine hk_Si (As := [.int 4]) (rest := [.int 8]) ⟨hx, hb, hml, hown, hts⟩ hw hA (cn_size4 l D cI cJ ad g lg (va_up ar 5 (upd (upd (upd (upd (upd (upd (upd (upd (ar 5) 0 0) 1 0) 2 0) 3 0) 4 0) 5 0) 6 0) 7 0)) bk _) (va_cwS 1 hts gw_cn_endCheck4_0 rfl rfl rfl (by decide +kernel) ⟨Nat.le_of_ble_eq_true rfl, Nat.le_of_ble_eq_true rfl⟩) rfl hl.1 rfl (Nat.le_of_ble_eq_true rfl) dX12_endCheck_20 ⟨Nat.le_of_ble_eq_true rfl, Nat.le_of_ble_eq_true rfl⟩ (fun rr_50 uu_51 H locs hp_52 hw => ?_)
  subst hp_52
  have hw : hk_W D [(cI, .int), (cJ, .long)] _ s _ _ (mw cI cJ ad g lg (va_up ar 5 (upd (upd (upd (upd (upd (upd (upd (upd (ar 5) 0 0) 1 0) 2 0) 3 0) 4 0) 5 0) 6 0) 7 0)) bk) := hw
  refine lv_icmp_ge (tgt := 113) hx hb dX12_endCheck_23 (by decide) (fun _ => ?_) (fun cc_53 => absurd (by decide) cc_53)
  exact hk_vret (u := (upd (upd (upd (upd (upd (upd (upd (upd (ar 5) 0 0) 1 0) 2 0) 3 0) 4 0) 5 0) 6 0) 7 0)) hx hb hr hlocks (hw) (fun j hj => by match j, hj with | 0, _ => rfl | 1, _ => rfl | 2, _ => rfl | 3, _ => rfl | 4, _ => rfl | 5, _ => rfl | 6, _ => rfl | 7, _ => rfl) dX12_endCheck_113

def ww_cn_endCheck10 : List Cond := Cond.code yX12_endCheck cX12_endCheck 2 none :: ([Cond.fieldLink RX12 171 "LzmaChainsModel" "checkNow" "I", Cond.methodLink RX12 188 yX12_endSha, Cond.instanceMethod yX12_endSha, Cond.selects RX12 yX12_endSha yX12_endSha, Cond.initialized RX12, Cond.code yX12_endSha cX12_endSha 4 none, Cond.fieldLink RX12 152 "LzmaChainsModel" "shaAll" "J", Cond.methodLink RX12 167 yX12_addSha, Cond.instanceMethod yX12_addSha, Cond.selects RX12 yX12_addSha yX12_addSha, Cond.code yX12_addSha cX12_addSha 3 none, Cond.fieldLink RX12 149 "LzmaChainsModel" "shaFilled" "I", Cond.fieldLink RX12 41 "LzmaChainsModel" "shaRow" "[I", Cond.constantLong RX12 155 8, Cond.methodLink RX12 157 yX12_mixSha, Cond.instanceMethod yX12_mixSha, Cond.selects RX12 yX12_mixSha yX12_mixSha, Cond.code yX12_mixSha cX12_mixSha 12 none, Cond.fieldLink RX12 38 "LzmaChainsModel" "sha" "[I", Cond.methodLink RX12 160 yX12_turned, Cond.static yX12_turned, Cond.code yX12_turned cX12_turned 2 (some .int), Cond.fieldLink RX12 164 "LzmaChainsModel" "ROUND" "[I", Cond.methodLink RX12 191 yX12_checkSize, Cond.static yX12_checkSize, Cond.code yX12_checkSize cX12_checkSize 1 (some .int), Cond.fieldLink RX12 44 "LzmaChainsModel" "checkByte" "[I"] ++ (wsX120 ++ ([])))
set_option maxRecDepth 20000 in
theorem gw_cn_endCheck10_0 : GoodIn ww_cn_endCheck10 (wsV RX12 188 RX12 yX12_endSha ww_cn_endSha) := goodIn_r _ [2, 3, 4, 5, 6, 7, 8, 9, 10, 5, 11, 12, 13, 14, 15, 16, 17, 18, 19, 20, 21, 22, 23, 28, 29, 30, 31, 32, 33, 34, 35, 36, 37, 38, 39, 40, 41, 42, 43, 44, 45, 46, 47, 48, 49, 50, 51, 52, 53, 54, 55, 56, 57, 58, 59, 60, 61, 62, 63, 64, 65, 66, 67, 68, 69, 70, 71, 72, 73, 74, 75, 76, 77, 78, 79, 80, 81, 82, 83, 84, 85, 86, 87, 88, 89, 90, 91, 92, 93, 94, 95, 96, 97, 98, 99, 100, 101, 102, 103, 104, 105, 106, 107, 108, 109, 110, 111, 112, 113, 114, 115, 116, 117, 118, 119] rfl (by decide +kernel)
set_option maxRecDepth 20000 in
theorem gw_cn_endCheck10_1 : GoodIn ww_cn_endCheck10 (va_wsS RX12 191 yX12_checkSize ww_cn_size10) := goodIn_r _ [24, 25, 5, 26] rfl (by decide +kernel)
set_option maxHeartbeats 4000000 in
set_option maxRecDepth 100000 in
/-- the reference: endCheck, SHA-256 of nothing -/
theorem cn_endCheck10 (l : Launch) (t3 : Nat × Nat × Nat) (D : va_G) (cI cJ : ClassId) (ad : Nat → Nat) (g : Nat → Int32) (lg : Nat → Int64) (ar : Nat → Nat → Int32) (bk : Nat → Int64) (sz : Nat) (hc : g 16 = 10) (hf : g 15 = 0) (hq : lg 1 = 0) (h8 : ∀ j, j < 8 → ar 3 j = hs_H j) : Met l yX12_endCheck ww_cn_endCheck10 { frames := 4, cells := 0, slots := 0, locals := 97 } (va_Pc [.ref (ad 0)] (hk_BY t3 D [(cI, .int), (cJ, .long)] sz (mw cI cJ ad g lg ar bk))) (va_Qv (fun u : (Nat → Int32) × (Nat → Int32) × Int64 × (Nat → Int32) => ∀ j, j < 32 → u.2.2.2 j = hs_B j) (fun u : (Nat → Int32) × (Nat → Int32) × Int64 × (Nat → Int32) => hk_E D [(cI, .int), (cJ, .long)] (va_A (mw cI cJ ad g lg ar bk) sz) (mw cI cJ ad (upd g 15 0) (vp_updL lg 1 u.2.2.1) (va_up (va_up (va_up ar 4 u.2.1) 3 u.1) 5 u.2.2.2) bk)) (va_A (mw cI cJ ad g lg ar bk) sz)) 0 0 (va_A (mw cI cJ ad g lg ar bk) sz) := by
  refine hk_smet (t3 := t3) (cc := cX12_endCheck) (maxL := 2) (ret := none) (by decide) rfl (Nat.le_of_ble_eq_true rfl) ?_
  intro p e s m below meth c ls hx hb hr hml hown hts hlocks hin hA hZ hw hl
  have iX12 : ∀ w ∈ wsX120, w ∈ ww_cn_endCheck10 := fun _ h => List.mem_cons_of_mem _ (List.mem_append_right _ (List.mem_append_left _ h))
  have hl : lv_has ls 2 [(0, .ref (ad 0))] := hl
  refine lv_aload_n hx hb dX12_endCheck_0 rfl (lv_at hl 0 rfl) ?_
  refine hk_get (ci := 15) (C := RX12) (T := TX12) (N := 92) (v := .int 10) hx hb hts iX12 hown hw 0 rfl rfl 24 (by decide) (hts _ (List.mem_of_getElem? (i := 1) rfl)) (congrArg (fun z => some (Value.int z)) hc) dX12_endCheck_1 ?_
  refine lv_bipush (v := 10) hx hb dX12_endCheck_4 (by decide) ?_
  refine lv_icmp_ne (tgt := 13) hx hb dX12_endCheck_6 (by decide) (fun cc_1 => absurd (by decide) cc_1) (fun _ => ?_)
  refine lv_aload_n hx hb dX12_endCheck_9 rfl (lv_at hl 0 rfl) ?_
  refine hk_ZVv (As := []) (rest := []) ⟨hx, hb, hml, hown, hts⟩ hZ hw hA (cn_endSha l t3 D cI cJ ad g lg ar bk _ hf hq h8) (cwV 0 hts gw_cn_endCheck10_0 rfl rfl rfl (by decide +kernel) ⟨Nat.le_of_ble_eq_true rfl, Nat.le_of_ble_eq_true rfl⟩) 0 (ci := 15) (T := TX12) (N := 92) rfl rfl rfl hl.1 rfl (Nat.le_of_ble_eq_true rfl) dX12_endCheck_10 ⟨Nat.le_of_ble_eq_true rfl, Nat.le_of_ble_eq_true rfl⟩ (fun uu_3 H locs hp_4 hw => ?_)
  have hO := hp_4
  have hw : hk_W D [(cI, .int), (cJ, .long)] _ s _ _ (mw cI cJ ad (upd g 15 0) (vp_updL lg 1 uu_3.2.2) (va_up (va_up ar 4 uu_3.2.1) 3 uu_3.1) bk) := hw
  refine lv_iconst (v := 0) hx hb dX12_endCheck_13 (by decide) ?_
  refine lv_istore_n (lv' := [(1, .int 0), (0, .ref (ad 0))]) hx hb dX12_endCheck_14 rfl hl (by decide) rfl (fun ls hl => ?_)
  have loop_6 : ∀ (ki i : Nat) (jj_5 : Nat → Int32) (ls : Array Slot) (H : Heap) (locs : List Loc), i + ki = 32 → (∀ j, j < i → jj_5 j = hs_B j) → hk_W D [(cI, .int), (cJ, .long)] (va_A (mw cI cJ ad g lg ar bk) sz) s H locs (mw cI cJ ad (upd g 15 0) (vp_updL lg 1 uu_3.2.2) (va_up (va_up (va_up ar 4 uu_3.2.1) 3 uu_3.1) 5 jj_5) bk) → lv_has ls 2 [(1, .int (nI i)), (0, .ref (ad 0))] → W p l e { frames := 4, cells := 0, slots := 0, locals := 97 } s m (List.toArray [.ref (ad 0)]) below meth c H locs 0 0 (MQ below (va_Qv (fun u : (Nat → Int32) × (Nat → Int32) × Int64 × (Nat → Int32) => ∀ j, j < 32 → u.2.2.2 j = hs_B j) (fun u : (Nat → Int32) × (Nat → Int32) × Int64 × (Nat → Int32) => hk_E D [(cI, .int), (cJ, .long)] (va_A (mw cI cJ ad g lg ar bk) sz) (mw cI cJ ad (upd g 15 0) (vp_updL lg 1 u.2.2.1) (va_up (va_up (va_up ar 4 u.2.1) 3 u.1) 5 u.2.2.2) bk)) (va_A (mw cI cJ ad g lg ar bk) sz)) (List.toArray [.ref (ad 0)]) s 0 0 (va_A (mw cI cJ ad g lg ar bk) sz)) (F0 m 15 ls []) := by
    intro ki
    induction ki with
    | zero =>
      intro i jj_5 ls H locs hik hB hw hl
      refine lv_iload_n hx hb dX12_endCheck_15 rfl (lv_at hl 0 rfl) ?_
      refine lv_aload_n hx hb dX12_endCheck_16 rfl (lv_at hl 1 rfl) ?_
      refine hk_get (ci := 15) (C := RX12) (T := TX12) (N := 92) (v := .int 10) hx hb hts iX12 hown hw 0 rfl rfl 24 (by decide) (hts _ (List.mem_of_getElem? (i := 1) rfl)) (congrArg (fun z => some (Value.int z)) hc) dX12_endCheck_17 ?_
      refine hk_Si (As := [.int 10]) (rest := [.int (nI i)]) ⟨hx, hb, hml, hown, hts⟩ hw hA (cn_size10 l D cI cJ ad (upd g 15 0) (vp_updL lg 1 uu_3.2.2) (va_up (va_up (va_up ar 4 uu_3.2.1) 3 uu_3.1) 5 jj_5) bk _) (va_cwS 1 hts gw_cn_endCheck10_1 rfl rfl rfl (by decide +kernel) ⟨Nat.le_of_ble_eq_true rfl, Nat.le_of_ble_eq_true rfl⟩) rfl hl.1 rfl (Nat.le_of_ble_eq_true rfl) dX12_endCheck_20 ⟨Nat.le_of_ble_eq_true rfl, Nat.le_of_ble_eq_true rfl⟩ (fun rr_7 uu_8 H locs hp_9 hw => ?_)
      subst hp_9
      have hw : hk_W D [(cI, .int), (cJ, .long)] _ s _ _ (mw cI cJ ad (upd g 15 0) (vp_updL lg 1 uu_3.2.2) (va_up (va_up (va_up ar 4 uu_3.2.1) 3 uu_3.1) 5 jj_5) bk) := hw
      refine lv_icmp_ge (tgt := 113) hx hb dX12_endCheck_23 (by decide) (fun _ => ?_) (fun cc_10 => absurd (hk_le (a := 32) (b := i) (by omega) (by omega)) cc_10)
      exact hk_vret (u := (uu_3.1, uu_3.2.1, uu_3.2.2, jj_5)) hx hb hr hlocks (show hk_W D [(cI, .int), (cJ, .long)] _ s _ _ (mw cI cJ ad (upd g 15 0) (vp_updL lg 1 ((uu_3.1, uu_3.2.1, uu_3.2.2, jj_5).2.2.1)) (va_up (va_up (va_up ar 4 ((uu_3.1, uu_3.2.1, uu_3.2.2, jj_5).2.1)) 3 ((uu_3.1, uu_3.2.1, uu_3.2.2, jj_5).1)) 5 ((uu_3.1, uu_3.2.1, uu_3.2.2, jj_5).2.2.2)) bk) from hw) (fun j hj => hB j (by omega)) dX12_endCheck_113
    | succ ki ih =>
      intro i jj_5 ls H locs hik hB hw hl
      refine lv_iload_n hx hb dX12_endCheck_15 rfl (lv_at hl 0 rfl) ?_
      refine lv_aload_n hx hb dX12_endCheck_16 rfl (lv_at hl 1 rfl) ?_
      refine hk_get (ci := 15) (C := RX12) (T := TX12) (N := 92) (v := .int 10) hx hb hts iX12 hown hw 0 rfl rfl 24 (by decide) (hts _ (List.mem_of_getElem? (i := 1) rfl)) (congrArg (fun z => some (Value.int z)) hc) dX12_endCheck_17 ?_
      refine hk_Si (As := [.int 10]) (rest := [.int (nI i)]) ⟨hx, hb, hml, hown, hts⟩ hw hA (cn_size10 l D cI cJ ad (upd g 15 0) (vp_updL lg 1 uu_3.2.2) (va_up (va_up (va_up ar 4 uu_3.2.1) 3 uu_3.1) 5 jj_5) bk _) (va_cwS 1 hts gw_cn_endCheck10_1 rfl rfl rfl (by decide +kernel) ⟨Nat.le_of_ble_eq_true rfl, Nat.le_of_ble_eq_true rfl⟩) rfl hl.1 rfl (Nat.le_of_ble_eq_true rfl) dX12_endCheck_20 ⟨Nat.le_of_ble_eq_true rfl, Nat.le_of_ble_eq_true rfl⟩ (fun rr_11 uu_12 H locs hp_13 hw => ?_)
      subst hp_13
      have hw : hk_W D [(cI, .int), (cJ, .long)] _ s _ _ (mw cI cJ ad (upd g 15 0) (vp_updL lg 1 uu_3.2.2) (va_up (va_up (va_up ar 4 uu_3.2.1) 3 uu_3.1) 5 jj_5) bk) := hw
      refine lv_icmp_ge (tgt := 113) hx hb dX12_endCheck_23 (by decide) (fun cc_14 => absurd cc_14 (hk_nle (a := i) (b := 32) (by omega) (by omega))) (fun _ => ?_)
      refine lv_aload_n hx hb dX12_endCheck_26 rfl (lv_at hl 1 rfl) ?_
      refine hk_get (ci := 15) (C := RX12) (T := TX12) (N := 92) (v := .ref (ad 6)) hx hb hts iX12 hown hw 0 rfl rfl 23 (by decide) (hts _ (List.mem_of_getElem? (i := 27) rfl)) rfl dX12_endCheck_27 ?_
      refine lv_iload_n hx hb dX12_endCheck_30 rfl (lv_at hl 0 rfl) ?_
      refine lv_aload_n hx hb dX12_endCheck_31 rfl (lv_at hl 1 rfl) ?_
      refine hk_get (ci := 15) (C := RX12) (T := TX12) (N := 92) (v := .int 10) hx hb hts iX12 hown hw 0 rfl rfl 24 (by decide) (hts _ (List.mem_of_getElem? (i := 1) rfl)) (congrArg (fun z => some (Value.int z)) hc) dX12_endCheck_32 ?_
      refine lv_iconst (v := 1) hx hb dX12_endCheck_35 (by decide) ?_
      refine lv_icmp_ne (tgt := 55) hx hb dX12_endCheck_36 (by decide) (fun _ => ?_) (fun cc_15 => absurd cc_15 (by decide))
      refine lv_aload_n hx hb dX12_endCheck_55 rfl (lv_at hl 1 rfl) ?_
      refine hk_get (ci := 15) (C := RX12) (T := TX12) (N := 92) (v := .int 10) hx hb hts iX12 hown hw 0 rfl rfl 24 (by decide) (hts _ (List.mem_of_getElem? (i := 1) rfl)) (congrArg (fun z => some (Value.int z)) hc) dX12_endCheck_56 ?_
      refine lv_iconst (v := 4) hx hb dX12_endCheck_59 (by decide) ?_
      refine lv_icmp_ne (tgt := 84) hx hb dX12_endCheck_60 (by decide) (fun _ => ?_) (fun cc_16 => absurd cc_16 (by decide))
      refine lv_aload_n hx hb dX12_endCheck_84 rfl (lv_at hl 1 rfl) ?_
      refine hk_get (ci := 15) (C := RX12) (T := TX12) (N := 92) (v := .ref (ad 4)) hx hb hts iX12 hown hw 0 rfl rfl 19 (by decide) (hts _ (List.mem_of_getElem? (i := 19) rfl)) rfl dX12_endCheck_85 ?_
      refine lv_iload_n hx hb dX12_endCheck_88 rfl (lv_at hl 0 rfl) ?_
      refine lv_iconst (v := 4) hx hb dX12_endCheck_89 (by decide) ?_
      refine lv_idiv hx hb dX12_endCheck_90 (by decide) ?_
      refine hk_iald (v := (hs_O (i / 4))) hx hb hw 4 0 rfl rfl ((show ∀ i, i < 32 → ¬ ((nI i / 4 : Int32) < 0 ∨ 8 ≤ (nI i / 4 : Int32).toNatClampNeg) by decide +kernel) i (by omega)) dX12_endCheck_91 (by rw [(show ∀ i, i < 32 → (nI i / 4 : Int32).toNatClampNeg = i / 4 by decide +kernel) i (by omega)]; exact hO _ (by omega)) ?_
      refine lv_bipush (v := 24) hx hb dX12_endCheck_92 (by decide) ?_
      refine lv_bipush (v := 8) hx hb dX12_endCheck_94 (by decide) ?_
      refine lv_iload_n hx hb dX12_endCheck_96 rfl (lv_at hl 0 rfl) ?_
      refine lv_iconst (v := 4) hx hb dX12_endCheck_97 (by decide) ?_
      refine lv_irem hx hb dX12_endCheck_98 (by decide) ?_
      refine lv_imul hx hb dX12_endCheck_99 ?_
      refine lv_isub hx hb dX12_endCheck_100 ?_
      refine lv_ishr hx hb dX12_endCheck_101 ?_
      refine lv_sipush (v := 255) hx hb dX12_endCheck_102 (by decide) ?_
      refine lv_iand hx hb dX12_endCheck_105 ?_
      refine hk_topi (hs_B i) ((show ∀ i, i < 32 → ((((hs_O (i / 4)) : Int32) >>> (((24 - (8 * ((nI i) - (nI i) / 4 * 4))) : Int32) &&& 31)) &&& 255) = (hs_B i) by decide +kernel) i (by omega)) ?_
      refine hk_iast hx hb hw 6 0 rfl rfl (vp_in_nI (by omega) (by omega)) dX12_endCheck_106 (ws' := mw cI cJ ad (upd g 15 0) (vp_updL lg 1 uu_3.2.2) (va_up (va_up (va_up ar 4 uu_3.2.1) 3 uu_3.1) 5 (upd jj_5 ((nI i)).toNatClampNeg (hs_B i))) bk) rfl (fun H locs hw => ?_)
      refine lv_iinc (v := (nI (i + 1))) (lv' := [(1, .int (nI (i + 1))), (0, .ref (ad 0))]) hx hb dX12_endCheck_107 hl (k := 0) rfl ((nI_succ i).symm) (by decide) rfl (fun ls hl => ?_)
      refine lv_goto (tgt := 15) hx hb dX12_endCheck_110 (by decide) ?_
      exact ih (i + 1) (upd jj_5 ((nI i)).toNatClampNeg (hs_B i)) ls _ _ (by omega) (hs_up hB (nI_clamp (by omega)) rfl) hw (lv_sub hl [0, 1] rfl)
  exact loop_6 (32 - 0) 0 (ar 5) ls _ _ (by omega) (fun j hj => absurd hj (Nat.not_lt_zero j)) hw (lv_sub hl [0, 1] rfl)
