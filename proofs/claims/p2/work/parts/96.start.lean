set_option maxRecDepth 100000
theorem law_K {s : State} {args : Array Value} (hts : ∀ w ∈ lw_tbl, w.before args s = true) {cI cJ : ClassId} (hI : ArrOfT s cI .int ∧ va_RA s cI .int) (hJ : ArrOfT s cJ .long ∧ va_RA s cJ .long) : ∃ D : va_G, va_K D vwCl [(cI, .int), (cJ, .long)] s := by
  obtain ⟨c0, i0, h0⟩ := u_known (C := RJ0) (T := TJ0) (N := 4) hts (fun w h => (gb_J0 w h).1) (hts _ tw_1667.1)
  obtain ⟨c1, i1, h1⟩ := u_known (C := RJ4) (T := TJ4) (N := 4) hts (fun w h => (gb_J4 w h).1) (hts _ tw_1668.1)
  obtain ⟨c2, i2, h2⟩ := u_known (C := RJx00060) (T := TJx00060) (N := 6) hts (fun w h => (gb_Jx00060 w h).1) (hts _ tw_1669.1)
  obtain ⟨c3, i3, h3⟩ := u_known (C := RX0) (T := TX0) (N := 3) hts (fun w h => (gb_X0 w h).1) (hts _ tw_1604.1)
  obtain ⟨c4, i4, h4⟩ := u_known (C := RX1) (T := TX1) (N := 13) hts (fun w h => (gb_X1 w h).1) (hts _ tw_1588.1)
  obtain ⟨c5, i5, h5⟩ := u_known (C := RX2) (T := TX2) (N := 9) hts (fun w h => (gb_X2 w h).1) (hts _ tw_1615.1)
  obtain ⟨c6, i6, h6⟩ := u_known (C := RX3) (T := TX3) (N := 9) hts (fun w h => (gb_X3 w h).1) (hts _ tw_1576.1)
  obtain ⟨c7, i7, h7⟩ := u_known (C := RX4) (T := TX4) (N := 4) hts (fun w h => (gb_X4 w h).1) (hts _ tw_1598.1)
  obtain ⟨c8, i8, h8⟩ := u_known (C := RX5) (T := TX5) (N := 6) hts (fun w h => (gb_X5 w h).1) (hts _ tw_1617.1)
  obtain ⟨c9, i9, h9⟩ := u_known (C := RX6) (T := TX6) (N := 16) hts (fun w h => (gb_X6 w h).1) (hts _ tw_1580.1)
  obtain ⟨c10, i10, h10⟩ := u_known (C := RX7) (T := TX7) (N := 17) hts (fun w h => (gb_X7 w h).1) (hts _ tw_1592.1)
  obtain ⟨c11, i11, h11⟩ := u_known (C := RX8) (T := TX8) (N := 4) hts (fun w h => (gb_X8 w h).1) (hts _ tw_1623.1)
  obtain ⟨c12, i12, h12⟩ := u_known (C := RX9) (T := TX9) (N := 2) hts (fun w h => (gb_X9 w h).1) (hts _ tw_1630.1)
  obtain ⟨c13, i13, h13⟩ := u_known (C := RX10) (T := TX10) (N := 10) hts (fun w h => (gb_X10 w h).1) (hts _ tw_1636.1)
  obtain ⟨c14, i14, h14⟩ := u_known (C := RX11) (T := TX11) (N := 11) hts (fun w h => (gb_X11 w h).1) (hts _ tw_1659.1)
  obtain ⟨c15, i15, h15⟩ := u_known (C := RX12) (T := TX12) (N := 92) hts (fun w h => (gb_X12 w h).1) (hts _ tw_1661.1)
  refine ⟨(fun k => [c0, c1, c2, c3, c4, c5, c6, c7, c8, c9, c10, c11, c12, c13, c14, c15].getD k c0, fun k => [i0, i1, i2, i3, i4, i5, i6, i7, i8, i9, i10, i11, i12, i13, i14, i15].getD k i0), ?_, ?_⟩
  · intro k q hq
    match k, hq with
    | 0, hq => cases hq; exact h0
    | 1, hq => cases hq; exact h1
    | 2, hq => cases hq; exact h2
    | 3, hq => cases hq; exact h3
    | 4, hq => cases hq; exact h4
    | 5, hq => cases hq; exact h5
    | 6, hq => cases hq; exact h6
    | 7, hq => cases hq; exact h7
    | 8, hq => cases hq; exact h8
    | 9, hq => cases hq; exact h9
    | 10, hq => cases hq; exact h10
    | 11, hq => cases hq; exact h11
    | 12, hq => cases hq; exact h12
    | 13, hq => cases hq; exact h13
    | 14, hq => cases hq; exact h14
    | 15, hq => cases hq; exact h15
    | k + 16, hq => simp [vwCl] at hq
  · intro k q hq
    match k, hq with
    | 0, hq => cases hq; exact hI
    | 1, hq => cases hq; exact hJ
    | k + 2, hq => simp at hq
theorem law_mk_0 : ∀ j, j < 8 → 0 ≤ j → Cond.eq (.elem (Term.static "LzmaChains$Checks" "SHA_KEYS" "[I") (.int (Int32.ofNat j))) (.int (hs_K j)) ∈ flatC (Jvm.Cond.and given_1 narrow_1) := by decide +kernel
theorem law_mk_1 : ∀ j, j < 16 → 8 ≤ j → Cond.eq (.elem (Term.static "LzmaChains$Checks" "SHA_KEYS" "[I") (.int (Int32.ofNat j))) (.int (hs_K j)) ∈ flatC (Jvm.Cond.and given_1 narrow_1) := by decide +kernel
theorem law_mk_2 : ∀ j, j < 24 → 16 ≤ j → Cond.eq (.elem (Term.static "LzmaChains$Checks" "SHA_KEYS" "[I") (.int (Int32.ofNat j))) (.int (hs_K j)) ∈ flatC (Jvm.Cond.and given_1 narrow_1) := by decide +kernel
theorem law_mk_3 : ∀ j, j < 32 → 24 ≤ j → Cond.eq (.elem (Term.static "LzmaChains$Checks" "SHA_KEYS" "[I") (.int (Int32.ofNat j))) (.int (hs_K j)) ∈ flatC (Jvm.Cond.and given_1 narrow_1) := by decide +kernel
theorem law_mk_4 : ∀ j, j < 40 → 32 ≤ j → Cond.eq (.elem (Term.static "LzmaChains$Checks" "SHA_KEYS" "[I") (.int (Int32.ofNat j))) (.int (hs_K j)) ∈ flatC (Jvm.Cond.and given_1 narrow_1) := by decide +kernel
theorem law_mk_5 : ∀ j, j < 48 → 40 ≤ j → Cond.eq (.elem (Term.static "LzmaChains$Checks" "SHA_KEYS" "[I") (.int (Int32.ofNat j))) (.int (hs_K j)) ∈ flatC (Jvm.Cond.and given_1 narrow_1) := by decide +kernel
theorem law_mk_6 : ∀ j, j < 56 → 48 ≤ j → Cond.eq (.elem (Term.static "LzmaChains$Checks" "SHA_KEYS" "[I") (.int (Int32.ofNat j))) (.int (hs_K j)) ∈ flatC (Jvm.Cond.and given_1 narrow_1) := by decide +kernel
theorem law_mk_7 : ∀ j, j < 64 → 56 ≤ j → Cond.eq (.elem (Term.static "LzmaChains$Checks" "SHA_KEYS" "[I") (.int (Int32.ofNat j))) (.int (hs_K j)) ∈ flatC (Jvm.Cond.and given_1 narrow_1) := by decide +kernel
theorem law_mk (j : Nat) (hj : j < 64) : Cond.eq (.elem (Term.static "LzmaChains$Checks" "SHA_KEYS" "[I") (.int (Int32.ofNat j))) (.int (hs_K j)) ∈ flatC (Jvm.Cond.and given_1 narrow_1) := by
  by_cases h0 : j < 8
  · exact law_mk_0 j h0 (by omega)
  by_cases h1 : j < 16
  · exact law_mk_1 j h1 (by omega)
  by_cases h2 : j < 24
  · exact law_mk_2 j h2 (by omega)
  by_cases h3 : j < 32
  · exact law_mk_3 j h3 (by omega)
  by_cases h4 : j < 40
  · exact law_mk_4 j h4 (by omega)
  by_cases h5 : j < 48
  · exact law_mk_5 j h5 (by omega)
  by_cases h6 : j < 56
  · exact law_mk_6 j h6 (by omega)
  exact law_mk_7 j hj (by omega)
theorem law_mr_0 : ∀ j, j < 8 → 0 ≤ j → Cond.eq (.elem (Term.static "LzmaChainsModel" "ROUND" "[I") (.int (Int32.ofNat j))) (.int (hs_K j)) ∈ flatC (Jvm.Cond.and given_1 narrow_1) := by decide +kernel
theorem law_mr_1 : ∀ j, j < 16 → 8 ≤ j → Cond.eq (.elem (Term.static "LzmaChainsModel" "ROUND" "[I") (.int (Int32.ofNat j))) (.int (hs_K j)) ∈ flatC (Jvm.Cond.and given_1 narrow_1) := by decide +kernel
theorem law_mr_2 : ∀ j, j < 24 → 16 ≤ j → Cond.eq (.elem (Term.static "LzmaChainsModel" "ROUND" "[I") (.int (Int32.ofNat j))) (.int (hs_K j)) ∈ flatC (Jvm.Cond.and given_1 narrow_1) := by decide +kernel
theorem law_mr_3 : ∀ j, j < 32 → 24 ≤ j → Cond.eq (.elem (Term.static "LzmaChainsModel" "ROUND" "[I") (.int (Int32.ofNat j))) (.int (hs_K j)) ∈ flatC (Jvm.Cond.and given_1 narrow_1) := by decide +kernel
theorem law_mr_4 : ∀ j, j < 40 → 32 ≤ j → Cond.eq (.elem (Term.static "LzmaChainsModel" "ROUND" "[I") (.int (Int32.ofNat j))) (.int (hs_K j)) ∈ flatC (Jvm.Cond.and given_1 narrow_1) := by decide +kernel
theorem law_mr_5 : ∀ j, j < 48 → 40 ≤ j → Cond.eq (.elem (Term.static "LzmaChainsModel" "ROUND" "[I") (.int (Int32.ofNat j))) (.int (hs_K j)) ∈ flatC (Jvm.Cond.and given_1 narrow_1) := by decide +kernel
theorem law_mr_6 : ∀ j, j < 56 → 48 ≤ j → Cond.eq (.elem (Term.static "LzmaChainsModel" "ROUND" "[I") (.int (Int32.ofNat j))) (.int (hs_K j)) ∈ flatC (Jvm.Cond.and given_1 narrow_1) := by decide +kernel
theorem law_mr_7 : ∀ j, j < 64 → 56 ≤ j → Cond.eq (.elem (Term.static "LzmaChainsModel" "ROUND" "[I") (.int (Int32.ofNat j))) (.int (hs_K j)) ∈ flatC (Jvm.Cond.and given_1 narrow_1) := by decide +kernel
theorem law_mr (j : Nat) (hj : j < 64) : Cond.eq (.elem (Term.static "LzmaChainsModel" "ROUND" "[I") (.int (Int32.ofNat j))) (.int (hs_K j)) ∈ flatC (Jvm.Cond.and given_1 narrow_1) := by
  by_cases h0 : j < 8
  · exact law_mr_0 j h0 (by omega)
  by_cases h1 : j < 16
  · exact law_mr_1 j h1 (by omega)
  by_cases h2 : j < 24
  · exact law_mr_2 j h2 (by omega)
  by_cases h3 : j < 32
  · exact law_mr_3 j h3 (by omega)
  by_cases h4 : j < 40
  · exact law_mr_4 j h4 (by omega)
  by_cases h5 : j < 48
  · exact law_mr_5 j h5 (by omega)
  by_cases h6 : j < 56
  · exact law_mr_6 j h6 (by omega)
  exact law_mr_7 j hj (by omega)
theorem law_YY {s : State} {b : Nat} (hts : ∀ w ∈ lw_tbl, w.before #[Value.ref b] s = true) (hgv : (Jvm.Cond.and given_1 narrow_1).before #[Value.ref b] s = true) : ∃ t3 : Nat × Nat × Nat, hk_YY t3 (fun q : Nat => s.heap.size ≤ q) s := by
  have hs := flat_of_before _ hgv
  have hA : ∀ a : Nat, a < s.heap.size → ¬ (fun q : Nat => s.heap.size ≤ q) a := fun a h g => absurd h (Nat.not_lt.mpr g)
  have z1 : vx_Zq Bundle.tN "UNASSIGNED_STACK" Bundle.steD (fun q : Nat => s.heap.size ≤ q) s s.heap := vx_Zqof (hts _ tw_1670.1) (hts _ tw_1666.1) (hs _ (by decide +kernel)) hA
  have z2 : vx_Zq Bundle.tN "SUPPRESSED_SENTINEL" Bundle.listD (fun q : Nat => s.heap.size ≤ q) s s.heap := vx_Zqof (hts _ tw_1671.1) (hts _ tw_1666.1) (hs _ (by decide +kernel)) hA
  have mk := law_mk
  obtain ⟨tk, ek, Tk⟩ := va_Tof (tm := (Term.static "LzmaChains$Checks" "SHA_KEYS" "[I")) (ty := .int) (N := 64) (f := fun j => .int (hs_K j)) (by decide) (hs _ (by decide +kernel)) (va_eqt (z := 64) (hs _ (by decide +kernel))) (fun j hj => va_eqt (hs _ (mk j hj))) hA
  have Zk := va_Zref (A := fun q : Nat => s.heap.size ≤ q) (hts _ tw_1672.1) (hts _ tw_27.1) ek hA
  have mh : ∀ j, j < 8 → Cond.eq (.elem (Term.static "LzmaChains$Checks" "SHA_START" "[I") (.int (Int32.ofNat j))) (.int (hs_H j)) ∈ flatC (Jvm.Cond.and given_1 narrow_1) := by decide +kernel
  obtain ⟨th, eh, Th⟩ := va_Tof (tm := (Term.static "LzmaChains$Checks" "SHA_START" "[I")) (ty := .int) (N := 8) (f := fun j => .int (hs_H j)) (by decide) (hs _ (by decide +kernel)) (va_eqt (z := 8) (hs _ (by decide +kernel))) (fun j hj => va_eqt (hs _ (mh j hj))) hA
  have Zh := va_Zref (A := fun q : Nat => s.heap.size ≤ q) (hts _ tw_1673.1) (hts _ tw_27.1) eh hA
  have mr := law_mr
  obtain ⟨tr, er, Tr⟩ := va_Tof (tm := (Term.static "LzmaChainsModel" "ROUND" "[I")) (ty := .int) (N := 64) (f := fun j => .int (hs_K j)) (by decide) (hs _ (by decide +kernel)) (va_eqt (z := 64) (hs _ (by decide +kernel))) (fun j hj => va_eqt (hs _ (mr j hj))) hA
  have Zr := va_Zref (A := fun q : Nat => s.heap.size ≤ q) (hts _ tw_1674.1) (hts _ tw_733.1) er hA
  exact ⟨(tk, th, tr), ⟨z1, z2⟩, fun w hw => va_tabs (hk_bw_tab (hk_bw_at hw)) rfl (hts w (xb_bl w hw)), ⟨Zk, Tk⟩, ⟨Zh, Th⟩, ⟨Zr, Tr⟩⟩
