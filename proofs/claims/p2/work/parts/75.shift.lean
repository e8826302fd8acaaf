/-! shifts by a variable -/
theorem hE_lit {y : Int32} {k : Nat} (hk : k < 2147483648) (h : y.toInt = (k : Int)) : y = Int32.ofNat k := by
  rw [← Int32.toInt_inj, Int32.toInt_ofNat_of_lt (by omega)]
  exact h
theorem hE_shlv1_4 {y z : Int32} (h : (1 : Int32) <<< (y &&& 31) = z) : (y.toInt = 0 → z.toInt = 1) ∧ (y.toInt = 1 → z.toInt = 2) ∧ (y.toInt = 2 → z.toInt = 4) ∧ (y.toInt = 3 → z.toInt = 8) ∧ (y.toInt = 4 → z.toInt = 16) := by
  subst h
  refine ⟨?_, ?_, ?_, ?_, ?_⟩ <;> intro q
  · rw [hE_lit (k := 0) (by decide) q]; decide
  · rw [hE_lit (k := 1) (by decide) q]; decide
  · rw [hE_lit (k := 2) (by decide) q]; decide
  · rw [hE_lit (k := 3) (by decide) q]; decide
  · rw [hE_lit (k := 4) (by decide) q]; decide
theorem hE_shlv1_8 {y z : Int32} (h : (1 : Int32) <<< (y &&& 31) = z) : (y.toInt = 0 → z.toInt = 1) ∧ (y.toInt = 1 → z.toInt = 2) ∧ (y.toInt = 2 → z.toInt = 4) ∧ (y.toInt = 3 → z.toInt = 8) ∧ (y.toInt = 4 → z.toInt = 16) ∧ (y.toInt = 5 → z.toInt = 32) ∧ (y.toInt = 6 → z.toInt = 64) ∧ (y.toInt = 7 → z.toInt = 128) ∧ (y.toInt = 8 → z.toInt = 256) := by
  subst h
  refine ⟨?_, ?_, ?_, ?_, ?_, ?_, ?_, ?_, ?_⟩ <;> intro q
  · rw [hE_lit (k := 0) (by decide) q]; decide
  · rw [hE_lit (k := 1) (by decide) q]; decide
  · rw [hE_lit (k := 2) (by decide) q]; decide
  · rw [hE_lit (k := 3) (by decide) q]; decide
  · rw [hE_lit (k := 4) (by decide) q]; decide
  · rw [hE_lit (k := 5) (by decide) q]; decide
  · rw [hE_lit (k := 6) (by decide) q]; decide
  · rw [hE_lit (k := 7) (by decide) q]; decide
  · rw [hE_lit (k := 8) (by decide) q]; decide
theorem hE_shlx4 {x y z : Int32} (h : x <<< (y &&& 31) = z) : ((y.toInt = 0 ∧ 0 ≤ x.toInt ∧ x.toInt ≤ 15) → z.toInt = x.toInt * 1) ∧ ((y.toInt = 1 ∧ 0 ≤ x.toInt ∧ x.toInt ≤ 15) → z.toInt = x.toInt * 2) ∧ ((y.toInt = 2 ∧ 0 ≤ x.toInt ∧ x.toInt ≤ 15) → z.toInt = x.toInt * 4) ∧ ((y.toInt = 3 ∧ 0 ≤ x.toInt ∧ x.toInt ≤ 15) → z.toInt = x.toInt * 8) ∧ ((y.toInt = 4 ∧ 0 ≤ x.toInt ∧ x.toInt ≤ 15) → z.toInt = x.toInt * 16) := by
  refine ⟨?_, ?_, ?_, ?_, ?_⟩ <;> (rintro ⟨q, h0, h1⟩)
  · have e := hE_lit (k := 0) (by decide) q
    subst e
    exact hE_imp (hE_shl 0 1 h (by decide) (by decide) (by decide)) (by omega)
  · have e := hE_lit (k := 1) (by decide) q
    subst e
    exact hE_imp (hE_shl 1 2 h (by decide) (by decide) (by decide)) (by omega)
  · have e := hE_lit (k := 2) (by decide) q
    subst e
    exact hE_imp (hE_shl 2 4 h (by decide) (by decide) (by decide)) (by omega)
  · have e := hE_lit (k := 3) (by decide) q
    subst e
    exact hE_imp (hE_shl 3 8 h (by decide) (by decide) (by decide)) (by omega)
  · have e := hE_lit (k := 4) (by decide) q
    subst e
    exact hE_imp (hE_shl 4 16 h (by decide) (by decide) (by decide)) (by omega)
theorem hE_shrx4_8 {x y z : Int32} (h : x >>> (y &&& 31) = z) : (y.toInt = 4 → z.toInt = x.toInt / 16) ∧ (y.toInt = 5 → z.toInt = x.toInt / 32) ∧ (y.toInt = 6 → z.toInt = x.toInt / 64) ∧ (y.toInt = 7 → z.toInt = x.toInt / 128) ∧ (y.toInt = 8 → z.toInt = x.toInt / 256) := by
  refine ⟨?_, ?_, ?_, ?_, ?_⟩ <;> intro q
  · have e := hE_lit (k := 4) (by decide) q
    subst e
    exact hE_shr 4 16 h (by decide) (by decide) (by decide)
  · have e := hE_lit (k := 5) (by decide) q
    subst e
    exact hE_shr 5 32 h (by decide) (by decide) (by decide)
  · have e := hE_lit (k := 6) (by decide) q
    subst e
    exact hE_shr 6 64 h (by decide) (by decide) (by decide)
  · have e := hE_lit (k := 7) (by decide) q
    subst e
    exact hE_shr 7 128 h (by decide) (by decide) (by decide)
  · have e := hE_lit (k := 8) (by decide) q
    subst e
    exact hE_shr 8 256 h (by decide) (by decide) (by decide)
theorem hE_shlb {x y z : Int32} (h : x <<< (y &&& 31) = z) : (0 ≤ x.toInt ∧ x.toInt ≤ 1 ∧ 0 ≤ y.toInt ∧ y.toInt ≤ 5) → (0 ≤ z.toInt ∧ z.toInt ≤ 32) := by
  rintro ⟨h0, h1, h2, h3⟩
  obtain ⟨n, hn, rfl⟩ := hE_small (y := x) 2 h0 (by omega)
  obtain ⟨k, hk, rfl⟩ := hE_small (y := y) 6 h2 (by omega)
  subst h
  have : ∀ n, n < 2 → ∀ k, k < 6 → 0 ≤ (Int32.ofNat n <<< (Int32.ofNat k &&& 31)).toInt ∧ (Int32.ofNat n <<< (Int32.ofNat k &&& 31)).toInt ≤ 32 := by decide
  exact this n hn k hk
theorem hE_or64 {x y z : Int32} (h : x ||| y = z) : (0 ≤ x.toInt ∧ x.toInt < 64 ∧ 0 ≤ y.toInt ∧ y.toInt < 64) → (0 ≤ z.toInt ∧ z.toInt < 64) := by
  rintro ⟨h0, h1, h2, h3⟩
  subst h
  have hn : ∀ w : Int32, 0 ≤ w.toInt → w.toInt < 64 → w.toBitVec.toNat < 64 := by
    intro w a b
    have := hE_cond w
    have hl : w.toBitVec.toNat < 4294967296 := w.toBitVec.isLt
    split at this <;> omega
  have e : (x ||| y).toBitVec.toNat < 2 ^ 6 := by
    rw [Int32.toBitVec_or, BitVec.toNat_or]
    exact Nat.or_lt_two_pow (hn x h0 h1) (hn y h2 h3)
  rw [hE_pos (x := x ||| y) (by omega)]
  omega
theorem hE_litL {y : Int64} {k : Nat} (hk : k < 9223372036854775808) (h : y.toInt = (k : Int)) : y = Int64.ofNat k := by
  rw [← Int64.toInt_inj, Int64.toInt_ofNat_of_lt (by omega)]
  exact h
theorem hE_lshlv {x z : Int64} {y : Int32} (h : x <<< (y.toInt64 &&& 63) = z) : (2 ≤ x.toInt ∧ x.toInt ≤ 3 ∧ 0 ≤ y.toInt ∧ y.toInt ≤ 30) → (2 ≤ z.toInt ∧ z.toInt ≤ 3221225472) := by
  rintro ⟨h0, h1, h2, h3⟩
  obtain ⟨k, hk, rfl⟩ := hE_small (y := y) 31 h2 (by omega)
  subst h
  have t : ∀ k, k < 31 → (2 ≤ ((2 : Int64) <<< ((Int32.ofNat k).toInt64 &&& 63)).toInt ∧ ((2 : Int64) <<< ((Int32.ofNat k).toInt64 &&& 63)).toInt ≤ 3221225472) ∧ (2 ≤ ((3 : Int64) <<< ((Int32.ofNat k).toInt64 &&& 63)).toInt ∧ ((3 : Int64) <<< ((Int32.ofNat k).toInt64 &&& 63)).toInt ≤ 3221225472) := by decide +kernel
  by_cases q : x.toInt = 2
  · rw [show x = 2 from hE_litL (k := 2) (by decide) q]; exact (t k hk).1
  · rw [show x = 3 from hE_litL (k := 3) (by decide) (by omega)]; exact (t k hk).2
theorem hE_lshlb {x z : Int64} {y : Int32} (h : x <<< (y.toInt64 &&& 63) = z) : (0 ≤ x.toInt ∧ x.toInt ≤ 1 ∧ 0 ≤ y.toInt ∧ y.toInt ≤ 29) → (0 ≤ z.toInt ∧ z.toInt ≤ 536870912) := by
  rintro ⟨h0, h1, h2, h3⟩
  obtain ⟨k, hk, rfl⟩ := hE_small (y := y) 30 h2 (by omega)
  subst h
  have t : ∀ k, k < 30 → (0 ≤ ((0 : Int64) <<< ((Int32.ofNat k).toInt64 &&& 63)).toInt ∧ ((0 : Int64) <<< ((Int32.ofNat k).toInt64 &&& 63)).toInt ≤ 536870912) ∧ (0 ≤ ((1 : Int64) <<< ((Int32.ofNat k).toInt64 &&& 63)).toInt ∧ ((1 : Int64) <<< ((Int32.ofNat k).toInt64 &&& 63)).toInt ≤ 536870912) := by decide +kernel
  by_cases q : x.toInt = 0
  · rw [show x = 0 from hE_litL (k := 0) (by decide) q]; exact (t k hk).1
  · rw [show x = 1 from hE_litL (k := 1) (by decide) (by omega)]; exact (t k hk).2
theorem hE_lshrn {x z : Int64} {y : Int32} (h : x >>> (y.toInt64 &&& 63) = z) (k : Nat) (hk : k < 64) (hy : y.toInt = (k : Int)) : z.toInt = x.toInt / ((2 ^ k : Nat) : Int) := by
  have e := hE_lit (y := y) (k := k) (by omega) hy
  subst e
  have t : ∀ k, k < 64 → ((Int32.ofNat k).toInt64 &&& 63).toBitVec.smod 64 = BitVec.ofNat 64 k := by decide +kernel
  exact hE_lshr k _ h (t k hk) hk rfl
theorem hE_lshrv {x z : Int64} {y : Int32} (h : x >>> (y.toInt64 &&& 63) = z) : ((0 ≤ x.toInt ∧ x.toInt < 2048 ∧ 10 ≤ y.toInt ∧ y.toInt ≤ 63) → z.toInt ≤ 1) ∧ ((0 ≤ x.toInt ∧ x.toInt < 4294967296 ∧ 31 ≤ y.toInt ∧ y.toInt ≤ 63) → z.toInt ≤ 1) ∧ ((4 ≤ x.toInt ∧ 0 ≤ y.toInt ∧ y.toInt ≤ 1) → 2 ≤ z.toInt) := by
  refine ⟨?_, ?_, ?_⟩
  · rintro ⟨h0, h1, h2, h3⟩
    rw [hE_lshrn h y.toInt.toNat (by omega) (by omega)]
    have p : 2 ^ 10 ≤ 2 ^ y.toInt.toNat := Nat.pow_le_pow_right (by decide) (by omega)
    have q : x.toInt / ((2 ^ y.toInt.toNat : Nat) : Int) < 2 := Int.ediv_lt_of_lt_mul (by omega) (by omega)
    omega
  · rintro ⟨h0, h1, h2, h3⟩
    rw [hE_lshrn h y.toInt.toNat (by omega) (by omega)]
    have p : 2 ^ 31 ≤ 2 ^ y.toInt.toNat := Nat.pow_le_pow_right (by decide) (by omega)
    have q : x.toInt / ((2 ^ y.toInt.toNat : Nat) : Int) < 2 := Int.ediv_lt_of_lt_mul (by omega) (by omega)
    omega
  · rintro ⟨h0, h1, h2⟩
    have c : y.toInt = ((0 : Nat) : Int) ∨ y.toInt = ((1 : Nat) : Int) := by omega
    rcases c with c | c
    · rw [hE_lshrn h 0 (by decide) c]
      show 2 ≤ x.toInt / 1
      omega
    · rw [hE_lshrn h 1 (by decide) c]
      show 2 ≤ x.toInt / 2
      omega
theorem hE_land1 {x z : Int64} (h : x &&& 1 = z) : 0 ≤ z.toInt ∧ z.toInt ≤ 1 := by
  subst h
  have e : (x &&& 1).toBitVec.toNat ≤ 1 := by
    rw [Int64.toBitVec_and, BitVec.toNat_and]
    exact Nat.and_le_right
  have c := hE_condL (x &&& 1)
  rw [if_pos (by omega)] at c
  omega
theorem hE_lushr {x z c : Int64} (k : Nat) (M : Int) (h : (x.toUInt64 >>> c.toUInt64).toInt64 = z) (hc : c.toUInt64.toBitVec % 64 = BitVec.ofNat 64 k) (hk : k < 64) (hM : ((2 ^ k : Nat) : Int) = M) : 0 ≤ x.toInt → z.toInt = x.toInt / M := by
  intro h0
  subst h
  subst hM
  have e1 : ((x.toUInt64 >>> c.toUInt64).toInt64).toBitVec.toNat = x.toBitVec.toNat / 2 ^ k := by
    show (x.toUInt64 >>> c.toUInt64).toBitVec.toNat = _
    rw [UInt64.toBitVec_shiftRight, hc, BitVec.ushiftRight_eq', BitVec.toNat_ushiftRight, BitVec.toNat_ofNat, Nat.mod_eq_of_lt (show k < 2 ^ 64 by omega), Nat.shiftRight_eq_div_pow]
    rfl
  have hx := hE_condL x
  have hl : x.toBitVec.toNat < 18446744073709551616 := x.toBitVec.isLt
  have hx2 : 2 * x.toBitVec.toNat < 18446744073709551616 := by
    split at hx <;> omega
  rw [if_pos hx2] at hx
  have hle : x.toBitVec.toNat / 2 ^ k ≤ x.toBitVec.toNat := Nat.div_le_self _ _
  have c2 := hE_condL ((x.toUInt64 >>> c.toUInt64).toInt64)
  rw [e1, if_pos (by omega)] at c2
  rw [c2, hx, Int.natCast_ediv]
theorem hk_lgI : hk_lg (4294967295 : Int64) = 31 := by decide +kernel
theorem hk_lgb (r : Int64) : 0 ≤ hk_lg r ∧ hk_lg r ≤ 63 := by
  unfold hk_lg
  constructor
  · omega
  · have hr := hE_rngL r
    by_cases h : r.toInt.toNat = 0
    · rw [h]; decide
    · have : Nat.log2 r.toInt.toNat < 64 := (Nat.log2_lt h).mpr (by omega)
      omega
theorem hk_lg8' {r z c : Int64} (h : r <<< c = z) (hc : c.toBitVec.smod 64 = BitVec.ofNat 64 8) : (0 < r.toInt ∧ r.toInt < 16777216) → hk_lg r + 8 ≤ hk_lg z := by
  intro q
  exact hk_lg8 q (hE_impL (hE_lshl 8 256 h hc (by decide) (by decide)) (by omega))
theorem hk_rbF {f : Nat → Int32} (h : ∀ k, k < 14344 → f k = 1024) : hk_rb 14344 31 2017 f := fun k hk => by
  rw [h k hk]
  decide
theorem hk_rbC {f f' : Nat → Int32} (h : ∀ k, k < 14344 → f' k = f k) (hr : hk_rb 14344 31 2017 f) : hk_rb 14344 31 2017 f' := fun k hk => by
  rw [h k hk]
  exact hr k hk
/-- the plan: a step at least, not beyond the end, and a way back that is there -/
def hk_pl (lo pe : Int) (s f : Nat → Int32) : Prop := ∀ k : Nat, lo ≤ (k : Int) → (k : Int) < pe → 1 ≤ (s k).toInt ∧ (k : Int) + (s k).toInt ≤ pe ∧ ((s k).toInt = 1 ∨ (2 ≤ (s k).toInt ∧ 1 ≤ (f k).toInt ∧ (f k).toInt ≤ (k : Int)))
theorem hk_plE {lo pe : Int} {s f s' f' : Nat → Int32} (h : hk_pl lo pe s f) (e1 : s' = s) (e2 : f' = f) : hk_pl lo pe s' f' := by subst e1; subst e2; exact h
theorem hk_pl0 {lo pe : Int} {s f : Nat → Int32} (h : pe ≤ lo) : hk_pl lo pe s f := fun k h1 h2 => by omega
theorem hk_plS {lo lo' pe : Int} {s f s' f' : Nat → Int32} {i x y : Int32} (h : hk_pl lo pe s f) (e1 : s' = upd s i.toNatClampNeg x) (e2 : f' = upd f i.toNatClampNeg y) (hi : 0 ≤ i.toInt ∧ lo' = i.toInt ∧ (lo = i.toInt ∨ lo = i.toInt + 1)) (hx : 1 ≤ x.toInt ∧ i.toInt + x.toInt ≤ pe ∧ (x.toInt = 1 ∨ (2 ≤ x.toInt ∧ 1 ≤ y.toInt ∧ y.toInt ≤ i.toInt))) : hk_pl lo' pe s' f' := by
  subst e1
  subst e2
  have hn := hk_tnc hi.1
  intro k h1 h2
  by_cases e : k = i.toNatClampNeg
  · subst e
    simp only [upd, if_true]
    rw [hn]
    exact hx
  · simp only [upd, if_neg e]
    exact h k (by omega) h2
theorem hk_plV {lo pe : Int} {s f : Nat → Int32} {i x y : Int32} (h : hk_pl lo pe s f) (hx : s i.toNatClampNeg = x) (hy : f i.toNatClampNeg = y) (hi : 0 ≤ i.toInt ∧ lo ≤ i.toInt ∧ i.toInt < pe) : 1 ≤ x.toInt ∧ i.toInt + x.toInt ≤ pe ∧ (x.toInt = 1 ∨ (2 ≤ x.toInt ∧ 1 ≤ y.toInt ∧ y.toInt ≤ i.toInt)) := by
  have hn := hk_tnc hi.1
  have := h i.toNatClampNeg (by omega) (by omega)
  rw [hx, hy, hn] at this
  exact this
theorem hk_eqOr (x y : Int32) : x = y ∨ ¬ x = y := Decidable.em _
theorem hk_t0 : (0 : Int32).toInt = 0 := by decide
theorem hk_t1 : (1 : Int32).toInt = 1 := by decide
theorem hk_t2 : (2 : Int32).toInt = 2 := by decide
theorem hk_t3 : (3 : Int32).toInt = 3 := by decide
theorem hk_t4 : (4 : Int32).toInt = 4 := by decide
theorem hk_t5 : (5 : Int32).toInt = 5 := by decide
theorem hk_t6 : (6 : Int32).toInt = 6 := by decide
theorem hk_t7 : (7 : Int32).toInt = 7 := by decide
