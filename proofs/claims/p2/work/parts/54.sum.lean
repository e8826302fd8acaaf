/-! the reference's coder: how many bytes it can make. hk_phi: what a chance far from the middle has saved; hk_ph: of all chances; hk_lg: the height of the range -/
def hk_rb (n : Nat) (lo hi : Int) (f : Nat → Int32) : Prop := ∀ k, k < n → lo ≤ (f k).toInt ∧ (f k).toInt ≤ hi
theorem hk_rbV {n : Nat} {lo hi : Int} {f : Nat → Int32} {i z : Int32} (h : hk_rb n lo hi f) (hz : f i.toNatClampNeg = z) (h0 : 0 ≤ i.toInt ∧ i.toInt < (n : Int)) : lo ≤ z.toInt ∧ z.toInt ≤ hi := by
  subst hz
  refine h _ ?_
  have := hk_tnc h0.1
  omega
theorem hk_rbS {n : Nat} {lo hi : Int} {a a1 : Nat → Nat → Int32} {j i : Nat} {x : Int32} (he : a1 = va_up a j (upd (a j) i x)) (h : hk_rb n lo hi (a j)) (hx : lo ≤ x.toInt ∧ x.toInt ≤ hi) : hk_rb n lo hi (a1 j) := by
  subst he
  have : va_up a j (upd (a j) i x) j = upd (a j) i x := by simp [va_up]
  rw [this]
  intro k hk
  unfold upd
  split
  · exact hx
  · exact h k hk
def hk_phi (v : Int) : Int := if v ≤ 31 then 4 else if v ≤ 63 then 3 else if v ≤ 66 then 2 else if v ≤ 127 then 1 else if v ≤ 1920 then 0 else if v ≤ 1981 then 1 else if v ≤ 1984 then 2 else if v ≤ 2016 then 3 else 4
theorem hk_phi0 (v : Int) : 0 ≤ hk_phi v := by
  unfold hk_phi
  repeat' split
  all_goals decide
def hk_sm (f : Nat → Int32) (n : Nat) : Int := ((List.range n).map (fun k => hk_phi (f k).toInt)).sum
theorem hk_sm_succ (f : Nat → Int32) (n : Nat) : hk_sm f (n + 1) = hk_sm f n + hk_phi (f n).toInt := by
  unfold hk_sm
  rw [List.range_succ, List.map_append, List.sum_append]
  simp
def hk_ph (f : Nat → Int32) : Int := hk_sm f 14344
theorem hk_sm0 (f : Nat → Int32) (n : Nat) : 0 ≤ hk_sm f n := by
  induction n with
  | zero => exact Int.le_refl _
  | succ n ih =>
    rw [hk_sm_succ]
    have := hk_phi0 (f n).toInt
    omega
theorem hk_ph0 (f : Nat → Int32) : 0 ≤ hk_ph f := by
  unfold hk_ph
  exact hk_sm0 f 14344
theorem hk_smC {f f' : Nat → Int32} (n : Nat) (h : ∀ k, k < n → f' k = f k) : hk_sm f' n = hk_sm f n := by
  unfold hk_sm
  congr 1
  refine List.map_congr_left ?_
  intro k hk
  rw [h k (List.mem_range.mp hk)]
theorem hk_smU (f : Nat → Int32) (i : Nat) (x : Int32) (n : Nat) (h : i < n) : hk_sm (upd f i x) n = hk_sm f n - hk_phi (f i).toInt + hk_phi x.toInt := by
  induction n with
  | zero => omega
  | succ n ih =>
    rw [hk_sm_succ, hk_sm_succ]
    by_cases e : i = n
    · subst e
      rw [hk_smC (f := f) i (fun k hk => by simp only [upd, if_neg (show k ≠ i by omega)])]
      simp only [upd, if_true]
      omega
    · rw [ih (by omega)]
      simp only [upd, if_neg (show n ≠ i by omega)]
      omega
theorem hk_phS {a a1 : Nat → Nat → Int32} {j : Nat} {i x z : Int32} (he : a1 = va_up a j (upd (a j) i.toNatClampNeg x)) (hz : a j i.toNatClampNeg = z) (h0 : 0 ≤ i.toInt ∧ i.toInt < ((14344 : Nat) : Int)) : hk_ph (a1 j) = hk_ph (a j) - hk_phi z.toInt + hk_phi x.toInt := by
  subst he
  have : va_up a j (upd (a j) i.toNatClampNeg x) j = upd (a j) i.toNatClampNeg x := by simp [va_up]
  rw [this, ← hz]
  unfold hk_ph
  refine hk_smU _ _ _ 14344 ?_
  have := hk_tnc h0.1
  omega
theorem hk_phF {f : Nat → Int32} (h : ∀ k, k < 14344 → f k = 1024) : hk_ph f = 0 := by
  unfold hk_ph
  rw [hk_smC (f := fun _ => 1024) 14344 h]
  have : ∀ n, hk_sm (fun _ => 1024) n = 0 := by
    intro n
    induction n with
    | zero => rfl
    | succ n ih =>
      rw [hk_sm_succ, ih]
      decide
  exact this _
theorem hk_phC {f f' : Nat → Int32} (h : ∀ k, k < 14344 → f' k = f k) : hk_ph f' = hk_ph f := by
  unfold hk_ph
  exact hk_smC 14344 h
def hk_lg (r : Int64) : Int := (Nat.log2 r.toInt.toNat : Int)
theorem hk_lgle {r : Int64} {k : Nat} (h : (2 ^ k : Nat) ≤ r.toInt.toNat) : (k : Int) ≤ hk_lg r := by
  unfold hk_lg
  have hn : r.toInt.toNat ≠ 0 := by
    have := Nat.two_pow_pos k
    omega
  have := (Nat.le_log2 hn).mpr h
  omega
theorem hk_lgself {r : Int64} (h : 0 < r.toInt) : ∃ k : Nat, hk_lg r = (k : Int) ∧ (2 ^ k : Nat) ≤ r.toInt.toNat ∧ r.toInt.toNat < 2 ^ (k + 1) := by
  have hn : r.toInt.toNat ≠ 0 := by omega
  refine ⟨Nat.log2 r.toInt.toNat, rfl, (Nat.le_log2 hn).mp (Nat.le_refl _), ?_⟩
  exact Nat.lt_log2_self
theorem hk_lgr {r : Int64} (h : 16777216 ≤ r.toInt ∧ r.toInt ≤ 4294967295) : 24 ≤ hk_lg r ∧ hk_lg r ≤ 31 := by
  obtain ⟨k, e, h1, h2⟩ := hk_lgself (r := r) (by omega)
  rw [e]
  constructor
  · have := hk_lgle (r := r) (k := 24) (by omega)
    rw [e] at this
    exact this
  · by_cases hk : k ≤ 31
    · omega
    · have : 2 ^ 32 ≤ 2 ^ k := Nat.pow_le_pow_right (by decide) (by omega)
      omega
theorem hk_lg8 {r z : Int64} (h : 0 < r.toInt ∧ r.toInt < 16777216) (hz : z.toInt = r.toInt * 256) : hk_lg r + 8 ≤ hk_lg z := by
  obtain ⟨k, e, h1, -⟩ := hk_lgself h.1
  have := hk_lgle (r := z) (k := k + 8) (by rw [Nat.pow_add]; omega)
  omega
theorem hk_lg1 {r z : Int64} (h : 2 ≤ r.toInt) (hz : z.toInt = r.toInt / 2) : hk_lg r ≤ hk_lg z + 1 := by
  obtain ⟨k, e, h1, h2⟩ := hk_lgself (r := r) (by omega)
  cases k with
  | zero => omega
  | succ k =>
    have := hk_lgle (r := z) (k := k) (by rw [Nat.pow_succ] at h1; omega)
    omega
theorem hk_tab0 : ∀ n, n < 1987 → (11 : Int) - (Nat.log2 (31 + n) : Int) + hk_phi (((31 + n : Nat) : Int) + (2048 - ((31 + n : Nat) : Int)) / 32) ≤ hk_phi ((31 + n : Nat) : Int) + 4 := by decide +kernel
theorem hk_tab1 : ∀ n, n < 1987 → (11 : Int) - (Nat.log2 (2048 - (31 + n)) : Int) + hk_phi (((31 + n : Nat) : Int) - ((31 + n : Nat) : Int) / 32) ≤ hk_phi ((31 + n : Nat) : Int) + 4 := by decide +kernel
theorem hk_lgm {r b : Int64} {x : Nat} (hr : 16777216 ≤ r.toInt ∧ r.toInt ≤ 4294967295) (hx : 31 ≤ x) (hb : r.toInt / 2048 * (x : Int) ≤ b.toInt) : hk_lg r - 11 + (Nat.log2 x : Int) ≤ hk_lg b := by
  obtain ⟨k, e, h1, -⟩ := hk_lgself (r := r) (by omega)
  have h24 := (hk_lgr hr).1
  rw [e] at h24
  have hx1 : 2 ^ Nat.log2 x ≤ x := (Nat.le_log2 (by omega)).mp (Nat.le_refl _)
  have hp : 2 ^ k = 2 ^ (k - 11) * 2048 := by
    rw [show (2048 : Nat) = 2 ^ 11 from rfl, ← Nat.pow_add]
    congr 1
    omega
  have h2 : 2 ^ (k - 11) ≤ r.toInt.toNat / 2048 := by
    rw [hp] at h1
    exact (Nat.le_div_iff_mul_le (by decide)).mpr h1
  have h3 : 2 ^ (k - 11 + Nat.log2 x) ≤ r.toInt.toNat / 2048 * x := by
    rw [Nat.pow_add]
    exact Nat.mul_le_mul h2 hx1
  have h4 : ((r.toInt.toNat / 2048 * x : Nat) : Int) = r.toInt / 2048 * (x : Int) := by
    rw [Int.natCast_mul, Int.natCast_ediv]
    congr 1
    omega
  have := hk_lgle (r := b) (k := k - 11 + Nat.log2 x) (by omega)
  omega
theorem hk_q0 {r b : Int64} {x x' : Int} (hx : 31 ≤ x ∧ x ≤ 2017) (hx' : x' = x + (2048 - x) / 32) (hr : 16777216 ≤ r.toInt ∧ r.toInt ≤ 4294967295) (hb : b.toInt = r.toInt / 2048 * x) : hk_lg r + hk_phi x' ≤ hk_lg b + hk_phi x + 4 := by
  obtain ⟨n, hn⟩ : ∃ n : Nat, x = ((31 + n : Nat) : Int) := ⟨(x - 31).toNat, by omega⟩
  subst hx'
  subst hn
  have h1 := hk_tab0 n (by omega)
  have h2 := hk_lgm (r := r) (b := b) (x := 31 + n) hr (by omega) (by rw [hb]; exact Int.le_refl _)
  omega
theorem hk_q1 {r b : Int64} {x x' : Int} (hx : 31 ≤ x ∧ x ≤ 2017) (hx' : x' = x - x / 32) (hr : 16777216 ≤ r.toInt ∧ r.toInt ≤ 4294967295) (hb : b.toInt = r.toInt - r.toInt / 2048 * x) : hk_lg r + hk_phi x' ≤ hk_lg b + hk_phi x + 4 := by
  obtain ⟨n, hn⟩ : ∃ n : Nat, x = ((31 + n : Nat) : Int) := ⟨(x - 31).toNat, by omega⟩
  subst hx'
  subst hn
  have h1 := hk_tab1 n (by omega)
  have h3 : r.toInt / 2048 * ((2048 - (31 + n) : Nat) : Int) ≤ b.toInt := by
    rw [hb, show ((2048 - (31 + n) : Nat) : Int) = 2048 - ((31 + n : Nat) : Int) by omega, Int.mul_sub]
    omega
  have h2 := hk_lgm (r := r) (b := b) (x := 2048 - (31 + n)) hr (by omega) h3
  omega
theorem hk_bnd {r x b : Int} (hr : 16777216 ≤ r ∧ r ≤ 4294967295) (hx : 31 ≤ x ∧ x ≤ 2017) (hb : b = r / 2048 * x) : 253952 ≤ b ∧ b ≤ 4294967295 ∧ 253952 ≤ r - b := by
  have h1 : 8192 ≤ r / 2048 := by omega
  have h2 : 8192 * 31 ≤ r / 2048 * x := Int.mul_le_mul h1 hx.1 (by decide) (by omega)
  have h3 : r / 2048 * x ≤ r / 2048 * 2017 := Int.mul_le_mul_of_nonneg_left hx.2 (by omega)
  omega
theorem hE_lmul {a b z : Int64} (h : a * b = z) (ha : 0 ≤ a.toInt ∧ a.toInt ≤ 2097151) (hb : 0 ≤ b.toInt ∧ b.toInt ≤ 2047) : z.toInt = a.toInt * b.toInt := by
  subst h
  rw [Int64.toInt_mul, hE_bmL]
  have h1 : 0 ≤ a.toInt * b.toInt := Int.mul_nonneg ha.1 hb.1
  have h2 : a.toInt * b.toInt ≤ 2097151 * 2047 := Int.mul_le_mul ha.2 hb.2 hb.1 (by decide)
  omega
theorem hE_condL (x : Int64) : x.toInt = if 2 * x.toBitVec.toNat < 18446744073709551616 then (x.toBitVec.toNat : Int) else (x.toBitVec.toNat : Int) - 18446744073709551616 := by
  have h := BitVec.toInt_eq_toNat_cond x.toBitVec
  simp only [show (2 ^ 64 : Nat) = 18446744073709551616 from rfl] at h
  exact h
theorem hE_natL (x : Int64) : (x.toBitVec.toNat : Int) = x.toInt % 18446744073709551616 := by
  have h := hE_condL x
  have hl : x.toBitVec.toNat < 18446744073709551616 := x.toBitVec.isLt
  split at h <;> omega
theorem hE_lshr (k : Nat) (M : Int) {x z c : Int64} (h : x >>> c = z) (hc : c.toBitVec.smod 64 = BitVec.ofNat 64 k) (hk : k < 64) (hM : ((2 ^ k : Nat) : Int) = M) : z.toInt = x.toInt / M := by
  subst h
  subst hM
  show (x >>> c).toBitVec.toInt = _
  rw [Int64.toBitVec_shiftRight, hc, BitVec.sshiftRight_eq', BitVec.toInt_sshiftRight, BitVec.toNat_ofNat, Nat.mod_eq_of_lt (by omega), Int.shiftRight_eq_div_pow]
  rfl
theorem hE_lshl (k : Nat) (M : Int) {x z c : Int64} (h : x <<< c = z) (hc : c.toBitVec.smod 64 = BitVec.ofNat 64 k) (hk : k < 64) (hM : ((2 ^ k : Nat) : Int) = M) : z.toInt = (x.toInt * M + 9223372036854775808) % 18446744073709551616 - 9223372036854775808 := by
  subst h
  subst hM
  have h0 : ((x <<< c).toBitVec.toNat : Int) % 18446744073709551616 = (x.toInt * ((2 ^ k : Nat) : Int)) % 18446744073709551616 := by
    rw [Int64.toBitVec_shiftLeft, hc, BitVec.shiftLeft_eq', BitVec.toNat_shiftLeft, BitVec.toNat_ofNat, Nat.mod_eq_of_lt (show k < 2 ^ 64 by omega), Nat.shiftLeft_eq, Int.natCast_emod, Int.natCast_mul, hE_natL]
    show _ % 18446744073709551616 % 18446744073709551616 = _
    rw [Int.emod_emod, Int.mul_emod, Int.emod_emod, ← Int.mul_emod]
  have h1 := hE_natL (x <<< c)
  have h2 := hE_rngL (x <<< c)
  omega
/-- a table that agrees with another in its first entries -/
def hk_ag (n : Nat) (f h : Nat → Int32) : Prop := ∀ k, k < n → f k = h k
theorem hk_ag0 {n : Nat} {f h : Nat → Int32} (e : n = 0) : hk_ag n f h := fun k hk => by omega
theorem hk_agS {a a1 : Nat → Nat → Int32} {j : Nat} {i x z : Int32} {h : Nat → Int32} (he : a1 = va_up a j (upd (a j) i.toNatClampNeg x)) (hh : hk_ag i.toNatClampNeg (a j) h) (hx : x = h i.toNatClampNeg) (h0 : 0 ≤ i.toInt ∧ z.toInt = i.toInt + 1) : hk_ag z.toNatClampNeg (a1 j) h := by
  subst he
  have : va_up a j (upd (a j) i.toNatClampNeg x) j = upd (a j) i.toNatClampNeg x := by simp [va_up]
  rw [this]
  intro k hk
  have h1 := hk_tnc h0.1
  have h2 := hk_tnc (i := z) (by omega)
  unfold upd
  split
  · rename_i e
    rw [e, hx]
  · exact hh k (by omega)
theorem hk_agL {i : Int32} {n : Nat} {f h : Nat → Int32} (hh : hk_ag i.toNatClampNeg f h) (hi : (n : Int) ≤ i.toInt) : hk_ag n f h := fun k hk => hh k (by have := hk_tnc (i := i) (by omega); omega)
theorem hk_agR {n : Nat} {lo hi : Int} {f h : Nat → Int32} (hh : hk_ag n f h) (hr : hk_rb n lo hi h) : hk_rb n lo hi f := fun k hk => by rw [hh k hk]; exact hr k hk
