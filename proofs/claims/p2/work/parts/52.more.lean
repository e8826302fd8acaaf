/-! more of ints; tables kept; names -/
theorem hk_no0 (a : Int) (h : a ≤ -1) (e : a = 0) : False := by omega
theorem hk_rk {r : Int} {k : Nat} (h : r ≤ ((k + 1 : Nat) : Int)) : r ≤ (k : Int) + 1 := by omega
theorem hk_pE {P : (Nat → Int32) → Prop} {f f' : Nat → Int32} (h : P f) (he : f' = f) : P f' := he ▸ h
theorem hk_upgN {f f' : Nat → Int32} {j : Nat} {x : Int32} (h : f' = upd f j x) (k : Nat) (hk : (k == j) = false) : f' k = f k := by
  subst h
  have : k ≠ j := by simpa using hk
  simp only [upd, if_neg this]
theorem hk_upgS {f f' : Nat → Int32} {j : Nat} {x : Int32} (h : f' = upd f j x) : f' j = x := by
  subst h
  simp [upd]
theorem hk_uplN {f f' : Nat → Int64} {j : Nat} {x : Int64} (h : f' = vp_updL f j x) (k : Nat) (hk : (k == j) = false) : f' k = f k := by
  subst h
  have : k ≠ j := by simpa using hk
  simp only [vp_updL, if_neg this]
theorem hk_uplS {f f' : Nat → Int64} {j : Nat} {x : Int64} (h : f' = vp_updL f j x) : f' j = x := by
  subst h
  simp [vp_updL]
theorem hk_upaN {f f' : Nat → Nat → Int32} {j : Nat} {x : Nat → Int32} (h : f' = va_up f j x) (k : Nat) (hk : (k == j) = false) : f' k = f k := by
  subst h
  have : k ≠ j := by simpa using hk
  simp only [va_up, if_neg this]
/-- every entry of a table at a place that leaves r over m lies within bounds -/
def hk_rm (m r : Nat) (lo hi : Int) (f : Nat → Int32) : Prop := ∀ k, k % m = r → lo ≤ (f k).toInt ∧ (f k).toInt ≤ hi
theorem hk_tnc {i : Int32} (h : 0 ≤ i.toInt) : ((i.toNatClampNeg : Nat) : Int) = i.toInt := by
  show ((i.toInt.toNat : Nat) : Int) = i.toInt
  omega
theorem hk_rmV {m r : Nat} {lo hi : Int} {f : Nat → Int32} {i z : Int32} (h : hk_rm m r lo hi f) (hz : f i.toNatClampNeg = z) (h0 : 0 ≤ i.toInt) : i.toInt % (m : Int) = (r : Int) → lo ≤ z.toInt ∧ z.toInt ≤ hi := by
  intro h1
  subst hz
  refine h _ ?_
  have h2 : ((i.toNatClampNeg % m : Nat) : Int) = (r : Int) := by rw [Int.natCast_emod, hk_tnc h0]; exact h1
  omega
theorem hk_rmS {m r : Nat} {lo hi : Int} {a a1 : Nat → Nat → Int32} {j : Nat} {i x : Int32} (he : a1 = va_up a j (upd (a j) i.toNatClampNeg x)) (h : hk_rm m r lo hi (a j)) (hx : 0 ≤ i.toInt ∧ (i.toInt % (m : Int) = (r : Int) → lo ≤ x.toInt ∧ x.toInt ≤ hi)) : hk_rm m r lo hi (a1 j) := by
  subst he
  have : va_up a j (upd (a j) i.toNatClampNeg x) j = upd (a j) i.toNatClampNeg x := by simp [va_up]
  rw [this]
  intro k hk
  unfold upd
  split
  · rename_i e
    refine hx.2 ?_
    rw [← hk_tnc hx.1, ← Int.natCast_emod, ← e, hk]
  · exact h k hk
theorem jx_nar (wf : jWf) {D : va_G} {A : Nat → Prop} {s : State} {H : Heap} {locs : List Loc} {cI cJ : ClassId} {ad : Nat → Nat} {g : Nat → Int32} {lg : Nat → Int64} {ar : Nat → Nat → Int32} {bk : Nat → Int64} (j : Nat) {ws : va_W} {f : Nat → Int32} (hw : hk_W D (jT cI cJ) A s H locs ws) (he : ws = wf cI cJ ad g lg (va_up ar j f) bk) : ∃ a1 : Nat → Nat → Int32, a1 = va_up ar j f ∧ hk_W D (jT cI cJ) A s H locs (wf cI cJ ad g lg a1 bk) := ⟨_, rfl, he ▸ hw⟩
theorem hE_neg {x z : Int32} (h : -x = z) : z.toInt = (-x.toInt + 2147483648) % 4294967296 - 2147483648 := by
  subst h
  rw [Int32.toInt_neg, hE_bm]
theorem hE_cond (x : Int32) : x.toInt = if 2 * x.toBitVec.toNat < 4294967296 then (x.toBitVec.toNat : Int) else (x.toBitVec.toNat : Int) - 4294967296 := by
  have h := BitVec.toInt_eq_toNat_cond x.toBitVec
  simp only [show (2 ^ 32 : Nat) = 4294967296 from rfl] at h
  exact h
theorem hE_nat (x : Int32) : (x.toBitVec.toNat : Int) = x.toInt % 4294967296 := by
  have h := hE_cond x
  have hl : x.toBitVec.toNat < 4294967296 := x.toBitVec.isLt
  split at h <;> omega
theorem hE_pos {x : Int32} (h : x.toBitVec.toNat < 2147483648) : x.toInt = (x.toBitVec.toNat : Int) := by
  have := hE_cond x
  rw [if_pos (by omega)] at this
  exact this
theorem hE_modn (k : Nat) (hk : k ≤ 31) (x : Int32) : ((x.toBitVec.toNat % 2 ^ k : Nat) : Int) = x.toInt % ((2 ^ k : Nat) : Int) := by
  have hd : (4294967296 : Int) = ((2 ^ k : Nat) : Int) * ((2 ^ (32 - k) : Nat) : Int) := by
    rw [← Int.natCast_mul, ← Nat.pow_add, show k + (32 - k) = 32 by omega]
    rfl
  rw [Int.natCast_emod, hE_nat]
  exact Int.emod_emod_of_dvd _ ⟨_, hd⟩
theorem hE_and (k : Nat) (M : Int) {x y z : Int32} (h : x &&& y = z) (hk : k ≤ 31) (hy : y.toBitVec.toNat = 2 ^ k - 1) (hM : ((2 ^ k : Nat) : Int) = M) : z.toInt = x.toInt % M := by
  subst h
  subst hM
  have e1 : (x &&& y).toBitVec.toNat = x.toBitVec.toNat % 2 ^ k := by
    rw [Int32.toBitVec_and, BitVec.toNat_and, hy, Nat.and_two_pow_sub_one_eq_mod]
  have hlt : x.toBitVec.toNat % 2 ^ k < 2147483648 := Nat.lt_of_lt_of_le (Nat.mod_lt _ (Nat.two_pow_pos k)) (Nat.pow_le_pow_right (by decide) hk)
  rw [hE_pos (by rw [e1]; exact hlt), e1, hE_modn k hk]
theorem hE_andB {x y z : Int32} (h : x &&& y = z) (hy : 0 ≤ y.toInt) : 0 ≤ z.toInt ∧ z.toInt ≤ y.toInt := by
  subst h
  have hy1 : y.toBitVec.toNat < 2147483648 := by
    have := hE_cond y
    have hl : y.toBitVec.toNat < 4294967296 := y.toBitVec.isLt
    split at this <;> omega
  have e1 : (x &&& y).toBitVec.toNat ≤ y.toBitVec.toNat := by
    rw [Int32.toBitVec_and, BitVec.toNat_and]
    exact Nat.and_le_right
  rw [hE_pos (x := x &&& y) (by omega), hE_pos hy1]
  omega
theorem hE_and2 {x y z : Int32} (h : x &&& y = z) : (0 ≤ x.toInt → 0 ≤ z.toInt ∧ z.toInt ≤ x.toInt) ∧ (0 ≤ y.toInt → 0 ≤ z.toInt ∧ z.toInt ≤ y.toInt) :=
  ⟨fun hx => hE_andB (by rw [Int32.and_comm]; exact h) hx, fun hy => hE_andB h hy⟩
theorem hE_or1 {x y z : Int32} (h : x ||| y = z) : (x.toInt % 2 = 0 ∧ 0 ≤ y.toInt ∧ y.toInt ≤ 1) → z.toInt = x.toInt + y.toInt := by
  rintro ⟨hx, h0, h1⟩
  subst h
  have hyn : y.toBitVec.toNat < 2 := by
    have := hE_cond y
    have hl : y.toBitVec.toNat < 4294967296 := y.toBitVec.isLt
    split at this <;> omega
  have hxn : x.toBitVec.toNat % 2 = 0 := by
    have := hE_nat x
    omega
  have e1 : (x ||| y).toBitVec.toNat = x.toBitVec.toNat + y.toBitVec.toNat := by
    rw [Int32.toBitVec_or, BitVec.toNat_or]
    have h2 : x.toBitVec.toNat = 2 * (x.toBitVec.toNat / 2) := by omega
    rw [h2]
    have := Nat.two_pow_add_eq_or_of_lt (i := 1) (b := y.toBitVec.toNat) (by omega) (x.toBitVec.toNat / 2)
    simp only [Nat.pow_one] at this
    omega
  have c1 := hE_cond (x ||| y)
  have c2 := hE_cond x
  have c3 := hE_cond y
  rw [e1] at c1
  have hl : x.toBitVec.toNat < 4294967296 := x.toBitVec.isLt
  split at c1 <;> split at c2 <;> split at c3 <;> omega
theorem hE_small {y : Int32} (N : Nat) (h0 : 0 ≤ y.toInt) (h1 : y.toInt < (N : Int)) : ∃ n, n < N ∧ y = Int32.ofNat n := by
  refine ⟨y.toInt.toNat, by omega, ?_⟩
  have hr := hE_rng y
  rw [← Int32.toInt_inj, Int32.toInt_ofNat_of_lt (by omega)]
  omega
theorem hE_shl1 {y z : Int32} (h : (1 : Int32) <<< (y &&& 31) = z) : (0 ≤ y.toInt ∧ y.toInt ≤ 8) → (1 ≤ z.toInt ∧ z.toInt ≤ 256) := by
  rintro ⟨h0, h1⟩
  obtain ⟨n, hn, rfl⟩ := hE_small 9 h0 (by omega)
  subst h
  have : ∀ n, n < 9 → 1 ≤ ((1 : Int32) <<< (Int32.ofNat n &&& 31)).toInt ∧ ((1 : Int32) <<< (Int32.ofNat n &&& 31)).toInt ≤ 256 := by decide
  exact this n hn
theorem hE_shl768 {y z : Int32} (h : (768 : Int32) <<< (y &&& 31) = z) : (0 ≤ y.toInt ∧ y.toInt ≤ 8) → (768 ≤ z.toInt ∧ z.toInt ≤ 196608) := by
  rintro ⟨h0, h1⟩
  obtain ⟨n, hn, rfl⟩ := hE_small 9 h0 (by omega)
  subst h
  have : ∀ n, n < 9 → 768 ≤ ((768 : Int32) <<< (Int32.ofNat n &&& 31)).toInt ∧ ((768 : Int32) <<< (Int32.ofNat n &&& 31)).toInt ≤ 196608 := by decide
  exact this n hn
theorem hE_andN (k : Nat) (M : Int) {x y z : Int32} (h : x &&& y = z) (hk : k ≤ 31) (hy : ~~~y.toBitVec = BitVec.ofNat 32 (2 ^ k - 1)) (hM : ((2 ^ k : Nat) : Int) = M) : z.toInt = x.toInt - x.toInt % M := by
  subst h
  have hk2 : 2 ^ k - 1 < 4294967296 := by
    have : 2 ^ k ≤ 2 ^ 31 := Nat.pow_le_pow_right (by decide) hk
    omega
  have e0 : (Int32.ofBitVec (~~~y.toBitVec)).toBitVec.toNat = 2 ^ k - 1 := by
    show (~~~y.toBitVec).toNat = _
    rw [hy, BitVec.toNat_ofNat]
    exact Nat.mod_eq_of_lt hk2
  have e1 : (x &&& Int32.ofBitVec (~~~y.toBitVec)).toInt = x.toInt % M := hE_and k M rfl hk e0 hM
  have e2 : (x &&& y) + (x &&& Int32.ofBitVec (~~~y.toBitVec)) = x := by
    rw [← Int32.toBitVec_inj, Int32.toBitVec_add, Int32.toBitVec_and, Int32.toBitVec_and]
    show (x.toBitVec &&& y.toBitVec) + (x.toBitVec &&& ~~~y.toBitVec) = x.toBitVec
    rw [BitVec.add_eq_or_of_and_eq_zero]
    · ext i hi
      simp only [BitVec.getElem_or, BitVec.getElem_and, BitVec.getElem_not]
      cases x.toBitVec[i] <;> cases y.toBitVec[i] <;> rfl
    · ext i hi
      simp only [BitVec.getElem_and, BitVec.getElem_not, BitVec.getElem_zero]
      cases x.toBitVec[i] <;> cases y.toBitVec[i] <;> rfl
  have e3 := hE_add e2
  rw [e1] at e3
  have hM0 : 0 < M := by
    rw [← hM]
    have := Nat.two_pow_pos k
    omega
  have hM1 : M ≤ 2147483648 := by
    rw [← hM]
    have : 2 ^ k ≤ 2 ^ 31 := Nat.pow_le_pow_right (by decide) hk
    omega
  have hr := hE_rng x
  have hz := hE_rng (x &&& y)
  have hm0 := Int.emod_nonneg x.toInt (show M ≠ 0 by omega)
  have hm1 := Int.emod_lt_of_pos x.toInt hM0
  have hlow : -2147483648 ≤ x.toInt - x.toInt % M := by
    have hd : M ∣ (-2147483648 : Int) := by
      rw [← hM]
      refine ⟨-((2 ^ (31 - k) : Nat) : Int), ?_⟩
      rw [Int.mul_neg, ← Int.natCast_mul, ← Nat.pow_add, show k + (31 - k) = 31 by omega]
      rfl
    obtain ⟨c, hc⟩ := hd
    have h1 : x.toInt - x.toInt % M = M * (x.toInt / M) := by
      have := Int.mul_ediv_add_emod x.toInt M
      omega
    rw [h1, hc]
    refine Int.mul_le_mul_of_nonneg_left ?_ (by omega)
    refine Int.le_ediv_of_mul_le hM0 ?_
    rw [Int.mul_comm, ← hc]
    exact hr.1
  omega
theorem hE_div (k : Int) {x y z : Int32} (h : x / y = z) (hy : y.toInt = k) (hk : 0 < k) : (0 ≤ x.toInt → z.toInt = x.toInt / k) ∧ (x.toInt ≤ 0 → z.toInt = -(-x.toInt / k)) := by
  subst h
  have hr := hE_rng x
  have e := Int32.toInt_div x y
  rw [hy, hE_bm] at e
  constructor
  · intro h0
    rw [Int.tdiv_eq_ediv_of_nonneg h0] at e
    have h1 : 0 ≤ x.toInt / k := Int.ediv_nonneg h0 (by omega)
    have h2 : x.toInt / k ≤ x.toInt := Int.ediv_le_self _ h0
    omega
  · intro h0
    have h3 : x.toInt.tdiv k = -(-x.toInt / k) := by
      have : x.toInt = - -x.toInt := by omega
      rw [this, Int.neg_tdiv, Int.tdiv_eq_ediv_of_nonneg (by omega), Int.neg_neg]
    rw [h3] at e
    have h1 : 0 ≤ -x.toInt / k := Int.ediv_nonneg (by omega) (by omega)
    have h2 : -x.toInt / k ≤ -x.toInt := Int.ediv_le_self _ (by omega)
    omega
theorem hE_rem (k : Int) {x y z : Int32} (h : x - x / y * y = z) (hy : y.toInt = k) (hk : 0 < k) : (0 ≤ x.toInt → z.toInt = x.toInt % k) ∧ (x.toInt ≤ 0 → z.toInt = -(-x.toInt % k)) := by
  have hr := hE_rng x
  have hq := hE_div k (x := x) (y := y) rfl hy hk
  have hm := hE_mul k (x := x / y) (y := y) rfl hy
  have hs := hE_sub h
  constructor
  · intro h0
    have q := hq.1 h0
    rw [q] at hm
    have e := Int.mul_ediv_add_emod x.toInt k
    have m0 := Int.emod_nonneg x.toInt (show k ≠ 0 by omega)
    have m1 : x.toInt % k ≤ x.toInt := by
      have : 0 ≤ k * (x.toInt / k) := Int.mul_nonneg (by omega) (Int.ediv_nonneg h0 (by omega))
      omega
    rw [Int.mul_comm] at e
    omega
  · intro h0
    have q := hq.2 h0
    rw [q] at hm
    have e := Int.mul_ediv_add_emod (-x.toInt) k
    have m0 := Int.emod_nonneg (-x.toInt) (show k ≠ 0 by omega)
    have m1 : -x.toInt % k ≤ -x.toInt := by
      have : 0 ≤ k * (-x.toInt / k) := Int.mul_nonneg (by omega) (Int.ediv_nonneg (by omega) (by omega))
      omega
    rw [Int.mul_comm] at e
    rw [Int.neg_mul] at hm
    omega
theorem hE_shr (k : Nat) (M : Int) {x c z : Int32} (h : x >>> c = z) (hc : c.toBitVec.smod 32 = BitVec.ofNat 32 k) (hk : k < 32) (hM : ((2 ^ k : Nat) : Int) = M) : z.toInt = x.toInt / M := by
  subst h
  subst hM
  show (x >>> c).toBitVec.toInt = _
  rw [Int32.toBitVec_shiftRight, hc, BitVec.sshiftRight_eq', BitVec.toInt_sshiftRight, BitVec.toNat_ofNat, Nat.mod_eq_of_lt (by omega), Int.shiftRight_eq_div_pow]
  rfl
theorem hE_cong {x : Int32} {a : Int} (h : (x.toBitVec.toNat : Int) % 4294967296 = a % 4294967296) : x.toInt = (a + 2147483648) % 4294967296 - 2147483648 := by
  have h1 := hE_nat x
  have h2 := hE_rng x
  omega
theorem hE_shl (k : Nat) (M : Int) {x c z : Int32} (h : x <<< c = z) (hc : c.toBitVec.smod 32 = BitVec.ofNat 32 k) (hk : k < 32) (hM : ((2 ^ k : Nat) : Int) = M) : z.toInt = (x.toInt * M + 2147483648) % 4294967296 - 2147483648 := by
  subst h
  subst hM
  refine hE_cong ?_
  rw [Int32.toBitVec_shiftLeft, hc, BitVec.shiftLeft_eq', BitVec.toNat_shiftLeft, BitVec.toNat_ofNat, Nat.mod_eq_of_lt (show k < 2 ^ 32 by omega), Nat.shiftLeft_eq, Int.natCast_emod, Int.natCast_mul, hE_nat]
  show _ % 4294967296 % 4294967296 = _
  rw [Int.emod_emod, Int.mul_emod, Int.emod_emod, ← Int.mul_emod]
theorem hE_ushr (k : Nat) (M : Int) {x z : Int32} {c : UInt32} (h : (x.toUInt32 >>> c).toInt32 = z) (hc : c.toBitVec % 32 = BitVec.ofNat 32 k) (hk : 0 < k ∧ k < 32) (hM : ((2 ^ k : Nat) : Int) = M) : z.toInt = x.toInt % 4294967296 / M := by
  subst h
  subst hM
  have e1 : ((x.toUInt32 >>> c).toInt32).toBitVec.toNat = x.toBitVec.toNat / 2 ^ k := by
    show (x.toUInt32 >>> c).toBitVec.toNat = _
    rw [UInt32.toBitVec_shiftRight, hc, BitVec.ushiftRight_eq', BitVec.toNat_ushiftRight, BitVec.toNat_ofNat, Nat.mod_eq_of_lt (show k < 2 ^ 32 by omega), Nat.shiftRight_eq_div_pow]
    rfl
  have h2 : x.toBitVec.toNat / 2 ^ k < 2147483648 := by
    have hl : x.toBitVec.toNat < 4294967296 := x.toBitVec.isLt
    have : 2 ^ 1 ≤ 2 ^ k := Nat.pow_le_pow_right (by decide) hk.1
    refine Nat.lt_of_le_of_lt (Nat.div_le_div_left this (by decide)) ?_
    omega
  rw [hE_pos (by rw [e1]; exact h2), e1, Int.natCast_ediv, hE_nat]
theorem hE_min {x y z : Int32} (h : (if y < x then y else x) = z) : z.toInt ≤ x.toInt ∧ z.toInt ≤ y.toInt ∧ (z.toInt = x.toInt ∨ z.toInt = y.toInt) := by
  subst h
  split
  · rename_i c; have := hE_lt c; omega
  · rename_i c; have := hE_nlt c; omega
theorem hE_max {x y z : Int32} (h : (if x < y then y else x) = z) : x.toInt ≤ z.toInt ∧ y.toInt ≤ z.toInt ∧ (z.toInt = x.toInt ∨ z.toInt = y.toInt) := by
  subst h
  split
  · rename_i c; have := hE_lt c; omega
  · rename_i c; have := hE_nlt c; omega
theorem hE_imp {z e : Int} (h : z = (e + 2147483648) % 4294967296 - 2147483648) : (-2147483648 ≤ e ∧ e ≤ 2147483647) → z = e := by omega
theorem hE_impL {z e : Int} (h : z = (e + 9223372036854775808) % 18446744073709551616 - 9223372036854775808) : (-9223372036854775808 ≤ e ∧ e ≤ 9223372036854775807) → z = e := by omega
theorem hE_addS {x y z : Int32} (h : x + y = z) : z.toInt = (x.toInt + y.toInt + 2147483648) % 4294967296 - 2147483648 ∧ ((-2147483648 ≤ x.toInt + y.toInt ∧ x.toInt + y.toInt ≤ 2147483647) → z.toInt = x.toInt + y.toInt) := ⟨hE_add h, hE_imp (hE_add h)⟩
theorem hE_subS {x y z : Int32} (h : x - y = z) : z.toInt = (x.toInt - y.toInt + 2147483648) % 4294967296 - 2147483648 ∧ ((-2147483648 ≤ x.toInt - y.toInt ∧ x.toInt - y.toInt ≤ 2147483647) → z.toInt = x.toInt - y.toInt) := ⟨hE_sub h, hE_imp (hE_sub h)⟩
theorem hE_addLS {x y z : Int64} (h : x + y = z) : z.toInt = (x.toInt + y.toInt + 9223372036854775808) % 18446744073709551616 - 9223372036854775808 ∧ ((-9223372036854775808 ≤ x.toInt + y.toInt ∧ x.toInt + y.toInt ≤ 9223372036854775807) → z.toInt = x.toInt + y.toInt) := ⟨hE_addL h, hE_impL (hE_addL h)⟩
theorem hE_subLS {x y z : Int64} (h : x - y = z) : z.toInt = (x.toInt - y.toInt + 9223372036854775808) % 18446744073709551616 - 9223372036854775808 ∧ ((-9223372036854775808 ≤ x.toInt - y.toInt ∧ x.toInt - y.toInt ≤ 9223372036854775807) → z.toInt = x.toInt - y.toInt) := ⟨hE_subL h, hE_impL (hE_subL h)⟩
theorem hE_mulS {x y z : Int32} (k : Int) (h : x * y = z) (hk : y.toInt = k) : (-2147483648 ≤ x.toInt * k ∧ x.toInt * k ≤ 2147483647) → z.toInt = x.toInt * k := hE_imp (hE_mul k h hk)
theorem hE_mulS' {x y z : Int32} (k : Int) (h : x * y = z) (hk : x.toInt = k) : (-2147483648 ≤ y.toInt * k ∧ y.toInt * k ≤ 2147483647) → z.toInt = y.toInt * k := hE_imp (hE_mul' k h hk)
theorem hE_shlS (k : Nat) (M : Int) {x c z : Int32} (h : x <<< c = z) (hc : c.toBitVec.smod 32 = BitVec.ofNat 32 k) (hk : k < 32) (hM : ((2 ^ k : Nat) : Int) = M) : (-2147483648 ≤ x.toInt * M ∧ x.toInt * M ≤ 2147483647) → z.toInt = x.toInt * M := hE_imp (hE_shl k M h hc hk hM)
