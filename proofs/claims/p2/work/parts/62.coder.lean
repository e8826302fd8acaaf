/-! 62.coder -/
theorem ob44 (v0 : Int) (v1 : Int) (h0 : v0 = v1) (h1 : -2147483648 ≤ v0 ∧ v0 ≤ 2147483647) (h2 : v1 = 0) : v0 = 0 := by omega
theorem ob45 (v0 : Int) (v1 : Int) (v2 : Int) (v3 : Int) (v4 : Int) (v5 : Int) (v6 : Int) (h0 : 0 ≤ v0) (h1 : 2147483648 - v0 ≤ v2 + 1) (h2 : v0 < v3) (h3 : v4 = (v5 + v1 + 2147483648) % 4294967296 - 2147483648) (h4 : v6 = v3) (h5 : -2147483648 ≤ v0 ∧ v0 ≤ 2147483647) (h6 : v1 = 1) (h7 : -2147483648 ≤ v3 ∧ v3 ≤ 2147483647) (h8 : -2147483648 ≤ v4 ∧ v4 ≤ 2147483647) (h9 : -2147483648 ≤ v5 ∧ v5 ≤ 2147483647) (h10 : -2147483648 ≤ v6 ∧ v6 ≤ 2147483647) : -2147483648 ≤ v0 + v1 ∧ v0 + v1 ≤ 2147483647 := by omega
theorem ob46 (v0 : Int) (v1 : Int) (v2 : Int) (v3 : Int) (v4 : Int) (v5 : Int) (v6 : Int) (v7 : Int) (h0 : 2147483648 - v2 ≤ v1 + 1) (h1 : v0 = v2 + v3) (h2 : 0 ≤ v2) (h3 : v2 < v4) (h4 : v5 = (v6 + v3 + 2147483648) % 4294967296 - 2147483648) (h5 : v7 = v4) (h6 : -2147483648 ≤ v0 ∧ v0 ≤ 2147483647) (h7 : -2147483648 ≤ v2 ∧ v2 ≤ 2147483647) (h8 : v3 = 1) (h9 : -2147483648 ≤ v4 ∧ v4 ≤ 2147483647) (h10 : -2147483648 ≤ v5 ∧ v5 ≤ 2147483647) (h11 : -2147483648 ≤ v6 ∧ v6 ≤ 2147483647) (h12 : -2147483648 ≤ v7 ∧ v7 ≤ 2147483647) : 2147483648 - v0 ≤ v1 := by omega
theorem ob47 (v0 : Int) (v1 : Int) (v2 : Int) (v3 : Int) (v4 : Int) (v5 : Int) (v6 : Int) (v7 : Int) (h0 : v0 = v1 + v2) (h1 : 0 ≤ v1) (h2 : 2147483648 - v1 ≤ v3 + 1) (h3 : v1 < v4) (h4 : v5 = (v6 + v2 + 2147483648) % 4294967296 - 2147483648) (h5 : v7 = v4) (h6 : -2147483648 ≤ v0 ∧ v0 ≤ 2147483647) (h7 : -2147483648 ≤ v1 ∧ v1 ≤ 2147483647) (h8 : v2 = 1) (h9 : -2147483648 ≤ v4 ∧ v4 ≤ 2147483647) (h10 : -2147483648 ≤ v5 ∧ v5 ≤ 2147483647) (h11 : -2147483648 ≤ v6 ∧ v6 ≤ 2147483647) (h12 : -2147483648 ≤ v7 ∧ v7 ≤ 2147483647) : 0 ≤ v0 := by omega
theorem ob48 (v0 : Int) (h0 : v0 = 0) : 0 ≤ v0 ∧ v0 ≤ 1 := by omega
theorem ob49 (v0 : Int) (h0 : v0 = 1) : 0 ≤ v0 ∧ v0 ≤ 1 := by omega
theorem ob50 (v0 : Int) (v1 : Int) (h0 : v1 < v0) (h1 : v0 = 0) (h2 : -2147483648 ≤ v1 ∧ v1 ≤ 2147483647) : 0 ≤ v0 ∧ v0 ≤ 1 := by omega
theorem ob51 (v0 : Int) (v1 : Int) (h0 : -2147483648 ≤ v0 ∧ v0 ≤ 2147483647) (h1 : -2147483648 ≤ v1 ∧ v1 ≤ 2147483647) : v0 ≠ 0 → v1 = v1 := by omega
theorem ob52 (v0 : Int) (v1 : Int) (v2 : Int) (h0 : v1 ≤ v0) (h1 : v0 < v2) (h2 : -2147483648 ≤ v0 ∧ v0 ≤ 2147483647) (h3 : v1 = 0) (h4 : v2 = 14340) : 0 ≤ v0 ∧ v0 < (14340 : Nat) := by omega
theorem ob53 (v0 : Int) (h0 : 0 ≤ v0 ∧ v0 ≤ 1) (h1 : -2147483648 ≤ v0 ∧ v0 ≤ 2147483647) : 0 ≤ v0 ∧ v0 ≤ 1 := by omega
theorem ob54 (v0 : Int) (v1 : Int) (v2 : Int) (v3 : Int) (v4 : Int) (v5 : Int) (h0 : v0 = v3) (h1 : v3 ≤ v4) (h2 : v4 < v5) (h3 : -2147483648 ≤ v0 ∧ v0 ≤ 2147483647) (h4 : -2147483648 ≤ v1 ∧ v1 ≤ 2147483647) (h5 : -2147483648 ≤ v2 ∧ v2 ≤ 2147483647) (h6 : v3 = 0) (h7 : -2147483648 ≤ v4 ∧ v4 ≤ 2147483647) (h8 : v5 = 14340) : v0 ≠ 0 → v1 = v2 := by omega
theorem ob55 (v0 : Int) (v1 : Int) (v2 : Int) (v3 : Int) (h0 : v0 ≠ v1) (h1 : v1 ≤ v2) (h2 : v2 < v3) (h3 : -2147483648 ≤ v0 ∧ v0 ≤ 2147483647) (h4 : v1 = 0) (h5 : -2147483648 ≤ v2 ∧ v2 ≤ 2147483647) (h6 : v3 = 14340) : v0 ≠ 0 := by omega
theorem ob56 (v0 : Int) (v1 : Int) (h0 : v0 = v1) (h1 : -2147483648 ≤ v0 ∧ v0 ≤ 2147483647) (h2 : -2147483648 ≤ v1 ∧ v1 ≤ 2147483647) : v0 = v1 := by omega
theorem ob57 (v0 : Int) (v1 : Int) (v2 : Int) (v3 : Int) (v4 : Int) (v5 : Int) (h0 : v0 ≠ v3) (h1 : v1 = v2) (h2 : v3 ≤ v4) (h3 : v4 < v5) (h4 : -2147483648 ≤ v0 ∧ v0 ≤ 2147483647) (h5 : -2147483648 ≤ v1 ∧ v1 ≤ 2147483647) (h6 : -2147483648 ≤ v2 ∧ v2 ≤ 2147483647) (h7 : v3 = 0) (h8 : -2147483648 ≤ v4 ∧ v4 ≤ 2147483647) (h9 : v5 = 14340) : v0 ≠ 0 → v1 = v2 := by omega
theorem ob58 (v0 : Int) (v1 : Int) (v2 : Int) (v3 : Int) (h0 : v1 ≤ v0) (h1 : v0 < v2) (h2 : v3 ≠ v1) (h3 : 0 ≤ v3 ∧ v3 ≤ 1) (h4 : -2147483648 ≤ v0 ∧ v0 ≤ 2147483647) (h5 : v1 = 0) (h6 : v2 = 14340) (h7 : -2147483648 ≤ v3 ∧ v3 ≤ 2147483647) : 0 ≤ v0 ∧ v0 < (14340 : Nat) := by omega
theorem ob59 (v0 : Int) (v1 : Int) (v2 : Int) (v3 : Int) (h0 : v1 ≤ v0) (h1 : v0 < v2) (h2 : v3 = v1) (h3 : 0 ≤ v3 ∧ v3 ≤ 1) (h4 : -2147483648 ≤ v0 ∧ v0 ≤ 2147483647) (h5 : v1 = 0) (h6 : v2 = 14340) (h7 : -2147483648 ≤ v3 ∧ v3 ≤ 2147483647) : 0 ≤ v0 ∧ v0 < (14340 : Nat) := by omega
theorem ob60 (v0 : Int) (v1 : Int) (v2 : Int) (v3 : Int) (h0 : v0 ≤ v1) (h1 : v2 ≠ v0) (h2 : v1 < v3) (h3 : v0 = 0) (h4 : -2147483648 ≤ v1 ∧ v1 ≤ 2147483647) (h5 : -2147483648 ≤ v2 ∧ v2 ≤ 2147483647) (h6 : v3 = 14340) : 0 ≤ v0 ∧ v0 ≤ 1 := by omega
theorem ob61 (v0 : Int) (v1 : Int) (v2 : Int) (h0 : v0 ≤ v1) (h1 : v2 ≤ v1) (h2 : v0 = 0) (h3 : -2147483648 ≤ v1 ∧ v1 ≤ 2147483647) (h4 : v2 = 14340) : 0 ≤ v0 ∧ v0 ≤ 1 := by omega
theorem ob62 (v0 : Int) (v1 : Int) (v2 : Int) (v3 : Int) (h0 : v0 = v3) (h1 : -2147483648 ≤ v0 ∧ v0 ≤ 2147483647) (h2 : -2147483648 ≤ v1 ∧ v1 ≤ 2147483647) (h3 : -2147483648 ≤ v2 ∧ v2 ≤ 2147483647) (h4 : v3 = 0) : v0 ≠ 0 → v1 = v2 := by omega
theorem ob63 (v0 : Int) (v1 : Int) (h0 : v0 ≠ v1) (h1 : -2147483648 ≤ v0 ∧ v0 ≤ 2147483647) (h2 : v1 = 0) : v0 ≠ 0 := by omega
theorem ob64 (v0 : Int) (v1 : Int) (v2 : Int) (v3 : Int) (h0 : v0 ≠ v3) (h1 : v1 = v2) (h2 : -2147483648 ≤ v0 ∧ v0 ≤ 2147483647) (h3 : -2147483648 ≤ v1 ∧ v1 ≤ 2147483647) (h4 : -2147483648 ≤ v2 ∧ v2 ≤ 2147483647) (h5 : v3 = 0) : v0 ≠ 0 → v1 = v2 := by omega
theorem ob65 (v0 : Int) (v1 : Int) (h0 : v1 ≠ v0) (h1 : v0 = 0) (h2 : -2147483648 ≤ v1 ∧ v1 ≤ 2147483647) : 0 ≤ v0 ∧ v0 ≤ 1 := by omega
theorem ob66 (v0 : Int) (v1 : Int) (h0 : v0 = v1) (h1 : -2147483648 ≤ v0 ∧ v0 ≤ 2147483647) (h2 : v1 = 1) : v0 ≠ 0 := by omega
theorem ob67 (v0 : Int) (v1 : Int) (v2 : Int) (v3 : Int) (h0 : 0 ≤ v0) (h1 : 2147483648 - v0 ≤ v2 + 1) (h2 : v0 < v3) (h3 : -2147483648 ≤ v0 ∧ v0 ≤ 2147483647) (h4 : v1 = 1) (h5 : v3 = 5) : -2147483648 ≤ v0 + v1 ∧ v0 + v1 ≤ 2147483647 := by omega
theorem ob68 (v0 : Int) (v1 : Int) (v2 : Int) (v3 : Int) (v4 : Int) (h0 : 2147483648 - v2 ≤ v1 + 1) (h1 : v0 = v2 + v3) (h2 : 0 ≤ v2) (h3 : v2 < v4) (h4 : -2147483648 ≤ v0 ∧ v0 ≤ 2147483647) (h5 : -2147483648 ≤ v2 ∧ v2 ≤ 2147483647) (h6 : v3 = 1) (h7 : v4 = 5) : 2147483648 - v0 ≤ v1 := by omega
theorem ob69 (v0 : Int) (v1 : Int) (v2 : Int) (v3 : Int) (v4 : Int) (h0 : v0 = v1 + v2) (h1 : 0 ≤ v1) (h2 : 2147483648 - v1 ≤ v3 + 1) (h3 : v1 < v4) (h4 : -2147483648 ≤ v0 ∧ v0 ≤ 2147483647) (h5 : -2147483648 ≤ v1 ∧ v1 ≤ 2147483647) (h6 : v2 = 1) (h7 : v4 = 5) : 0 ≤ v0 := by omega
theorem ob70 (v0 : Int) (v1 : Int) (v2 : Int) (v3 : Int) (v4 : Int) (h0 : -1 ≤ v0 ∧ v0 ≤ 7) (h1 : v0 < v1) (h2 : (v1 - 1 - v0 = 0 → 1 ≤ v2 ∧ v2 ≤ 1) ∧ (v1 - 1 - v0 = 1 → 2 ≤ v2 ∧ v2 ≤ 3) ∧ (v1 - 1 - v0 = 2 → 4 ≤ v2 ∧ v2 ≤ 7) ∧ (v1 - 1 - v0 = 3 → 8 ≤ v2 ∧ v2 ≤ 15) ∧ (v1 - 1 - v0 = 4 → 16 ≤ v2 ∧ v2 ≤ 31) ∧ (v1 - 1 - v0 = 5 → 32 ≤ v2 ∧ v2 ≤ 63) ∧ (v1 - 1 - v0 = 6 → 64 ≤ v2 ∧ v2 ≤ 127) ∧ (v1 - 1 - v0 = 7 → 128 ≤ v2 ∧ v2 ≤ 255) ∧ (v1 - 1 - v0 = 8 → 256 ≤ v2 ∧ v2 ≤ 511)) (h3 : v0 + 2147483649 ≤ 0) (h4 : 0 ≤ v1 ∧ v1 ≤ 8) (h5 : v3 = v1 - v4) (h6 : 1 ≤ v2 ∧ v2 ≤ 511) (h7 : -2147483648 ≤ v0 ∧ v0 ≤ 2147483647) (h8 : -2147483648 ≤ v1 ∧ v1 ≤ 2147483647) (h9 : -2147483648 ≤ v2 ∧ v2 ≤ 2147483647) (h10 : -2147483648 ≤ v3 ∧ v3 ≤ 2147483647) (h11 : v4 = 1) : (0 * v0) ≤ -1 := by omega
theorem ob71 (v0 : Int) (v1 : Int) (v2 : Int) (v3 : Int) (v4 : Int) (v5 : Int) (v6 : Int) (v7 : Int) (v8 : Int) (h0 : v0 = (v1 - v2 + 2147483648) % 4294967296 - 2147483648) (h1 : 1 ≤ v1 ∧ v1 ≤ 511) (h2 : (v3 - 1 - v4 = 0 → 1 ≤ v1 ∧ v1 ≤ 1) ∧ (v3 - 1 - v4 = 1 → 2 ≤ v1 ∧ v1 ≤ 3) ∧ (v3 - 1 - v4 = 2 → 4 ≤ v1 ∧ v1 ≤ 7) ∧ (v3 - 1 - v4 = 3 → 8 ≤ v1 ∧ v1 ≤ 15) ∧ (v3 - 1 - v4 = 4 → 16 ≤ v1 ∧ v1 ≤ 31) ∧ (v3 - 1 - v4 = 5 → 32 ≤ v1 ∧ v1 ≤ 63) ∧ (v3 - 1 - v4 = 6 → 64 ≤ v1 ∧ v1 ≤ 127) ∧ (v3 - 1 - v4 = 7 → 128 ≤ v1 ∧ v1 ≤ 255) ∧ (v3 - 1 - v4 = 8 → 256 ≤ v1 ∧ v1 ≤ 511)) (h3 : (0 ≤ v3 ∧ v3 ≤ 8) → (1 ≤ v2 ∧ v2 ≤ 256)) (h4 : 0 ≤ v3 ∧ v3 ≤ 8) (h5 : v5 = v3 - v6) (h6 : -1 ≤ v4 ∧ v4 ≤ 7) (h7 : v4 < v3) (h8 : v4 + 2147483649 ≤ v7 + 1) (h9 : v4 < v8) (h10 : -2147483648 ≤ v0 ∧ v0 ≤ 2147483647) (h11 : -2147483648 ≤ v1 ∧ v1 ≤ 2147483647) (h12 : -2147483648 ≤ v2 ∧ v2 ≤ 2147483647) (h13 : -2147483648 ≤ v3 ∧ v3 ≤ 2147483647) (h14 : -2147483648 ≤ v4 ∧ v4 ≤ 2147483647) (h15 : -2147483648 ≤ v5 ∧ v5 ≤ 2147483647) (h16 : v6 = 1) (h17 : v8 = 0) : -256 ≤ v0 ∧ v0 ≤ 511 := by omega
theorem ob72 (v0 : Int) (v1 : Int) (v2 : Int) (h0 : v0 ≠ 0 → v1 = v2) (h1 : -2147483648 ≤ v0 ∧ v0 ≤ 2147483647) (h2 : -2147483648 ≤ v1 ∧ v1 ≤ 2147483647) (h3 : -2147483648 ≤ v2 ∧ v2 ≤ 2147483647) : v0 ≠ 0 → v1 = v2 := by omega
theorem ob73 (v0 : Int) (v1 : Int) (v2 : Int) (v3 : Int) (v4 : Int) (v5 : Int) (v6 : Int) (h0 : 1 ≤ v0 ∧ v0 ≤ 511) (h1 : (v1 - 1 - v2 = 0 → 1 ≤ v0 ∧ v0 ≤ 1) ∧ (v1 - 1 - v2 = 1 → 2 ≤ v0 ∧ v0 ≤ 3) ∧ (v1 - 1 - v2 = 2 → 4 ≤ v0 ∧ v0 ≤ 7) ∧ (v1 - 1 - v2 = 3 → 8 ≤ v0 ∧ v0 ≤ 15) ∧ (v1 - 1 - v2 = 4 → 16 ≤ v0 ∧ v0 ≤ 31) ∧ (v1 - 1 - v2 = 5 → 32 ≤ v0 ∧ v0 ≤ 63) ∧ (v1 - 1 - v2 = 6 → 64 ≤ v0 ∧ v0 ≤ 127) ∧ (v1 - 1 - v2 = 7 → 128 ≤ v0 ∧ v0 ≤ 255) ∧ (v1 - 1 - v2 = 8 → 256 ≤ v0 ∧ v0 ≤ 511)) (h2 : 0 ≤ v1 ∧ v1 ≤ 8) (h3 : v3 = v1 - v4) (h4 : -1 ≤ v2 ∧ v2 ≤ 7) (h5 : v2 < v1) (h6 : v2 + 2147483649 ≤ v5 + 1) (h7 : v6 ≤ v2) (h8 : -2147483648 ≤ v0 ∧ v0 ≤ 2147483647) (h9 : -2147483648 ≤ v1 ∧ v1 ≤ 2147483647) (h10 : -2147483648 ≤ v2 ∧ v2 ≤ 2147483647) (h11 : -2147483648 ≤ v3 ∧ v3 ≤ 2147483647) (h12 : v4 = 1) (h13 : v6 = 0) : -2147483648 ≤ v0 * 2 ∧ v0 * 2 ≤ 2147483647 := by omega
theorem ob74 (v0 : Int) (v1 : Int) (h0 : v0 = v1 % 2) (h1 : -2147483648 ≤ v0 ∧ v0 ≤ 2147483647) (h2 : -2147483648 ≤ v1 ∧ v1 ≤ 2147483647) : 0 ≤ v0 ∧ v0 ≤ 1 := by omega
theorem ob75 (v0 : Int) (v1 : Int) (v2 : Int) (v3 : Int) (v4 : Int) (h0 : v0 ≠ 0 → v1 = v2) (h1 : v3 = v0) (h2 : v3 ≠ 0) (h3 : v4 = v1) (h4 : -2147483648 ≤ v0 ∧ v0 ≤ 2147483647) (h5 : -2147483648 ≤ v1 ∧ v1 ≤ 2147483647) (h6 : -2147483648 ≤ v2 ∧ v2 ≤ 2147483647) (h7 : -2147483648 ≤ v3 ∧ v3 ≤ 2147483647) (h8 : -2147483648 ≤ v4 ∧ v4 ≤ 2147483647) : v0 ≠ 0 := by omega
theorem ob76 (v0 : Int) (v1 : Int) (v2 : Int) (v3 : Int) (v4 : Int) (h0 : v2 ≠ 0 → v3 = v1) (h1 : v0 = v3) (h2 : v4 = v2) (h3 : v4 ≠ 0) (h4 : -2147483648 ≤ v0 ∧ v0 ≤ 2147483647) (h5 : -2147483648 ≤ v1 ∧ v1 ≤ 2147483647) (h6 : -2147483648 ≤ v2 ∧ v2 ≤ 2147483647) (h7 : -2147483648 ≤ v3 ∧ v3 ≤ 2147483647) (h8 : -2147483648 ≤ v4 ∧ v4 ≤ 2147483647) : v0 = v1 := by omega
theorem ob77 (v0 : Int) (v1 : Int) (v2 : Int) (v3 : Int) (v4 : Int) (v5 : Int) (v6 : Int) (v7 : Int) (v8 : Int) (v9 : Int) (v10 : Int) (v11 : Int) (v12 : Int) (h0 : -1 ≤ v0 ∧ v0 ≤ 7) (h1 : v0 < v2) (h2 : (v2 - 1 - v0 = 0 → 1 ≤ v3 ∧ v3 ≤ 1) ∧ (v2 - 1 - v0 = 1 → 2 ≤ v3 ∧ v3 ≤ 3) ∧ (v2 - 1 - v0 = 2 → 4 ≤ v3 ∧ v3 ≤ 7) ∧ (v2 - 1 - v0 = 3 → 8 ≤ v3 ∧ v3 ≤ 15) ∧ (v2 - 1 - v0 = 4 → 16 ≤ v3 ∧ v3 ≤ 31) ∧ (v2 - 1 - v0 = 5 → 32 ≤ v3 ∧ v3 ≤ 63) ∧ (v2 - 1 - v0 = 6 → 64 ≤ v3 ∧ v3 ≤ 127) ∧ (v2 - 1 - v0 = 7 → 128 ≤ v3 ∧ v3 ≤ 255) ∧ (v2 - 1 - v0 = 8 → 256 ≤ v3 ∧ v3 ≤ 511)) (h3 : v0 + 2147483649 ≤ v4 + 1) (h4 : v5 ≤ v0) (h5 : 0 ≤ v2 ∧ v2 ≤ 8) (h6 : v6 = v2 - v7) (h7 : 1 ≤ v3 ∧ v3 ≤ 511) (h8 : v8 = v3 * 2) (h9 : v9 = (v10 + v3 + 2147483648) % 4294967296 - 2147483648) (h10 : (v8 % 2 = 0 ∧ 0 ≤ v12 ∧ v12 ≤ 1) → v11 = v8 + v12) (h11 : 0 ≤ v12 ∧ v12 ≤ 1) (h12 : -2147483648 ≤ v0 ∧ v0 ≤ 2147483647) (h13 : v1 = (-1)) (h14 : -2147483648 ≤ v2 ∧ v2 ≤ 2147483647) (h15 : -2147483648 ≤ v3 ∧ v3 ≤ 2147483647) (h16 : v5 = 0) (h17 : -2147483648 ≤ v6 ∧ v6 ≤ 2147483647) (h18 : v7 = 1) (h19 : -2147483648 ≤ v8 ∧ v8 ≤ 2147483647) (h20 : -2147483648 ≤ v9 ∧ v9 ≤ 2147483647) (h21 : -2147483648 ≤ v10 ∧ v10 ≤ 2147483647) (h22 : -2147483648 ≤ v11 ∧ v11 ≤ 2147483647) (h23 : -2147483648 ≤ v12 ∧ v12 ≤ 2147483647) : -2147483648 ≤ v0 + v1 ∧ v0 + v1 ≤ 2147483647 := by omega
theorem ob78 (v0 : Int) (v1 : Int) (v2 : Int) (v3 : Int) (v4 : Int) (v5 : Int) (v6 : Int) (v7 : Int) (v8 : Int) (v9 : Int) (v10 : Int) (v11 : Int) (v12 : Int) (v13 : Int) (h0 : v2 + 2147483649 ≤ v1 + 1) (h1 : v0 = v2 + v3) (h2 : -1 ≤ v2 ∧ v2 ≤ 7) (h3 : v2 < v4) (h4 : (v4 - 1 - v2 = 0 → 1 ≤ v5 ∧ v5 ≤ 1) ∧ (v4 - 1 - v2 = 1 → 2 ≤ v5 ∧ v5 ≤ 3) ∧ (v4 - 1 - v2 = 2 → 4 ≤ v5 ∧ v5 ≤ 7) ∧ (v4 - 1 - v2 = 3 → 8 ≤ v5 ∧ v5 ≤ 15) ∧ (v4 - 1 - v2 = 4 → 16 ≤ v5 ∧ v5 ≤ 31) ∧ (v4 - 1 - v2 = 5 → 32 ≤ v5 ∧ v5 ≤ 63) ∧ (v4 - 1 - v2 = 6 → 64 ≤ v5 ∧ v5 ≤ 127) ∧ (v4 - 1 - v2 = 7 → 128 ≤ v5 ∧ v5 ≤ 255) ∧ (v4 - 1 - v2 = 8 → 256 ≤ v5 ∧ v5 ≤ 511)) (h5 : v6 ≤ v2) (h6 : 0 ≤ v4 ∧ v4 ≤ 8) (h7 : v7 = v4 - v8) (h8 : 1 ≤ v5 ∧ v5 ≤ 511) (h9 : v9 = v5 * 2) (h10 : v10 = (v11 + v5 + 2147483648) % 4294967296 - 2147483648) (h11 : (v9 % 2 = 0 ∧ 0 ≤ v13 ∧ v13 ≤ 1) → v12 = v9 + v13) (h12 : 0 ≤ v13 ∧ v13 ≤ 1) (h13 : -2147483648 ≤ v0 ∧ v0 ≤ 2147483647) (h14 : -2147483648 ≤ v2 ∧ v2 ≤ 2147483647) (h15 : v3 = (-1)) (h16 : -2147483648 ≤ v4 ∧ v4 ≤ 2147483647) (h17 : -2147483648 ≤ v5 ∧ v5 ≤ 2147483647) (h18 : v6 = 0) (h19 : -2147483648 ≤ v7 ∧ v7 ≤ 2147483647) (h20 : v8 = 1) (h21 : -2147483648 ≤ v9 ∧ v9 ≤ 2147483647) (h22 : -2147483648 ≤ v10 ∧ v10 ≤ 2147483647) (h23 : -2147483648 ≤ v11 ∧ v11 ≤ 2147483647) (h24 : -2147483648 ≤ v12 ∧ v12 ≤ 2147483647) (h25 : -2147483648 ≤ v13 ∧ v13 ≤ 2147483647) : v0 + 2147483649 ≤ v1 := by omega
theorem ob79 (v0 : Int) (v1 : Int) (v2 : Int) (v3 : Int) (v4 : Int) (h0 : v0 ≠ 0 → v3 = v2) (h1 : v4 = v0) (h2 : v4 = v0) (h3 : v4 ≠ 0 → v1 = v3) (h4 : -2147483648 ≤ v0 ∧ v0 ≤ 2147483647) (h5 : -2147483648 ≤ v1 ∧ v1 ≤ 2147483647) (h6 : -2147483648 ≤ v2 ∧ v2 ≤ 2147483647) (h7 : -2147483648 ≤ v3 ∧ v3 ≤ 2147483647) (h8 : -2147483648 ≤ v4 ∧ v4 ≤ 2147483647) : v0 ≠ 0 → v1 = v2 := by omega
theorem ob80 (v0 : Int) (v1 : Int) (v2 : Int) (v3 : Int) (v4 : Int) (v5 : Int) (v6 : Int) (v7 : Int) (v8 : Int) (v9 : Int) (v10 : Int) (v11 : Int) (v12 : Int) (v13 : Int) (h0 : v0 = v1 + v2) (h1 : -1 ≤ v1 ∧ v1 ≤ 7) (h2 : v1 < v3) (h3 : (v3 - 1 - v1 = 0 → 1 ≤ v4 ∧ v4 ≤ 1) ∧ (v3 - 1 - v1 = 1 → 2 ≤ v4 ∧ v4 ≤ 3) ∧ (v3 - 1 - v1 = 2 → 4 ≤ v4 ∧ v4 ≤ 7) ∧ (v3 - 1 - v1 = 3 → 8 ≤ v4 ∧ v4 ≤ 15) ∧ (v3 - 1 - v1 = 4 → 16 ≤ v4 ∧ v4 ≤ 31) ∧ (v3 - 1 - v1 = 5 → 32 ≤ v4 ∧ v4 ≤ 63) ∧ (v3 - 1 - v1 = 6 → 64 ≤ v4 ∧ v4 ≤ 127) ∧ (v3 - 1 - v1 = 7 → 128 ≤ v4 ∧ v4 ≤ 255) ∧ (v3 - 1 - v1 = 8 → 256 ≤ v4 ∧ v4 ≤ 511)) (h4 : v1 + 2147483649 ≤ v5 + 1) (h5 : v6 ≤ v1) (h6 : 0 ≤ v3 ∧ v3 ≤ 8) (h7 : v7 = v3 - v8) (h8 : 1 ≤ v4 ∧ v4 ≤ 511) (h9 : v9 = v4 * 2) (h10 : v10 = (v11 + v4 + 2147483648) % 4294967296 - 2147483648) (h11 : (v9 % 2 = 0 ∧ 0 ≤ v13 ∧ v13 ≤ 1) → v12 = v9 + v13) (h12 : 0 ≤ v13 ∧ v13 ≤ 1) (h13 : -2147483648 ≤ v0 ∧ v0 ≤ 2147483647) (h14 : -2147483648 ≤ v1 ∧ v1 ≤ 2147483647) (h15 : v2 = (-1)) (h16 : -2147483648 ≤ v3 ∧ v3 ≤ 2147483647) (h17 : -2147483648 ≤ v4 ∧ v4 ≤ 2147483647) (h18 : v6 = 0) (h19 : -2147483648 ≤ v7 ∧ v7 ≤ 2147483647) (h20 : v8 = 1) (h21 : -2147483648 ≤ v9 ∧ v9 ≤ 2147483647) (h22 : -2147483648 ≤ v10 ∧ v10 ≤ 2147483647) (h23 : -2147483648 ≤ v11 ∧ v11 ≤ 2147483647) (h24 : -2147483648 ≤ v12 ∧ v12 ≤ 2147483647) (h25 : -2147483648 ≤ v13 ∧ v13 ≤ 2147483647) : -1 ≤ v0 ∧ v0 ≤ 7 := by omega
theorem ob81 (v0 : Int) (v1 : Int) (v2 : Int) (v3 : Int) (v4 : Int) (v5 : Int) (v6 : Int) (v7 : Int) (v8 : Int) (v9 : Int) (v10 : Int) (v11 : Int) (v12 : Int) (v13 : Int) (h0 : 0 ≤ v1 ∧ v1 ≤ 8) (h1 : v2 = v1 - v3) (h2 : v4 < v1) (h3 : (v1 - 1 - v4 = 0 → 1 ≤ v5 ∧ v5 ≤ 1) ∧ (v1 - 1 - v4 = 1 → 2 ≤ v5 ∧ v5 ≤ 3) ∧ (v1 - 1 - v4 = 2 → 4 ≤ v5 ∧ v5 ≤ 7) ∧ (v1 - 1 - v4 = 3 → 8 ≤ v5 ∧ v5 ≤ 15) ∧ (v1 - 1 - v4 = 4 → 16 ≤ v5 ∧ v5 ≤ 31) ∧ (v1 - 1 - v4 = 5 → 32 ≤ v5 ∧ v5 ≤ 63) ∧ (v1 - 1 - v4 = 6 → 64 ≤ v5 ∧ v5 ≤ 127) ∧ (v1 - 1 - v4 = 7 → 128 ≤ v5 ∧ v5 ≤ 255) ∧ (v1 - 1 - v4 = 8 → 256 ≤ v5 ∧ v5 ≤ 511)) (h4 : v0 = v4 + v6) (h5 : -1 ≤ v4 ∧ v4 ≤ 7) (h6 : 1 ≤ v5 ∧ v5 ≤ 511) (h7 : v4 + 2147483649 ≤ v7 + 1) (h8 : v8 ≤ v4) (h9 : v9 = v5 * 2) (h10 : v10 = (v11 + v5 + 2147483648) % 4294967296 - 2147483648) (h11 : (v9 % 2 = 0 ∧ 0 ≤ v13 ∧ v13 ≤ 1) → v12 = v9 + v13) (h12 : 0 ≤ v13 ∧ v13 ≤ 1) (h13 : -2147483648 ≤ v0 ∧ v0 ≤ 2147483647) (h14 : -2147483648 ≤ v1 ∧ v1 ≤ 2147483647) (h15 : -2147483648 ≤ v2 ∧ v2 ≤ 2147483647) (h16 : v3 = 1) (h17 : -2147483648 ≤ v4 ∧ v4 ≤ 2147483647) (h18 : -2147483648 ≤ v5 ∧ v5 ≤ 2147483647) (h19 : v6 = (-1)) (h20 : v8 = 0) (h21 : -2147483648 ≤ v9 ∧ v9 ≤ 2147483647) (h22 : -2147483648 ≤ v10 ∧ v10 ≤ 2147483647) (h23 : -2147483648 ≤ v11 ∧ v11 ≤ 2147483647) (h24 : -2147483648 ≤ v12 ∧ v12 ≤ 2147483647) (h25 : -2147483648 ≤ v13 ∧ v13 ≤ 2147483647) : v0 < v1 := by omega
theorem ob82 (v0 : Int) (v1 : Int) (v2 : Int) (v3 : Int) (v4 : Int) (v5 : Int) (v6 : Int) (v7 : Int) (v8 : Int) (v9 : Int) (v10 : Int) (v11 : Int) (v12 : Int) (v13 : Int) (h0 : (v1 % 2 = 0 ∧ 0 ≤ v2 ∧ v2 ≤ 1) → v0 = v1 + v2) (h1 : v1 = v3 * 2) (h2 : 0 ≤ v2 ∧ v2 ≤ 1) (h3 : 1 ≤ v3 ∧ v3 ≤ 511) (h4 : (v4 - 1 - v5 = 0 → 1 ≤ v3 ∧ v3 ≤ 1) ∧ (v4 - 1 - v5 = 1 → 2 ≤ v3 ∧ v3 ≤ 3) ∧ (v4 - 1 - v5 = 2 → 4 ≤ v3 ∧ v3 ≤ 7) ∧ (v4 - 1 - v5 = 3 → 8 ≤ v3 ∧ v3 ≤ 15) ∧ (v4 - 1 - v5 = 4 → 16 ≤ v3 ∧ v3 ≤ 31) ∧ (v4 - 1 - v5 = 5 → 32 ≤ v3 ∧ v3 ≤ 63) ∧ (v4 - 1 - v5 = 6 → 64 ≤ v3 ∧ v3 ≤ 127) ∧ (v4 - 1 - v5 = 7 → 128 ≤ v3 ∧ v3 ≤ 255) ∧ (v4 - 1 - v5 = 8 → 256 ≤ v3 ∧ v3 ≤ 511)) (h5 : v6 = (v7 + v3 + 2147483648) % 4294967296 - 2147483648) (h6 : 0 ≤ v4 ∧ v4 ≤ 8) (h7 : v8 = v4 - v9) (h8 : -1 ≤ v5 ∧ v5 ≤ 7) (h9 : v5 < v4) (h10 : v5 + 2147483649 ≤ v10 + 1) (h11 : v11 ≤ v5) (h12 : v12 = v5 + v13) (h13 : -2147483648 ≤ v0 ∧ v0 ≤ 2147483647) (h14 : -2147483648 ≤ v1 ∧ v1 ≤ 2147483647) (h15 : -2147483648 ≤ v2 ∧ v2 ≤ 2147483647) (h16 : -2147483648 ≤ v3 ∧ v3 ≤ 2147483647) (h17 : -2147483648 ≤ v4 ∧ v4 ≤ 2147483647) (h18 : -2147483648 ≤ v5 ∧ v5 ≤ 2147483647) (h19 : -2147483648 ≤ v6 ∧ v6 ≤ 2147483647) (h20 : -2147483648 ≤ v7 ∧ v7 ≤ 2147483647) (h21 : -2147483648 ≤ v8 ∧ v8 ≤ 2147483647) (h22 : v9 = 1) (h23 : v11 = 0) (h24 : -2147483648 ≤ v12 ∧ v12 ≤ 2147483647) (h25 : v13 = (-1)) : 1 ≤ v0 ∧ v0 ≤ 511 := by omega
theorem ob83 (v0 : Int) (v1 : Int) (v2 : Int) (v3 : Int) (v4 : Int) (v5 : Int) (v6 : Int) (v7 : Int) (v8 : Int) (v9 : Int) (v10 : Int) (v11 : Int) (v12 : Int) (v13 : Int) (h0 : 0 ≤ v0 ∧ v0 ≤ 8) (h1 : v3 = v0 - v4) (h2 : v5 < v0) (h3 : (v0 - 1 - v5 = 0 → 1 ≤ v6 ∧ v6 ≤ 1) ∧ (v0 - 1 - v5 = 1 → 2 ≤ v6 ∧ v6 ≤ 3) ∧ (v0 - 1 - v5 = 2 → 4 ≤ v6 ∧ v6 ≤ 7) ∧ (v0 - 1 - v5 = 3 → 8 ≤ v6 ∧ v6 ≤ 15) ∧ (v0 - 1 - v5 = 4 → 16 ≤ v6 ∧ v6 ≤ 31) ∧ (v0 - 1 - v5 = 5 → 32 ≤ v6 ∧ v6 ≤ 63) ∧ (v0 - 1 - v5 = 6 → 64 ≤ v6 ∧ v6 ≤ 127) ∧ (v0 - 1 - v5 = 7 → 128 ≤ v6 ∧ v6 ≤ 255) ∧ (v0 - 1 - v5 = 8 → 256 ≤ v6 ∧ v6 ≤ 511)) (h4 : (v7 % 2 = 0 ∧ 0 ≤ v8 ∧ v8 ≤ 1) → v2 = v7 + v8) (h5 : v1 = v5 + v9) (h6 : -1 ≤ v5 ∧ v5 ≤ 7) (h7 : 1 ≤ v6 ∧ v6 ≤ 511) (h8 : v5 + 2147483649 ≤ v10 + 1) (h9 : v11 ≤ v5) (h10 : v7 = v6 * 2) (h11 : v12 = (v13 + v6 + 2147483648) % 4294967296 - 2147483648) (h12 : 0 ≤ v8 ∧ v8 ≤ 1) (h13 : -2147483648 ≤ v0 ∧ v0 ≤ 2147483647) (h14 : -2147483648 ≤ v1 ∧ v1 ≤ 2147483647) (h15 : -2147483648 ≤ v2 ∧ v2 ≤ 2147483647) (h16 : -2147483648 ≤ v3 ∧ v3 ≤ 2147483647) (h17 : v4 = 1) (h18 : -2147483648 ≤ v5 ∧ v5 ≤ 2147483647) (h19 : -2147483648 ≤ v6 ∧ v6 ≤ 2147483647) (h20 : -2147483648 ≤ v7 ∧ v7 ≤ 2147483647) (h21 : -2147483648 ≤ v8 ∧ v8 ≤ 2147483647) (h22 : v9 = (-1)) (h23 : v11 = 0) (h24 : -2147483648 ≤ v12 ∧ v12 ≤ 2147483647) (h25 : -2147483648 ≤ v13 ∧ v13 ≤ 2147483647) : (v0 - 1 - v1 = 0 → 1 ≤ v2 ∧ v2 ≤ 1) ∧ (v0 - 1 - v1 = 1 → 2 ≤ v2 ∧ v2 ≤ 3) ∧ (v0 - 1 - v1 = 2 → 4 ≤ v2 ∧ v2 ≤ 7) ∧ (v0 - 1 - v1 = 3 → 8 ≤ v2 ∧ v2 ≤ 15) ∧ (v0 - 1 - v1 = 4 → 16 ≤ v2 ∧ v2 ≤ 31) ∧ (v0 - 1 - v1 = 5 → 32 ≤ v2 ∧ v2 ≤ 63) ∧ (v0 - 1 - v1 = 6 → 64 ≤ v2 ∧ v2 ≤ 127) ∧ (v0 - 1 - v1 = 7 → 128 ≤ v2 ∧ v2 ≤ 255) ∧ (v0 - 1 - v1 = 8 → 256 ≤ v2 ∧ v2 ≤ 511) := by omega
theorem ob84 (v0 : Int) (v1 : Int) (v2 : Int) (h0 : v0 = v1 - v2) (h1 : 0 ≤ v1 ∧ v1 ≤ 8) (h2 : -2147483648 ≤ v0 ∧ v0 ≤ 2147483647) (h3 : -2147483648 ≤ v1 ∧ v1 ≤ 2147483647) (h4 : v2 = 1) : -1 ≤ v0 ∧ v0 ≤ 7 := by omega
theorem ob85 (v0 : Int) (v1 : Int) (v2 : Int) (h0 : 0 ≤ v1 ∧ v1 ≤ 8) (h1 : v0 = v1 - v2) (h2 : -2147483648 ≤ v0 ∧ v0 ≤ 2147483647) (h3 : -2147483648 ≤ v1 ∧ v1 ≤ 2147483647) (h4 : v2 = 1) : v0 < v1 := by omega
theorem ob86 (v0 : Int) (v1 : Int) (v2 : Int) (h0 : v1 = v2 - v0) (h1 : 0 ≤ v2 ∧ v2 ≤ 8) (h2 : v0 = 1) (h3 : -2147483648 ≤ v1 ∧ v1 ≤ 2147483647) (h4 : -2147483648 ≤ v2 ∧ v2 ≤ 2147483647) : 1 ≤ v0 ∧ v0 ≤ 511 := by omega
theorem ob87 (v0 : Int) (v1 : Int) (v2 : Int) (h0 : 0 ≤ v0 ∧ v0 ≤ 8) (h1 : v1 = v0 - v2) (h2 : -2147483648 ≤ v0 ∧ v0 ≤ 2147483647) (h3 : -2147483648 ≤ v1 ∧ v1 ≤ 2147483647) (h4 : v2 = 1) : (v0 - 1 - v1 = 0 → 1 ≤ v2 ∧ v2 ≤ 1) ∧ (v0 - 1 - v1 = 1 → 2 ≤ v2 ∧ v2 ≤ 3) ∧ (v0 - 1 - v1 = 2 → 4 ≤ v2 ∧ v2 ≤ 7) ∧ (v0 - 1 - v1 = 3 → 8 ≤ v2 ∧ v2 ≤ 15) ∧ (v0 - 1 - v1 = 4 → 16 ≤ v2 ∧ v2 ≤ 31) ∧ (v0 - 1 - v1 = 5 → 32 ≤ v2 ∧ v2 ≤ 63) ∧ (v0 - 1 - v1 = 6 → 64 ≤ v2 ∧ v2 ≤ 127) ∧ (v0 - 1 - v1 = 7 → 128 ≤ v2 ∧ v2 ≤ 255) ∧ (v0 - 1 - v1 = 8 → 256 ≤ v2 ∧ v2 ≤ 511) := by omega
theorem ob88 (v0 : Int) (h0 : v0 + 2147483649 ≤ 0) (h1 : -2147483648 ≤ v0 ∧ v0 ≤ 2147483647) : (0 * v0) ≤ -1 := by omega
theorem ob89 (v0 : Int) (v1 : Int) (v2 : Int) (h0 : v0 = v1 % 2) (h1 : v1 = (v2 + 2147483648) % 4294967296 - 2147483648) (h2 : -2147483648 ≤ v0 ∧ v0 ≤ 2147483647) (h3 : -2147483648 ≤ v1 ∧ v1 ≤ 2147483647) (h4 : -9223372036854775808 ≤ v2 ∧ v2 ≤ 9223372036854775807) : 0 ≤ v0 ∧ v0 ≤ 1 := by omega
theorem ob90 (v0 : Int) (v1 : Int) (v2 : Int) (v3 : Int) (h0 : v0 + 2147483649 ≤ v2 + 1) (h1 : v3 ≤ v0) (h2 : -2147483648 ≤ v0 ∧ v0 ≤ 2147483647) (h3 : v1 = (-1)) (h4 : v3 = 0) : -2147483648 ≤ v0 + v1 ∧ v0 + v1 ≤ 2147483647 := by omega
theorem ob91 (v0 : Int) (v1 : Int) (v2 : Int) (v3 : Int) (v4 : Int) (h0 : v2 + 2147483649 ≤ v1 + 1) (h1 : v0 = v2 + v3) (h2 : v4 ≤ v2) (h3 : -2147483648 ≤ v0 ∧ v0 ≤ 2147483647) (h4 : -2147483648 ≤ v2 ∧ v2 ≤ 2147483647) (h5 : v3 = (-1)) (h6 : v4 = 0) : v0 + 2147483649 ≤ v1 := by omega
set_option maxHeartbeats 4000000 in
set_option maxRecDepth 100000 in
/-- X2_beginPacking on (7,) -/
theorem jx_X2_beginPacking (l : Launch) (hlt : l.stackTraces = false) (D : va_G) (t3 : Nat × Nat × Nat) (cI cJ : ClassId) (ad : Nat → Nat) (g : Nat → Int32) (lg : Nat → Int64) (ar : Nat → Nat → Int32) (bk : Nat → Int64) (sz : Nat) : JMv l yX2_beginPacking (Cond.code yX2_beginPacking cX2_beginPacking 1 none :: wwX) { frames := 0, cells := 1, slots := 6, locals := 0 } t3 D xw cI cJ ad [.ref (ad 7)] (xw cI cJ ad g lg ar bk) sz 1 6 (fun g' lg' ar' bk' => hk_fr [18, 19, 20] g g' ∧ hk_fr [0, 1] lg lg' ∧ ar = ar' ∧ bk = bk' ∧ ((g' 18).toInt = 0)) (fun g' lg' ar' bk' => False) := by
  refine jx_metv (cc := cX2_beginPacking) (maxL := 1) (ret := none) rfl (by decide) rfl (Nat.le_of_ble_eq_true rfl) ?_
  intro p e s m args below meth c ls Q A hx hb hml hown hts hA hZ hw hl hQ kr kt
  have hq : ∀ w ∈ wwX, w.before args s = true := fun w h => hts w (List.mem_cons_of_mem _ h)
  have hl : lv_has ls 1 [(0, .ref (ad 7))] := hl
  refine lv_aload_n hx hb dX2_beginPacking_0 rfl (lv_at hl 0 rfl) ?_
  refine lv_iconst (v := 0) hx hb dX2_beginPacking_1 (by decide) ?_
  refine jx_putg xw (g := g) (lg := lg) (ar := ar) (bk := bk) (x := 0) 18 (ci := 5) (C := RX2) (T := TX2) (N := 9) (ty := .boolean) hx hb hts (fun _ h => List.mem_cons_of_mem _ (wwXc_wsX20 _ h)) tyX2 tyX2_ok nmX2 hown hw 7 rfl rfl 3 (by decide) (hq _ wX_245) rfl (by decide +kernel) rfl rfl (Nat.le_of_ble_eq_true rfl) dX2_beginPacking_2 rfl (fun H locs g1 h_g1 hw => ?_)
  refine lv_aload_n hx hb dX2_beginPacking_5 rfl (lv_at hl 0 rfl) ?_
  refine lv_lconst (v := 0) hx hb dX2_beginPacking_6 (by decide) ?_
  refine jx_putl xw (g := g1) (lg := lg) (ar := ar) (bk := bk) (x := 0) 0 (ci := 5) (C := RX2) (T := TX2) (N := 9) (ty := .long) hx hb hts (fun _ h => List.mem_cons_of_mem _ (wwXc_wsX20 _ h)) tyX2 tyX2_ok nmX2 hown hw 7 rfl rfl 4 (by decide) (hq _ wX_263) rfl (by decide +kernel) rfl rfl (Nat.le_of_ble_eq_true rfl) dX2_beginPacking_7 rfl (fun H locs l2 h_l2 hw => ?_)
  refine lv_aload_n hx hb dX2_beginPacking_10 rfl (lv_at hl 0 rfl) ?_
  refine lv_ldc2 (v := 4294967295) hx hb hown (hq _ wX_246) dX2_beginPacking_11 ?_
  refine jx_putl xw (g := g1) (lg := l2) (ar := ar) (bk := bk) (x := 4294967295) 1 (ci := 5) (C := RX2) (T := TX2) (N := 9) (ty := .long) hx hb hts (fun _ h => List.mem_cons_of_mem _ (wwXc_wsX20 _ h)) tyX2 tyX2_ok nmX2 hown hw 7 rfl rfl 5 (by decide) (hq _ wX_247) rfl (by decide +kernel) rfl rfl (Nat.le_of_ble_eq_true rfl) dX2_beginPacking_14 rfl (fun H locs l3 h_l3 hw => ?_)
  refine lv_aload_n hx hb dX2_beginPacking_17 rfl (lv_at hl 0 rfl) ?_
  refine lv_iconst (v := 0) hx hb dX2_beginPacking_18 (by decide) ?_
  refine jx_putg xw (g := g1) (lg := l3) (ar := ar) (bk := bk) (x := 0) 19 (ci := 5) (C := RX2) (T := TX2) (N := 9) (ty := .int) hx hb hts (fun _ h => List.mem_cons_of_mem _ (wwXc_wsX20 _ h)) tyX2 tyX2_ok nmX2 hown hw 7 rfl rfl 7 (by decide) (hq _ wX_264) rfl (by decide +kernel) rfl rfl (Nat.le_of_ble_eq_true rfl) dX2_beginPacking_19 rfl (fun H locs g4 h_g4 hw => ?_)
  refine lv_aload_n hx hb dX2_beginPacking_22 rfl (lv_at hl 0 rfl) ?_
  refine lv_iconst (v := 1) hx hb dX2_beginPacking_23 (by decide) ?_
  refine jx_putg xw (g := g4) (lg := l3) (ar := ar) (bk := bk) (x := 1) 20 (ci := 5) (C := RX2) (T := TX2) (N := 9) (ty := .int) hx hb hts (fun _ h => List.mem_cons_of_mem _ (wwXc_wsX20 _ h)) tyX2 tyX2_ok nmX2 hown hw 7 rfl rfl 8 (by decide) (hq _ wX_265) rfl (by decide +kernel) rfl rfl (Nat.le_of_ble_eq_true rfl) dX2_beginPacking_24 rfl (fun H locs g5 h_g5 hw => ?_)
  have e_g5_18 : g5 18 = (0 : Int32) := ((hk_upgN h_g5 18 rfl)).trans (((hk_upgN h_g4 18 rfl)).trans (hk_upgS h_g1))
  exact kr g5 l3 ar bk _ _ _ _ ⟨(hk_frG (hk_frG (hk_frG hk_fr0 (by decide) h_g1) (by decide) h_g4) (by decide) h_g5), (hk_frL (hk_frL hk_fr0 (by decide) h_l2) (by decide) h_l3), rfl, rfl, (ob44 ((g5 18).toInt) (((0 : Int32)).toInt) (congrArg Int32.toInt e_g5_18) (hE_rng (g5 18)) (by decide))⟩ hw dX2_beginPacking_27

set_option maxHeartbeats 4000000 in
set_option maxRecDepth 100000 in
/-- X2_skip on (7,) -/
theorem jx_X2_skip (l : Launch) (hlt : l.stackTraces = false) (D : va_G) (t3 : Nat × Nat × Nat) (cI cJ : ClassId) (ad : Nat → Nat) (g : Nat → Int32) (lg : Nat → Int64) (ar : Nat → Nat → Int32) (bk : Nat → Int64) (sz : Nat) (y1 : Int64) : JMv l yX2_skip (Cond.code yX2_skip cX2_skip 3 none :: wwX) { frames := 0, cells := 1, slots := 6, locals := 0 } t3 D xw cI cJ ad [.ref (ad 7), .long y1] (xw cI cJ ad g lg ar bk) sz 1 6 (fun g' lg' ar' bk' => g = g' ∧ hk_fr [0, 2] lg lg' ∧ ar = ar' ∧ bk = bk') (fun g' lg' ar' bk' => False) := by
  refine jx_metv (cc := cX2_skip) (maxL := 3) (ret := none) rfl (by decide) rfl (Nat.le_of_ble_eq_true rfl) ?_
  intro p e s m args below meth c ls Q A hx hb hml hown hts hA hZ hw hl hQ kr kt
  have hq : ∀ w ∈ wwX, w.before args s = true := fun w h => hts w (List.mem_cons_of_mem _ h)
  have hl : lv_has ls 3 [(0, .ref (ad 7)), (1, .long y1)] := hl
  refine lv_aload_n hx hb dX2_skip_0 rfl (lv_at hl 0 rfl) ?_
  refine hk_get (ci := 5) (C := RX2) (T := TX2) (N := 9) (v := .int (g 18)) hx hb hts (fun _ h => List.mem_cons_of_mem _ (wwXc_wsX20 _ h)) hown hw 7 rfl rfl 3 (by decide) (hq _ wX_245) rfl dX2_skip_1 ?_
  refine lv_if_eq (tgt := 20) hx hb dX2_skip_4 (by decide) (fun cc1 => ?_) (fun cc1 => ?_)
  · refine lv_aload_n hx hb dX2_skip_20 rfl (lv_at hl 0 rfl) ?_
    refine lv_dup hx hb dX2_skip_21 rfl ?_
    refine hk_get (ci := 5) (C := RX2) (T := TX2) (N := 9) (v := .long (lg 0)) hx hb hts (fun _ h => List.mem_cons_of_mem _ (wwXc_wsX20 _ h)) hown hw 7 rfl rfl 4 (by decide) (hq _ wX_263) rfl dX2_skip_22 ?_
    refine lv_lload_n hx hb dX2_skip_25 rfl (lv_at hl 1 rfl) ?_
    refine lv_ladd hx hb dX2_skip_26 (jx_nl fun z2 hz2 => ?_)
    refine jx_putl xw (g := g) (lg := lg) (ar := ar) (bk := bk) (x := z2) 0 (ci := 5) (C := RX2) (T := TX2) (N := 9) (ty := .long) hx hb hts (fun _ h => List.mem_cons_of_mem _ (wwXc_wsX20 _ h)) tyX2 tyX2_ok nmX2 hown hw 7 rfl rfl 4 (by decide) (hq _ wX_263) rfl (by decide +kernel) rfl rfl (Nat.le_of_ble_eq_true rfl) dX2_skip_27 rfl (fun H locs l3 h_l3 hw => ?_)
    exact kr g l3 ar bk _ _ _ _ ⟨rfl, (hk_frL hk_fr0 (by decide) h_l3), rfl, rfl⟩ hw dX2_skip_30
  · refine lv_aload_n hx hb dX2_skip_7 rfl (lv_at hl 0 rfl) ?_
    refine lv_dup hx hb dX2_skip_8 rfl ?_
    refine hk_get (ci := 5) (C := RX2) (T := TX2) (N := 9) (v := .long (lg 2)) hx hb hts (fun _ h => List.mem_cons_of_mem _ (wwXc_wsX20 _ h)) hown hw 7 rfl rfl 6 (by decide) (hq _ wX_262) rfl dX2_skip_9 ?_
    refine lv_lload_n hx hb dX2_skip_12 rfl (lv_at hl 1 rfl) ?_
    refine lv_lsub hx hb dX2_skip_13 (jx_nl fun z4 hz4 => ?_)
    refine jx_putl xw (g := g) (lg := lg) (ar := ar) (bk := bk) (x := z4) 2 (ci := 5) (C := RX2) (T := TX2) (N := 9) (ty := .long) hx hb hts (fun _ h => List.mem_cons_of_mem _ (wwXc_wsX20 _ h)) tyX2 tyX2_ok nmX2 hown hw 7 rfl rfl 6 (by decide) (hq _ wX_262) rfl (by decide +kernel) rfl rfl (Nat.le_of_ble_eq_true rfl) dX2_skip_14 rfl (fun H locs l5 h_l5 hw => ?_)
    refine lv_goto (tgt := 30) hx hb dX2_skip_17 (by decide) ?_
    exact kr g l5 ar bk _ _ _ _ ⟨rfl, (hk_frL hk_fr0 (by decide) h_l5), rfl, rfl⟩ hw dX2_skip_30

set_option maxHeartbeats 4000000 in
set_option maxRecDepth 100000 in
/-- X2_shift on (7,) -/
theorem jx_X2_shift (l : Launch) (hlt : l.stackTraces = false) (D : va_G) (t3 : Nat × Nat × Nat) (cI cJ : ClassId) (ad : Nat → Nat) (g : Nat → Int32) (lg : Nat → Int64) (ar : Nat → Nat → Int32) (bk : Nat → Int64) (sz : Nat) : JMv l yX2_shift (Cond.code yX2_shift cX2_shift 4 none :: wwX) { frames := 0, cells := 1, slots := 6, locals := 0 } t3 D xw cI cJ ad [.ref (ad 7)] (xw cI cJ ad g lg ar bk) sz 1 6 (fun g' lg' ar' bk' => hk_fr [14, 19, 20] g g' ∧ hk_fr [0] lg lg' ∧ hk_fr [1] ar ar' ∧ bk = bk') (fun g' lg' ar' bk' => False) := by
  refine jx_metv (cc := cX2_shift) (maxL := 4) (ret := none) rfl (by decide) rfl (Nat.le_of_ble_eq_true rfl) ?_
  intro p e s m args below meth c ls Q A hx hb hml hown hts hA hZ hw hl hQ kr kt
  have hq : ∀ w ∈ wwX, w.before args s = true := fun w h => hts w (List.mem_cons_of_mem _ h)
  have hl : lv_has ls 4 [(0, .ref (ad 7))] := hl
  refine lv_aload_n hx hb dX2_shift_0 rfl (lv_at hl 0 rfl) ?_
  refine hk_get (ci := 5) (C := RX2) (T := TX2) (N := 9) (v := .long (lg 0)) hx hb hts (fun _ h => List.mem_cons_of_mem _ (wwXc_wsX20 _ h)) hown hw 7 rfl rfl 4 (by decide) (hq _ wX_263) rfl dX2_shift_1 ?_
  refine lv_ldc2 (v := 4278190080) hx hb hown (hq _ wX_285) dX2_shift_4 ?_
  have B1 : ∀  (g2 : Nat → Int32) (a3 : Nat → Nat → Int32) (ls : Array Slot) (H : Heap) (locs : List Loc), (hk_fr [14, 19, 20] g g2) → (hk_fr [1] ar a3) → hk_W D (jT cI cJ) A s H locs (xw cI cJ ad g2 lg a3 bk) → lv_has ls 4 [(0, .ref (ad 7))] → W p l e { frames := 0, cells := 1, slots := 6, locals := 0 } s m args below meth c H locs 0 0 Q (F0 m 154 ls []) := by
    intro g2 a3 ls H locs hfr_g2 hfr_a3 hw hl
    refine lv_aload_n hx hb dX2_shift_154 rfl (lv_at hl 0 rfl) ?_
    refine lv_dup hx hb dX2_shift_155 rfl ?_
    refine hk_get (ci := 5) (C := RX2) (T := TX2) (N := 9) (v := .int (g2 20)) hx hb hts (fun _ h => List.mem_cons_of_mem _ (wwXc_wsX20 _ h)) hown hw 7 rfl rfl 8 (by decide) (hq _ wX_265) rfl dX2_shift_156 ?_
    refine lv_iconst (v := 1) hx hb dX2_shift_159 (by decide) ?_
    refine lv_iadd hx hb dX2_shift_160 (jx_nm fun z4 hz4 => ?_)
    refine jx_putg xw (g := g2) (lg := lg) (ar := a3) (bk := bk) (x := z4) 20 (ci := 5) (C := RX2) (T := TX2) (N := 9) (ty := .int) hx hb hts (fun _ h => List.mem_cons_of_mem _ (wwXc_wsX20 _ h)) tyX2 tyX2_ok nmX2 hown hw 7 rfl rfl 8 (by decide) (hq _ wX_265) rfl (by decide +kernel) rfl rfl (Nat.le_of_ble_eq_true rfl) dX2_shift_161 rfl (fun H locs g5 h_g5 hw => ?_)
    refine lv_aload_n hx hb dX2_shift_164 rfl (lv_at hl 0 rfl) ?_
    refine lv_aload_n hx hb dX2_shift_165 rfl (lv_at hl 0 rfl) ?_
    refine hk_get (ci := 5) (C := RX2) (T := TX2) (N := 9) (v := .long (lg 0)) hx hb hts (fun _ h => List.mem_cons_of_mem _ (wwXc_wsX20 _ h)) hown hw 7 rfl rfl 4 (by decide) (hq _ wX_263) rfl dX2_shift_166 ?_
    refine lv_ldc2 (v := 16777215) hx hb hown (hq _ wX_290) dX2_shift_169 ?_
    refine lv_land hx hb dX2_shift_172 (jx_nl fun z6 hz6 => ?_)
    refine lv_bipush (v := 8) hx hb dX2_shift_173 (by decide) ?_
    refine lv_lshl hx hb dX2_shift_175 rfl (jx_nl fun z7 hz7 => ?_)
    refine jx_putl xw (g := g5) (lg := lg) (ar := a3) (bk := bk) (x := z7) 0 (ci := 5) (C := RX2) (T := TX2) (N := 9) (ty := .long) hx hb hts (fun _ h => List.mem_cons_of_mem _ (wwXc_wsX20 _ h)) tyX2 tyX2_ok nmX2 hown hw 7 rfl rfl 4 (by decide) (hq _ wX_263) rfl (by decide +kernel) rfl rfl (Nat.le_of_ble_eq_true rfl) dX2_shift_176 rfl (fun H locs l8 h_l8 hw => ?_)
    exact kr g5 l8 a3 bk _ _ _ _ ⟨(hk_frG hfr_g2 (by decide) h_g5), (hk_frL hk_fr0 (by decide) h_l8), hfr_a3, rfl⟩ hw dX2_shift_179
  have B9 : ∀  (ls : Array Slot) (H : Heap) (locs : List Loc), hk_W D (jT cI cJ) A s H locs (xw cI cJ ad g lg ar bk) → lv_has ls 4 [(0, .ref (ad 7))] → W p l e { frames := 0, cells := 1, slots := 6, locals := 0 } s m args below meth c H locs 0 0 Q (F0 m 22 ls []) := by
    intro ls H locs hw hl
    refine lv_aload_n hx hb dX2_shift_22 rfl (lv_at hl 0 rfl) ?_
    refine hk_get (ci := 5) (C := RX2) (T := TX2) (N := 9) (v := .long (lg 0)) hx hb hts (fun _ h => List.mem_cons_of_mem _ (wwXc_wsX20 _ h)) hown hw 7 rfl rfl 4 (by decide) (hq _ wX_263) rfl dX2_shift_23 ?_
    refine lv_ldc2 (v := 4294967296) hx hb hown (hq _ wX_286) dX2_shift_26 ?_
    have B10 : ∀  (x11 : Int32) (ls : Array Slot) (H : Heap) (locs : List Loc), (0 ≤ (x11).toInt ∧ (x11).toInt ≤ 1) → hk_W D (jT cI cJ) A s H locs (xw cI cJ ad g lg ar bk) → lv_has ls 4 [(0, .ref (ad 7))] → W p l e { frames := 0, cells := 1, slots := 6, locals := 0 } s m args below meth c H locs 0 0 Q (F0 m 38 ls [.int x11]) := by
      intro x11 ls H locs hf_B10_0 hw hl
      refine lv_istore_n (lv' := [(1, .int x11), (0, .ref (ad 7))]) hx hb dX2_shift_38 rfl hl (by decide) rfl (fun ls hl => ?_)
      refine lv_iconst (v := 0) hx hb dX2_shift_39 (by decide) ?_
      refine lv_istore_n (lv' := [(2, .int 0), (1, .int x11), (0, .ref (ad 7))]) hx hb dX2_shift_40 rfl hl (by decide) rfl (fun ls hl => ?_)
      have B12 : ∀ (k16 : Nat) (x13 : Int32) (g14 : Nat → Int32) (a15 : Nat → Nat → Int32) (ls : Array Slot) (H : Heap) (locs : List Loc), (2147483648 - (x13).toInt ≤ (k16 : Int)) → (0 ≤ (x13).toInt) → (hk_fr [14] g g14) → (hk_fr [1] ar a15) → hk_W D (jT cI cJ) A s H locs (xw cI cJ ad g14 lg a15 bk) → lv_has ls 4 [(0, .ref (ad 7)), (1, .int x11), (2, .int x13)] → W p l e { frames := 0, cells := 1, slots := 6, locals := 0 } s m args below meth c H locs 0 0 Q (F0 m 41 ls []) := by
        intro k16
        induction k16 with
        | zero =>
          intro x13 g14 a15 ls H locs hrk_B12 hf_B12_0 hfr_g14 hfr_a15 hw hl
          exact False.elim (hk_no0 (0 * (x13).toInt) (ob5 ((x13).toInt) hf_B12_0 hrk_B12 (hE_rng (x13))) (by simp))
        | succ k16 ih_B12 =>
          intro x13 g14 a15 ls H locs hrk_B12 hf_B12_0 hfr_g14 hfr_a15 hw hl
          have hrk_B12 := hk_rk hrk_B12
          refine lv_iload_n hx hb dX2_shift_41 rfl (lv_at hl 2 rfl) ?_
          refine lv_aload_n hx hb dX2_shift_42 rfl (lv_at hl 0 rfl) ?_
          have e_g14_20 : g14 20 = (g 20) := (hfr_g14 20 rfl)
          refine hk_get (ci := 5) (C := RX2) (T := TX2) (N := 9) (v := .int (g 20)) hx hb hts (fun _ h => List.mem_cons_of_mem _ (wwXc_wsX20 _ h)) hown hw 7 rfl rfl 8 (by decide) (hq _ wX_265) (congrArg (fun z => some (Value.int z)) e_g14_20) dX2_shift_43 ?_
          refine lv_icmp_ge (tgt := 133) hx hb dX2_shift_46 (by decide) (fun cc17 => ?_) (fun cc17 => ?_)
          · refine lv_aload_n hx hb dX2_shift_133 rfl (lv_at hl 0 rfl) ?_
            refine lv_iconst (v := 0) hx hb dX2_shift_134 (by decide) ?_
            refine jx_putg xw (g := g14) (lg := lg) (ar := a15) (bk := bk) (x := 0) 20 (ci := 5) (C := RX2) (T := TX2) (N := 9) (ty := .int) hx hb hts (fun _ h => List.mem_cons_of_mem _ (wwXc_wsX20 _ h)) tyX2 tyX2_ok nmX2 hown hw 7 rfl rfl 8 (by decide) (hq _ wX_265) rfl (by decide +kernel) rfl rfl (Nat.le_of_ble_eq_true rfl) dX2_shift_135 rfl (fun H locs g18 h_g18 hw => ?_)
            refine lv_aload_n hx hb dX2_shift_138 rfl (lv_at hl 0 rfl) ?_
            refine lv_aload_n hx hb dX2_shift_139 rfl (lv_at hl 0 rfl) ?_
            refine hk_get (ci := 5) (C := RX2) (T := TX2) (N := 9) (v := .long (lg 0)) hx hb hts (fun _ h => List.mem_cons_of_mem _ (wwXc_wsX20 _ h)) hown hw 7 rfl rfl 4 (by decide) (hq _ wX_263) rfl dX2_shift_140 ?_
            refine lv_bipush (v := 24) hx hb dX2_shift_143 (by decide) ?_
            refine lv_lushr hx hb dX2_shift_145 rfl (jx_nl fun z19 hz19 => ?_)
            refine lv_l2i hx hb dX2_shift_146 rfl (jx_nm fun z20 hz20 => ?_)
            refine lv_sipush (v := 255) hx hb dX2_shift_147 (by decide) ?_
            refine lv_iand hx hb dX2_shift_150 (jx_nm fun z21 hz21 => ?_)
            refine jx_putg xw (g := g18) (lg := lg) (ar := a15) (bk := bk) (x := z21) 19 (ci := 5) (C := RX2) (T := TX2) (N := 9) (ty := .int) hx hb hts (fun _ h => List.mem_cons_of_mem _ (wwXc_wsX20 _ h)) tyX2 tyX2_ok nmX2 hown hw 7 rfl rfl 7 (by decide) (hq _ wX_264) rfl (by decide +kernel) rfl rfl (Nat.le_of_ble_eq_true rfl) dX2_shift_151 rfl (fun H locs g22 h_g22 hw => ?_)
            exact B1 g22 a15 ls _ _ (hk_frG (hk_frG (hk_frT hk_fr0 (by decide) hfr_g14) (by decide) h_g18) (by decide) h_g22) hfr_a15 hw (lv_sub hl [0] rfl)
          · refine lv_iload_n hx hb dX2_shift_49 rfl (lv_at hl 2 rfl) ?_
            have B23 : ∀  (x24 : Int32) (ls : Array Slot) (H : Heap) (locs : List Loc), hk_W D (jT cI cJ) A s H locs (xw cI cJ ad g14 lg a15 bk) → lv_has ls 4 [(0, .ref (ad 7)), (1, .int x11), (2, .int x13)] → W p l e { frames := 0, cells := 1, slots := 6, locals := 0 } s m args below meth c H locs 0 0 Q (F0 m 63 ls [.int x24]) := by
              intro x24 ls H locs hw hl
              refine lv_iload_n hx hb dX2_shift_63 rfl (lv_at hl 1 rfl) ?_
              refine lv_iadd hx hb dX2_shift_64 (jx_nm fun z25 hz25 => ?_)
              refine lv_sipush (v := 255) hx hb dX2_shift_65 (by decide) ?_
              refine lv_iand hx hb dX2_shift_68 (jx_nm fun z26 hz26 => ?_)
              refine lv_istore_n (lv' := [(3, .int z26), (0, .ref (ad 7)), (1, .int x11), (2, .int x13)]) hx hb dX2_shift_69 rfl hl (by decide) rfl (fun ls hl => ?_)
              refine lv_aload_n hx hb dX2_shift_70 rfl (lv_at hl 1 rfl) ?_
              refine hk_get (ci := 5) (C := RX2) (T := TX2) (N := 9) (v := .ref (ad 4)) hx hb hts (fun _ h => List.mem_cons_of_mem _ (wwXc_wsX20 _ h)) hown hw 7 rfl rfl 2 (by decide) (hq _ wX_287) rfl dX2_shift_71 ?_
              refine hk_get (ci := 12) (C := RX9) (T := TX9) (N := 2) (v := .int (g14 14)) hx hb hts (fun _ h => List.mem_cons_of_mem _ (wwXc_wsX90 _ h)) hown hw 4 rfl rfl 1 (by decide) (hq _ wX_288) rfl dX2_shift_74 ?_
              have B27 : ∀  (a28 : Nat → Nat → Int32) (ls : Array Slot) (H : Heap) (locs : List Loc), (hk_fr [1] a15 a28) → hk_W D (jT cI cJ) A s H locs (xw cI cJ ad g14 lg a28 bk) → lv_has ls 4 [(0, .ref (ad 7)), (1, .int x11), (2, .int x13)] → W p l e { frames := 0, cells := 1, slots := 6, locals := 0 } s m args below meth c H locs 0 0 Q (F0 m 114 ls []) := by
                intro a28 ls H locs hfr_a28 hw hl
                refine lv_aload_n hx hb dX2_shift_114 rfl (lv_at hl 0 rfl) ?_
                refine hk_get (ci := 5) (C := RX2) (T := TX2) (N := 9) (v := .ref (ad 4)) hx hb hts (fun _ h => List.mem_cons_of_mem _ (wwXc_wsX20 _ h)) hown hw 7 rfl rfl 2 (by decide) (hq _ wX_287) rfl dX2_shift_115 ?_
                refine lv_dup hx hb dX2_shift_118 rfl ?_
                refine hk_get (ci := 12) (C := RX9) (T := TX9) (N := 2) (v := .int (g14 14)) hx hb hts (fun _ h => List.mem_cons_of_mem _ (wwXc_wsX90 _ h)) hown hw 4 rfl rfl 1 (by decide) (hq _ wX_288) rfl dX2_shift_119 ?_
                refine lv_iconst (v := 1) hx hb dX2_shift_122 (by decide) ?_
                refine lv_iadd hx hb dX2_shift_123 (jx_nm fun z29 hz29 => ?_)
                refine jx_putg xw (g := g14) (lg := lg) (ar := a28) (bk := bk) (x := z29) 14 (ci := 12) (C := RX9) (T := TX9) (N := 2) (ty := .int) hx hb hts (fun _ h => List.mem_cons_of_mem _ (wwXc_wsX90 _ h)) tyX9 tyX9_ok nmX9 hown hw 4 rfl rfl 1 (by decide) (hq _ wX_288) rfl (by decide +kernel) rfl rfl (Nat.le_of_ble_eq_true rfl) dX2_shift_124 rfl (fun H locs g30 h_g30 hw => ?_)
                obtain ⟨z31, hz31⟩ : ∃ z : Int32, x13 + 1 = z := ⟨_, rfl⟩
                refine lv_iinc (v := z31) (lv' := [(2, .int z31), (0, .ref (ad 7)), (1, .int x11)]) hx hb dX2_shift_127 hl (k := 2) rfl hz31 (by decide) rfl (fun ls hl => ?_)
                have xz31 : (z31).toInt = (x13).toInt + ((1 : Int32)).toInt := (hE_imp (hE_add hz31) (ob45 ((x13).toInt) (((1 : Int32)).toInt) (k16 : Int) ((g 20).toInt) ((z29).toInt) ((g14 14).toInt) ((g14 20).toInt) hf_B12_0 hrk_B12 (hE_nle cc17) (hE_add hz29) (congrArg Int32.toInt e_g14_20) (hE_rng (x13)) (by decide) (hE_rng (g 20)) (hE_rng (z29)) (hE_rng (g14 14)) (hE_rng (g14 20))))
                refine lv_goto (tgt := 41) hx hb dX2_shift_130 (by decide) ?_
                exact ih_B12 z31 g30 a28 ls _ _ (ob46 ((z31).toInt) (k16 : Int) ((x13).toInt) (((1 : Int32)).toInt) ((g 20).toInt) ((z29).toInt) ((g14 14).toInt) ((g14 20).toInt) hrk_B12 xz31 hf_B12_0 (hE_nle cc17) (hE_add hz29) (congrArg Int32.toInt e_g14_20) (hE_rng (z31)) (hE_rng (x13)) (by decide) (hE_rng (g 20)) (hE_rng (z29)) (hE_rng (g14 14)) (hE_rng (g14 20))) (ob47 ((z31).toInt) ((x13).toInt) (((1 : Int32)).toInt) (k16 : Int) ((g 20).toInt) ((z29).toInt) ((g14 14).toInt) ((g14 20).toInt) xz31 hf_B12_0 hrk_B12 (hE_nle cc17) (hE_add hz29) (congrArg Int32.toInt e_g14_20) (hE_rng (z31)) (hE_rng (x13)) (by decide) (hE_rng (g 20)) (hE_rng (z29)) (hE_rng (g14 14)) (hE_rng (g14 20))) (hk_frG hfr_g14 (by decide) h_g30) (hk_frT hfr_a15 (by decide) hfr_a28) hw (lv_sub hl [1, 2, 0] rfl)
              refine lv_if_lt (tgt := 114) hx hb dX2_shift_77 (by decide) (fun cc32 => ?_) (fun cc32 => ?_)
              · exact B27 a15 ls _ _ hk_fr0 hw (lv_sub hl [1, 2, 3] rfl)
              · refine lv_aload_n hx hb dX2_shift_80 rfl (lv_at hl 1 rfl) ?_
                refine hk_get (ci := 5) (C := RX2) (T := TX2) (N := 9) (v := .ref (ad 4)) hx hb hts (fun _ h => List.mem_cons_of_mem _ (wwXc_wsX20 _ h)) hown hw 7 rfl rfl 2 (by decide) (hq _ wX_287) rfl dX2_shift_81 ?_
                refine hk_get (ci := 12) (C := RX9) (T := TX9) (N := 2) (v := .int (g14 14)) hx hb hts (fun _ h => List.mem_cons_of_mem _ (wwXc_wsX90 _ h)) hown hw 4 rfl rfl 1 (by decide) (hq _ wX_288) rfl dX2_shift_84 ?_
                refine lv_aload_n hx hb dX2_shift_87 rfl (lv_at hl 1 rfl) ?_
                refine hk_get (ci := 5) (C := RX2) (T := TX2) (N := 9) (v := .ref (ad 4)) hx hb hts (fun _ h => List.mem_cons_of_mem _ (wwXc_wsX20 _ h)) hown hw 7 rfl rfl 2 (by decide) (hq _ wX_287) rfl dX2_shift_88 ?_
                refine hk_get (ci := 12) (C := RX9) (T := TX9) (N := 2) (v := .ref (ad 5)) hx hb hts (fun _ h => List.mem_cons_of_mem _ (wwXc_wsX90 _ h)) hown hw 4 rfl rfl 0 (by decide) (hq _ wX_289) rfl dX2_shift_91 ?_
                refine hk_alen (v := 3000) hx hb hw 5 0 rfl rfl rfl dX2_shift_94 ?_
                refine lv_icmp_ge (tgt := 114) hx hb dX2_shift_95 (by decide) (fun cc33 => ?_) (fun cc33 => ?_)
                · exact B27 a15 ls _ _ hk_fr0 hw (lv_sub hl [1, 2, 3] rfl)
                · refine lv_aload_n hx hb dX2_shift_98 rfl (lv_at hl 1 rfl) ?_
                  refine hk_get (ci := 5) (C := RX2) (T := TX2) (N := 9) (v := .ref (ad 4)) hx hb hts (fun _ h => List.mem_cons_of_mem _ (wwXc_wsX20 _ h)) hown hw 7 rfl rfl 2 (by decide) (hq _ wX_287) rfl dX2_shift_99 ?_
                  refine hk_get (ci := 12) (C := RX9) (T := TX9) (N := 2) (v := .ref (ad 5)) hx hb hts (fun _ h => List.mem_cons_of_mem _ (wwXc_wsX90 _ h)) hown hw 4 rfl rfl 0 (by decide) (hq _ wX_289) rfl dX2_shift_102 ?_
                  refine lv_aload_n hx hb dX2_shift_105 rfl (lv_at hl 1 rfl) ?_
                  refine hk_get (ci := 5) (C := RX2) (T := TX2) (N := 9) (v := .ref (ad 4)) hx hb hts (fun _ h => List.mem_cons_of_mem _ (wwXc_wsX20 _ h)) hown hw 7 rfl rfl 2 (by decide) (hq _ wX_287) rfl dX2_shift_106 ?_
                  refine hk_get (ci := 12) (C := RX9) (T := TX9) (N := 2) (v := .int (g14 14)) hx hb hts (fun _ h => List.mem_cons_of_mem _ (wwXc_wsX90 _ h)) hown hw 4 rfl rfl 1 (by decide) (hq _ wX_288) rfl dX2_shift_109 ?_
                  refine lv_iload_n hx hb dX2_shift_112 rfl (lv_at hl 0 rfl) ?_
                  refine jx_iast xw (g := g14) (lg := lg) (ar := a15) (bk := bk) 1 hx hb hw 5 0 rfl rfl (hE_in (n := 3000) (ob3 ((g14 14).toInt) (((0 : Int32)).toInt) (((3000 : Int32)).toInt) (hE_nlt cc32) (hE_nle cc33) (hE_rng (g14 14)) (by decide) (by decide))) dX2_shift_113 rfl (fun H locs a34 h_a34 hw => ?_)
                  exact B27 a34 ls _ _ (hk_frA hk_fr0 (by decide) h_a34) hw (lv_sub hl [1, 2, 3] rfl)
            refine lv_if_ne (tgt := 60) hx hb dX2_shift_50 (by decide) (fun cc35 => ?_) (fun cc35 => ?_)
            · refine lv_sipush (v := 255) hx hb dX2_shift_60 (by decide) ?_
              exact B23 255 ls _ _ hw (lv_sub hl [0, 1, 2] rfl)
            · refine lv_aload_n hx hb dX2_shift_53 rfl (lv_at hl 0 rfl) ?_
              have e_g14_19 : g14 19 = (g 19) := (hfr_g14 19 rfl)
              refine hk_get (ci := 5) (C := RX2) (T := TX2) (N := 9) (v := .int (g 19)) hx hb hts (fun _ h => List.mem_cons_of_mem _ (wwXc_wsX20 _ h)) hown hw 7 rfl rfl 7 (by decide) (hq _ wX_264) (congrArg (fun z => some (Value.int z)) e_g14_19) dX2_shift_54 ?_
              refine lv_goto (tgt := 63) hx hb dX2_shift_57 (by decide) ?_
              exact B23 (g 19) ls _ _ hw (lv_sub hl [0, 1, 2] rfl)
      exact B12 (2147483648 - ((0 : Int32)).toInt).toNat 0 g ar ls _ _ (Int.self_le_toNat _) (ob9 (((0 : Int32)).toInt) (by decide)) hk_fr0 hk_fr0 hw (lv_sub hl [2, 1, 0] rfl)
    refine hk_lcmp_lt (tgt := 37) hx hb dX2_shift_29 dX2_shift_30 (by decide) (fun cc36 => ?_) (fun cc36 => ?_)
    · refine lv_iconst (v := 0) hx hb dX2_shift_37 (by decide) ?_
      exact B10 0 ls _ _ (ob48 (((0 : Int32)).toInt) (by decide)) hw (lv_sub hl [0] rfl)
    · refine lv_iconst (v := 1) hx hb dX2_shift_33 (by decide) ?_
      refine lv_goto (tgt := 38) hx hb dX2_shift_34 (by decide) ?_
      exact B10 1 ls _ _ (ob49 (((1 : Int32)).toInt) (by decide)) hw (lv_sub hl [0] rfl)
  refine hk_lcmp_lt (tgt := 22) hx hb dX2_shift_7 dX2_shift_8 (by decide) (fun cc37 => ?_) (fun cc37 => ?_)
  · exact B9 ls _ _ hw (lv_sub hl [0] rfl)
  · refine lv_aload_n hx hb dX2_shift_11 rfl (lv_at hl 0 rfl) ?_
    refine hk_get (ci := 5) (C := RX2) (T := TX2) (N := 9) (v := .long (lg 0)) hx hb hts (fun _ h => List.mem_cons_of_mem _ (wwXc_wsX20 _ h)) hown hw 7 rfl rfl 4 (by decide) (hq _ wX_263) rfl dX2_shift_12 ?_
    refine lv_ldc2 (v := 4294967296) hx hb hown (hq _ wX_286) dX2_shift_15 ?_
    refine hk_lcmp_lt (tgt := 154) hx hb dX2_shift_18 dX2_shift_19 (by decide) (fun cc38 => ?_) (fun cc38 => ?_)
    · exact B1 g ar ls _ _ hk_fr0 hk_fr0 hw (lv_sub hl [0] rfl)
    · exact B9 ls _ _ hw (lv_sub hl [0] rfl)

set_option maxHeartbeats 4000000 in
set_option maxRecDepth 100000 in
/-- X2_bit on (7,) -/
theorem jx_X2_bit (l : Launch) (hlt : l.stackTraces = false) (D : va_G) (t3 : Nat × Nat × Nat) (cI cJ : ClassId) (ad : Nat → Nat) (g : Nat → Int32) (lg : Nat → Int64) (ar : Nat → Nat → Int32) (bk : Nat → Int64) (sz : Nat) (y1 : Int32) (y2 : Int32) (hr0 : 0 ≤ (y2).toInt ∧ (y2).toInt ≤ 1) (hi_a0rg : hk_rg 0 255 (ar 0)) : JMi l yX2_bit (Cond.code yX2_bit cX2_bit 7 (some .int) :: wwX) { frames := 7, cells := 1, slots := 6, locals := 102 } t3 D xw cI cJ ad [.ref (ad 7), .int y1, .int y2] (xw cI cJ ad g lg ar bk) sz 1 6 (fun (r : Int32) g' lg' ar' bk' => hk_fr [14, 15, 17, 19, 20] g g' ∧ hk_fr [0, 1, 2] lg lg' ∧ hk_fr [1, 2] ar ar' ∧ bk = bk' ∧ (0 ≤ (r).toInt ∧ (r).toInt ≤ 1) ∧ ((g 18).toInt ≠ 0 → (g' 14).toInt = (g 14).toInt)) (fun g' lg' ar' bk' => hk_fr [14, 15, 17, 19, 20] g g' ∧ hk_fr [0, 1, 2] lg lg' ∧ hk_fr [1, 2] ar ar' ∧ bk = bk' ∧ ((g 18).toInt ≠ 0) ∧ ((g' 14).toInt = (g 14).toInt)) := by
  refine jx_meti (cc := cX2_bit) (maxL := 7) (ret := (some .int)) rfl (by decide) rfl (Nat.le_of_ble_eq_true rfl) ?_
  intro p e s m args below meth c ls Q A hx hb hml hown hts hA hZ hw hl hQ kr kt
  have hq : ∀ w ∈ wwX, w.before args s = true := fun w h => hts w (List.mem_cons_of_mem _ h)
  have hl : lv_has ls 7 [(0, .ref (ad 7)), (1, .int y1), (2, .int y2)] := hl
  refine lv_iload_n hx hb dX2_bit_0 rfl (lv_at hl 1 rfl) ?_
  refine lv_if_lt (tgt := 13) hx hb dX2_bit_1 (by decide) (fun cc1 => ?_) (fun cc1 => ?_)
  · refine lv_iconst (v := 0) hx hb dX2_bit_13 (by decide) ?_
    exact kr 0 g lg ar bk _ _ _ _ ⟨hk_fr0, hk_fr0, hk_fr0, rfl, (ob50 (((0 : Int32)).toInt) ((y1).toInt) (hE_lt cc1) (by decide) (hE_rng (y1))), (ob51 ((g 18).toInt) ((g 14).toInt) (hE_rng (g 18)) (hE_rng (g 14)))⟩ hw dX2_bit_14
  · refine lv_iload_n hx hb dX2_bit_4 rfl (lv_at hl 1 rfl) ?_
    refine lv_aload_n hx hb dX2_bit_5 rfl (lv_at hl 0 rfl) ?_
    refine hk_get (ci := 5) (C := RX2) (T := TX2) (N := 9) (v := .ref (ad 8)) hx hb hts (fun _ h => List.mem_cons_of_mem _ (wwXc_wsX20 _ h)) hown hw 7 rfl rfl 0 (by decide) (hq _ wX_266) rfl dX2_bit_6 ?_
    refine hk_alen (v := 14340) hx hb hw 8 0 rfl rfl rfl dX2_bit_9 ?_
    refine lv_icmp_lt (tgt := 15) hx hb dX2_bit_10 (by decide) (fun cc2 => ?_) (fun cc2 => ?_)
    · refine lv_aload_n hx hb dX2_bit_15 rfl (lv_at hl 0 rfl) ?_
      refine hk_get (ci := 5) (C := RX2) (T := TX2) (N := 9) (v := .ref (ad 8)) hx hb hts (fun _ h => List.mem_cons_of_mem _ (wwXc_wsX20 _ h)) hown hw 7 rfl rfl 0 (by decide) (hq _ wX_266) rfl dX2_bit_16 ?_
      refine lv_iload_n hx hb dX2_bit_19 rfl (lv_at hl 1 rfl) ?_
      refine jx_iald hx hb hw 8 0 rfl rfl (hE_in (n := 14340) (ob52 ((y1).toInt) (((0 : Int32)).toInt) (((14340 : Int32)).toInt) (hE_nlt cc1) (hE_lt cc2) (hE_rng (y1)) (by decide) (by decide))) dX2_bit_20 (fun z3 hz3 => ?_)
      refine lv_istore_n (lv' := [(3, .int z3), (0, .ref (ad 7)), (1, .int y1), (2, .int y2)]) hx hb dX2_bit_21 rfl hl (by decide) rfl (fun ls hl => ?_)
      refine lv_aload_n hx hb dX2_bit_22 rfl (lv_at hl 1 rfl) ?_
      refine hk_get (ci := 5) (C := RX2) (T := TX2) (N := 9) (v := .long (lg 1)) hx hb hts (fun _ h => List.mem_cons_of_mem _ (wwXc_wsX20 _ h)) hown hw 7 rfl rfl 5 (by decide) (hq _ wX_247) rfl dX2_bit_23 ?_
      refine lv_bipush (v := 11) hx hb dX2_bit_26 (by decide) ?_
      refine lv_lushr hx hb dX2_bit_28 rfl (jx_nl fun z4 hz4 => ?_)
      refine lv_iload_n hx hb dX2_bit_29 rfl (lv_at hl 0 rfl) ?_
      refine lv_i2l hx hb dX2_bit_30 rfl (jx_nl fun z5 hz5 => ?_)
      refine lv_lmul hx hb dX2_bit_31 (jx_nl fun z6 hz6 => ?_)
      refine lv_lstore (lv' := [(4, .long z6), (3, .int z3), (0, .ref (ad 7)), (1, .int y1), (2, .int y2)]) hx hb dX2_bit_32 hl (by decide) rfl (fun ls hl => ?_)
      refine lv_aload_n hx hb dX2_bit_34 rfl (lv_at hl 2 rfl) ?_
      refine hk_get (ci := 5) (C := RX2) (T := TX2) (N := 9) (v := .int (g 18)) hx hb hts (fun _ h => List.mem_cons_of_mem _ (wwXc_wsX20 _ h)) hown hw 7 rfl rfl 3 (by decide) (hq _ wX_245) rfl dX2_bit_35 ?_
      have B7 : ∀  (x8 : Int32) (ls : Array Slot) (H : Heap) (locs : List Loc), (0 ≤ (x8).toInt ∧ (x8).toInt ≤ 1) → hk_W D (jT cI cJ) A s H locs (xw cI cJ ad g lg ar bk) → lv_has ls 7 [(0, .ref (ad 7)), (1, .int y1), (3, .int z3), (4, .long z6)] → W p l e { frames := 7, cells := 1, slots := 6, locals := 102 } s m args below meth c H locs 0 0 Q (F0 m 60 ls [.int x8]) := by
        intro x8 ls H locs hf_B7_0 hw hl
        refine lv_istore (lv' := [(6, .int x8), (0, .ref (ad 7)), (1, .int y1), (3, .int z3), (4, .long z6)]) hx hb dX2_bit_60 hl (by decide) rfl (fun ls hl => ?_)
        refine lv_iload hx hb dX2_bit_62 (lv_at hl 0 rfl) ?_
        have B9 : ∀  (l10 : Nat → Int64) (a11 : Nat → Nat → Int32) (ls : Array Slot) (H : Heap) (locs : List Loc), (hk_fr [0, 1, 2] lg l10) → (hk_fr [2] ar a11) → hk_W D (jT cI cJ) A s H locs (xw cI cJ ad g l10 a11 bk) → lv_has ls 7 [(0, .ref (ad 7)), (6, .int x8)] → W p l e { frames := 7, cells := 1, slots := 6, locals := 102 } s m args below meth c H locs 0 0 Q (F0 m 119 ls []) := by
          intro l10 a11 ls H locs hfr_l10 hfr_a11 hw hl
          refine lv_aload_n hx hb dX2_bit_119 rfl (lv_at hl 0 rfl) ?_
          refine hk_get (ci := 5) (C := RX2) (T := TX2) (N := 9) (v := .long (l10 1)) hx hb hts (fun _ h => List.mem_cons_of_mem _ (wwXc_wsX20 _ h)) hown hw 7 rfl rfl 5 (by decide) (hq _ wX_247) rfl dX2_bit_120 ?_
          refine lv_ldc2 (v := 16777216) hx hb hown (hq _ wX_272) dX2_bit_123 ?_
          refine hk_lcmp_ge (tgt := 181) hx hb dX2_bit_126 dX2_bit_127 (by decide) (fun cc12 => ?_) (fun cc12 => ?_)
          · refine lv_iload hx hb dX2_bit_181 (lv_at hl 1 rfl) ?_
            exact kr x8 g l10 a11 bk _ _ _ _ ⟨hk_fr0, hfr_l10, (hk_frT hk_fr0 (by decide) hfr_a11), rfl, (ob53 ((x8).toInt) hf_B7_0 (hE_rng (x8))), (ob51 ((g 18).toInt) ((g 14).toInt) (hE_rng (g 18)) (hE_rng (g 14)))⟩ hw dX2_bit_183
          · refine lv_aload_n hx hb dX2_bit_130 rfl (lv_at hl 0 rfl) ?_
            refine lv_dup hx hb dX2_bit_131 rfl ?_
            refine hk_get (ci := 5) (C := RX2) (T := TX2) (N := 9) (v := .long (l10 1)) hx hb hts (fun _ h => List.mem_cons_of_mem _ (wwXc_wsX20 _ h)) hown hw 7 rfl rfl 5 (by decide) (hq _ wX_247) rfl dX2_bit_132 ?_
            refine lv_bipush (v := 8) hx hb dX2_bit_135 (by decide) ?_
            refine lv_lshl hx hb dX2_bit_137 rfl (jx_nl fun z13 hz13 => ?_)
            refine jx_putl xw (g := g) (lg := l10) (ar := a11) (bk := bk) (x := z13) 1 (ci := 5) (C := RX2) (T := TX2) (N := 9) (ty := .long) hx hb hts (fun _ h => List.mem_cons_of_mem _ (wwXc_wsX20 _ h)) tyX2 tyX2_ok nmX2 hown hw 7 rfl rfl 5 (by decide) (hq _ wX_247) rfl (by decide +kernel) rfl rfl (Nat.le_of_ble_eq_true rfl) dX2_bit_138 rfl (fun H locs l14 h_l14 hw => ?_)
            refine lv_aload_n hx hb dX2_bit_141 rfl (lv_at hl 0 rfl) ?_
            refine hk_get (ci := 5) (C := RX2) (T := TX2) (N := 9) (v := .int (g 18)) hx hb hts (fun _ h => List.mem_cons_of_mem _ (wwXc_wsX20 _ h)) hown hw 7 rfl rfl 3 (by decide) (hq _ wX_245) rfl dX2_bit_142 ?_
            refine lv_if_eq (tgt := 177) hx hb dX2_bit_145 (by decide) (fun cc15 => ?_) (fun cc15 => ?_)
            · refine lv_aload_n hx hb dX2_bit_177 rfl (lv_at hl 0 rfl) ?_
              refine jx_Vv (As := []) (rest := []) ⟨hx, hb, hml, hown, hts⟩ hZ hw hA (jx_X2_shift l hlt D t3 cI cJ ad g l14 a11 bk _) (cwV 0 hts (jx_gV wwX_good wX_277 wX_278 wX_279 wX_270 wX_280) rfl rfl rfl (by decide +kernel) ⟨Nat.le_of_ble_eq_true rfl, Nat.le_of_ble_eq_true rfl⟩) 7 (ci := 5) (T := TX2) (N := 9) rfl rfl rfl hl.1 rfl (Nat.le_of_ble_eq_true rfl) dX2_bit_178 ⟨Nat.le_of_ble_eq_true rfl, Nat.le_of_ble_eq_true rfl⟩ (fun _ _ _ _ _ _ _ _ hp _ _ _ _ => hp.elim) (fun g21 l22 a23 b24 H locs hp25 hw => ?_)
              obtain ⟨h26, h27, h28, rfl⟩ := hp25
              have hr30 : hk_rg 0 255 (a23 0) := (hk_pE (P := hk_rg 0 255) (hk_pE (P := hk_rg 0 255) hi_a0rg (hfr_a11 0 rfl)) (h28 0 rfl))
              refine lv_iload hx hb dX2_bit_181 (lv_at hl 1 rfl) ?_
              exact kr x8 g21 l22 a23 bk _ _ _ _ ⟨(hk_frT hk_fr0 (by decide) h26), (hk_frT (hk_frL hfr_l10 (by decide) h_l14) (by decide) h27), (hk_frT (hk_frT hk_fr0 (by decide) hfr_a11) (by decide) h28), rfl, (ob53 ((x8).toInt) hf_B7_0 (hE_rng (x8))), (ob54 ((g 18).toInt) ((g21 14).toInt) ((g 14).toInt) (((0 : Int32)).toInt) ((y1).toInt) (((14340 : Int32)).toInt) (hE_eq cc15) (hE_nlt cc1) (hE_lt cc2) (hE_rng (g 18)) (hE_rng (g21 14)) (hE_rng (g 14)) (by decide) (hE_rng (y1)) (by decide))⟩ hw dX2_bit_183
            · refine lv_aload_n hx hb dX2_bit_148 rfl (lv_at hl 0 rfl) ?_
              refine lv_aload_n hx hb dX2_bit_149 rfl (lv_at hl 0 rfl) ?_
              have e_l14_2 : l14 2 = (l10 2) := (hk_uplN h_l14 2 rfl)
              refine hk_get (ci := 5) (C := RX2) (T := TX2) (N := 9) (v := .long (l10 2)) hx hb hts (fun _ h => List.mem_cons_of_mem _ (wwXc_wsX20 _ h)) hown hw 7 rfl rfl 6 (by decide) (hq _ wX_262) (congrArg (fun z => some (Value.long z)) e_l14_2) dX2_bit_150 ?_
              refine lv_bipush (v := 8) hx hb dX2_bit_153 (by decide) ?_
              refine lv_lshl hx hb dX2_bit_155 rfl (jx_nl fun z31 hz31 => ?_)
              refine lv_aload_n hx hb dX2_bit_156 rfl (lv_at hl 0 rfl) ?_
              refine hk_get (ci := 5) (C := RX2) (T := TX2) (N := 9) (v := .ref (ad 6)) hx hb hts (fun _ h => List.mem_cons_of_mem _ (wwXc_wsX20 _ h)) hown hw 7 rfl rfl 1 (by decide) (hq _ wX_248) rfl dX2_bit_157 ?_
              refine jx_Vi (As := []) (rest := [.long z31, .ref (ad 7)]) ⟨hx, hb, hml, hown, hts⟩ hZ hw hA (jx_X8_next l hlt D t3 cI cJ ad g l14 a11 bk _ (hk_pE (P := hk_rg 0 255) hi_a0rg (hfr_a11 0 rfl))) (cwV 0 hts (jx_gV wwX_good wX_249 wX_250 wX_251 wX_252 wX_253) rfl rfl rfl (by decide +kernel) ⟨Nat.le_of_ble_eq_true rfl, Nat.le_of_ble_eq_true rfl⟩) 6 (ci := 11) (T := TX8) (N := 4) rfl rfl rfl hl.1 rfl (Nat.le_of_ble_eq_true rfl) dX2_bit_160 ⟨Nat.le_of_ble_eq_true rfl, Nat.le_of_ble_eq_true rfl⟩ (fun u32 u33 u34 u35 H locs ce q hp hw h1 h2 h3 => by obtain ⟨ht0, rfl, rfl, rfl⟩ := hp; have e_u32_14 : u32 14 = (g 14) := (ht0 14 rfl); exact kt _ _ _ _ _ _ _ _ _ _ _ ⟨(hk_frT hk_fr0 (by decide) ht0), (hk_frL hfr_l10 (by decide) h_l14), (hk_frT hk_fr0 (by decide) hfr_a11), rfl, (ob55 ((g 18).toInt) (((0 : Int32)).toInt) ((y1).toInt) (((14340 : Int32)).toInt) (hE_ne cc15) (hE_nlt cc1) (hE_lt cc2) (hE_rng (g 18)) (by decide) (hE_rng (y1)) (by decide)), (ob56 ((u32 14).toInt) ((g 14).toInt) (congrArg Int32.toInt e_u32_14) (hE_rng (u32 14)) (hE_rng (g 14)))⟩ hw h1 h2 h3) (fun r36 g37 l38 a39 b40 H locs hp41 hw => ?_)
              obtain ⟨h42, rfl, rfl, rfl, h46⟩ := hp41
              refine lv_i2l hx hb dX2_bit_163 rfl (jx_nl fun z47 hz47 => ?_)
              refine lv_lor hx hb dX2_bit_164 (jx_nl fun z48 hz48 => ?_)
              refine lv_ldc2 (v := 1099511627776) hx hb hown (hq _ wX_273) dX2_bit_165 ?_
              refine va_mmin_long hx hb (by rw [hml]; exact hl.1.symm) hown (hq _ wX_274) (hq _ wX_275) (hq _ wX_143) (hq _ wX_276) (Nat.le_of_ble_eq_true rfl) (Nat.le_of_ble_eq_true rfl) (Nat.le_of_ble_eq_true rfl) (Nat.le_of_ble_eq_true rfl) dX2_bit_168 (jx_nl fun z49 hz49 => ?_)
              refine jx_putl xw (g := g37) (lg := l14) (ar := a11) (bk := bk) (x := z49) 2 (ci := 5) (C := RX2) (T := TX2) (N := 9) (ty := .long) hx hb hts (fun _ h => List.mem_cons_of_mem _ (wwXc_wsX20 _ h)) tyX2 tyX2_ok nmX2 hown hw 7 rfl rfl 6 (by decide) (hq _ wX_262) rfl (by decide +kernel) rfl rfl (Nat.le_of_ble_eq_true rfl) dX2_bit_171 rfl (fun H locs l50 h_l50 hw => ?_)
              refine lv_goto (tgt := 181) hx hb dX2_bit_174 (by decide) ?_
              refine lv_iload hx hb dX2_bit_181 (lv_at hl 1 rfl) ?_
              have e_g37_14 : g37 14 = (g 14) := (h42 14 rfl)
              exact kr x8 g37 l50 a11 bk _ _ _ _ ⟨(hk_frT hk_fr0 (by decide) h42), (hk_frL (hk_frL hfr_l10 (by decide) h_l14) (by decide) h_l50), (hk_frT hk_fr0 (by decide) hfr_a11), rfl, (ob53 ((x8).toInt) hf_B7_0 (hE_rng (x8))), (ob57 ((g 18).toInt) ((g37 14).toInt) ((g 14).toInt) (((0 : Int32)).toInt) ((y1).toInt) (((14340 : Int32)).toInt) (hE_ne cc15) (congrArg Int32.toInt e_g37_14) (hE_nlt cc1) (hE_lt cc2) (hE_rng (g 18)) (hE_rng (g37 14)) (hE_rng (g 14)) (by decide) (hE_rng (y1)) (by decide))⟩ hw dX2_bit_183
        refine lv_if_ne (tgt := 91) hx hb dX2_bit_64 (by decide) (fun cc51 => ?_) (fun cc51 => ?_)
        · refine lv_aload_n hx hb dX2_bit_91 rfl (lv_at hl 1 rfl) ?_
          refine lv_dup hx hb dX2_bit_92 rfl ?_
          refine hk_get (ci := 5) (C := RX2) (T := TX2) (N := 9) (v := .long (lg 1)) hx hb hts (fun _ h => List.mem_cons_of_mem _ (wwXc_wsX20 _ h)) hown hw 7 rfl rfl 5 (by decide) (hq _ wX_247) rfl dX2_bit_93 ?_
          refine lv_lload hx hb dX2_bit_96 (lv_at hl 4 rfl) ?_
          refine lv_lsub hx hb dX2_bit_98 (jx_nl fun z52 hz52 => ?_)
          refine jx_putl xw (g := g) (lg := lg) (ar := ar) (bk := bk) (x := z52) 1 (ci := 5) (C := RX2) (T := TX2) (N := 9) (ty := .long) hx hb hts (fun _ h => List.mem_cons_of_mem _ (wwXc_wsX20 _ h)) tyX2 tyX2_ok nmX2 hown hw 7 rfl rfl 5 (by decide) (hq _ wX_247) rfl (by decide +kernel) rfl rfl (Nat.le_of_ble_eq_true rfl) dX2_bit_99 rfl (fun H locs l53 h_l53 hw => ?_)
          refine lv_aload_n hx hb dX2_bit_102 rfl (lv_at hl 1 rfl) ?_
          refine lv_lload hx hb dX2_bit_103 (lv_at hl 4 rfl) ?_
          refine jx_Vv (As := [.long z6]) (rest := []) ⟨hx, hb, hml, hown, hts⟩ hZ hw hA (jx_X2_skip l hlt D t3 cI cJ ad g l53 ar bk _ z6) (cwV 1 hts (jx_gV wwX_good wX_267 wX_268 wX_269 wX_270 wX_271) rfl rfl rfl (by decide +kernel) ⟨Nat.le_of_ble_eq_true rfl, Nat.le_of_ble_eq_true rfl⟩) 7 (ci := 5) (T := TX2) (N := 9) rfl rfl rfl hl.1 rfl (Nat.le_of_ble_eq_true rfl) dX2_bit_105 ⟨Nat.le_of_ble_eq_true rfl, Nat.le_of_ble_eq_true rfl⟩ (fun _ _ _ _ _ _ _ _ hp _ _ _ _ => hp.elim) (fun g59 l60 a61 b62 H locs hp63 hw => ?_)
          obtain ⟨rfl, h65, rfl, rfl⟩ := hp63
          refine lv_aload_n hx hb dX2_bit_108 rfl (lv_at hl 1 rfl) ?_
          refine hk_get (ci := 5) (C := RX2) (T := TX2) (N := 9) (v := .ref (ad 8)) hx hb hts (fun _ h => List.mem_cons_of_mem _ (wwXc_wsX20 _ h)) hown hw 7 rfl rfl 0 (by decide) (hq _ wX_266) rfl dX2_bit_109 ?_
          refine lv_iload_n hx hb dX2_bit_112 rfl (lv_at hl 2 rfl) ?_
          refine lv_iload_n hx hb dX2_bit_113 rfl (lv_at hl 3 rfl) ?_
          refine lv_iload_n hx hb dX2_bit_114 rfl (lv_at hl 3 rfl) ?_
          refine lv_iconst (v := 5) hx hb dX2_bit_115 (by decide) ?_
          refine lv_ishr hx hb dX2_bit_116 (jx_nm fun z68 hz68 => ?_)
          refine lv_isub hx hb dX2_bit_117 (jx_nm fun z69 hz69 => ?_)
          refine jx_iast xw (g := g) (lg := l60) (ar := ar) (bk := bk) 2 hx hb hw 8 0 rfl rfl (hE_in (n := 14340) (ob58 ((y1).toInt) (((0 : Int32)).toInt) (((14340 : Int32)).toInt) ((x8).toInt) (hE_nlt cc1) (hE_lt cc2) (hE_ne cc51) hf_B7_0 (hE_rng (y1)) (by decide) (by decide) (hE_rng (x8)))) dX2_bit_118 rfl (fun H locs a70 h_a70 hw => ?_)
          exact B9 l60 a70 ls _ _ (hk_frT (hk_frL hk_fr0 (by decide) h_l53) (by decide) h65) (hk_frA hk_fr0 (by decide) h_a70) hw (lv_sub hl [1, 0] rfl)
        · refine lv_aload_n hx hb dX2_bit_67 rfl (lv_at hl 1 rfl) ?_
          refine lv_lload hx hb dX2_bit_68 (lv_at hl 4 rfl) ?_
          refine jx_putl xw (g := g) (lg := lg) (ar := ar) (bk := bk) (x := z6) 1 (ci := 5) (C := RX2) (T := TX2) (N := 9) (ty := .long) hx hb hts (fun _ h => List.mem_cons_of_mem _ (wwXc_wsX20 _ h)) tyX2 tyX2_ok nmX2 hown hw 7 rfl rfl 5 (by decide) (hq _ wX_247) rfl (by decide +kernel) rfl rfl (Nat.le_of_ble_eq_true rfl) dX2_bit_70 rfl (fun H locs l71 h_l71 hw => ?_)
          refine lv_aload_n hx hb dX2_bit_73 rfl (lv_at hl 1 rfl) ?_
          refine hk_get (ci := 5) (C := RX2) (T := TX2) (N := 9) (v := .ref (ad 8)) hx hb hts (fun _ h => List.mem_cons_of_mem _ (wwXc_wsX20 _ h)) hown hw 7 rfl rfl 0 (by decide) (hq _ wX_266) rfl dX2_bit_74 ?_
          refine lv_iload_n hx hb dX2_bit_77 rfl (lv_at hl 2 rfl) ?_
          refine lv_iload_n hx hb dX2_bit_78 rfl (lv_at hl 3 rfl) ?_
          refine lv_sipush (v := 2048) hx hb dX2_bit_79 (by decide) ?_
          refine lv_iload_n hx hb dX2_bit_82 rfl (lv_at hl 3 rfl) ?_
          refine lv_isub hx hb dX2_bit_83 (jx_nm fun z72 hz72 => ?_)
          refine lv_iconst (v := 5) hx hb dX2_bit_84 (by decide) ?_
          refine lv_ishr hx hb dX2_bit_85 (jx_nm fun z73 hz73 => ?_)
          refine lv_iadd hx hb dX2_bit_86 (jx_nm fun z74 hz74 => ?_)
          refine jx_iast xw (g := g) (lg := l71) (ar := ar) (bk := bk) 2 hx hb hw 8 0 rfl rfl (hE_in (n := 14340) (ob59 ((y1).toInt) (((0 : Int32)).toInt) (((14340 : Int32)).toInt) ((x8).toInt) (hE_nlt cc1) (hE_lt cc2) (hE_eq cc51) hf_B7_0 (hE_rng (y1)) (by decide) (by decide) (hE_rng (x8)))) dX2_bit_87 rfl (fun H locs a75 h_a75 hw => ?_)
          refine lv_goto (tgt := 119) hx hb dX2_bit_88 (by decide) ?_
          exact B9 l71 a75 ls _ _ (hk_frL hk_fr0 (by decide) h_l71) (hk_frA hk_fr0 (by decide) h_a75) hw (lv_sub hl [1, 0] rfl)
      refine lv_if_eq (tgt := 59) hx hb dX2_bit_38 (by decide) (fun cc76 => ?_) (fun cc76 => ?_)
      · refine lv_iload_n hx hb dX2_bit_59 rfl (lv_at hl 4 rfl) ?_
        exact B7 y2 ls _ _ (ob53 ((y2).toInt) hr0 (hE_rng (y2))) hw (lv_sub hl [2, 3, 1, 0] rfl)
      · refine lv_aload_n hx hb dX2_bit_41 rfl (lv_at hl 2 rfl) ?_
        refine hk_get (ci := 5) (C := RX2) (T := TX2) (N := 9) (v := .long (lg 2)) hx hb hts (fun _ h => List.mem_cons_of_mem _ (wwXc_wsX20 _ h)) hown hw 7 rfl rfl 6 (by decide) (hq _ wX_262) rfl dX2_bit_42 ?_
        refine lv_lload hx hb dX2_bit_45 (lv_at hl 0 rfl) ?_
        refine hk_lcmp_ge (tgt := 55) hx hb dX2_bit_47 dX2_bit_48 (by decide) (fun cc77 => ?_) (fun cc77 => ?_)
        · refine lv_iconst (v := 1) hx hb dX2_bit_55 (by decide) ?_
          refine lv_goto (tgt := 60) hx hb dX2_bit_56 (by decide) ?_
          exact B7 1 ls _ _ (ob49 (((1 : Int32)).toInt) (by decide)) hw (lv_sub hl [2, 3, 1, 0] rfl)
        · refine lv_iconst (v := 0) hx hb dX2_bit_51 (by decide) ?_
          refine lv_goto (tgt := 60) hx hb dX2_bit_52 (by decide) ?_
          exact B7 0 ls _ _ (ob60 (((0 : Int32)).toInt) ((y1).toInt) ((g 18).toInt) (((14340 : Int32)).toInt) (hE_nlt cc1) (hE_ne cc76) (hE_lt cc2) (by decide) (hE_rng (y1)) (hE_rng (g 18)) (by decide)) hw (lv_sub hl [2, 3, 1, 0] rfl)
    · refine lv_iconst (v := 0) hx hb dX2_bit_13 (by decide) ?_
      exact kr 0 g lg ar bk _ _ _ _ ⟨hk_fr0, hk_fr0, hk_fr0, rfl, (ob61 (((0 : Int32)).toInt) ((y1).toInt) (((14340 : Int32)).toInt) (hE_nlt cc1) (hE_nlt cc2) (by decide) (hE_rng (y1)) (by decide)), (ob51 ((g 18).toInt) ((g 14).toInt) (hE_rng (g 18)) (hE_rng (g 14)))⟩ hw dX2_bit_14

set_option maxHeartbeats 4000000 in
set_option maxRecDepth 100000 in
/-- X2_plainBit on (7,) -/
theorem jx_X2_plainBit (l : Launch) (hlt : l.stackTraces = false) (D : va_G) (t3 : Nat × Nat × Nat) (cI cJ : ClassId) (ad : Nat → Nat) (g : Nat → Int32) (lg : Nat → Int64) (ar : Nat → Nat → Int32) (bk : Nat → Int64) (sz : Nat) (y1 : Int32) (hr0 : 0 ≤ (y1).toInt ∧ (y1).toInt ≤ 1) (hi_a0rg : hk_rg 0 255 (ar 0)) : JMi l yX2_plainBit (Cond.code yX2_plainBit cX2_plainBit 3 (some .int) :: wwX) { frames := 7, cells := 1, slots := 6, locals := 102 } t3 D xw cI cJ ad [.ref (ad 7), .int y1] (xw cI cJ ad g lg ar bk) sz 1 6 (fun (r : Int32) g' lg' ar' bk' => hk_fr [14, 15, 17, 19, 20] g g' ∧ hk_fr [0, 1, 2] lg lg' ∧ hk_fr [1] ar ar' ∧ bk = bk' ∧ (0 ≤ (r).toInt ∧ (r).toInt ≤ 1) ∧ ((g 18).toInt ≠ 0 → (g' 14).toInt = (g 14).toInt)) (fun g' lg' ar' bk' => hk_fr [14, 15, 17, 19, 20] g g' ∧ hk_fr [0, 1, 2] lg lg' ∧ hk_fr [1] ar ar' ∧ bk = bk' ∧ ((g 18).toInt ≠ 0) ∧ ((g' 14).toInt = (g 14).toInt)) := by
  refine jx_meti (cc := cX2_plainBit) (maxL := 3) (ret := (some .int)) rfl (by decide) rfl (Nat.le_of_ble_eq_true rfl) ?_
  intro p e s m args below meth c ls Q A hx hb hml hown hts hA hZ hw hl hQ kr kt
  have hq : ∀ w ∈ wwX, w.before args s = true := fun w h => hts w (List.mem_cons_of_mem _ h)
  have hl : lv_has ls 3 [(0, .ref (ad 7)), (1, .int y1)] := hl
  refine lv_aload_n hx hb dX2_plainBit_0 rfl (lv_at hl 0 rfl) ?_
  refine lv_dup hx hb dX2_plainBit_1 rfl ?_
  refine hk_get (ci := 5) (C := RX2) (T := TX2) (N := 9) (v := .long (lg 1)) hx hb hts (fun _ h => List.mem_cons_of_mem _ (wwXc_wsX20 _ h)) hown hw 7 rfl rfl 5 (by decide) (hq _ wX_247) rfl dX2_plainBit_2 ?_
  refine lv_iconst (v := 1) hx hb dX2_plainBit_5 (by decide) ?_
  refine lv_lushr hx hb dX2_plainBit_6 rfl (jx_nl fun z1 hz1 => ?_)
  refine jx_putl xw (g := g) (lg := lg) (ar := ar) (bk := bk) (x := z1) 1 (ci := 5) (C := RX2) (T := TX2) (N := 9) (ty := .long) hx hb hts (fun _ h => List.mem_cons_of_mem _ (wwXc_wsX20 _ h)) tyX2 tyX2_ok nmX2 hown hw 7 rfl rfl 5 (by decide) (hq _ wX_247) rfl (by decide +kernel) rfl rfl (Nat.le_of_ble_eq_true rfl) dX2_plainBit_7 rfl (fun H locs l2 h_l2 hw => ?_)
  refine lv_aload_n hx hb dX2_plainBit_10 rfl (lv_at hl 0 rfl) ?_
  refine hk_get (ci := 5) (C := RX2) (T := TX2) (N := 9) (v := .int (g 18)) hx hb hts (fun _ h => List.mem_cons_of_mem _ (wwXc_wsX20 _ h)) hown hw 7 rfl rfl 3 (by decide) (hq _ wX_245) rfl dX2_plainBit_11 ?_
  have B3 : ∀  (x4 : Int32) (ls : Array Slot) (H : Heap) (locs : List Loc), (0 ≤ (x4).toInt ∧ (x4).toInt ≤ 1) → hk_W D (jT cI cJ) A s H locs (xw cI cJ ad g l2 ar bk) → lv_has ls 3 [(0, .ref (ad 7))] → W p l e { frames := 7, cells := 1, slots := 6, locals := 102 } s m args below meth c H locs 0 0 Q (F0 m 38 ls [.int x4]) := by
    intro x4 ls H locs hf_B3_0 hw hl
    refine lv_istore_n (lv' := [(2, .int x4), (0, .ref (ad 7))]) hx hb dX2_plainBit_38 rfl hl (by decide) rfl (fun ls hl => ?_)
    refine lv_iload_n hx hb dX2_plainBit_39 rfl (lv_at hl 0 rfl) ?_
    have B5 : ∀  (l6 : Nat → Int64) (ls : Array Slot) (H : Heap) (locs : List Loc), (hk_fr [0, 2] l2 l6) → hk_W D (jT cI cJ) A s H locs (xw cI cJ ad g l6 ar bk) → lv_has ls 3 [(0, .ref (ad 7)), (2, .int x4)] → W p l e { frames := 7, cells := 1, slots := 6, locals := 102 } s m args below meth c H locs 0 0 Q (F0 m 51 ls []) := by
      intro l6 ls H locs hfr_l6 hw hl
      refine lv_aload_n hx hb dX2_plainBit_51 rfl (lv_at hl 0 rfl) ?_
      have e_l6_1 : l6 1 = z1 := ((hfr_l6 1 rfl)).trans (hk_uplS h_l2)
      refine hk_get (ci := 5) (C := RX2) (T := TX2) (N := 9) (v := .long z1) hx hb hts (fun _ h => List.mem_cons_of_mem _ (wwXc_wsX20 _ h)) hown hw 7 rfl rfl 5 (by decide) (hq _ wX_247) (congrArg (fun z => some (Value.long z)) e_l6_1) dX2_plainBit_52 ?_
      refine lv_ldc2 (v := 16777216) hx hb hown (hq _ wX_272) dX2_plainBit_55 ?_
      refine hk_lcmp_ge (tgt := 113) hx hb dX2_plainBit_58 dX2_plainBit_59 (by decide) (fun cc7 => ?_) (fun cc7 => ?_)
      · refine lv_iload_n hx hb dX2_plainBit_113 rfl (lv_at hl 1 rfl) ?_
        exact kr x4 g l6 ar bk _ _ _ _ ⟨hk_fr0, (hk_frT (hk_frL hk_fr0 (by decide) h_l2) (by decide) hfr_l6), hk_fr0, rfl, (ob53 ((x4).toInt) hf_B3_0 (hE_rng (x4))), (ob51 ((g 18).toInt) ((g 14).toInt) (hE_rng (g 18)) (hE_rng (g 14)))⟩ hw dX2_plainBit_114
      · refine lv_aload_n hx hb dX2_plainBit_62 rfl (lv_at hl 0 rfl) ?_
        refine lv_dup hx hb dX2_plainBit_63 rfl ?_
        refine hk_get (ci := 5) (C := RX2) (T := TX2) (N := 9) (v := .long z1) hx hb hts (fun _ h => List.mem_cons_of_mem _ (wwXc_wsX20 _ h)) hown hw 7 rfl rfl 5 (by decide) (hq _ wX_247) (congrArg (fun z => some (Value.long z)) e_l6_1) dX2_plainBit_64 ?_
        refine lv_bipush (v := 8) hx hb dX2_plainBit_67 (by decide) ?_
        refine lv_lshl hx hb dX2_plainBit_69 rfl (jx_nl fun z8 hz8 => ?_)
        refine jx_putl xw (g := g) (lg := l6) (ar := ar) (bk := bk) (x := z8) 1 (ci := 5) (C := RX2) (T := TX2) (N := 9) (ty := .long) hx hb hts (fun _ h => List.mem_cons_of_mem _ (wwXc_wsX20 _ h)) tyX2 tyX2_ok nmX2 hown hw 7 rfl rfl 5 (by decide) (hq _ wX_247) rfl (by decide +kernel) rfl rfl (Nat.le_of_ble_eq_true rfl) dX2_plainBit_70 rfl (fun H locs l9 h_l9 hw => ?_)
        refine lv_aload_n hx hb dX2_plainBit_73 rfl (lv_at hl 0 rfl) ?_
        refine hk_get (ci := 5) (C := RX2) (T := TX2) (N := 9) (v := .int (g 18)) hx hb hts (fun _ h => List.mem_cons_of_mem _ (wwXc_wsX20 _ h)) hown hw 7 rfl rfl 3 (by decide) (hq _ wX_245) rfl dX2_plainBit_74 ?_
        refine lv_if_eq (tgt := 109) hx hb dX2_plainBit_77 (by decide) (fun cc10 => ?_) (fun cc10 => ?_)
        · refine lv_aload_n hx hb dX2_plainBit_109 rfl (lv_at hl 0 rfl) ?_
          refine jx_Vv (As := []) (rest := []) ⟨hx, hb, hml, hown, hts⟩ hZ hw hA (jx_X2_shift l hlt D t3 cI cJ ad g l9 ar bk _) (cwV 0 hts (jx_gV wwX_good wX_277 wX_278 wX_279 wX_270 wX_280) rfl rfl rfl (by decide +kernel) ⟨Nat.le_of_ble_eq_true rfl, Nat.le_of_ble_eq_true rfl⟩) 7 (ci := 5) (T := TX2) (N := 9) rfl rfl rfl hl.1 rfl (Nat.le_of_ble_eq_true rfl) dX2_plainBit_110 ⟨Nat.le_of_ble_eq_true rfl, Nat.le_of_ble_eq_true rfl⟩ (fun _ _ _ _ _ _ _ _ hp _ _ _ _ => hp.elim) (fun g16 l17 a18 b19 H locs hp20 hw => ?_)
          obtain ⟨h21, h22, h23, rfl⟩ := hp20
          refine lv_iload_n hx hb dX2_plainBit_113 rfl (lv_at hl 1 rfl) ?_
          exact kr x4 g16 l17 a18 bk _ _ _ _ ⟨(hk_frT hk_fr0 (by decide) h21), (hk_frT (hk_frL (hk_frT (hk_frL hk_fr0 (by decide) h_l2) (by decide) hfr_l6) (by decide) h_l9) (by decide) h22), h23, rfl, (ob53 ((x4).toInt) hf_B3_0 (hE_rng (x4))), (ob62 ((g 18).toInt) ((g16 14).toInt) ((g 14).toInt) (((0 : Int32)).toInt) (hE_eq cc10) (hE_rng (g 18)) (hE_rng (g16 14)) (hE_rng (g 14)) (by decide))⟩ hw dX2_plainBit_114
        · refine lv_aload_n hx hb dX2_plainBit_80 rfl (lv_at hl 0 rfl) ?_
          refine lv_aload_n hx hb dX2_plainBit_81 rfl (lv_at hl 0 rfl) ?_
          have e_l9_2 : l9 2 = (l6 2) := (hk_uplN h_l9 2 rfl)
          refine hk_get (ci := 5) (C := RX2) (T := TX2) (N := 9) (v := .long (l6 2)) hx hb hts (fun _ h => List.mem_cons_of_mem _ (wwXc_wsX20 _ h)) hown hw 7 rfl rfl 6 (by decide) (hq _ wX_262) (congrArg (fun z => some (Value.long z)) e_l9_2) dX2_plainBit_82 ?_
          refine lv_bipush (v := 8) hx hb dX2_plainBit_85 (by decide) ?_
          refine lv_lshl hx hb dX2_plainBit_87 rfl (jx_nl fun z25 hz25 => ?_)
          refine lv_aload_n hx hb dX2_plainBit_88 rfl (lv_at hl 0 rfl) ?_
          refine hk_get (ci := 5) (C := RX2) (T := TX2) (N := 9) (v := .ref (ad 6)) hx hb hts (fun _ h => List.mem_cons_of_mem _ (wwXc_wsX20 _ h)) hown hw 7 rfl rfl 1 (by decide) (hq _ wX_248) rfl dX2_plainBit_89 ?_
          refine jx_Vi (As := []) (rest := [.long z25, .ref (ad 7)]) ⟨hx, hb, hml, hown, hts⟩ hZ hw hA (jx_X8_next l hlt D t3 cI cJ ad g l9 ar bk _ hi_a0rg) (cwV 0 hts (jx_gV wwX_good wX_249 wX_250 wX_251 wX_252 wX_253) rfl rfl rfl (by decide +kernel) ⟨Nat.le_of_ble_eq_true rfl, Nat.le_of_ble_eq_true rfl⟩) 6 (ci := 11) (T := TX8) (N := 4) rfl rfl rfl hl.1 rfl (Nat.le_of_ble_eq_true rfl) dX2_plainBit_92 ⟨Nat.le_of_ble_eq_true rfl, Nat.le_of_ble_eq_true rfl⟩ (fun u26 u27 u28 u29 H locs ce q hp hw h1 h2 h3 => by obtain ⟨ht0, rfl, rfl, rfl⟩ := hp; have e_u26_14 : u26 14 = (g 14) := (ht0 14 rfl); exact kt _ _ _ _ _ _ _ _ _ _ _ ⟨(hk_frT hk_fr0 (by decide) ht0), (hk_frL (hk_frT (hk_frL hk_fr0 (by decide) h_l2) (by decide) hfr_l6) (by decide) h_l9), hk_fr0, rfl, (ob63 ((g 18).toInt) (((0 : Int32)).toInt) (hE_ne cc10) (hE_rng (g 18)) (by decide)), (ob56 ((u26 14).toInt) ((g 14).toInt) (congrArg Int32.toInt e_u26_14) (hE_rng (u26 14)) (hE_rng (g 14)))⟩ hw h1 h2 h3) (fun r30 g31 l32 a33 b34 H locs hp35 hw => ?_)
          obtain ⟨h36, rfl, rfl, rfl, h40⟩ := hp35
          refine lv_i2l hx hb dX2_plainBit_95 rfl (jx_nl fun z41 hz41 => ?_)
          refine lv_lor hx hb dX2_plainBit_96 (jx_nl fun z42 hz42 => ?_)
          refine lv_ldc2 (v := 1099511627776) hx hb hown (hq _ wX_273) dX2_plainBit_97 ?_
          refine va_mmin_long hx hb (by rw [hml]; exact hl.1.symm) hown (hq _ wX_274) (hq _ wX_275) (hq _ wX_143) (hq _ wX_276) (Nat.le_of_ble_eq_true rfl) (Nat.le_of_ble_eq_true rfl) (Nat.le_of_ble_eq_true rfl) (Nat.le_of_ble_eq_true rfl) dX2_plainBit_100 (jx_nl fun z43 hz43 => ?_)
          refine jx_putl xw (g := g31) (lg := l9) (ar := ar) (bk := bk) (x := z43) 2 (ci := 5) (C := RX2) (T := TX2) (N := 9) (ty := .long) hx hb hts (fun _ h => List.mem_cons_of_mem _ (wwXc_wsX20 _ h)) tyX2 tyX2_ok nmX2 hown hw 7 rfl rfl 6 (by decide) (hq _ wX_262) rfl (by decide +kernel) rfl rfl (Nat.le_of_ble_eq_true rfl) dX2_plainBit_103 rfl (fun H locs l44 h_l44 hw => ?_)
          refine lv_goto (tgt := 113) hx hb dX2_plainBit_106 (by decide) ?_
          refine lv_iload_n hx hb dX2_plainBit_113 rfl (lv_at hl 1 rfl) ?_
          have e_g31_14 : g31 14 = (g 14) := (h36 14 rfl)
          exact kr x4 g31 l44 ar bk _ _ _ _ ⟨(hk_frT hk_fr0 (by decide) h36), (hk_frL (hk_frL (hk_frT (hk_frL hk_fr0 (by decide) h_l2) (by decide) hfr_l6) (by decide) h_l9) (by decide) h_l44), hk_fr0, rfl, (ob53 ((x4).toInt) hf_B3_0 (hE_rng (x4))), (ob64 ((g 18).toInt) ((g31 14).toInt) ((g 14).toInt) (((0 : Int32)).toInt) (hE_ne cc10) (congrArg Int32.toInt e_g31_14) (hE_rng (g 18)) (hE_rng (g31 14)) (hE_rng (g 14)) (by decide))⟩ hw dX2_plainBit_114
    refine lv_if_eq (tgt := 51) hx hb dX2_plainBit_40 (by decide) (fun cc45 => ?_) (fun cc45 => ?_)
    · exact B5 l2 ls _ _ hk_fr0 hw (lv_sub hl [1, 0] rfl)
    · refine lv_aload_n hx hb dX2_plainBit_43 rfl (lv_at hl 1 rfl) ?_
      refine lv_aload_n hx hb dX2_plainBit_44 rfl (lv_at hl 1 rfl) ?_
      have e_l2_1 : l2 1 = z1 := (hk_uplS h_l2)
      refine hk_get (ci := 5) (C := RX2) (T := TX2) (N := 9) (v := .long z1) hx hb hts (fun _ h => List.mem_cons_of_mem _ (wwXc_wsX20 _ h)) hown hw 7 rfl rfl 5 (by decide) (hq _ wX_247) (congrArg (fun z => some (Value.long z)) e_l2_1) dX2_plainBit_45 ?_
      refine jx_Vv (As := [.long z1]) (rest := []) ⟨hx, hb, hml, hown, hts⟩ hZ hw hA (jx_X2_skip l hlt D t3 cI cJ ad g l2 ar bk _ z1) (cwV 1 hts (jx_gV wwX_good wX_267 wX_268 wX_269 wX_270 wX_271) rfl rfl rfl (by decide +kernel) ⟨Nat.le_of_ble_eq_true rfl, Nat.le_of_ble_eq_true rfl⟩) 7 (ci := 5) (T := TX2) (N := 9) rfl rfl rfl hl.1 rfl (Nat.le_of_ble_eq_true rfl) dX2_plainBit_48 ⟨Nat.le_of_ble_eq_true rfl, Nat.le_of_ble_eq_true rfl⟩ (fun _ _ _ _ _ _ _ _ hp _ _ _ _ => hp.elim) (fun g51 l52 a53 b54 H locs hp55 hw => ?_)
      obtain ⟨rfl, h57, rfl, rfl⟩ := hp55
      exact B5 l52 ls _ _ h57 hw (lv_sub hl [1, 0] rfl)
  refine lv_if_eq (tgt := 37) hx hb dX2_plainBit_14 (by decide) (fun cc60 => ?_) (fun cc60 => ?_)
  · refine lv_iload_n hx hb dX2_plainBit_37 rfl (lv_at hl 1 rfl) ?_
    exact B3 y1 ls _ _ (ob53 ((y1).toInt) hr0 (hE_rng (y1))) hw (lv_sub hl [0] rfl)
  · refine lv_aload_n hx hb dX2_plainBit_17 rfl (lv_at hl 0 rfl) ?_
    have e_l2_2 : l2 2 = (lg 2) := (hk_uplN h_l2 2 rfl)
    refine hk_get (ci := 5) (C := RX2) (T := TX2) (N := 9) (v := .long (lg 2)) hx hb hts (fun _ h => List.mem_cons_of_mem _ (wwXc_wsX20 _ h)) hown hw 7 rfl rfl 6 (by decide) (hq _ wX_262) (congrArg (fun z => some (Value.long z)) e_l2_2) dX2_plainBit_18 ?_
    refine lv_aload_n hx hb dX2_plainBit_21 rfl (lv_at hl 0 rfl) ?_
    have e_l2_1 : l2 1 = z1 := (hk_uplS h_l2)
    refine hk_get (ci := 5) (C := RX2) (T := TX2) (N := 9) (v := .long z1) hx hb hts (fun _ h => List.mem_cons_of_mem _ (wwXc_wsX20 _ h)) hown hw 7 rfl rfl 5 (by decide) (hq _ wX_247) (congrArg (fun z => some (Value.long z)) e_l2_1) dX2_plainBit_22 ?_
    refine hk_lcmp_ge (tgt := 33) hx hb dX2_plainBit_25 dX2_plainBit_26 (by decide) (fun cc61 => ?_) (fun cc61 => ?_)
    · refine lv_iconst (v := 1) hx hb dX2_plainBit_33 (by decide) ?_
      refine lv_goto (tgt := 38) hx hb dX2_plainBit_34 (by decide) ?_
      exact B3 1 ls _ _ (ob49 (((1 : Int32)).toInt) (by decide)) hw (lv_sub hl [0] rfl)
    · refine lv_iconst (v := 0) hx hb dX2_plainBit_29 (by decide) ?_
      refine lv_goto (tgt := 38) hx hb dX2_plainBit_30 (by decide) ?_
      exact B3 0 ls _ _ (ob65 (((0 : Int32)).toInt) ((g 18).toInt) (hE_ne cc60) (by decide) (hE_rng (g 18))) hw (lv_sub hl [0] rfl)

set_option maxHeartbeats 4000000 in
set_option maxRecDepth 100000 in
/-- X2_beginOpening on (7,) -/
theorem jx_X2_beginOpening (l : Launch) (hlt : l.stackTraces = false) (D : va_G) (t3 : Nat × Nat × Nat) (cI cJ : ClassId) (ad : Nat → Nat) (g : Nat → Int32) (lg : Nat → Int64) (ar : Nat → Nat → Int32) (bk : Nat → Int64) (sz : Nat) (hi_a0rg : hk_rg 0 255 (ar 0)) : JMv l yX2_beginOpening (Cond.code yX2_beginOpening cX2_beginOpening 1 none :: wwX) { frames := 8, cells := 1, slots := 6, locals := 125 } t3 D xw cI cJ ad [.ref (ad 7)] (xw cI cJ ad g lg ar bk) sz 1 6 (fun g' lg' ar' bk' => hk_fr [15, 17, 18] g g' ∧ hk_fr [1, 2] lg lg' ∧ ar = ar' ∧ bk = bk' ∧ ((g' 18).toInt ≠ 0)) (fun g' lg' ar' bk' => hk_fr [15, 17, 18] g g' ∧ hk_fr [1, 2] lg lg' ∧ ar = ar' ∧ bk = bk') := by
  refine jx_metv (cc := cX2_beginOpening) (maxL := 1) (ret := none) rfl (by decide) rfl (Nat.le_of_ble_eq_true rfl) ?_
  intro p e s m args below meth c ls Q A hx hb hml hown hts hA hZ hw hl hQ kr kt
  have hq : ∀ w ∈ wwX, w.before args s = true := fun w h => hts w (List.mem_cons_of_mem _ h)
  have hl : lv_has ls 1 [(0, .ref (ad 7))] := hl
  refine lv_aload_n hx hb dX2_beginOpening_0 rfl (lv_at hl 0 rfl) ?_
  refine lv_iconst (v := 1) hx hb dX2_beginOpening_1 (by decide) ?_
  refine jx_putg xw (g := g) (lg := lg) (ar := ar) (bk := bk) (x := 1) 18 (ci := 5) (C := RX2) (T := TX2) (N := 9) (ty := .boolean) hx hb hts (fun _ h => List.mem_cons_of_mem _ (wwXc_wsX20 _ h)) tyX2 tyX2_ok nmX2 hown hw 7 rfl rfl 3 (by decide) (hq _ wX_245) rfl (by decide +kernel) rfl rfl (Nat.le_of_ble_eq_true rfl) dX2_beginOpening_2 rfl (fun H locs g1 h_g1 hw => ?_)
  refine lv_aload_n hx hb dX2_beginOpening_5 rfl (lv_at hl 0 rfl) ?_
  refine lv_ldc2 (v := 4294967295) hx hb hown (hq _ wX_246) dX2_beginOpening_6 ?_
  refine jx_putl xw (g := g1) (lg := lg) (ar := ar) (bk := bk) (x := 4294967295) 1 (ci := 5) (C := RX2) (T := TX2) (N := 9) (ty := .long) hx hb hts (fun _ h => List.mem_cons_of_mem _ (wwXc_wsX20 _ h)) tyX2 tyX2_ok nmX2 hown hw 7 rfl rfl 5 (by decide) (hq _ wX_247) rfl (by decide +kernel) rfl rfl (Nat.le_of_ble_eq_true rfl) dX2_beginOpening_9 rfl (fun H locs l2 h_l2 hw => ?_)
  refine lv_aload_n hx hb dX2_beginOpening_12 rfl (lv_at hl 0 rfl) ?_
  refine hk_get (ci := 5) (C := RX2) (T := TX2) (N := 9) (v := .ref (ad 6)) hx hb hts (fun _ h => List.mem_cons_of_mem _ (wwXc_wsX20 _ h)) hown hw 7 rfl rfl 1 (by decide) (hq _ wX_248) rfl dX2_beginOpening_13 ?_
  refine jx_Vi (As := []) (rest := []) ⟨hx, hb, hml, hown, hts⟩ hZ hw hA (jx_X8_next l hlt D t3 cI cJ ad g1 l2 ar bk _ hi_a0rg) (cwV 0 hts (jx_gV wwX_good wX_249 wX_250 wX_251 wX_252 wX_253) rfl rfl rfl (by decide +kernel) ⟨Nat.le_of_ble_eq_true rfl, Nat.le_of_ble_eq_true rfl⟩) 6 (ci := 11) (T := TX8) (N := 4) rfl rfl rfl hl.1 rfl (Nat.le_of_ble_eq_true rfl) dX2_beginOpening_16 ⟨Nat.le_of_ble_eq_true rfl, Nat.le_of_ble_eq_true rfl⟩ (fun u3 u4 u5 u6 H locs ce q hp hw h1 h2 h3 => by obtain ⟨ht0, rfl, rfl, rfl⟩ := hp; exact kt _ _ _ _ _ _ _ _ _ _ _ ⟨(hk_frT (hk_frG hk_fr0 (by decide) h_g1) (by decide) ht0), (hk_frL hk_fr0 (by decide) h_l2), rfl, rfl⟩ hw h1 h2 h3) (fun r7 g8 l9 a10 b11 H locs hp12 hw => ?_)
  obtain ⟨h13, rfl, rfl, rfl, h17⟩ := hp12
  refine lv_if_eq (tgt := 30) hx hb dX2_beginOpening_19 (by decide) (fun cc18 => ?_) (fun cc18 => ?_)
  · refine lv_aload_n hx hb dX2_beginOpening_30 rfl (lv_at hl 0 rfl) ?_
    refine lv_aload_n hx hb dX2_beginOpening_31 rfl (lv_at hl 0 rfl) ?_
    refine hk_get (ci := 5) (C := RX2) (T := TX2) (N := 9) (v := .ref (ad 6)) hx hb hts (fun _ h => List.mem_cons_of_mem _ (wwXc_wsX20 _ h)) hown hw 7 rfl rfl 1 (by decide) (hq _ wX_248) rfl dX2_beginOpening_32 ?_
    refine lv_iconst (v := 4) hx hb dX2_beginOpening_35 (by decide) ?_
    refine jx_Vi (As := [.int 4]) (rest := [.ref (ad 7)]) ⟨hx, hb, hml, hown, hts⟩ hZ hw hA (jx_X8_high l hlt D t3 cI cJ ad g8 l2 ar bk _ 4 hi_a0rg) (cwV 1 hts (jx_gV wwX_good wX_258 wX_259 wX_260 wX_252 wX_261) rfl rfl rfl (by decide +kernel) ⟨Nat.le_of_ble_eq_true rfl, Nat.le_of_ble_eq_true rfl⟩) 6 (ci := 11) (T := TX8) (N := 4) rfl rfl rfl hl.1 rfl (Nat.le_of_ble_eq_true rfl) dX2_beginOpening_36 ⟨Nat.le_of_ble_eq_true rfl, Nat.le_of_ble_eq_true rfl⟩ (fun u19 u20 u21 u22 H locs ce q hp hw h1 h2 h3 => by obtain ⟨ht0, rfl, rfl, rfl⟩ := hp; exact kt _ _ _ _ _ _ _ _ _ _ _ ⟨(hk_frT (hk_frT (hk_frG hk_fr0 (by decide) h_g1) (by decide) h13) (by decide) ht0), (hk_frL hk_fr0 (by decide) h_l2), rfl, rfl⟩ hw h1 h2 h3) (fun r23 g24 l25 a26 b27 H locs hp28 hw => ?_)
    obtain ⟨h29, rfl, rfl, rfl⟩ := hp28
    refine lv_i2l hx hb dX2_beginOpening_39 rfl (jx_nl fun z33 hz33 => ?_)
    refine lv_ldc2 (v := 4294967295) hx hb hown (hq _ wX_246) dX2_beginOpening_40 ?_
    refine lv_land hx hb dX2_beginOpening_43 (jx_nl fun z34 hz34 => ?_)
    refine jx_putl xw (g := g24) (lg := l2) (ar := ar) (bk := bk) (x := z34) 2 (ci := 5) (C := RX2) (T := TX2) (N := 9) (ty := .long) hx hb hts (fun _ h => List.mem_cons_of_mem _ (wwXc_wsX20 _ h)) tyX2 tyX2_ok nmX2 hown hw 7 rfl rfl 6 (by decide) (hq _ wX_262) rfl (by decide +kernel) rfl rfl (Nat.le_of_ble_eq_true rfl) dX2_beginOpening_44 rfl (fun H locs l35 h_l35 hw => ?_)
    have e_g24_18 : g24 18 = (1 : Int32) := ((h29 18 rfl)).trans (((h13 18 rfl)).trans (hk_upgS h_g1))
    exact kr g24 l35 ar bk _ _ _ _ ⟨(hk_frT (hk_frT (hk_frG hk_fr0 (by decide) h_g1) (by decide) h13) (by decide) h29), (hk_frL (hk_frL hk_fr0 (by decide) h_l2) (by decide) h_l35), rfl, rfl, (ob66 ((g24 18).toInt) (((1 : Int32)).toInt) (congrArg Int32.toInt e_g24_18) (hE_rng (g24 18)) (by decide))⟩ hw dX2_beginOpening_47
  · refine lv_aload_n hx hb dX2_beginOpening_22 rfl (lv_at hl 0 rfl) ?_
    refine hk_get (ci := 5) (C := RX2) (T := TX2) (N := 9) (v := .ref (ad 6)) hx hb hts (fun _ h => List.mem_cons_of_mem _ (wwXc_wsX20 _ h)) hown hw 7 rfl rfl 1 (by decide) (hq _ wX_248) rfl dX2_beginOpening_23 ?_
    refine lv_iconst (v := 2) hx hb dX2_beginOpening_26 (by decide) ?_
    refine jx_Vv (As := [.int 2]) (rest := []) ⟨hx, hb, hml, hown, hts⟩ hZ hw hA (jx_X8_fail l hlt D t3 cI cJ ad g8 l2 ar bk _ 2) (cwV 1 hts (jx_gV wwX_good wX_254 wX_255 wX_256 wX_252 wX_257) rfl rfl rfl (by decide +kernel) ⟨Nat.le_of_ble_eq_true rfl, Nat.le_of_ble_eq_true rfl⟩) 6 (ci := 11) (T := TX8) (N := 4) rfl rfl rfl hl.1 rfl (Nat.le_of_ble_eq_true rfl) dX2_beginOpening_27 ⟨Nat.le_of_ble_eq_true rfl, Nat.le_of_ble_eq_true rfl⟩ (fun u36 u37 u38 u39 H locs ce q hp hw h1 h2 h3 => by obtain ⟨ht0, rfl, rfl, rfl⟩ := hp; exact kt _ _ _ _ _ _ _ _ _ _ _ ⟨(hk_frT (hk_frT (hk_frG hk_fr0 (by decide) h_g1) (by decide) h13) (by decide) ht0), (hk_frL hk_fr0 (by decide) h_l2), rfl, rfl⟩ hw h1 h2 h3) (fun g41 l42 a43 b44 H locs hp45 hw => ?_)
    obtain ⟨h46, rfl, rfl, rfl, h50⟩ := hp45
    exact False.elim h50

set_option maxHeartbeats 4000000 in
set_option maxRecDepth 100000 in
/-- X2_flush on (7,) -/
theorem jx_X2_flush (l : Launch) (hlt : l.stackTraces = false) (D : va_G) (t3 : Nat × Nat × Nat) (cI cJ : ClassId) (ad : Nat → Nat) (g : Nat → Int32) (lg : Nat → Int64) (ar : Nat → Nat → Int32) (bk : Nat → Int64) (sz : Nat) : JMv l yX2_flush (Cond.code yX2_flush cX2_flush 2 none :: wwX) { frames := 1, cells := 1, slots := 6, locals := 23 } t3 D xw cI cJ ad [.ref (ad 7)] (xw cI cJ ad g lg ar bk) sz 1 6 (fun g' lg' ar' bk' => hk_fr [14, 19, 20] g g' ∧ hk_fr [0] lg lg' ∧ hk_fr [1] ar ar' ∧ bk = bk') (fun g' lg' ar' bk' => False) := by
  refine jx_metv (cc := cX2_flush) (maxL := 2) (ret := none) rfl (by decide) rfl (Nat.le_of_ble_eq_true rfl) ?_
  intro p e s m args below meth c ls Q A hx hb hml hown hts hA hZ hw hl hQ kr kt
  have hq : ∀ w ∈ wwX, w.before args s = true := fun w h => hts w (List.mem_cons_of_mem _ h)
  have hl : lv_has ls 2 [(0, .ref (ad 7))] := hl
  refine lv_iconst (v := 0) hx hb dX2_flush_0 (by decide) ?_
  refine lv_istore_n (lv' := [(1, .int 0), (0, .ref (ad 7))]) hx hb dX2_flush_1 rfl hl (by decide) rfl (fun ls hl => ?_)
  have B1 : ∀ (k6 : Nat) (x2 : Int32) (g3 : Nat → Int32) (l4 : Nat → Int64) (a5 : Nat → Nat → Int32) (ls : Array Slot) (H : Heap) (locs : List Loc), (2147483648 - (x2).toInt ≤ (k6 : Int)) → (0 ≤ (x2).toInt) → (hk_fr [14, 19, 20] g g3) → (hk_fr [0] lg l4) → (hk_fr [1] ar a5) → hk_W D (jT cI cJ) A s H locs (xw cI cJ ad g3 l4 a5 bk) → lv_has ls 2 [(0, .ref (ad 7)), (1, .int x2)] → W p l e { frames := 1, cells := 1, slots := 6, locals := 23 } s m args below meth c H locs 0 0 Q (F0 m 2 ls []) := by
    intro k6
    induction k6 with
    | zero =>
      intro x2 g3 l4 a5 ls H locs hrk_B1 hf_B1_0 hfr_g3 hfr_l4 hfr_a5 hw hl
      exact False.elim (hk_no0 (0 * (x2).toInt) (ob5 ((x2).toInt) hf_B1_0 hrk_B1 (hE_rng (x2))) (by simp))
    | succ k6 ih_B1 =>
      intro x2 g3 l4 a5 ls H locs hrk_B1 hf_B1_0 hfr_g3 hfr_l4 hfr_a5 hw hl
      have hrk_B1 := hk_rk hrk_B1
      refine lv_iload_n hx hb dX2_flush_2 rfl (lv_at hl 1 rfl) ?_
      refine lv_iconst (v := 5) hx hb dX2_flush_3 (by decide) ?_
      refine lv_icmp_ge (tgt := 17) hx hb dX2_flush_4 (by decide) (fun cc7 => ?_) (fun cc7 => ?_)
      · exact kr g3 l4 a5 bk _ _ _ _ ⟨hfr_g3, hfr_l4, hfr_a5, rfl⟩ hw dX2_flush_17
      · refine lv_aload_n hx hb dX2_flush_7 rfl (lv_at hl 0 rfl) ?_
        refine jx_Vv (As := []) (rest := []) ⟨hx, hb, hml, hown, hts⟩ hZ hw hA (jx_X2_shift l hlt D t3 cI cJ ad g3 l4 a5 bk _) (cwV 0 hts (jx_gV wwX_good wX_277 wX_278 wX_279 wX_270 wX_280) rfl rfl rfl (by decide +kernel) ⟨Nat.le_of_ble_eq_true rfl, Nat.le_of_ble_eq_true rfl⟩) 7 (ci := 5) (T := TX2) (N := 9) rfl rfl rfl hl.1 rfl (Nat.le_of_ble_eq_true rfl) dX2_flush_8 ⟨Nat.le_of_ble_eq_true rfl, Nat.le_of_ble_eq_true rfl⟩ (fun _ _ _ _ _ _ _ _ hp _ _ _ _ => hp.elim) (fun g13 l14 a15 b16 H locs hp17 hw => ?_)
        obtain ⟨h18, h19, h20, rfl⟩ := hp17
        obtain ⟨z22, hz22⟩ : ∃ z : Int32, x2 + 1 = z := ⟨_, rfl⟩
        refine lv_iinc (v := z22) (lv' := [(1, .int z22), (0, .ref (ad 7))]) hx hb dX2_flush_11 hl (k := 1) rfl hz22 (by decide) rfl (fun ls hl => ?_)
        have xz22 : (z22).toInt = (x2).toInt + ((1 : Int32)).toInt := (hE_imp (hE_add hz22) (ob67 ((x2).toInt) (((1 : Int32)).toInt) (k6 : Int) (((5 : Int32)).toInt) hf_B1_0 hrk_B1 (hE_nle cc7) (hE_rng (x2)) (by decide) (by decide)))
        refine lv_goto (tgt := 2) hx hb dX2_flush_14 (by decide) ?_
        exact ih_B1 z22 g13 l14 a15 ls _ _ (ob68 ((z22).toInt) (k6 : Int) ((x2).toInt) (((1 : Int32)).toInt) (((5 : Int32)).toInt) hrk_B1 xz22 hf_B1_0 (hE_nle cc7) (hE_rng (z22)) (hE_rng (x2)) (by decide) (by decide)) (ob69 ((z22).toInt) ((x2).toInt) (((1 : Int32)).toInt) (k6 : Int) (((5 : Int32)).toInt) xz22 hf_B1_0 hrk_B1 (hE_nle cc7) (hE_rng (z22)) (hE_rng (x2)) (by decide) (by decide)) (hk_frT hfr_g3 (by decide) h18) (hk_frT hfr_l4 (by decide) h19) (hk_frT hfr_a5 (by decide) h20) hw (lv_sub hl [1, 0] rfl)
  exact B1 (2147483648 - ((0 : Int32)).toInt).toNat 0 g lg ar ls _ _ (Int.self_le_toNat _) (ob9 (((0 : Int32)).toInt) (by decide)) hk_fr0 hk_fr0 hk_fr0 hw (lv_sub hl [1, 0] rfl)

set_option maxHeartbeats 4000000 in
set_option maxRecDepth 100000 in
/-- X2_tree on (7,) -/
theorem jx_X2_tree (l : Launch) (hlt : l.stackTraces = false) (D : va_G) (t3 : Nat × Nat × Nat) (cI cJ : ClassId) (ad : Nat → Nat) (g : Nat → Int32) (lg : Nat → Int64) (ar : Nat → Nat → Int32) (bk : Nat → Int64) (sz : Nat) (y1 : Int32) (y2 : Int32) (y3 : Int32) (hr0 : 0 ≤ (y2).toInt ∧ (y2).toInt ≤ 8) (hi_a0rg : hk_rg 0 255 (ar 0)) : JMi l yX2_tree (Cond.code yX2_tree cX2_tree 6 (some .int) :: wwX) { frames := 8, cells := 1, slots := 6, locals := 128 } t3 D xw cI cJ ad [.ref (ad 7), .int y1, .int y2, .int y3] (xw cI cJ ad g lg ar bk) sz 1 6 (fun (r : Int32) g' lg' ar' bk' => hk_fr [14, 15, 17, 19, 20] g g' ∧ hk_fr [0, 1, 2] lg lg' ∧ hk_fr [1, 2] ar ar' ∧ bk = bk' ∧ (-256 ≤ (r).toInt ∧ (r).toInt ≤ 511) ∧ ((g 18).toInt ≠ 0 → (g' 14).toInt = (g 14).toInt)) (fun g' lg' ar' bk' => hk_fr [14, 15, 17, 19, 20] g g' ∧ hk_fr [0, 1, 2] lg lg' ∧ hk_fr [1, 2] ar ar' ∧ bk = bk' ∧ ((g 18).toInt ≠ 0) ∧ ((g' 14).toInt = (g 14).toInt)) := by
  refine jx_meti (cc := cX2_tree) (maxL := 6) (ret := (some .int)) rfl (by decide) rfl (Nat.le_of_ble_eq_true rfl) ?_
  intro p e s m args below meth c ls Q A hx hb hml hown hts hA hZ hw hl hQ kr kt
  have hq : ∀ w ∈ wwX, w.before args s = true := fun w h => hts w (List.mem_cons_of_mem _ h)
  have hl : lv_has ls 6 [(0, .ref (ad 7)), (1, .int y1), (2, .int y2), (3, .int y3)] := hl
  refine lv_iconst (v := 1) hx hb dX2_tree_0 (by decide) ?_
  refine lv_istore (lv' := [(4, .int 1), (0, .ref (ad 7)), (1, .int y1), (2, .int y2), (3, .int y3)]) hx hb dX2_tree_1 hl (by decide) rfl (fun ls hl => ?_)
  refine lv_iload_n hx hb dX2_tree_3 rfl (lv_at hl 3 rfl) ?_
  refine lv_iconst (v := 1) hx hb dX2_tree_4 (by decide) ?_
  refine lv_isub hx hb dX2_tree_5 (jx_nm fun z1 hz1 => ?_)
  have xz1 : (z1).toInt = (y2).toInt - ((1 : Int32)).toInt := (hE_imp (hE_sub hz1) (ob10 ((y2).toInt) (((1 : Int32)).toInt) hr0 (hE_rng (y2)) (by decide)))
  refine lv_istore (lv' := [(5, .int z1), (4, .int 1), (0, .ref (ad 7)), (1, .int y1), (2, .int y2), (3, .int y3)]) hx hb dX2_tree_6 hl (by decide) rfl (fun ls hl => ?_)
  have B2 : ∀ (k8 : Nat) (x3 : Int32) (x4 : Int32) (g5 : Nat → Int32) (l6 : Nat → Int64) (a7 : Nat → Nat → Int32) (ls : Array Slot) (H : Heap) (locs : List Loc), ((x4).toInt + 2147483649 ≤ (k8 : Int)) → ((g 18).toInt ≠ 0 → (g5 14).toInt = (g 14).toInt) → (-1 ≤ (x4).toInt ∧ (x4).toInt ≤ 7) → ((x4).toInt < (y2).toInt) → (1 ≤ (x3).toInt ∧ (x3).toInt ≤ 511) → (((y2).toInt - 1 - (x4).toInt = 0 → 1 ≤ (x3).toInt ∧ (x3).toInt ≤ 1) ∧ ((y2).toInt - 1 - (x4).toInt = 1 → 2 ≤ (x3).toInt ∧ (x3).toInt ≤ 3) ∧ ((y2).toInt - 1 - (x4).toInt = 2 → 4 ≤ (x3).toInt ∧ (x3).toInt ≤ 7) ∧ ((y2).toInt - 1 - (x4).toInt = 3 → 8 ≤ (x3).toInt ∧ (x3).toInt ≤ 15) ∧ ((y2).toInt - 1 - (x4).toInt = 4 → 16 ≤ (x3).toInt ∧ (x3).toInt ≤ 31) ∧ ((y2).toInt - 1 - (x4).toInt = 5 → 32 ≤ (x3).toInt ∧ (x3).toInt ≤ 63) ∧ ((y2).toInt - 1 - (x4).toInt = 6 → 64 ≤ (x3).toInt ∧ (x3).toInt ≤ 127) ∧ ((y2).toInt - 1 - (x4).toInt = 7 → 128 ≤ (x3).toInt ∧ (x3).toInt ≤ 255) ∧ ((y2).toInt - 1 - (x4).toInt = 8 → 256 ≤ (x3).toInt ∧ (x3).toInt ≤ 511)) → (hk_fr [14, 15, 17, 19, 20] g g5) → (hk_fr [0, 1, 2] lg l6) → (hk_fr [1, 2] ar a7) → hk_W D (jT cI cJ) A s H locs (xw cI cJ ad g5 l6 a7 bk) → lv_has ls 6 [(0, .ref (ad 7)), (1, .int y1), (2, .int y2), (3, .int y3), (4, .int x3), (5, .int x4)] → W p l e { frames := 8, cells := 1, slots := 6, locals := 128 } s m args below meth c H locs 0 0 Q (F0 m 8 ls []) := by
    intro k8
    induction k8 with
    | zero =>
      intro x3 x4 g5 l6 a7 ls H locs hrk_B2 hf_B2_0 hf_B2_1 hf_B2_2 hf_B2_3 hf_B2_4 hfr_g5 hfr_l6 hfr_a7 hw hl
      exact False.elim (hk_no0 (0 * (x4).toInt) (ob70 ((x4).toInt) ((y2).toInt) ((x3).toInt) ((z1).toInt) (((1 : Int32)).toInt) hf_B2_1 hf_B2_2 hf_B2_4 hrk_B2 hr0 xz1 hf_B2_3 (hE_rng (x4)) (hE_rng (y2)) (hE_rng (x3)) (hE_rng (z1)) (by decide)) (by simp))
    | succ k8 ih_B2 =>
      intro x3 x4 g5 l6 a7 ls H locs hrk_B2 hf_B2_0 hf_B2_1 hf_B2_2 hf_B2_3 hf_B2_4 hfr_g5 hfr_l6 hfr_a7 hw hl
      have hrk_B2 := hk_rk hrk_B2
      refine lv_iload hx hb dX2_tree_8 (lv_at hl 5 rfl) ?_
      refine lv_if_lt (tgt := 40) hx hb dX2_tree_10 (by decide) (fun cc9 => ?_) (fun cc9 => ?_)
      · refine lv_iload hx hb dX2_tree_40 (lv_at hl 4 rfl) ?_
        refine lv_iconst (v := 1) hx hb dX2_tree_42 (by decide) ?_
        refine lv_iload_n hx hb dX2_tree_43 rfl (lv_at hl 2 rfl) ?_
        refine lv_ishl hx hb dX2_tree_44 (jx_nm fun z10 hz10 => ?_)
        refine lv_isub hx hb dX2_tree_45 (jx_nm fun z11 hz11 => ?_)
        exact kr z11 g5 l6 a7 bk _ _ _ _ ⟨hfr_g5, hfr_l6, hfr_a7, rfl, (ob71 ((z11).toInt) ((x3).toInt) ((z10).toInt) ((y2).toInt) ((x4).toInt) ((z1).toInt) (((1 : Int32)).toInt) (k8 : Int) (((0 : Int32)).toInt) (hE_sub hz11) hf_B2_3 hf_B2_4 (hE_shl1 hz10) hr0 xz1 hf_B2_1 hf_B2_2 hrk_B2 (hE_lt cc9) (hE_rng (z11)) (hE_rng (x3)) (hE_rng (z10)) (hE_rng (y2)) (hE_rng (x4)) (hE_rng (z1)) (by decide) (by decide)), (ob72 ((g 18).toInt) ((g5 14).toInt) ((g 14).toInt) hf_B2_0 (hE_rng (g 18)) (hE_rng (g5 14)) (hE_rng (g 14)))⟩ hw dX2_tree_46
      · refine lv_iload hx hb dX2_tree_13 (lv_at hl 4 rfl) ?_
        refine lv_iconst (v := 1) hx hb dX2_tree_15 (by decide) ?_
        refine lv_ishl hx hb dX2_tree_16 (jx_nm fun z12 hz12 => ?_)
        have xz12 : (z12).toInt = (x3).toInt * 2 := (hE_imp (hE_shl 1 2 hz12 (by decide) (by decide) (by decide)) (ob73 ((x3).toInt) ((y2).toInt) ((x4).toInt) ((z1).toInt) (((1 : Int32)).toInt) (k8 : Int) (((0 : Int32)).toInt) hf_B2_3 hf_B2_4 hr0 xz1 hf_B2_1 hf_B2_2 hrk_B2 (hE_nlt cc9) (hE_rng (x3)) (hE_rng (y2)) (hE_rng (x4)) (hE_rng (z1)) (by decide) (by decide)))
        refine lv_aload_n hx hb dX2_tree_17 rfl (lv_at hl 0 rfl) ?_
        refine lv_iload_n hx hb dX2_tree_18 rfl (lv_at hl 1 rfl) ?_
        refine lv_iload hx hb dX2_tree_19 (lv_at hl 4 rfl) ?_
        refine lv_iadd hx hb dX2_tree_21 (jx_nm fun z13 hz13 => ?_)
        refine lv_iload_n hx hb dX2_tree_22 rfl (lv_at hl 3 rfl) ?_
        refine lv_iload hx hb dX2_tree_23 (lv_at hl 5 rfl) ?_
        refine lv_ishr hx hb dX2_tree_25 (jx_nm fun z14 hz14 => ?_)
        refine lv_iconst (v := 1) hx hb dX2_tree_26 (by decide) ?_
        refine lv_iand hx hb dX2_tree_27 (jx_nm fun z15 hz15 => ?_)
        have e_g5_18 : g5 18 = (g 18) := (hfr_g5 18 rfl)
        refine jx_Vi (As := [.int z13, .int z15]) (rest := [.int z12]) ⟨hx, hb, hml, hown, hts⟩ hZ hw hA (jx_X2_bit l hlt D t3 cI cJ ad g5 l6 a7 bk _ z13 z15 (ob74 ((z15).toInt) ((z14).toInt) (hE_and 1 2 hz15 (by decide) (by decide) (by decide)) (hE_rng (z15)) (hE_rng (z14))) (hk_pE (P := hk_rg 0 255) hi_a0rg (hfr_a7 0 rfl))) (cwV 2 hts (jx_gV wwX_good wX_291 wX_292 wX_293 wX_270 wX_294) rfl rfl rfl (by decide +kernel) ⟨Nat.le_of_ble_eq_true rfl, Nat.le_of_ble_eq_true rfl⟩) 7 (ci := 5) (T := TX2) (N := 9) rfl rfl rfl hl.1 rfl (Nat.le_of_ble_eq_true rfl) dX2_tree_28 ⟨Nat.le_of_ble_eq_true rfl, Nat.le_of_ble_eq_true rfl⟩ (fun u16 u17 u18 u19 H locs ce q hp hw h1 h2 h3 => by obtain ⟨ht0, ht1, ht2, rfl, ht4, ht5⟩ := hp; exact kt _ _ _ _ _ _ _ _ _ _ _ ⟨(hk_frT hfr_g5 (by decide) ht0), (hk_frT hfr_l6 (by decide) ht1), (hk_frT hfr_a7 (by decide) ht2), rfl, (ob75 ((g 18).toInt) ((g5 14).toInt) ((g 14).toInt) ((g5 18).toInt) ((u16 14).toInt) hf_B2_0 (congrArg Int32.toInt e_g5_18) ht4 ht5 (hE_rng (g 18)) (hE_rng (g5 14)) (hE_rng (g 14)) (hE_rng (g5 18)) (hE_rng (u16 14))), (ob76 ((u16 14).toInt) ((g 14).toInt) ((g 18).toInt) ((g5 14).toInt) ((g5 18).toInt) hf_B2_0 ht5 (congrArg Int32.toInt e_g5_18) ht4 (hE_rng (u16 14)) (hE_rng (g 14)) (hE_rng (g 18)) (hE_rng (g5 14)) (hE_rng (g5 18)))⟩ hw h1 h2 h3) (fun r20 g21 l22 a23 b24 H locs hp25 hw => ?_)
        obtain ⟨h26, h27, h28, rfl, h30, h31⟩ := hp25
        have e_g5_18 : g5 18 = (g 18) := (hfr_g5 18 rfl)
        have hr32 : hk_rg 0 255 (a23 0) := (hk_pE (P := hk_rg 0 255) (hk_pE (P := hk_rg 0 255) hi_a0rg (hfr_a7 0 rfl)) (h28 0 rfl))
        refine lv_ior hx hb dX2_tree_31 (jx_nm fun z33 hz33 => ?_)
        refine lv_istore (lv' := [(4, .int z33), (0, .ref (ad 7)), (1, .int y1), (2, .int y2), (3, .int y3), (5, .int x4)]) hx hb dX2_tree_32 hl (by decide) rfl (fun ls hl => ?_)
        obtain ⟨z34, hz34⟩ : ∃ z : Int32, x4 + (-1) = z := ⟨_, rfl⟩
        refine lv_iinc (v := z34) (lv' := [(5, .int z34), (4, .int z33), (0, .ref (ad 7)), (1, .int y1), (2, .int y2), (3, .int y3)]) hx hb dX2_tree_34 hl (k := 5) rfl hz34 (by decide) rfl (fun ls hl => ?_)
        have xz34 : (z34).toInt = (x4).toInt + (((-1) : Int32)).toInt := (hE_imp (hE_add hz34) (ob77 ((x4).toInt) ((((-1) : Int32)).toInt) ((y2).toInt) ((x3).toInt) (k8 : Int) (((0 : Int32)).toInt) ((z1).toInt) (((1 : Int32)).toInt) ((z12).toInt) ((z13).toInt) ((y1).toInt) ((z33).toInt) ((r20).toInt) hf_B2_1 hf_B2_2 hf_B2_4 hrk_B2 (hE_nlt cc9) hr0 xz1 hf_B2_3 xz12 (hE_add hz13) (hE_or1 hz33) h30 (hE_rng (x4)) (by decide) (hE_rng (y2)) (hE_rng (x3)) (by decide) (hE_rng (z1)) (by decide) (hE_rng (z12)) (hE_rng (z13)) (hE_rng (y1)) (hE_rng (z33)) (hE_rng (r20))))
        refine lv_goto (tgt := 8) hx hb dX2_tree_37 (by decide) ?_
        exact ih_B2 z33 z34 g21 l22 a23 ls _ _ (ob78 ((z34).toInt) (k8 : Int) ((x4).toInt) ((((-1) : Int32)).toInt) ((y2).toInt) ((x3).toInt) (((0 : Int32)).toInt) ((z1).toInt) (((1 : Int32)).toInt) ((z12).toInt) ((z13).toInt) ((y1).toInt) ((z33).toInt) ((r20).toInt) hrk_B2 xz34 hf_B2_1 hf_B2_2 hf_B2_4 (hE_nlt cc9) hr0 xz1 hf_B2_3 xz12 (hE_add hz13) (hE_or1 hz33) h30 (hE_rng (z34)) (hE_rng (x4)) (by decide) (hE_rng (y2)) (hE_rng (x3)) (by decide) (hE_rng (z1)) (by decide) (hE_rng (z12)) (hE_rng (z13)) (hE_rng (y1)) (hE_rng (z33)) (hE_rng (r20))) (ob79 ((g 18).toInt) ((g21 14).toInt) ((g 14).toInt) ((g5 14).toInt) ((g5 18).toInt) hf_B2_0 (congrArg Int32.toInt e_g5_18) (congrArg Int32.toInt e_g5_18) h31 (hE_rng (g 18)) (hE_rng (g21 14)) (hE_rng (g 14)) (hE_rng (g5 14)) (hE_rng (g5 18))) (ob80 ((z34).toInt) ((x4).toInt) ((((-1) : Int32)).toInt) ((y2).toInt) ((x3).toInt) (k8 : Int) (((0 : Int32)).toInt) ((z1).toInt) (((1 : Int32)).toInt) ((z12).toInt) ((z13).toInt) ((y1).toInt) ((z33).toInt) ((r20).toInt) xz34 hf_B2_1 hf_B2_2 hf_B2_4 hrk_B2 (hE_nlt cc9) hr0 xz1 hf_B2_3 xz12 (hE_add hz13) (hE_or1 hz33) h30 (hE_rng (z34)) (hE_rng (x4)) (by decide) (hE_rng (y2)) (hE_rng (x3)) (by decide) (hE_rng (z1)) (by decide) (hE_rng (z12)) (hE_rng (z13)) (hE_rng (y1)) (hE_rng (z33)) (hE_rng (r20))) (ob81 ((z34).toInt) ((y2).toInt) ((z1).toInt) (((1 : Int32)).toInt) ((x4).toInt) ((x3).toInt) ((((-1) : Int32)).toInt) (k8 : Int) (((0 : Int32)).toInt) ((z12).toInt) ((z13).toInt) ((y1).toInt) ((z33).toInt) ((r20).toInt) hr0 xz1 hf_B2_2 hf_B2_4 xz34 hf_B2_1 hf_B2_3 hrk_B2 (hE_nlt cc9) xz12 (hE_add hz13) (hE_or1 hz33) h30 (hE_rng (z34)) (hE_rng (y2)) (hE_rng (z1)) (by decide) (hE_rng (x4)) (hE_rng (x3)) (by decide) (by decide) (hE_rng (z12)) (hE_rng (z13)) (hE_rng (y1)) (hE_rng (z33)) (hE_rng (r20))) (ob82 ((z33).toInt) ((z12).toInt) ((r20).toInt) ((x3).toInt) ((y2).toInt) ((x4).toInt) ((z13).toInt) ((y1).toInt) ((z1).toInt) (((1 : Int32)).toInt) (k8 : Int) (((0 : Int32)).toInt) ((z34).toInt) ((((-1) : Int32)).toInt) (hE_or1 hz33) xz12 h30 hf_B2_3 hf_B2_4 (hE_add hz13) hr0 xz1 hf_B2_1 hf_B2_2 hrk_B2 (hE_nlt cc9) xz34 (hE_rng (z33)) (hE_rng (z12)) (hE_rng (r20)) (hE_rng (x3)) (hE_rng (y2)) (hE_rng (x4)) (hE_rng (z13)) (hE_rng (y1)) (hE_rng (z1)) (by decide) (by decide) (hE_rng (z34)) (by decide)) (ob83 ((y2).toInt) ((z34).toInt) ((z33).toInt) ((z1).toInt) (((1 : Int32)).toInt) ((x4).toInt) ((x3).toInt) ((z12).toInt) ((r20).toInt) ((((-1) : Int32)).toInt) (k8 : Int) (((0 : Int32)).toInt) ((z13).toInt) ((y1).toInt) hr0 xz1 hf_B2_2 hf_B2_4 (hE_or1 hz33) xz34 hf_B2_1 hf_B2_3 hrk_B2 (hE_nlt cc9) xz12 (hE_add hz13) h30 (hE_rng (y2)) (hE_rng (z34)) (hE_rng (z33)) (hE_rng (z1)) (by decide) (hE_rng (x4)) (hE_rng (x3)) (hE_rng (z12)) (hE_rng (r20)) (by decide) (by decide) (hE_rng (z13)) (hE_rng (y1))) (hk_frT hfr_g5 (by decide) h26) (hk_frT hfr_l6 (by decide) h27) (hk_frT hfr_a7 (by decide) h28) hw (lv_sub hl [2, 3, 4, 5, 1, 0] rfl)
  exact B2 ((z1).toInt + 2147483649).toNat 1 z1 g lg ar ls _ _ (Int.self_le_toNat _) (ob51 ((g 18).toInt) ((g 14).toInt) (hE_rng (g 18)) (hE_rng (g 14))) (ob84 ((z1).toInt) ((y2).toInt) (((1 : Int32)).toInt) xz1 hr0 (hE_rng (z1)) (hE_rng (y2)) (by decide)) (ob85 ((z1).toInt) ((y2).toInt) (((1 : Int32)).toInt) hr0 xz1 (hE_rng (z1)) (hE_rng (y2)) (by decide)) (ob86 (((1 : Int32)).toInt) ((z1).toInt) ((y2).toInt) xz1 hr0 (by decide) (hE_rng (z1)) (hE_rng (y2))) (ob87 ((y2).toInt) ((z1).toInt) (((1 : Int32)).toInt) hr0 xz1 (hE_rng (y2)) (hE_rng (z1)) (by decide)) hk_fr0 hk_fr0 hk_fr0 hw (lv_sub hl [2, 3, 4, 5, 1, 0] rfl)

set_option maxHeartbeats 4000000 in
set_option maxRecDepth 100000 in
/-- X2_turned on (7,) -/
theorem jx_X2_turned (l : Launch) (hlt : l.stackTraces = false) (D : va_G) (t3 : Nat × Nat × Nat) (cI cJ : ClassId) (ad : Nat → Nat) (g : Nat → Int32) (lg : Nat → Int64) (ar : Nat → Nat → Int32) (bk : Nat → Int64) (sz : Nat) (y1 : Int32) (y2 : Int32) (y3 : Int32) (hi_a0rg : hk_rg 0 255 (ar 0)) : JMi l yX2_turned (Cond.code yX2_turned cX2_turned 8 (some .int) :: wwX) { frames := 8, cells := 1, slots := 6, locals := 128 } t3 D xw cI cJ ad [.ref (ad 7), .int y1, .int y2, .int y3] (xw cI cJ ad g lg ar bk) sz 1 6 (fun (r : Int32) g' lg' ar' bk' => hk_fr [14, 15, 17, 19, 20] g g' ∧ hk_fr [0, 1, 2] lg lg' ∧ hk_fr [1, 2] ar ar' ∧ bk = bk' ∧ ((g 18).toInt ≠ 0 → (g' 14).toInt = (g 14).toInt)) (fun g' lg' ar' bk' => hk_fr [14, 15, 17, 19, 20] g g' ∧ hk_fr [0, 1, 2] lg lg' ∧ hk_fr [1, 2] ar ar' ∧ bk = bk' ∧ ((g 18).toInt ≠ 0) ∧ ((g' 14).toInt = (g 14).toInt)) := by
  refine jx_meti (cc := cX2_turned) (maxL := 8) (ret := (some .int)) rfl (by decide) rfl (Nat.le_of_ble_eq_true rfl) ?_
  intro p e s m args below meth c ls Q A hx hb hml hown hts hA hZ hw hl hQ kr kt
  have hq : ∀ w ∈ wwX, w.before args s = true := fun w h => hts w (List.mem_cons_of_mem _ h)
  have hl : lv_has ls 8 [(0, .ref (ad 7)), (1, .int y1), (2, .int y2), (3, .int y3)] := hl
  refine lv_iconst (v := 1) hx hb dX2_turned_0 (by decide) ?_
  refine lv_istore (lv' := [(4, .int 1), (0, .ref (ad 7)), (1, .int y1), (2, .int y2), (3, .int y3)]) hx hb dX2_turned_1 hl (by decide) rfl (fun ls hl => ?_)
  refine lv_iconst (v := 0) hx hb dX2_turned_3 (by decide) ?_
  refine lv_istore (lv' := [(5, .int 0), (4, .int 1), (0, .ref (ad 7)), (1, .int y1), (2, .int y2), (3, .int y3)]) hx hb dX2_turned_4 hl (by decide) rfl (fun ls hl => ?_)
  refine lv_iconst (v := 0) hx hb dX2_turned_6 (by decide) ?_
  refine lv_istore (lv' := [(6, .int 0), (5, .int 0), (4, .int 1), (0, .ref (ad 7)), (1, .int y1), (2, .int y2), (3, .int y3)]) hx hb dX2_turned_7 hl (by decide) rfl (fun ls hl => ?_)
  have B1 : ∀ (k8 : Nat) (x2 : Int32) (x3 : Int32) (x4 : Int32) (g5 : Nat → Int32) (l6 : Nat → Int64) (a7 : Nat → Nat → Int32) (ls : Array Slot) (H : Heap) (locs : List Loc), (2147483648 - (x4).toInt ≤ (k8 : Int)) → ((g 18).toInt ≠ 0 → (g5 14).toInt = (g 14).toInt) → (0 ≤ (x4).toInt) → (hk_fr [14, 15, 17, 19, 20] g g5) → (hk_fr [0, 1, 2] lg l6) → (hk_fr [1, 2] ar a7) → hk_W D (jT cI cJ) A s H locs (xw cI cJ ad g5 l6 a7 bk) → lv_has ls 8 [(0, .ref (ad 7)), (1, .int y1), (2, .int y2), (3, .int y3), (4, .int x2), (5, .int x3), (6, .int x4)] → W p l e { frames := 8, cells := 1, slots := 6, locals := 128 } s m args below meth c H locs 0 0 Q (F0 m 9 ls []) := by
    intro k8
    induction k8 with
    | zero =>
      intro x2 x3 x4 g5 l6 a7 ls H locs hrk_B1 hf_B1_0 hf_B1_1 hfr_g5 hfr_l6 hfr_a7 hw hl
      exact False.elim (hk_no0 (0 * (x4).toInt) (ob5 ((x4).toInt) hf_B1_1 hrk_B1 (hE_rng (x4))) (by simp))
    | succ k8 ih_B1 =>
      intro x2 x3 x4 g5 l6 a7 ls H locs hrk_B1 hf_B1_0 hf_B1_1 hfr_g5 hfr_l6 hfr_a7 hw hl
      have hrk_B1 := hk_rk hrk_B1
      refine lv_iload hx hb dX2_turned_9 (lv_at hl 6 rfl) ?_
      refine lv_iload_n hx hb dX2_turned_11 rfl (lv_at hl 2 rfl) ?_
      refine lv_icmp_ge (tgt := 56) hx hb dX2_turned_12 (by decide) (fun cc9 => ?_) (fun cc9 => ?_)
      · refine lv_iload hx hb dX2_turned_56 (lv_at hl 5 rfl) ?_
        exact kr x3 g5 l6 a7 bk _ _ _ _ ⟨hfr_g5, hfr_l6, hfr_a7, rfl, (ob72 ((g 18).toInt) ((g5 14).toInt) ((g 14).toInt) hf_B1_0 (hE_rng (g 18)) (hE_rng (g5 14)) (hE_rng (g 14)))⟩ hw dX2_turned_58
      · refine lv_aload_n hx hb dX2_turned_15 rfl (lv_at hl 0 rfl) ?_
        refine lv_iload_n hx hb dX2_turned_16 rfl (lv_at hl 1 rfl) ?_
        refine lv_iload hx hb dX2_turned_17 (lv_at hl 4 rfl) ?_
        refine lv_iadd hx hb dX2_turned_19 (jx_nm fun z10 hz10 => ?_)
        refine lv_iload_n hx hb dX2_turned_20 rfl (lv_at hl 3 rfl) ?_
        refine lv_iload hx hb dX2_turned_21 (lv_at hl 6 rfl) ?_
        refine lv_ishr hx hb dX2_turned_23 (jx_nm fun z11 hz11 => ?_)
        refine lv_iconst (v := 1) hx hb dX2_turned_24 (by decide) ?_
        refine lv_iand hx hb dX2_turned_25 (jx_nm fun z12 hz12 => ?_)
        have e_g5_18 : g5 18 = (g 18) := (hfr_g5 18 rfl)
        refine jx_Vi (As := [.int z10, .int z12]) (rest := []) ⟨hx, hb, hml, hown, hts⟩ hZ hw hA (jx_X2_bit l hlt D t3 cI cJ ad g5 l6 a7 bk _ z10 z12 (ob74 ((z12).toInt) ((z11).toInt) (hE_and 1 2 hz12 (by decide) (by decide) (by decide)) (hE_rng (z12)) (hE_rng (z11))) (hk_pE (P := hk_rg 0 255) hi_a0rg (hfr_a7 0 rfl))) (cwV 2 hts (jx_gV wwX_good wX_291 wX_292 wX_293 wX_270 wX_294) rfl rfl rfl (by decide +kernel) ⟨Nat.le_of_ble_eq_true rfl, Nat.le_of_ble_eq_true rfl⟩) 7 (ci := 5) (T := TX2) (N := 9) rfl rfl rfl hl.1 rfl (Nat.le_of_ble_eq_true rfl) dX2_turned_26 ⟨Nat.le_of_ble_eq_true rfl, Nat.le_of_ble_eq_true rfl⟩ (fun u13 u14 u15 u16 H locs ce q hp hw h1 h2 h3 => by obtain ⟨ht0, ht1, ht2, rfl, ht4, ht5⟩ := hp; exact kt _ _ _ _ _ _ _ _ _ _ _ ⟨(hk_frT hfr_g5 (by decide) ht0), (hk_frT hfr_l6 (by decide) ht1), (hk_frT hfr_a7 (by decide) ht2), rfl, (ob75 ((g 18).toInt) ((g5 14).toInt) ((g 14).toInt) ((g5 18).toInt) ((u13 14).toInt) hf_B1_0 (congrArg Int32.toInt e_g5_18) ht4 ht5 (hE_rng (g 18)) (hE_rng (g5 14)) (hE_rng (g 14)) (hE_rng (g5 18)) (hE_rng (u13 14))), (ob76 ((u13 14).toInt) ((g 14).toInt) ((g 18).toInt) ((g5 14).toInt) ((g5 18).toInt) hf_B1_0 ht5 (congrArg Int32.toInt e_g5_18) ht4 (hE_rng (u13 14)) (hE_rng (g 14)) (hE_rng (g 18)) (hE_rng (g5 14)) (hE_rng (g5 18)))⟩ hw h1 h2 h3) (fun r17 g18 l19 a20 b21 H locs hp22 hw => ?_)
        obtain ⟨h23, h24, h25, rfl, h27, h28⟩ := hp22
        have e_g5_18 : g5 18 = (g 18) := (hfr_g5 18 rfl)
        have hr29 : hk_rg 0 255 (a20 0) := (hk_pE (P := hk_rg 0 255) (hk_pE (P := hk_rg 0 255) hi_a0rg (hfr_a7 0 rfl)) (h25 0 rfl))
        refine lv_istore (lv' := [(7, .int r17), (0, .ref (ad 7)), (1, .int y1), (2, .int y2), (3, .int y3), (4, .int x2), (5, .int x3), (6, .int x4)]) hx hb dX2_turned_29 hl (by decide) rfl (fun ls hl => ?_)
        refine lv_iload hx hb dX2_turned_31 (lv_at hl 5 rfl) ?_
        refine lv_iconst (v := 1) hx hb dX2_turned_33 (by decide) ?_
        refine lv_ishl hx hb dX2_turned_34 (jx_nm fun z30 hz30 => ?_)
        refine lv_iload hx hb dX2_turned_35 (lv_at hl 0 rfl) ?_
        refine lv_ior hx hb dX2_turned_37 (jx_nm fun z31 hz31 => ?_)
        refine lv_istore (lv' := [(4, .int z31), (7, .int r17), (0, .ref (ad 7)), (1, .int y1), (2, .int y2), (3, .int y3), (5, .int x3), (6, .int x4)]) hx hb dX2_turned_38 hl (by decide) rfl (fun ls hl => ?_)
        refine lv_iload hx hb dX2_turned_40 (lv_at hl 6 rfl) ?_
        refine lv_iload hx hb dX2_turned_42 (lv_at hl 1 rfl) ?_
        refine lv_iload hx hb dX2_turned_44 (lv_at hl 7 rfl) ?_
        refine lv_ishl hx hb dX2_turned_46 (jx_nm fun z32 hz32 => ?_)
        refine lv_ior hx hb dX2_turned_47 (jx_nm fun z33 hz33 => ?_)
        refine lv_istore (lv' := [(5, .int z33), (4, .int z31), (7, .int r17), (0, .ref (ad 7)), (1, .int y1), (2, .int y2), (3, .int y3), (6, .int x4)]) hx hb dX2_turned_48 hl (by decide) rfl (fun ls hl => ?_)
        obtain ⟨z34, hz34⟩ : ∃ z : Int32, x4 + 1 = z := ⟨_, rfl⟩
        refine lv_iinc (v := z34) (lv' := [(6, .int z34), (5, .int z33), (4, .int z31), (7, .int r17), (0, .ref (ad 7)), (1, .int y1), (2, .int y2), (3, .int y3)]) hx hb dX2_turned_50 hl (k := 7) rfl hz34 (by decide) rfl (fun ls hl => ?_)
        have xz34 : (z34).toInt = (x4).toInt + ((1 : Int32)).toInt := (hE_imp (hE_add hz34) (ob6 ((x4).toInt) (((1 : Int32)).toInt) (k8 : Int) ((y2).toInt) hf_B1_1 hrk_B1 (hE_nle cc9) (hE_rng (x4)) (by decide) (hE_rng (y2))))
        refine lv_goto (tgt := 9) hx hb dX2_turned_53 (by decide) ?_
        exact ih_B1 z31 z33 z34 g18 l19 a20 ls _ _ (ob7 ((z34).toInt) (k8 : Int) ((x4).toInt) (((1 : Int32)).toInt) ((y2).toInt) hrk_B1 xz34 hf_B1_1 (hE_nle cc9) (hE_rng (z34)) (hE_rng (x4)) (by decide) (hE_rng (y2))) (ob79 ((g 18).toInt) ((g18 14).toInt) ((g 14).toInt) ((g5 14).toInt) ((g5 18).toInt) hf_B1_0 (congrArg Int32.toInt e_g5_18) (congrArg Int32.toInt e_g5_18) h28 (hE_rng (g 18)) (hE_rng (g18 14)) (hE_rng (g 14)) (hE_rng (g5 14)) (hE_rng (g5 18))) (ob8 ((z34).toInt) ((x4).toInt) (((1 : Int32)).toInt) (k8 : Int) ((y2).toInt) xz34 hf_B1_1 hrk_B1 (hE_nle cc9) (hE_rng (z34)) (hE_rng (x4)) (by decide) (hE_rng (y2))) (hk_frT hfr_g5 (by decide) h23) (hk_frT hfr_l6 (by decide) h24) (hk_frT hfr_a7 (by decide) h25) hw (lv_sub hl [4, 5, 6, 7, 2, 1, 0] rfl)
  exact B1 (2147483648 - ((0 : Int32)).toInt).toNat 1 0 0 g lg ar ls _ _ (Int.self_le_toNat _) (ob51 ((g 18).toInt) ((g 14).toInt) (hE_rng (g 18)) (hE_rng (g 14))) (ob9 (((0 : Int32)).toInt) (by decide)) hk_fr0 hk_fr0 hk_fr0 hw (lv_sub hl [3, 4, 5, 6, 2, 1, 0] rfl)

set_option maxHeartbeats 4000000 in
set_option maxRecDepth 100000 in
/-- X2_plain on (7,) -/
theorem jx_X2_plain (l : Launch) (hlt : l.stackTraces = false) (D : va_G) (t3 : Nat × Nat × Nat) (cI cJ : ClassId) (ad : Nat → Nat) (g : Nat → Int32) (lg : Nat → Int64) (ar : Nat → Nat → Int32) (bk : Nat → Int64) (sz : Nat) (y1 : Int32) (y2 : Int64) (hi_a0rg : hk_rg 0 255 (ar 0)) : JMl l yX2_plain (Cond.code yX2_plain cX2_plain 7 (some .long) :: wwX) { frames := 8, cells := 1, slots := 6, locals := 124 } t3 D xw cI cJ ad [.ref (ad 7), .int y1, .long y2] (xw cI cJ ad g lg ar bk) sz 1 6 (fun (r : Int64) g' lg' ar' bk' => hk_fr [14, 15, 17, 19, 20] g g' ∧ hk_fr [0, 1, 2] lg lg' ∧ hk_fr [1] ar ar' ∧ bk = bk' ∧ ((g 18).toInt ≠ 0 → (g' 14).toInt = (g 14).toInt)) (fun g' lg' ar' bk' => hk_fr [14, 15, 17, 19, 20] g g' ∧ hk_fr [0, 1, 2] lg lg' ∧ hk_fr [1] ar ar' ∧ bk = bk' ∧ ((g 18).toInt ≠ 0) ∧ ((g' 14).toInt = (g 14).toInt)) := by
  refine jx_metl (cc := cX2_plain) (maxL := 7) (ret := (some .long)) rfl (by decide) rfl (Nat.le_of_ble_eq_true rfl) ?_
  intro p e s m args below meth c ls Q A hx hb hml hown hts hA hZ hw hl hQ kr kt
  have hq : ∀ w ∈ wwX, w.before args s = true := fun w h => hts w (List.mem_cons_of_mem _ h)
  have hl : lv_has ls 7 [(0, .ref (ad 7)), (1, .int y1), (2, .long y2)] := hl
  refine lv_lconst (v := 0) hx hb dX2_plain_0 (by decide) ?_
  refine lv_lstore (lv' := [(4, .long 0), (0, .ref (ad 7)), (1, .int y1), (2, .long y2)]) hx hb dX2_plain_1 hl (by decide) rfl (fun ls hl => ?_)
  refine lv_iload_n hx hb dX2_plain_3 rfl (lv_at hl 2 rfl) ?_
  refine lv_iconst (v := 1) hx hb dX2_plain_4 (by decide) ?_
  refine lv_isub hx hb dX2_plain_5 (jx_nm fun z1 hz1 => ?_)
  refine lv_istore (lv' := [(6, .int z1), (4, .long 0), (0, .ref (ad 7)), (1, .int y1), (2, .long y2)]) hx hb dX2_plain_6 hl (by decide) rfl (fun ls hl => ?_)
  have B2 : ∀ (k8 : Nat) (x3 : Int64) (x4 : Int32) (g5 : Nat → Int32) (l6 : Nat → Int64) (a7 : Nat → Nat → Int32) (ls : Array Slot) (H : Heap) (locs : List Loc), ((x4).toInt + 2147483649 ≤ (k8 : Int)) → ((g 18).toInt ≠ 0 → (g5 14).toInt = (g 14).toInt) → (hk_fr [14, 15, 17, 19, 20] g g5) → (hk_fr [0, 1, 2] lg l6) → (hk_fr [1] ar a7) → hk_W D (jT cI cJ) A s H locs (xw cI cJ ad g5 l6 a7 bk) → lv_has ls 7 [(0, .ref (ad 7)), (2, .long y2), (4, .long x3), (6, .int x4)] → W p l e { frames := 8, cells := 1, slots := 6, locals := 124 } s m args below meth c H locs 0 0 Q (F0 m 8 ls []) := by
    intro k8
    induction k8 with
    | zero =>
      intro x3 x4 g5 l6 a7 ls H locs hrk_B2 hf_B2_0 hfr_g5 hfr_l6 hfr_a7 hw hl
      exact False.elim (hk_no0 (0 * (x4).toInt) (ob88 ((x4).toInt) hrk_B2 (hE_rng (x4))) (by simp))
    | succ k8 ih_B2 =>
      intro x3 x4 g5 l6 a7 ls H locs hrk_B2 hf_B2_0 hfr_g5 hfr_l6 hfr_a7 hw hl
      have hrk_B2 := hk_rk hrk_B2
      refine lv_iload hx hb dX2_plain_8 (lv_at hl 3 rfl) ?_
      refine lv_if_lt (tgt := 38) hx hb dX2_plain_10 (by decide) (fun cc9 => ?_) (fun cc9 => ?_)
      · refine lv_lload hx hb dX2_plain_38 (lv_at hl 2 rfl) ?_
        exact kr x3 g5 l6 a7 bk _ _ _ _ ⟨hfr_g5, hfr_l6, hfr_a7, rfl, (ob72 ((g 18).toInt) ((g5 14).toInt) ((g 14).toInt) hf_B2_0 (hE_rng (g 18)) (hE_rng (g5 14)) (hE_rng (g 14)))⟩ hw dX2_plain_40
      · refine lv_lload hx hb dX2_plain_13 (lv_at hl 2 rfl) ?_
        refine lv_iconst (v := 1) hx hb dX2_plain_15 (by decide) ?_
        refine lv_lshl hx hb dX2_plain_16 rfl (jx_nl fun z10 hz10 => ?_)
        refine lv_aload_n hx hb dX2_plain_17 rfl (lv_at hl 0 rfl) ?_
        refine lv_lload_n hx hb dX2_plain_18 rfl (lv_at hl 1 rfl) ?_
        refine lv_iload hx hb dX2_plain_19 (lv_at hl 3 rfl) ?_
        refine lv_lushr hx hb dX2_plain_21 rfl (jx_nl fun z11 hz11 => ?_)
        refine lv_l2i hx hb dX2_plain_22 rfl (jx_nm fun z12 hz12 => ?_)
        refine lv_iconst (v := 1) hx hb dX2_plain_23 (by decide) ?_
        refine lv_iand hx hb dX2_plain_24 (jx_nm fun z13 hz13 => ?_)
        have e_g5_18 : g5 18 = (g 18) := (hfr_g5 18 rfl)
        refine jx_Vi (As := [.int z13]) (rest := [.long z10]) ⟨hx, hb, hml, hown, hts⟩ hZ hw hA (jx_X2_plainBit l hlt D t3 cI cJ ad g5 l6 a7 bk _ z13 (ob89 ((z13).toInt) ((z12).toInt) ((z11).toInt) (hE_and 1 2 hz13 (by decide) (by decide) (by decide)) (hE_l2i hz12) (hE_rng (z13)) (hE_rng (z12)) (hE_rngL (z11))) (hk_pE (P := hk_rg 0 255) hi_a0rg (hfr_a7 0 rfl))) (cwV 1 hts (jx_gV wwX_good wX_281 wX_282 wX_283 wX_270 wX_284) rfl rfl rfl (by decide +kernel) ⟨Nat.le_of_ble_eq_true rfl, Nat.le_of_ble_eq_true rfl⟩) 7 (ci := 5) (T := TX2) (N := 9) rfl rfl rfl hl.1 rfl (Nat.le_of_ble_eq_true rfl) dX2_plain_25 ⟨Nat.le_of_ble_eq_true rfl, Nat.le_of_ble_eq_true rfl⟩ (fun u14 u15 u16 u17 H locs ce q hp hw h1 h2 h3 => by obtain ⟨ht0, ht1, ht2, rfl, ht4, ht5⟩ := hp; exact kt _ _ _ _ _ _ _ _ _ _ _ ⟨(hk_frT hfr_g5 (by decide) ht0), (hk_frT hfr_l6 (by decide) ht1), (hk_frT hfr_a7 (by decide) ht2), rfl, (ob75 ((g 18).toInt) ((g5 14).toInt) ((g 14).toInt) ((g5 18).toInt) ((u14 14).toInt) hf_B2_0 (congrArg Int32.toInt e_g5_18) ht4 ht5 (hE_rng (g 18)) (hE_rng (g5 14)) (hE_rng (g 14)) (hE_rng (g5 18)) (hE_rng (u14 14))), (ob76 ((u14 14).toInt) ((g 14).toInt) ((g 18).toInt) ((g5 14).toInt) ((g5 18).toInt) hf_B2_0 ht5 (congrArg Int32.toInt e_g5_18) ht4 (hE_rng (u14 14)) (hE_rng (g 14)) (hE_rng (g 18)) (hE_rng (g5 14)) (hE_rng (g5 18)))⟩ hw h1 h2 h3) (fun r18 g19 l20 a21 b22 H locs hp23 hw => ?_)
        obtain ⟨h24, h25, h26, rfl, h28, h29⟩ := hp23
        have e_g5_18 : g5 18 = (g 18) := (hfr_g5 18 rfl)
        have hr30 : hk_rg 0 255 (a21 0) := (hk_pE (P := hk_rg 0 255) (hk_pE (P := hk_rg 0 255) hi_a0rg (hfr_a7 0 rfl)) (h26 0 rfl))
        refine lv_i2l hx hb dX2_plain_28 rfl (jx_nl fun z31 hz31 => ?_)
        refine lv_lor hx hb dX2_plain_29 (jx_nl fun z32 hz32 => ?_)
        refine lv_lstore (lv' := [(4, .long z32), (0, .ref (ad 7)), (2, .long y2), (6, .int x4)]) hx hb dX2_plain_30 hl (by decide) rfl (fun ls hl => ?_)
        obtain ⟨z33, hz33⟩ : ∃ z : Int32, x4 + (-1) = z := ⟨_, rfl⟩
        refine lv_iinc (v := z33) (lv' := [(6, .int z33), (4, .long z32), (0, .ref (ad 7)), (2, .long y2)]) hx hb dX2_plain_32 hl (k := 3) rfl hz33 (by decide) rfl (fun ls hl => ?_)
        have xz33 : (z33).toInt = (x4).toInt + (((-1) : Int32)).toInt := (hE_imp (hE_add hz33) (ob90 ((x4).toInt) ((((-1) : Int32)).toInt) (k8 : Int) (((0 : Int32)).toInt) hrk_B2 (hE_nlt cc9) (hE_rng (x4)) (by decide) (by decide)))
        refine lv_goto (tgt := 8) hx hb dX2_plain_35 (by decide) ?_
        exact ih_B2 z32 z33 g19 l20 a21 ls _ _ (ob91 ((z33).toInt) (k8 : Int) ((x4).toInt) ((((-1) : Int32)).toInt) (((0 : Int32)).toInt) hrk_B2 xz33 (hE_nlt cc9) (hE_rng (z33)) (hE_rng (x4)) (by decide) (by decide)) (ob79 ((g 18).toInt) ((g19 14).toInt) ((g 14).toInt) ((g5 14).toInt) ((g5 18).toInt) hf_B2_0 (congrArg Int32.toInt e_g5_18) (congrArg Int32.toInt e_g5_18) h29 (hE_rng (g 18)) (hE_rng (g19 14)) (hE_rng (g 14)) (hE_rng (g5 14)) (hE_rng (g5 18))) (hk_frT hfr_g5 (by decide) h24) (hk_frT hfr_l6 (by decide) h25) (hk_frT hfr_a7 (by decide) h26) hw (lv_sub hl [2, 3, 1, 0] rfl)
  exact B2 ((z1).toInt + 2147483649).toNat 0 z1 g lg ar ls _ _ (Int.self_le_toNat _) (ob51 ((g 18).toInt) ((g 14).toInt) (hE_rng (g 18)) (hE_rng (g 14))) hk_fr0 hk_fr0 hk_fr0 hw (lv_sub hl [2, 4, 1, 0] rfl)
