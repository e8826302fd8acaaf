/-! 63.model -/
theorem ob82 (v0 : Int) (v1 : Int) (h0 : v0 = v1) (h1 : 0 ≤ v1 ∧ v1 ≤ 4) (h2 : -2147483648 ≤ v0 ∧ v0 ≤ 2147483647) (h3 : -2147483648 ≤ v1 ∧ v1 ≤ 2147483647) : 0 ≤ v0 ∧ v0 ≤ 4 := by omega
theorem ob83 (v0 : Int) (v1 : Int) (v2 : Int) (v3 : Int) (h0 : 0 ≤ v0) (h1 : v0 ≤ v1) (h2 : v1 ≤ v2) (h3 : v0 ≤ v1) (h4 : v3 ≤ v0) (h5 : v2 < v1) (h6 : -2147483648 ≤ v0 ∧ v0 ≤ 2147483647) (h7 : -2147483648 ≤ v1 ∧ v1 ≤ 2147483647) (h8 : -2147483648 ≤ v2 ∧ v2 ≤ 2147483647) (h9 : v3 = 0) : (0 * v0 + 0 * v1 + 0 * v2 + 0 * v3) ≤ -1 := by omega
theorem ob84 (v0 : Int) (v1 : Int) (v2 : Int) (v3 : Int) (h0 : 0 ≤ v0) (h1 : v0 ≤ v1) (h2 : v1 ≤ v2) (h3 : v0 ≤ v1) (h4 : v0 < v3) (h5 : -2147483648 ≤ v0 ∧ v0 ≤ 2147483647) (h6 : -2147483648 ≤ v1 ∧ v1 ≤ 2147483647) (h7 : -2147483648 ≤ v2 ∧ v2 ≤ 2147483647) (h8 : v3 = 0) : (0 * v0 + 0 * v1 + 0 * v2 + 0 * v3) ≤ -1 := by omega
theorem ob85 (v0 : Int) (v1 : Int) (v2 : Int) (h0 : 0 ≤ v0) (h1 : v0 ≤ v1) (h2 : v1 ≤ v2) (h3 : v1 < v0) (h4 : -2147483648 ≤ v0 ∧ v0 ≤ 2147483647) (h5 : -2147483648 ≤ v1 ∧ v1 ≤ 2147483647) (h6 : -2147483648 ≤ v2 ∧ v2 ≤ 2147483647) : (0 * v0 + 0 * v1 + 0 * v2) ≤ -1 := by omega
theorem ob86 (v0 : Int) (v1 : Int) (h0 : 0 ≤ v0) (h1 : v0 ≤ v1) (h2 : v1 ≤ 14340) (h3 : -2147483648 ≤ v0 ∧ v0 ≤ 2147483647) (h4 : -2147483648 ≤ v1 ∧ v1 ≤ 2147483647) : 0 ≤ v0 := by omega
theorem ob87 (v0 : Int) (v1 : Int) (h0 : 0 ≤ v0) (h1 : v0 ≤ v1) (h2 : v1 ≤ 14340) (h3 : -2147483648 ≤ v0 ∧ v0 ≤ 2147483647) (h4 : -2147483648 ≤ v1 ∧ v1 ≤ 2147483647) : v0 ≤ v1 := by omega
theorem ob88 (v0 : Int) (v1 : Int) (v2 : Int) (h0 : v2 ≤ v0) (h1 : v0 ≤ 14340) (h2 : 0 ≤ v2) (h3 : -2147483648 ≤ v0 ∧ v0 ≤ 2147483647) (h4 : v1 = 14340) (h5 : -2147483648 ≤ v2 ∧ v2 ≤ 2147483647) : v0 ≤ v1 := by omega
theorem ob89 (v0 : Int) (v1 : Int) (v2 : Int) (v3 : Int) (h0 : 0 ≤ v0) (h1 : 2147483648 - v0 ≤ v1 + 1) (h2 : v0 < v2) (h3 : v3 ≤ v2) (h4 : v2 ≤ 14340) (h5 : 0 ≤ v3) (h6 : -2147483648 ≤ v0 ∧ v0 ≤ 2147483647) (h7 : -2147483648 ≤ v2 ∧ v2 ≤ 2147483647) (h8 : -2147483648 ≤ v3 ∧ v3 ≤ 2147483647) : 0 ≤ v0 ∧ v0 < (14340 : Nat) := by omega
theorem ob90 (v0 : Int) (v1 : Int) (v2 : Int) (v3 : Int) (v4 : Int) (h0 : 0 ≤ v0) (h1 : 2147483648 - v0 ≤ v2 + 1) (h2 : v0 < v3) (h3 : v4 ≤ v3) (h4 : v3 ≤ 14340) (h5 : 0 ≤ v4) (h6 : -2147483648 ≤ v0 ∧ v0 ≤ 2147483647) (h7 : v1 = 1) (h8 : -2147483648 ≤ v3 ∧ v3 ≤ 2147483647) (h9 : -2147483648 ≤ v4 ∧ v4 ≤ 2147483647) : -2147483648 ≤ v0 + v1 ∧ v0 + v1 ≤ 2147483647 := by omega
theorem ob91 (v0 : Int) (v1 : Int) (v2 : Int) (v3 : Int) (v4 : Int) (v5 : Int) (h0 : 2147483648 - v2 ≤ v1 + 1) (h1 : v0 = v2 + v3) (h2 : 0 ≤ v2) (h3 : v2 < v4) (h4 : v5 ≤ v4) (h5 : v4 ≤ 14340) (h6 : 0 ≤ v5) (h7 : -2147483648 ≤ v0 ∧ v0 ≤ 2147483647) (h8 : -2147483648 ≤ v2 ∧ v2 ≤ 2147483647) (h9 : v3 = 1) (h10 : -2147483648 ≤ v4 ∧ v4 ≤ 2147483647) (h11 : -2147483648 ≤ v5 ∧ v5 ≤ 2147483647) : 2147483648 - v0 ≤ v1 := by omega
theorem ob92 (v0 : Int) (v1 : Int) (v2 : Int) (v3 : Int) (v4 : Int) (v5 : Int) (h0 : v0 = v1 + v2) (h1 : 0 ≤ v1) (h2 : 2147483648 - v1 ≤ v3 + 1) (h3 : v1 < v4) (h4 : v5 ≤ v4) (h5 : v4 ≤ 14340) (h6 : 0 ≤ v5) (h7 : -2147483648 ≤ v0 ∧ v0 ≤ 2147483647) (h8 : -2147483648 ≤ v1 ∧ v1 ≤ 2147483647) (h9 : v2 = 1) (h10 : -2147483648 ≤ v4 ∧ v4 ≤ 2147483647) (h11 : -2147483648 ≤ v5 ∧ v5 ≤ 2147483647) : 0 ≤ v0 := by omega
theorem ob93 (v0 : Int) (v1 : Int) (v2 : Int) (h0 : 0 ≤ v0) (h1 : 2147483648 - v0 ≤ v1 + 1) (h2 : v0 < v2) (h3 : -2147483648 ≤ v0 ∧ v0 ≤ 2147483647) (h4 : v2 = 4) : 0 ≤ v0 ∧ v0 < (4 : Nat) := by omega
theorem ob94 (v0 : Int) (v1 : Int) (h0 : 0 ≤ v0 ∧ v0 ≤ 4) (h1 : 0 ≤ v1 ∧ v1 ≤ 4) (h2 : -2147483648 ≤ v0 ∧ v0 ≤ 2147483647) (h3 : -2147483648 ≤ v1 ∧ v1 ≤ 2147483647) : -2147483648 ≤ v0 + v1 ∧ v0 + v1 ≤ 2147483647 := by omega
theorem ob95 (v0 : Int) (v1 : Int) (v2 : Int) (v3 : Int) (v4 : Int) (v5 : Int) (v6 : Int) (v7 : Int) (v8 : Int) (h0 : v1 ≤ v2 ∧ v1 ≤ v3 ∧ (v1 = v2 ∨ v1 = v3)) (h1 : v2 = (v4 + v5 + 2147483648) % 4294967296 - 2147483648) (h2 : (0 ≤ v6 ∧ v6 ≤ 8) → (768 ≤ v5 ∧ v5 ≤ 196608)) (h3 : v6 = v7 + v8) (h4 : 0 ≤ v7 ∧ v7 ≤ 4) (h5 : 0 ≤ v8 ∧ v8 ≤ 4) (h6 : v0 = 0) (h7 : -2147483648 ≤ v1 ∧ v1 ≤ 2147483647) (h8 : -2147483648 ≤ v2 ∧ v2 ≤ 2147483647) (h9 : v3 = 14340) (h10 : v4 = 2052) (h11 : -2147483648 ≤ v5 ∧ v5 ≤ 2147483647) (h12 : -2147483648 ≤ v6 ∧ v6 ≤ 2147483647) (h13 : -2147483648 ≤ v7 ∧ v7 ≤ 2147483647) (h14 : -2147483648 ≤ v8 ∧ v8 ≤ 2147483647) : v0 ≤ v1 := by omega
theorem ob96 (v0 : Int) (v1 : Int) (v2 : Int) (v3 : Int) (v4 : Int) (v5 : Int) (v6 : Int) (v7 : Int) (h0 : v0 ≤ v1 ∧ v0 ≤ v2 ∧ (v0 = v1 ∨ v0 = v2)) (h1 : v1 = (v3 + v4 + 2147483648) % 4294967296 - 2147483648) (h2 : (0 ≤ v5 ∧ v5 ≤ 8) → (768 ≤ v4 ∧ v4 ≤ 196608)) (h3 : v5 = v6 + v7) (h4 : 0 ≤ v6 ∧ v6 ≤ 4) (h5 : 0 ≤ v7 ∧ v7 ≤ 4) (h6 : -2147483648 ≤ v0 ∧ v0 ≤ 2147483647) (h7 : -2147483648 ≤ v1 ∧ v1 ≤ 2147483647) (h8 : v2 = 14340) (h9 : v3 = 2052) (h10 : -2147483648 ≤ v4 ∧ v4 ≤ 2147483647) (h11 : -2147483648 ≤ v5 ∧ v5 ≤ 2147483647) (h12 : -2147483648 ≤ v6 ∧ v6 ≤ 2147483647) (h13 : -2147483648 ≤ v7 ∧ v7 ≤ 2147483647) : v0 ≤ 14340 := by omega
theorem ob97 (v0 : Int) (v1 : Int) (v2 : Int) (h0 : v1 ≤ v0) (h1 : v0 < v2) (h2 : -2147483648 ≤ v0 ∧ v0 ≤ 2147483647) (h3 : v1 = 0) (h4 : v2 = 4) : 0 ≤ v0 ∧ v0 < (4 : Nat) := by omega
theorem ob98 (v0 : Int) (v1 : Int) (h0 : v0 = 0) (h1 : -2147483648 ≤ v1 ∧ v1 ≤ 2147483647) : -2147483648 ≤ v0 + v1 ∧ v0 + v1 ≤ 2147483647 := by omega
theorem ob99 (v0 : Int) (h0 : v0 ≠ 0) (h1 : -2147483648 ≤ v0 ∧ v0 ≤ 2147483647) : v0 ≠ 0 := by omega
theorem ob100 (v0 : Int) (v1 : Int) (v2 : Int) (h0 : v1 = v0) (h1 : v2 = v0) (h2 : v2 ≠ 0) (h3 : -2147483648 ≤ v0 ∧ v0 ≤ 2147483647) (h4 : -2147483648 ≤ v1 ∧ v1 ≤ 2147483647) (h5 : -2147483648 ≤ v2 ∧ v2 ≤ 2147483647) : v0 ≠ 0 := by omega
theorem ob101 (v0 : Int) (v1 : Int) (v2 : Int) (v3 : Int) (h0 : v1 = v0) (h1 : v2 = v0) (h2 : v3 = v0) (h3 : v3 ≠ 0) (h4 : -2147483648 ≤ v0 ∧ v0 ≤ 2147483647) (h5 : -2147483648 ≤ v1 ∧ v1 ≤ 2147483647) (h6 : -2147483648 ≤ v2 ∧ v2 ≤ 2147483647) (h7 : -2147483648 ≤ v3 ∧ v3 ≤ 2147483647) : v0 ≠ 0 := by omega
theorem ob102 (v0 : Int) (v1 : Int) (v2 : Int) (v3 : Int) (v4 : Int) (h0 : v1 = v0) (h1 : v2 = v0) (h2 : v3 = v0) (h3 : v4 = v0) (h4 : v4 ≠ 0) (h5 : -2147483648 ≤ v0 ∧ v0 ≤ 2147483647) (h6 : -2147483648 ≤ v1 ∧ v1 ≤ 2147483647) (h7 : -2147483648 ≤ v2 ∧ v2 ≤ 2147483647) (h8 : -2147483648 ≤ v3 ∧ v3 ≤ 2147483647) (h9 : -2147483648 ≤ v4 ∧ v4 ≤ 2147483647) : v0 ≠ 0 := by omega
theorem ob103 (v0 : Int) (v1 : Int) (v2 : Int) (v3 : Int) (v4 : Int) (v5 : Int) (v6 : Int) (v7 : Int) (v8 : Int) (h0 : v1 = v0 + v2) (h1 : v3 ≠ v0) (h2 : v4 ≠ v0) (h3 : v5 ≠ v0) (h4 : v6 ≠ v0) (h5 : v7 = (v1 + v8 + 2147483648) % 4294967296 - 2147483648) (h6 : 0 ≤ v3 ∧ v3 ≤ 1) (h7 : 0 ≤ v4 ∧ v4 ≤ 1) (h8 : 0 ≤ v5 ∧ v5 ≤ 1) (h9 : 0 ≤ v6 ∧ v6 ≤ 1) (h10 : v0 = 0) (h11 : -2147483648 ≤ v1 ∧ v1 ≤ 2147483647) (h12 : -2147483648 ≤ v2 ∧ v2 ≤ 2147483647) (h13 : -2147483648 ≤ v3 ∧ v3 ≤ 2147483647) (h14 : -2147483648 ≤ v4 ∧ v4 ≤ 2147483647) (h15 : -2147483648 ≤ v5 ∧ v5 ≤ 2147483647) (h16 : -2147483648 ≤ v6 ∧ v6 ≤ 2147483647) (h17 : -2147483648 ≤ v7 ∧ v7 ≤ 2147483647) (h18 : -2147483648 ≤ v8 ∧ v8 ≤ 2147483647) : 0 ≤ v0 ∧ v0 ≤ 1 := by omega
theorem ob104 (v0 : Int) (v1 : Int) (v2 : Int) (v3 : Int) (v4 : Int) (v5 : Int) (v6 : Int) (v7 : Int) (h0 : v1 = v0 + v2) (h1 : v3 ≠ v0) (h2 : v4 ≠ v0) (h3 : v5 ≠ v0) (h4 : v6 = (v1 + v7 + 2147483648) % 4294967296 - 2147483648) (h5 : 0 ≤ v3 ∧ v3 ≤ 1) (h6 : 0 ≤ v4 ∧ v4 ≤ 1) (h7 : 0 ≤ v5 ∧ v5 ≤ 1) (h8 : v0 = 0) (h9 : -2147483648 ≤ v1 ∧ v1 ≤ 2147483647) (h10 : -2147483648 ≤ v2 ∧ v2 ≤ 2147483647) (h11 : -2147483648 ≤ v3 ∧ v3 ≤ 2147483647) (h12 : -2147483648 ≤ v4 ∧ v4 ≤ 2147483647) (h13 : -2147483648 ≤ v5 ∧ v5 ≤ 2147483647) (h14 : -2147483648 ≤ v6 ∧ v6 ≤ 2147483647) (h15 : -2147483648 ≤ v7 ∧ v7 ≤ 2147483647) : 0 ≤ v0 ∧ v0 ≤ 1 := by omega
theorem ob105 (v0 : Int) (v1 : Int) (v2 : Int) (v3 : Int) (v4 : Int) (v5 : Int) (v6 : Int) (v7 : Int) (v8 : Int) (v9 : Int) (v10 : Int) (v11 : Int) (h0 : v1 = v0 + v2) (h1 : v3 ≠ v0) (h2 : v4 ≠ v0) (h3 : v5 = v0) (h4 : v6 = (v1 + v7 + 2147483648) % 4294967296 - 2147483648) (h5 : 0 ≤ v3 ∧ v3 ≤ 1) (h6 : 0 ≤ v4 ∧ v4 ≤ 1) (h7 : 0 ≤ v5 ∧ v5 ≤ 1) (h8 : v8 = (v9 + v7 + 2147483648) % 4294967296 - 2147483648) (h9 : v9 = (v10 + v11 + 2147483648) % 4294967296 - 2147483648) (h10 : v0 = 0) (h11 : -2147483648 ≤ v1 ∧ v1 ≤ 2147483647) (h12 : -2147483648 ≤ v2 ∧ v2 ≤ 2147483647) (h13 : -2147483648 ≤ v3 ∧ v3 ≤ 2147483647) (h14 : -2147483648 ≤ v4 ∧ v4 ≤ 2147483647) (h15 : -2147483648 ≤ v5 ∧ v5 ≤ 2147483647) (h16 : -2147483648 ≤ v6 ∧ v6 ≤ 2147483647) (h17 : -2147483648 ≤ v7 ∧ v7 ≤ 2147483647) (h18 : -2147483648 ≤ v8 ∧ v8 ≤ 2147483647) (h19 : -2147483648 ≤ v9 ∧ v9 ≤ 2147483647) (h20 : v10 = 240) (h21 : -2147483648 ≤ v11 ∧ v11 ≤ 2147483647) : 0 ≤ v0 ∧ v0 ≤ 1 := by omega
theorem ob106 (v0 : Int) (v1 : Int) (v2 : Int) (v3 : Int) (v4 : Int) (v5 : Int) (v6 : Int) (h0 : v1 = v0 + v2) (h1 : v3 ≠ v0) (h2 : v4 ≠ v0) (h3 : v5 = (v1 + v6 + 2147483648) % 4294967296 - 2147483648) (h4 : 0 ≤ v3 ∧ v3 ≤ 1) (h5 : 0 ≤ v4 ∧ v4 ≤ 1) (h6 : v0 = 0) (h7 : -2147483648 ≤ v1 ∧ v1 ≤ 2147483647) (h8 : -2147483648 ≤ v2 ∧ v2 ≤ 2147483647) (h9 : -2147483648 ≤ v3 ∧ v3 ≤ 2147483647) (h10 : -2147483648 ≤ v4 ∧ v4 ≤ 2147483647) (h11 : -2147483648 ≤ v5 ∧ v5 ≤ 2147483647) (h12 : -2147483648 ≤ v6 ∧ v6 ≤ 2147483647) : 0 ≤ v0 ∧ v0 ≤ 1 := by omega
theorem ob107 (v0 : Int) (v1 : Int) (v2 : Int) (v3 : Int) (v4 : Int) (v5 : Int) (h0 : v1 = v0 + v2) (h1 : v3 ≠ v0) (h2 : v4 = (v1 + v5 + 2147483648) % 4294967296 - 2147483648) (h3 : 0 ≤ v3 ∧ v3 ≤ 1) (h4 : v0 = 0) (h5 : -2147483648 ≤ v1 ∧ v1 ≤ 2147483647) (h6 : -2147483648 ≤ v2 ∧ v2 ≤ 2147483647) (h7 : -2147483648 ≤ v3 ∧ v3 ≤ 2147483647) (h8 : -2147483648 ≤ v4 ∧ v4 ≤ 2147483647) (h9 : -2147483648 ≤ v5 ∧ v5 ≤ 2147483647) : 0 ≤ v0 ∧ v0 ≤ 1 := by omega
theorem ob108 (v0 : Int) (v1 : Int) (v2 : Int) (h0 : v1 ≠ v0) (h1 : v1 ≠ v2) (h2 : v0 = 1) (h3 : -2147483648 ≤ v1 ∧ v1 ≤ 2147483647) (h4 : v2 = 7) : 0 ≤ v0 ∧ v0 ≤ 1 := by omega
theorem ob109 (v0 : Int) (v1 : Int) (v2 : Int) (v3 : Int) (v4 : Int) (v5 : Int) (h0 : v1 = v0 + v2) (h1 : v3 = v0) (h2 : v4 = (v1 + v5 + 2147483648) % 4294967296 - 2147483648) (h3 : v0 = 0) (h4 : -2147483648 ≤ v1 ∧ v1 ≤ 2147483647) (h5 : -2147483648 ≤ v2 ∧ v2 ≤ 2147483647) (h6 : -2147483648 ≤ v3 ∧ v3 ≤ 2147483647) (h7 : -2147483648 ≤ v4 ∧ v4 ≤ 2147483647) (h8 : -2147483648 ≤ v5 ∧ v5 ≤ 2147483647) : 0 ≤ v0 ∧ v0 ≤ 1 := by omega
theorem ob110 (v0 : Int) (v1 : Int) (v2 : Int) (v3 : Int) (v4 : Int) (h0 : v1 = v0 + v2) (h1 : v3 = (v1 + v4 + 2147483648) % 4294967296 - 2147483648) (h2 : v0 = 0) (h3 : -2147483648 ≤ v1 ∧ v1 ≤ 2147483647) (h4 : -2147483648 ≤ v2 ∧ v2 ≤ 2147483647) (h5 : -2147483648 ≤ v3 ∧ v3 ≤ 2147483647) (h6 : -2147483648 ≤ v4 ∧ v4 ≤ 2147483647) : 0 ≤ v0 ∧ v0 ≤ 1 := by omega
theorem ob111 (v0 : Int) (h0 : v0 ≤ 7) (h1 : v0 + 2147483649 ≤ 0) (h2 : -2147483648 ≤ v0 ∧ v0 ≤ 2147483647) : (0 * v0) ≤ -1 := by omega
theorem ob112 (v0 : Int) (v1 : Int) (v2 : Int) (v3 : Int) (h0 : v0 ≤ 7) (h1 : v0 + 2147483649 ≤ v2 + 1) (h2 : v3 ≤ v0) (h3 : -2147483648 ≤ v0 ∧ v0 ≤ 2147483647) (h4 : v1 = (-1)) (h5 : v3 = 0) : -2147483648 ≤ v0 + v1 ∧ v0 + v1 ≤ 2147483647 := by omega
theorem ob113 (v0 : Int) (v1 : Int) (v2 : Int) (v3 : Int) (v4 : Int) (h0 : v2 + 2147483649 ≤ v1 + 1) (h1 : v0 = v2 + v3) (h2 : v2 ≤ 7) (h3 : v4 ≤ v2) (h4 : -2147483648 ≤ v0 ∧ v0 ≤ 2147483647) (h5 : -2147483648 ≤ v2 ∧ v2 ≤ 2147483647) (h6 : v3 = (-1)) (h7 : v4 = 0) : v0 + 2147483649 ≤ v1 := by omega
theorem ob114 (v0 : Int) (v1 : Int) (v2 : Int) (v3 : Int) (v4 : Int) (h0 : v0 = v1 + v2) (h1 : v1 ≤ 7) (h2 : v1 + 2147483649 ≤ v3 + 1) (h3 : v4 ≤ v1) (h4 : -2147483648 ≤ v0 ∧ v0 ≤ 2147483647) (h5 : -2147483648 ≤ v1 ∧ v1 ≤ 2147483647) (h6 : v2 = (-1)) (h7 : v4 = 0) : v0 ≤ 7 := by omega
theorem ob115 (v0 : Int) (v1 : Int) (v2 : Int) (h0 : v0 ≤ v1) (h1 : v1 ≤ 7) (h2 : v1 + 2147483649 ≤ v2 + 1) (h3 : v0 = 0) (h4 : -2147483648 ≤ v1 ∧ v1 ≤ 2147483647) : 0 ≤ v0 ∧ v0 ≤ 1 := by omega
theorem ob116 (v0 : Int) (v1 : Int) (v2 : Int) (v3 : Int) (v4 : Int) (h0 : v1 = (v2 - v0 + 2147483648) % 4294967296 - 2147483648) (h1 : (0 ≤ v4 → 0 ≤ v3 ∧ v3 ≤ v4) ∧ (0 ≤ v1 → 0 ≤ v3 ∧ v3 ≤ v1)) (h2 : v0 = 1) (h3 : -2147483648 ≤ v1 ∧ v1 ≤ 2147483647) (h4 : -2147483648 ≤ v2 ∧ v2 ≤ 2147483647) (h5 : -2147483648 ≤ v3 ∧ v3 ≤ 2147483647) (h6 : -2147483648 ≤ v4 ∧ v4 ≤ 2147483647) : 0 ≤ v0 ∧ v0 ≤ 1 := by omega
theorem ob117 (v0 : Int) (v1 : Int) (h0 : v0 = v1 % 2) (h1 : -2147483648 ≤ v0 ∧ v0 ≤ 2147483647) (h2 : -2147483648 ≤ v1 ∧ v1 ≤ 2147483647) : -2147483648 ≤ v0 * 256 ∧ v0 * 256 ≤ 2147483647 := by omega
theorem ob118 (v0 : Int) (h0 : v0 = 7) : v0 ≤ 7 := by omega
theorem ob119 (v0 : Int) (h0 : v0 = 8) : 0 ≤ v0 ∧ v0 ≤ 8 := by omega
theorem ob120 (v0 : Int) (v1 : Int) (h0 : -256 ≤ v1 ∧ v1 ≤ 511) (h1 : v0 = 18) (h2 : -2147483648 ≤ v1 ∧ v1 ≤ 2147483647) : -2147483648 ≤ v0 + v1 ∧ v0 + v1 ≤ 2147483647 := by omega
theorem ob121 (v0 : Int) (v1 : Int) (v2 : Int) (h0 : v0 = v1 + v2) (h1 : -256 ≤ v2 ∧ v2 ≤ 511) (h2 : -2147483648 ≤ v0 ∧ v0 ≤ 2147483647) (h3 : v1 = 18) (h4 : -2147483648 ≤ v2 ∧ v2 ≤ 2147483647) : -300 ≤ v0 ∧ v0 ≤ 600 := by omega
theorem ob122 (v0 : Int) (h0 : v0 = 3) : 0 ≤ v0 ∧ v0 ≤ 8 := by omega
theorem ob123 (v0 : Int) (v1 : Int) (h0 : -256 ≤ v1 ∧ v1 ≤ 511) (h1 : v0 = 10) (h2 : -2147483648 ≤ v1 ∧ v1 ≤ 2147483647) : -2147483648 ≤ v0 + v1 ∧ v0 + v1 ≤ 2147483647 := by omega
theorem ob124 (v0 : Int) (v1 : Int) (v2 : Int) (h0 : v0 = v1 + v2) (h1 : -256 ≤ v2 ∧ v2 ≤ 511) (h2 : -2147483648 ≤ v0 ∧ v0 ≤ 2147483647) (h3 : v1 = 10) (h4 : -2147483648 ≤ v2 ∧ v2 ≤ 2147483647) : -300 ≤ v0 ∧ v0 ≤ 600 := by omega
theorem ob125 (v0 : Int) (v1 : Int) (v2 : Int) (h0 : v1 = (v2 + v0 + 2147483648) % 4294967296 - 2147483648) (h1 : v0 = 1) (h2 : -2147483648 ≤ v1 ∧ v1 ≤ 2147483647) (h3 : -2147483648 ≤ v2 ∧ v2 ≤ 2147483647) : 0 ≤ v0 ∧ v0 ≤ 1 := by omega
theorem ob126 (v0 : Int) (v1 : Int) (h0 : v1 ≠ v0) (h1 : 0 ≤ v1 ∧ v1 ≤ 1) (h2 : v0 = 0) (h3 : -2147483648 ≤ v1 ∧ v1 ≤ 2147483647) : 0 ≤ v0 ∧ v0 ≤ 1 := by omega
theorem ob127 (v0 : Int) (v1 : Int) (v2 : Int) (v3 : Int) (v4 : Int) (v5 : Int) (v6 : Int) (v7 : Int) (h0 : v2 = (v3 - v0 + 2147483648) % 4294967296 - 2147483648) (h1 : v4 = (v5 + v0 + 2147483648) % 4294967296 - 2147483648) (h2 : -256 ≤ v1 ∧ v1 ≤ 511) (h3 : v6 = (v4 + v7 + 2147483648) % 4294967296 - 2147483648) (h4 : v0 = 2) (h5 : -2147483648 ≤ v1 ∧ v1 ≤ 2147483647) (h6 : -2147483648 ≤ v2 ∧ v2 ≤ 2147483647) (h7 : -2147483648 ≤ v3 ∧ v3 ≤ 2147483647) (h8 : -2147483648 ≤ v4 ∧ v4 ≤ 2147483647) (h9 : -2147483648 ≤ v5 ∧ v5 ≤ 2147483647) (h10 : -2147483648 ≤ v6 ∧ v6 ≤ 2147483647) (h11 : -2147483648 ≤ v7 ∧ v7 ≤ 2147483647) : -2147483648 ≤ v0 + v1 ∧ v0 + v1 ≤ 2147483647 := by omega
theorem ob128 (v0 : Int) (v1 : Int) (v2 : Int) (v3 : Int) (v4 : Int) (v5 : Int) (v6 : Int) (v7 : Int) (v8 : Int) (h0 : v0 = v1 + v2) (h1 : v3 = (v4 - v1 + 2147483648) % 4294967296 - 2147483648) (h2 : v5 = (v6 + v1 + 2147483648) % 4294967296 - 2147483648) (h3 : -256 ≤ v2 ∧ v2 ≤ 511) (h4 : v7 = (v5 + v8 + 2147483648) % 4294967296 - 2147483648) (h5 : -2147483648 ≤ v0 ∧ v0 ≤ 2147483647) (h6 : v1 = 2) (h7 : -2147483648 ≤ v2 ∧ v2 ≤ 2147483647) (h8 : -2147483648 ≤ v3 ∧ v3 ≤ 2147483647) (h9 : -2147483648 ≤ v4 ∧ v4 ≤ 2147483647) (h10 : -2147483648 ≤ v5 ∧ v5 ≤ 2147483647) (h11 : -2147483648 ≤ v6 ∧ v6 ≤ 2147483647) (h12 : -2147483648 ≤ v7 ∧ v7 ≤ 2147483647) (h13 : -2147483648 ≤ v8 ∧ v8 ≤ 2147483647) : -300 ≤ v0 ∧ v0 ≤ 600 := by omega
theorem ob129 (v0 : Int) (h0 : v0 = 6) : 0 ≤ v0 ∧ v0 ≤ 8 := by omega
theorem ob130 (v0 : Int) (v1 : Int) (v2 : Int) (v3 : Int) (v4 : Int) (v5 : Int) (v6 : Int) (v7 : Int) (h0 : v1 = v2) (h1 : v2 = v3 % 2) (h2 : -256 ≤ v3 ∧ v3 ≤ 511) (h3 : v4 ≤ v3) (h4 : (0 ≤ v3 → v5 = v3 / 2) ∧ (v3 ≤ 0 → v5 = -(-v3 / 2))) (h5 : v6 = (v5 - v7 + 2147483648) % 4294967296 - 2147483648) (h6 : v0 = 2) (h7 : -9223372036854775808 ≤ v1 ∧ v1 ≤ 9223372036854775807) (h8 : -2147483648 ≤ v2 ∧ v2 ≤ 2147483647) (h9 : -2147483648 ≤ v3 ∧ v3 ≤ 2147483647) (h10 : v4 = 4) (h11 : -2147483648 ≤ v5 ∧ v5 ≤ 2147483647) (h12 : -2147483648 ≤ v6 ∧ v6 ≤ 2147483647) (h13 : v7 = 1) : -9223372036854775808 ≤ v0 + v1 ∧ v0 + v1 ≤ 9223372036854775807 := by omega
theorem ob131 (v0 : Int) (v1 : Int) (v2 : Int) (v3 : Int) (v4 : Int) (v5 : Int) (v6 : Int) (v7 : Int) (v8 : Int) (v9 : Int) (h0 : -256 ≤ v0 ∧ v0 ≤ 511) (h1 : v1 ≤ v0) (h2 : (0 ≤ v0 → v2 = v0 / 2) ∧ (v0 ≤ 0 → v2 = -(-v0 / 2))) (h3 : v3 = v0 % 2) (h4 : v0 < v4) (h5 : v5 = (v2 - v6 + 2147483648) % 4294967296 - 2147483648) (h6 : v7 = v3) (h7 : v8 = v9 + v7) (h8 : -2147483648 ≤ v0 ∧ v0 ≤ 2147483647) (h9 : v1 = 4) (h10 : -2147483648 ≤ v2 ∧ v2 ≤ 2147483647) (h11 : -2147483648 ≤ v3 ∧ v3 ≤ 2147483647) (h12 : v4 = 14) (h13 : -2147483648 ≤ v5 ∧ v5 ≤ 2147483647) (h14 : v6 = 1) (h15 : -9223372036854775808 ≤ v7 ∧ v7 ≤ 9223372036854775807) (h16 : -9223372036854775808 ≤ v8 ∧ v8 ≤ 9223372036854775807) (h17 : v9 = 2) : -2147483648 ≤ v0 - v1 ∧ v0 - v1 ≤ 2147483647 := by omega
theorem ob132 (v0 : Int) (v1 : Int) (v2 : Int) (v3 : Int) (v4 : Int) (v5 : Int) (v6 : Int) (v7 : Int) (v8 : Int) (v9 : Int) (v10 : Int) (h0 : v0 = v1 - v2) (h1 : -256 ≤ v1 ∧ v1 ≤ 511) (h2 : v2 ≤ v1) (h3 : (0 ≤ v1 → v3 = v1 / 2) ∧ (v1 ≤ 0 → v3 = -(-v1 / 2))) (h4 : v4 = v1 % 2) (h5 : v1 < v5) (h6 : v6 = (v3 - v7 + 2147483648) % 4294967296 - 2147483648) (h7 : v8 = v4) (h8 : v9 = v10 + v8) (h9 : -2147483648 ≤ v0 ∧ v0 ≤ 2147483647) (h10 : -2147483648 ≤ v1 ∧ v1 ≤ 2147483647) (h11 : v2 = 4) (h12 : -2147483648 ≤ v3 ∧ v3 ≤ 2147483647) (h13 : -2147483648 ≤ v4 ∧ v4 ≤ 2147483647) (h14 : v5 = 14) (h15 : -2147483648 ≤ v6 ∧ v6 ≤ 2147483647) (h16 : v7 = 1) (h17 : -9223372036854775808 ≤ v8 ∧ v8 ≤ 9223372036854775807) (h18 : -9223372036854775808 ≤ v9 ∧ v9 ≤ 9223372036854775807) (h19 : v10 = 2) : -2147483648 ≤ v0 * 32 ∧ v0 * 32 ≤ 2147483647 := by omega
theorem ob133 (v0 : Int) (v1 : Int) (v2 : Int) (v3 : Int) (v4 : Int) (v5 : Int) (v6 : Int) (v7 : Int) (v8 : Int) (v9 : Int) (v10 : Int) (v11 : Int) (v12 : Int) (h0 : v1 = v2 * 32) (h1 : v2 = v3 - v4) (h2 : -256 ≤ v3 ∧ v3 ≤ 511) (h3 : v4 ≤ v3) (h4 : (0 ≤ v3 → v5 = v3 / 2) ∧ (v3 ≤ 0 → v5 = -(-v3 / 2))) (h5 : v6 = v3 % 2) (h6 : v3 < v7) (h7 : v8 = (v5 - v9 + 2147483648) % 4294967296 - 2147483648) (h8 : v10 = v6) (h9 : v11 = v12 + v10) (h10 : v0 = 688) (h11 : -2147483648 ≤ v1 ∧ v1 ≤ 2147483647) (h12 : -2147483648 ≤ v2 ∧ v2 ≤ 2147483647) (h13 : -2147483648 ≤ v3 ∧ v3 ≤ 2147483647) (h14 : v4 = 4) (h15 : -2147483648 ≤ v5 ∧ v5 ≤ 2147483647) (h16 : -2147483648 ≤ v6 ∧ v6 ≤ 2147483647) (h17 : v7 = 14) (h18 : -2147483648 ≤ v8 ∧ v8 ≤ 2147483647) (h19 : v9 = 1) (h20 : -9223372036854775808 ≤ v10 ∧ v10 ≤ 9223372036854775807) (h21 : -9223372036854775808 ≤ v11 ∧ v11 ≤ 9223372036854775807) (h22 : v12 = 2) : -2147483648 ≤ v0 + v1 ∧ v0 + v1 ≤ 2147483647 := by omega
theorem ob134 (v0 : Int) (v1 : Int) (v2 : Int) (h0 : -256 ≤ v0 ∧ v0 ≤ 511) (h1 : v0 < v2) (h2 : -2147483648 ≤ v0 ∧ v0 ≤ 2147483647) (h3 : v1 = 1) (h4 : v2 = 4) : -2147483648 ≤ v0 + v1 ∧ v0 + v1 ≤ 2147483647 := by omega
theorem ob135 (v0 : Int) (h0 : v0 ≤ 3) (h1 : v0 + 2147483649 ≤ 0) (h2 : -2147483648 ≤ v0 ∧ v0 ≤ 2147483647) : (0 * v0) ≤ -1 := by omega
theorem ob136 (v0 : Int) (v1 : Int) (v2 : Int) (v3 : Int) (h0 : v0 ≤ 3) (h1 : v0 + 2147483649 ≤ v2 + 1) (h2 : v3 < v0) (h3 : -2147483648 ≤ v0 ∧ v0 ≤ 2147483647) (h4 : v1 = 1) (h5 : v3 = 0) : -2147483648 ≤ v0 - v1 ∧ v0 - v1 ≤ 2147483647 := by omega
theorem ob137 (v0 : Int) (v1 : Int) (v2 : Int) (v3 : Int) (v4 : Int) (h0 : v0 = v1 - v2) (h1 : v1 ≤ 3) (h2 : v1 + 2147483649 ≤ v3 + 1) (h3 : v4 < v1) (h4 : -2147483648 ≤ v0 ∧ v0 ≤ 2147483647) (h5 : -2147483648 ≤ v1 ∧ v1 ≤ 2147483647) (h6 : v2 = 1) (h7 : v4 = 0) : 0 ≤ v0 ∧ v0 < (4 : Nat) := by omega
theorem ob138 (v0 : Int) (v1 : Int) (v2 : Int) (v3 : Int) (v4 : Int) (h0 : v0 ≤ 3) (h1 : v0 + 2147483649 ≤ v1 + 1) (h2 : v2 < v0) (h3 : v3 = v0 - v4) (h4 : -2147483648 ≤ v0 ∧ v0 ≤ 2147483647) (h5 : v2 = 0) (h6 : -2147483648 ≤ v3 ∧ v3 ≤ 2147483647) (h7 : v4 = 1) : 0 ≤ v0 ∧ v0 < (4 : Nat) := by omega
theorem ob139 (v0 : Int) (v1 : Int) (v2 : Int) (v3 : Int) (v4 : Int) (v5 : Int) (h0 : v0 ≤ 3) (h1 : v0 + 2147483649 ≤ v2 + 1) (h2 : v3 < v0) (h3 : v4 = v0 - v5) (h4 : -2147483648 ≤ v0 ∧ v0 ≤ 2147483647) (h5 : v1 = (-1)) (h6 : v3 = 0) (h7 : -2147483648 ≤ v4 ∧ v4 ≤ 2147483647) (h8 : v5 = 1) : -2147483648 ≤ v0 + v1 ∧ v0 + v1 ≤ 2147483647 := by omega
theorem ob140 (v0 : Int) (v1 : Int) (v2 : Int) (v3 : Int) (v4 : Int) (v5 : Int) (v6 : Int) (h0 : v2 + 2147483649 ≤ v1 + 1) (h1 : v0 = v2 + v3) (h2 : v2 ≤ 3) (h3 : v4 < v2) (h4 : v5 = v2 - v6) (h5 : -2147483648 ≤ v0 ∧ v0 ≤ 2147483647) (h6 : -2147483648 ≤ v2 ∧ v2 ≤ 2147483647) (h7 : v3 = (-1)) (h8 : v4 = 0) (h9 : -2147483648 ≤ v5 ∧ v5 ≤ 2147483647) (h10 : v6 = 1) : v0 + 2147483649 ≤ v1 := by omega
theorem ob141 (v0 : Int) (v1 : Int) (v2 : Int) (v3 : Int) (v4 : Int) (v5 : Int) (v6 : Int) (h0 : v0 = v1 + v2) (h1 : v1 ≤ 3) (h2 : v1 + 2147483649 ≤ v3 + 1) (h3 : v4 < v1) (h4 : v5 = v1 - v6) (h5 : -2147483648 ≤ v0 ∧ v0 ≤ 2147483647) (h6 : -2147483648 ≤ v1 ∧ v1 ≤ 2147483647) (h7 : v2 = (-1)) (h8 : v4 = 0) (h9 : -2147483648 ≤ v5 ∧ v5 ≤ 2147483647) (h10 : v6 = 1) : v0 ≤ 3 := by omega
theorem ob142 (v0 : Int) (v1 : Int) (v2 : Int) (h0 : v0 ≤ v1 ∧ v0 ≤ v2 ∧ (v0 = v1 ∨ v0 = v2)) (h1 : -2147483648 ≤ v0 ∧ v0 ≤ 2147483647) (h2 : -2147483648 ≤ v1 ∧ v1 ≤ 2147483647) (h3 : v2 = 3) : v0 ≤ 3 := by omega
theorem ob143 (v0 : Int) (h0 : v0 = 10) : 7 ≤ v0 ∧ v0 ≤ 10 := by omega
theorem ob144 (v0 : Int) (v1 : Int) (h0 : v1 < v0) (h1 : v0 = 7) (h2 : -2147483648 ≤ v1 ∧ v1 ≤ 2147483647) : 7 ≤ v0 ∧ v0 ≤ 10 := by omega
theorem ob145 (v0 : Int) (h0 : v0 = 11) : 8 ≤ v0 ∧ v0 ≤ 11 := by omega
theorem ob146 (v0 : Int) (h0 : v0 = 8) : 8 ≤ v0 ∧ v0 ≤ 11 := by omega
theorem ob147 (v0 : Int) (h0 : v0 = 11) : 9 ≤ v0 ∧ v0 ≤ 11 := by omega
theorem ob148 (v0 : Int) (h0 : v0 = 9) : 9 ≤ v0 ∧ v0 ≤ 11 := by omega
theorem ob149 (v0 : Int) (v1 : Int) (v2 : Int) (v3 : Int) (h0 : v2 ≤ v0) (h1 : v3 ≤ v0) (h2 : -2147483648 ≤ v0 ∧ v0 ≤ 2147483647) (h3 : v1 = 6) (h4 : v2 = 4) (h5 : v3 = 10) : -2147483648 ≤ v0 - v1 ∧ v0 - v1 ≤ 2147483647 := by omega
theorem ob150 (v0 : Int) (v1 : Int) (v2 : Int) (v3 : Int) (h0 : v2 ≤ v0) (h1 : v0 < v3) (h2 : -2147483648 ≤ v0 ∧ v0 ≤ 2147483647) (h3 : v1 = 3) (h4 : v2 = 4) (h5 : v3 = 10) : -2147483648 ≤ v0 - v1 ∧ v0 - v1 ≤ 2147483647 := by omega
set_option maxHeartbeats 4000000 in
set_option maxRecDepth 100000 in
/-- X5_use on (9,) -/
theorem jx_X5_use (l : Launch) (hlt : l.stackTraces = false) (D : va_G) (t3 : Nat × Nat × Nat) (cI cJ : ClassId) (ad : Nat → Nat) (g : Nat → Int32) (lg : Nat → Int64) (ar : Nat → Nat → Int32) (bk : Nat → Int64) (sz : Nat) (y1 : Int32) (y2 : Int32) (y3 : Int32) (hr0 : 0 ≤ (y1).toInt ∧ (y1).toInt ≤ 4) (hr1 : 0 ≤ (y2).toInt ∧ (y2).toInt ≤ 4) (hi_g21 : 0 ≤ (g 21).toInt ∧ (g 21).toInt ≤ 4) (hi_g22 : 0 ≤ (g 22).toInt ∧ (g 22).toInt ≤ 4) : JMv l yX5_use (Cond.code yX5_use cX5_use 4 none :: wwX) { frames := 0, cells := 1, slots := 6, locals := 0 } t3 D xw cI cJ ad [.ref (ad 9), .int y1, .int y2, .int y3] (xw cI cJ ad g lg ar bk) sz 1 6 (fun g' lg' ar' bk' => hk_fr [21, 22, 23] g g' ∧ lg = lg' ∧ ar = ar' ∧ bk = bk' ∧ (0 ≤ (g' 21).toInt ∧ (g' 21).toInt ≤ 4) ∧ (0 ≤ (g' 22).toInt ∧ (g' 22).toInt ≤ 4)) (fun g' lg' ar' bk' => False) := by
  refine jx_metv (cc := cX5_use) (maxL := 4) (ret := none) rfl (by decide) rfl (Nat.le_of_ble_eq_true rfl) ?_
  intro p e s m args below meth c ls Q A hx hb hml hown hts hA hZ hw hl hQ kr kt
  have hq : ∀ w ∈ wwX, w.before args s = true := fun w h => hts w (List.mem_cons_of_mem _ h)
  have hl : lv_has ls 4 [(0, .ref (ad 9)), (1, .int y1), (2, .int y2), (3, .int y3)] := hl
  refine lv_aload_n hx hb dX5_use_0 rfl (lv_at hl 0 rfl) ?_
  refine lv_iload_n hx hb dX5_use_1 rfl (lv_at hl 1 rfl) ?_
  refine jx_putg xw (g := g) (lg := lg) (ar := ar) (bk := bk) (x := y1) 21 (ci := 8) (C := RX5) (T := TX5) (N := 6) (ty := .int) hx hb hts (fun _ h => List.mem_cons_of_mem _ (wwXc_wsX50 _ h)) tyX5 tyX5_ok nmX5 hown hw 9 rfl rfl 2 (by decide) (hq _ wX_381) rfl (by decide +kernel) rfl rfl (Nat.le_of_ble_eq_true rfl) dX5_use_2 rfl (fun H locs g1 h_g1 hw => ?_)
  refine lv_aload_n hx hb dX5_use_5 rfl (lv_at hl 0 rfl) ?_
  refine lv_iload_n hx hb dX5_use_6 rfl (lv_at hl 2 rfl) ?_
  refine jx_putg xw (g := g1) (lg := lg) (ar := ar) (bk := bk) (x := y2) 22 (ci := 8) (C := RX5) (T := TX5) (N := 6) (ty := .int) hx hb hts (fun _ h => List.mem_cons_of_mem _ (wwXc_wsX50 _ h)) tyX5 tyX5_ok nmX5 hown hw 9 rfl rfl 3 (by decide) (hq _ wX_380) rfl (by decide +kernel) rfl rfl (Nat.le_of_ble_eq_true rfl) dX5_use_7 rfl (fun H locs g2 h_g2 hw => ?_)
  refine lv_aload_n hx hb dX5_use_10 rfl (lv_at hl 0 rfl) ?_
  refine lv_iload_n hx hb dX5_use_11 rfl (lv_at hl 3 rfl) ?_
  refine jx_putg xw (g := g2) (lg := lg) (ar := ar) (bk := bk) (x := y3) 23 (ci := 8) (C := RX5) (T := TX5) (N := 6) (ty := .int) hx hb hts (fun _ h => List.mem_cons_of_mem _ (wwXc_wsX50 _ h)) tyX5 tyX5_ok nmX5 hown hw 9 rfl rfl 4 (by decide) (hq _ wX_398) rfl (by decide +kernel) rfl rfl (Nat.le_of_ble_eq_true rfl) dX5_use_12 rfl (fun H locs g3 h_g3 hw => ?_)
  have e_g3_21 : g3 21 = y1 := ((hk_upgN h_g3 21 rfl)).trans (((hk_upgN h_g2 21 rfl)).trans (hk_upgS h_g1))
  have e_g3_22 : g3 22 = y2 := ((hk_upgN h_g3 22 rfl)).trans (hk_upgS h_g2)
  exact kr g3 lg ar bk _ _ _ _ ⟨(hk_frG (hk_frG (hk_frG hk_fr0 (by decide) h_g1) (by decide) h_g2) (by decide) h_g3), rfl, rfl, rfl, (ob82 ((g3 21).toInt) ((y1).toInt) (congrArg Int32.toInt e_g3_21) hr0 (hE_rng (g3 21)) (hE_rng (y1))), (ob82 ((g3 22).toInt) ((y2).toInt) (congrArg Int32.toInt e_g3_22) hr1 (hE_rng (g3 22)) (hE_rng (y2)))⟩ hw dX5_use_15

set_option maxHeartbeats 4000000 in
set_option maxRecDepth 100000 in
/-- J7_rangeCheck_23922 -/
theorem jx_J7_rangeCheck_23922 (l : Launch) (hlt : l.stackTraces = false) (D : va_G) (t3 : Nat × Nat × Nat) (cI cJ : ClassId) (ad : Nat → Nat) (g : Nat → Int32) (lg : Nat → Int64) (ar : Nat → Nat → Int32) (bk : Nat → Int64) (sz : Nat) (y0 : Int32) (y1 : Int32) (y2 : Int32) (hr0 : 0 ≤ (y1).toInt) (hr1 : (y1).toInt ≤ (y2).toInt) (hr2 : (y2).toInt ≤ (y0).toInt) : JMv l yJ7_rangeCheck_23922 (Cond.code yJ7_rangeCheck_23922 cJ7_rangeCheck_23922 3 none :: wwX) { frames := 0, cells := 1, slots := 6, locals := 0 } t3 D xw cI cJ ad [.int y0, .int y1, .int y2] (xw cI cJ ad g lg ar bk) sz 1 6 (fun g' lg' ar' bk' => g = g' ∧ lg = lg' ∧ ar = ar' ∧ bk = bk') (fun g' lg' ar' bk' => False) := by
  refine jx_metv (cc := cJ7_rangeCheck_23922) (maxL := 3) (ret := none) rfl (by decide) rfl (Nat.le_of_ble_eq_true rfl) ?_
  intro p e s m args below meth c ls Q A hx hb hml hown hts hA hZ hw hl hQ kr kt
  have hq : ∀ w ∈ wwX, w.before args s = true := fun w h => hts w (List.mem_cons_of_mem _ h)
  have hl : lv_has ls 3 [(0, .int y0), (1, .int y1), (2, .int y2)] := hl
  refine lv_iload_n hx hb dJ7_rangeCheck_23922_0 rfl (lv_at hl 1 rfl) ?_
  refine lv_iload_n hx hb dJ7_rangeCheck_23922_1 rfl (lv_at hl 2 rfl) ?_
  refine lv_icmp_le (tgt := 46) hx hb dJ7_rangeCheck_23922_2 (by decide) (fun cc1 => ?_) (fun cc1 => ?_)
  · refine lv_iload_n hx hb dJ7_rangeCheck_23922_46 rfl (lv_at hl 1 rfl) ?_
    refine lv_if_ge (tgt := 59) hx hb dJ7_rangeCheck_23922_47 (by decide) (fun cc2 => ?_) (fun cc2 => ?_)
    · refine lv_iload_n hx hb dJ7_rangeCheck_23922_59 rfl (lv_at hl 2 rfl) ?_
      refine lv_iload_n hx hb dJ7_rangeCheck_23922_60 rfl (lv_at hl 0 rfl) ?_
      refine lv_icmp_le (tgt := 73) hx hb dJ7_rangeCheck_23922_61 (by decide) (fun cc3 => ?_) (fun cc3 => ?_)
      · exact kr g lg ar bk _ _ _ _ ⟨rfl, rfl, rfl, rfl⟩ hw dJ7_rangeCheck_23922_73
      · exact False.elim (hk_no0 (0 * (y1).toInt + 0 * (y2).toInt + 0 * (y0).toInt + 0 * ((0 : Int32)).toInt) (ob83 ((y1).toInt) ((y2).toInt) ((y0).toInt) (((0 : Int32)).toInt) hr0 hr1 hr2 (hE_le cc1) (hE_le cc2) (hE_nle cc3) (hE_rng (y1)) (hE_rng (y2)) (hE_rng (y0)) (by decide)) (by simp))
    · exact False.elim (hk_no0 (0 * (y1).toInt + 0 * (y2).toInt + 0 * (y0).toInt + 0 * ((0 : Int32)).toInt) (ob84 ((y1).toInt) ((y2).toInt) ((y0).toInt) (((0 : Int32)).toInt) hr0 hr1 hr2 (hE_le cc1) (hE_nle cc2) (hE_rng (y1)) (hE_rng (y2)) (hE_rng (y0)) (by decide)) (by simp))
  · exact False.elim (hk_no0 (0 * (y1).toInt + 0 * (y2).toInt + 0 * (y0).toInt) (ob85 ((y1).toInt) ((y2).toInt) ((y0).toInt) hr0 hr1 hr2 (hE_nle cc1) (hE_rng (y1)) (hE_rng (y2)) (hE_rng (y0))) (by simp))

set_option maxHeartbeats 4000000 in
set_option maxRecDepth 100000 in
/-- J7_fill_fda19 on (8,) -/
theorem jx_J7_fill_fda19_8 (l : Launch) (hlt : l.stackTraces = false) (D : va_G) (t3 : Nat × Nat × Nat) (cI cJ : ClassId) (ad : Nat → Nat) (g : Nat → Int32) (lg : Nat → Int64) (ar : Nat → Nat → Int32) (bk : Nat → Int64) (sz : Nat) (y1 : Int32) (y2 : Int32) (y3 : Int32) (hr0 : 0 ≤ (y1).toInt) (hr1 : (y1).toInt ≤ (y2).toInt) (hr2 : (y2).toInt ≤ 14340) : JMv l yJ7_fill_fda19 (Cond.code yJ7_fill_fda19 cJ7_fill_fda19 5 none :: wwX) { frames := 1, cells := 1, slots := 6, locals := 22 } t3 D xw cI cJ ad [.ref (ad 8), .int y1, .int y2, .int y3] (xw cI cJ ad g lg ar bk) sz 1 6 (fun g' lg' ar' bk' => g = g' ∧ lg = lg' ∧ hk_fr [2] ar ar' ∧ bk = bk') (fun g' lg' ar' bk' => False) := by
  refine jx_metv (cc := cJ7_fill_fda19) (maxL := 5) (ret := none) rfl (by decide) rfl (Nat.le_of_ble_eq_true rfl) ?_
  intro p e s m args below meth c ls Q A hx hb hml hown hts hA hZ hw hl hQ kr kt
  have hq : ∀ w ∈ wwX, w.before args s = true := fun w h => hts w (List.mem_cons_of_mem _ h)
  have hl : lv_has ls 5 [(0, .ref (ad 8)), (1, .int y1), (2, .int y2), (3, .int y3)] := hl
  refine lv_aload_n hx hb dJ7_fill_fda19_0 rfl (lv_at hl 0 rfl) ?_
  refine hk_alen (v := 14340) hx hb hw 8 0 rfl rfl rfl dJ7_fill_fda19_1 ?_
  refine lv_iload_n hx hb dJ7_fill_fda19_2 rfl (lv_at hl 1 rfl) ?_
  refine lv_iload_n hx hb dJ7_fill_fda19_3 rfl (lv_at hl 2 rfl) ?_
  refine jx_Sv (As := [.int 14340, .int y1, .int y2]) (rest := []) ⟨hx, hb, hml, hown, hts⟩ hZ hw hA (jx_J7_rangeCheck_23922 l hlt D t3 cI cJ ad g lg ar bk _ 14340 y1 y2 (ob86 ((y1).toInt) ((y2).toInt) hr0 hr1 hr2 (hE_rng (y1)) (hE_rng (y2))) (ob87 ((y1).toInt) ((y2).toInt) hr0 hr1 hr2 (hE_rng (y1)) (hE_rng (y2))) (ob88 ((y2).toInt) (((14340 : Int32)).toInt) ((y1).toInt) hr1 hr2 hr0 (hE_rng (y2)) (by decide) (hE_rng (y1)))) (va_cwS 3 hts (jx_gS wwX_good wX_5 wX_6 wX_7 wX_8) rfl rfl rfl (by decide +kernel) ⟨Nat.le_of_ble_eq_true rfl, Nat.le_of_ble_eq_true rfl⟩) rfl hl.1 rfl (Nat.le_of_ble_eq_true rfl) dJ7_fill_fda19_4 ⟨Nat.le_of_ble_eq_true rfl, Nat.le_of_ble_eq_true rfl⟩ (fun _ _ _ _ _ _ _ _ hp _ _ _ _ => hp.elim) (fun g6 l7 a8 b9 H locs hp10 hw => ?_)
  obtain ⟨rfl, rfl, rfl, rfl⟩ := hp10
  refine lv_iload_n hx hb dJ7_fill_fda19_7 rfl (lv_at hl 1 rfl) ?_
  refine lv_istore (lv' := [(4, .int y1), (0, .ref (ad 8)), (1, .int y1), (2, .int y2), (3, .int y3)]) hx hb dJ7_fill_fda19_8 hl (by decide) rfl (fun ls hl => ?_)
  have B15 : ∀ (k18 : Nat) (x16 : Int32) (a17 : Nat → Nat → Int32) (ls : Array Slot) (H : Heap) (locs : List Loc), (2147483648 - (x16).toInt ≤ (k18 : Int)) → (0 ≤ (x16).toInt) → (hk_fr [2] ar a17) → hk_W D (jT cI cJ) A s H locs (xw cI cJ ad g lg a17 bk) → lv_has ls 5 [(0, .ref (ad 8)), (2, .int y2), (3, .int y3), (4, .int x16)] → W p l e { frames := 1, cells := 1, slots := 6, locals := 22 } s m args below meth c H locs 0 0 Q (F0 m 10 ls []) := by
    intro k18
    induction k18 with
    | zero =>
      intro x16 a17 ls H locs hrk_B15 hf_B15_0 hfr_a17 hw hl
      exact False.elim (hk_no0 (0 * (x16).toInt) (ob5 ((x16).toInt) hf_B15_0 hrk_B15 (hE_rng (x16))) (by simp))
    | succ k18 ih_B15 =>
      intro x16 a17 ls H locs hrk_B15 hf_B15_0 hfr_a17 hw hl
      have hrk_B15 := hk_rk hrk_B15
      refine lv_iload hx hb dJ7_fill_fda19_10 (lv_at hl 3 rfl) ?_
      refine lv_iload_n hx hb dJ7_fill_fda19_12 rfl (lv_at hl 1 rfl) ?_
      refine lv_icmp_ge (tgt := 27) hx hb dJ7_fill_fda19_13 (by decide) (fun cc19 => ?_) (fun cc19 => ?_)
      · exact kr g lg a17 bk _ _ _ _ ⟨rfl, rfl, hfr_a17, rfl⟩ hw dJ7_fill_fda19_27
      · refine lv_aload_n hx hb dJ7_fill_fda19_16 rfl (lv_at hl 0 rfl) ?_
        refine lv_iload hx hb dJ7_fill_fda19_17 (lv_at hl 3 rfl) ?_
        refine lv_iload_n hx hb dJ7_fill_fda19_19 rfl (lv_at hl 2 rfl) ?_
        refine jx_iast xw (g := g) (lg := lg) (ar := a17) (bk := bk) 2 hx hb hw 8 0 rfl rfl (hE_in (n := 14340) (ob89 ((x16).toInt) (k18 : Int) ((y2).toInt) ((y1).toInt) hf_B15_0 hrk_B15 (hE_nle cc19) hr1 hr2 hr0 (hE_rng (x16)) (hE_rng (y2)) (hE_rng (y1)))) dJ7_fill_fda19_20 rfl (fun H locs a20 h_a20 hw => ?_)
        obtain ⟨z21, hz21⟩ : ∃ z : Int32, x16 + 1 = z := ⟨_, rfl⟩
        refine lv_iinc (v := z21) (lv' := [(4, .int z21), (0, .ref (ad 8)), (2, .int y2), (3, .int y3)]) hx hb dJ7_fill_fda19_21 hl (k := 3) rfl hz21 (by decide) rfl (fun ls hl => ?_)
        have xz21 : (z21).toInt = (x16).toInt + ((1 : Int32)).toInt := (hE_imp (hE_add hz21) (ob90 ((x16).toInt) (((1 : Int32)).toInt) (k18 : Int) ((y2).toInt) ((y1).toInt) hf_B15_0 hrk_B15 (hE_nle cc19) hr1 hr2 hr0 (hE_rng (x16)) (by decide) (hE_rng (y2)) (hE_rng (y1))))
        refine lv_goto (tgt := 10) hx hb dJ7_fill_fda19_24 (by decide) ?_
        exact ih_B15 z21 a20 ls _ _ (ob91 ((z21).toInt) (k18 : Int) ((x16).toInt) (((1 : Int32)).toInt) ((y2).toInt) ((y1).toInt) hrk_B15 xz21 hf_B15_0 (hE_nle cc19) hr1 hr2 hr0 (hE_rng (z21)) (hE_rng (x16)) (by decide) (hE_rng (y2)) (hE_rng (y1))) (ob92 ((z21).toInt) ((x16).toInt) (((1 : Int32)).toInt) (k18 : Int) ((y2).toInt) ((y1).toInt) xz21 hf_B15_0 hrk_B15 (hE_nle cc19) hr1 hr2 hr0 (hE_rng (z21)) (hE_rng (x16)) (by decide) (hE_rng (y2)) (hE_rng (y1))) (hk_frA hfr_a17 (by decide) h_a20) hw (lv_sub hl [1, 2, 3, 0] rfl)
  exact B15 (2147483648 - (y1).toInt).toNat y1 ar ls _ _ (Int.self_le_toNat _) (ob86 ((y1).toInt) ((y2).toInt) hr0 hr1 hr2 (hE_rng (y1)) (hE_rng (y2))) hk_fr0 hw (lv_sub hl [1, 3, 4, 0] rfl)

set_option maxHeartbeats 4000000 in
set_option maxRecDepth 100000 in
/-- J7_fill_d0a16 on (10,) -/
theorem jx_J7_fill_d0a16_10 (l : Launch) (hlt : l.stackTraces = false) (D : va_G) (t3 : Nat × Nat × Nat) (cI cJ : ClassId) (ad : Nat → Nat) (g : Nat → Int32) (lg : Nat → Int64) (ar : Nat → Nat → Int32) (bk : Nat → Int64) (sz : Nat) (y1 : Int64) : JMv l yJ7_fill_d0a16 (Cond.code yJ7_fill_d0a16 cJ7_fill_d0a16 5 none :: wwX) { frames := 0, cells := 1, slots := 6, locals := 0 } t3 D xw cI cJ ad [.ref (ad 10), .long y1] (xw cI cJ ad g lg ar bk) sz 1 6 (fun g' lg' ar' bk' => g = g' ∧ lg = lg' ∧ ar = ar' ∧ True) (fun g' lg' ar' bk' => False) := by
  refine jx_metv (cc := cJ7_fill_d0a16) (maxL := 5) (ret := none) rfl (by decide) rfl (Nat.le_of_ble_eq_true rfl) ?_
  intro p e s m args below meth c ls Q A hx hb hml hown hts hA hZ hw hl hQ kr kt
  have hq : ∀ w ∈ wwX, w.before args s = true := fun w h => hts w (List.mem_cons_of_mem _ h)
  have hl : lv_has ls 5 [(0, .ref (ad 10)), (1, .long y1)] := hl
  refine lv_iconst (v := 0) hx hb dJ7_fill_d0a16_0 (by decide) ?_
  refine lv_istore_n (lv' := [(3, .int 0), (0, .ref (ad 10)), (1, .long y1)]) hx hb dJ7_fill_d0a16_1 rfl hl (by decide) rfl (fun ls hl => ?_)
  refine lv_aload_n hx hb dJ7_fill_d0a16_2 rfl (lv_at hl 1 rfl) ?_
  refine hk_alen (v := 4) hx hb hw 10 1 rfl rfl rfl dJ7_fill_d0a16_3 ?_
  refine lv_istore (lv' := [(4, .int 4), (3, .int 0), (0, .ref (ad 10)), (1, .long y1)]) hx hb dJ7_fill_d0a16_4 hl (by decide) rfl (fun ls hl => ?_)
  have B1 : ∀ (k4 : Nat) (x2 : Int32) (b3 : Nat → Int64) (ls : Array Slot) (H : Heap) (locs : List Loc), (2147483648 - (x2).toInt ≤ (k4 : Int)) → (0 ≤ (x2).toInt) → hk_W D (jT cI cJ) A s H locs (xw cI cJ ad g lg ar b3) → lv_has ls 5 [(0, .ref (ad 10)), (1, .long y1), (3, .int x2), (4, .int 4)] → W p l e { frames := 0, cells := 1, slots := 6, locals := 0 } s m args below meth c H locs 0 0 Q (F0 m 6 ls []) := by
    intro k4
    induction k4 with
    | zero =>
      intro x2 b3 ls H locs hrk_B1 hf_B1_0 hw hl
      exact False.elim (hk_no0 (0 * (x2).toInt) (ob5 ((x2).toInt) hf_B1_0 hrk_B1 (hE_rng (x2))) (by simp))
    | succ k4 ih_B1 =>
      intro x2 b3 ls H locs hrk_B1 hf_B1_0 hw hl
      have hrk_B1 := hk_rk hrk_B1
      refine lv_iload_n hx hb dJ7_fill_d0a16_6 rfl (lv_at hl 2 rfl) ?_
      refine lv_iload hx hb dJ7_fill_d0a16_7 (lv_at hl 3 rfl) ?_
      refine lv_icmp_ge (tgt := 22) hx hb dJ7_fill_d0a16_9 (by decide) (fun cc5 => ?_) (fun cc5 => ?_)
      · exact kr g lg ar b3 _ _ _ _ ⟨rfl, rfl, rfl, trivial⟩ hw dJ7_fill_d0a16_22
      · refine lv_aload_n hx hb dJ7_fill_d0a16_12 rfl (lv_at hl 0 rfl) ?_
        refine lv_iload_n hx hb dJ7_fill_d0a16_13 rfl (lv_at hl 2 rfl) ?_
        refine lv_lload_n hx hb dJ7_fill_d0a16_14 rfl (lv_at hl 1 rfl) ?_
        refine jx_last xw (g := g) (lg := lg) (ar := ar) (bk := b3) hx hb hw 10 1 rfl rfl (hE_in (n := 4) (ob93 ((x2).toInt) (k4 : Int) (((4 : Int32)).toInt) hf_B1_0 hrk_B1 (hE_nle cc5) (hE_rng (x2)) (by decide))) dJ7_fill_d0a16_15 rfl (fun H locs b6 h_b6 hw => ?_)
        obtain ⟨z7, hz7⟩ : ∃ z : Int32, x2 + 1 = z := ⟨_, rfl⟩
        refine lv_iinc (v := z7) (lv' := [(3, .int z7), (0, .ref (ad 10)), (1, .long y1), (4, .int 4)]) hx hb dJ7_fill_d0a16_16 hl (k := 2) rfl hz7 (by decide) rfl (fun ls hl => ?_)
        have xz7 : (z7).toInt = (x2).toInt + ((1 : Int32)).toInt := (hE_imp (hE_add hz7) (ob19 ((x2).toInt) (((1 : Int32)).toInt) (k4 : Int) (((4 : Int32)).toInt) hf_B1_0 hrk_B1 (hE_nle cc5) (hE_rng (x2)) (by decide) (by decide)))
        refine lv_goto (tgt := 6) hx hb dJ7_fill_d0a16_19 (by decide) ?_
        exact ih_B1 z7 b6 ls _ _ (ob20 ((z7).toInt) (k4 : Int) ((x2).toInt) (((1 : Int32)).toInt) (((4 : Int32)).toInt) hrk_B1 xz7 hf_B1_0 (hE_nle cc5) (hE_rng (z7)) (hE_rng (x2)) (by decide) (by decide)) (ob21 ((z7).toInt) ((x2).toInt) (((1 : Int32)).toInt) (k4 : Int) (((4 : Int32)).toInt) xz7 hf_B1_0 hrk_B1 (hE_nle cc5) (hE_rng (z7)) (hE_rng (x2)) (by decide) (by decide)) hw (lv_sub hl [1, 2, 0, 3] rfl)
  exact B1 (2147483648 - ((0 : Int32)).toInt).toNat 0 bk ls _ _ (Int.self_le_toNat _) (ob9 (((0 : Int32)).toInt) (by decide)) hw (lv_sub hl [2, 3, 1, 0] rfl)

set_option maxHeartbeats 4000000 in
set_option maxRecDepth 100000 in
/-- X5_reset on (9,) -/
theorem jx_X5_reset (l : Launch) (hlt : l.stackTraces = false) (D : va_G) (t3 : Nat × Nat × Nat) (cI cJ : ClassId) (ad : Nat → Nat) (g : Nat → Int32) (lg : Nat → Int64) (ar : Nat → Nat → Int32) (bk : Nat → Int64) (sz : Nat) (hi_g21 : 0 ≤ (g 21).toInt ∧ (g 21).toInt ≤ 4) (hi_g22 : 0 ≤ (g 22).toInt ∧ (g 22).toInt ≤ 4) : JMv l yX5_reset (Cond.code yX5_reset cX5_reset 2 none :: wwX) { frames := 2, cells := 1, slots := 6, locals := 46 } t3 D xw cI cJ ad [.ref (ad 9)] (xw cI cJ ad g lg ar bk) sz 1 6 (fun g' lg' ar' bk' => hk_fr [24] g g' ∧ lg = lg' ∧ hk_fr [2] ar ar' ∧ True) (fun g' lg' ar' bk' => False) := by
  refine jx_metv (cc := cX5_reset) (maxL := 2) (ret := none) rfl (by decide) rfl (Nat.le_of_ble_eq_true rfl) ?_
  intro p e s m args below meth c ls Q A hx hb hml hown hts hA hZ hw hl hQ kr kt
  have hq : ∀ w ∈ wwX, w.before args s = true := fun w h => hts w (List.mem_cons_of_mem _ h)
  have hl : lv_has ls 2 [(0, .ref (ad 9))] := hl
  refine lv_sipush (v := 2052) hx hb dX5_reset_0 (by decide) ?_
  refine lv_sipush (v := 768) hx hb dX5_reset_3 (by decide) ?_
  refine lv_aload_n hx hb dX5_reset_6 rfl (lv_at hl 0 rfl) ?_
  refine hk_get (ci := 8) (C := RX5) (T := TX5) (N := 6) (v := .int (g 21)) hx hb hts (fun _ h => List.mem_cons_of_mem _ (wwXc_wsX50 _ h)) hown hw 9 rfl rfl 2 (by decide) (hq _ wX_381) rfl dX5_reset_7 ?_
  refine lv_aload_n hx hb dX5_reset_10 rfl (lv_at hl 0 rfl) ?_
  refine hk_get (ci := 8) (C := RX5) (T := TX5) (N := 6) (v := .int (g 22)) hx hb hts (fun _ h => List.mem_cons_of_mem _ (wwXc_wsX50 _ h)) hown hw 9 rfl rfl 3 (by decide) (hq _ wX_380) rfl dX5_reset_11 ?_
  refine lv_iadd hx hb dX5_reset_14 (jx_nm fun z1 hz1 => ?_)
  have xz1 : (z1).toInt = (g 21).toInt + (g 22).toInt := (hE_imp (hE_add hz1) (ob94 ((g 21).toInt) ((g 22).toInt) hi_g21 hi_g22 (hE_rng (g 21)) (hE_rng (g 22))))
  refine lv_ishl hx hb dX5_reset_15 (jx_nm fun z2 hz2 => ?_)
  refine lv_iadd hx hb dX5_reset_16 (jx_nm fun z3 hz3 => ?_)
  refine lv_istore_n (lv' := [(1, .int z3), (0, .ref (ad 9))]) hx hb dX5_reset_17 rfl hl (by decide) rfl (fun ls hl => ?_)
  refine lv_aload_n hx hb dX5_reset_18 rfl (lv_at hl 1 rfl) ?_
  refine hk_get (ci := 8) (C := RX5) (T := TX5) (N := 6) (v := .ref (ad 7)) hx hb hts (fun _ h => List.mem_cons_of_mem _ (wwXc_wsX50 _ h)) hown hw 9 rfl rfl 0 (by decide) (hq _ wX_357) rfl dX5_reset_19 ?_
  refine hk_get (ci := 5) (C := RX2) (T := TX2) (N := 9) (v := .ref (ad 8)) hx hb hts (fun _ h => List.mem_cons_of_mem _ (wwXc_wsX20 _ h)) hown hw 7 rfl rfl 0 (by decide) (hq _ wX_386) rfl dX5_reset_22 ?_
  refine lv_iconst (v := 0) hx hb dX5_reset_25 (by decide) ?_
  refine lv_iload_n hx hb dX5_reset_26 rfl (lv_at hl 0 rfl) ?_
  refine lv_sipush (v := 14340) hx hb dX5_reset_27 (by decide) ?_
  refine va_mmin hx hb (by rw [hml]; exact hl.1.symm) hown (hq _ wX_355) (hq _ wX_146) (hq _ wX_143) (hq _ wX_147) (Nat.le_of_ble_eq_true rfl) (Nat.le_of_ble_eq_true rfl) (Nat.le_of_ble_eq_true rfl) (Nat.le_of_ble_eq_true rfl) dX5_reset_30 (jx_nm fun z4 hz4 => ?_)
  refine lv_sipush (v := 1024) hx hb dX5_reset_33 (by decide) ?_
  refine jx_Sv (As := [.ref (ad 8), .int 0, .int z4, .int 1024]) (rest := []) ⟨hx, hb, hml, hown, hts⟩ hZ hw hA (jx_J7_fill_fda19_8 l hlt D t3 cI cJ ad g lg ar bk _ 0 z4 1024 (ob9 (((0 : Int32)).toInt) (by decide)) (ob95 (((0 : Int32)).toInt) ((z4).toInt) ((z3).toInt) (((14340 : Int32)).toInt) (((2052 : Int32)).toInt) ((z2).toInt) ((z1).toInt) ((g 21).toInt) ((g 22).toInt) (hE_min hz4) (hE_add hz3) (hE_shl768 hz2) xz1 hi_g21 hi_g22 (by decide) (hE_rng (z4)) (hE_rng (z3)) (by decide) (by decide) (hE_rng (z2)) (hE_rng (z1)) (hE_rng (g 21)) (hE_rng (g 22))) (ob96 ((z4).toInt) ((z3).toInt) (((14340 : Int32)).toInt) (((2052 : Int32)).toInt) ((z2).toInt) ((z1).toInt) ((g 21).toInt) ((g 22).toInt) (hE_min hz4) (hE_add hz3) (hE_shl768 hz2) xz1 hi_g21 hi_g22 (hE_rng (z4)) (hE_rng (z3)) (by decide) (by decide) (hE_rng (z2)) (hE_rng (z1)) (hE_rng (g 21)) (hE_rng (g 22)))) (va_cwS 4 hts (jx_gS wwX_good wX_387 wX_388 wX_7 wX_389) rfl rfl rfl (by decide +kernel) ⟨Nat.le_of_ble_eq_true rfl, Nat.le_of_ble_eq_true rfl⟩) rfl hl.1 rfl (Nat.le_of_ble_eq_true rfl) dX5_reset_36 ⟨Nat.le_of_ble_eq_true rfl, Nat.le_of_ble_eq_true rfl⟩ (fun _ _ _ _ _ _ _ _ hp _ _ _ _ => hp.elim) (fun g10 l11 a12 b13 H locs hp14 hw => ?_)
  obtain ⟨rfl, rfl, h17, rfl⟩ := hp14
  refine lv_aload_n hx hb dX5_reset_39 rfl (lv_at hl 1 rfl) ?_
  refine hk_get (ci := 8) (C := RX5) (T := TX5) (N := 6) (v := .ref (ad 10)) hx hb hts (fun _ h => List.mem_cons_of_mem _ (wwXc_wsX50 _ h)) hown hw 9 rfl rfl 1 (by decide) (hq _ wX_354) rfl dX5_reset_40 ?_
  refine lv_lconst (v := 1) hx hb dX5_reset_43 (by decide) ?_
  refine jx_Sv (As := [.ref (ad 10), .long 1]) (rest := []) ⟨hx, hb, hml, hown, hts⟩ hZ hw hA (jx_J7_fill_d0a16_10 l hlt D t3 cI cJ ad g lg a12 bk _ 1) (va_cwS 2 hts (jx_gS wwX_good wX_390 wX_391 wX_7 wX_392) rfl rfl rfl (by decide +kernel) ⟨Nat.le_of_ble_eq_true rfl, Nat.le_of_ble_eq_true rfl⟩) rfl hl.1 rfl (Nat.le_of_ble_eq_true rfl) dX5_reset_44 ⟨Nat.le_of_ble_eq_true rfl, Nat.le_of_ble_eq_true rfl⟩ (fun _ _ _ _ _ _ _ _ hp _ _ _ _ => hp.elim) (fun g24 l25 a26 b27 H locs hp28 hw => ?_)
  obtain ⟨rfl, rfl, rfl, -⟩ := hp28
  refine lv_aload_n hx hb dX5_reset_47 rfl (lv_at hl 1 rfl) ?_
  refine lv_iconst (v := 0) hx hb dX5_reset_48 (by decide) ?_
  refine jx_putg xw (g := g) (lg := lg) (ar := a12) (bk := b27) (x := 0) 24 (ci := 8) (C := RX5) (T := TX5) (N := 6) (ty := .int) hx hb hts (fun _ h => List.mem_cons_of_mem _ (wwXc_wsX50 _ h)) tyX5 tyX5_ok nmX5 hown hw 9 rfl rfl 5 (by decide) (hq _ wX_378) rfl (by decide +kernel) rfl rfl (Nat.le_of_ble_eq_true rfl) dX5_reset_49 rfl (fun H locs g33 h_g33 hw => ?_)
  exact kr g33 lg a12 b27 _ _ _ _ ⟨(hk_frG hk_fr0 (by decide) h_g33), rfl, h17, trivial⟩ hw dX5_reset_52

set_option maxHeartbeats 4000000 in
set_option maxRecDepth 100000 in
/-- X5_back on (9,) -/
theorem jx_X5_back (l : Launch) (hlt : l.stackTraces = false) (D : va_G) (t3 : Nat × Nat × Nat) (cI cJ : ClassId) (ad : Nat → Nat) (g : Nat → Int32) (lg : Nat → Int64) (ar : Nat → Nat → Int32) (bk : Nat → Int64) (sz : Nat) (y1 : Int32) : JMl l yX5_back (Cond.code yX5_back cX5_back 2 (some .long) :: wwX) { frames := 0, cells := 1, slots := 6, locals := 0 } t3 D xw cI cJ ad [.ref (ad 9), .int y1] (xw cI cJ ad g lg ar bk) sz 1 6 (fun (r : Int64) g' lg' ar' bk' => g = g' ∧ lg = lg' ∧ ar = ar' ∧ bk = bk') (fun g' lg' ar' bk' => False) := by
  refine jx_metl (cc := cX5_back) (maxL := 2) (ret := (some .long)) rfl (by decide) rfl (Nat.le_of_ble_eq_true rfl) ?_
  intro p e s m args below meth c ls Q A hx hb hml hown hts hA hZ hw hl hQ kr kt
  have hq : ∀ w ∈ wwX, w.before args s = true := fun w h => hts w (List.mem_cons_of_mem _ h)
  have hl : lv_has ls 2 [(0, .ref (ad 9)), (1, .int y1)] := hl
  refine lv_iload_n hx hb dX5_back_0 rfl (lv_at hl 1 rfl) ?_
  refine lv_if_lt (tgt := 18) hx hb dX5_back_1 (by decide) (fun cc1 => ?_) (fun cc1 => ?_)
  · refine lv_lconst (v := 0) hx hb dX5_back_18 (by decide) ?_
    exact kr 0 g lg ar bk _ _ _ _ ⟨rfl, rfl, rfl, rfl⟩ hw dX5_back_19
  · refine lv_iload_n hx hb dX5_back_4 rfl (lv_at hl 1 rfl) ?_
    refine lv_iconst (v := 4) hx hb dX5_back_5 (by decide) ?_
    refine lv_icmp_ge (tgt := 18) hx hb dX5_back_6 (by decide) (fun cc2 => ?_) (fun cc2 => ?_)
    · refine lv_lconst (v := 0) hx hb dX5_back_18 (by decide) ?_
      exact kr 0 g lg ar bk _ _ _ _ ⟨rfl, rfl, rfl, rfl⟩ hw dX5_back_19
    · refine lv_aload_n hx hb dX5_back_9 rfl (lv_at hl 0 rfl) ?_
      refine hk_get (ci := 8) (C := RX5) (T := TX5) (N := 6) (v := .ref (ad 10)) hx hb hts (fun _ h => List.mem_cons_of_mem _ (wwXc_wsX50 _ h)) hown hw 9 rfl rfl 1 (by decide) (hq _ wX_354) rfl dX5_back_10 ?_
      refine lv_iload_n hx hb dX5_back_13 rfl (lv_at hl 1 rfl) ?_
      refine jx_lald hx hb hw 10 1 rfl rfl (hE_in (n := 4) (ob97 ((y1).toInt) (((0 : Int32)).toInt) (((4 : Int32)).toInt) (hE_nlt cc1) (hE_nle cc2) (hE_rng (y1)) (by decide) (by decide))) dX5_back_14 (fun z3 hz3 => ?_)
      refine lv_goto (tgt := 19) hx hb dX5_back_15 (by decide) ?_
      exact kr z3 g lg ar bk _ _ _ _ ⟨rfl, rfl, rfl, rfl⟩ hw dX5_back_19

set_option maxHeartbeats 4000000 in
set_option maxRecDepth 100000 in
/-- X5_turnOf on (9,) -/
theorem jx_X5_turnOf (l : Launch) (hlt : l.stackTraces = false) (D : va_G) (t3 : Nat × Nat × Nat) (cI cJ : ClassId) (ad : Nat → Nat) (g : Nat → Int32) (lg : Nat → Int64) (ar : Nat → Nat → Int32) (bk : Nat → Int64) (sz : Nat) (y1 : Int32) : JMi l yX5_turnOf (Cond.code yX5_turnOf cX5_turnOf 2 (some .int) :: wwX) { frames := 0, cells := 1, slots := 6, locals := 0 } t3 D xw cI cJ ad [.ref (ad 9), .int y1] (xw cI cJ ad g lg ar bk) sz 1 6 (fun (r : Int32) g' lg' ar' bk' => g = g' ∧ lg = lg' ∧ ar = ar' ∧ bk = bk') (fun g' lg' ar' bk' => False) := by
  refine jx_meti (cc := cX5_turnOf) (maxL := 2) (ret := (some .int)) rfl (by decide) rfl (Nat.le_of_ble_eq_true rfl) ?_
  intro p e s m args below meth c ls Q A hx hb hml hown hts hA hZ hw hl hQ kr kt
  have hq : ∀ w ∈ wwX, w.before args s = true := fun w h => hts w (List.mem_cons_of_mem _ h)
  have hl : lv_has ls 2 [(0, .ref (ad 9)), (1, .int y1)] := hl
  refine lv_iload_n hx hb dX5_turnOf_0 rfl (lv_at hl 1 rfl) ?_
  refine lv_iconst (v := 1) hx hb dX5_turnOf_1 (by decide) ?_
  refine lv_aload_n hx hb dX5_turnOf_2 rfl (lv_at hl 0 rfl) ?_
  refine hk_get (ci := 8) (C := RX5) (T := TX5) (N := 6) (v := .int (g 23)) hx hb hts (fun _ h => List.mem_cons_of_mem _ (wwXc_wsX50 _ h)) hown hw 9 rfl rfl 4 (by decide) (hq _ wX_398) rfl dX5_turnOf_3 ?_
  refine lv_ishl hx hb dX5_turnOf_6 (jx_nm fun z1 hz1 => ?_)
  refine lv_iconst (v := 1) hx hb dX5_turnOf_7 (by decide) ?_
  refine lv_isub hx hb dX5_turnOf_8 (jx_nm fun z2 hz2 => ?_)
  refine lv_iand hx hb dX5_turnOf_9 (jx_nm fun z3 hz3 => ?_)
  exact kr z3 g lg ar bk _ _ _ _ ⟨rfl, rfl, rfl, rfl⟩ hw dX5_turnOf_10

set_option maxHeartbeats 4000000 in
set_option maxRecDepth 100000 in
/-- X5_codeKind on (9,) -/
theorem jx_X5_codeKind (l : Launch) (hlt : l.stackTraces = false) (D : va_G) (t3 : Nat × Nat × Nat) (cI cJ : ClassId) (ad : Nat → Nat) (g : Nat → Int32) (lg : Nat → Int64) (ar : Nat → Nat → Int32) (bk : Nat → Int64) (sz : Nat) (y1 : Int32) (y2 : Int32) (hi_a0rg : hk_rg 0 255 (ar 0)) : JMi l yX5_codeKind (Cond.code yX5_codeKind cX5_codeKind 4 (some .int) :: wwX) { frames := 8, cells := 1, slots := 6, locals := 128 } t3 D xw cI cJ ad [.ref (ad 9), .int y1, .int y2] (xw cI cJ ad g lg ar bk) sz 1 6 (fun (r : Int32) g' lg' ar' bk' => hk_fr [14, 15, 17, 19, 20] g g' ∧ hk_fr [0, 1, 2] lg lg' ∧ hk_fr [1, 2] ar ar' ∧ bk = bk') (fun g' lg' ar' bk' => hk_fr [14, 15, 17, 19, 20] g g' ∧ hk_fr [0, 1, 2] lg lg' ∧ hk_fr [1, 2] ar ar' ∧ bk = bk' ∧ ((g 18).toInt ≠ 0)) := by
  refine jx_meti (cc := cX5_codeKind) (maxL := 4) (ret := (some .int)) rfl (by decide) rfl (Nat.le_of_ble_eq_true rfl) ?_
  intro p e s m args below meth c ls Q A hx hb hml hown hts hA hZ hw hl hQ kr kt
  have hq : ∀ w ∈ wwX, w.before args s = true := fun w h => hts w (List.mem_cons_of_mem _ h)
  have hl : lv_has ls 4 [(0, .ref (ad 9)), (1, .int y1), (2, .int y2)] := hl
  refine lv_aload_n hx hb dX5_codeKind_0 rfl (lv_at hl 0 rfl) ?_
  refine lv_iload_n hx hb dX5_codeKind_1 rfl (lv_at hl 2 rfl) ?_
  refine jx_Vi (As := [.int y2]) (rest := []) ⟨hx, hb, hml, hown, hts⟩ hZ hw hA (jx_X5_turnOf l hlt D t3 cI cJ ad g lg ar bk _ y2) (cwV 1 hts (jx_gV wwX_good wX_374 wX_375 wX_376 wX_215 wX_377) rfl rfl rfl (by decide +kernel) ⟨Nat.le_of_ble_eq_true rfl, Nat.le_of_ble_eq_true rfl⟩) 9 (ci := 8) (T := TX5) (N := 6) rfl rfl rfl hl.1 rfl (Nat.le_of_ble_eq_true rfl) dX5_codeKind_2 ⟨Nat.le_of_ble_eq_true rfl, Nat.le_of_ble_eq_true rfl⟩ (fun _ _ _ _ _ _ _ _ hp _ _ _ _ => hp.elim) (fun r5 g6 l7 a8 b9 H locs hp10 hw => ?_)
  obtain ⟨rfl, rfl, rfl, rfl⟩ := hp10
  refine lv_istore_n (lv' := [(3, .int r5), (0, .ref (ad 9)), (1, .int y1), (2, .int y2)]) hx hb dX5_codeKind_5 rfl hl (by decide) rfl (fun ls hl => ?_)
  refine lv_aload_n hx hb dX5_codeKind_6 rfl (lv_at hl 1 rfl) ?_
  refine hk_get (ci := 8) (C := RX5) (T := TX5) (N := 6) (v := .ref (ad 7)) hx hb hts (fun _ h => List.mem_cons_of_mem _ (wwXc_wsX50 _ h)) hown hw 9 rfl rfl 0 (by decide) (hq _ wX_357) rfl dX5_codeKind_7 ?_
  refine lv_iconst (v := 0) hx hb dX5_codeKind_10 (by decide) ?_
  refine lv_aload_n hx hb dX5_codeKind_11 rfl (lv_at hl 1 rfl) ?_
  refine hk_get (ci := 8) (C := RX5) (T := TX5) (N := 6) (v := .int (g 24)) hx hb hts (fun _ h => List.mem_cons_of_mem _ (wwXc_wsX50 _ h)) hown hw 9 rfl rfl 5 (by decide) (hq _ wX_378) rfl dX5_codeKind_12 ?_
  refine lv_bipush (v := 16) hx hb dX5_codeKind_15 (by decide) ?_
  refine lv_imul hx hb dX5_codeKind_17 (jx_nm fun z15 hz15 => ?_)
  refine lv_iadd hx hb dX5_codeKind_18 (jx_nm fun z16 hz16 => ?_)
  have xz16 : (z16).toInt = ((0 : Int32)).toInt + (z15).toInt := (hE_imp (hE_add hz16) (ob98 (((0 : Int32)).toInt) ((z15).toInt) (by decide) (hE_rng (z15))))
  refine lv_iload_n hx hb dX5_codeKind_19 rfl (lv_at hl 0 rfl) ?_
  refine lv_iadd hx hb dX5_codeKind_20 (jx_nm fun z17 hz17 => ?_)
  refine lv_iload_n hx hb dX5_codeKind_21 rfl (lv_at hl 2 rfl) ?_
  have B18 : ∀  (x19 : Int32) (ls : Array Slot) (H : Heap) (locs : List Loc), (0 ≤ (x19).toInt ∧ (x19).toInt ≤ 1) → hk_W D (jT cI cJ) A s H locs (xw cI cJ ad g lg ar bk) → lv_has ls 4 [(0, .ref (ad 9)), (1, .int y1), (3, .int r5)] → W p l e { frames := 8, cells := 1, slots := 6, locals := 128 } s m args below meth c H locs 0 0 Q (F0 m 30 ls [.int x19, .int z17, .ref (ad 7)]) := by
    intro x19 ls H locs hf_B18_0 hw hl
    refine jx_Vi (As := [.int z17, .int x19]) (rest := []) ⟨hx, hb, hml, hown, hts⟩ hZ hw hA (jx_X2_bit l hlt D t3 cI cJ ad g lg ar bk _ z17 x19 (ob52 ((x19).toInt) hf_B18_0 (hE_rng (x19))) hi_a0rg) (cwV 2 hts (jx_gV wwX_good wX_379 wX_292 wX_293 wX_270 wX_294) rfl rfl rfl (by decide +kernel) ⟨Nat.le_of_ble_eq_true rfl, Nat.le_of_ble_eq_true rfl⟩) 7 (ci := 5) (T := TX2) (N := 9) rfl rfl rfl hl.1 rfl (Nat.le_of_ble_eq_true rfl) dX5_codeKind_30 ⟨Nat.le_of_ble_eq_true rfl, Nat.le_of_ble_eq_true rfl⟩ (fun u20 u21 u22 u23 H locs ce q hp hw h1 h2 h3 => by obtain ⟨ht0, ht1, ht2, rfl, ht4⟩ := hp; exact kt _ _ _ _ _ _ _ _ _ _ _ ⟨ht0, ht1, ht2, rfl, (ob99 ((g 18).toInt) ht4 (hE_rng (g 18)))⟩ hw h1 h2 h3) (fun r24 g25 l26 a27 b28 H locs hp29 hw => ?_)
    obtain ⟨h30, h31, h32, rfl, h34⟩ := hp29
    refine lv_if_ne (tgt := 38) hx hb dX5_codeKind_33 (by decide) (fun cc35 => ?_) (fun cc35 => ?_)
    · refine lv_aload_n hx hb dX5_codeKind_38 rfl (lv_at hl 0 rfl) ?_
      refine hk_get (ci := 8) (C := RX5) (T := TX5) (N := 6) (v := .ref (ad 7)) hx hb hts (fun _ h => List.mem_cons_of_mem _ (wwXc_wsX50 _ h)) hown hw 9 rfl rfl 0 (by decide) (hq _ wX_357) rfl dX5_codeKind_39 ?_
      refine lv_sipush (v := 192) hx hb dX5_codeKind_42 (by decide) ?_
      refine lv_aload_n hx hb dX5_codeKind_45 rfl (lv_at hl 0 rfl) ?_
      have e_g25_24 : g25 24 = (g 24) := (h30 24 rfl)
      refine hk_get (ci := 8) (C := RX5) (T := TX5) (N := 6) (v := .int (g 24)) hx hb hts (fun _ h => List.mem_cons_of_mem _ (wwXc_wsX50 _ h)) hown hw 9 rfl rfl 5 (by decide) (hq _ wX_378) (congrArg (fun z => some (Value.int z)) e_g25_24) dX5_codeKind_46 ?_
      refine lv_iadd hx hb dX5_codeKind_49 (jx_nm fun z36 hz36 => ?_)
      refine lv_iload_n hx hb dX5_codeKind_50 rfl (lv_at hl 1 rfl) ?_
      refine lv_iconst (v := 1) hx hb dX5_codeKind_51 (by decide) ?_
      have B37 : ∀  (x38 : Int32) (ls : Array Slot) (H : Heap) (locs : List Loc), (0 ≤ (x38).toInt ∧ (x38).toInt ≤ 1) → hk_W D (jT cI cJ) A s H locs (xw cI cJ ad g25 l26 a27 bk) → lv_has ls 4 [(0, .ref (ad 9)), (1, .int y1), (3, .int r5)] → W p l e { frames := 8, cells := 1, slots := 6, locals := 128 } s m args below meth c H locs 0 0 Q (F0 m 66 ls [.int x38, .int z36, .ref (ad 7)]) := by
        intro x38 ls H locs hf_B37_0 hw hl
        have e_g25_18 : g25 18 = (g 18) := (h30 18 rfl)
        refine jx_Vi (As := [.int z36, .int x38]) (rest := []) ⟨hx, hb, hml, hown, hts⟩ hZ hw hA (jx_X2_bit l hlt D t3 cI cJ ad g25 l26 a27 bk _ z36 x38 (ob52 ((x38).toInt) hf_B37_0 (hE_rng (x38))) (hk_pE (P := hk_rg 0 255) hi_a0rg (h32 0 rfl))) (cwV 2 hts (jx_gV wwX_good wX_379 wX_292 wX_293 wX_270 wX_294) rfl rfl rfl (by decide +kernel) ⟨Nat.le_of_ble_eq_true rfl, Nat.le_of_ble_eq_true rfl⟩) 7 (ci := 5) (T := TX2) (N := 9) rfl rfl rfl hl.1 rfl (Nat.le_of_ble_eq_true rfl) dX5_codeKind_66 ⟨Nat.le_of_ble_eq_true rfl, Nat.le_of_ble_eq_true rfl⟩ (fun u39 u40 u41 u42 H locs ce q hp hw h1 h2 h3 => by obtain ⟨ht0, ht1, ht2, rfl, ht4⟩ := hp; exact kt _ _ _ _ _ _ _ _ _ _ _ ⟨(hk_frT h30 (by decide) ht0), (hk_frT h31 (by decide) ht1), (hk_frT h32 (by decide) ht2), rfl, (ob67 ((g 18).toInt) ((g25 18).toInt) (congrArg Int32.toInt e_g25_18) ht4 (hE_rng (g 18)) (hE_rng (g25 18)))⟩ hw h1 h2 h3) (fun r43 g44 l45 a46 b47 H locs hp48 hw => ?_)
        obtain ⟨h49, h50, h51, rfl, h53⟩ := hp48
        have hr54 : hk_rg 0 255 (a46 0) := (hk_pE (P := hk_rg 0 255) (hk_pE (P := hk_rg 0 255) hi_a0rg (h32 0 rfl)) (h51 0 rfl))
        refine lv_if_ne (tgt := 74) hx hb dX5_codeKind_69 (by decide) (fun cc55 => ?_) (fun cc55 => ?_)
        · refine lv_aload_n hx hb dX5_codeKind_74 rfl (lv_at hl 0 rfl) ?_
          refine hk_get (ci := 8) (C := RX5) (T := TX5) (N := 6) (v := .ref (ad 7)) hx hb hts (fun _ h => List.mem_cons_of_mem _ (wwXc_wsX50 _ h)) hown hw 9 rfl rfl 0 (by decide) (hq _ wX_357) rfl dX5_codeKind_75 ?_
          refine lv_sipush (v := 204) hx hb dX5_codeKind_78 (by decide) ?_
          refine lv_aload_n hx hb dX5_codeKind_81 rfl (lv_at hl 0 rfl) ?_
          have e_g44_24 : g44 24 = (g 24) := ((h49 24 rfl)).trans e_g25_24
          refine hk_get (ci := 8) (C := RX5) (T := TX5) (N := 6) (v := .int (g 24)) hx hb hts (fun _ h => List.mem_cons_of_mem _ (wwXc_wsX50 _ h)) hown hw 9 rfl rfl 5 (by decide) (hq _ wX_378) (congrArg (fun z => some (Value.int z)) e_g44_24) dX5_codeKind_82 ?_
          refine lv_iadd hx hb dX5_codeKind_85 (jx_nm fun z56 hz56 => ?_)
          refine lv_iload_n hx hb dX5_codeKind_86 rfl (lv_at hl 1 rfl) ?_
          refine lv_iconst (v := 2) hx hb dX5_codeKind_87 (by decide) ?_
          have B57 : ∀  (x58 : Int32) (ls : Array Slot) (H : Heap) (locs : List Loc), (0 ≤ (x58).toInt ∧ (x58).toInt ≤ 1) → hk_W D (jT cI cJ) A s H locs (xw cI cJ ad g44 l45 a46 bk) → lv_has ls 4 [(0, .ref (ad 9)), (1, .int y1), (3, .int r5)] → W p l e { frames := 8, cells := 1, slots := 6, locals := 128 } s m args below meth c H locs 0 0 Q (F0 m 102 ls [.int x58, .int z56, .ref (ad 7)]) := by
            intro x58 ls H locs hf_B57_0 hw hl
            have e_g44_18 : g44 18 = (g 18) := ((h49 18 rfl)).trans e_g25_18
            refine jx_Vi (As := [.int z56, .int x58]) (rest := []) ⟨hx, hb, hml, hown, hts⟩ hZ hw hA (jx_X2_bit l hlt D t3 cI cJ ad g44 l45 a46 bk _ z56 x58 (ob52 ((x58).toInt) hf_B57_0 (hE_rng (x58))) hr54) (cwV 2 hts (jx_gV wwX_good wX_379 wX_292 wX_293 wX_270 wX_294) rfl rfl rfl (by decide +kernel) ⟨Nat.le_of_ble_eq_true rfl, Nat.le_of_ble_eq_true rfl⟩) 7 (ci := 5) (T := TX2) (N := 9) rfl rfl rfl hl.1 rfl (Nat.le_of_ble_eq_true rfl) dX5_codeKind_102 ⟨Nat.le_of_ble_eq_true rfl, Nat.le_of_ble_eq_true rfl⟩ (fun u59 u60 u61 u62 H locs ce q hp hw h1 h2 h3 => by obtain ⟨ht0, ht1, ht2, rfl, ht4⟩ := hp; exact kt _ _ _ _ _ _ _ _ _ _ _ ⟨(hk_frT (hk_frT h30 (by decide) h49) (by decide) ht0), (hk_frT (hk_frT h31 (by decide) h50) (by decide) ht1), (hk_frT (hk_frT h32 (by decide) h51) (by decide) ht2), rfl, (ob100 ((g 18).toInt) ((g25 18).toInt) ((g44 18).toInt) (congrArg Int32.toInt e_g25_18) (congrArg Int32.toInt e_g44_18) ht4 (hE_rng (g 18)) (hE_rng (g25 18)) (hE_rng (g44 18)))⟩ hw h1 h2 h3) (fun r63 g64 l65 a66 b67 H locs hp68 hw => ?_)
            obtain ⟨h69, h70, h71, rfl, h73⟩ := hp68
            refine lv_if_ne (tgt := 149) hx hb dX5_codeKind_105 (by decide) (fun cc74 => ?_) (fun cc74 => ?_)
            · refine lv_aload_n hx hb dX5_codeKind_149 rfl (lv_at hl 0 rfl) ?_
              refine hk_get (ci := 8) (C := RX5) (T := TX5) (N := 6) (v := .ref (ad 7)) hx hb hts (fun _ h => List.mem_cons_of_mem _ (wwXc_wsX50 _ h)) hown hw 9 rfl rfl 0 (by decide) (hq _ wX_357) rfl dX5_codeKind_150 ?_
              refine lv_sipush (v := 216) hx hb dX5_codeKind_153 (by decide) ?_
              refine lv_aload_n hx hb dX5_codeKind_156 rfl (lv_at hl 0 rfl) ?_
              have e_g64_24 : g64 24 = (g 24) := ((h69 24 rfl)).trans e_g44_24
              refine hk_get (ci := 8) (C := RX5) (T := TX5) (N := 6) (v := .int (g 24)) hx hb hts (fun _ h => List.mem_cons_of_mem _ (wwXc_wsX50 _ h)) hown hw 9 rfl rfl 5 (by decide) (hq _ wX_378) (congrArg (fun z => some (Value.int z)) e_g64_24) dX5_codeKind_157 ?_
              refine lv_iadd hx hb dX5_codeKind_160 (jx_nm fun z75 hz75 => ?_)
              refine lv_iload_n hx hb dX5_codeKind_161 rfl (lv_at hl 1 rfl) ?_
              refine lv_iconst (v := 3) hx hb dX5_codeKind_162 (by decide) ?_
              have B76 : ∀  (x77 : Int32) (ls : Array Slot) (H : Heap) (locs : List Loc), (0 ≤ (x77).toInt ∧ (x77).toInt ≤ 1) → hk_W D (jT cI cJ) A s H locs (xw cI cJ ad g64 l65 a66 bk) → lv_has ls 4 [(0, .ref (ad 9)), (1, .int y1)] → W p l e { frames := 8, cells := 1, slots := 6, locals := 128 } s m args below meth c H locs 0 0 Q (F0 m 171 ls [.int x77, .int z75, .ref (ad 7)]) := by
                intro x77 ls H locs hf_B76_0 hw hl
                have e_g64_18 : g64 18 = (g 18) := ((h69 18 rfl)).trans e_g44_18
                refine jx_Vi (As := [.int z75, .int x77]) (rest := []) ⟨hx, hb, hml, hown, hts⟩ hZ hw hA (jx_X2_bit l hlt D t3 cI cJ ad g64 l65 a66 bk _ z75 x77 (ob52 ((x77).toInt) hf_B76_0 (hE_rng (x77))) (hk_pE (P := hk_rg 0 255) hr54 (h71 0 rfl))) (cwV 2 hts (jx_gV wwX_good wX_379 wX_292 wX_293 wX_270 wX_294) rfl rfl rfl (by decide +kernel) ⟨Nat.le_of_ble_eq_true rfl, Nat.le_of_ble_eq_true rfl⟩) 7 (ci := 5) (T := TX2) (N := 9) rfl rfl rfl hl.1 rfl (Nat.le_of_ble_eq_true rfl) dX5_codeKind_171 ⟨Nat.le_of_ble_eq_true rfl, Nat.le_of_ble_eq_true rfl⟩ (fun u78 u79 u80 u81 H locs ce q hp hw h1 h2 h3 => by obtain ⟨ht0, ht1, ht2, rfl, ht4⟩ := hp; exact kt _ _ _ _ _ _ _ _ _ _ _ ⟨(hk_frT (hk_frT (hk_frT h30 (by decide) h49) (by decide) h69) (by decide) ht0), (hk_frT (hk_frT (hk_frT h31 (by decide) h50) (by decide) h70) (by decide) ht1), (hk_frT (hk_frT (hk_frT h32 (by decide) h51) (by decide) h71) (by decide) ht2), rfl, (ob101 ((g 18).toInt) ((g25 18).toInt) ((g44 18).toInt) ((g64 18).toInt) (congrArg Int32.toInt e_g25_18) (congrArg Int32.toInt e_g44_18) (congrArg Int32.toInt e_g64_18) ht4 (hE_rng (g 18)) (hE_rng (g25 18)) (hE_rng (g44 18)) (hE_rng (g64 18)))⟩ hw h1 h2 h3) (fun r82 g83 l84 a85 b86 H locs hp87 hw => ?_)
                obtain ⟨h88, h89, h90, rfl, h92⟩ := hp87
                have hr93 : hk_rg 0 255 (a85 0) := (hk_pE (P := hk_rg 0 255) (hk_pE (P := hk_rg 0 255) hr54 (h71 0 rfl)) (h90 0 rfl))
                refine lv_if_ne (tgt := 179) hx hb dX5_codeKind_174 (by decide) (fun cc94 => ?_) (fun cc94 => ?_)
                · refine lv_aload_n hx hb dX5_codeKind_179 rfl (lv_at hl 0 rfl) ?_
                  refine hk_get (ci := 8) (C := RX5) (T := TX5) (N := 6) (v := .ref (ad 7)) hx hb hts (fun _ h => List.mem_cons_of_mem _ (wwXc_wsX50 _ h)) hown hw 9 rfl rfl 0 (by decide) (hq _ wX_357) rfl dX5_codeKind_180 ?_
                  refine lv_sipush (v := 228) hx hb dX5_codeKind_183 (by decide) ?_
                  refine lv_aload_n hx hb dX5_codeKind_186 rfl (lv_at hl 0 rfl) ?_
                  have e_g83_24 : g83 24 = (g 24) := ((h88 24 rfl)).trans e_g64_24
                  refine hk_get (ci := 8) (C := RX5) (T := TX5) (N := 6) (v := .int (g 24)) hx hb hts (fun _ h => List.mem_cons_of_mem _ (wwXc_wsX50 _ h)) hown hw 9 rfl rfl 5 (by decide) (hq _ wX_378) (congrArg (fun z => some (Value.int z)) e_g83_24) dX5_codeKind_187 ?_
                  refine lv_iadd hx hb dX5_codeKind_190 (jx_nm fun z95 hz95 => ?_)
                  refine lv_iload_n hx hb dX5_codeKind_191 rfl (lv_at hl 1 rfl) ?_
                  refine lv_iconst (v := 4) hx hb dX5_codeKind_192 (by decide) ?_
                  have B96 : ∀  (x97 : Int32) (ls : Array Slot) (H : Heap) (locs : List Loc), (0 ≤ (x97).toInt ∧ (x97).toInt ≤ 1) → hk_W D (jT cI cJ) A s H locs (xw cI cJ ad g83 l84 a85 bk) → lv_has ls 4 [] → W p l e { frames := 8, cells := 1, slots := 6, locals := 128 } s m args below meth c H locs 0 0 Q (F0 m 201 ls [.int x97, .int z95, .ref (ad 7)]) := by
                    intro x97 ls H locs hf_B96_0 hw hl
                    have e_g83_18 : g83 18 = (g 18) := ((h88 18 rfl)).trans e_g64_18
                    refine jx_Vi (As := [.int z95, .int x97]) (rest := []) ⟨hx, hb, hml, hown, hts⟩ hZ hw hA (jx_X2_bit l hlt D t3 cI cJ ad g83 l84 a85 bk _ z95 x97 (ob52 ((x97).toInt) hf_B96_0 (hE_rng (x97))) hr93) (cwV 2 hts (jx_gV wwX_good wX_379 wX_292 wX_293 wX_270 wX_294) rfl rfl rfl (by decide +kernel) ⟨Nat.le_of_ble_eq_true rfl, Nat.le_of_ble_eq_true rfl⟩) 7 (ci := 5) (T := TX2) (N := 9) rfl rfl rfl hl.1 rfl (Nat.le_of_ble_eq_true rfl) dX5_codeKind_201 ⟨Nat.le_of_ble_eq_true rfl, Nat.le_of_ble_eq_true rfl⟩ (fun u98 u99 u100 u101 H locs ce q hp hw h1 h2 h3 => by obtain ⟨ht0, ht1, ht2, rfl, ht4⟩ := hp; exact kt _ _ _ _ _ _ _ _ _ _ _ ⟨(hk_frT (hk_frT (hk_frT (hk_frT h30 (by decide) h49) (by decide) h69) (by decide) h88) (by decide) ht0), (hk_frT (hk_frT (hk_frT (hk_frT h31 (by decide) h50) (by decide) h70) (by decide) h89) (by decide) ht1), (hk_frT (hk_frT (hk_frT (hk_frT h32 (by decide) h51) (by decide) h71) (by decide) h90) (by decide) ht2), rfl, (ob102 ((g 18).toInt) ((g25 18).toInt) ((g44 18).toInt) ((g64 18).toInt) ((g83 18).toInt) (congrArg Int32.toInt e_g25_18) (congrArg Int32.toInt e_g44_18) (congrArg Int32.toInt e_g64_18) (congrArg Int32.toInt e_g83_18) ht4 (hE_rng (g 18)) (hE_rng (g25 18)) (hE_rng (g44 18)) (hE_rng (g64 18)) (hE_rng (g83 18)))⟩ hw h1 h2 h3) (fun r102 g103 l104 a105 b106 H locs hp107 hw => ?_)
                    obtain ⟨h108, h109, h110, rfl, h112⟩ := hp107
                    refine lv_if_ne (tgt := 211) hx hb dX5_codeKind_204 (by decide) (fun cc113 => ?_) (fun cc113 => ?_)
                    · refine lv_iconst (v := 5) hx hb dX5_codeKind_211 (by decide) ?_
                      exact kr 5 g103 l104 a105 bk _ _ _ _ ⟨(hk_frT (hk_frT (hk_frT (hk_frT h30 (by decide) h49) (by decide) h69) (by decide) h88) (by decide) h108), (hk_frT (hk_frT (hk_frT (hk_frT h31 (by decide) h50) (by decide) h70) (by decide) h89) (by decide) h109), (hk_frT (hk_frT (hk_frT (hk_frT h32 (by decide) h51) (by decide) h71) (by decide) h90) (by decide) h110), rfl⟩ hw dX5_codeKind_212
                    · refine lv_iconst (v := 4) hx hb dX5_codeKind_207 (by decide) ?_
                      refine lv_goto (tgt := 212) hx hb dX5_codeKind_208 (by decide) ?_
                      exact kr 4 g103 l104 a105 bk _ _ _ _ ⟨(hk_frT (hk_frT (hk_frT (hk_frT h30 (by decide) h49) (by decide) h69) (by decide) h88) (by decide) h108), (hk_frT (hk_frT (hk_frT (hk_frT h31 (by decide) h50) (by decide) h70) (by decide) h89) (by decide) h109), (hk_frT (hk_frT (hk_frT (hk_frT h32 (by decide) h51) (by decide) h71) (by decide) h90) (by decide) h110), rfl⟩ hw dX5_codeKind_212
                  refine lv_icmp_ne (tgt := 200) hx hb dX5_codeKind_193 (by decide) (fun cc114 => ?_) (fun cc114 => ?_)
                  · refine lv_iconst (v := 1) hx hb dX5_codeKind_200 (by decide) ?_
                    exact B96 1 ls _ _ (ob49 (((1 : Int32)).toInt) (by decide)) hw (lv_sub hl [] rfl)
                  · refine lv_iconst (v := 0) hx hb dX5_codeKind_196 (by decide) ?_
                    refine lv_goto (tgt := 201) hx hb dX5_codeKind_197 (by decide) ?_
                    exact B96 0 ls _ _ (ob103 (((0 : Int32)).toInt) ((z16).toInt) ((z15).toInt) ((r24).toInt) ((r43).toInt) ((r63).toInt) ((r82).toInt) ((z17).toInt) ((r5).toInt) xz16 (hE_ne cc35) (hE_ne cc55) (hE_ne cc74) (hE_ne cc94) (hE_add hz17) h34 h53 h73 h92 (by decide) (hE_rng (z16)) (hE_rng (z15)) (hE_rng (r24)) (hE_rng (r43)) (hE_rng (r63)) (hE_rng (r82)) (hE_rng (z17)) (hE_rng (r5))) hw (lv_sub hl [] rfl)
                · refine lv_iconst (v := 3) hx hb dX5_codeKind_177 (by decide) ?_
                  exact kr 3 g83 l84 a85 bk _ _ _ _ ⟨(hk_frT (hk_frT (hk_frT h30 (by decide) h49) (by decide) h69) (by decide) h88), (hk_frT (hk_frT (hk_frT h31 (by decide) h50) (by decide) h70) (by decide) h89), (hk_frT (hk_frT (hk_frT h32 (by decide) h51) (by decide) h71) (by decide) h90), rfl⟩ hw dX5_codeKind_178
              refine lv_icmp_ne (tgt := 170) hx hb dX5_codeKind_163 (by decide) (fun cc115 => ?_) (fun cc115 => ?_)
              · refine lv_iconst (v := 1) hx hb dX5_codeKind_170 (by decide) ?_
                exact B76 1 ls _ _ (ob49 (((1 : Int32)).toInt) (by decide)) hw (lv_sub hl [0, 1] rfl)
              · refine lv_iconst (v := 0) hx hb dX5_codeKind_166 (by decide) ?_
                refine lv_goto (tgt := 171) hx hb dX5_codeKind_167 (by decide) ?_
                exact B76 0 ls _ _ (ob104 (((0 : Int32)).toInt) ((z16).toInt) ((z15).toInt) ((r24).toInt) ((r43).toInt) ((r63).toInt) ((z17).toInt) ((r5).toInt) xz16 (hE_ne cc35) (hE_ne cc55) (hE_ne cc74) (hE_add hz17) h34 h53 h73 (by decide) (hE_rng (z16)) (hE_rng (z15)) (hE_rng (r24)) (hE_rng (r43)) (hE_rng (r63)) (hE_rng (z17)) (hE_rng (r5))) hw (lv_sub hl [0, 1] rfl)
            · refine lv_aload_n hx hb dX5_codeKind_108 rfl (lv_at hl 0 rfl) ?_
              refine hk_get (ci := 8) (C := RX5) (T := TX5) (N := 6) (v := .ref (ad 7)) hx hb hts (fun _ h => List.mem_cons_of_mem _ (wwXc_wsX50 _ h)) hown hw 9 rfl rfl 0 (by decide) (hq _ wX_357) rfl dX5_codeKind_109 ?_
              refine lv_sipush (v := 240) hx hb dX5_codeKind_112 (by decide) ?_
              refine lv_aload_n hx hb dX5_codeKind_115 rfl (lv_at hl 0 rfl) ?_
              have e_g64_24 : g64 24 = (g 24) := ((h69 24 rfl)).trans e_g44_24
              refine hk_get (ci := 8) (C := RX5) (T := TX5) (N := 6) (v := .int (g 24)) hx hb hts (fun _ h => List.mem_cons_of_mem _ (wwXc_wsX50 _ h)) hown hw 9 rfl rfl 5 (by decide) (hq _ wX_378) (congrArg (fun z => some (Value.int z)) e_g64_24) dX5_codeKind_116 ?_
              refine lv_bipush (v := 16) hx hb dX5_codeKind_119 (by decide) ?_
              refine lv_imul hx hb dX5_codeKind_121 (jx_nm fun z116 hz116 => ?_)
              refine lv_iadd hx hb dX5_codeKind_122 (jx_nm fun z117 hz117 => ?_)
              refine lv_iload_n hx hb dX5_codeKind_123 rfl (lv_at hl 2 rfl) ?_
              refine lv_iadd hx hb dX5_codeKind_124 (jx_nm fun z118 hz118 => ?_)
              refine lv_iload_n hx hb dX5_codeKind_125 rfl (lv_at hl 1 rfl) ?_
              refine lv_bipush (v := 6) hx hb dX5_codeKind_126 (by decide) ?_
              have B119 : ∀  (x120 : Int32) (ls : Array Slot) (H : Heap) (locs : List Loc), (0 ≤ (x120).toInt ∧ (x120).toInt ≤ 1) → hk_W D (jT cI cJ) A s H locs (xw cI cJ ad g64 l65 a66 bk) → lv_has ls 4 [] → W p l e { frames := 8, cells := 1, slots := 6, locals := 128 } s m args below meth c H locs 0 0 Q (F0 m 136 ls [.int x120, .int z118, .ref (ad 7)]) := by
                intro x120 ls H locs hf_B119_0 hw hl
                have e_g64_18 : g64 18 = (g 18) := ((h69 18 rfl)).trans e_g44_18
                refine jx_Vi (As := [.int z118, .int x120]) (rest := []) ⟨hx, hb, hml, hown, hts⟩ hZ hw hA (jx_X2_bit l hlt D t3 cI cJ ad g64 l65 a66 bk _ z118 x120 (ob52 ((x120).toInt) hf_B119_0 (hE_rng (x120))) (hk_pE (P := hk_rg 0 255) hr54 (h71 0 rfl))) (cwV 2 hts (jx_gV wwX_good wX_379 wX_292 wX_293 wX_270 wX_294) rfl rfl rfl (by decide +kernel) ⟨Nat.le_of_ble_eq_true rfl, Nat.le_of_ble_eq_true rfl⟩) 7 (ci := 5) (T := TX2) (N := 9) rfl rfl rfl hl.1 rfl (Nat.le_of_ble_eq_true rfl) dX5_codeKind_136 ⟨Nat.le_of_ble_eq_true rfl, Nat.le_of_ble_eq_true rfl⟩ (fun u121 u122 u123 u124 H locs ce q hp hw h1 h2 h3 => by obtain ⟨ht0, ht1, ht2, rfl, ht4⟩ := hp; exact kt _ _ _ _ _ _ _ _ _ _ _ ⟨(hk_frT (hk_frT (hk_frT h30 (by decide) h49) (by decide) h69) (by decide) ht0), (hk_frT (hk_frT (hk_frT h31 (by decide) h50) (by decide) h70) (by decide) ht1), (hk_frT (hk_frT (hk_frT h32 (by decide) h51) (by decide) h71) (by decide) ht2), rfl, (ob101 ((g 18).toInt) ((g25 18).toInt) ((g44 18).toInt) ((g64 18).toInt) (congrArg Int32.toInt e_g25_18) (congrArg Int32.toInt e_g44_18) (congrArg Int32.toInt e_g64_18) ht4 (hE_rng (g 18)) (hE_rng (g25 18)) (hE_rng (g44 18)) (hE_rng (g64 18)))⟩ hw h1 h2 h3) (fun r125 g126 l127 a128 b129 H locs hp130 hw => ?_)
                obtain ⟨h131, h132, h133, rfl, h135⟩ := hp130
                have hr136 : hk_rg 0 255 (a128 0) := (hk_pE (P := hk_rg 0 255) (hk_pE (P := hk_rg 0 255) hr54 (h71 0 rfl)) (h133 0 rfl))
                refine lv_if_ne (tgt := 147) hx hb dX5_codeKind_139 (by decide) (fun cc137 => ?_) (fun cc137 => ?_)
                · refine lv_iconst (v := 2) hx hb dX5_codeKind_147 (by decide) ?_
                  exact kr 2 g126 l127 a128 bk _ _ _ _ ⟨(hk_frT (hk_frT (hk_frT h30 (by decide) h49) (by decide) h69) (by decide) h131), (hk_frT (hk_frT (hk_frT h31 (by decide) h50) (by decide) h70) (by decide) h132), (hk_frT (hk_frT (hk_frT h32 (by decide) h51) (by decide) h71) (by decide) h133), rfl⟩ hw dX5_codeKind_148
                · refine lv_bipush (v := 6) hx hb dX5_codeKind_142 (by decide) ?_
                  refine lv_goto (tgt := 148) hx hb dX5_codeKind_144 (by decide) ?_
                  exact kr 6 g126 l127 a128 bk _ _ _ _ ⟨(hk_frT (hk_frT (hk_frT h30 (by decide) h49) (by decide) h69) (by decide) h131), (hk_frT (hk_frT (hk_frT h31 (by decide) h50) (by decide) h70) (by decide) h132), (hk_frT (hk_frT (hk_frT h32 (by decide) h51) (by decide) h71) (by decide) h133), rfl⟩ hw dX5_codeKind_148
              refine lv_icmp_ne (tgt := 135) hx hb dX5_codeKind_128 (by decide) (fun cc138 => ?_) (fun cc138 => ?_)
              · refine lv_iconst (v := 1) hx hb dX5_codeKind_135 (by decide) ?_
                exact B119 1 ls _ _ (ob49 (((1 : Int32)).toInt) (by decide)) hw (lv_sub hl [] rfl)
              · refine lv_iconst (v := 0) hx hb dX5_codeKind_131 (by decide) ?_
                refine lv_goto (tgt := 136) hx hb dX5_codeKind_132 (by decide) ?_
                exact B119 0 ls _ _ (ob105 (((0 : Int32)).toInt) ((z16).toInt) ((z15).toInt) ((r24).toInt) ((r43).toInt) ((r63).toInt) ((z17).toInt) ((r5).toInt) ((z118).toInt) ((z117).toInt) (((240 : Int32)).toInt) ((z116).toInt) xz16 (hE_ne cc35) (hE_ne cc55) (hE_eq cc74) (hE_add hz17) h34 h53 h73 (hE_add hz118) (hE_add hz117) (by decide) (hE_rng (z16)) (hE_rng (z15)) (hE_rng (r24)) (hE_rng (r43)) (hE_rng (r63)) (hE_rng (z17)) (hE_rng (r5)) (hE_rng (z118)) (hE_rng (z117)) (by decide) (hE_rng (z116))) hw (lv_sub hl [] rfl)
          have B139 : ∀  (ls : Array Slot) (H : Heap) (locs : List Loc), hk_W D (jT cI cJ) A s H locs (xw cI cJ ad g44 l45 a46 bk) → lv_has ls 4 [(0, .ref (ad 9)), (1, .int y1), (3, .int r5)] → W p l e { frames := 8, cells := 1, slots := 6, locals := 128 } s m args below meth c H locs 0 0 Q (F0 m 97 ls [.int z56, .ref (ad 7)]) := by
            intro ls H locs hw hl
            refine lv_iconst (v := 0) hx hb dX5_codeKind_97 (by decide) ?_
            refine lv_goto (tgt := 102) hx hb dX5_codeKind_98 (by decide) ?_
            exact B57 0 ls _ _ (ob106 (((0 : Int32)).toInt) ((z16).toInt) ((z15).toInt) ((r24).toInt) ((r43).toInt) ((z17).toInt) ((r5).toInt) xz16 (hE_ne cc35) (hE_ne cc55) (hE_add hz17) h34 h53 (by decide) (hE_rng (z16)) (hE_rng (z15)) (hE_rng (r24)) (hE_rng (r43)) (hE_rng (z17)) (hE_rng (r5))) hw (lv_sub hl [0, 1, 2] rfl)
          refine lv_icmp_eq (tgt := 97) hx hb dX5_codeKind_88 (by decide) (fun cc140 => ?_) (fun cc140 => ?_)
          · exact B139 ls _ _ hw (lv_sub hl [0, 1, 2] rfl)
          · refine lv_iload_n hx hb dX5_codeKind_91 rfl (lv_at hl 1 rfl) ?_
            refine lv_bipush (v := 6) hx hb dX5_codeKind_92 (by decide) ?_
            refine lv_icmp_ne (tgt := 101) hx hb dX5_codeKind_94 (by decide) (fun cc141 => ?_) (fun cc141 => ?_)
            · refine lv_iconst (v := 1) hx hb dX5_codeKind_101 (by decide) ?_
              exact B57 1 ls _ _ (ob49 (((1 : Int32)).toInt) (by decide)) hw (lv_sub hl [0, 1, 2] rfl)
            · exact B139 ls _ _ hw (lv_sub hl [0, 1, 2] rfl)
        · refine lv_iconst (v := 1) hx hb dX5_codeKind_72 (by decide) ?_
          exact kr 1 g44 l45 a46 bk _ _ _ _ ⟨(hk_frT h30 (by decide) h49), (hk_frT h31 (by decide) h50), (hk_frT h32 (by decide) h51), rfl⟩ hw dX5_codeKind_73
      have B142 : ∀  (ls : Array Slot) (H : Heap) (locs : List Loc), hk_W D (jT cI cJ) A s H locs (xw cI cJ ad g25 l26 a27 bk) → lv_has ls 4 [(0, .ref (ad 9)), (1, .int y1), (3, .int r5)] → W p l e { frames := 8, cells := 1, slots := 6, locals := 128 } s m args below meth c H locs 0 0 Q (F0 m 61 ls [.int z36, .ref (ad 7)]) := by
        intro ls H locs hw hl
        refine lv_iconst (v := 0) hx hb dX5_codeKind_61 (by decide) ?_
        refine lv_goto (tgt := 66) hx hb dX5_codeKind_62 (by decide) ?_
        exact B37 0 ls _ _ (ob107 (((0 : Int32)).toInt) ((z16).toInt) ((z15).toInt) ((r24).toInt) ((z17).toInt) ((r5).toInt) xz16 (hE_ne cc35) (hE_add hz17) h34 (by decide) (hE_rng (z16)) (hE_rng (z15)) (hE_rng (r24)) (hE_rng (z17)) (hE_rng (r5))) hw (lv_sub hl [0, 1, 2] rfl)
      refine lv_icmp_eq (tgt := 61) hx hb dX5_codeKind_52 (by decide) (fun cc143 => ?_) (fun cc143 => ?_)
      · exact B142 ls _ _ hw (lv_sub hl [0, 1, 2] rfl)
      · refine lv_iload_n hx hb dX5_codeKind_55 rfl (lv_at hl 1 rfl) ?_
        refine lv_bipush (v := 7) hx hb dX5_codeKind_56 (by decide) ?_
        refine lv_icmp_ne (tgt := 65) hx hb dX5_codeKind_58 (by decide) (fun cc144 => ?_) (fun cc144 => ?_)
        · refine lv_iconst (v := 1) hx hb dX5_codeKind_65 (by decide) ?_
          exact B37 1 ls _ _ (ob108 (((1 : Int32)).toInt) ((y1).toInt) (((7 : Int32)).toInt) (hE_ne cc143) (hE_ne cc144) (by decide) (hE_rng (y1)) (by decide)) hw (lv_sub hl [0, 1, 2] rfl)
        · exact B142 ls _ _ hw (lv_sub hl [0, 1, 2] rfl)
    · refine lv_iconst (v := 0) hx hb dX5_codeKind_36 (by decide) ?_
      exact kr 0 g25 l26 a27 bk _ _ _ _ ⟨h30, h31, h32, rfl⟩ hw dX5_codeKind_37
  refine lv_if_ne (tgt := 29) hx hb dX5_codeKind_22 (by decide) (fun cc145 => ?_) (fun cc145 => ?_)
  · refine lv_iconst (v := 1) hx hb dX5_codeKind_29 (by decide) ?_
    exact B18 1 ls _ _ (ob49 (((1 : Int32)).toInt) (by decide)) hw (lv_sub hl [1, 2, 0] rfl)
  · refine lv_iconst (v := 0) hx hb dX5_codeKind_25 (by decide) ?_
    refine lv_goto (tgt := 30) hx hb dX5_codeKind_26 (by decide) ?_
    exact B18 0 ls _ _ (ob109 (((0 : Int32)).toInt) ((z16).toInt) ((z15).toInt) ((y1).toInt) ((z17).toInt) ((r5).toInt) xz16 (hE_eq cc145) (hE_add hz17) (by decide) (hE_rng (z16)) (hE_rng (z15)) (hE_rng (y1)) (hE_rng (z17)) (hE_rng (r5))) hw (lv_sub hl [1, 2, 0] rfl)

set_option maxHeartbeats 4000000 in
set_option maxRecDepth 100000 in
/-- X5_codeMatch on (9,) -/
theorem jx_X5_codeMatch (l : Launch) (hlt : l.stackTraces = false) (D : va_G) (t3 : Nat × Nat × Nat) (cI cJ : ClassId) (ad : Nat → Nat) (g : Nat → Int32) (lg : Nat → Int64) (ar : Nat → Nat → Int32) (bk : Nat → Int64) (sz : Nat) (y1 : Int32) (hi_a0rg : hk_rg 0 255 (ar 0)) : JMi l yX5_codeMatch (Cond.code yX5_codeMatch cX5_codeMatch 2 (some .boolean) :: wwX) { frames := 8, cells := 1, slots := 6, locals := 128 } t3 D xw cI cJ ad [.ref (ad 9), .int y1] (xw cI cJ ad g lg ar bk) sz 1 6 (fun (r : Int32) g' lg' ar' bk' => hk_fr [14, 15, 17, 19, 20] g g' ∧ hk_fr [0, 1, 2] lg lg' ∧ hk_fr [1, 2] ar ar' ∧ bk = bk') (fun g' lg' ar' bk' => hk_fr [14, 15, 17, 19, 20] g g' ∧ hk_fr [0, 1, 2] lg lg' ∧ hk_fr [1, 2] ar ar' ∧ bk = bk' ∧ ((g 18).toInt ≠ 0)) := by
  refine jx_metz (cc := cX5_codeMatch) (maxL := 2) (ret := (some .boolean)) rfl (by decide) rfl (Nat.le_of_ble_eq_true rfl) ?_
  intro p e s m args below meth c ls Q A hx hb hml hown hts hA hZ hw hl hQ kr kt
  have hq : ∀ w ∈ wwX, w.before args s = true := fun w h => hts w (List.mem_cons_of_mem _ h)
  have hl : lv_has ls 2 [(0, .ref (ad 9)), (1, .int y1)] := hl
  refine lv_aload_n hx hb dX5_codeMatch_0 rfl (lv_at hl 0 rfl) ?_
  refine hk_get (ci := 8) (C := RX5) (T := TX5) (N := 6) (v := .ref (ad 7)) hx hb hts (fun _ h => List.mem_cons_of_mem _ (wwXc_wsX50 _ h)) hown hw 9 rfl rfl 0 (by decide) (hq _ wX_357) rfl dX5_codeMatch_1 ?_
  refine lv_iconst (v := 0) hx hb dX5_codeMatch_4 (by decide) ?_
  refine lv_aload_n hx hb dX5_codeMatch_5 rfl (lv_at hl 0 rfl) ?_
  refine hk_get (ci := 8) (C := RX5) (T := TX5) (N := 6) (v := .int (g 24)) hx hb hts (fun _ h => List.mem_cons_of_mem _ (wwXc_wsX50 _ h)) hown hw 9 rfl rfl 5 (by decide) (hq _ wX_378) rfl dX5_codeMatch_6 ?_
  refine lv_bipush (v := 16) hx hb dX5_codeMatch_9 (by decide) ?_
  refine lv_imul hx hb dX5_codeMatch_11 (jx_nm fun z1 hz1 => ?_)
  refine lv_iadd hx hb dX5_codeMatch_12 (jx_nm fun z2 hz2 => ?_)
  have xz2 : (z2).toInt = ((0 : Int32)).toInt + (z1).toInt := (hE_imp (hE_add hz2) (ob98 (((0 : Int32)).toInt) ((z1).toInt) (by decide) (hE_rng (z1))))
  refine lv_aload_n hx hb dX5_codeMatch_13 rfl (lv_at hl 0 rfl) ?_
  refine lv_iload_n hx hb dX5_codeMatch_14 rfl (lv_at hl 1 rfl) ?_
  refine jx_Vi (As := [.int y1]) (rest := [.int z2, .ref (ad 7)]) ⟨hx, hb, hml, hown, hts⟩ hZ hw hA (jx_X5_turnOf l hlt D t3 cI cJ ad g lg ar bk _ y1) (cwV 1 hts (jx_gV wwX_good wX_374 wX_375 wX_376 wX_215 wX_377) rfl rfl rfl (by decide +kernel) ⟨Nat.le_of_ble_eq_true rfl, Nat.le_of_ble_eq_true rfl⟩) 9 (ci := 8) (T := TX5) (N := 6) rfl rfl rfl hl.1 rfl (Nat.le_of_ble_eq_true rfl) dX5_codeMatch_15 ⟨Nat.le_of_ble_eq_true rfl, Nat.le_of_ble_eq_true rfl⟩ (fun _ _ _ _ _ _ _ _ hp _ _ _ _ => hp.elim) (fun r7 g8 l9 a10 b11 H locs hp12 hw => ?_)
  obtain ⟨rfl, rfl, rfl, rfl⟩ := hp12
  refine lv_iadd hx hb dX5_codeMatch_18 (jx_nm fun z17 hz17 => ?_)
  refine lv_iconst (v := 1) hx hb dX5_codeMatch_19 (by decide) ?_
  refine jx_Vi (As := [.int z17, .int 1]) (rest := []) ⟨hx, hb, hml, hown, hts⟩ hZ hw hA (jx_X2_bit l hlt D t3 cI cJ ad g lg ar bk _ z17 1 (ob49 (((1 : Int32)).toInt) (by decide)) hi_a0rg) (cwV 2 hts (jx_gV wwX_good wX_379 wX_292 wX_293 wX_270 wX_294) rfl rfl rfl (by decide +kernel) ⟨Nat.le_of_ble_eq_true rfl, Nat.le_of_ble_eq_true rfl⟩) 7 (ci := 5) (T := TX2) (N := 9) rfl rfl rfl hl.1 rfl (Nat.le_of_ble_eq_true rfl) dX5_codeMatch_20 ⟨Nat.le_of_ble_eq_true rfl, Nat.le_of_ble_eq_true rfl⟩ (fun u18 u19 u20 u21 H locs ce q hp hw h1 h2 h3 => by obtain ⟨ht0, ht1, ht2, rfl, ht4⟩ := hp; exact kt _ _ _ _ _ _ _ _ _ _ _ ⟨ht0, ht1, ht2, rfl, (ob99 ((g 18).toInt) ht4 (hE_rng (g 18)))⟩ hw h1 h2 h3) (fun r22 g23 l24 a25 b26 H locs hp27 hw => ?_)
  obtain ⟨h28, h29, h30, rfl, h32⟩ := hp27
  refine lv_iconst (v := 1) hx hb dX5_codeMatch_23 (by decide) ?_
  refine lv_icmp_ne (tgt := 50) hx hb dX5_codeMatch_24 (by decide) (fun cc33 => ?_) (fun cc33 => ?_)
  · refine lv_iconst (v := 0) hx hb dX5_codeMatch_50 (by decide) ?_
    exact kr 0 g23 l24 a25 bk _ _ _ _ rfl ⟨h28, h29, h30, rfl⟩ hw dX5_codeMatch_51
  · refine lv_aload_n hx hb dX5_codeMatch_27 rfl (lv_at hl 0 rfl) ?_
    refine hk_get (ci := 8) (C := RX5) (T := TX5) (N := 6) (v := .ref (ad 7)) hx hb hts (fun _ h => List.mem_cons_of_mem _ (wwXc_wsX50 _ h)) hown hw 9 rfl rfl 0 (by decide) (hq _ wX_357) rfl dX5_codeMatch_28 ?_
    refine lv_sipush (v := 192) hx hb dX5_codeMatch_31 (by decide) ?_
    refine lv_aload_n hx hb dX5_codeMatch_34 rfl (lv_at hl 0 rfl) ?_
    have e_g23_24 : g23 24 = (g 24) := (h28 24 rfl)
    refine hk_get (ci := 8) (C := RX5) (T := TX5) (N := 6) (v := .int (g 24)) hx hb hts (fun _ h => List.mem_cons_of_mem _ (wwXc_wsX50 _ h)) hown hw 9 rfl rfl 5 (by decide) (hq _ wX_378) (congrArg (fun z => some (Value.int z)) e_g23_24) dX5_codeMatch_35 ?_
    refine lv_iadd hx hb dX5_codeMatch_38 (jx_nm fun z34 hz34 => ?_)
    refine lv_iconst (v := 0) hx hb dX5_codeMatch_39 (by decide) ?_
    have e_g23_18 : g23 18 = (g 18) := (h28 18 rfl)
    refine jx_Vi (As := [.int z34, .int 0]) (rest := []) ⟨hx, hb, hml, hown, hts⟩ hZ hw hA (jx_X2_bit l hlt D t3 cI cJ ad g23 l24 a25 bk _ z34 0 (ob110 (((0 : Int32)).toInt) ((z2).toInt) ((z1).toInt) ((z17).toInt) ((r7).toInt) xz2 (hE_add hz17) (by decide) (hE_rng (z2)) (hE_rng (z1)) (hE_rng (z17)) (hE_rng (r7))) (hk_pE (P := hk_rg 0 255) hi_a0rg (h30 0 rfl))) (cwV 2 hts (jx_gV wwX_good wX_379 wX_292 wX_293 wX_270 wX_294) rfl rfl rfl (by decide +kernel) ⟨Nat.le_of_ble_eq_true rfl, Nat.le_of_ble_eq_true rfl⟩) 7 (ci := 5) (T := TX2) (N := 9) rfl rfl rfl hl.1 rfl (Nat.le_of_ble_eq_true rfl) dX5_codeMatch_40 ⟨Nat.le_of_ble_eq_true rfl, Nat.le_of_ble_eq_true rfl⟩ (fun u35 u36 u37 u38 H locs ce q hp hw h1 h2 h3 => by obtain ⟨ht0, ht1, ht2, rfl, ht4⟩ := hp; exact kt _ _ _ _ _ _ _ _ _ _ _ ⟨(hk_frT h28 (by decide) ht0), (hk_frT h29 (by decide) ht1), (hk_frT h30 (by decide) ht2), rfl, (ob67 ((g 18).toInt) ((g23 18).toInt) (congrArg Int32.toInt e_g23_18) ht4 (hE_rng (g 18)) (hE_rng (g23 18)))⟩ hw h1 h2 h3) (fun r39 g40 l41 a42 b43 H locs hp44 hw => ?_)
    obtain ⟨h45, h46, h47, rfl, h49⟩ := hp44
    have hr50 : hk_rg 0 255 (a42 0) := (hk_pE (P := hk_rg 0 255) (hk_pE (P := hk_rg 0 255) hi_a0rg (h30 0 rfl)) (h47 0 rfl))
    refine lv_if_ne (tgt := 50) hx hb dX5_codeMatch_43 (by decide) (fun cc51 => ?_) (fun cc51 => ?_)
    · refine lv_iconst (v := 0) hx hb dX5_codeMatch_50 (by decide) ?_
      exact kr 0 g40 l41 a42 bk _ _ _ _ rfl ⟨(hk_frT h28 (by decide) h45), (hk_frT h29 (by decide) h46), (hk_frT h30 (by decide) h47), rfl⟩ hw dX5_codeMatch_51
    · refine lv_iconst (v := 1) hx hb dX5_codeMatch_46 (by decide) ?_
      refine lv_goto (tgt := 51) hx hb dX5_codeMatch_47 (by decide) ?_
      exact kr 1 g40 l41 a42 bk _ _ _ _ rfl ⟨(hk_frT h28 (by decide) h45), (hk_frT h29 (by decide) h46), (hk_frT h30 (by decide) h47), rfl⟩ hw dX5_codeMatch_51

set_option maxHeartbeats 4000000 in
set_option maxRecDepth 100000 in
/-- X5_codeLiteral on (9,) -/
theorem jx_X5_codeLiteral (l : Launch) (hlt : l.stackTraces = false) (D : va_G) (t3 : Nat × Nat × Nat) (cI cJ : ClassId) (ad : Nat → Nat) (g : Nat → Int32) (lg : Nat → Int64) (ar : Nat → Nat → Int32) (bk : Nat → Int64) (sz : Nat) (y1 : Int32) (y2 : Int32) (y3 : Int32) (y4 : Int32) (hi_a0rg : hk_rg 0 255 (ar 0)) : JMi l yX5_codeLiteral (Cond.code yX5_codeLiteral cX5_codeLiteral 13 (some .int) :: wwX) { frames := 8, cells := 1, slots := 6, locals := 128 } t3 D xw cI cJ ad [.ref (ad 9), .int y1, .int y2, .int y3, .int y4] (xw cI cJ ad g lg ar bk) sz 1 6 (fun (r : Int32) g' lg' ar' bk' => hk_fr [14, 15, 17, 19, 20] g g' ∧ hk_fr [0, 1, 2] lg lg' ∧ hk_fr [1, 2] ar ar' ∧ bk = bk') (fun g' lg' ar' bk' => hk_fr [14, 15, 17, 19, 20] g g' ∧ hk_fr [0, 1, 2] lg lg' ∧ hk_fr [1, 2] ar ar' ∧ bk = bk' ∧ ((g 18).toInt ≠ 0)) := by
  refine jx_meti (cc := cX5_codeLiteral) (maxL := 13) (ret := (some .int)) rfl (by decide) rfl (Nat.le_of_ble_eq_true rfl) ?_
  intro p e s m args below meth c ls Q A hx hb hml hown hts hA hZ hw hl hQ kr kt
  have hq : ∀ w ∈ wwX, w.before args s = true := fun w h => hts w (List.mem_cons_of_mem _ h)
  have hl : lv_has ls 13 [(0, .ref (ad 9)), (1, .int y1), (2, .int y2), (3, .int y3), (4, .int y4)] := hl
  refine lv_iload_n hx hb dX5_codeLiteral_0 rfl (lv_at hl 2 rfl) ?_
  refine lv_iconst (v := 1) hx hb dX5_codeLiteral_1 (by decide) ?_
  refine lv_aload_n hx hb dX5_codeLiteral_2 rfl (lv_at hl 0 rfl) ?_
  refine hk_get (ci := 8) (C := RX5) (T := TX5) (N := 6) (v := .int (g 22)) hx hb hts (fun _ h => List.mem_cons_of_mem _ (wwXc_wsX50 _ h)) hown hw 9 rfl rfl 3 (by decide) (hq _ wX_380) rfl dX5_codeLiteral_3 ?_
  refine lv_ishl hx hb dX5_codeLiteral_6 (jx_nm fun z1 hz1 => ?_)
  refine lv_iconst (v := 1) hx hb dX5_codeLiteral_7 (by decide) ?_
  refine lv_isub hx hb dX5_codeLiteral_8 (jx_nm fun z2 hz2 => ?_)
  refine lv_iand hx hb dX5_codeLiteral_9 (jx_nm fun z3 hz3 => ?_)
  refine lv_aload_n hx hb dX5_codeLiteral_10 rfl (lv_at hl 0 rfl) ?_
  refine hk_get (ci := 8) (C := RX5) (T := TX5) (N := 6) (v := .int (g 21)) hx hb hts (fun _ h => List.mem_cons_of_mem _ (wwXc_wsX50 _ h)) hown hw 9 rfl rfl 2 (by decide) (hq _ wX_381) rfl dX5_codeLiteral_11 ?_
  refine lv_ishl hx hb dX5_codeLiteral_14 (jx_nm fun z4 hz4 => ?_)
  refine lv_iload_n hx hb dX5_codeLiteral_15 rfl (lv_at hl 3 rfl) ?_
  refine lv_bipush (v := 8) hx hb dX5_codeLiteral_16 (by decide) ?_
  refine lv_aload_n hx hb dX5_codeLiteral_18 rfl (lv_at hl 0 rfl) ?_
  refine hk_get (ci := 8) (C := RX5) (T := TX5) (N := 6) (v := .int (g 21)) hx hb hts (fun _ h => List.mem_cons_of_mem _ (wwXc_wsX50 _ h)) hown hw 9 rfl rfl 2 (by decide) (hq _ wX_381) rfl dX5_codeLiteral_19 ?_
  refine lv_isub hx hb dX5_codeLiteral_22 (jx_nm fun z5 hz5 => ?_)
  refine lv_ishr hx hb dX5_codeLiteral_23 (jx_nm fun z6 hz6 => ?_)
  refine lv_iadd hx hb dX5_codeLiteral_24 (jx_nm fun z7 hz7 => ?_)
  refine lv_istore (lv' := [(5, .int z7), (0, .ref (ad 9)), (1, .int y1), (2, .int y2), (3, .int y3), (4, .int y4)]) hx hb dX5_codeLiteral_25 hl (by decide) rfl (fun ls hl => ?_)
  refine lv_sipush (v := 2052) hx hb dX5_codeLiteral_27 (by decide) ?_
  refine lv_sipush (v := 768) hx hb dX5_codeLiteral_30 (by decide) ?_
  refine lv_iload hx hb dX5_codeLiteral_33 (lv_at hl 0 rfl) ?_
  refine lv_imul hx hb dX5_codeLiteral_35 (jx_nm fun z8 hz8 => ?_)
  refine lv_iadd hx hb dX5_codeLiteral_36 (jx_nm fun z9 hz9 => ?_)
  refine lv_istore (lv' := [(6, .int z9), (5, .int z7), (0, .ref (ad 9)), (1, .int y1), (2, .int y2), (3, .int y3), (4, .int y4)]) hx hb dX5_codeLiteral_37 hl (by decide) rfl (fun ls hl => ?_)
  refine lv_aload_n hx hb dX5_codeLiteral_39 rfl (lv_at hl 2 rfl) ?_
  refine hk_get (ci := 8) (C := RX5) (T := TX5) (N := 6) (v := .int (g 24)) hx hb hts (fun _ h => List.mem_cons_of_mem _ (wwXc_wsX50 _ h)) hown hw 9 rfl rfl 5 (by decide) (hq _ wX_378) rfl dX5_codeLiteral_40 ?_
  refine lv_bipush (v := 7) hx hb dX5_codeLiteral_43 (by decide) ?_
  have B10 : ∀  (x11 : Int32) (ls : Array Slot) (H : Heap) (locs : List Loc), (0 ≤ (x11).toInt ∧ (x11).toInt ≤ 1) → hk_W D (jT cI cJ) A s H locs (xw cI cJ ad g lg ar bk) → lv_has ls 13 [(0, .ref (ad 9)), (1, .int y1), (4, .int y4), (6, .int z9)] → W p l e { frames := 8, cells := 1, slots := 6, locals := 128 } s m args below meth c H locs 0 0 Q (F0 m 53 ls [.int x11]) := by
    intro x11 ls H locs hf_B10_0 hw hl
    refine lv_istore (lv' := [(7, .int x11), (0, .ref (ad 9)), (1, .int y1), (4, .int y4), (6, .int z9)]) hx hb dX5_codeLiteral_53 hl (by decide) rfl (fun ls hl => ?_)
    refine lv_iconst (v := 1) hx hb dX5_codeLiteral_55 (by decide) ?_
    refine lv_istore (lv' := [(8, .int 1), (7, .int x11), (0, .ref (ad 9)), (1, .int y1), (4, .int y4), (6, .int z9)]) hx hb dX5_codeLiteral_56 hl (by decide) rfl (fun ls hl => ?_)
    refine lv_bipush (v := 7) hx hb dX5_codeLiteral_58 (by decide) ?_
    refine lv_istore (lv' := [(9, .int 7), (8, .int 1), (7, .int x11), (0, .ref (ad 9)), (1, .int y1), (4, .int y4), (6, .int z9)]) hx hb dX5_codeLiteral_60 hl (by decide) rfl (fun ls hl => ?_)
    have B12 : ∀ (k19 : Nat) (x13 : Int32) (x14 : Int32) (x15 : Int32) (g16 : Nat → Int32) (l17 : Nat → Int64) (a18 : Nat → Nat → Int32) (ls : Array Slot) (H : Heap) (locs : List Loc), ((x15).toInt + 2147483649 ≤ (k19 : Int)) → ((x15).toInt ≤ 7) → (hk_fr [14, 15, 17, 19, 20] g g16) → (hk_fr [0, 1, 2] lg l17) → (hk_fr [1, 2] ar a18) → hk_W D (jT cI cJ) A s H locs (xw cI cJ ad g16 l17 a18 bk) → lv_has ls 13 [(0, .ref (ad 9)), (1, .int y1), (4, .int y4), (6, .int z9), (7, .int x13), (8, .int x14), (9, .int x15)] → W p l e { frames := 8, cells := 1, slots := 6, locals := 128 } s m args below meth c H locs 0 0 Q (F0 m 62 ls []) := by
      intro k19
      induction k19 with
      | zero =>
        intro x13 x14 x15 g16 l17 a18 ls H locs hrk_B12 hf_B12_0 hfr_g16 hfr_l17 hfr_a18 hw hl
        exact False.elim (hk_no0 (0 * (x15).toInt) (ob111 ((x15).toInt) hf_B12_0 hrk_B12 (hE_rng (x15))) (by simp))
      | succ k19 ih_B12 =>
        intro x13 x14 x15 g16 l17 a18 ls H locs hrk_B12 hf_B12_0 hfr_g16 hfr_l17 hfr_a18 hw hl
        have hrk_B12 := hk_rk hrk_B12
        refine lv_iload hx hb dX5_codeLiteral_62 (lv_at hl 6 rfl) ?_
        refine lv_if_lt (tgt := 157) hx hb dX5_codeLiteral_64 (by decide) (fun cc20 => ?_) (fun cc20 => ?_)
        · refine lv_iload hx hb dX5_codeLiteral_157 (lv_at hl 5 rfl) ?_
          refine lv_sipush (v := 255) hx hb dX5_codeLiteral_159 (by decide) ?_
          refine lv_iand hx hb dX5_codeLiteral_162 (jx_nm fun z21 hz21 => ?_)
          exact kr z21 g16 l17 a18 bk _ _ _ _ ⟨hfr_g16, hfr_l17, hfr_a18, rfl⟩ hw dX5_codeLiteral_163
        · refine lv_iload hx hb dX5_codeLiteral_67 (lv_at hl 2 rfl) ?_
          refine lv_iload hx hb dX5_codeLiteral_69 (lv_at hl 6 rfl) ?_
          refine lv_ishr hx hb dX5_codeLiteral_71 (jx_nm fun z22 hz22 => ?_)
          refine lv_iconst (v := 1) hx hb dX5_codeLiteral_72 (by decide) ?_
          refine lv_iand hx hb dX5_codeLiteral_73 (jx_nm fun z23 hz23 => ?_)
          refine lv_istore (lv' := [(10, .int z23), (0, .ref (ad 9)), (1, .int y1), (4, .int y4), (6, .int z9), (7, .int x13), (8, .int x14), (9, .int x15)]) hx hb dX5_codeLiteral_74 hl (by decide) rfl (fun ls hl => ?_)
          refine lv_iload hx hb dX5_codeLiteral_76 (lv_at hl 5 rfl) ?_
          have B24 : ∀  (x25 : Int32) (ls : Array Slot) (H : Heap) (locs : List Loc), hk_W D (jT cI cJ) A s H locs (xw cI cJ ad g16 l17 a18 bk) → lv_has ls 13 [(0, .ref (ad 9)), (1, .int y1), (4, .int y4), (6, .int z9), (7, .int x13), (8, .int x14), (9, .int x15), (10, .int z23)] → W p l e { frames := 8, cells := 1, slots := 6, locals := 128 } s m args below meth c H locs 0 0 Q (F0 m 104 ls [.int x25]) := by
            intro x25 ls H locs hw hl
            refine lv_istore (lv' := [(11, .int x25), (0, .ref (ad 9)), (1, .int y1), (4, .int y4), (6, .int z9), (7, .int x13), (8, .int x14), (9, .int x15), (10, .int z23)]) hx hb dX5_codeLiteral_104 hl (by decide) rfl (fun ls hl => ?_)
            refine lv_aload_n hx hb dX5_codeLiteral_106 rfl (lv_at hl 1 rfl) ?_
            refine hk_get (ci := 8) (C := RX5) (T := TX5) (N := 6) (v := .ref (ad 7)) hx hb hts (fun _ h => List.mem_cons_of_mem _ (wwXc_wsX50 _ h)) hown hw 9 rfl rfl 0 (by decide) (hq _ wX_357) rfl dX5_codeLiteral_107 ?_
            refine lv_iload hx hb dX5_codeLiteral_110 (lv_at hl 0 rfl) ?_
            refine lv_iload_n hx hb dX5_codeLiteral_112 rfl (lv_at hl 2 rfl) ?_
            refine lv_iload hx hb dX5_codeLiteral_113 (lv_at hl 7 rfl) ?_
            refine lv_ishr hx hb dX5_codeLiteral_115 (jx_nm fun z26 hz26 => ?_)
            refine lv_iconst (v := 1) hx hb dX5_codeLiteral_116 (by decide) ?_
            refine lv_iand hx hb dX5_codeLiteral_117 (jx_nm fun z27 hz27 => ?_)
            have e_g16_18 : g16 18 = (g 18) := (hfr_g16 18 rfl)
            refine jx_Vi (As := [.int x25, .int z27]) (rest := []) ⟨hx, hb, hml, hown, hts⟩ hZ hw hA (jx_X2_bit l hlt D t3 cI cJ ad g16 l17 a18 bk _ x25 z27 (ob66 ((z27).toInt) ((z26).toInt) (hE_and 1 2 hz27 (by decide) (by decide) (by decide)) (hE_rng (z27)) (hE_rng (z26))) (hk_pE (P := hk_rg 0 255) hi_a0rg (hfr_a18 0 rfl))) (cwV 2 hts (jx_gV wwX_good wX_379 wX_292 wX_293 wX_270 wX_294) rfl rfl rfl (by decide +kernel) ⟨Nat.le_of_ble_eq_true rfl, Nat.le_of_ble_eq_true rfl⟩) 7 (ci := 5) (T := TX2) (N := 9) rfl rfl rfl hl.1 rfl (Nat.le_of_ble_eq_true rfl) dX5_codeLiteral_118 ⟨Nat.le_of_ble_eq_true rfl, Nat.le_of_ble_eq_true rfl⟩ (fun u28 u29 u30 u31 H locs ce q hp hw h1 h2 h3 => by obtain ⟨ht0, ht1, ht2, rfl, ht4⟩ := hp; exact kt _ _ _ _ _ _ _ _ _ _ _ ⟨(hk_frT hfr_g16 (by decide) ht0), (hk_frT hfr_l17 (by decide) ht1), (hk_frT hfr_a18 (by decide) ht2), rfl, (ob67 ((g 18).toInt) ((g16 18).toInt) (congrArg Int32.toInt e_g16_18) ht4 (hE_rng (g 18)) (hE_rng (g16 18)))⟩ hw h1 h2 h3) (fun r32 g33 l34 a35 b36 H locs hp37 hw => ?_)
            obtain ⟨h38, h39, h40, rfl, h42⟩ := hp37
            have hr43 : hk_rg 0 255 (a35 0) := (hk_pE (P := hk_rg 0 255) (hk_pE (P := hk_rg 0 255) hi_a0rg (hfr_a18 0 rfl)) (h40 0 rfl))
            refine lv_istore (lv' := [(12, .int r32), (11, .int x25), (0, .ref (ad 9)), (1, .int y1), (4, .int y4), (6, .int z9), (7, .int x13), (8, .int x14), (9, .int x15), (10, .int z23)]) hx hb dX5_codeLiteral_121 hl (by decide) rfl (fun ls hl => ?_)
            refine lv_iload hx hb dX5_codeLiteral_123 (lv_at hl 7 rfl) ?_
            refine lv_iconst (v := 1) hx hb dX5_codeLiteral_125 (by decide) ?_
            refine lv_ishl hx hb dX5_codeLiteral_126 (jx_nm fun z44 hz44 => ?_)
            refine lv_iload hx hb dX5_codeLiteral_127 (lv_at hl 0 rfl) ?_
            refine lv_ior hx hb dX5_codeLiteral_129 (jx_nm fun z45 hz45 => ?_)
            refine lv_istore (lv' := [(8, .int z45), (12, .int r32), (11, .int x25), (0, .ref (ad 9)), (1, .int y1), (4, .int y4), (6, .int z9), (7, .int x13), (9, .int x15), (10, .int z23)]) hx hb dX5_codeLiteral_130 hl (by decide) rfl (fun ls hl => ?_)
            refine lv_iload hx hb dX5_codeLiteral_132 (lv_at hl 7 rfl) ?_
            have B46 : ∀  (x47 : Int32) (ls : Array Slot) (H : Heap) (locs : List Loc), (0 ≤ (x47).toInt ∧ (x47).toInt ≤ 1) → hk_W D (jT cI cJ) A s H locs (xw cI cJ ad g33 l34 a35 bk) → lv_has ls 13 [(0, .ref (ad 9)), (1, .int y1), (4, .int y4), (6, .int z9), (8, .int z45), (9, .int x15)] → W p l e { frames := 8, cells := 1, slots := 6, locals := 128 } s m args below meth c H locs 0 0 Q (F0 m 149 ls [.int x47]) := by
              intro x47 ls H locs hf_B46_0 hw hl
              refine lv_istore (lv' := [(7, .int x47), (0, .ref (ad 9)), (1, .int y1), (4, .int y4), (6, .int z9), (8, .int z45), (9, .int x15)]) hx hb dX5_codeLiteral_149 hl (by decide) rfl (fun ls hl => ?_)
              obtain ⟨z48, hz48⟩ : ∃ z : Int32, x15 + (-1) = z := ⟨_, rfl⟩
              refine lv_iinc (v := z48) (lv' := [(9, .int z48), (7, .int x47), (0, .ref (ad 9)), (1, .int y1), (4, .int y4), (6, .int z9), (8, .int z45)]) hx hb dX5_codeLiteral_151 hl (k := 6) rfl hz48 (by decide) rfl (fun ls hl => ?_)
              have xz48 : (z48).toInt = (x15).toInt + (((-1) : Int32)).toInt := (hE_imp (hE_add hz48) (ob112 ((x15).toInt) ((((-1) : Int32)).toInt) (k19 : Int) (((0 : Int32)).toInt) hf_B12_0 hrk_B12 (hE_nlt cc20) (hE_rng (x15)) (by decide) (by decide)))
              refine lv_goto (tgt := 62) hx hb dX5_codeLiteral_154 (by decide) ?_
              exact ih_B12 x47 z45 z48 g33 l34 a35 ls _ _ (ob113 ((z48).toInt) (k19 : Int) ((x15).toInt) ((((-1) : Int32)).toInt) (((0 : Int32)).toInt) hrk_B12 xz48 hf_B12_0 (hE_nlt cc20) (hE_rng (z48)) (hE_rng (x15)) (by decide) (by decide)) (ob114 ((z48).toInt) ((x15).toInt) ((((-1) : Int32)).toInt) (k19 : Int) (((0 : Int32)).toInt) xz48 hf_B12_0 hrk_B12 (hE_nlt cc20) (hE_rng (z48)) (hE_rng (x15)) (by decide) (by decide)) (hk_frT hfr_g16 (by decide) h38) (hk_frT hfr_l17 (by decide) h39) (hk_frT hfr_a18 (by decide) h40) hw (lv_sub hl [2, 3, 4, 5, 1, 6, 0] rfl)
            have B49 : ∀  (ls : Array Slot) (H : Heap) (locs : List Loc), hk_W D (jT cI cJ) A s H locs (xw cI cJ ad g33 l34 a35 bk) → lv_has ls 13 [(0, .ref (ad 9)), (1, .int y1), (4, .int y4), (6, .int z9), (8, .int z45), (9, .int x15)] → W p l e { frames := 8, cells := 1, slots := 6, locals := 128 } s m args below meth c H locs 0 0 Q (F0 m 148 ls []) := by
              intro ls H locs hw hl
              refine lv_iconst (v := 0) hx hb dX5_codeLiteral_148 (by decide) ?_
              exact B46 0 ls _ _ (ob115 (((0 : Int32)).toInt) ((x15).toInt) (k19 : Int) (hE_nlt cc20) hf_B12_0 hrk_B12 (by decide) (hE_rng (x15))) hw (lv_sub hl [0, 1, 2, 3, 4, 5] rfl)
            refine lv_if_eq (tgt := 148) hx hb dX5_codeLiteral_134 (by decide) (fun cc50 => ?_) (fun cc50 => ?_)
            · exact B49 ls _ _ hw (lv_sub hl [3, 4, 5, 6, 0, 8] rfl)
            · refine lv_iload hx hb dX5_codeLiteral_137 (lv_at hl 1 rfl) ?_
              refine lv_iload hx hb dX5_codeLiteral_139 (lv_at hl 9 rfl) ?_
              refine lv_icmp_ne (tgt := 148) hx hb dX5_codeLiteral_141 (by decide) (fun cc51 => ?_) (fun cc51 => ?_)
              · exact B49 ls _ _ hw (lv_sub hl [3, 4, 5, 6, 0, 8] rfl)
              · refine lv_iconst (v := 1) hx hb dX5_codeLiteral_144 (by decide) ?_
                refine lv_goto (tgt := 149) hx hb dX5_codeLiteral_145 (by decide) ?_
                exact B46 1 ls _ _ (ob116 (((1 : Int32)).toInt) ((z2).toInt) ((z1).toInt) ((z3).toInt) ((y2).toInt) (hE_sub hz2) (hE_and2 hz3) (by decide) (hE_rng (z2)) (hE_rng (z1)) (hE_rng (z3)) (hE_rng (y2))) hw (lv_sub hl [3, 4, 5, 6, 0, 8] rfl)
          refine lv_if_eq (tgt := 99) hx hb dX5_codeLiteral_78 (by decide) (fun cc52 => ?_) (fun cc52 => ?_)
          · refine lv_iload hx hb dX5_codeLiteral_99 (lv_at hl 4 rfl) ?_
            refine lv_iload hx hb dX5_codeLiteral_101 (lv_at hl 6 rfl) ?_
            refine lv_iadd hx hb dX5_codeLiteral_103 (jx_nm fun z53 hz53 => ?_)
            exact B24 z53 ls _ _ hw (lv_sub hl [1, 2, 3, 4, 5, 6, 7, 0] rfl)
          · refine lv_iload hx hb dX5_codeLiteral_81 (lv_at hl 4 rfl) ?_
            refine lv_iload hx hb dX5_codeLiteral_83 (lv_at hl 6 rfl) ?_
            refine lv_iadd hx hb dX5_codeLiteral_85 (jx_nm fun z54 hz54 => ?_)
            refine lv_sipush (v := 256) hx hb dX5_codeLiteral_86 (by decide) ?_
            refine lv_iadd hx hb dX5_codeLiteral_89 (jx_nm fun z55 hz55 => ?_)
            refine lv_iload hx hb dX5_codeLiteral_90 (lv_at hl 0 rfl) ?_
            refine lv_bipush (v := 8) hx hb dX5_codeLiteral_92 (by decide) ?_
            refine lv_ishl hx hb dX5_codeLiteral_94 (jx_nm fun z56 hz56 => ?_)
            have xz56 : (z56).toInt = (z23).toInt * 256 := (hE_imp (hE_shl 8 256 hz56 (by decide) (by decide) (by decide)) (ob117 ((z23).toInt) ((z22).toInt) (hE_and 1 2 hz23 (by decide) (by decide) (by decide)) (hE_rng (z23)) (hE_rng (z22))))
            refine lv_iadd hx hb dX5_codeLiteral_95 (jx_nm fun z57 hz57 => ?_)
            refine lv_goto (tgt := 104) hx hb dX5_codeLiteral_96 (by decide) ?_
            exact B24 z57 ls _ _ hw (lv_sub hl [1, 2, 3, 4, 5, 6, 7, 0] rfl)
    exact B12 (((7 : Int32)).toInt + 2147483649).toNat x11 1 7 g lg ar ls _ _ (Int.self_le_toNat _) (ob118 (((7 : Int32)).toInt) (by decide)) hk_fr0 hk_fr0 hk_fr0 hw (lv_sub hl [3, 4, 5, 6, 2, 1, 0] rfl)
  refine lv_icmp_lt (tgt := 52) hx hb dX5_codeLiteral_45 (by decide) (fun cc58 => ?_) (fun cc58 => ?_)
  · refine lv_iconst (v := 0) hx hb dX5_codeLiteral_52 (by decide) ?_
    exact B10 0 ls _ _ (ob48 (((0 : Int32)).toInt) (by decide)) hw (lv_sub hl [2, 3, 6, 0] rfl)
  · refine lv_iconst (v := 1) hx hb dX5_codeLiteral_48 (by decide) ?_
    refine lv_goto (tgt := 53) hx hb dX5_codeLiteral_49 (by decide) ?_
    exact B10 1 ls _ _ (ob116 (((1 : Int32)).toInt) ((z2).toInt) ((z1).toInt) ((z3).toInt) ((y2).toInt) (hE_sub hz2) (hE_and2 hz3) (by decide) (hE_rng (z2)) (hE_rng (z1)) (hE_rng (z3)) (hE_rng (y2))) hw (lv_sub hl [2, 3, 6, 0] rfl)

set_option maxHeartbeats 4000000 in
set_option maxRecDepth 100000 in
/-- X5_codeLength on (9,) -/
theorem jx_X5_codeLength (l : Launch) (hlt : l.stackTraces = false) (D : va_G) (t3 : Nat × Nat × Nat) (cI cJ : ClassId) (ad : Nat → Nat) (g : Nat → Int32) (lg : Nat → Int64) (ar : Nat → Nat → Int32) (bk : Nat → Int64) (sz : Nat) (y1 : Int32) (y2 : Int32) (y3 : Int32) (hi_a0rg : hk_rg 0 255 (ar 0)) : JMi l yX5_codeLength (Cond.code yX5_codeLength cX5_codeLength 6 (some .int) :: wwX) { frames := 9, cells := 1, slots := 6, locals := 153 } t3 D xw cI cJ ad [.ref (ad 9), .int y1, .int y2, .int y3] (xw cI cJ ad g lg ar bk) sz 1 6 (fun (r : Int32) g' lg' ar' bk' => hk_fr [14, 15, 17, 19, 20] g g' ∧ hk_fr [0, 1, 2] lg lg' ∧ hk_fr [1, 2] ar ar' ∧ bk = bk' ∧ (-300 ≤ (r).toInt ∧ (r).toInt ≤ 600)) (fun g' lg' ar' bk' => hk_fr [14, 15, 17, 19, 20] g g' ∧ hk_fr [0, 1, 2] lg lg' ∧ hk_fr [1, 2] ar ar' ∧ bk = bk' ∧ ((g 18).toInt ≠ 0)) := by
  refine jx_meti (cc := cX5_codeLength) (maxL := 6) (ret := (some .int)) rfl (by decide) rfl (Nat.le_of_ble_eq_true rfl) ?_
  intro p e s m args below meth c ls Q A hx hb hml hown hts hA hZ hw hl hQ kr kt
  have hq : ∀ w ∈ wwX, w.before args s = true := fun w h => hts w (List.mem_cons_of_mem _ h)
  have hl : lv_has ls 6 [(0, .ref (ad 9)), (1, .int y1), (2, .int y2), (3, .int y3)] := hl
  refine lv_aload_n hx hb dX5_codeLength_0 rfl (lv_at hl 0 rfl) ?_
  refine lv_iload_n hx hb dX5_codeLength_1 rfl (lv_at hl 3 rfl) ?_
  refine jx_Vi (As := [.int y3]) (rest := []) ⟨hx, hb, hml, hown, hts⟩ hZ hw hA (jx_X5_turnOf l hlt D t3 cI cJ ad g lg ar bk _ y3) (cwV 1 hts (jx_gV wwX_good wX_374 wX_375 wX_376 wX_215 wX_377) rfl rfl rfl (by decide +kernel) ⟨Nat.le_of_ble_eq_true rfl, Nat.le_of_ble_eq_true rfl⟩) 9 (ci := 8) (T := TX5) (N := 6) rfl rfl rfl hl.1 rfl (Nat.le_of_ble_eq_true rfl) dX5_codeLength_2 ⟨Nat.le_of_ble_eq_true rfl, Nat.le_of_ble_eq_true rfl⟩ (fun _ _ _ _ _ _ _ _ hp _ _ _ _ => hp.elim) (fun r5 g6 l7 a8 b9 H locs hp10 hw => ?_)
  obtain ⟨rfl, rfl, rfl, rfl⟩ := hp10
  refine lv_istore (lv' := [(4, .int r5), (0, .ref (ad 9)), (1, .int y1), (2, .int y2), (3, .int y3)]) hx hb dX5_codeLength_5 hl (by decide) rfl (fun ls hl => ?_)
  refine lv_iload_n hx hb dX5_codeLength_7 rfl (lv_at hl 3 rfl) ?_
  refine lv_iconst (v := 2) hx hb dX5_codeLength_8 (by decide) ?_
  refine lv_isub hx hb dX5_codeLength_9 (jx_nm fun z15 hz15 => ?_)
  refine lv_istore (lv' := [(5, .int z15), (4, .int r5), (0, .ref (ad 9)), (1, .int y1), (2, .int y2), (3, .int y3)]) hx hb dX5_codeLength_10 hl (by decide) rfl (fun ls hl => ?_)
  refine lv_aload_n hx hb dX5_codeLength_12 rfl (lv_at hl 2 rfl) ?_
  refine hk_get (ci := 8) (C := RX5) (T := TX5) (N := 6) (v := .ref (ad 7)) hx hb hts (fun _ h => List.mem_cons_of_mem _ (wwXc_wsX50 _ h)) hown hw 9 rfl rfl 0 (by decide) (hq _ wX_357) rfl dX5_codeLength_13 ?_
  refine lv_iload_n hx hb dX5_codeLength_16 rfl (lv_at hl 3 rfl) ?_
  refine lv_iload hx hb dX5_codeLength_17 (lv_at hl 0 rfl) ?_
  refine lv_bipush (v := 8) hx hb dX5_codeLength_19 (by decide) ?_
  have B16 : ∀  (x17 : Int32) (ls : Array Slot) (H : Heap) (locs : List Loc), (0 ≤ (x17).toInt ∧ (x17).toInt ≤ 1) → hk_W D (jT cI cJ) A s H locs (xw cI cJ ad g lg ar bk) → lv_has ls 6 [(0, .ref (ad 9)), (1, .int y1), (4, .int r5), (5, .int z15)] → W p l e { frames := 9, cells := 1, slots := 6, locals := 153 } s m args below meth c H locs 0 0 Q (F0 m 29 ls [.int x17, .int y1, .ref (ad 7)]) := by
    intro x17 ls H locs hf_B16_0 hw hl
    refine jx_Vi (As := [.int y1, .int x17]) (rest := []) ⟨hx, hb, hml, hown, hts⟩ hZ hw hA (jx_X2_bit l hlt D t3 cI cJ ad g lg ar bk _ y1 x17 (ob52 ((x17).toInt) hf_B16_0 (hE_rng (x17))) hi_a0rg) (cwV 2 hts (jx_gV wwX_good wX_379 wX_292 wX_293 wX_270 wX_294) rfl rfl rfl (by decide +kernel) ⟨Nat.le_of_ble_eq_true rfl, Nat.le_of_ble_eq_true rfl⟩) 7 (ci := 5) (T := TX2) (N := 9) rfl rfl rfl hl.1 rfl (Nat.le_of_ble_eq_true rfl) dX5_codeLength_29 ⟨Nat.le_of_ble_eq_true rfl, Nat.le_of_ble_eq_true rfl⟩ (fun u18 u19 u20 u21 H locs ce q hp hw h1 h2 h3 => by obtain ⟨ht0, ht1, ht2, rfl, ht4⟩ := hp; exact kt _ _ _ _ _ _ _ _ _ _ _ ⟨ht0, ht1, ht2, rfl, (ob99 ((g 18).toInt) ht4 (hE_rng (g 18)))⟩ hw h1 h2 h3) (fun r22 g23 l24 a25 b26 H locs hp27 hw => ?_)
    obtain ⟨h28, h29, h30, rfl, h32⟩ := hp27
    refine lv_if_ne (tgt := 57) hx hb dX5_codeLength_32 (by decide) (fun cc33 => ?_) (fun cc33 => ?_)
    · refine lv_aload_n hx hb dX5_codeLength_57 rfl (lv_at hl 0 rfl) ?_
      refine hk_get (ci := 8) (C := RX5) (T := TX5) (N := 6) (v := .ref (ad 7)) hx hb hts (fun _ h => List.mem_cons_of_mem _ (wwXc_wsX50 _ h)) hown hw 9 rfl rfl 0 (by decide) (hq _ wX_357) rfl dX5_codeLength_58 ?_
      refine lv_iload_n hx hb dX5_codeLength_61 rfl (lv_at hl 1 rfl) ?_
      refine lv_iconst (v := 1) hx hb dX5_codeLength_62 (by decide) ?_
      refine lv_iadd hx hb dX5_codeLength_63 (jx_nm fun z34 hz34 => ?_)
      refine lv_iload hx hb dX5_codeLength_64 (lv_at hl 3 rfl) ?_
      refine lv_bipush (v := 16) hx hb dX5_codeLength_66 (by decide) ?_
      have B35 : ∀  (x36 : Int32) (ls : Array Slot) (H : Heap) (locs : List Loc), (0 ≤ (x36).toInt ∧ (x36).toInt ≤ 1) → hk_W D (jT cI cJ) A s H locs (xw cI cJ ad g23 l24 a25 bk) → lv_has ls 6 [(0, .ref (ad 9)), (1, .int y1), (4, .int r5), (5, .int z15)] → W p l e { frames := 9, cells := 1, slots := 6, locals := 153 } s m args below meth c H locs 0 0 Q (F0 m 76 ls [.int x36, .int z34, .ref (ad 7)]) := by
        intro x36 ls H locs hf_B35_0 hw hl
        have e_g23_18 : g23 18 = (g 18) := (h28 18 rfl)
        refine jx_Vi (As := [.int z34, .int x36]) (rest := []) ⟨hx, hb, hml, hown, hts⟩ hZ hw hA (jx_X2_bit l hlt D t3 cI cJ ad g23 l24 a25 bk _ z34 x36 (ob52 ((x36).toInt) hf_B35_0 (hE_rng (x36))) (hk_pE (P := hk_rg 0 255) hi_a0rg (h30 0 rfl))) (cwV 2 hts (jx_gV wwX_good wX_379 wX_292 wX_293 wX_270 wX_294) rfl rfl rfl (by decide +kernel) ⟨Nat.le_of_ble_eq_true rfl, Nat.le_of_ble_eq_true rfl⟩) 7 (ci := 5) (T := TX2) (N := 9) rfl rfl rfl hl.1 rfl (Nat.le_of_ble_eq_true rfl) dX5_codeLength_76 ⟨Nat.le_of_ble_eq_true rfl, Nat.le_of_ble_eq_true rfl⟩ (fun u37 u38 u39 u40 H locs ce q hp hw h1 h2 h3 => by obtain ⟨ht0, ht1, ht2, rfl, ht4⟩ := hp; exact kt _ _ _ _ _ _ _ _ _ _ _ ⟨(hk_frT h28 (by decide) ht0), (hk_frT h29 (by decide) ht1), (hk_frT h30 (by decide) ht2), rfl, (ob67 ((g 18).toInt) ((g23 18).toInt) (congrArg Int32.toInt e_g23_18) ht4 (hE_rng (g 18)) (hE_rng (g23 18)))⟩ hw h1 h2 h3) (fun r41 g42 l43 a44 b45 H locs hp46 hw => ?_)
        obtain ⟨h47, h48, h49, rfl, h51⟩ := hp46
        have hr52 : hk_rg 0 255 (a44 0) := (hk_pE (P := hk_rg 0 255) (hk_pE (P := hk_rg 0 255) hi_a0rg (h30 0 rfl)) (h49 0 rfl))
        refine lv_if_ne (tgt := 110) hx hb dX5_codeLength_79 (by decide) (fun cc53 => ?_) (fun cc53 => ?_)
        · refine lv_bipush (v := 18) hx hb dX5_codeLength_110 (by decide) ?_
          refine lv_aload_n hx hb dX5_codeLength_112 rfl (lv_at hl 0 rfl) ?_
          refine hk_get (ci := 8) (C := RX5) (T := TX5) (N := 6) (v := .ref (ad 7)) hx hb hts (fun _ h => List.mem_cons_of_mem _ (wwXc_wsX50 _ h)) hown hw 9 rfl rfl 0 (by decide) (hq _ wX_357) rfl dX5_codeLength_113 ?_
          refine lv_iload_n hx hb dX5_codeLength_116 rfl (lv_at hl 1 rfl) ?_
          refine lv_sipush (v := 258) hx hb dX5_codeLength_117 (by decide) ?_
          refine lv_iadd hx hb dX5_codeLength_120 (jx_nm fun z54 hz54 => ?_)
          refine lv_bipush (v := 8) hx hb dX5_codeLength_121 (by decide) ?_
          refine lv_iload hx hb dX5_codeLength_123 (lv_at hl 3 rfl) ?_
          refine lv_bipush (v := 16) hx hb dX5_codeLength_125 (by decide) ?_
          refine lv_isub hx hb dX5_codeLength_127 (jx_nm fun z55 hz55 => ?_)
          have e_g42_18 : g42 18 = (g 18) := ((h47 18 rfl)).trans e_g23_18
          refine jx_Vi (As := [.int z54, .int 8, .int z55]) (rest := [.int 18]) ⟨hx, hb, hml, hown, hts⟩ hZ hw hA (jx_X2_tree l hlt D t3 cI cJ ad g42 l43 a44 bk _ z54 8 z55 (ob119 (((8 : Int32)).toInt) (by decide)) hr52) (cwV 3 hts (jx_gV wwX_good wX_361 wX_362 wX_363 wX_270 wX_364) rfl rfl rfl (by decide +kernel) ⟨Nat.le_of_ble_eq_true rfl, Nat.le_of_ble_eq_true rfl⟩) 7 (ci := 5) (T := TX2) (N := 9) rfl rfl rfl hl.1 rfl (Nat.le_of_ble_eq_true rfl) dX5_codeLength_128 ⟨Nat.le_of_ble_eq_true rfl, Nat.le_of_ble_eq_true rfl⟩ (fun u56 u57 u58 u59 H locs ce q hp hw h1 h2 h3 => by obtain ⟨ht0, ht1, ht2, rfl, ht4⟩ := hp; exact kt _ _ _ _ _ _ _ _ _ _ _ ⟨(hk_frT (hk_frT h28 (by decide) h47) (by decide) ht0), (hk_frT (hk_frT h29 (by decide) h48) (by decide) ht1), (hk_frT (hk_frT h30 (by decide) h49) (by decide) ht2), rfl, (ob100 ((g 18).toInt) ((g23 18).toInt) ((g42 18).toInt) (congrArg Int32.toInt e_g23_18) (congrArg Int32.toInt e_g42_18) ht4 (hE_rng (g 18)) (hE_rng (g23 18)) (hE_rng (g42 18)))⟩ hw h1 h2 h3) (fun r60 g61 l62 a63 b64 H locs hp65 hw => ?_)
          obtain ⟨h66, h67, h68, rfl, h70⟩ := hp65
          refine lv_iadd hx hb dX5_codeLength_131 (jx_nm fun z71 hz71 => ?_)
          have xz71 : (z71).toInt = ((18 : Int32)).toInt + (r60).toInt := (hE_imp (hE_add hz71) (ob120 (((18 : Int32)).toInt) ((r60).toInt) h70 (by decide) (hE_rng (r60))))
          exact kr z71 g61 l62 a63 bk _ _ _ _ ⟨(hk_frT (hk_frT h28 (by decide) h47) (by decide) h66), (hk_frT (hk_frT h29 (by decide) h48) (by decide) h67), (hk_frT (hk_frT h30 (by decide) h49) (by decide) h68), rfl, (ob121 ((z71).toInt) (((18 : Int32)).toInt) ((r60).toInt) xz71 h70 (hE_rng (z71)) (by decide) (hE_rng (r60)))⟩ hw dX5_codeLength_132
        · refine lv_bipush (v := 10) hx hb dX5_codeLength_82 (by decide) ?_
          refine lv_aload_n hx hb dX5_codeLength_84 rfl (lv_at hl 0 rfl) ?_
          refine hk_get (ci := 8) (C := RX5) (T := TX5) (N := 6) (v := .ref (ad 7)) hx hb hts (fun _ h => List.mem_cons_of_mem _ (wwXc_wsX50 _ h)) hown hw 9 rfl rfl 0 (by decide) (hq _ wX_357) rfl dX5_codeLength_85 ?_
          refine lv_iload_n hx hb dX5_codeLength_88 rfl (lv_at hl 1 rfl) ?_
          refine lv_sipush (v := 130) hx hb dX5_codeLength_89 (by decide) ?_
          refine lv_iadd hx hb dX5_codeLength_92 (jx_nm fun z72 hz72 => ?_)
          refine lv_iload hx hb dX5_codeLength_93 (lv_at hl 2 rfl) ?_
          refine lv_bipush (v := 8) hx hb dX5_codeLength_95 (by decide) ?_
          refine lv_imul hx hb dX5_codeLength_97 (jx_nm fun z73 hz73 => ?_)
          refine lv_iadd hx hb dX5_codeLength_98 (jx_nm fun z74 hz74 => ?_)
          refine lv_iconst (v := 3) hx hb dX5_codeLength_99 (by decide) ?_
          refine lv_iload hx hb dX5_codeLength_100 (lv_at hl 3 rfl) ?_
          refine lv_bipush (v := 8) hx hb dX5_codeLength_102 (by decide) ?_
          refine lv_isub hx hb dX5_codeLength_104 (jx_nm fun z75 hz75 => ?_)
          have e_g42_18 : g42 18 = (g 18) := ((h47 18 rfl)).trans e_g23_18
          refine jx_Vi (As := [.int z74, .int 3, .int z75]) (rest := [.int 10]) ⟨hx, hb, hml, hown, hts⟩ hZ hw hA (jx_X2_tree l hlt D t3 cI cJ ad g42 l43 a44 bk _ z74 3 z75 (ob122 (((3 : Int32)).toInt) (by decide)) hr52) (cwV 3 hts (jx_gV wwX_good wX_361 wX_362 wX_363 wX_270 wX_364) rfl rfl rfl (by decide +kernel) ⟨Nat.le_of_ble_eq_true rfl, Nat.le_of_ble_eq_true rfl⟩) 7 (ci := 5) (T := TX2) (N := 9) rfl rfl rfl hl.1 rfl (Nat.le_of_ble_eq_true rfl) dX5_codeLength_105 ⟨Nat.le_of_ble_eq_true rfl, Nat.le_of_ble_eq_true rfl⟩ (fun u76 u77 u78 u79 H locs ce q hp hw h1 h2 h3 => by obtain ⟨ht0, ht1, ht2, rfl, ht4⟩ := hp; exact kt _ _ _ _ _ _ _ _ _ _ _ ⟨(hk_frT (hk_frT h28 (by decide) h47) (by decide) ht0), (hk_frT (hk_frT h29 (by decide) h48) (by decide) ht1), (hk_frT (hk_frT h30 (by decide) h49) (by decide) ht2), rfl, (ob100 ((g 18).toInt) ((g23 18).toInt) ((g42 18).toInt) (congrArg Int32.toInt e_g23_18) (congrArg Int32.toInt e_g42_18) ht4 (hE_rng (g 18)) (hE_rng (g23 18)) (hE_rng (g42 18)))⟩ hw h1 h2 h3) (fun r80 g81 l82 a83 b84 H locs hp85 hw => ?_)
          obtain ⟨h86, h87, h88, rfl, h90⟩ := hp85
          refine lv_iadd hx hb dX5_codeLength_108 (jx_nm fun z91 hz91 => ?_)
          have xz91 : (z91).toInt = ((10 : Int32)).toInt + (r80).toInt := (hE_imp (hE_add hz91) (ob123 (((10 : Int32)).toInt) ((r80).toInt) h90 (by decide) (hE_rng (r80))))
          exact kr z91 g81 l82 a83 bk _ _ _ _ ⟨(hk_frT (hk_frT h28 (by decide) h47) (by decide) h86), (hk_frT (hk_frT h29 (by decide) h48) (by decide) h87), (hk_frT (hk_frT h30 (by decide) h49) (by decide) h88), rfl, (ob124 ((z91).toInt) (((10 : Int32)).toInt) ((r80).toInt) xz91 h90 (hE_rng (z91)) (by decide) (hE_rng (r80)))⟩ hw dX5_codeLength_109
      refine lv_icmp_ge (tgt := 75) hx hb dX5_codeLength_68 (by decide) (fun cc92 => ?_) (fun cc92 => ?_)
      · refine lv_iconst (v := 1) hx hb dX5_codeLength_75 (by decide) ?_
        exact B35 1 ls _ _ (ob125 (((1 : Int32)).toInt) ((z34).toInt) ((y1).toInt) (hE_add hz34) (by decide) (hE_rng (z34)) (hE_rng (y1))) hw (lv_sub hl [0, 1, 2, 3] rfl)
      · refine lv_iconst (v := 0) hx hb dX5_codeLength_71 (by decide) ?_
        refine lv_goto (tgt := 76) hx hb dX5_codeLength_72 (by decide) ?_
        exact B35 0 ls _ _ (ob126 (((0 : Int32)).toInt) ((r22).toInt) (hE_ne cc33) h32 (by decide) (hE_rng (r22))) hw (lv_sub hl [0, 1, 2, 3] rfl)
    · refine lv_iconst (v := 2) hx hb dX5_codeLength_35 (by decide) ?_
      refine lv_aload_n hx hb dX5_codeLength_36 rfl (lv_at hl 0 rfl) ?_
      refine hk_get (ci := 8) (C := RX5) (T := TX5) (N := 6) (v := .ref (ad 7)) hx hb hts (fun _ h => List.mem_cons_of_mem _ (wwXc_wsX50 _ h)) hown hw 9 rfl rfl 0 (by decide) (hq _ wX_357) rfl dX5_codeLength_37 ?_
      refine lv_iload_n hx hb dX5_codeLength_40 rfl (lv_at hl 1 rfl) ?_
      refine lv_iconst (v := 2) hx hb dX5_codeLength_41 (by decide) ?_
      refine lv_iadd hx hb dX5_codeLength_42 (jx_nm fun z93 hz93 => ?_)
      refine lv_iload hx hb dX5_codeLength_43 (lv_at hl 2 rfl) ?_
      refine lv_bipush (v := 8) hx hb dX5_codeLength_45 (by decide) ?_
      refine lv_imul hx hb dX5_codeLength_47 (jx_nm fun z94 hz94 => ?_)
      refine lv_iadd hx hb dX5_codeLength_48 (jx_nm fun z95 hz95 => ?_)
      refine lv_iconst (v := 3) hx hb dX5_codeLength_49 (by decide) ?_
      refine lv_iload hx hb dX5_codeLength_50 (lv_at hl 3 rfl) ?_
      have e_g23_18 : g23 18 = (g 18) := (h28 18 rfl)
      refine jx_Vi (As := [.int z95, .int 3, .int z15]) (rest := [.int 2]) ⟨hx, hb, hml, hown, hts⟩ hZ hw hA (jx_X2_tree l hlt D t3 cI cJ ad g23 l24 a25 bk _ z95 3 z15 (ob122 (((3 : Int32)).toInt) (by decide)) (hk_pE (P := hk_rg 0 255) hi_a0rg (h30 0 rfl))) (cwV 3 hts (jx_gV wwX_good wX_361 wX_362 wX_363 wX_270 wX_364) rfl rfl rfl (by decide +kernel) ⟨Nat.le_of_ble_eq_true rfl, Nat.le_of_ble_eq_true rfl⟩) 7 (ci := 5) (T := TX2) (N := 9) rfl rfl rfl hl.1 rfl (Nat.le_of_ble_eq_true rfl) dX5_codeLength_52 ⟨Nat.le_of_ble_eq_true rfl, Nat.le_of_ble_eq_true rfl⟩ (fun u96 u97 u98 u99 H locs ce q hp hw h1 h2 h3 => by obtain ⟨ht0, ht1, ht2, rfl, ht4⟩ := hp; exact kt _ _ _ _ _ _ _ _ _ _ _ ⟨(hk_frT h28 (by decide) ht0), (hk_frT h29 (by decide) ht1), (hk_frT h30 (by decide) ht2), rfl, (ob67 ((g 18).toInt) ((g23 18).toInt) (congrArg Int32.toInt e_g23_18) ht4 (hE_rng (g 18)) (hE_rng (g23 18)))⟩ hw h1 h2 h3) (fun r100 g101 l102 a103 b104 H locs hp105 hw => ?_)
      obtain ⟨h106, h107, h108, rfl, h110⟩ := hp105
      have hr111 : hk_rg 0 255 (a103 0) := (hk_pE (P := hk_rg 0 255) (hk_pE (P := hk_rg 0 255) hi_a0rg (h30 0 rfl)) (h108 0 rfl))
      refine lv_iadd hx hb dX5_codeLength_55 (jx_nm fun z112 hz112 => ?_)
      have xz112 : (z112).toInt = ((2 : Int32)).toInt + (r100).toInt := (hE_imp (hE_add hz112) (ob127 (((2 : Int32)).toInt) ((r100).toInt) ((z15).toInt) ((y2).toInt) ((z93).toInt) ((y1).toInt) ((z95).toInt) ((z94).toInt) (hE_sub hz15) (hE_add hz93) h110 (hE_add hz95) (by decide) (hE_rng (r100)) (hE_rng (z15)) (hE_rng (y2)) (hE_rng (z93)) (hE_rng (y1)) (hE_rng (z95)) (hE_rng (z94))))
      exact kr z112 g101 l102 a103 bk _ _ _ _ ⟨(hk_frT h28 (by decide) h106), (hk_frT h29 (by decide) h107), (hk_frT h30 (by decide) h108), rfl, (ob128 ((z112).toInt) (((2 : Int32)).toInt) ((r100).toInt) ((z15).toInt) ((y2).toInt) ((z93).toInt) ((y1).toInt) ((z95).toInt) ((z94).toInt) xz112 (hE_sub hz15) (hE_add hz93) h110 (hE_add hz95) (hE_rng (z112)) (by decide) (hE_rng (r100)) (hE_rng (z15)) (hE_rng (y2)) (hE_rng (z93)) (hE_rng (y1)) (hE_rng (z95)) (hE_rng (z94)))⟩ hw dX5_codeLength_56
  refine lv_icmp_ge (tgt := 28) hx hb dX5_codeLength_21 (by decide) (fun cc113 => ?_) (fun cc113 => ?_)
  · refine lv_iconst (v := 1) hx hb dX5_codeLength_28 (by decide) ?_
    exact B16 1 ls _ _ (ob49 (((1 : Int32)).toInt) (by decide)) hw (lv_sub hl [2, 3, 1, 0] rfl)
  · refine lv_iconst (v := 0) hx hb dX5_codeLength_24 (by decide) ?_
    refine lv_goto (tgt := 29) hx hb dX5_codeLength_25 (by decide) ?_
    exact B16 0 ls _ _ (ob48 (((0 : Int32)).toInt) (by decide)) hw (lv_sub hl [2, 3, 1, 0] rfl)

set_option maxHeartbeats 4000000 in
set_option maxRecDepth 100000 in
/-- J6_numberOfLeadingZeros_0f7a4 -/
theorem jx_J6_numberOfLeadingZeros_0f7a4 (l : Launch) (hlt : l.stackTraces = false) (D : va_G) (t3 : Nat × Nat × Nat) (cI cJ : ClassId) (ad : Nat → Nat) (g : Nat → Int32) (lg : Nat → Int64) (ar : Nat → Nat → Int32) (bk : Nat → Int64) (sz : Nat) (y0 : Int32) : JMi l yJ6_numberOfLeadingZeros_0f7a4 (Cond.code yJ6_numberOfLeadingZeros_0f7a4 cJ6_numberOfLeadingZeros_0f7a4 2 (some .int) :: wwX) { frames := 0, cells := 1, slots := 6, locals := 0 } t3 D xw cI cJ ad [.int y0] (xw cI cJ ad g lg ar bk) sz 1 6 (fun (r : Int32) g' lg' ar' bk' => g = g' ∧ lg = lg' ∧ ar = ar' ∧ bk = bk') (fun g' lg' ar' bk' => False) := by
  refine jx_meti (cc := cJ6_numberOfLeadingZeros_0f7a4) (maxL := 2) (ret := (some .int)) rfl (by decide) rfl (Nat.le_of_ble_eq_true rfl) ?_
  intro p e s m args below meth c ls Q A hx hb hml hown hts hA hZ hw hl hQ kr kt
  have hq : ∀ w ∈ wwX, w.before args s = true := fun w h => hts w (List.mem_cons_of_mem _ h)
  have hl : lv_has ls 2 [(0, .int y0)] := hl
  refine lv_iload_n hx hb dJ6_numberOfLeadingZeros_0f7a4_0 rfl (lv_at hl 0 rfl) ?_
  refine lv_if_gt (tgt := 15) hx hb dJ6_numberOfLeadingZeros_0f7a4_1 (by decide) (fun cc1 => ?_) (fun cc1 => ?_)
  · refine lv_bipush (v := 31) hx hb dJ6_numberOfLeadingZeros_0f7a4_15 (by decide) ?_
    refine lv_istore_n (lv' := [(1, .int 31), (0, .int y0)]) hx hb dJ6_numberOfLeadingZeros_0f7a4_17 rfl hl (by decide) rfl (fun ls hl => ?_)
    refine lv_iload_n hx hb dJ6_numberOfLeadingZeros_0f7a4_18 rfl (lv_at hl 1 rfl) ?_
    refine lv_ldcw (v := 65536) hx hb hown (hq _ wX_4) dJ6_numberOfLeadingZeros_0f7a4_19 ?_
    have B2 : ∀  (x3 : Int32) (x4 : Int32) (ls : Array Slot) (H : Heap) (locs : List Loc), hk_W D (jT cI cJ) A s H locs (xw cI cJ ad g lg ar bk) → lv_has ls 2 [(0, .int x3), (1, .int x4)] → W p l e { frames := 0, cells := 1, slots := 6, locals := 0 } s m args below meth c H locs 0 0 Q (F0 m 33 ls []) := by
      intro x3 x4 ls H locs hw hl
      refine lv_iload_n hx hb dJ6_numberOfLeadingZeros_0f7a4_33 rfl (lv_at hl 0 rfl) ?_
      refine lv_sipush (v := 256) hx hb dJ6_numberOfLeadingZeros_0f7a4_34 (by decide) ?_
      have B5 : ∀  (x6 : Int32) (x7 : Int32) (ls : Array Slot) (H : Heap) (locs : List Loc), hk_W D (jT cI cJ) A s H locs (xw cI cJ ad g lg ar bk) → lv_has ls 2 [(0, .int x6), (1, .int x7)] → W p l e { frames := 0, cells := 1, slots := 6, locals := 0 } s m args below meth c H locs 0 0 Q (F0 m 48 ls []) := by
        intro x6 x7 ls H locs hw hl
        refine lv_iload_n hx hb dJ6_numberOfLeadingZeros_0f7a4_48 rfl (lv_at hl 0 rfl) ?_
        refine lv_bipush (v := 16) hx hb dJ6_numberOfLeadingZeros_0f7a4_49 (by decide) ?_
        have B8 : ∀  (x9 : Int32) (x10 : Int32) (ls : Array Slot) (H : Heap) (locs : List Loc), hk_W D (jT cI cJ) A s H locs (xw cI cJ ad g lg ar bk) → lv_has ls 2 [(0, .int x9), (1, .int x10)] → W p l e { frames := 0, cells := 1, slots := 6, locals := 0 } s m args below meth c H locs 0 0 Q (F0 m 61 ls []) := by
          intro x9 x10 ls H locs hw hl
          refine lv_iload_n hx hb dJ6_numberOfLeadingZeros_0f7a4_61 rfl (lv_at hl 0 rfl) ?_
          refine lv_iconst (v := 4) hx hb dJ6_numberOfLeadingZeros_0f7a4_62 (by decide) ?_
          have B11 : ∀  (x12 : Int32) (x13 : Int32) (ls : Array Slot) (H : Heap) (locs : List Loc), hk_W D (jT cI cJ) A s H locs (xw cI cJ ad g lg ar bk) → lv_has ls 2 [(0, .int x12), (1, .int x13)] → W p l e { frames := 0, cells := 1, slots := 6, locals := 0 } s m args below meth c H locs 0 0 Q (F0 m 73 ls []) := by
            intro x12 x13 ls H locs hw hl
            refine lv_iload_n hx hb dJ6_numberOfLeadingZeros_0f7a4_73 rfl (lv_at hl 1 rfl) ?_
            refine lv_iload_n hx hb dJ6_numberOfLeadingZeros_0f7a4_74 rfl (lv_at hl 0 rfl) ?_
            refine lv_iconst (v := 1) hx hb dJ6_numberOfLeadingZeros_0f7a4_75 (by decide) ?_
            refine lv_iushr hx hb dJ6_numberOfLeadingZeros_0f7a4_76 rfl (jx_nm fun z14 hz14 => ?_)
            refine lv_isub hx hb dJ6_numberOfLeadingZeros_0f7a4_77 (jx_nm fun z15 hz15 => ?_)
            exact kr z15 g lg ar bk _ _ _ _ ⟨rfl, rfl, rfl, rfl⟩ hw dJ6_numberOfLeadingZeros_0f7a4_78
          refine lv_icmp_lt (tgt := 73) hx hb dJ6_numberOfLeadingZeros_0f7a4_63 (by decide) (fun cc16 => ?_) (fun cc16 => ?_)
          · exact B11 x9 x10 ls _ _ hw (lv_sub hl [0, 1] rfl)
          · obtain ⟨z17, hz17⟩ : ∃ z : Int32, x10 + (-2) = z := ⟨_, rfl⟩
            refine lv_iinc (v := z17) (lv' := [(1, .int z17), (0, .int x9)]) hx hb dJ6_numberOfLeadingZeros_0f7a4_66 hl (k := 1) rfl hz17 (by decide) rfl (fun ls hl => ?_)
            refine lv_iload_n hx hb dJ6_numberOfLeadingZeros_0f7a4_69 rfl (lv_at hl 1 rfl) ?_
            refine lv_iconst (v := 2) hx hb dJ6_numberOfLeadingZeros_0f7a4_70 (by decide) ?_
            refine lv_iushr hx hb dJ6_numberOfLeadingZeros_0f7a4_71 rfl (jx_nm fun z18 hz18 => ?_)
            refine lv_istore_n (lv' := [(0, .int z18), (1, .int z17)]) hx hb dJ6_numberOfLeadingZeros_0f7a4_72 rfl hl (by decide) rfl (fun ls hl => ?_)
            exact B11 z18 z17 ls _ _ hw (lv_sub hl [0, 1] rfl)
        refine lv_icmp_lt (tgt := 61) hx hb dJ6_numberOfLeadingZeros_0f7a4_51 (by decide) (fun cc19 => ?_) (fun cc19 => ?_)
        · exact B8 x6 x7 ls _ _ hw (lv_sub hl [0, 1] rfl)
        · obtain ⟨z20, hz20⟩ : ∃ z : Int32, x7 + (-4) = z := ⟨_, rfl⟩
          refine lv_iinc (v := z20) (lv' := [(1, .int z20), (0, .int x6)]) hx hb dJ6_numberOfLeadingZeros_0f7a4_54 hl (k := 1) rfl hz20 (by decide) rfl (fun ls hl => ?_)
          refine lv_iload_n hx hb dJ6_numberOfLeadingZeros_0f7a4_57 rfl (lv_at hl 1 rfl) ?_
          refine lv_iconst (v := 4) hx hb dJ6_numberOfLeadingZeros_0f7a4_58 (by decide) ?_
          refine lv_iushr hx hb dJ6_numberOfLeadingZeros_0f7a4_59 rfl (jx_nm fun z21 hz21 => ?_)
          refine lv_istore_n (lv' := [(0, .int z21), (1, .int z20)]) hx hb dJ6_numberOfLeadingZeros_0f7a4_60 rfl hl (by decide) rfl (fun ls hl => ?_)
          exact B8 z21 z20 ls _ _ hw (lv_sub hl [0, 1] rfl)
      refine lv_icmp_lt (tgt := 48) hx hb dJ6_numberOfLeadingZeros_0f7a4_37 (by decide) (fun cc22 => ?_) (fun cc22 => ?_)
      · exact B5 x3 x4 ls _ _ hw (lv_sub hl [0, 1] rfl)
      · obtain ⟨z23, hz23⟩ : ∃ z : Int32, x4 + (-8) = z := ⟨_, rfl⟩
        refine lv_iinc (v := z23) (lv' := [(1, .int z23), (0, .int x3)]) hx hb dJ6_numberOfLeadingZeros_0f7a4_40 hl (k := 1) rfl hz23 (by decide) rfl (fun ls hl => ?_)
        refine lv_iload_n hx hb dJ6_numberOfLeadingZeros_0f7a4_43 rfl (lv_at hl 1 rfl) ?_
        refine lv_bipush (v := 8) hx hb dJ6_numberOfLeadingZeros_0f7a4_44 (by decide) ?_
        refine lv_iushr hx hb dJ6_numberOfLeadingZeros_0f7a4_46 rfl (jx_nm fun z24 hz24 => ?_)
        refine lv_istore_n (lv' := [(0, .int z24), (1, .int z23)]) hx hb dJ6_numberOfLeadingZeros_0f7a4_47 rfl hl (by decide) rfl (fun ls hl => ?_)
        exact B5 z24 z23 ls _ _ hw (lv_sub hl [0, 1] rfl)
    refine lv_icmp_lt (tgt := 33) hx hb dJ6_numberOfLeadingZeros_0f7a4_22 (by decide) (fun cc25 => ?_) (fun cc25 => ?_)
    · exact B2 y0 31 ls _ _ hw (lv_sub hl [1, 0] rfl)
    · refine lv_iinc (v := 15) (lv' := [(1, .int 15), (0, .int y0)]) hx hb dJ6_numberOfLeadingZeros_0f7a4_25 hl (k := 0) rfl (by decide) (by decide) rfl (fun ls hl => ?_)
      refine lv_iload_n hx hb dJ6_numberOfLeadingZeros_0f7a4_28 rfl (lv_at hl 1 rfl) ?_
      refine lv_bipush (v := 16) hx hb dJ6_numberOfLeadingZeros_0f7a4_29 (by decide) ?_
      refine lv_iushr hx hb dJ6_numberOfLeadingZeros_0f7a4_31 rfl (jx_nm fun z26 hz26 => ?_)
      refine lv_istore_n (lv' := [(0, .int z26), (1, .int 15)]) hx hb dJ6_numberOfLeadingZeros_0f7a4_32 rfl hl (by decide) rfl (fun ls hl => ?_)
      exact B2 z26 15 ls _ _ hw (lv_sub hl [0, 1] rfl)
  · refine lv_iload_n hx hb dJ6_numberOfLeadingZeros_0f7a4_4 rfl (lv_at hl 0 rfl) ?_
    refine lv_if_ne (tgt := 13) hx hb dJ6_numberOfLeadingZeros_0f7a4_5 (by decide) (fun cc27 => ?_) (fun cc27 => ?_)
    · refine lv_iconst (v := 0) hx hb dJ6_numberOfLeadingZeros_0f7a4_13 (by decide) ?_
      exact kr 0 g lg ar bk _ _ _ _ ⟨rfl, rfl, rfl, rfl⟩ hw dJ6_numberOfLeadingZeros_0f7a4_14
    · refine lv_bipush (v := 32) hx hb dJ6_numberOfLeadingZeros_0f7a4_8 (by decide) ?_
      refine lv_goto (tgt := 14) hx hb dJ6_numberOfLeadingZeros_0f7a4_10 (by decide) ?_
      exact kr 32 g lg ar bk _ _ _ _ ⟨rfl, rfl, rfl, rfl⟩ hw dJ6_numberOfLeadingZeros_0f7a4_14

set_option maxHeartbeats 4000000 in
set_option maxRecDepth 100000 in
/-- J13_numberOfLeadingZeros_95d88 -/
theorem jx_J13_numberOfLeadingZeros_95d88 (l : Launch) (hlt : l.stackTraces = false) (D : va_G) (t3 : Nat × Nat × Nat) (cI cJ : ClassId) (ad : Nat → Nat) (g : Nat → Int32) (lg : Nat → Int64) (ar : Nat → Nat → Int32) (bk : Nat → Int64) (sz : Nat) (y0 : Int64) : JMi l yJ13_numberOfLeadingZeros_95d88 (Cond.code yJ13_numberOfLeadingZeros_95d88 cJ13_numberOfLeadingZeros_95d88 3 (some .int) :: wwX) { frames := 1, cells := 1, slots := 6, locals := 21 } t3 D xw cI cJ ad [.long y0] (xw cI cJ ad g lg ar bk) sz 1 6 (fun (r : Int32) g' lg' ar' bk' => g = g' ∧ lg = lg' ∧ ar = ar' ∧ bk = bk') (fun g' lg' ar' bk' => False) := by
  refine jx_meti (cc := cJ13_numberOfLeadingZeros_95d88) (maxL := 3) (ret := (some .int)) rfl (by decide) rfl (Nat.le_of_ble_eq_true rfl) ?_
  intro p e s m args below meth c ls Q A hx hb hml hown hts hA hZ hw hl hQ kr kt
  have hq : ∀ w ∈ wwX, w.before args s = true := fun w h => hts w (List.mem_cons_of_mem _ h)
  have hl : lv_has ls 3 [(0, .long y0)] := hl
  refine lv_lload_n hx hb dJ13_numberOfLeadingZeros_95d88_0 rfl (lv_at hl 0 rfl) ?_
  refine lv_bipush (v := 32) hx hb dJ13_numberOfLeadingZeros_95d88_1 (by decide) ?_
  refine lv_lushr hx hb dJ13_numberOfLeadingZeros_95d88_3 rfl (jx_nl fun z1 hz1 => ?_)
  refine lv_l2i hx hb dJ13_numberOfLeadingZeros_95d88_4 rfl (jx_nm fun z2 hz2 => ?_)
  refine lv_istore_n (lv' := [(2, .int z2), (0, .long y0)]) hx hb dJ13_numberOfLeadingZeros_95d88_5 rfl hl (by decide) rfl (fun ls hl => ?_)
  refine lv_iload_n hx hb dJ13_numberOfLeadingZeros_95d88_6 rfl (lv_at hl 0 rfl) ?_
  refine lv_if_ne (tgt := 21) hx hb dJ13_numberOfLeadingZeros_95d88_7 (by decide) (fun cc3 => ?_) (fun cc3 => ?_)
  · refine lv_iload_n hx hb dJ13_numberOfLeadingZeros_95d88_21 rfl (lv_at hl 0 rfl) ?_
    refine jx_Si (As := [.int z2]) (rest := []) ⟨hx, hb, hml, hown, hts⟩ hZ hw hA (jx_J6_numberOfLeadingZeros_0f7a4 l hlt D t3 cI cJ ad g lg ar bk _ z2) (va_cwS 1 hts (jx_gS wwX_good wX_0 wX_1 wX_2 wX_3) rfl rfl rfl (by decide +kernel) ⟨Nat.le_of_ble_eq_true rfl, Nat.le_of_ble_eq_true rfl⟩) rfl hl.1 rfl (Nat.le_of_ble_eq_true rfl) dJ13_numberOfLeadingZeros_95d88_22 ⟨Nat.le_of_ble_eq_true rfl, Nat.le_of_ble_eq_true rfl⟩ (fun _ _ _ _ _ _ _ _ hp _ _ _ _ => hp.elim) (fun r8 g9 l10 a11 b12 H locs hp13 hw => ?_)
    obtain ⟨rfl, rfl, rfl, rfl⟩ := hp13
    exact kr r8 g lg ar bk _ _ _ _ ⟨rfl, rfl, rfl, rfl⟩ hw dJ13_numberOfLeadingZeros_95d88_25
  · refine lv_bipush (v := 32) hx hb dJ13_numberOfLeadingZeros_95d88_10 (by decide) ?_
    refine lv_lload_n hx hb dJ13_numberOfLeadingZeros_95d88_12 rfl (lv_at hl 1 rfl) ?_
    refine lv_l2i hx hb dJ13_numberOfLeadingZeros_95d88_13 rfl (jx_nm fun z18 hz18 => ?_)
    refine jx_Si (As := [.int z18]) (rest := [.int 32]) ⟨hx, hb, hml, hown, hts⟩ hZ hw hA (jx_J6_numberOfLeadingZeros_0f7a4 l hlt D t3 cI cJ ad g lg ar bk _ z18) (va_cwS 1 hts (jx_gS wwX_good wX_0 wX_1 wX_2 wX_3) rfl rfl rfl (by decide +kernel) ⟨Nat.le_of_ble_eq_true rfl, Nat.le_of_ble_eq_true rfl⟩) rfl hl.1 rfl (Nat.le_of_ble_eq_true rfl) dJ13_numberOfLeadingZeros_95d88_14 ⟨Nat.le_of_ble_eq_true rfl, Nat.le_of_ble_eq_true rfl⟩ (fun _ _ _ _ _ _ _ _ hp _ _ _ _ => hp.elim) (fun r23 g24 l25 a26 b27 H locs hp28 hw => ?_)
    obtain ⟨rfl, rfl, rfl, rfl⟩ := hp28
    refine lv_iadd hx hb dJ13_numberOfLeadingZeros_95d88_17 (jx_nm fun z33 hz33 => ?_)
    refine lv_goto (tgt := 25) hx hb dJ13_numberOfLeadingZeros_95d88_18 (by decide) ?_
    exact kr z33 g lg ar bk _ _ _ _ ⟨rfl, rfl, rfl, rfl⟩ hw dJ13_numberOfLeadingZeros_95d88_25

set_option maxHeartbeats 4000000 in
set_option maxRecDepth 100000 in
/-- X5_slotOf -/
theorem jx_X5_slotOf (l : Launch) (hlt : l.stackTraces = false) (D : va_G) (t3 : Nat × Nat × Nat) (cI cJ : ClassId) (ad : Nat → Nat) (g : Nat → Int32) (lg : Nat → Int64) (ar : Nat → Nat → Int32) (bk : Nat → Int64) (sz : Nat) (y0 : Int64) : JMi l yX5_slotOf (Cond.code yX5_slotOf cX5_slotOf 3 (some .int) :: wwX) { frames := 2, cells := 1, slots := 6, locals := 43 } t3 D xw cI cJ ad [.long y0] (xw cI cJ ad g lg ar bk) sz 1 6 (fun (r : Int32) g' lg' ar' bk' => g = g' ∧ lg = lg' ∧ ar = ar' ∧ bk = bk') (fun g' lg' ar' bk' => False) := by
  refine jx_meti (cc := cX5_slotOf) (maxL := 3) (ret := (some .int)) rfl (by decide) rfl (Nat.le_of_ble_eq_true rfl) ?_
  intro p e s m args below meth c ls Q A hx hb hml hown hts hA hZ hw hl hQ kr kt
  have hq : ∀ w ∈ wwX, w.before args s = true := fun w h => hts w (List.mem_cons_of_mem _ h)
  have hl : lv_has ls 3 [(0, .long y0)] := hl
  refine lv_lload_n hx hb dX5_slotOf_0 rfl (lv_at hl 0 rfl) ?_
  refine lv_ldc2 (v := 4) hx hb hown (hq _ wX_393) dX5_slotOf_1 ?_
  refine hk_lcmp_ge (tgt := 11) hx hb dX5_slotOf_4 dX5_slotOf_5 (by decide) (fun cc1 => ?_) (fun cc1 => ?_)
  · refine lv_bipush (v := 63) hx hb dX5_slotOf_11 (by decide) ?_
    refine lv_lload_n hx hb dX5_slotOf_13 rfl (lv_at hl 0 rfl) ?_
    refine jx_Si (As := [.long y0]) (rest := [.int 63]) ⟨hx, hb, hml, hown, hts⟩ hZ hw hA (jx_J13_numberOfLeadingZeros_95d88 l hlt D t3 cI cJ ad g lg ar bk _ y0) (va_cwS 1 hts (jx_gS wwX_good wX_394 wX_395 wX_396 wX_397) rfl rfl rfl (by decide +kernel) ⟨Nat.le_of_ble_eq_true rfl, Nat.le_of_ble_eq_true rfl⟩) rfl hl.1 rfl (Nat.le_of_ble_eq_true rfl) dX5_slotOf_14 ⟨Nat.le_of_ble_eq_true rfl, Nat.le_of_ble_eq_true rfl⟩ (fun _ _ _ _ _ _ _ _ hp _ _ _ _ => hp.elim) (fun r6 g7 l8 a9 b10 H locs hp11 hw => ?_)
    obtain ⟨rfl, rfl, rfl, rfl⟩ := hp11
    refine lv_isub hx hb dX5_slotOf_17 (jx_nm fun z16 hz16 => ?_)
    refine lv_istore_n (lv' := [(2, .int z16), (0, .long y0)]) hx hb dX5_slotOf_18 rfl hl (by decide) rfl (fun ls hl => ?_)
    refine lv_iconst (v := 2) hx hb dX5_slotOf_19 (by decide) ?_
    refine lv_iload_n hx hb dX5_slotOf_20 rfl (lv_at hl 0 rfl) ?_
    refine lv_imul hx hb dX5_slotOf_21 (jx_nm fun z17 hz17 => ?_)
    refine lv_lload_n hx hb dX5_slotOf_22 rfl (lv_at hl 1 rfl) ?_
    refine lv_iload_n hx hb dX5_slotOf_23 rfl (lv_at hl 0 rfl) ?_
    refine lv_iconst (v := 1) hx hb dX5_slotOf_24 (by decide) ?_
    refine lv_isub hx hb dX5_slotOf_25 (jx_nm fun z18 hz18 => ?_)
    refine lv_lushr hx hb dX5_slotOf_26 rfl (jx_nl fun z19 hz19 => ?_)
    refine lv_lconst (v := 1) hx hb dX5_slotOf_27 (by decide) ?_
    refine lv_land hx hb dX5_slotOf_28 (jx_nl fun z20 hz20 => ?_)
    refine lv_l2i hx hb dX5_slotOf_29 rfl (jx_nm fun z21 hz21 => ?_)
    refine lv_iadd hx hb dX5_slotOf_30 (jx_nm fun z22 hz22 => ?_)
    exact kr z22 g lg ar bk _ _ _ _ ⟨rfl, rfl, rfl, rfl⟩ hw dX5_slotOf_31
  · refine lv_lload_n hx hb dX5_slotOf_8 rfl (lv_at hl 0 rfl) ?_
    refine lv_l2i hx hb dX5_slotOf_9 rfl (jx_nm fun z23 hz23 => ?_)
    exact kr z23 g lg ar bk _ _ _ _ ⟨rfl, rfl, rfl, rfl⟩ hw dX5_slotOf_10

set_option maxHeartbeats 4000000 in
set_option maxRecDepth 100000 in
/-- X5_codeFar on (9,) -/
theorem jx_X5_codeFar (l : Launch) (hlt : l.stackTraces = false) (D : va_G) (t3 : Nat × Nat × Nat) (cI cJ : ClassId) (ad : Nat → Nat) (g : Nat → Int32) (lg : Nat → Int64) (ar : Nat → Nat → Int32) (bk : Nat → Int64) (sz : Nat) (y1 : Int64) (y3 : Int32) (hi_a0rg : hk_rg 0 255 (ar 0)) : JMl l yX5_codeFar (Cond.code yX5_codeFar cX5_codeFar 13 (some .long) :: wwX) { frames := 9, cells := 1, slots := 6, locals := 155 } t3 D xw cI cJ ad [.ref (ad 9), .long y1, .int y3] (xw cI cJ ad g lg ar bk) sz 1 6 (fun (r : Int64) g' lg' ar' bk' => hk_fr [14, 15, 17, 19, 20] g g' ∧ hk_fr [0, 1, 2] lg lg' ∧ hk_fr [1, 2] ar ar' ∧ bk = bk') (fun g' lg' ar' bk' => hk_fr [14, 15, 17, 19, 20] g g' ∧ hk_fr [0, 1, 2] lg lg' ∧ hk_fr [1, 2] ar ar' ∧ bk = bk' ∧ ((g 18).toInt ≠ 0)) := by
  refine jx_metl (cc := cX5_codeFar) (maxL := 13) (ret := (some .long)) rfl (by decide) rfl (Nat.le_of_ble_eq_true rfl) ?_
  intro p e s m args below meth c ls Q A hx hb hml hown hts hA hZ hw hl hQ kr kt
  have hq : ∀ w ∈ wwX, w.before args s = true := fun w h => hts w (List.mem_cons_of_mem _ h)
  have hl : lv_has ls 13 [(0, .ref (ad 9)), (1, .long y1), (3, .int y3)] := hl
  refine lv_iconst (v := 0) hx hb dX5_codeFar_0 (by decide) ?_
  refine lv_iload_n hx hb dX5_codeFar_1 rfl (lv_at hl 2 rfl) ?_
  refine lv_iconst (v := 2) hx hb dX5_codeFar_2 (by decide) ?_
  refine lv_isub hx hb dX5_codeFar_3 (jx_nm fun z1 hz1 => ?_)
  refine lv_iconst (v := 3) hx hb dX5_codeFar_4 (by decide) ?_
  refine va_mmin hx hb (by rw [hml]; exact hl.1.symm) hown (hq _ wX_355) (hq _ wX_146) (hq _ wX_143) (hq _ wX_147) (Nat.le_of_ble_eq_true rfl) (Nat.le_of_ble_eq_true rfl) (Nat.le_of_ble_eq_true rfl) (Nat.le_of_ble_eq_true rfl) dX5_codeFar_5 (jx_nm fun z2 hz2 => ?_)
  refine va_mmax hx hb (by rw [hml]; exact hl.1.symm) hown (hq _ wX_356) (hq _ wX_142) (hq _ wX_143) (hq _ wX_144) (Nat.le_of_ble_eq_true rfl) (Nat.le_of_ble_eq_true rfl) (Nat.le_of_ble_eq_true rfl) (Nat.le_of_ble_eq_true rfl) dX5_codeFar_8 (jx_nm fun z3 hz3 => ?_)
  refine lv_istore (lv' := [(4, .int z3), (0, .ref (ad 9)), (1, .long y1), (3, .int y3)]) hx hb dX5_codeFar_11 hl (by decide) rfl (fun ls hl => ?_)
  refine lv_aload_n hx hb dX5_codeFar_13 rfl (lv_at hl 1 rfl) ?_
  refine hk_get (ci := 8) (C := RX5) (T := TX5) (N := 6) (v := .ref (ad 7)) hx hb hts (fun _ h => List.mem_cons_of_mem _ (wwXc_wsX50 _ h)) hown hw 9 rfl rfl 0 (by decide) (hq _ wX_357) rfl dX5_codeFar_14 ?_
  refine lv_sipush (v := 432) hx hb dX5_codeFar_17 (by decide) ?_
  refine lv_iload hx hb dX5_codeFar_20 (lv_at hl 0 rfl) ?_
  refine lv_bipush (v := 64) hx hb dX5_codeFar_22 (by decide) ?_
  refine lv_imul hx hb dX5_codeFar_24 (jx_nm fun z4 hz4 => ?_)
  refine lv_iadd hx hb dX5_codeFar_25 (jx_nm fun z5 hz5 => ?_)
  refine lv_bipush (v := 6) hx hb dX5_codeFar_26 (by decide) ?_
  refine lv_lload_n hx hb dX5_codeFar_28 rfl (lv_at hl 2 rfl) ?_
  refine lv_lconst (v := 1) hx hb dX5_codeFar_29 (by decide) ?_
  refine lv_lsub hx hb dX5_codeFar_30 (jx_nl fun z6 hz6 => ?_)
  refine jx_Si (As := [.long z6]) (rest := [.int 6, .int z5, .ref (ad 7)]) ⟨hx, hb, hml, hown, hts⟩ hZ hw hA (jx_X5_slotOf l hlt D t3 cI cJ ad g lg ar bk _ z6) (va_cwS 1 hts (jx_gS wwX_good wX_358 wX_359 wX_215 wX_360) rfl rfl rfl (by decide +kernel) ⟨Nat.le_of_ble_eq_true rfl, Nat.le_of_ble_eq_true rfl⟩) rfl hl.1 rfl (Nat.le_of_ble_eq_true rfl) dX5_codeFar_31 ⟨Nat.le_of_ble_eq_true rfl, Nat.le_of_ble_eq_true rfl⟩ (fun _ _ _ _ _ _ _ _ hp _ _ _ _ => hp.elim) (fun r11 g12 l13 a14 b15 H locs hp16 hw => ?_)
  obtain ⟨rfl, rfl, rfl, rfl⟩ := hp16
  refine jx_Vi (As := [.int z5, .int 6, .int r11]) (rest := []) ⟨hx, hb, hml, hown, hts⟩ hZ hw hA (jx_X2_tree l hlt D t3 cI cJ ad g lg ar bk _ z5 6 r11 (ob129 (((6 : Int32)).toInt) (by decide)) hi_a0rg) (cwV 3 hts (jx_gV wwX_good wX_361 wX_362 wX_363 wX_270 wX_364) rfl rfl rfl (by decide +kernel) ⟨Nat.le_of_ble_eq_true rfl, Nat.le_of_ble_eq_true rfl⟩) 7 (ci := 5) (T := TX2) (N := 9) rfl rfl rfl hl.1 rfl (Nat.le_of_ble_eq_true rfl) dX5_codeFar_34 ⟨Nat.le_of_ble_eq_true rfl, Nat.le_of_ble_eq_true rfl⟩ (fun u21 u22 u23 u24 H locs ce q hp hw h1 h2 h3 => by obtain ⟨ht0, ht1, ht2, rfl, ht4⟩ := hp; exact kt _ _ _ _ _ _ _ _ _ _ _ ⟨ht0, ht1, ht2, rfl, (ob99 ((g 18).toInt) ht4 (hE_rng (g 18)))⟩ hw h1 h2 h3) (fun r25 g26 l27 a28 b29 H locs hp30 hw => ?_)
  obtain ⟨h31, h32, h33, rfl, h35⟩ := hp30
  refine lv_istore (lv' := [(5, .int r25), (4, .int z3), (0, .ref (ad 9)), (1, .long y1), (3, .int y3)]) hx hb dX5_codeFar_37 hl (by decide) rfl (fun ls hl => ?_)
  refine lv_iload hx hb dX5_codeFar_39 (lv_at hl 0 rfl) ?_
  refine lv_iconst (v := 4) hx hb dX5_codeFar_41 (by decide) ?_
  refine lv_icmp_ge (tgt := 51) hx hb dX5_codeFar_42 (by decide) (fun cc36 => ?_) (fun cc36 => ?_)
  · refine lv_iload hx hb dX5_codeFar_51 (lv_at hl 0 rfl) ?_
    refine lv_iconst (v := 2) hx hb dX5_codeFar_53 (by decide) ?_
    refine lv_idiv hx hb dX5_codeFar_54 (by decide) (jx_nm fun z37 hz37 => ?_)
    refine lv_iconst (v := 1) hx hb dX5_codeFar_55 (by decide) ?_
    refine lv_isub hx hb dX5_codeFar_56 (jx_nm fun z38 hz38 => ?_)
    refine lv_istore (lv' := [(6, .int z38), (5, .int r25), (4, .int z3), (0, .ref (ad 9)), (1, .long y1), (3, .int y3)]) hx hb dX5_codeFar_57 hl (by decide) rfl (fun ls hl => ?_)
    refine lv_ldc2 (v := 2) hx hb hown (hq _ wX_365) dX5_codeFar_59 ?_
    refine lv_iload hx hb dX5_codeFar_62 (lv_at hl 1 rfl) ?_
    refine lv_iconst (v := 1) hx hb dX5_codeFar_64 (by decide) ?_
    refine lv_iand hx hb dX5_codeFar_65 (jx_nm fun z39 hz39 => ?_)
    refine lv_i2l hx hb dX5_codeFar_66 rfl (jx_nl fun z40 hz40 => ?_)
    refine lv_ladd hx hb dX5_codeFar_67 (jx_nl fun z41 hz41 => ?_)
    have xz41 : (z41).toInt = ((2 : Int64)).toInt + (z40).toInt := (hE_impL (hE_addL hz41) (ob130 (((2 : Int64)).toInt) ((z40).toInt) ((z39).toInt) ((r25).toInt) (((4 : Int32)).toInt) ((z37).toInt) ((z38).toInt) (((1 : Int32)).toInt) (hE_i2l hz40) (hE_and 1 2 hz39 (by decide) (by decide) (by decide)) h35 (hE_le cc36) (hE_div 2 hz37 (by decide) (by decide)) (hE_sub hz38) (by decide) (hE_rngL (z40)) (hE_rng (z39)) (hE_rng (r25)) (by decide) (hE_rng (z37)) (hE_rng (z38)) (by decide)))
    refine lv_iload hx hb dX5_codeFar_68 (lv_at hl 0 rfl) ?_
    refine lv_lshl hx hb dX5_codeFar_70 rfl (jx_nl fun z42 hz42 => ?_)
    refine lv_lstore (lv' := [(7, .long z42), (6, .int z38), (5, .int r25), (4, .int z3), (0, .ref (ad 9)), (1, .long y1), (3, .int y3)]) hx hb dX5_codeFar_71 hl (by decide) rfl (fun ls hl => ?_)
    refine lv_lload_n hx hb dX5_codeFar_73 rfl (lv_at hl 5 rfl) ?_
    refine lv_lconst (v := 1) hx hb dX5_codeFar_74 (by decide) ?_
    refine lv_lsub hx hb dX5_codeFar_75 (jx_nl fun z43 hz43 => ?_)
    refine lv_lload hx hb dX5_codeFar_76 (lv_at hl 0 rfl) ?_
    refine lv_lsub hx hb dX5_codeFar_78 (jx_nl fun z44 hz44 => ?_)
    refine lv_lstore (lv' := [(9, .long z44), (7, .long z42), (6, .int z38), (5, .int r25), (4, .int z3), (0, .ref (ad 9)), (1, .long y1), (3, .int y3)]) hx hb dX5_codeFar_79 hl (by decide) rfl (fun ls hl => ?_)
    refine lv_iload hx hb dX5_codeFar_81 (lv_at hl 3 rfl) ?_
    refine lv_bipush (v := 14) hx hb dX5_codeFar_83 (by decide) ?_
    refine lv_icmp_ge (tgt := 118) hx hb dX5_codeFar_85 (by decide) (fun cc45 => ?_) (fun cc45 => ?_)
    · refine lv_aload_n hx hb dX5_codeFar_118 rfl (lv_at hl 5 rfl) ?_
      refine hk_get (ci := 8) (C := RX5) (T := TX5) (N := 6) (v := .ref (ad 7)) hx hb hts (fun _ h => List.mem_cons_of_mem _ (wwXc_wsX50 _ h)) hown hw 9 rfl rfl 0 (by decide) (hq _ wX_357) rfl dX5_codeFar_119 ?_
      refine lv_iload hx hb dX5_codeFar_122 (lv_at hl 2 rfl) ?_
      refine lv_iconst (v := 4) hx hb dX5_codeFar_124 (by decide) ?_
      refine lv_isub hx hb dX5_codeFar_125 (jx_nm fun z46 hz46 => ?_)
      refine lv_lload hx hb dX5_codeFar_126 (lv_at hl 0 rfl) ?_
      refine lv_iconst (v := 4) hx hb dX5_codeFar_128 (by decide) ?_
      refine lv_lushr hx hb dX5_codeFar_129 rfl (jx_nl fun z47 hz47 => ?_)
      have e_g26_18 : g26 18 = (g 18) := (h31 18 rfl)
      refine jx_Vl (As := [.int z46, .long z47]) (rest := []) ⟨hx, hb, hml, hown, hts⟩ hZ hw hA (jx_X2_plain l hlt D t3 cI cJ ad g26 l27 a28 bk _ z46 z47 (hk_pE (P := hk_rg 0 255) hi_a0rg (h33 0 rfl))) (cwV 2 hts (jx_gV wwX_good wX_370 wX_371 wX_372 wX_270 wX_373) rfl rfl rfl (by decide +kernel) ⟨Nat.le_of_ble_eq_true rfl, Nat.le_of_ble_eq_true rfl⟩) 7 (ci := 5) (T := TX2) (N := 9) rfl rfl rfl hl.1 rfl (Nat.le_of_ble_eq_true rfl) dX5_codeFar_130 ⟨Nat.le_of_ble_eq_true rfl, Nat.le_of_ble_eq_true rfl⟩ (fun u48 u49 u50 u51 H locs ce q hp hw h1 h2 h3 => by obtain ⟨ht0, ht1, ht2, rfl, ht4⟩ := hp; exact kt _ _ _ _ _ _ _ _ _ _ _ ⟨(hk_frT h31 (by decide) ht0), (hk_frT h32 (by decide) ht1), (hk_frT h33 (by decide) ht2), rfl, (ob67 ((g 18).toInt) ((g26 18).toInt) (congrArg Int32.toInt e_g26_18) ht4 (hE_rng (g 18)) (hE_rng (g26 18)))⟩ hw h1 h2 h3) (fun r52 g53 l54 a55 b56 H locs hp57 hw => ?_)
      obtain ⟨h58, h59, h60, rfl⟩ := hp57
      have hr62 : hk_rg 0 255 (a55 0) := (hk_pE (P := hk_rg 0 255) (hk_pE (P := hk_rg 0 255) hi_a0rg (h33 0 rfl)) (h60 0 rfl))
      refine lv_iconst (v := 4) hx hb dX5_codeFar_133 (by decide) ?_
      refine lv_lshl hx hb dX5_codeFar_134 rfl (jx_nl fun z63 hz63 => ?_)
      refine lv_lstore (lv' := [(11, .long z63), (9, .long z44), (7, .long z42), (6, .int z38), (5, .int r25), (4, .int z3), (0, .ref (ad 9)), (1, .long y1), (3, .int y3)]) hx hb dX5_codeFar_135 hl (by decide) rfl (fun ls hl => ?_)
      refine lv_lload hx hb dX5_codeFar_137 (lv_at hl 2 rfl) ?_
      refine lv_lload hx hb dX5_codeFar_139 (lv_at hl 0 rfl) ?_
      refine lv_ladd hx hb dX5_codeFar_141 (jx_nl fun z64 hz64 => ?_)
      refine lv_aload_n hx hb dX5_codeFar_142 rfl (lv_at hl 6 rfl) ?_
      refine hk_get (ci := 8) (C := RX5) (T := TX5) (N := 6) (v := .ref (ad 7)) hx hb hts (fun _ h => List.mem_cons_of_mem _ (wwXc_wsX50 _ h)) hown hw 9 rfl rfl 0 (by decide) (hq _ wX_357) rfl dX5_codeFar_143 ?_
      refine lv_sipush (v := 1008) hx hb dX5_codeFar_146 (by decide) ?_
      refine lv_iconst (v := 4) hx hb dX5_codeFar_149 (by decide) ?_
      refine lv_lload hx hb dX5_codeFar_150 (lv_at hl 1 rfl) ?_
      refine lv_l2i hx hb dX5_codeFar_152 rfl (jx_nm fun z65 hz65 => ?_)
      refine lv_bipush (v := 15) hx hb dX5_codeFar_153 (by decide) ?_
      refine lv_iand hx hb dX5_codeFar_155 (jx_nm fun z66 hz66 => ?_)
      have e_g53_18 : g53 18 = (g 18) := ((h58 18 rfl)).trans e_g26_18
      refine jx_Vi (As := [.int 1008, .int 4, .int z66]) (rest := [.long z64]) ⟨hx, hb, hml, hown, hts⟩ hZ hw hA (jx_X2_turned l hlt D t3 cI cJ ad g53 l54 a55 bk _ 1008 4 z66 hr62) (cwV 3 hts (jx_gV wwX_good wX_366 wX_367 wX_368 wX_270 wX_369) rfl rfl rfl (by decide +kernel) ⟨Nat.le_of_ble_eq_true rfl, Nat.le_of_ble_eq_true rfl⟩) 7 (ci := 5) (T := TX2) (N := 9) rfl rfl rfl hl.1 rfl (Nat.le_of_ble_eq_true rfl) dX5_codeFar_156 ⟨Nat.le_of_ble_eq_true rfl, Nat.le_of_ble_eq_true rfl⟩ (fun u67 u68 u69 u70 H locs ce q hp hw h1 h2 h3 => by obtain ⟨ht0, ht1, ht2, rfl, ht4⟩ := hp; exact kt _ _ _ _ _ _ _ _ _ _ _ ⟨(hk_frT (hk_frT h31 (by decide) h58) (by decide) ht0), (hk_frT (hk_frT h32 (by decide) h59) (by decide) ht1), (hk_frT (hk_frT h33 (by decide) h60) (by decide) ht2), rfl, (ob100 ((g 18).toInt) ((g26 18).toInt) ((g53 18).toInt) (congrArg Int32.toInt e_g26_18) (congrArg Int32.toInt e_g53_18) ht4 (hE_rng (g 18)) (hE_rng (g26 18)) (hE_rng (g53 18)))⟩ hw h1 h2 h3) (fun r71 g72 l73 a74 b75 H locs hp76 hw => ?_)
      obtain ⟨h77, h78, h79, rfl⟩ := hp76
      refine lv_i2l hx hb dX5_codeFar_159 rfl (jx_nl fun z81 hz81 => ?_)
      refine lv_ladd hx hb dX5_codeFar_160 (jx_nl fun z82 hz82 => ?_)
      refine lv_lconst (v := 1) hx hb dX5_codeFar_161 (by decide) ?_
      refine lv_ladd hx hb dX5_codeFar_162 (jx_nl fun z83 hz83 => ?_)
      exact kr z83 g72 l73 a74 bk _ _ _ _ ⟨(hk_frT (hk_frT h31 (by decide) h58) (by decide) h77), (hk_frT (hk_frT h32 (by decide) h59) (by decide) h78), (hk_frT (hk_frT h33 (by decide) h60) (by decide) h79), rfl⟩ hw dX5_codeFar_163
    · refine lv_lload hx hb dX5_codeFar_88 (lv_at hl 1 rfl) ?_
      refine lv_aload_n hx hb dX5_codeFar_90 rfl (lv_at hl 5 rfl) ?_
      refine hk_get (ci := 8) (C := RX5) (T := TX5) (N := 6) (v := .ref (ad 7)) hx hb hts (fun _ h => List.mem_cons_of_mem _ (wwXc_wsX50 _ h)) hown hw 9 rfl rfl 0 (by decide) (hq _ wX_357) rfl dX5_codeFar_91 ?_
      refine lv_sipush (v := 688) hx hb dX5_codeFar_94 (by decide) ?_
      refine lv_iload hx hb dX5_codeFar_97 (lv_at hl 3 rfl) ?_
      refine lv_iconst (v := 4) hx hb dX5_codeFar_99 (by decide) ?_
      refine lv_isub hx hb dX5_codeFar_100 (jx_nm fun z84 hz84 => ?_)
      have xz84 : (z84).toInt = (r25).toInt - ((4 : Int32)).toInt := (hE_imp (hE_sub hz84) (ob131 ((r25).toInt) (((4 : Int32)).toInt) ((z37).toInt) ((z39).toInt) (((14 : Int32)).toInt) ((z38).toInt) (((1 : Int32)).toInt) ((z40).toInt) ((z41).toInt) (((2 : Int64)).toInt) h35 (hE_le cc36) (hE_div 2 hz37 (by decide) (by decide)) (hE_and 1 2 hz39 (by decide) (by decide) (by decide)) (hE_nle cc45) (hE_sub hz38) (hE_i2l hz40) xz41 (hE_rng (r25)) (by decide) (hE_rng (z37)) (hE_rng (z39)) (by decide) (hE_rng (z38)) (by decide) (hE_rngL (z40)) (hE_rngL (z41)) (by decide)))
      refine lv_bipush (v := 32) hx hb dX5_codeFar_101 (by decide) ?_
      refine lv_imul hx hb dX5_codeFar_103 (jx_nm fun z85 hz85 => ?_)
      have xz85 : (z85).toInt = (z84).toInt * 32 := (hE_imp (hE_mul 32 hz85 (by decide)) (ob132 ((z84).toInt) ((r25).toInt) (((4 : Int32)).toInt) ((z37).toInt) ((z39).toInt) (((14 : Int32)).toInt) ((z38).toInt) (((1 : Int32)).toInt) ((z40).toInt) ((z41).toInt) (((2 : Int64)).toInt) xz84 h35 (hE_le cc36) (hE_div 2 hz37 (by decide) (by decide)) (hE_and 1 2 hz39 (by decide) (by decide) (by decide)) (hE_nle cc45) (hE_sub hz38) (hE_i2l hz40) xz41 (hE_rng (z84)) (hE_rng (r25)) (by decide) (hE_rng (z37)) (hE_rng (z39)) (by decide) (hE_rng (z38)) (by decide) (hE_rngL (z40)) (hE_rngL (z41)) (by decide)))
      refine lv_iadd hx hb dX5_codeFar_104 (jx_nm fun z86 hz86 => ?_)
      have xz86 : (z86).toInt = ((688 : Int32)).toInt + (z85).toInt := (hE_imp (hE_add hz86) (ob133 (((688 : Int32)).toInt) ((z85).toInt) ((z84).toInt) ((r25).toInt) (((4 : Int32)).toInt) ((z37).toInt) ((z39).toInt) (((14 : Int32)).toInt) ((z38).toInt) (((1 : Int32)).toInt) ((z40).toInt) ((z41).toInt) (((2 : Int64)).toInt) xz85 xz84 h35 (hE_le cc36) (hE_div 2 hz37 (by decide) (by decide)) (hE_and 1 2 hz39 (by decide) (by decide) (by decide)) (hE_nle cc45) (hE_sub hz38) (hE_i2l hz40) xz41 (by decide) (hE_rng (z85)) (hE_rng (z84)) (hE_rng (r25)) (by decide) (hE_rng (z37)) (hE_rng (z39)) (by decide) (hE_rng (z38)) (by decide) (hE_rngL (z40)) (hE_rngL (z41)) (by decide)))
      refine lv_iload hx hb dX5_codeFar_105 (lv_at hl 2 rfl) ?_
      refine lv_lload hx hb dX5_codeFar_107 (lv_at hl 0 rfl) ?_
      refine lv_l2i hx hb dX5_codeFar_109 rfl (jx_nm fun z87 hz87 => ?_)
      have e_g26_18 : g26 18 = (g 18) := (h31 18 rfl)
      refine jx_Vi (As := [.int z86, .int z38, .int z87]) (rest := [.long z42]) ⟨hx, hb, hml, hown, hts⟩ hZ hw hA (jx_X2_turned l hlt D t3 cI cJ ad g26 l27 a28 bk _ z86 z38 z87 (hk_pE (P := hk_rg 0 255) hi_a0rg (h33 0 rfl))) (cwV 3 hts (jx_gV wwX_good wX_366 wX_367 wX_368 wX_270 wX_369) rfl rfl rfl (by decide +kernel) ⟨Nat.le_of_ble_eq_true rfl, Nat.le_of_ble_eq_true rfl⟩) 7 (ci := 5) (T := TX2) (N := 9) rfl rfl rfl hl.1 rfl (Nat.le_of_ble_eq_true rfl) dX5_codeFar_110 ⟨Nat.le_of_ble_eq_true rfl, Nat.le_of_ble_eq_true rfl⟩ (fun u88 u89 u90 u91 H locs ce q hp hw h1 h2 h3 => by obtain ⟨ht0, ht1, ht2, rfl, ht4⟩ := hp; exact kt _ _ _ _ _ _ _ _ _ _ _ ⟨(hk_frT h31 (by decide) ht0), (hk_frT h32 (by decide) ht1), (hk_frT h33 (by decide) ht2), rfl, (ob67 ((g 18).toInt) ((g26 18).toInt) (congrArg Int32.toInt e_g26_18) ht4 (hE_rng (g 18)) (hE_rng (g26 18)))⟩ hw h1 h2 h3) (fun r92 g93 l94 a95 b96 H locs hp97 hw => ?_)
      obtain ⟨h98, h99, h100, rfl⟩ := hp97
      have hr102 : hk_rg 0 255 (a95 0) := (hk_pE (P := hk_rg 0 255) (hk_pE (P := hk_rg 0 255) hi_a0rg (h33 0 rfl)) (h100 0 rfl))
      refine lv_i2l hx hb dX5_codeFar_113 rfl (jx_nl fun z103 hz103 => ?_)
      refine lv_ladd hx hb dX5_codeFar_114 (jx_nl fun z104 hz104 => ?_)
      refine lv_lconst (v := 1) hx hb dX5_codeFar_115 (by decide) ?_
      refine lv_ladd hx hb dX5_codeFar_116 (jx_nl fun z105 hz105 => ?_)
      exact kr z105 g93 l94 a95 bk _ _ _ _ ⟨(hk_frT h31 (by decide) h98), (hk_frT h32 (by decide) h99), (hk_frT h33 (by decide) h100), rfl⟩ hw dX5_codeFar_117
  · refine lv_iload hx hb dX5_codeFar_45 (lv_at hl 0 rfl) ?_
    refine lv_iconst (v := 1) hx hb dX5_codeFar_47 (by decide) ?_
    refine lv_iadd hx hb dX5_codeFar_48 (jx_nm fun z106 hz106 => ?_)
    have xz106 : (z106).toInt = (r25).toInt + ((1 : Int32)).toInt := (hE_imp (hE_add hz106) (ob134 ((r25).toInt) (((1 : Int32)).toInt) (((4 : Int32)).toInt) h35 (hE_nle cc36) (hE_rng (r25)) (by decide) (by decide)))
    refine lv_i2l hx hb dX5_codeFar_49 rfl (jx_nl fun z107 hz107 => ?_)
    exact kr z107 g26 l27 a28 bk _ _ _ _ ⟨h31, h32, h33, rfl⟩ hw dX5_codeFar_50

set_option maxHeartbeats 4000000 in
set_option maxRecDepth 100000 in
/-- X5_bringToFront on (9,) -/
theorem jx_X5_bringToFront (l : Launch) (hlt : l.stackTraces = false) (D : va_G) (t3 : Nat × Nat × Nat) (cI cJ : ClassId) (ad : Nat → Nat) (g : Nat → Int32) (lg : Nat → Int64) (ar : Nat → Nat → Int32) (bk : Nat → Int64) (sz : Nat) (y1 : Int32) (y2 : Int64) : JMv l yX5_bringToFront (Cond.code yX5_bringToFront cX5_bringToFront 5 none :: wwX) { frames := 1, cells := 1, slots := 6, locals := 24 } t3 D xw cI cJ ad [.ref (ad 9), .int y1, .long y2] (xw cI cJ ad g lg ar bk) sz 1 6 (fun g' lg' ar' bk' => g = g' ∧ lg = lg' ∧ ar = ar' ∧ True) (fun g' lg' ar' bk' => False) := by
  refine jx_metv (cc := cX5_bringToFront) (maxL := 5) (ret := none) rfl (by decide) rfl (Nat.le_of_ble_eq_true rfl) ?_
  intro p e s m args below meth c ls Q A hx hb hml hown hts hA hZ hw hl hQ kr kt
  have hq : ∀ w ∈ wwX, w.before args s = true := fun w h => hts w (List.mem_cons_of_mem _ h)
  have hl : lv_has ls 5 [(0, .ref (ad 9)), (1, .int y1), (2, .long y2)] := hl
  refine lv_iload_n hx hb dX5_bringToFront_0 rfl (lv_at hl 1 rfl) ?_
  refine lv_iconst (v := 3) hx hb dX5_bringToFront_1 (by decide) ?_
  refine va_mmin hx hb (by rw [hml]; exact hl.1.symm) hown (hq _ wX_355) (hq _ wX_146) (hq _ wX_143) (hq _ wX_147) (Nat.le_of_ble_eq_true rfl) (Nat.le_of_ble_eq_true rfl) (Nat.le_of_ble_eq_true rfl) (Nat.le_of_ble_eq_true rfl) dX5_bringToFront_2 (jx_nm fun z1 hz1 => ?_)
  refine lv_istore (lv' := [(4, .int z1), (0, .ref (ad 9)), (1, .int y1), (2, .long y2)]) hx hb dX5_bringToFront_5 hl (by decide) rfl (fun ls hl => ?_)
  have B2 : ∀ (k5 : Nat) (x3 : Int32) (b4 : Nat → Int64) (ls : Array Slot) (H : Heap) (locs : List Loc), ((x3).toInt + 2147483649 ≤ (k5 : Int)) → ((x3).toInt ≤ 3) → hk_W D (jT cI cJ) A s H locs (xw cI cJ ad g lg ar b4) → lv_has ls 5 [(0, .ref (ad 9)), (2, .long y2), (4, .int x3)] → W p l e { frames := 1, cells := 1, slots := 6, locals := 24 } s m args below meth c H locs 0 0 Q (F0 m 7 ls []) := by
    intro k5
    induction k5 with
    | zero =>
      intro x3 b4 ls H locs hrk_B2 hf_B2_0 hw hl
      exact False.elim (hk_no0 (0 * (x3).toInt) (ob135 ((x3).toInt) hf_B2_0 hrk_B2 (hE_rng (x3))) (by simp))
    | succ k5 ih_B2 =>
      intro x3 b4 ls H locs hrk_B2 hf_B2_0 hw hl
      have hrk_B2 := hk_rk hrk_B2
      refine lv_iload hx hb dX5_bringToFront_7 (lv_at hl 2 rfl) ?_
      refine lv_if_le (tgt := 34) hx hb dX5_bringToFront_9 (by decide) (fun cc6 => ?_) (fun cc6 => ?_)
      · refine lv_aload_n hx hb dX5_bringToFront_34 rfl (lv_at hl 0 rfl) ?_
        refine hk_get (ci := 8) (C := RX5) (T := TX5) (N := 6) (v := .ref (ad 10)) hx hb hts (fun _ h => List.mem_cons_of_mem _ (wwXc_wsX50 _ h)) hown hw 9 rfl rfl 1 (by decide) (hq _ wX_354) rfl dX5_bringToFront_35 ?_
        refine lv_iconst (v := 0) hx hb dX5_bringToFront_38 (by decide) ?_
        refine lv_lload_n hx hb dX5_bringToFront_39 rfl (lv_at hl 1 rfl) ?_
        refine jx_last xw (g := g) (lg := lg) (ar := ar) (bk := b4) hx hb hw 10 1 rfl rfl (show ¬ (_ ∨ _) by decide) dX5_bringToFront_40 rfl (fun H locs b7 h_b7 hw => ?_)
        exact kr g lg ar b7 _ _ _ _ ⟨rfl, rfl, rfl, trivial⟩ hw dX5_bringToFront_41
      · refine lv_aload_n hx hb dX5_bringToFront_12 rfl (lv_at hl 0 rfl) ?_
        refine hk_get (ci := 8) (C := RX5) (T := TX5) (N := 6) (v := .ref (ad 10)) hx hb hts (fun _ h => List.mem_cons_of_mem _ (wwXc_wsX50 _ h)) hown hw 9 rfl rfl 1 (by decide) (hq _ wX_354) rfl dX5_bringToFront_13 ?_
        refine lv_iload hx hb dX5_bringToFront_16 (lv_at hl 2 rfl) ?_
        refine lv_aload_n hx hb dX5_bringToFront_18 rfl (lv_at hl 0 rfl) ?_
        refine hk_get (ci := 8) (C := RX5) (T := TX5) (N := 6) (v := .ref (ad 10)) hx hb hts (fun _ h => List.mem_cons_of_mem _ (wwXc_wsX50 _ h)) hown hw 9 rfl rfl 1 (by decide) (hq _ wX_354) rfl dX5_bringToFront_19 ?_
        refine lv_iload hx hb dX5_bringToFront_22 (lv_at hl 2 rfl) ?_
        refine lv_iconst (v := 1) hx hb dX5_bringToFront_24 (by decide) ?_
        refine lv_isub hx hb dX5_bringToFront_25 (jx_nm fun z8 hz8 => ?_)
        have xz8 : (z8).toInt = (x3).toInt - ((1 : Int32)).toInt := (hE_imp (hE_sub hz8) (ob136 ((x3).toInt) (((1 : Int32)).toInt) (k5 : Int) (((0 : Int32)).toInt) hf_B2_0 hrk_B2 (hE_nle cc6) (hE_rng (x3)) (by decide) (by decide)))
        refine jx_lald hx hb hw 10 1 rfl rfl (hE_in (n := 4) (ob137 ((z8).toInt) ((x3).toInt) (((1 : Int32)).toInt) (k5 : Int) (((0 : Int32)).toInt) xz8 hf_B2_0 hrk_B2 (hE_nle cc6) (hE_rng (z8)) (hE_rng (x3)) (by decide) (by decide))) dX5_bringToFront_26 (fun z9 hz9 => ?_)
        refine jx_last xw (g := g) (lg := lg) (ar := ar) (bk := b4) hx hb hw 10 1 rfl rfl (hE_in (n := 4) (ob138 ((x3).toInt) (k5 : Int) (((0 : Int32)).toInt) ((z8).toInt) (((1 : Int32)).toInt) hf_B2_0 hrk_B2 (hE_nle cc6) xz8 (hE_rng (x3)) (by decide) (hE_rng (z8)) (by decide))) dX5_bringToFront_27 rfl (fun H locs b10 h_b10 hw => ?_)
        obtain ⟨z11, hz11⟩ : ∃ z : Int32, x3 + (-1) = z := ⟨_, rfl⟩
        refine lv_iinc (v := z11) (lv' := [(4, .int z11), (0, .ref (ad 9)), (2, .long y2)]) hx hb dX5_bringToFront_28 hl (k := 2) rfl hz11 (by decide) rfl (fun ls hl => ?_)
        have xz11 : (z11).toInt = (x3).toInt + (((-1) : Int32)).toInt := (hE_imp (hE_add hz11) (ob139 ((x3).toInt) ((((-1) : Int32)).toInt) (k5 : Int) (((0 : Int32)).toInt) ((z8).toInt) (((1 : Int32)).toInt) hf_B2_0 hrk_B2 (hE_nle cc6) xz8 (hE_rng (x3)) (by decide) (by decide) (hE_rng (z8)) (by decide)))
        refine lv_goto (tgt := 7) hx hb dX5_bringToFront_31 (by decide) ?_
        exact ih_B2 z11 b10 ls _ _ (ob140 ((z11).toInt) (k5 : Int) ((x3).toInt) ((((-1) : Int32)).toInt) (((0 : Int32)).toInt) ((z8).toInt) (((1 : Int32)).toInt) hrk_B2 xz11 hf_B2_0 (hE_nle cc6) xz8 (hE_rng (z11)) (hE_rng (x3)) (by decide) (by decide) (hE_rng (z8)) (by decide)) (ob141 ((z11).toInt) ((x3).toInt) ((((-1) : Int32)).toInt) (k5 : Int) (((0 : Int32)).toInt) ((z8).toInt) (((1 : Int32)).toInt) xz11 hf_B2_0 hrk_B2 (hE_nle cc6) xz8 (hE_rng (z11)) (hE_rng (x3)) (by decide) (by decide) (hE_rng (z8)) (by decide)) hw (lv_sub hl [1, 2, 0] rfl)
  exact B2 ((z1).toInt + 2147483649).toNat z1 bk ls _ _ (Int.self_le_toNat _) (ob142 ((z1).toInt) ((y1).toInt) (((3 : Int32)).toInt) (hE_min hz1) (hE_rng (z1)) (hE_rng (y1)) (by decide)) hw (lv_sub hl [1, 3, 0] rfl)

set_option maxHeartbeats 4000000 in
set_option maxRecDepth 100000 in
/-- X5_follow on (9,) -/
theorem jx_X5_follow (l : Launch) (hlt : l.stackTraces = false) (D : va_G) (t3 : Nat × Nat × Nat) (cI cJ : ClassId) (ad : Nat → Nat) (g : Nat → Int32) (lg : Nat → Int64) (ar : Nat → Nat → Int32) (bk : Nat → Int64) (sz : Nat) (y1 : Int32) (y2 : Int64) : JMv l yX5_follow (Cond.code yX5_follow cX5_follow 4 none :: wwX) { frames := 2, cells := 1, slots := 6, locals := 48 } t3 D xw cI cJ ad [.ref (ad 9), .int y1, .long y2] (xw cI cJ ad g lg ar bk) sz 1 6 (fun g' lg' ar' bk' => hk_fr [24] g g' ∧ lg = lg' ∧ ar = ar' ∧ True) (fun g' lg' ar' bk' => False) := by
  refine jx_metv (cc := cX5_follow) (maxL := 4) (ret := none) rfl (by decide) rfl (Nat.le_of_ble_eq_true rfl) ?_
  intro p e s m args below meth c ls Q A hx hb hml hown hts hA hZ hw hl hQ kr kt
  have hq : ∀ w ∈ wwX, w.before args s = true := fun w h => hts w (List.mem_cons_of_mem _ h)
  have hl : lv_has ls 4 [(0, .ref (ad 9)), (1, .int y1), (2, .long y2)] := hl
  refine lv_iload_n hx hb dX5_follow_0 rfl (lv_at hl 1 rfl) ?_
  refine lv_if_ne (tgt := 48) hx hb dX5_follow_1 (by decide) (fun cc1 => ?_) (fun cc1 => ?_)
  · refine lv_iload_n hx hb dX5_follow_48 rfl (lv_at hl 1 rfl) ?_
    refine lv_bipush (v := 6) hx hb dX5_follow_49 (by decide) ?_
    refine lv_icmp_ne (tgt := 77) hx hb dX5_follow_51 (by decide) (fun cc2 => ?_) (fun cc2 => ?_)
    · refine lv_iload_n hx hb dX5_follow_77 rfl (lv_at hl 1 rfl) ?_
      refine lv_iconst (v := 1) hx hb dX5_follow_78 (by decide) ?_
      have B3 : ∀  (ls : Array Slot) (H : Heap) (locs : List Loc), hk_W D (jT cI cJ) A s H locs (xw cI cJ ad g lg ar bk) → lv_has ls 4 [(0, .ref (ad 9)), (2, .long y2)] → W p l e { frames := 2, cells := 1, slots := 6, locals := 48 } s m args below meth c H locs 0 0 Q (F0 m 88 ls []) := by
        intro ls H locs hw hl
        refine lv_aload_n hx hb dX5_follow_88 rfl (lv_at hl 0 rfl) ?_
        refine lv_iconst (v := 3) hx hb dX5_follow_89 (by decide) ?_
        refine lv_lload_n hx hb dX5_follow_90 rfl (lv_at hl 1 rfl) ?_
        refine jx_Vv (As := [.int 3, .long y2]) (rest := []) ⟨hx, hb, hml, hown, hts⟩ hZ hw hA (jx_X5_bringToFront l hlt D t3 cI cJ ad g lg ar bk _ 3 y2) (cwV 2 hts (jx_gV wwX_good wX_382 wX_383 wX_384 wX_215 wX_385) rfl rfl rfl (by decide +kernel) ⟨Nat.le_of_ble_eq_true rfl, Nat.le_of_ble_eq_true rfl⟩) 9 (ci := 8) (T := TX5) (N := 6) rfl rfl rfl hl.1 rfl (Nat.le_of_ble_eq_true rfl) dX5_follow_91 ⟨Nat.le_of_ble_eq_true rfl, Nat.le_of_ble_eq_true rfl⟩ (fun _ _ _ _ _ _ _ _ hp _ _ _ _ => hp.elim) (fun g9 l10 a11 b12 H locs hp13 hw => ?_)
        obtain ⟨rfl, rfl, rfl, -⟩ := hp13
        refine lv_aload_n hx hb dX5_follow_94 rfl (lv_at hl 0 rfl) ?_
        refine lv_aload_n hx hb dX5_follow_95 rfl (lv_at hl 0 rfl) ?_
        refine hk_get (ci := 8) (C := RX5) (T := TX5) (N := 6) (v := .int (g 24)) hx hb hts (fun _ h => List.mem_cons_of_mem _ (wwXc_wsX50 _ h)) hown hw 9 rfl rfl 5 (by decide) (hq _ wX_378) rfl dX5_follow_96 ?_
        refine lv_bipush (v := 7) hx hb dX5_follow_99 (by decide) ?_
        have B18 : ∀  (x19 : Int32) (ls : Array Slot) (H : Heap) (locs : List Loc), (7 ≤ (x19).toInt ∧ (x19).toInt ≤ 10) → hk_W D (jT cI cJ) A s H locs (xw cI cJ ad g lg ar b12) → lv_has ls 4 [] → W p l e { frames := 2, cells := 1, slots := 6, locals := 48 } s m args below meth c H locs 0 0 Q (F0 m 111 ls [.int x19, .ref (ad 9)]) := by
          intro x19 ls H locs hf_B18_0 hw hl
          refine jx_putg xw (g := g) (lg := lg) (ar := ar) (bk := b12) (x := x19) 24 (ci := 8) (C := RX5) (T := TX5) (N := 6) (ty := .int) hx hb hts (fun _ h => List.mem_cons_of_mem _ (wwXc_wsX50 _ h)) tyX5 tyX5_ok nmX5 hown hw 9 rfl rfl 5 (by decide) (hq _ wX_378) rfl (by decide +kernel) rfl rfl (Nat.le_of_ble_eq_true rfl) dX5_follow_111 rfl (fun H locs g20 h_g20 hw => ?_)
          refine lv_goto (tgt := 145) hx hb dX5_follow_114 (by decide) ?_
          exact kr g20 lg ar b12 _ _ _ _ ⟨(hk_frG hk_fr0 (by decide) h_g20), rfl, rfl, trivial⟩ hw dX5_follow_145
        refine lv_icmp_ge (tgt := 109) hx hb dX5_follow_101 (by decide) (fun cc21 => ?_) (fun cc21 => ?_)
        · refine lv_bipush (v := 10) hx hb dX5_follow_109 (by decide) ?_
          exact B18 10 ls _ _ (ob143 (((10 : Int32)).toInt) (by decide)) hw (lv_sub hl [] rfl)
        · refine lv_bipush (v := 7) hx hb dX5_follow_104 (by decide) ?_
          refine lv_goto (tgt := 111) hx hb dX5_follow_106 (by decide) ?_
          exact B18 7 ls _ _ (ob144 (((7 : Int32)).toInt) ((g 24).toInt) (hE_nle cc21) (by decide) (hE_rng (g 24))) hw (lv_sub hl [] rfl)
      refine lv_icmp_eq (tgt := 88) hx hb dX5_follow_79 (by decide) (fun cc22 => ?_) (fun cc22 => ?_)
      · exact B3 ls _ _ hw (lv_sub hl [0, 2] rfl)
      · refine lv_iload_n hx hb dX5_follow_82 rfl (lv_at hl 1 rfl) ?_
        refine lv_bipush (v := 7) hx hb dX5_follow_83 (by decide) ?_
        refine lv_icmp_ne (tgt := 117) hx hb dX5_follow_85 (by decide) (fun cc23 => ?_) (fun cc23 => ?_)
        · refine lv_aload_n hx hb dX5_follow_117 rfl (lv_at hl 0 rfl) ?_
          refine lv_iload_n hx hb dX5_follow_118 rfl (lv_at hl 1 rfl) ?_
          refine lv_iconst (v := 2) hx hb dX5_follow_119 (by decide) ?_
          refine lv_isub hx hb dX5_follow_120 (jx_nm fun z24 hz24 => ?_)
          refine lv_lload_n hx hb dX5_follow_121 rfl (lv_at hl 2 rfl) ?_
          refine jx_Vv (As := [.int z24, .long y2]) (rest := []) ⟨hx, hb, hml, hown, hts⟩ hZ hw hA (jx_X5_bringToFront l hlt D t3 cI cJ ad g lg ar bk _ z24 y2) (cwV 2 hts (jx_gV wwX_good wX_382 wX_383 wX_384 wX_215 wX_385) rfl rfl rfl (by decide +kernel) ⟨Nat.le_of_ble_eq_true rfl, Nat.le_of_ble_eq_true rfl⟩) 9 (ci := 8) (T := TX5) (N := 6) rfl rfl rfl hl.1 rfl (Nat.le_of_ble_eq_true rfl) dX5_follow_122 ⟨Nat.le_of_ble_eq_true rfl, Nat.le_of_ble_eq_true rfl⟩ (fun _ _ _ _ _ _ _ _ hp _ _ _ _ => hp.elim) (fun g30 l31 a32 b33 H locs hp34 hw => ?_)
          obtain ⟨rfl, rfl, rfl, -⟩ := hp34
          refine lv_aload_n hx hb dX5_follow_125 rfl (lv_at hl 0 rfl) ?_
          refine lv_aload_n hx hb dX5_follow_126 rfl (lv_at hl 0 rfl) ?_
          refine hk_get (ci := 8) (C := RX5) (T := TX5) (N := 6) (v := .int (g 24)) hx hb hts (fun _ h => List.mem_cons_of_mem _ (wwXc_wsX50 _ h)) hown hw 9 rfl rfl 5 (by decide) (hq _ wX_378) rfl dX5_follow_127 ?_
          refine lv_bipush (v := 7) hx hb dX5_follow_130 (by decide) ?_
          have B39 : ∀  (x40 : Int32) (ls : Array Slot) (H : Heap) (locs : List Loc), (8 ≤ (x40).toInt ∧ (x40).toInt ≤ 11) → hk_W D (jT cI cJ) A s H locs (xw cI cJ ad g lg ar b33) → lv_has ls 4 [] → W p l e { frames := 2, cells := 1, slots := 6, locals := 48 } s m args below meth c H locs 0 0 Q (F0 m 142 ls [.int x40, .ref (ad 9)]) := by
            intro x40 ls H locs hf_B39_0 hw hl
            refine jx_putg xw (g := g) (lg := lg) (ar := ar) (bk := b33) (x := x40) 24 (ci := 8) (C := RX5) (T := TX5) (N := 6) (ty := .int) hx hb hts (fun _ h => List.mem_cons_of_mem _ (wwXc_wsX50 _ h)) tyX5 tyX5_ok nmX5 hown hw 9 rfl rfl 5 (by decide) (hq _ wX_378) rfl (by decide +kernel) rfl rfl (Nat.le_of_ble_eq_true rfl) dX5_follow_142 rfl (fun H locs g41 h_g41 hw => ?_)
            exact kr g41 lg ar b33 _ _ _ _ ⟨(hk_frG hk_fr0 (by decide) h_g41), rfl, rfl, trivial⟩ hw dX5_follow_145
          refine lv_icmp_ge (tgt := 140) hx hb dX5_follow_132 (by decide) (fun cc42 => ?_) (fun cc42 => ?_)
          · refine lv_bipush (v := 11) hx hb dX5_follow_140 (by decide) ?_
            exact B39 11 ls _ _ (ob145 (((11 : Int32)).toInt) (by decide)) hw (lv_sub hl [] rfl)
          · refine lv_bipush (v := 8) hx hb dX5_follow_135 (by decide) ?_
            refine lv_goto (tgt := 142) hx hb dX5_follow_137 (by decide) ?_
            exact B39 8 ls _ _ (ob146 (((8 : Int32)).toInt) (by decide)) hw (lv_sub hl [] rfl)
        · exact B3 ls _ _ hw (lv_sub hl [0, 2] rfl)
    · refine lv_aload_n hx hb dX5_follow_54 rfl (lv_at hl 0 rfl) ?_
      refine lv_aload_n hx hb dX5_follow_55 rfl (lv_at hl 0 rfl) ?_
      refine hk_get (ci := 8) (C := RX5) (T := TX5) (N := 6) (v := .int (g 24)) hx hb hts (fun _ h => List.mem_cons_of_mem _ (wwXc_wsX50 _ h)) hown hw 9 rfl rfl 5 (by decide) (hq _ wX_378) rfl dX5_follow_56 ?_
      refine lv_bipush (v := 7) hx hb dX5_follow_59 (by decide) ?_
      have B43 : ∀  (x44 : Int32) (ls : Array Slot) (H : Heap) (locs : List Loc), (9 ≤ (x44).toInt ∧ (x44).toInt ≤ 11) → hk_W D (jT cI cJ) A s H locs (xw cI cJ ad g lg ar bk) → lv_has ls 4 [] → W p l e { frames := 2, cells := 1, slots := 6, locals := 48 } s m args below meth c H locs 0 0 Q (F0 m 71 ls [.int x44, .ref (ad 9)]) := by
        intro x44 ls H locs hf_B43_0 hw hl
        refine jx_putg xw (g := g) (lg := lg) (ar := ar) (bk := bk) (x := x44) 24 (ci := 8) (C := RX5) (T := TX5) (N := 6) (ty := .int) hx hb hts (fun _ h => List.mem_cons_of_mem _ (wwXc_wsX50 _ h)) tyX5 tyX5_ok nmX5 hown hw 9 rfl rfl 5 (by decide) (hq _ wX_378) rfl (by decide +kernel) rfl rfl (Nat.le_of_ble_eq_true rfl) dX5_follow_71 rfl (fun H locs g45 h_g45 hw => ?_)
        refine lv_goto (tgt := 145) hx hb dX5_follow_74 (by decide) ?_
        exact kr g45 lg ar bk _ _ _ _ ⟨(hk_frG hk_fr0 (by decide) h_g45), rfl, rfl, trivial⟩ hw dX5_follow_145
      refine lv_icmp_ge (tgt := 69) hx hb dX5_follow_61 (by decide) (fun cc46 => ?_) (fun cc46 => ?_)
      · refine lv_bipush (v := 11) hx hb dX5_follow_69 (by decide) ?_
        exact B43 11 ls _ _ (ob147 (((11 : Int32)).toInt) (by decide)) hw (lv_sub hl [] rfl)
      · refine lv_bipush (v := 9) hx hb dX5_follow_64 (by decide) ?_
        refine lv_goto (tgt := 71) hx hb dX5_follow_66 (by decide) ?_
        exact B43 9 ls _ _ (ob148 (((9 : Int32)).toInt) (by decide)) hw (lv_sub hl [] rfl)
  · refine lv_aload_n hx hb dX5_follow_4 rfl (lv_at hl 0 rfl) ?_
    refine lv_aload_n hx hb dX5_follow_5 rfl (lv_at hl 0 rfl) ?_
    refine hk_get (ci := 8) (C := RX5) (T := TX5) (N := 6) (v := .int (g 24)) hx hb hts (fun _ h => List.mem_cons_of_mem _ (wwXc_wsX50 _ h)) hown hw 9 rfl rfl 5 (by decide) (hq _ wX_378) rfl dX5_follow_6 ?_
    refine lv_iconst (v := 4) hx hb dX5_follow_9 (by decide) ?_
    have B47 : ∀  (x48 : Int32) (ls : Array Slot) (H : Heap) (locs : List Loc), hk_W D (jT cI cJ) A s H locs (xw cI cJ ad g lg ar bk) → lv_has ls 4 [] → W p l e { frames := 2, cells := 1, slots := 6, locals := 48 } s m args below meth c H locs 0 0 Q (F0 m 42 ls [.int x48, .ref (ad 9)]) := by
      intro x48 ls H locs hw hl
      refine jx_putg xw (g := g) (lg := lg) (ar := ar) (bk := bk) (x := x48) 24 (ci := 8) (C := RX5) (T := TX5) (N := 6) (ty := .int) hx hb hts (fun _ h => List.mem_cons_of_mem _ (wwXc_wsX50 _ h)) tyX5 tyX5_ok nmX5 hown hw 9 rfl rfl 5 (by decide) (hq _ wX_378) rfl (by decide +kernel) rfl rfl (Nat.le_of_ble_eq_true rfl) dX5_follow_42 rfl (fun H locs g49 h_g49 hw => ?_)
      refine lv_goto (tgt := 145) hx hb dX5_follow_45 (by decide) ?_
      exact kr g49 lg ar bk _ _ _ _ ⟨(hk_frG hk_fr0 (by decide) h_g49), rfl, rfl, trivial⟩ hw dX5_follow_145
    refine lv_icmp_ge (tgt := 17) hx hb dX5_follow_10 (by decide) (fun cc50 => ?_) (fun cc50 => ?_)
    · refine lv_aload_n hx hb dX5_follow_17 rfl (lv_at hl 0 rfl) ?_
      refine hk_get (ci := 8) (C := RX5) (T := TX5) (N := 6) (v := .int (g 24)) hx hb hts (fun _ h => List.mem_cons_of_mem _ (wwXc_wsX50 _ h)) hown hw 9 rfl rfl 5 (by decide) (hq _ wX_378) rfl dX5_follow_18 ?_
      refine lv_bipush (v := 10) hx hb dX5_follow_21 (by decide) ?_
      refine lv_icmp_ge (tgt := 35) hx hb dX5_follow_23 (by decide) (fun cc51 => ?_) (fun cc51 => ?_)
      · refine lv_aload_n hx hb dX5_follow_35 rfl (lv_at hl 0 rfl) ?_
        refine hk_get (ci := 8) (C := RX5) (T := TX5) (N := 6) (v := .int (g 24)) hx hb hts (fun _ h => List.mem_cons_of_mem _ (wwXc_wsX50 _ h)) hown hw 9 rfl rfl 5 (by decide) (hq _ wX_378) rfl dX5_follow_36 ?_
        refine lv_bipush (v := 6) hx hb dX5_follow_39 (by decide) ?_
        refine lv_isub hx hb dX5_follow_41 (jx_nm fun z52 hz52 => ?_)
        have xz52 : (z52).toInt = (g 24).toInt - ((6 : Int32)).toInt := (hE_imp (hE_sub hz52) (ob149 ((g 24).toInt) (((6 : Int32)).toInt) (((4 : Int32)).toInt) (((10 : Int32)).toInt) (hE_le cc50) (hE_le cc51) (hE_rng (g 24)) (by decide) (by decide) (by decide)))
        exact B47 z52 ls _ _ hw (lv_sub hl [] rfl)
      · refine lv_aload_n hx hb dX5_follow_26 rfl (lv_at hl 0 rfl) ?_
        refine hk_get (ci := 8) (C := RX5) (T := TX5) (N := 6) (v := .int (g 24)) hx hb hts (fun _ h => List.mem_cons_of_mem _ (wwXc_wsX50 _ h)) hown hw 9 rfl rfl 5 (by decide) (hq _ wX_378) rfl dX5_follow_27 ?_
        refine lv_iconst (v := 3) hx hb dX5_follow_30 (by decide) ?_
        refine lv_isub hx hb dX5_follow_31 (jx_nm fun z53 hz53 => ?_)
        have xz53 : (z53).toInt = (g 24).toInt - ((3 : Int32)).toInt := (hE_imp (hE_sub hz53) (ob150 ((g 24).toInt) (((3 : Int32)).toInt) (((4 : Int32)).toInt) (((10 : Int32)).toInt) (hE_le cc50) (hE_nle cc51) (hE_rng (g 24)) (by decide) (by decide) (by decide)))
        refine lv_goto (tgt := 42) hx hb dX5_follow_32 (by decide) ?_
        exact B47 z53 ls _ _ hw (lv_sub hl [] rfl)
    · refine lv_iconst (v := 0) hx hb dX5_follow_13 (by decide) ?_
      refine lv_goto (tgt := 42) hx hb dX5_follow_14 (by decide) ?_
      exact B47 0 ls _ _ hw (lv_sub hl [] rfl)
