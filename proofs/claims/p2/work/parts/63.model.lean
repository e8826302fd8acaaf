/-! 63.model -/
theorem ob92 (v0 : Int) (v1 : Int) (h0 : v0 = v1) (h1 : 0 ≤ v1 ∧ v1 ≤ 4) (h2 : -2147483648 ≤ v0 ∧ v0 ≤ 2147483647) (h3 : -2147483648 ≤ v1 ∧ v1 ≤ 2147483647) : 0 ≤ v0 ∧ v0 ≤ 4 := by omega
theorem ob93 (v0 : Int) (v1 : Int) (v2 : Int) (v3 : Int) (h0 : 0 ≤ v0) (h1 : v0 ≤ v1) (h2 : v1 ≤ v2) (h3 : v0 ≤ v1) (h4 : v3 ≤ v0) (h5 : v2 < v1) (h6 : -2147483648 ≤ v0 ∧ v0 ≤ 2147483647) (h7 : -2147483648 ≤ v1 ∧ v1 ≤ 2147483647) (h8 : -2147483648 ≤ v2 ∧ v2 ≤ 2147483647) (h9 : v3 = 0) : (0 * v0 + 0 * v1 + 0 * v2 + 0 * v3) ≤ -1 := by omega
theorem ob94 (v0 : Int) (v1 : Int) (v2 : Int) (v3 : Int) (h0 : 0 ≤ v0) (h1 : v0 ≤ v1) (h2 : v1 ≤ v2) (h3 : v0 ≤ v1) (h4 : v0 < v3) (h5 : -2147483648 ≤ v0 ∧ v0 ≤ 2147483647) (h6 : -2147483648 ≤ v1 ∧ v1 ≤ 2147483647) (h7 : -2147483648 ≤ v2 ∧ v2 ≤ 2147483647) (h8 : v3 = 0) : (0 * v0 + 0 * v1 + 0 * v2 + 0 * v3) ≤ -1 := by omega
theorem ob95 (v0 : Int) (v1 : Int) (v2 : Int) (h0 : 0 ≤ v0) (h1 : v0 ≤ v1) (h2 : v1 ≤ v2) (h3 : v1 < v0) (h4 : -2147483648 ≤ v0 ∧ v0 ≤ 2147483647) (h5 : -2147483648 ≤ v1 ∧ v1 ≤ 2147483647) (h6 : -2147483648 ≤ v2 ∧ v2 ≤ 2147483647) : (0 * v0 + 0 * v1 + 0 * v2) ≤ -1 := by omega
theorem ob96 (v0 : Int) (v1 : Int) (h0 : 0 ≤ v0) (h1 : v0 ≤ v1) (h2 : v1 ≤ 14340) (h3 : -2147483648 ≤ v0 ∧ v0 ≤ 2147483647) (h4 : -2147483648 ≤ v1 ∧ v1 ≤ 2147483647) : 0 ≤ v0 := by omega
theorem ob97 (v0 : Int) (v1 : Int) (h0 : 0 ≤ v0) (h1 : v0 ≤ v1) (h2 : v1 ≤ 14340) (h3 : -2147483648 ≤ v0 ∧ v0 ≤ 2147483647) (h4 : -2147483648 ≤ v1 ∧ v1 ≤ 2147483647) : v0 ≤ v1 := by omega
theorem ob98 (v0 : Int) (v1 : Int) (v2 : Int) (h0 : v2 ≤ v0) (h1 : v0 ≤ 14340) (h2 : 0 ≤ v2) (h3 : -2147483648 ≤ v0 ∧ v0 ≤ 2147483647) (h4 : v1 = 14340) (h5 : -2147483648 ≤ v2 ∧ v2 ≤ 2147483647) : v0 ≤ v1 := by omega
theorem ob99 (v0 : Int) (v1 : Int) (v2 : Int) (v3 : Int) (h0 : 0 ≤ v0) (h1 : 2147483648 - v0 ≤ v1 + 1) (h2 : v0 < v2) (h3 : v3 ≤ v2) (h4 : v2 ≤ 14340) (h5 : 0 ≤ v3) (h6 : -2147483648 ≤ v0 ∧ v0 ≤ 2147483647) (h7 : -2147483648 ≤ v2 ∧ v2 ≤ 2147483647) (h8 : -2147483648 ≤ v3 ∧ v3 ≤ 2147483647) : 0 ≤ v0 ∧ v0 < (14340 : Nat) := by omega
theorem ob100 (v0 : Int) (v1 : Int) (v2 : Int) (v3 : Int) (v4 : Int) (h0 : 0 ≤ v0) (h1 : 2147483648 - v0 ≤ v2 + 1) (h2 : v0 < v3) (h3 : v4 ≤ v3) (h4 : v3 ≤ 14340) (h5 : 0 ≤ v4) (h6 : -2147483648 ≤ v0 ∧ v0 ≤ 2147483647) (h7 : v1 = 1) (h8 : -2147483648 ≤ v3 ∧ v3 ≤ 2147483647) (h9 : -2147483648 ≤ v4 ∧ v4 ≤ 2147483647) : -2147483648 ≤ v0 + v1 ∧ v0 + v1 ≤ 2147483647 := by omega
theorem ob101 (v0 : Int) (v1 : Int) (v2 : Int) (v3 : Int) (v4 : Int) (v5 : Int) (h0 : 2147483648 - v2 ≤ v1 + 1) (h1 : v0 = v2 + v3) (h2 : 0 ≤ v2) (h3 : v2 < v4) (h4 : v5 ≤ v4) (h5 : v4 ≤ 14340) (h6 : 0 ≤ v5) (h7 : -2147483648 ≤ v0 ∧ v0 ≤ 2147483647) (h8 : -2147483648 ≤ v2 ∧ v2 ≤ 2147483647) (h9 : v3 = 1) (h10 : -2147483648 ≤ v4 ∧ v4 ≤ 2147483647) (h11 : -2147483648 ≤ v5 ∧ v5 ≤ 2147483647) : 2147483648 - v0 ≤ v1 := by omega
theorem ob102 (v0 : Int) (v1 : Int) (v2 : Int) (v3 : Int) (v4 : Int) (v5 : Int) (h0 : v0 = v1 + v2) (h1 : 0 ≤ v1) (h2 : 2147483648 - v1 ≤ v3 + 1) (h3 : v1 < v4) (h4 : v5 ≤ v4) (h5 : v4 ≤ 14340) (h6 : 0 ≤ v5) (h7 : -2147483648 ≤ v0 ∧ v0 ≤ 2147483647) (h8 : -2147483648 ≤ v1 ∧ v1 ≤ 2147483647) (h9 : v2 = 1) (h10 : -2147483648 ≤ v4 ∧ v4 ≤ 2147483647) (h11 : -2147483648 ≤ v5 ∧ v5 ≤ 2147483647) : 0 ≤ v0 := by omega
theorem ob103 (v0 : Int) (v1 : Int) (v2 : Int) (h0 : 0 ≤ v0) (h1 : 2147483648 - v0 ≤ v1 + 1) (h2 : v0 < v2) (h3 : -2147483648 ≤ v0 ∧ v0 ≤ 2147483647) (h4 : v2 = 4) : 0 ≤ v0 ∧ v0 < (4 : Nat) := by omega
theorem ob104 (v0 : Int) (v1 : Int) (h0 : 0 ≤ v0 ∧ v0 ≤ 4) (h1 : 0 ≤ v1 ∧ v1 ≤ 4) (h2 : -2147483648 ≤ v0 ∧ v0 ≤ 2147483647) (h3 : -2147483648 ≤ v1 ∧ v1 ≤ 2147483647) : -2147483648 ≤ v0 + v1 ∧ v0 + v1 ≤ 2147483647 := by omega
theorem ob105 (v0 : Int) (v1 : Int) (v2 : Int) (v3 : Int) (v4 : Int) (v5 : Int) (v6 : Int) (v7 : Int) (v8 : Int) (h0 : v1 ≤ v2 ∧ v1 ≤ v3 ∧ (v1 = v2 ∨ v1 = v3)) (h1 : v2 = (v4 + v5 + 2147483648) % 4294967296 - 2147483648) (h2 : (0 ≤ v6 ∧ v6 ≤ 8) → (768 ≤ v5 ∧ v5 ≤ 196608)) (h3 : v6 = v7 + v8) (h4 : 0 ≤ v7 ∧ v7 ≤ 4) (h5 : 0 ≤ v8 ∧ v8 ≤ 4) (h6 : v0 = 0) (h7 : -2147483648 ≤ v1 ∧ v1 ≤ 2147483647) (h8 : -2147483648 ≤ v2 ∧ v2 ≤ 2147483647) (h9 : v3 = 14340) (h10 : v4 = 2052) (h11 : -2147483648 ≤ v5 ∧ v5 ≤ 2147483647) (h12 : -2147483648 ≤ v6 ∧ v6 ≤ 2147483647) (h13 : -2147483648 ≤ v7 ∧ v7 ≤ 2147483647) (h14 : -2147483648 ≤ v8 ∧ v8 ≤ 2147483647) : v0 ≤ v1 := by omega
theorem ob106 (v0 : Int) (v1 : Int) (v2 : Int) (v3 : Int) (v4 : Int) (v5 : Int) (v6 : Int) (v7 : Int) (h0 : v0 ≤ v1 ∧ v0 ≤ v2 ∧ (v0 = v1 ∨ v0 = v2)) (h1 : v1 = (v3 + v4 + 2147483648) % 4294967296 - 2147483648) (h2 : (0 ≤ v5 ∧ v5 ≤ 8) → (768 ≤ v4 ∧ v4 ≤ 196608)) (h3 : v5 = v6 + v7) (h4 : 0 ≤ v6 ∧ v6 ≤ 4) (h5 : 0 ≤ v7 ∧ v7 ≤ 4) (h6 : -2147483648 ≤ v0 ∧ v0 ≤ 2147483647) (h7 : -2147483648 ≤ v1 ∧ v1 ≤ 2147483647) (h8 : v2 = 14340) (h9 : v3 = 2052) (h10 : -2147483648 ≤ v4 ∧ v4 ≤ 2147483647) (h11 : -2147483648 ≤ v5 ∧ v5 ≤ 2147483647) (h12 : -2147483648 ≤ v6 ∧ v6 ≤ 2147483647) (h13 : -2147483648 ≤ v7 ∧ v7 ≤ 2147483647) : v0 ≤ 14340 := by omega
theorem ob107 (v0 : Int) (v1 : Int) (v2 : Int) (h0 : v1 ≤ v0) (h1 : v0 < v2) (h2 : -2147483648 ≤ v0 ∧ v0 ≤ 2147483647) (h3 : v1 = 0) (h4 : v2 = 4) : 0 ≤ v0 ∧ v0 < (4 : Nat) := by omega
theorem ob108 (v0 : Int) (v1 : Int) (h0 : v0 = 0) (h1 : -2147483648 ≤ v1 ∧ v1 ≤ 2147483647) : -2147483648 ≤ v0 + v1 ∧ v0 + v1 ≤ 2147483647 := by omega
theorem ob109 (v0 : Int) (h0 : v0 ≠ 0) (h1 : -2147483648 ≤ v0 ∧ v0 ≤ 2147483647) : v0 ≠ 0 := by omega
theorem ob110 (v0 : Int) (v1 : Int) (v2 : Int) (v3 : Int) (v4 : Int) (v5 : Int) (v6 : Int) (h0 : v0 ≠ 0 → v1 = v2) (h1 : v3 = v0) (h2 : v3 = v0) (h3 : v4 = v0) (h4 : v3 ≠ 0 → v5 = v1) (h5 : v4 ≠ 0) (h6 : v6 = v5) (h7 : -2147483648 ≤ v0 ∧ v0 ≤ 2147483647) (h8 : -2147483648 ≤ v1 ∧ v1 ≤ 2147483647) (h9 : -2147483648 ≤ v2 ∧ v2 ≤ 2147483647) (h10 : -2147483648 ≤ v3 ∧ v3 ≤ 2147483647) (h11 : -2147483648 ≤ v4 ∧ v4 ≤ 2147483647) (h12 : -2147483648 ≤ v5 ∧ v5 ≤ 2147483647) (h13 : -2147483648 ≤ v6 ∧ v6 ≤ 2147483647) : v0 ≠ 0 := by omega
theorem ob111 (v0 : Int) (v1 : Int) (v2 : Int) (v3 : Int) (v4 : Int) (v5 : Int) (v6 : Int) (h0 : v2 ≠ 0 → v3 = v1) (h1 : v0 = v4) (h2 : v5 = v2) (h3 : v5 = v2) (h4 : v5 ≠ 0 → v4 = v3) (h5 : v6 = v2) (h6 : v6 ≠ 0) (h7 : -2147483648 ≤ v0 ∧ v0 ≤ 2147483647) (h8 : -2147483648 ≤ v1 ∧ v1 ≤ 2147483647) (h9 : -2147483648 ≤ v2 ∧ v2 ≤ 2147483647) (h10 : -2147483648 ≤ v3 ∧ v3 ≤ 2147483647) (h11 : -2147483648 ≤ v4 ∧ v4 ≤ 2147483647) (h12 : -2147483648 ≤ v5 ∧ v5 ≤ 2147483647) (h13 : -2147483648 ≤ v6 ∧ v6 ≤ 2147483647) : v0 = v1 := by omega
theorem ob112 (v0 : Int) (v1 : Int) (v2 : Int) (v3 : Int) (v4 : Int) (v5 : Int) (v6 : Int) (v7 : Int) (v8 : Int) (h0 : v0 ≠ 0 → v1 = v2) (h1 : v3 = v0) (h2 : v3 = v0) (h3 : v4 = v0) (h4 : v4 = v0) (h5 : v5 = v0) (h6 : v3 ≠ 0 → v6 = v1) (h7 : v4 ≠ 0 → v7 = v6) (h8 : v5 ≠ 0) (h9 : v8 = v7) (h10 : -2147483648 ≤ v0 ∧ v0 ≤ 2147483647) (h11 : -2147483648 ≤ v1 ∧ v1 ≤ 2147483647) (h12 : -2147483648 ≤ v2 ∧ v2 ≤ 2147483647) (h13 : -2147483648 ≤ v3 ∧ v3 ≤ 2147483647) (h14 : -2147483648 ≤ v4 ∧ v4 ≤ 2147483647) (h15 : -2147483648 ≤ v5 ∧ v5 ≤ 2147483647) (h16 : -2147483648 ≤ v6 ∧ v6 ≤ 2147483647) (h17 : -2147483648 ≤ v7 ∧ v7 ≤ 2147483647) (h18 : -2147483648 ≤ v8 ∧ v8 ≤ 2147483647) : v0 ≠ 0 := by omega
theorem ob113 (v0 : Int) (v1 : Int) (v2 : Int) (v3 : Int) (v4 : Int) (v5 : Int) (v6 : Int) (v7 : Int) (v8 : Int) (h0 : v2 ≠ 0 → v3 = v1) (h1 : v0 = v4) (h2 : v5 = v2) (h3 : v5 = v2) (h4 : v5 ≠ 0 → v6 = v3) (h5 : v7 = v2) (h6 : v7 = v2) (h7 : v7 ≠ 0 → v4 = v6) (h8 : v8 = v2) (h9 : v8 ≠ 0) (h10 : -2147483648 ≤ v0 ∧ v0 ≤ 2147483647) (h11 : -2147483648 ≤ v1 ∧ v1 ≤ 2147483647) (h12 : -2147483648 ≤ v2 ∧ v2 ≤ 2147483647) (h13 : -2147483648 ≤ v3 ∧ v3 ≤ 2147483647) (h14 : -2147483648 ≤ v4 ∧ v4 ≤ 2147483647) (h15 : -2147483648 ≤ v5 ∧ v5 ≤ 2147483647) (h16 : -2147483648 ≤ v6 ∧ v6 ≤ 2147483647) (h17 : -2147483648 ≤ v7 ∧ v7 ≤ 2147483647) (h18 : -2147483648 ≤ v8 ∧ v8 ≤ 2147483647) : v0 = v1 := by omega
theorem ob114 (v0 : Int) (v1 : Int) (v2 : Int) (v3 : Int) (v4 : Int) (v5 : Int) (v6 : Int) (v7 : Int) (v8 : Int) (v9 : Int) (v10 : Int) (h0 : v0 ≠ 0 → v1 = v2) (h1 : v3 = v0) (h2 : v3 = v0) (h3 : v4 = v0) (h4 : v4 = v0) (h5 : v5 = v0) (h6 : v5 = v0) (h7 : v6 = v0) (h8 : v3 ≠ 0 → v7 = v1) (h9 : v4 ≠ 0 → v8 = v7) (h10 : v5 ≠ 0 → v9 = v8) (h11 : v6 ≠ 0) (h12 : v10 = v9) (h13 : -2147483648 ≤ v0 ∧ v0 ≤ 2147483647) (h14 : -2147483648 ≤ v1 ∧ v1 ≤ 2147483647) (h15 : -2147483648 ≤ v2 ∧ v2 ≤ 2147483647) (h16 : -2147483648 ≤ v3 ∧ v3 ≤ 2147483647) (h17 : -2147483648 ≤ v4 ∧ v4 ≤ 2147483647) (h18 : -2147483648 ≤ v5 ∧ v5 ≤ 2147483647) (h19 : -2147483648 ≤ v6 ∧ v6 ≤ 2147483647) (h20 : -2147483648 ≤ v7 ∧ v7 ≤ 2147483647) (h21 : -2147483648 ≤ v8 ∧ v8 ≤ 2147483647) (h22 : -2147483648 ≤ v9 ∧ v9 ≤ 2147483647) (h23 : -2147483648 ≤ v10 ∧ v10 ≤ 2147483647) : v0 ≠ 0 := by omega
theorem ob115 (v0 : Int) (v1 : Int) (v2 : Int) (v3 : Int) (v4 : Int) (v5 : Int) (v6 : Int) (v7 : Int) (v8 : Int) (v9 : Int) (v10 : Int) (h0 : v2 ≠ 0 → v3 = v1) (h1 : v0 = v4) (h2 : v5 = v2) (h3 : v5 = v2) (h4 : v5 ≠ 0 → v6 = v3) (h5 : v7 = v2) (h6 : v7 = v2) (h7 : v8 = v2) (h8 : v8 = v2) (h9 : v8 ≠ 0 → v4 = v9) (h10 : v10 = v2) (h11 : v7 ≠ 0 → v9 = v6) (h12 : v10 ≠ 0) (h13 : -2147483648 ≤ v0 ∧ v0 ≤ 2147483647) (h14 : -2147483648 ≤ v1 ∧ v1 ≤ 2147483647) (h15 : -2147483648 ≤ v2 ∧ v2 ≤ 2147483647) (h16 : -2147483648 ≤ v3 ∧ v3 ≤ 2147483647) (h17 : -2147483648 ≤ v4 ∧ v4 ≤ 2147483647) (h18 : -2147483648 ≤ v5 ∧ v5 ≤ 2147483647) (h19 : -2147483648 ≤ v6 ∧ v6 ≤ 2147483647) (h20 : -2147483648 ≤ v7 ∧ v7 ≤ 2147483647) (h21 : -2147483648 ≤ v8 ∧ v8 ≤ 2147483647) (h22 : -2147483648 ≤ v9 ∧ v9 ≤ 2147483647) (h23 : -2147483648 ≤ v10 ∧ v10 ≤ 2147483647) : v0 = v1 := by omega
theorem ob116 (v0 : Int) (v1 : Int) (v2 : Int) (v3 : Int) (v4 : Int) (v5 : Int) (v6 : Int) (v7 : Int) (v8 : Int) (v9 : Int) (v10 : Int) (h0 : v0 ≠ 0 → v3 = v2) (h1 : v4 = v0) (h2 : v4 = v0) (h3 : v5 = v0) (h4 : v5 = v0) (h5 : v6 = v0) (h6 : v6 = v0) (h7 : v7 = v0) (h8 : v7 = v0) (h9 : v7 ≠ 0 → v1 = v8) (h10 : v4 ≠ 0 → v9 = v3) (h11 : v5 ≠ 0 → v10 = v9) (h12 : v6 ≠ 0 → v8 = v10) (h13 : -2147483648 ≤ v0 ∧ v0 ≤ 2147483647) (h14 : -2147483648 ≤ v1 ∧ v1 ≤ 2147483647) (h15 : -2147483648 ≤ v2 ∧ v2 ≤ 2147483647) (h16 : -2147483648 ≤ v3 ∧ v3 ≤ 2147483647) (h17 : -2147483648 ≤ v4 ∧ v4 ≤ 2147483647) (h18 : -2147483648 ≤ v5 ∧ v5 ≤ 2147483647) (h19 : -2147483648 ≤ v6 ∧ v6 ≤ 2147483647) (h20 : -2147483648 ≤ v7 ∧ v7 ≤ 2147483647) (h21 : -2147483648 ≤ v8 ∧ v8 ≤ 2147483647) (h22 : -2147483648 ≤ v9 ∧ v9 ≤ 2147483647) (h23 : -2147483648 ≤ v10 ∧ v10 ≤ 2147483647) : v0 ≠ 0 → v1 = v2 := by omega
theorem ob117 (v0 : Int) (v1 : Int) (v2 : Int) (v3 : Int) (v4 : Int) (v5 : Int) (v6 : Int) (v7 : Int) (v8 : Int) (h0 : v1 = v0 + v2) (h1 : v3 ≠ v0) (h2 : v4 ≠ v0) (h3 : v5 ≠ v0) (h4 : v6 ≠ v0) (h5 : v7 = (v1 + v8 + 2147483648) % 4294967296 - 2147483648) (h6 : 0 ≤ v3 ∧ v3 ≤ 1) (h7 : 0 ≤ v4 ∧ v4 ≤ 1) (h8 : 0 ≤ v5 ∧ v5 ≤ 1) (h9 : 0 ≤ v6 ∧ v6 ≤ 1) (h10 : v0 = 0) (h11 : -2147483648 ≤ v1 ∧ v1 ≤ 2147483647) (h12 : -2147483648 ≤ v2 ∧ v2 ≤ 2147483647) (h13 : -2147483648 ≤ v3 ∧ v3 ≤ 2147483647) (h14 : -2147483648 ≤ v4 ∧ v4 ≤ 2147483647) (h15 : -2147483648 ≤ v5 ∧ v5 ≤ 2147483647) (h16 : -2147483648 ≤ v6 ∧ v6 ≤ 2147483647) (h17 : -2147483648 ≤ v7 ∧ v7 ≤ 2147483647) (h18 : -2147483648 ≤ v8 ∧ v8 ≤ 2147483647) : 0 ≤ v0 ∧ v0 ≤ 1 := by omega
theorem ob118 (v0 : Int) (v1 : Int) (v2 : Int) (v3 : Int) (v4 : Int) (v5 : Int) (v6 : Int) (v7 : Int) (v8 : Int) (h0 : v0 ≠ 0 → v3 = v2) (h1 : v4 = v0) (h2 : v4 = v0) (h3 : v5 = v0) (h4 : v5 = v0) (h5 : v6 = v0) (h6 : v6 = v0) (h7 : v6 ≠ 0 → v1 = v7) (h8 : v4 ≠ 0 → v8 = v3) (h9 : v5 ≠ 0 → v7 = v8) (h10 : -2147483648 ≤ v0 ∧ v0 ≤ 2147483647) (h11 : -2147483648 ≤ v1 ∧ v1 ≤ 2147483647) (h12 : -2147483648 ≤ v2 ∧ v2 ≤ 2147483647) (h13 : -2147483648 ≤ v3 ∧ v3 ≤ 2147483647) (h14 : -2147483648 ≤ v4 ∧ v4 ≤ 2147483647) (h15 : -2147483648 ≤ v5 ∧ v5 ≤ 2147483647) (h16 : -2147483648 ≤ v6 ∧ v6 ≤ 2147483647) (h17 : -2147483648 ≤ v7 ∧ v7 ≤ 2147483647) (h18 : -2147483648 ≤ v8 ∧ v8 ≤ 2147483647) : v0 ≠ 0 → v1 = v2 := by omega
theorem ob119 (v0 : Int) (v1 : Int) (v2 : Int) (v3 : Int) (v4 : Int) (v5 : Int) (v6 : Int) (v7 : Int) (h0 : v1 = v0 + v2) (h1 : v3 ≠ v0) (h2 : v4 ≠ v0) (h3 : v5 ≠ v0) (h4 : v6 = (v1 + v7 + 2147483648) % 4294967296 - 2147483648) (h5 : 0 ≤ v3 ∧ v3 ≤ 1) (h6 : 0 ≤ v4 ∧ v4 ≤ 1) (h7 : 0 ≤ v5 ∧ v5 ≤ 1) (h8 : v0 = 0) (h9 : -2147483648 ≤ v1 ∧ v1 ≤ 2147483647) (h10 : -2147483648 ≤ v2 ∧ v2 ≤ 2147483647) (h11 : -2147483648 ≤ v3 ∧ v3 ≤ 2147483647) (h12 : -2147483648 ≤ v4 ∧ v4 ≤ 2147483647) (h13 : -2147483648 ≤ v5 ∧ v5 ≤ 2147483647) (h14 : -2147483648 ≤ v6 ∧ v6 ≤ 2147483647) (h15 : -2147483648 ≤ v7 ∧ v7 ≤ 2147483647) : 0 ≤ v0 ∧ v0 ≤ 1 := by omega
theorem ob120 (v0 : Int) (v1 : Int) (v2 : Int) (v3 : Int) (v4 : Int) (v5 : Int) (v6 : Int) (v7 : Int) (v8 : Int) (v9 : Int) (v10 : Int) (v11 : Int) (h0 : v1 = v0 + v2) (h1 : v3 ≠ v0) (h2 : v4 ≠ v0) (h3 : v5 = v0) (h4 : v6 = (v1 + v7 + 2147483648) % 4294967296 - 2147483648) (h5 : 0 ≤ v3 ∧ v3 ≤ 1) (h6 : 0 ≤ v4 ∧ v4 ≤ 1) (h7 : 0 ≤ v5 ∧ v5 ≤ 1) (h8 : v8 = (v9 + v7 + 2147483648) % 4294967296 - 2147483648) (h9 : v9 = (v10 + v11 + 2147483648) % 4294967296 - 2147483648) (h10 : v0 = 0) (h11 : -2147483648 ≤ v1 ∧ v1 ≤ 2147483647) (h12 : -2147483648 ≤ v2 ∧ v2 ≤ 2147483647) (h13 : -2147483648 ≤ v3 ∧ v3 ≤ 2147483647) (h14 : -2147483648 ≤ v4 ∧ v4 ≤ 2147483647) (h15 : -2147483648 ≤ v5 ∧ v5 ≤ 2147483647) (h16 : -2147483648 ≤ v6 ∧ v6 ≤ 2147483647) (h17 : -2147483648 ≤ v7 ∧ v7 ≤ 2147483647) (h18 : -2147483648 ≤ v8 ∧ v8 ≤ 2147483647) (h19 : -2147483648 ≤ v9 ∧ v9 ≤ 2147483647) (h20 : v10 = 240) (h21 : -2147483648 ≤ v11 ∧ v11 ≤ 2147483647) : 0 ≤ v0 ∧ v0 ≤ 1 := by omega
theorem ob121 (v0 : Int) (v1 : Int) (v2 : Int) (v3 : Int) (v4 : Int) (v5 : Int) (v6 : Int) (h0 : v1 = v0 + v2) (h1 : v3 ≠ v0) (h2 : v4 ≠ v0) (h3 : v5 = (v1 + v6 + 2147483648) % 4294967296 - 2147483648) (h4 : 0 ≤ v3 ∧ v3 ≤ 1) (h5 : 0 ≤ v4 ∧ v4 ≤ 1) (h6 : v0 = 0) (h7 : -2147483648 ≤ v1 ∧ v1 ≤ 2147483647) (h8 : -2147483648 ≤ v2 ∧ v2 ≤ 2147483647) (h9 : -2147483648 ≤ v3 ∧ v3 ≤ 2147483647) (h10 : -2147483648 ≤ v4 ∧ v4 ≤ 2147483647) (h11 : -2147483648 ≤ v5 ∧ v5 ≤ 2147483647) (h12 : -2147483648 ≤ v6 ∧ v6 ≤ 2147483647) : 0 ≤ v0 ∧ v0 ≤ 1 := by omega
theorem ob122 (v0 : Int) (v1 : Int) (v2 : Int) (v3 : Int) (v4 : Int) (v5 : Int) (h0 : v1 = v0 + v2) (h1 : v3 ≠ v0) (h2 : v4 = (v1 + v5 + 2147483648) % 4294967296 - 2147483648) (h3 : 0 ≤ v3 ∧ v3 ≤ 1) (h4 : v0 = 0) (h5 : -2147483648 ≤ v1 ∧ v1 ≤ 2147483647) (h6 : -2147483648 ≤ v2 ∧ v2 ≤ 2147483647) (h7 : -2147483648 ≤ v3 ∧ v3 ≤ 2147483647) (h8 : -2147483648 ≤ v4 ∧ v4 ≤ 2147483647) (h9 : -2147483648 ≤ v5 ∧ v5 ≤ 2147483647) : 0 ≤ v0 ∧ v0 ≤ 1 := by omega
theorem ob123 (v0 : Int) (v1 : Int) (v2 : Int) (h0 : v1 ≠ v0) (h1 : v1 ≠ v2) (h2 : v0 = 1) (h3 : -2147483648 ≤ v1 ∧ v1 ≤ 2147483647) (h4 : v2 = 7) : 0 ≤ v0 ∧ v0 ≤ 1 := by omega
theorem ob124 (v0 : Int) (v1 : Int) (v2 : Int) (v3 : Int) (v4 : Int) (v5 : Int) (h0 : v1 = v0 + v2) (h1 : v3 = v0) (h2 : v4 = (v1 + v5 + 2147483648) % 4294967296 - 2147483648) (h3 : v0 = 0) (h4 : -2147483648 ≤ v1 ∧ v1 ≤ 2147483647) (h5 : -2147483648 ≤ v2 ∧ v2 ≤ 2147483647) (h6 : -2147483648 ≤ v3 ∧ v3 ≤ 2147483647) (h7 : -2147483648 ≤ v4 ∧ v4 ≤ 2147483647) (h8 : -2147483648 ≤ v5 ∧ v5 ≤ 2147483647) : 0 ≤ v0 ∧ v0 ≤ 1 := by omega
theorem ob125 (v0 : Int) (v1 : Int) (v2 : Int) (v3 : Int) (v4 : Int) (h0 : v1 = v0 + v2) (h1 : v3 = (v1 + v4 + 2147483648) % 4294967296 - 2147483648) (h2 : v0 = 0) (h3 : -2147483648 ≤ v1 ∧ v1 ≤ 2147483647) (h4 : -2147483648 ≤ v2 ∧ v2 ≤ 2147483647) (h5 : -2147483648 ≤ v3 ∧ v3 ≤ 2147483647) (h6 : -2147483648 ≤ v4 ∧ v4 ≤ 2147483647) : 0 ≤ v0 ∧ v0 ≤ 1 := by omega
theorem ob126 (v0 : Int) (h0 : v0 ≤ 7) (h1 : v0 + 2147483649 ≤ 0) (h2 : -2147483648 ≤ v0 ∧ v0 ≤ 2147483647) : (0 * v0) ≤ -1 := by omega
theorem ob127 (v0 : Int) (v1 : Int) (v2 : Int) (v3 : Int) (h0 : v0 ≤ 7) (h1 : v0 + 2147483649 ≤ v2 + 1) (h2 : v3 ≤ v0) (h3 : -2147483648 ≤ v0 ∧ v0 ≤ 2147483647) (h4 : v1 = (-1)) (h5 : v3 = 0) : -2147483648 ≤ v0 + v1 ∧ v0 + v1 ≤ 2147483647 := by omega
theorem ob128 (v0 : Int) (v1 : Int) (v2 : Int) (v3 : Int) (v4 : Int) (h0 : v2 + 2147483649 ≤ v1 + 1) (h1 : v0 = v2 + v3) (h2 : v2 ≤ 7) (h3 : v4 ≤ v2) (h4 : -2147483648 ≤ v0 ∧ v0 ≤ 2147483647) (h5 : -2147483648 ≤ v2 ∧ v2 ≤ 2147483647) (h6 : v3 = (-1)) (h7 : v4 = 0) : v0 + 2147483649 ≤ v1 := by omega
theorem ob129 (v0 : Int) (v1 : Int) (v2 : Int) (v3 : Int) (v4 : Int) (h0 : v0 = v1 + v2) (h1 : v1 ≤ 7) (h2 : v1 + 2147483649 ≤ v3 + 1) (h3 : v4 ≤ v1) (h4 : -2147483648 ≤ v0 ∧ v0 ≤ 2147483647) (h5 : -2147483648 ≤ v1 ∧ v1 ≤ 2147483647) (h6 : v2 = (-1)) (h7 : v4 = 0) : v0 ≤ 7 := by omega
theorem ob130 (v0 : Int) (v1 : Int) (v2 : Int) (h0 : v0 ≤ v1) (h1 : v1 ≤ 7) (h2 : v1 + 2147483649 ≤ v2 + 1) (h3 : v0 = 0) (h4 : -2147483648 ≤ v1 ∧ v1 ≤ 2147483647) : 0 ≤ v0 ∧ v0 ≤ 1 := by omega
theorem ob131 (v0 : Int) (v1 : Int) (v2 : Int) (v3 : Int) (v4 : Int) (h0 : v1 = (v2 - v0 + 2147483648) % 4294967296 - 2147483648) (h1 : (0 ≤ v4 → 0 ≤ v3 ∧ v3 ≤ v4) ∧ (0 ≤ v1 → 0 ≤ v3 ∧ v3 ≤ v1)) (h2 : v0 = 1) (h3 : -2147483648 ≤ v1 ∧ v1 ≤ 2147483647) (h4 : -2147483648 ≤ v2 ∧ v2 ≤ 2147483647) (h5 : -2147483648 ≤ v3 ∧ v3 ≤ 2147483647) (h6 : -2147483648 ≤ v4 ∧ v4 ≤ 2147483647) : 0 ≤ v0 ∧ v0 ≤ 1 := by omega
theorem ob132 (v0 : Int) (v1 : Int) (h0 : v0 = v1 % 2) (h1 : -2147483648 ≤ v0 ∧ v0 ≤ 2147483647) (h2 : -2147483648 ≤ v1 ∧ v1 ≤ 2147483647) : -2147483648 ≤ v0 * 256 ∧ v0 * 256 ≤ 2147483647 := by omega
theorem ob133 (v0 : Int) (h0 : v0 = 7) : v0 ≤ 7 := by omega
theorem ob134 (v0 : Int) (h0 : v0 = 8) : 0 ≤ v0 ∧ v0 ≤ 8 := by omega
theorem ob135 (v0 : Int) (v1 : Int) (h0 : -256 ≤ v1 ∧ v1 ≤ 511) (h1 : v0 = 18) (h2 : -2147483648 ≤ v1 ∧ v1 ≤ 2147483647) : -2147483648 ≤ v0 + v1 ∧ v0 + v1 ≤ 2147483647 := by omega
theorem ob136 (v0 : Int) (v1 : Int) (v2 : Int) (h0 : v0 = v1 + v2) (h1 : -256 ≤ v2 ∧ v2 ≤ 511) (h2 : -2147483648 ≤ v0 ∧ v0 ≤ 2147483647) (h3 : v1 = 18) (h4 : -2147483648 ≤ v2 ∧ v2 ≤ 2147483647) : -300 ≤ v0 ∧ v0 ≤ 600 := by omega
theorem ob137 (v0 : Int) (v1 : Int) (v2 : Int) (v3 : Int) (v4 : Int) (v5 : Int) (v6 : Int) (h0 : v0 ≠ 0 → v3 = v2) (h1 : v4 = v0) (h2 : v4 = v0) (h3 : v5 = v0) (h4 : v5 = v0) (h5 : v5 ≠ 0 → v1 = v6) (h6 : v4 ≠ 0 → v6 = v3) (h7 : -2147483648 ≤ v0 ∧ v0 ≤ 2147483647) (h8 : -2147483648 ≤ v1 ∧ v1 ≤ 2147483647) (h9 : -2147483648 ≤ v2 ∧ v2 ≤ 2147483647) (h10 : -2147483648 ≤ v3 ∧ v3 ≤ 2147483647) (h11 : -2147483648 ≤ v4 ∧ v4 ≤ 2147483647) (h12 : -2147483648 ≤ v5 ∧ v5 ≤ 2147483647) (h13 : -2147483648 ≤ v6 ∧ v6 ≤ 2147483647) : v0 ≠ 0 → v1 = v2 := by omega
theorem ob138 (v0 : Int) (h0 : v0 = 3) : 0 ≤ v0 ∧ v0 ≤ 8 := by omega
theorem ob139 (v0 : Int) (v1 : Int) (h0 : -256 ≤ v1 ∧ v1 ≤ 511) (h1 : v0 = 10) (h2 : -2147483648 ≤ v1 ∧ v1 ≤ 2147483647) : -2147483648 ≤ v0 + v1 ∧ v0 + v1 ≤ 2147483647 := by omega
theorem ob140 (v0 : Int) (v1 : Int) (v2 : Int) (h0 : v0 = v1 + v2) (h1 : -256 ≤ v2 ∧ v2 ≤ 511) (h2 : -2147483648 ≤ v0 ∧ v0 ≤ 2147483647) (h3 : v1 = 10) (h4 : -2147483648 ≤ v2 ∧ v2 ≤ 2147483647) : -300 ≤ v0 ∧ v0 ≤ 600 := by omega
theorem ob141 (v0 : Int) (v1 : Int) (v2 : Int) (h0 : v1 = (v2 + v0 + 2147483648) % 4294967296 - 2147483648) (h1 : v0 = 1) (h2 : -2147483648 ≤ v1 ∧ v1 ≤ 2147483647) (h3 : -2147483648 ≤ v2 ∧ v2 ≤ 2147483647) : 0 ≤ v0 ∧ v0 ≤ 1 := by omega
theorem ob142 (v0 : Int) (v1 : Int) (h0 : v1 ≠ v0) (h1 : 0 ≤ v1 ∧ v1 ≤ 1) (h2 : v0 = 0) (h3 : -2147483648 ≤ v1 ∧ v1 ≤ 2147483647) : 0 ≤ v0 ∧ v0 ≤ 1 := by omega
theorem ob143 (v0 : Int) (v1 : Int) (v2 : Int) (v3 : Int) (v4 : Int) (v5 : Int) (v6 : Int) (v7 : Int) (h0 : v2 = (v3 - v0 + 2147483648) % 4294967296 - 2147483648) (h1 : v4 = (v5 + v0 + 2147483648) % 4294967296 - 2147483648) (h2 : -256 ≤ v1 ∧ v1 ≤ 511) (h3 : v6 = (v4 + v7 + 2147483648) % 4294967296 - 2147483648) (h4 : v0 = 2) (h5 : -2147483648 ≤ v1 ∧ v1 ≤ 2147483647) (h6 : -2147483648 ≤ v2 ∧ v2 ≤ 2147483647) (h7 : -2147483648 ≤ v3 ∧ v3 ≤ 2147483647) (h8 : -2147483648 ≤ v4 ∧ v4 ≤ 2147483647) (h9 : -2147483648 ≤ v5 ∧ v5 ≤ 2147483647) (h10 : -2147483648 ≤ v6 ∧ v6 ≤ 2147483647) (h11 : -2147483648 ≤ v7 ∧ v7 ≤ 2147483647) : -2147483648 ≤ v0 + v1 ∧ v0 + v1 ≤ 2147483647 := by omega
theorem ob144 (v0 : Int) (v1 : Int) (v2 : Int) (v3 : Int) (v4 : Int) (v5 : Int) (v6 : Int) (v7 : Int) (v8 : Int) (h0 : v0 = v1 + v2) (h1 : v3 = (v4 - v1 + 2147483648) % 4294967296 - 2147483648) (h2 : v5 = (v6 + v1 + 2147483648) % 4294967296 - 2147483648) (h3 : -256 ≤ v2 ∧ v2 ≤ 511) (h4 : v7 = (v5 + v8 + 2147483648) % 4294967296 - 2147483648) (h5 : -2147483648 ≤ v0 ∧ v0 ≤ 2147483647) (h6 : v1 = 2) (h7 : -2147483648 ≤ v2 ∧ v2 ≤ 2147483647) (h8 : -2147483648 ≤ v3 ∧ v3 ≤ 2147483647) (h9 : -2147483648 ≤ v4 ∧ v4 ≤ 2147483647) (h10 : -2147483648 ≤ v5 ∧ v5 ≤ 2147483647) (h11 : -2147483648 ≤ v6 ∧ v6 ≤ 2147483647) (h12 : -2147483648 ≤ v7 ∧ v7 ≤ 2147483647) (h13 : -2147483648 ≤ v8 ∧ v8 ≤ 2147483647) : -300 ≤ v0 ∧ v0 ≤ 600 := by omega
theorem ob145 (v0 : Int) (h0 : v0 = 6) : 0 ≤ v0 ∧ v0 ≤ 8 := by omega
theorem ob146 (v0 : Int) (v1 : Int) (h0 : -256 ≤ v0 ∧ v0 ≤ 511) (h1 : v1 ≤ v0) (h2 : -2147483648 ≤ v0 ∧ v0 ≤ 2147483647) (h3 : v1 = 4) : 0 ≤ v0 := by omega
theorem ob147 (v0 : Int) (v1 : Int) (v2 : Int) (v3 : Int) (h0 : v0 = v2 / 2) (h1 : -256 ≤ v2 ∧ v2 ≤ 511) (h2 : v3 ≤ v2) (h3 : -2147483648 ≤ v0 ∧ v0 ≤ 2147483647) (h4 : v1 = 1) (h5 : -2147483648 ≤ v2 ∧ v2 ≤ 2147483647) (h6 : v3 = 4) : -2147483648 ≤ v0 - v1 ∧ v0 - v1 ≤ 2147483647 := by omega
theorem ob148 (v0 : Int) (v1 : Int) (v2 : Int) (v3 : Int) (v4 : Int) (v5 : Int) (v6 : Int) (v7 : Int) (h0 : v1 = v2) (h1 : v2 = v3 % 2) (h2 : -256 ≤ v3 ∧ v3 ≤ 511) (h3 : v4 ≤ v3) (h4 : v5 = v3 / 2) (h5 : v6 = v5 - v7) (h6 : v0 = 2) (h7 : -9223372036854775808 ≤ v1 ∧ v1 ≤ 9223372036854775807) (h8 : -2147483648 ≤ v2 ∧ v2 ≤ 2147483647) (h9 : -2147483648 ≤ v3 ∧ v3 ≤ 2147483647) (h10 : v4 = 4) (h11 : -2147483648 ≤ v5 ∧ v5 ≤ 2147483647) (h12 : -2147483648 ≤ v6 ∧ v6 ≤ 2147483647) (h13 : v7 = 1) : -9223372036854775808 ≤ v0 + v1 ∧ v0 + v1 ≤ 9223372036854775807 := by omega
theorem ob149 (v0 : Int) (v1 : Int) (v2 : Int) (v3 : Int) (v4 : Int) (v5 : Int) (v6 : Int) (v7 : Int) (v8 : Int) (v9 : Int) (h0 : v1 ≤ v2) (h1 : v0 = v3 - v4) (h2 : -256 ≤ v2 ∧ v2 ≤ 511) (h3 : v3 = v2 / 2) (h4 : v5 = v2 % 2) (h5 : v6 ≤ v2) (h6 : v7 = v5) (h7 : v8 = v9 + v7) (h8 : -2147483648 ≤ v0 ∧ v0 ≤ 2147483647) (h9 : v1 = 4) (h10 : -2147483648 ≤ v2 ∧ v2 ≤ 2147483647) (h11 : -2147483648 ≤ v3 ∧ v3 ≤ 2147483647) (h12 : v4 = 1) (h13 : -2147483648 ≤ v5 ∧ v5 ≤ 2147483647) (h14 : v6 = 14) (h15 : -9223372036854775808 ≤ v7 ∧ v7 ≤ 9223372036854775807) (h16 : -9223372036854775808 ≤ v8 ∧ v8 ≤ 9223372036854775807) (h17 : v9 = 2) : -2147483648 ≤ v0 - v1 ∧ v0 - v1 ≤ 2147483647 := by omega
theorem ob150 (v0 : Int) (v1 : Int) (v2 : Int) (v3 : Int) (v4 : Int) (v5 : Int) (v6 : Int) (v7 : Int) (v8 : Int) (v9 : Int) (h0 : -256 ≤ v0 ∧ v0 ≤ 511) (h1 : v1 ≤ v0) (h2 : v2 = v0 / 2) (h3 : v3 = v0 % 2) (h4 : v0 < v4) (h5 : v5 = v2 - v6) (h6 : v7 = v3) (h7 : v8 = v9 + v7) (h8 : -2147483648 ≤ v0 ∧ v0 ≤ 2147483647) (h9 : v1 = 4) (h10 : -2147483648 ≤ v2 ∧ v2 ≤ 2147483647) (h11 : -2147483648 ≤ v3 ∧ v3 ≤ 2147483647) (h12 : v4 = 14) (h13 : -2147483648 ≤ v5 ∧ v5 ≤ 2147483647) (h14 : v6 = 1) (h15 : -9223372036854775808 ≤ v7 ∧ v7 ≤ 9223372036854775807) (h16 : -9223372036854775808 ≤ v8 ∧ v8 ≤ 9223372036854775807) (h17 : v9 = 2) : -2147483648 ≤ v0 - v1 ∧ v0 - v1 ≤ 2147483647 := by omega
theorem ob151 (v0 : Int) (v1 : Int) (v2 : Int) (v3 : Int) (v4 : Int) (v5 : Int) (v6 : Int) (v7 : Int) (v8 : Int) (v9 : Int) (v10 : Int) (h0 : v0 = v1 - v2) (h1 : -256 ≤ v1 ∧ v1 ≤ 511) (h2 : v2 ≤ v1) (h3 : v3 = v1 / 2) (h4 : v4 = v1 % 2) (h5 : v1 < v5) (h6 : v6 = v3 - v7) (h7 : v8 = v4) (h8 : v9 = v10 + v8) (h9 : -2147483648 ≤ v0 ∧ v0 ≤ 2147483647) (h10 : -2147483648 ≤ v1 ∧ v1 ≤ 2147483647) (h11 : v2 = 4) (h12 : -2147483648 ≤ v3 ∧ v3 ≤ 2147483647) (h13 : -2147483648 ≤ v4 ∧ v4 ≤ 2147483647) (h14 : v5 = 14) (h15 : -2147483648 ≤ v6 ∧ v6 ≤ 2147483647) (h16 : v7 = 1) (h17 : -9223372036854775808 ≤ v8 ∧ v8 ≤ 9223372036854775807) (h18 : -9223372036854775808 ≤ v9 ∧ v9 ≤ 9223372036854775807) (h19 : v10 = 2) : -2147483648 ≤ v0 * 32 ∧ v0 * 32 ≤ 2147483647 := by omega
theorem ob152 (v0 : Int) (v1 : Int) (v2 : Int) (v3 : Int) (v4 : Int) (v5 : Int) (v6 : Int) (v7 : Int) (v8 : Int) (v9 : Int) (v10 : Int) (v11 : Int) (v12 : Int) (h0 : v1 = v2 * 32) (h1 : v2 = v3 - v4) (h2 : -256 ≤ v3 ∧ v3 ≤ 511) (h3 : v4 ≤ v3) (h4 : v5 = v3 / 2) (h5 : v6 = v3 % 2) (h6 : v3 < v7) (h7 : v8 = v5 - v9) (h8 : v10 = v6) (h9 : v11 = v12 + v10) (h10 : v0 = 688) (h11 : -2147483648 ≤ v1 ∧ v1 ≤ 2147483647) (h12 : -2147483648 ≤ v2 ∧ v2 ≤ 2147483647) (h13 : -2147483648 ≤ v3 ∧ v3 ≤ 2147483647) (h14 : v4 = 4) (h15 : -2147483648 ≤ v5 ∧ v5 ≤ 2147483647) (h16 : -2147483648 ≤ v6 ∧ v6 ≤ 2147483647) (h17 : v7 = 14) (h18 : -2147483648 ≤ v8 ∧ v8 ≤ 2147483647) (h19 : v9 = 1) (h20 : -9223372036854775808 ≤ v10 ∧ v10 ≤ 9223372036854775807) (h21 : -9223372036854775808 ≤ v11 ∧ v11 ≤ 9223372036854775807) (h22 : v12 = 2) : -2147483648 ≤ v0 + v1 ∧ v0 + v1 ≤ 2147483647 := by omega
theorem ob153 (v0 : Int) (v1 : Int) (v2 : Int) (h0 : -256 ≤ v0 ∧ v0 ≤ 511) (h1 : v0 < v2) (h2 : -2147483648 ≤ v0 ∧ v0 ≤ 2147483647) (h3 : v1 = 1) (h4 : v2 = 4) : -2147483648 ≤ v0 + v1 ∧ v0 + v1 ≤ 2147483647 := by omega
theorem ob154 (v0 : Int) (h0 : v0 ≤ 3) (h1 : v0 + 2147483649 ≤ 0) (h2 : -2147483648 ≤ v0 ∧ v0 ≤ 2147483647) : (0 * v0) ≤ -1 := by omega
theorem ob155 (v0 : Int) (v1 : Int) (v2 : Int) (v3 : Int) (h0 : v0 ≤ 3) (h1 : v0 + 2147483649 ≤ v2 + 1) (h2 : v3 < v0) (h3 : -2147483648 ≤ v0 ∧ v0 ≤ 2147483647) (h4 : v1 = 1) (h5 : v3 = 0) : -2147483648 ≤ v0 - v1 ∧ v0 - v1 ≤ 2147483647 := by omega
theorem ob156 (v0 : Int) (v1 : Int) (v2 : Int) (v3 : Int) (v4 : Int) (h0 : v0 = v1 - v2) (h1 : v1 ≤ 3) (h2 : v1 + 2147483649 ≤ v3 + 1) (h3 : v4 < v1) (h4 : -2147483648 ≤ v0 ∧ v0 ≤ 2147483647) (h5 : -2147483648 ≤ v1 ∧ v1 ≤ 2147483647) (h6 : v2 = 1) (h7 : v4 = 0) : 0 ≤ v0 ∧ v0 < (4 : Nat) := by omega
theorem ob157 (v0 : Int) (v1 : Int) (v2 : Int) (v3 : Int) (v4 : Int) (h0 : v0 ≤ 3) (h1 : v0 + 2147483649 ≤ v1 + 1) (h2 : v2 < v0) (h3 : v3 = v0 - v4) (h4 : -2147483648 ≤ v0 ∧ v0 ≤ 2147483647) (h5 : v2 = 0) (h6 : -2147483648 ≤ v3 ∧ v3 ≤ 2147483647) (h7 : v4 = 1) : 0 ≤ v0 ∧ v0 < (4 : Nat) := by omega
theorem ob158 (v0 : Int) (v1 : Int) (v2 : Int) (v3 : Int) (v4 : Int) (v5 : Int) (h0 : v0 ≤ 3) (h1 : v0 + 2147483649 ≤ v2 + 1) (h2 : v3 < v0) (h3 : v4 = v0 - v5) (h4 : -2147483648 ≤ v0 ∧ v0 ≤ 2147483647) (h5 : v1 = (-1)) (h6 : v3 = 0) (h7 : -2147483648 ≤ v4 ∧ v4 ≤ 2147483647) (h8 : v5 = 1) : -2147483648 ≤ v0 + v1 ∧ v0 + v1 ≤ 2147483647 := by omega
theorem ob159 (v0 : Int) (v1 : Int) (v2 : Int) (v3 : Int) (v4 : Int) (v5 : Int) (v6 : Int) (h0 : v2 + 2147483649 ≤ v1 + 1) (h1 : v0 = v2 + v3) (h2 : v2 ≤ 3) (h3 : v4 < v2) (h4 : v5 = v2 - v6) (h5 : -2147483648 ≤ v0 ∧ v0 ≤ 2147483647) (h6 : -2147483648 ≤ v2 ∧ v2 ≤ 2147483647) (h7 : v3 = (-1)) (h8 : v4 = 0) (h9 : -2147483648 ≤ v5 ∧ v5 ≤ 2147483647) (h10 : v6 = 1) : v0 + 2147483649 ≤ v1 := by omega
theorem ob160 (v0 : Int) (v1 : Int) (v2 : Int) (v3 : Int) (v4 : Int) (v5 : Int) (v6 : Int) (h0 : v0 = v1 + v2) (h1 : v1 ≤ 3) (h2 : v1 + 2147483649 ≤ v3 + 1) (h3 : v4 < v1) (h4 : v5 = v1 - v6) (h5 : -2147483648 ≤ v0 ∧ v0 ≤ 2147483647) (h6 : -2147483648 ≤ v1 ∧ v1 ≤ 2147483647) (h7 : v2 = (-1)) (h8 : v4 = 0) (h9 : -2147483648 ≤ v5 ∧ v5 ≤ 2147483647) (h10 : v6 = 1) : v0 ≤ 3 := by omega
theorem ob161 (v0 : Int) (v1 : Int) (v2 : Int) (h0 : v0 ≤ v1 ∧ v0 ≤ v2 ∧ (v0 = v1 ∨ v0 = v2)) (h1 : -2147483648 ≤ v0 ∧ v0 ≤ 2147483647) (h2 : -2147483648 ≤ v1 ∧ v1 ≤ 2147483647) (h3 : v2 = 3) : v0 ≤ 3 := by omega
theorem ob162 (v0 : Int) (h0 : v0 = 10) : 7 ≤ v0 ∧ v0 ≤ 10 := by omega
theorem ob163 (v0 : Int) (v1 : Int) (h0 : v1 < v0) (h1 : v0 = 7) (h2 : -2147483648 ≤ v1 ∧ v1 ≤ 2147483647) : 7 ≤ v0 ∧ v0 ≤ 10 := by omega
theorem ob164 (v0 : Int) (h0 : v0 = 11) : 8 ≤ v0 ∧ v0 ≤ 11 := by omega
theorem ob165 (v0 : Int) (h0 : v0 = 8) : 8 ≤ v0 ∧ v0 ≤ 11 := by omega
theorem ob166 (v0 : Int) (h0 : v0 = 11) : 9 ≤ v0 ∧ v0 ≤ 11 := by omega
theorem ob167 (v0 : Int) (h0 : v0 = 9) : 9 ≤ v0 ∧ v0 ≤ 11 := by omega
theorem ob168 (v0 : Int) (v1 : Int) (v2 : Int) (v3 : Int) (h0 : v2 ≤ v0) (h1 : v3 ≤ v0) (h2 : -2147483648 ≤ v0 ∧ v0 ≤ 2147483647) (h3 : v1 = 6) (h4 : v2 = 4) (h5 : v3 = 10) : -2147483648 ≤ v0 - v1 ∧ v0 - v1 ≤ 2147483647 := by omega
theorem ob169 (v0 : Int) (v1 : Int) (v2 : Int) (v3 : Int) (h0 : v2 ≤ v0) (h1 : v0 < v3) (h2 : -2147483648 ≤ v0 ∧ v0 ≤ 2147483647) (h3 : v1 = 3) (h4 : v2 = 4) (h5 : v3 = 10) : -2147483648 ≤ v0 - v1 ∧ v0 - v1 ≤ 2147483647 := by omega
set_option maxHeartbeats 4000000 in
set_option maxRecDepth 100000 in
/-- X5_use on (9,) -/
theorem jx_X5_use (l : Launch) (hlt : l.stackTraces = false) (D : va_G) (t3 : Nat × Nat × Nat) (cI cJ : ClassId) (ad : Nat → Nat) (g : Nat → Int32) (lg : Nat → Int64) (ar : Nat → Nat → Int32) (bk : Nat → Int64) (sz : Nat) (y1 : Int32) (y2 : Int32) (y3 : Int32) (hr0 : 0 ≤ (y1).toInt ∧ (y1).toInt ≤ 4) (hr1 : 0 ≤ (y2).toInt ∧ (y2).toInt ≤ 4) (hi_g21 : 0 ≤ (g 21).toInt ∧ (g 21).toInt ≤ 4) (hi_g22 : 0 ≤ (g 22).toInt ∧ (g 22).toInt ≤ 4) : JMv l yX5_use (Cond.code yX5_use cX5_use 4 none :: wwX) { frames := 0, cells := 1, slots := 6, locals := 0 } t3 D xw cI cJ ad [.ref (ad 9), .int y1, .int y2, .int y3] (xw cI cJ ad g lg ar bk) sz 1 6 (fun g' lg' ar' bk' => hk_fr [21, 22, 23] g g' ∧ lg = lg' ∧ ar = ar' ∧ bk = bk' ∧ (0 ≤ (g' 21).toInt ∧ (g' 21).toInt ≤ 4) ∧ (0 ≤ (g' 22).toInt ∧ (g' 22).toInt ≤ 4)) (fun g' lg' ar' bk' => False) := by
  refine jx_metv (cc := cX5_use) (maxL := 4) (ret := none) rfl (by decide) rfl (Nat.le_of_ble_eq_true rfl) ?_
  intro p e s m args below meth c ls Q A hx hb hml hown hts hA hZ hw hl hQ kr kt
  have hq : ∀ w ∈ wwX, w.before args s = true := fun w h => hts w (List.mem_cons_of_mem _ h)
  have hl : lv_has ls 4 [(0, .ref (ad 9)), (1, .int y1), (2, .int y2), (3, .int y3)] := hl
  refine lv_aload_n hx hb dX5_use_0 rfl (lv_at hl 0 rfl) ?_
  refine lv_iload_n hx hb dX5_use_1 rfl (lv_at hl 1 rfl) ?_
  refine jx_putg xw (g := g) (lg := lg) (ar := ar) (bk := bk) (x := y1) 21 (ci := 8) (C := RX5) (T := TX5) (N := 6) (ty := .int) hx hb hts (fun _ h => List.mem_cons_of_mem _ (wwXc_wsX50 _ h)) tyX5 tyX5_ok nmX5 hown hw 9 rfl rfl 2 (by decide) (hq _ wX_381) rfl (by decide +kernel) rfl rfl (Nat.le_of_ble_eq_true rfl) dX5_use_2 rfl (fun H locs g1 h_g1 hw => ?_)
  refine lv_aload_n hx hb dX5_use_5 rfl (lv_at hl 0 rfl) ?_
  refine lv_iload_n hx hb dX5_use_6 rfl (lv_at hl 2 rfl) ?_
  refine jx_putg xw (g := g1) (lg := lg) (ar := ar) (bk := bk) (x := y2) 22 (ci := 8) (C := RX5) (T := TX5) (N := 6) (ty := .int) hx hb hts (fun _ h => List.mem_cons_of_mem _ (wwXc_wsX50 _ h)) tyX5 tyX5_ok nmX5 hown hw 9 rfl rfl 3 (by decide) (hq _ wX_380) rfl (by decide +kernel) rfl rfl (Nat.le_of_ble_eq_true rfl) dX5_use_7 rfl (fun H locs g2 h_g2 hw => ?_)
  refine lv_aload_n hx hb dX5_use_10 rfl (lv_at hl 0 rfl) ?_
  refine lv_iload_n hx hb dX5_use_11 rfl (lv_at hl 3 rfl) ?_
  refine jx_putg xw (g := g2) (lg := lg) (ar := ar) (bk := bk) (x := y3) 23 (ci := 8) (C := RX5) (T := TX5) (N := 6) (ty := .int) hx hb hts (fun _ h => List.mem_cons_of_mem _ (wwXc_wsX50 _ h)) tyX5 tyX5_ok nmX5 hown hw 9 rfl rfl 4 (by decide) (hq _ wX_398) rfl (by decide +kernel) rfl rfl (Nat.le_of_ble_eq_true rfl) dX5_use_12 rfl (fun H locs g3 h_g3 hw => ?_)
  have e_g3_21 : g3 21 = y1 := ((hk_upgN h_g3 21 rfl)).trans (((hk_upgN h_g2 21 rfl)).trans (hk_upgS h_g1))
  have e_g3_22 : g3 22 = y2 := ((hk_upgN h_g3 22 rfl)).trans (hk_upgS h_g2)
  exact kr g3 lg ar bk _ _ _ _ ⟨(hk_frG (hk_frG (hk_frG hk_fr0 (by decide) h_g1) (by decide) h_g2) (by decide) h_g3), rfl, rfl, rfl, (ob92 ((g3 21).toInt) ((y1).toInt) (congrArg Int32.toInt e_g3_21) hr0 (hE_rng (g3 21)) (hE_rng (y1))), (ob92 ((g3 22).toInt) ((y2).toInt) (congrArg Int32.toInt e_g3_22) hr1 (hE_rng (g3 22)) (hE_rng (y2)))⟩ hw dX5_use_15

set_option maxHeartbeats 4000000 in
set_option maxRecDepth 100000 in
/-- J7_rangeCheck_23922 -/
theorem jx_J7_rangeCheck_23922 (l : Launch) (hlt : l.stackTraces = false) (D : va_G) (t3 : Nat × Nat × Nat) (cI cJ : ClassId) (ad : Nat → Nat) (g : Nat → Int32) (lg : Nat → Int64) (ar : Nat → Nat → Int32) (bk : Nat → Int64) (sz : Nat) (y0 : Int32) (y1 : Int32) (y2 : Int32) (hr0 : 0 ≤ (y1).toInt) (hr1 : (y1).toInt ≤ (y2).toInt) (hr2 : (y2).toInt ≤ (y0).toInt) : JMv l yJ7_rangeCheck_23922 (Cond.code yJ7_rangeCheck_23922 cJ7_rangeCheck_23922 3 none :: wwX) { frames := 0, cells := 1, slots := 6, locals := 0 } t3 D xw cI cJ ad [.int y0, .int y1, .int y2] (xw cI cJ ad g lg ar bk) sz 1 6 (fun g' lg' ar' bk' => g = g' ∧ lg = lg' ∧ ar = ar' ∧ bk = bk') (fun g' lg' ar' bk' => False) := by
  refine jx_metv (cc := cJ7_rangeCheck_23922) (maxL := 3) (ret := none) rfl (by decide) rfl (Nat.le_of_ble_eq_true rfl) ?_
  intro p e s m args below meth c ls Q A hx hb hml hown hts hA hZ hw hl hQ kr kt
  have hq : ∀ w ∈ wwX, w.before args s = true := fun w h => hts w (List.mem_cons_of_mem _ h)
  have hl : lv_has ls 3 [(0, .int y0), (1, .int y1), (2, .int y2)] := hl
  refine lv_iload_n hx hb dJ7_rangeCheck_23922_0 rfl (lv_at hl 1 rfl) ?_
  refine lv_iload_n hx hb dJ7_rangeCheck_23922_1 rfl (lv_at hl 2 rfl) ?_
  refine lv_icmp_le (tgt := 46) hx hb dJ7_rangeCheck_23922_2 (by decide) (fun cc1 => ?_) (fun cc1 => ?_)
  · refine lv_iload_n hx hb dJ7_rangeCheck_23922_46 rfl (lv_at hl 1 rfl) ?_
    refine lv_if_ge (tgt := 59) hx hb dJ7_rangeCheck_23922_47 (by decide) (fun cc2 => ?_) (fun cc2 => ?_)
    · refine lv_iload_n hx hb dJ7_rangeCheck_23922_59 rfl (lv_at hl 2 rfl) ?_
      refine lv_iload_n hx hb dJ7_rangeCheck_23922_60 rfl (lv_at hl 0 rfl) ?_
      refine lv_icmp_le (tgt := 73) hx hb dJ7_rangeCheck_23922_61 (by decide) (fun cc3 => ?_) (fun cc3 => ?_)
      · exact kr g lg ar bk _ _ _ _ ⟨rfl, rfl, rfl, rfl⟩ hw dJ7_rangeCheck_23922_73
      · exact False.elim (hk_no0 (0 * (y1).toInt + 0 * (y2).toInt + 0 * (y0).toInt + 0 * ((0 : Int32)).toInt) (ob93 ((y1).toInt) ((y2).toInt) ((y0).toInt) (((0 : Int32)).toInt) hr0 hr1 hr2 (hE_le cc1) (hE_le cc2) (hE_nle cc3) (hE_rng (y1)) (hE_rng (y2)) (hE_rng (y0)) (by decide)) (by simp))
    · exact False.elim (hk_no0 (0 * (y1).toInt + 0 * (y2).toInt + 0 * (y0).toInt + 0 * ((0 : Int32)).toInt) (ob94 ((y1).toInt) ((y2).toInt) ((y0).toInt) (((0 : Int32)).toInt) hr0 hr1 hr2 (hE_le cc1) (hE_nle cc2) (hE_rng (y1)) (hE_rng (y2)) (hE_rng (y0)) (by decide)) (by simp))
  · exact False.elim (hk_no0 (0 * (y1).toInt + 0 * (y2).toInt + 0 * (y0).toInt) (ob95 ((y1).toInt) ((y2).toInt) ((y0).toInt) hr0 hr1 hr2 (hE_nle cc1) (hE_rng (y1)) (hE_rng (y2)) (hE_rng (y0))) (by simp))

set_option maxHeartbeats 4000000 in
set_option maxRecDepth 100000 in
/-- J7_fill_fda19 on (8,) -/
theorem jx_J7_fill_fda19_8 (l : Launch) (hlt : l.stackTraces = false) (D : va_G) (t3 : Nat × Nat × Nat) (cI cJ : ClassId) (ad : Nat → Nat) (g : Nat → Int32) (lg : Nat → Int64) (ar : Nat → Nat → Int32) (bk : Nat → Int64) (sz : Nat) (y1 : Int32) (y2 : Int32) (y3 : Int32) (hr0 : 0 ≤ (y1).toInt) (hr1 : (y1).toInt ≤ (y2).toInt) (hr2 : (y2).toInt ≤ 14340) : JMv l yJ7_fill_fda19 (Cond.code yJ7_fill_fda19 cJ7_fill_fda19 5 none :: wwX) { frames := 1, cells := 1, slots := 6, locals := 22 } t3 D xw cI cJ ad [.ref (ad 8), .int y1, .int y2, .int y3] (xw cI cJ ad g lg ar bk) sz 1 6 (fun g' lg' ar' bk' => g = g' ∧ lg = lg' ∧ hk_fr [2] ar ar' ∧ bk = bk') (fun g' lg' ar' bk' => False) := by
  refine jx_metv (cc := cJ7_fill_fda19) (maxL := 5) (ret := none) rfl (by decide) rfl (Nat.le_of_ble_eq_true rfl) ?_
  intro p e s m args below meth c ls Q A hx hb hml hown hts hA hZ hw hl hQ kr kt
  have hq : ∀ w ∈ wwX, w.before args s = true := fun w h => hts w (List.mem_cons_of_mem _ h)
  have hl : lv_has ls 5 [(0, .ref (ad 8)), (1, .int y1), (2, .int y2), (3, .int y3)] := hl
  refine lv_aload_n hx hb dJ7_fill_fda19_0 rfl (lv_at hl 0 rfl) ?_
  refine hk_alen (v := 14340) hx hb hw 8 0 rfl rfl rfl dJ7_fill_fda19_1 ?_
  refine lv_iload_n hx hb dJ7_fill_fda19_2 rfl (lv_at hl 1 rfl) ?_
  refine lv_iload_n hx hb dJ7_fill_fda19_3 rfl (lv_at hl 2 rfl) ?_
  refine jx_Sv (As := [.int 14340, .int y1, .int y2]) (rest := []) ⟨hx, hb, hml, hown, hts⟩ hZ hw hA (jx_J7_rangeCheck_23922 l hlt D t3 cI cJ ad g lg ar bk _ 14340 y1 y2 (ob96 ((y1).toInt) ((y2).toInt) hr0 hr1 hr2 (hE_rng (y1)) (hE_rng (y2))) (ob97 ((y1).toInt) ((y2).toInt) hr0 hr1 hr2 (hE_rng (y1)) (hE_rng (y2))) (ob98 ((y2).toInt) (((14340 : Int32)).toInt) ((y1).toInt) hr1 hr2 hr0 (hE_rng (y2)) (by decide) (hE_rng (y1)))) (va_cwS 3 hts (jx_gS wwX_good wX_5 wX_6 wX_7 wX_8) rfl rfl rfl (by decide +kernel) ⟨Nat.le_of_ble_eq_true rfl, Nat.le_of_ble_eq_true rfl⟩) rfl hl.1 rfl (Nat.le_of_ble_eq_true rfl) dJ7_fill_fda19_4 ⟨Nat.le_of_ble_eq_true rfl, Nat.le_of_ble_eq_true rfl⟩ (fun _ _ _ _ _ _ _ _ hp _ _ _ _ => hp.elim) (fun g6 l7 a8 b9 H locs hp10 hw => ?_)
  obtain ⟨rfl, rfl, rfl, rfl⟩ := hp10
  refine lv_iload_n hx hb dJ7_fill_fda19_7 rfl (lv_at hl 1 rfl) ?_
  refine lv_istore (lv' := [(4, .int y1), (0, .ref (ad 8)), (1, .int y1), (2, .int y2), (3, .int y3)]) hx hb dJ7_fill_fda19_8 hl (by decide) rfl (fun ls hl => ?_)
  have B15 : ∀ (k18 : Nat) (x16 : Int32) (a17 : Nat → Nat → Int32) (ls : Array Slot) (H : Heap) (locs : List Loc), (2147483648 - (x16).toInt ≤ (k18 : Int)) → (0 ≤ (x16).toInt) → (hk_fr [2] ar a17) → hk_W D (jT cI cJ) A s H locs (xw cI cJ ad g lg a17 bk) → lv_has ls 5 [(0, .ref (ad 8)), (2, .int y2), (3, .int y3), (4, .int x16)] → W p l e { frames := 1, cells := 1, slots := 6, locals := 22 } s m args below meth c H locs 0 0 Q (F0 m 10 ls []) := by
    intro k18
    induction k18 with
    | zero =>
      intro x16 a17 ls H locs hrk_B15 hf_B15_0 hfr_a17 hw hl
      exact False.elim (hk_no0 (0 * (x16).toInt) (ob5 ((x16).toInt) hf_B15_0 hrk_B15 (hE_rng (x16))) (by simp))
    | succ k18 ih_B15 =>
      intro x16 a17 ls H locs hrk_B15 hf_B15_0 hfr_a17 hw hl
      have hrk_B15 := hk_rk hrk_B15
      refine lv_iload hx hb dJ7_fill_fda19_10 (lv_at hl 3 rfl) ?_
      refine lv_iload_n hx hb dJ7_fill_fda19_12 rfl (lv_at hl 1 rfl) ?_
      refine lv_icmp_ge (tgt := 27) hx hb dJ7_fill_fda19_13 (by decide) (fun cc19 => ?_) (fun cc19 => ?_)
      · exact kr g lg a17 bk _ _ _ _ ⟨rfl, rfl, hfr_a17, rfl⟩ hw dJ7_fill_fda19_27
      · refine lv_aload_n hx hb dJ7_fill_fda19_16 rfl (lv_at hl 0 rfl) ?_
        refine lv_iload hx hb dJ7_fill_fda19_17 (lv_at hl 3 rfl) ?_
        refine lv_iload_n hx hb dJ7_fill_fda19_19 rfl (lv_at hl 2 rfl) ?_
        refine jx_iast xw (g := g) (lg := lg) (ar := a17) (bk := bk) 2 hx hb hw 8 0 rfl rfl (hE_in (n := 14340) (ob99 ((x16).toInt) (k18 : Int) ((y2).toInt) ((y1).toInt) hf_B15_0 hrk_B15 (hE_nle cc19) hr1 hr2 hr0 (hE_rng (x16)) (hE_rng (y2)) (hE_rng (y1)))) dJ7_fill_fda19_20 rfl (fun H locs a20 h_a20 hw => ?_)
        obtain ⟨z21, hz21⟩ : ∃ z : Int32, x16 + 1 = z := ⟨_, rfl⟩
        refine lv_iinc (v := z21) (lv' := [(4, .int z21), (0, .ref (ad 8)), (2, .int y2), (3, .int y3)]) hx hb dJ7_fill_fda19_21 hl (k := 3) rfl hz21 (by decide) rfl (fun ls hl => ?_)
        have xz21 : (z21).toInt = (x16).toInt + ((1 : Int32)).toInt := (hE_imp (hE_add hz21) (ob100 ((x16).toInt) (((1 : Int32)).toInt) (k18 : Int) ((y2).toInt) ((y1).toInt) hf_B15_0 hrk_B15 (hE_nle cc19) hr1 hr2 hr0 (hE_rng (x16)) (by decide) (hE_rng (y2)) (hE_rng (y1))))
        refine lv_goto (tgt := 10) hx hb dJ7_fill_fda19_24 (by decide) ?_
        exact ih_B15 z21 a20 ls _ _ (ob101 ((z21).toInt) (k18 : Int) ((x16).toInt) (((1 : Int32)).toInt) ((y2).toInt) ((y1).toInt) hrk_B15 xz21 hf_B15_0 (hE_nle cc19) hr1 hr2 hr0 (hE_rng (z21)) (hE_rng (x16)) (by decide) (hE_rng (y2)) (hE_rng (y1))) (ob102 ((z21).toInt) ((x16).toInt) (((1 : Int32)).toInt) (k18 : Int) ((y2).toInt) ((y1).toInt) xz21 hf_B15_0 hrk_B15 (hE_nle cc19) hr1 hr2 hr0 (hE_rng (z21)) (hE_rng (x16)) (by decide) (hE_rng (y2)) (hE_rng (y1))) (hk_frA hfr_a17 (by decide) h_a20) hw (lv_sub hl [1, 2, 3, 0] rfl)
  exact B15 (2147483648 - (y1).toInt).toNat y1 ar ls _ _ (Int.self_le_toNat _) (ob96 ((y1).toInt) ((y2).toInt) hr0 hr1 hr2 (hE_rng (y1)) (hE_rng (y2))) hk_fr0 hw (lv_sub hl [1, 3, 4, 0] rfl)

set_option maxHeartbeats 4000000 in
set_option maxRecDepth 100000 in
/-- J7_fill_d0a16 on (10,) -/
theorem jx_J7_fill_d0a16_10 (l : Launch) (hlt : l.stackTraces = false) (D : va_G) (t3 : Nat × Nat × Nat) (cI cJ : ClassId) (ad : Nat → Nat) (g : Nat → Int32) (lg : Nat → Int64) (ar : Nat → Nat → Int32) (bk : Nat → Int64) (sz : Nat) (y1 : Int64) : JMv l yJ7_fill_d0a16 (Cond.code yJ7_fill_d0a16 cJ7_fill_d0a16 5 none :: wwX) { frames := 0, cells := 1, slots := 6, locals := 0 } t3 D xw cI cJ ad [.ref (ad 10), .long y1] (xw cI cJ ad g lg ar bk) sz 1 6 (fun g' lg' ar' bk' => g = g' ∧ lg = lg' ∧ ar = ar' ∧ True) (fun g' lg' ar' bk' => False) := by
  refine jx_metv (cc := cJ7_fill_d0a16) (maxL := 5) (ret := none) rfl (by decide) rfl (Nat.le_of_ble_eq_true rfl) ?_
  intro p e s m args below meth c ls Q A hx hb hml hown hts hA hZ hw hl hQ kr kt
  have hq : ∀ w ∈ wwX, w.before args s = true := fun w h => hts w (List.mem_cons_of_mem _ h)
  have hl : lv_has ls 5 [(0, .ref (ad 10)), (1, .long y1)] := hl
  refine lv_iconst (v := 0) hx hb dJ7_fill_d0a16_0 (by decide) ?_
  refine lv_istore_n (lv' := [(3, .int 0), (0, .ref (ad 10)), (1, .long y1)]) hx hb dJ7_fill_d0a16_1 rfl hl (by decide) rfl (fun ls hl => ?_)
  refine lv_aload_n hx hb dJ7_fill_d0a16_2 rfl (lv_at hl 1 rfl) ?_
  refine hk_alen (v := 4) hx hb hw 10 1 rfl rfl rfl dJ7_fill_d0a16_3 ?_
  refine lv_istore (lv' := [(4, .int 4), (3, .int 0), (0, .ref (ad 10)), (1, .long y1)]) hx hb dJ7_fill_d0a16_4 hl (by decide) rfl (fun ls hl => ?_)
  have B1 : ∀ (k4 : Nat) (x2 : Int32) (b3 : Nat → Int64) (ls : Array Slot) (H : Heap) (locs : List Loc), (2147483648 - (x2).toInt ≤ (k4 : Int)) → (0 ≤ (x2).toInt) → hk_W D (jT cI cJ) A s H locs (xw cI cJ ad g lg ar b3) → lv_has ls 5 [(0, .ref (ad 10)), (1, .long y1), (3, .int x2), (4, .int 4)] → W p l e { frames := 0, cells := 1, slots := 6, locals := 0 } s m args below meth c H locs 0 0 Q (F0 m 6 ls []) := by
    intro k4
    induction k4 with
    | zero =>
      intro x2 b3 ls H locs hrk_B1 hf_B1_0 hw hl
      exact False.elim (hk_no0 (0 * (x2).toInt) (ob5 ((x2).toInt) hf_B1_0 hrk_B1 (hE_rng (x2))) (by simp))
    | succ k4 ih_B1 =>
      intro x2 b3 ls H locs hrk_B1 hf_B1_0 hw hl
      have hrk_B1 := hk_rk hrk_B1
      refine lv_iload_n hx hb dJ7_fill_d0a16_6 rfl (lv_at hl 2 rfl) ?_
      refine lv_iload hx hb dJ7_fill_d0a16_7 (lv_at hl 3 rfl) ?_
      refine lv_icmp_ge (tgt := 22) hx hb dJ7_fill_d0a16_9 (by decide) (fun cc5 => ?_) (fun cc5 => ?_)
      · exact kr g lg ar b3 _ _ _ _ ⟨rfl, rfl, rfl, trivial⟩ hw dJ7_fill_d0a16_22
      · refine lv_aload_n hx hb dJ7_fill_d0a16_12 rfl (lv_at hl 0 rfl) ?_
        refine lv_iload_n hx hb dJ7_fill_d0a16_13 rfl (lv_at hl 2 rfl) ?_
        refine lv_lload_n hx hb dJ7_fill_d0a16_14 rfl (lv_at hl 1 rfl) ?_
        refine jx_last xw (g := g) (lg := lg) (ar := ar) (bk := b3) hx hb hw 10 1 rfl rfl (hE_in (n := 4) (ob103 ((x2).toInt) (k4 : Int) (((4 : Int32)).toInt) hf_B1_0 hrk_B1 (hE_nle cc5) (hE_rng (x2)) (by decide))) dJ7_fill_d0a16_15 rfl (fun H locs b6 h_b6 hw => ?_)
        obtain ⟨z7, hz7⟩ : ∃ z : Int32, x2 + 1 = z := ⟨_, rfl⟩
        refine lv_iinc (v := z7) (lv' := [(3, .int z7), (0, .ref (ad 10)), (1, .long y1), (4, .int 4)]) hx hb dJ7_fill_d0a16_16 hl (k := 2) rfl hz7 (by decide) rfl (fun ls hl => ?_)
        have xz7 : (z7).toInt = (x2).toInt + ((1 : Int32)).toInt := (hE_imp (hE_add hz7) (ob19 ((x2).toInt) (((1 : Int32)).toInt) (k4 : Int) (((4 : Int32)).toInt) hf_B1_0 hrk_B1 (hE_nle cc5) (hE_rng (x2)) (by decide) (by decide)))
        refine lv_goto (tgt := 6) hx hb dJ7_fill_d0a16_19 (by decide) ?_
        exact ih_B1 z7 b6 ls _ _ (ob20 ((z7).toInt) (k4 : Int) ((x2).toInt) (((1 : Int32)).toInt) (((4 : Int32)).toInt) hrk_B1 xz7 hf_B1_0 (hE_nle cc5) (hE_rng (z7)) (hE_rng (x2)) (by decide) (by decide)) (ob21 ((z7).toInt) ((x2).toInt) (((1 : Int32)).toInt) (k4 : Int) (((4 : Int32)).toInt) xz7 hf_B1_0 hrk_B1 (hE_nle cc5) (hE_rng (z7)) (hE_rng (x2)) (by decide) (by decide)) hw (lv_sub hl [1, 2, 0, 3] rfl)
  exact B1 (2147483648 - ((0 : Int32)).toInt).toNat 0 bk ls _ _ (Int.self_le_toNat _) (ob9 (((0 : Int32)).toInt) (by decide)) hw (lv_sub hl [2, 3, 1, 0] rfl)

set_option maxHeartbeats 4000000 in
set_option maxRecDepth 100000 in
/-- X5_reset on (9,) -/
theorem jx_X5_reset (l : Launch) (hlt : l.stackTraces = false) (D : va_G) (t3 : Nat × Nat × Nat) (cI cJ : ClassId) (ad : Nat → Nat) (g : Nat → Int32) (lg : Nat → Int64) (ar : Nat → Nat → Int32) (bk : Nat → Int64) (sz : Nat) (hi_g21 : 0 ≤ (g 21).toInt ∧ (g 21).toInt ≤ 4) (hi_g22 : 0 ≤ (g 22).toInt ∧ (g 22).toInt ≤ 4) : JMv l yX5_reset (Cond.code yX5_reset cX5_reset 2 none :: wwX) { frames := 2, cells := 1, slots := 6, locals := 46 } t3 D xw cI cJ ad [.ref (ad 9)] (xw cI cJ ad g lg ar bk) sz 1 6 (fun g' lg' ar' bk' => hk_fr [24] g g' ∧ lg = lg' ∧ hk_fr [2] ar ar' ∧ True) (fun g' lg' ar' bk' => False) := by
  refine jx_metv (cc := cX5_reset) (maxL := 2) (ret := none) rfl (by decide) rfl (Nat.le_of_ble_eq_true rfl) ?_
  intro p e s m args below meth c ls Q A hx hb hml hown hts hA hZ hw hl hQ kr kt
  have hq : ∀ w ∈ wwX, w.before args s = true := fun w h => hts w (List.mem_cons_of_mem _ h)
  have hl : lv_has ls 2 [(0, .ref (ad 9))] := hl
  refine lv_sipush (v := 2052) hx hb dX5_reset_0 (by decide) ?_
  refine lv_sipush (v := 768) hx hb dX5_reset_3 (by decide) ?_
  refine lv_aload_n hx hb dX5_reset_6 rfl (lv_at hl 0 rfl) ?_
  refine hk_get (ci := 8) (C := RX5) (T := TX5) (N := 6) (v := .int (g 21)) hx hb hts (fun _ h => List.mem_cons_of_mem _ (wwXc_wsX50 _ h)) hown hw 9 rfl rfl 2 (by decide) (hq _ wX_381) rfl dX5_reset_7 ?_
  refine lv_aload_n hx hb dX5_reset_10 rfl (lv_at hl 0 rfl) ?_
  refine hk_get (ci := 8) (C := RX5) (T := TX5) (N := 6) (v := .int (g 22)) hx hb hts (fun _ h => List.mem_cons_of_mem _ (wwXc_wsX50 _ h)) hown hw 9 rfl rfl 3 (by decide) (hq _ wX_380) rfl dX5_reset_11 ?_
  refine lv_iadd hx hb dX5_reset_14 (jx_nm fun z1 hz1 => ?_)
  have xz1 : (z1).toInt = (g 21).toInt + (g 22).toInt := (hE_imp (hE_add hz1) (ob104 ((g 21).toInt) ((g 22).toInt) hi_g21 hi_g22 (hE_rng (g 21)) (hE_rng (g 22))))
  refine lv_ishl hx hb dX5_reset_15 (jx_nm fun z2 hz2 => ?_)
  refine lv_iadd hx hb dX5_reset_16 (jx_nm fun z3 hz3 => ?_)
  refine lv_istore_n (lv' := [(1, .int z3), (0, .ref (ad 9))]) hx hb dX5_reset_17 rfl hl (by decide) rfl (fun ls hl => ?_)
  refine lv_aload_n hx hb dX5_reset_18 rfl (lv_at hl 1 rfl) ?_
  refine hk_get (ci := 8) (C := RX5) (T := TX5) (N := 6) (v := .ref (ad 7)) hx hb hts (fun _ h => List.mem_cons_of_mem _ (wwXc_wsX50 _ h)) hown hw 9 rfl rfl 0 (by decide) (hq _ wX_357) rfl dX5_reset_19 ?_
  refine hk_get (ci := 5) (C := RX2) (T := TX2) (N := 9) (v := .ref (ad 8)) hx hb hts (fun _ h => List.mem_cons_of_mem _ (wwXc_wsX20 _ h)) hown hw 7 rfl rfl 0 (by decide) (hq _ wX_386) rfl dX5_reset_22 ?_
  refine lv_iconst (v := 0) hx hb dX5_reset_25 (by decide) ?_
  refine lv_iload_n hx hb dX5_reset_26 rfl (lv_at hl 0 rfl) ?_
  refine lv_sipush (v := 14340) hx hb dX5_reset_27 (by decide) ?_
  refine va_mmin hx hb (by rw [hml]; exact hl.1.symm) hown (hq _ wX_355) (hq _ wX_146) (hq _ wX_143) (hq _ wX_147) (Nat.le_of_ble_eq_true rfl) (Nat.le_of_ble_eq_true rfl) (Nat.le_of_ble_eq_true rfl) (Nat.le_of_ble_eq_true rfl) dX5_reset_30 (jx_nm fun z4 hz4 => ?_)
  refine lv_sipush (v := 1024) hx hb dX5_reset_33 (by decide) ?_
  refine jx_Sv (As := [.ref (ad 8), .int 0, .int z4, .int 1024]) (rest := []) ⟨hx, hb, hml, hown, hts⟩ hZ hw hA (jx_J7_fill_fda19_8 l hlt D t3 cI cJ ad g lg ar bk _ 0 z4 1024 (ob9 (((0 : Int32)).toInt) (by decide)) (ob105 (((0 : Int32)).toInt) ((z4).toInt) ((z3).toInt) (((14340 : Int32)).toInt) (((2052 : Int32)).toInt) ((z2).toInt) ((z1).toInt) ((g 21).toInt) ((g 22).toInt) (hE_min hz4) (hE_add hz3) (hE_shl768 hz2) xz1 hi_g21 hi_g22 (by decide) (hE_rng (z4)) (hE_rng (z3)) (by decide) (by decide) (hE_rng (z2)) (hE_rng (z1)) (hE_rng (g 21)) (hE_rng (g 22))) (ob106 ((z4).toInt) ((z3).toInt) (((14340 : Int32)).toInt) (((2052 : Int32)).toInt) ((z2).toInt) ((z1).toInt) ((g 21).toInt) ((g 22).toInt) (hE_min hz4) (hE_add hz3) (hE_shl768 hz2) xz1 hi_g21 hi_g22 (hE_rng (z4)) (hE_rng (z3)) (by decide) (by decide) (hE_rng (z2)) (hE_rng (z1)) (hE_rng (g 21)) (hE_rng (g 22)))) (va_cwS 4 hts (jx_gS wwX_good wX_387 wX_388 wX_7 wX_389) rfl rfl rfl (by decide +kernel) ⟨Nat.le_of_ble_eq_true rfl, Nat.le_of_ble_eq_true rfl⟩) rfl hl.1 rfl (Nat.le_of_ble_eq_true rfl) dX5_reset_36 ⟨Nat.le_of_ble_eq_true rfl, Nat.le_of_ble_eq_true rfl⟩ (fun _ _ _ _ _ _ _ _ hp _ _ _ _ => hp.elim) (fun g10 l11 a12 b13 H locs hp14 hw => ?_)
  obtain ⟨rfl, rfl, h17, rfl⟩ := hp14
  refine lv_aload_n hx hb dX5_reset_39 rfl (lv_at hl 1 rfl) ?_
  refine hk_get (ci := 8) (C := RX5) (T := TX5) (N := 6) (v := .ref (ad 10)) hx hb hts (fun _ h => List.mem_cons_of_mem _ (wwXc_wsX50 _ h)) hown hw 9 rfl rfl 1 (by decide) (hq _ wX_354) rfl dX5_reset_40 ?_
  refine lv_lconst (v := 1) hx hb dX5_reset_43 (by decide) ?_
  refine jx_Sv (As := [.ref (ad 10), .long 1]) (rest := []) ⟨hx, hb, hml, hown, hts⟩ hZ hw hA (jx_J7_fill_d0a16_10 l hlt D t3 cI cJ ad g lg a12 bk _ 1) (va_cwS 2 hts (jx_gS wwX_good wX_390 wX_391 wX_7 wX_392) rfl rfl rfl (by decide +kernel) ⟨Nat.le_of_ble_eq_true rfl, Nat.le_of_ble_eq_true rfl⟩) rfl hl.1 rfl (Nat.le_of_ble_eq_true rfl) dX5_reset_44 ⟨Nat.le_of_ble_eq_true rfl, Nat.le_of_ble_eq_true rfl⟩ (fun _ _ _ _ _ _ _ _ hp _ _ _ _ => hp.elim) (fun g24 l25 a26 b27 H locs hp28 hw => ?_)
  obtain ⟨rfl, rfl, rfl, -⟩ := hp28
  refine lv_aload_n hx hb dX5_reset_47 rfl (lv_at hl 1 rfl) ?_
  refine lv_iconst (v := 0) hx hb dX5_reset_48 (by decide) ?_
  refine jx_putg xw (g := g) (lg := lg) (ar := a12) (bk := b27) (x := 0) 24 (ci := 8) (C := RX5) (T := TX5) (N := 6) (ty := .int) hx hb hts (fun _ h => List.mem_cons_of_mem _ (wwXc_wsX50 _ h)) tyX5 tyX5_ok nmX5 hown hw 9 rfl rfl 5 (by decide) (hq _ wX_378) rfl (by decide +kernel) rfl rfl (Nat.le_of_ble_eq_true rfl) dX5_reset_49 rfl (fun H locs g33 h_g33 hw => ?_)
  exact kr g33 lg a12 b27 _ _ _ _ ⟨(hk_frG hk_fr0 (by decide) h_g33), rfl, h17, trivial⟩ hw dX5_reset_52

set_option maxHeartbeats 4000000 in
set_option maxRecDepth 100000 in
/-- X5_back on (9,) -/
theorem jx_X5_back (l : Launch) (hlt : l.stackTraces = false) (D : va_G) (t3 : Nat × Nat × Nat) (cI cJ : ClassId) (ad : Nat → Nat) (g : Nat → Int32) (lg : Nat → Int64) (ar : Nat → Nat → Int32) (bk : Nat → Int64) (sz : Nat) (y1 : Int32) : JMl l yX5_back (Cond.code yX5_back cX5_back 2 (some .long) :: wwX) { frames := 0, cells := 1, slots := 6, locals := 0 } t3 D xw cI cJ ad [.ref (ad 9), .int y1] (xw cI cJ ad g lg ar bk) sz 1 6 (fun (r : Int64) g' lg' ar' bk' => g = g' ∧ lg = lg' ∧ ar = ar' ∧ bk = bk') (fun g' lg' ar' bk' => False) := by
  refine jx_metl (cc := cX5_back) (maxL := 2) (ret := (some .long)) rfl (by decide) rfl (Nat.le_of_ble_eq_true rfl) ?_
  intro p e s m args below meth c ls Q A hx hb hml hown hts hA hZ hw hl hQ kr kt
  have hq : ∀ w ∈ wwX, w.before args s = true := fun w h => hts w (List.mem_cons_of_mem _ h)
  have hl : lv_has ls 2 [(0, .ref (ad 9)), (1, .int y1)] := hl
  refine lv_iload_n hx hb dX5_back_0 rfl (lv_at hl 1 rfl) ?_
  refine lv_if_lt (tgt := 18) hx hb dX5_back_1 (by decide) (fun cc1 => ?_) (fun cc1 => ?_)
  · refine lv_lconst (v := 0) hx hb dX5_back_18 (by decide) ?_
    exact kr 0 g lg ar bk _ _ _ _ ⟨rfl, rfl, rfl, rfl⟩ hw dX5_back_19
  · refine lv_iload_n hx hb dX5_back_4 rfl (lv_at hl 1 rfl) ?_
    refine lv_iconst (v := 4) hx hb dX5_back_5 (by decide) ?_
    refine lv_icmp_ge (tgt := 18) hx hb dX5_back_6 (by decide) (fun cc2 => ?_) (fun cc2 => ?_)
    · refine lv_lconst (v := 0) hx hb dX5_back_18 (by decide) ?_
      exact kr 0 g lg ar bk _ _ _ _ ⟨rfl, rfl, rfl, rfl⟩ hw dX5_back_19
    · refine lv_aload_n hx hb dX5_back_9 rfl (lv_at hl 0 rfl) ?_
      refine hk_get (ci := 8) (C := RX5) (T := TX5) (N := 6) (v := .ref (ad 10)) hx hb hts (fun _ h => List.mem_cons_of_mem _ (wwXc_wsX50 _ h)) hown hw 9 rfl rfl 1 (by decide) (hq _ wX_354) rfl dX5_back_10 ?_
      refine lv_iload_n hx hb dX5_back_13 rfl (lv_at hl 1 rfl) ?_
      refine jx_lald hx hb hw 10 1 rfl rfl (hE_in (n := 4) (ob107 ((y1).toInt) (((0 : Int32)).toInt) (((4 : Int32)).toInt) (hE_nlt cc1) (hE_nle cc2) (hE_rng (y1)) (by decide) (by decide))) dX5_back_14 (fun z3 hz3 => ?_)
      refine lv_goto (tgt := 19) hx hb dX5_back_15 (by decide) ?_
      exact kr z3 g lg ar bk _ _ _ _ ⟨rfl, rfl, rfl, rfl⟩ hw dX5_back_19

set_option maxHeartbeats 4000000 in
set_option maxRecDepth 100000 in
/-- X5_turnOf on (9,) -/
theorem jx_X5_turnOf (l : Launch) (hlt : l.stackTraces = false) (D : va_G) (t3 : Nat × Nat × Nat) (cI cJ : ClassId) (ad : Nat → Nat) (g : Nat → Int32) (lg : Nat → Int64) (ar : Nat → Nat → Int32) (bk : Nat → Int64) (sz : Nat) (y1 : Int32) : JMi l yX5_turnOf (Cond.code yX5_turnOf cX5_turnOf 2 (some .int) :: wwX) { frames := 0, cells := 1, slots := 6, locals := 0 } t3 D xw cI cJ ad [.ref (ad 9), .int y1] (xw cI cJ ad g lg ar bk) sz 1 6 (fun (r : Int32) g' lg' ar' bk' => g = g' ∧ lg = lg' ∧ ar = ar' ∧ bk = bk') (fun g' lg' ar' bk' => False) := by
  refine jx_meti (cc := cX5_turnOf) (maxL := 2) (ret := (some .int)) rfl (by decide) rfl (Nat.le_of_ble_eq_true rfl) ?_
  intro p e s m args below meth c ls Q A hx hb hml hown hts hA hZ hw hl hQ kr kt
  have hq : ∀ w ∈ wwX, w.before args s = true := fun w h => hts w (List.mem_cons_of_mem _ h)
  have hl : lv_has ls 2 [(0, .ref (ad 9)), (1, .int y1)] := hl
  refine lv_iload_n hx hb dX5_turnOf_0 rfl (lv_at hl 1 rfl) ?_
  refine lv_iconst (v := 1) hx hb dX5_turnOf_1 (by decide) ?_
  refine lv_aload_n hx hb dX5_turnOf_2 rfl (lv_at hl 0 rfl) ?_
  refine hk_get (ci := 8) (C := RX5) (T := TX5) (N := 6) (v := .int (g 23)) hx hb hts (fun _ h => List.mem_cons_of_mem _ (wwXc_wsX50 _ h)) hown hw 9 rfl rfl 4 (by decide) (hq _ wX_398) rfl dX5_turnOf_3 ?_
  refine lv_ishl hx hb dX5_turnOf_6 (jx_nm fun z1 hz1 => ?_)
  refine lv_iconst (v := 1) hx hb dX5_turnOf_7 (by decide) ?_
  refine lv_isub hx hb dX5_turnOf_8 (jx_nm fun z2 hz2 => ?_)
  refine lv_iand hx hb dX5_turnOf_9 (jx_nm fun z3 hz3 => ?_)
  exact kr z3 g lg ar bk _ _ _ _ ⟨rfl, rfl, rfl, rfl⟩ hw dX5_turnOf_10

set_option maxHeartbeats 4000000 in
set_option maxRecDepth 100000 in
/-- X5_codeKind on (9,) -/
theorem jx_X5_codeKind (l : Launch) (hlt : l.stackTraces = false) (D : va_G) (t3 : Nat × Nat × Nat) (cI cJ : ClassId) (ad : Nat → Nat) (g : Nat → Int32) (lg : Nat → Int64) (ar : Nat → Nat → Int32) (bk : Nat → Int64) (sz : Nat) (y1 : Int32) (y2 : Int32) (hi_a0rg : hk_rg 0 255 (ar 0)) : JMi l yX5_codeKind (Cond.code yX5_codeKind cX5_codeKind 4 (some .int) :: wwX) { frames := 8, cells := 1, slots := 6, locals := 128 } t3 D xw cI cJ ad [.ref (ad 9), .int y1, .int y2] (xw cI cJ ad g lg ar bk) sz 1 6 (fun (r : Int32) g' lg' ar' bk' => hk_fr [14, 15, 17, 19, 20] g g' ∧ hk_fr [0, 1, 2] lg lg' ∧ hk_fr [1, 2] ar ar' ∧ bk = bk' ∧ ((g 18).toInt ≠ 0 → (g' 14).toInt = (g 14).toInt)) (fun g' lg' ar' bk' => hk_fr [14, 15, 17, 19, 20] g g' ∧ hk_fr [0, 1, 2] lg lg' ∧ hk_fr [1, 2] ar ar' ∧ bk = bk' ∧ ((g 18).toInt ≠ 0) ∧ ((g' 14).toInt = (g 14).toInt)) := by
  refine jx_meti (cc := cX5_codeKind) (maxL := 4) (ret := (some .int)) rfl (by decide) rfl (Nat.le_of_ble_eq_true rfl) ?_
  intro p e s m args below meth c ls Q A hx hb hml hown hts hA hZ hw hl hQ kr kt
  have hq : ∀ w ∈ wwX, w.before args s = true := fun w h => hts w (List.mem_cons_of_mem _ h)
  have hl : lv_has ls 4 [(0, .ref (ad 9)), (1, .int y1), (2, .int y2)] := hl
  refine lv_aload_n hx hb dX5_codeKind_0 rfl (lv_at hl 0 rfl) ?_
  refine lv_iload_n hx hb dX5_codeKind_1 rfl (lv_at hl 2 rfl) ?_
  refine jx_Vi (As := [.int y2]) (rest := []) ⟨hx, hb, hml, hown, hts⟩ hZ hw hA (jx_X5_turnOf l hlt D t3 cI cJ ad g lg ar bk _ y2) (cwV 1 hts (jx_gV wwX_good wX_374 wX_375 wX_376 wX_215 wX_377) rfl rfl rfl (by decide +kernel) ⟨Nat.le_of_ble_eq_true rfl, Nat.le_of_ble_eq_true rfl⟩) 9 (ci := 8) (T := TX5) (N := 6) rfl rfl rfl hl.1 rfl (Nat.le_of_ble_eq_true rfl) dX5_codeKind_2 ⟨Nat.le_of_ble_eq_true rfl, Nat.le_of_ble_eq_true rfl⟩ (fun _ _ _ _ _ _ _ _ hp _ _ _ _ => hp.elim) (fun r5 g6 l7 a8 b9 H locs hp10 hw => ?_)
  obtain ⟨rfl, rfl, rfl, rfl⟩ := hp10
  refine lv_istore_n (lv' := [(3, .int r5), (0, .ref (ad 9)), (1, .int y1), (2, .int y2)]) hx hb dX5_codeKind_5 rfl hl (by decide) rfl (fun ls hl => ?_)
  refine lv_aload_n hx hb dX5_codeKind_6 rfl (lv_at hl 1 rfl) ?_
  refine hk_get (ci := 8) (C := RX5) (T := TX5) (N := 6) (v := .ref (ad 7)) hx hb hts (fun _ h => List.mem_cons_of_mem _ (wwXc_wsX50 _ h)) hown hw 9 rfl rfl 0 (by decide) (hq _ wX_357) rfl dX5_codeKind_7 ?_
  refine lv_iconst (v := 0) hx hb dX5_codeKind_10 (by decide) ?_
  refine lv_aload_n hx hb dX5_codeKind_11 rfl (lv_at hl 1 rfl) ?_
  refine hk_get (ci := 8) (C := RX5) (T := TX5) (N := 6) (v := .int (g 24)) hx hb hts (fun _ h => List.mem_cons_of_mem _ (wwXc_wsX50 _ h)) hown hw 9 rfl rfl 5 (by decide) (hq _ wX_378) rfl dX5_codeKind_12 ?_
  refine lv_bipush (v := 16) hx hb dX5_codeKind_15 (by decide) ?_
  refine lv_imul hx hb dX5_codeKind_17 (jx_nm fun z15 hz15 => ?_)
  refine lv_iadd hx hb dX5_codeKind_18 (jx_nm fun z16 hz16 => ?_)
  have xz16 : (z16).toInt = ((0 : Int32)).toInt + (z15).toInt := (hE_imp (hE_add hz16) (ob108 (((0 : Int32)).toInt) ((z15).toInt) (by decide) (hE_rng (z15))))
  refine lv_iload_n hx hb dX5_codeKind_19 rfl (lv_at hl 0 rfl) ?_
  refine lv_iadd hx hb dX5_codeKind_20 (jx_nm fun z17 hz17 => ?_)
  refine lv_iload_n hx hb dX5_codeKind_21 rfl (lv_at hl 2 rfl) ?_
  have B18 : ∀  (x19 : Int32) (ls : Array Slot) (H : Heap) (locs : List Loc), (0 ≤ (x19).toInt ∧ (x19).toInt ≤ 1) → hk_W D (jT cI cJ) A s H locs (xw cI cJ ad g lg ar bk) → lv_has ls 4 [(0, .ref (ad 9)), (1, .int y1), (3, .int r5)] → W p l e { frames := 8, cells := 1, slots := 6, locals := 128 } s m args below meth c H locs 0 0 Q (F0 m 30 ls [.int x19, .int z17, .ref (ad 7)]) := by
    intro x19 ls H locs hf_B18_0 hw hl
    refine jx_Vi (As := [.int z17, .int x19]) (rest := []) ⟨hx, hb, hml, hown, hts⟩ hZ hw hA (jx_X2_bit l hlt D t3 cI cJ ad g lg ar bk _ z17 x19 (ob53 ((x19).toInt) hf_B18_0 (hE_rng (x19))) hi_a0rg) (cwV 2 hts (jx_gV wwX_good wX_379 wX_292 wX_293 wX_270 wX_294) rfl rfl rfl (by decide +kernel) ⟨Nat.le_of_ble_eq_true rfl, Nat.le_of_ble_eq_true rfl⟩) 7 (ci := 5) (T := TX2) (N := 9) rfl rfl rfl hl.1 rfl (Nat.le_of_ble_eq_true rfl) dX5_codeKind_30 ⟨Nat.le_of_ble_eq_true rfl, Nat.le_of_ble_eq_true rfl⟩ (fun u20 u21 u22 u23 H locs ce q hp hw h1 h2 h3 => by obtain ⟨ht0, ht1, ht2, rfl, ht4, ht5⟩ := hp; exact kt _ _ _ _ _ _ _ _ _ _ _ ⟨ht0, ht1, ht2, rfl, (ob109 ((g 18).toInt) ht4 (hE_rng (g 18))), (ob56 ((u20 14).toInt) ((g 14).toInt) ht5 (hE_rng (u20 14)) (hE_rng (g 14)))⟩ hw h1 h2 h3) (fun r24 g25 l26 a27 b28 H locs hp29 hw => ?_)
    obtain ⟨h30, h31, h32, rfl, h34, h35⟩ := hp29
    refine lv_if_ne (tgt := 38) hx hb dX5_codeKind_33 (by decide) (fun cc36 => ?_) (fun cc36 => ?_)
    · refine lv_aload_n hx hb dX5_codeKind_38 rfl (lv_at hl 0 rfl) ?_
      refine hk_get (ci := 8) (C := RX5) (T := TX5) (N := 6) (v := .ref (ad 7)) hx hb hts (fun _ h => List.mem_cons_of_mem _ (wwXc_wsX50 _ h)) hown hw 9 rfl rfl 0 (by decide) (hq _ wX_357) rfl dX5_codeKind_39 ?_
      refine lv_sipush (v := 192) hx hb dX5_codeKind_42 (by decide) ?_
      refine lv_aload_n hx hb dX5_codeKind_45 rfl (lv_at hl 0 rfl) ?_
      have e_g25_24 : g25 24 = (g 24) := (h30 24 rfl)
      refine hk_get (ci := 8) (C := RX5) (T := TX5) (N := 6) (v := .int (g 24)) hx hb hts (fun _ h => List.mem_cons_of_mem _ (wwXc_wsX50 _ h)) hown hw 9 rfl rfl 5 (by decide) (hq _ wX_378) (congrArg (fun z => some (Value.int z)) e_g25_24) dX5_codeKind_46 ?_
      refine lv_iadd hx hb dX5_codeKind_49 (jx_nm fun z37 hz37 => ?_)
      refine lv_iload_n hx hb dX5_codeKind_50 rfl (lv_at hl 1 rfl) ?_
      refine lv_iconst (v := 1) hx hb dX5_codeKind_51 (by decide) ?_
      have B38 : ∀  (x39 : Int32) (ls : Array Slot) (H : Heap) (locs : List Loc), (0 ≤ (x39).toInt ∧ (x39).toInt ≤ 1) → hk_W D (jT cI cJ) A s H locs (xw cI cJ ad g25 l26 a27 bk) → lv_has ls 4 [(0, .ref (ad 9)), (1, .int y1), (3, .int r5)] → W p l e { frames := 8, cells := 1, slots := 6, locals := 128 } s m args below meth c H locs 0 0 Q (F0 m 66 ls [.int x39, .int z37, .ref (ad 7)]) := by
        intro x39 ls H locs hf_B38_0 hw hl
        have e_g25_18 : g25 18 = (g 18) := (h30 18 rfl)
        refine jx_Vi (As := [.int z37, .int x39]) (rest := []) ⟨hx, hb, hml, hown, hts⟩ hZ hw hA (jx_X2_bit l hlt D t3 cI cJ ad g25 l26 a27 bk _ z37 x39 (ob53 ((x39).toInt) hf_B38_0 (hE_rng (x39))) (hk_pE (P := hk_rg 0 255) hi_a0rg (h32 0 rfl))) (cwV 2 hts (jx_gV wwX_good wX_379 wX_292 wX_293 wX_270 wX_294) rfl rfl rfl (by decide +kernel) ⟨Nat.le_of_ble_eq_true rfl, Nat.le_of_ble_eq_true rfl⟩) 7 (ci := 5) (T := TX2) (N := 9) rfl rfl rfl hl.1 rfl (Nat.le_of_ble_eq_true rfl) dX5_codeKind_66 ⟨Nat.le_of_ble_eq_true rfl, Nat.le_of_ble_eq_true rfl⟩ (fun u40 u41 u42 u43 H locs ce q hp hw h1 h2 h3 => by obtain ⟨ht0, ht1, ht2, rfl, ht4, ht5⟩ := hp; exact kt _ _ _ _ _ _ _ _ _ _ _ ⟨(hk_frT h30 (by decide) ht0), (hk_frT h31 (by decide) ht1), (hk_frT h32 (by decide) ht2), rfl, (ob75 ((g 18).toInt) ((g25 14).toInt) ((g 14).toInt) ((g25 18).toInt) ((u40 14).toInt) h35 (congrArg Int32.toInt e_g25_18) ht4 ht5 (hE_rng (g 18)) (hE_rng (g25 14)) (hE_rng (g 14)) (hE_rng (g25 18)) (hE_rng (u40 14))), (ob76 ((u40 14).toInt) ((g 14).toInt) ((g 18).toInt) ((g25 14).toInt) ((g25 18).toInt) h35 ht5 (congrArg Int32.toInt e_g25_18) ht4 (hE_rng (u40 14)) (hE_rng (g 14)) (hE_rng (g 18)) (hE_rng (g25 14)) (hE_rng (g25 18)))⟩ hw h1 h2 h3) (fun r44 g45 l46 a47 b48 H locs hp49 hw => ?_)
        obtain ⟨h50, h51, h52, rfl, h54, h55⟩ := hp49
        have e_g25_18 : g25 18 = (g 18) := (h30 18 rfl)
        have hr56 : hk_rg 0 255 (a47 0) := (hk_pE (P := hk_rg 0 255) (hk_pE (P := hk_rg 0 255) hi_a0rg (h32 0 rfl)) (h52 0 rfl))
        refine lv_if_ne (tgt := 74) hx hb dX5_codeKind_69 (by decide) (fun cc57 => ?_) (fun cc57 => ?_)
        · refine lv_aload_n hx hb dX5_codeKind_74 rfl (lv_at hl 0 rfl) ?_
          refine hk_get (ci := 8) (C := RX5) (T := TX5) (N := 6) (v := .ref (ad 7)) hx hb hts (fun _ h => List.mem_cons_of_mem _ (wwXc_wsX50 _ h)) hown hw 9 rfl rfl 0 (by decide) (hq _ wX_357) rfl dX5_codeKind_75 ?_
          refine lv_sipush (v := 204) hx hb dX5_codeKind_78 (by decide) ?_
          refine lv_aload_n hx hb dX5_codeKind_81 rfl (lv_at hl 0 rfl) ?_
          have e_g45_24 : g45 24 = (g 24) := ((h50 24 rfl)).trans e_g25_24
          refine hk_get (ci := 8) (C := RX5) (T := TX5) (N := 6) (v := .int (g 24)) hx hb hts (fun _ h => List.mem_cons_of_mem _ (wwXc_wsX50 _ h)) hown hw 9 rfl rfl 5 (by decide) (hq _ wX_378) (congrArg (fun z => some (Value.int z)) e_g45_24) dX5_codeKind_82 ?_
          refine lv_iadd hx hb dX5_codeKind_85 (jx_nm fun z58 hz58 => ?_)
          refine lv_iload_n hx hb dX5_codeKind_86 rfl (lv_at hl 1 rfl) ?_
          refine lv_iconst (v := 2) hx hb dX5_codeKind_87 (by decide) ?_
          have B59 : ∀  (x60 : Int32) (ls : Array Slot) (H : Heap) (locs : List Loc), (0 ≤ (x60).toInt ∧ (x60).toInt ≤ 1) → hk_W D (jT cI cJ) A s H locs (xw cI cJ ad g45 l46 a47 bk) → lv_has ls 4 [(0, .ref (ad 9)), (1, .int y1), (3, .int r5)] → W p l e { frames := 8, cells := 1, slots := 6, locals := 128 } s m args below meth c H locs 0 0 Q (F0 m 102 ls [.int x60, .int z58, .ref (ad 7)]) := by
            intro x60 ls H locs hf_B59_0 hw hl
            have e_g45_18 : g45 18 = (g 18) := ((h50 18 rfl)).trans e_g25_18
            refine jx_Vi (As := [.int z58, .int x60]) (rest := []) ⟨hx, hb, hml, hown, hts⟩ hZ hw hA (jx_X2_bit l hlt D t3 cI cJ ad g45 l46 a47 bk _ z58 x60 (ob53 ((x60).toInt) hf_B59_0 (hE_rng (x60))) hr56) (cwV 2 hts (jx_gV wwX_good wX_379 wX_292 wX_293 wX_270 wX_294) rfl rfl rfl (by decide +kernel) ⟨Nat.le_of_ble_eq_true rfl, Nat.le_of_ble_eq_true rfl⟩) 7 (ci := 5) (T := TX2) (N := 9) rfl rfl rfl hl.1 rfl (Nat.le_of_ble_eq_true rfl) dX5_codeKind_102 ⟨Nat.le_of_ble_eq_true rfl, Nat.le_of_ble_eq_true rfl⟩ (fun u61 u62 u63 u64 H locs ce q hp hw h1 h2 h3 => by obtain ⟨ht0, ht1, ht2, rfl, ht4, ht5⟩ := hp; exact kt _ _ _ _ _ _ _ _ _ _ _ ⟨(hk_frT (hk_frT h30 (by decide) h50) (by decide) ht0), (hk_frT (hk_frT h31 (by decide) h51) (by decide) ht1), (hk_frT (hk_frT h32 (by decide) h52) (by decide) ht2), rfl, (ob110 ((g 18).toInt) ((g25 14).toInt) ((g 14).toInt) ((g25 18).toInt) ((g45 18).toInt) ((g45 14).toInt) ((u61 14).toInt) h35 (congrArg Int32.toInt e_g25_18) (congrArg Int32.toInt e_g25_18) (congrArg Int32.toInt e_g45_18) h55 ht4 ht5 (hE_rng (g 18)) (hE_rng (g25 14)) (hE_rng (g 14)) (hE_rng (g25 18)) (hE_rng (g45 18)) (hE_rng (g45 14)) (hE_rng (u61 14))), (ob111 ((u61 14).toInt) ((g 14).toInt) ((g 18).toInt) ((g25 14).toInt) ((g45 14).toInt) ((g25 18).toInt) ((g45 18).toInt) h35 ht5 (congrArg Int32.toInt e_g25_18) (congrArg Int32.toInt e_g25_18) h55 (congrArg Int32.toInt e_g45_18) ht4 (hE_rng (u61 14)) (hE_rng (g 14)) (hE_rng (g 18)) (hE_rng (g25 14)) (hE_rng (g45 14)) (hE_rng (g25 18)) (hE_rng (g45 18)))⟩ hw h1 h2 h3) (fun r65 g66 l67 a68 b69 H locs hp70 hw => ?_)
            obtain ⟨h71, h72, h73, rfl, h75, h76⟩ := hp70
            have e_g45_18 : g45 18 = (g 18) := ((h50 18 rfl)).trans e_g25_18
            refine lv_if_ne (tgt := 149) hx hb dX5_codeKind_105 (by decide) (fun cc77 => ?_) (fun cc77 => ?_)
            · refine lv_aload_n hx hb dX5_codeKind_149 rfl (lv_at hl 0 rfl) ?_
              refine hk_get (ci := 8) (C := RX5) (T := TX5) (N := 6) (v := .ref (ad 7)) hx hb hts (fun _ h => List.mem_cons_of_mem _ (wwXc_wsX50 _ h)) hown hw 9 rfl rfl 0 (by decide) (hq _ wX_357) rfl dX5_codeKind_150 ?_
              refine lv_sipush (v := 216) hx hb dX5_codeKind_153 (by decide) ?_
              refine lv_aload_n hx hb dX5_codeKind_156 rfl (lv_at hl 0 rfl) ?_
              have e_g66_24 : g66 24 = (g 24) := ((h71 24 rfl)).trans e_g45_24
              refine hk_get (ci := 8) (C := RX5) (T := TX5) (N := 6) (v := .int (g 24)) hx hb hts (fun _ h => List.mem_cons_of_mem _ (wwXc_wsX50 _ h)) hown hw 9 rfl rfl 5 (by decide) (hq _ wX_378) (congrArg (fun z => some (Value.int z)) e_g66_24) dX5_codeKind_157 ?_
              refine lv_iadd hx hb dX5_codeKind_160 (jx_nm fun z78 hz78 => ?_)
              refine lv_iload_n hx hb dX5_codeKind_161 rfl (lv_at hl 1 rfl) ?_
              refine lv_iconst (v := 3) hx hb dX5_codeKind_162 (by decide) ?_
              have B79 : ∀  (x80 : Int32) (ls : Array Slot) (H : Heap) (locs : List Loc), (0 ≤ (x80).toInt ∧ (x80).toInt ≤ 1) → hk_W D (jT cI cJ) A s H locs (xw cI cJ ad g66 l67 a68 bk) → lv_has ls 4 [(0, .ref (ad 9)), (1, .int y1)] → W p l e { frames := 8, cells := 1, slots := 6, locals := 128 } s m args below meth c H locs 0 0 Q (F0 m 171 ls [.int x80, .int z78, .ref (ad 7)]) := by
                intro x80 ls H locs hf_B79_0 hw hl
                have e_g66_18 : g66 18 = (g 18) := ((h71 18 rfl)).trans e_g45_18
                refine jx_Vi (As := [.int z78, .int x80]) (rest := []) ⟨hx, hb, hml, hown, hts⟩ hZ hw hA (jx_X2_bit l hlt D t3 cI cJ ad g66 l67 a68 bk _ z78 x80 (ob53 ((x80).toInt) hf_B79_0 (hE_rng (x80))) (hk_pE (P := hk_rg 0 255) hr56 (h73 0 rfl))) (cwV 2 hts (jx_gV wwX_good wX_379 wX_292 wX_293 wX_270 wX_294) rfl rfl rfl (by decide +kernel) ⟨Nat.le_of_ble_eq_true rfl, Nat.le_of_ble_eq_true rfl⟩) 7 (ci := 5) (T := TX2) (N := 9) rfl rfl rfl hl.1 rfl (Nat.le_of_ble_eq_true rfl) dX5_codeKind_171 ⟨Nat.le_of_ble_eq_true rfl, Nat.le_of_ble_eq_true rfl⟩ (fun u81 u82 u83 u84 H locs ce q hp hw h1 h2 h3 => by obtain ⟨ht0, ht1, ht2, rfl, ht4, ht5⟩ := hp; exact kt _ _ _ _ _ _ _ _ _ _ _ ⟨(hk_frT (hk_frT (hk_frT h30 (by decide) h50) (by decide) h71) (by decide) ht0), (hk_frT (hk_frT (hk_frT h31 (by decide) h51) (by decide) h72) (by decide) ht1), (hk_frT (hk_frT (hk_frT h32 (by decide) h52) (by decide) h73) (by decide) ht2), rfl, (ob112 ((g 18).toInt) ((g25 14).toInt) ((g 14).toInt) ((g25 18).toInt) ((g45 18).toInt) ((g66 18).toInt) ((g45 14).toInt) ((g66 14).toInt) ((u81 14).toInt) h35 (congrArg Int32.toInt e_g25_18) (congrArg Int32.toInt e_g25_18) (congrArg Int32.toInt e_g45_18) (congrArg Int32.toInt e_g45_18) (congrArg Int32.toInt e_g66_18) h55 h76 ht4 ht5 (hE_rng (g 18)) (hE_rng (g25 14)) (hE_rng (g 14)) (hE_rng (g25 18)) (hE_rng (g45 18)) (hE_rng (g66 18)) (hE_rng (g45 14)) (hE_rng (g66 14)) (hE_rng (u81 14))), (ob113 ((u81 14).toInt) ((g 14).toInt) ((g 18).toInt) ((g25 14).toInt) ((g66 14).toInt) ((g25 18).toInt) ((g45 14).toInt) ((g45 18).toInt) ((g66 18).toInt) h35 ht5 (congrArg Int32.toInt e_g25_18) (congrArg Int32.toInt e_g25_18) h55 (congrArg Int32.toInt e_g45_18) (congrArg Int32.toInt e_g45_18) h76 (congrArg Int32.toInt e_g66_18) ht4 (hE_rng (u81 14)) (hE_rng (g 14)) (hE_rng (g 18)) (hE_rng (g25 14)) (hE_rng (g66 14)) (hE_rng (g25 18)) (hE_rng (g45 14)) (hE_rng (g45 18)) (hE_rng (g66 18)))⟩ hw h1 h2 h3) (fun r85 g86 l87 a88 b89 H locs hp90 hw => ?_)
                obtain ⟨h91, h92, h93, rfl, h95, h96⟩ := hp90
                have e_g66_18 : g66 18 = (g 18) := ((h71 18 rfl)).trans e_g45_18
                have hr97 : hk_rg 0 255 (a88 0) := (hk_pE (P := hk_rg 0 255) (hk_pE (P := hk_rg 0 255) hr56 (h73 0 rfl)) (h93 0 rfl))
                refine lv_if_ne (tgt := 179) hx hb dX5_codeKind_174 (by decide) (fun cc98 => ?_) (fun cc98 => ?_)
                · refine lv_aload_n hx hb dX5_codeKind_179 rfl (lv_at hl 0 rfl) ?_
                  refine hk_get (ci := 8) (C := RX5) (T := TX5) (N := 6) (v := .ref (ad 7)) hx hb hts (fun _ h => List.mem_cons_of_mem _ (wwXc_wsX50 _ h)) hown hw 9 rfl rfl 0 (by decide) (hq _ wX_357) rfl dX5_codeKind_180 ?_
                  refine lv_sipush (v := 228) hx hb dX5_codeKind_183 (by decide) ?_
                  refine lv_aload_n hx hb dX5_codeKind_186 rfl (lv_at hl 0 rfl) ?_
                  have e_g86_24 : g86 24 = (g 24) := ((h91 24 rfl)).trans e_g66_24
                  refine hk_get (ci := 8) (C := RX5) (T := TX5) (N := 6) (v := .int (g 24)) hx hb hts (fun _ h => List.mem_cons_of_mem _ (wwXc_wsX50 _ h)) hown hw 9 rfl rfl 5 (by decide) (hq _ wX_378) (congrArg (fun z => some (Value.int z)) e_g86_24) dX5_codeKind_187 ?_
                  refine lv_iadd hx hb dX5_codeKind_190 (jx_nm fun z99 hz99 => ?_)
                  refine lv_iload_n hx hb dX5_codeKind_191 rfl (lv_at hl 1 rfl) ?_
                  refine lv_iconst (v := 4) hx hb dX5_codeKind_192 (by decide) ?_
                  have B100 : ∀  (x101 : Int32) (ls : Array Slot) (H : Heap) (locs : List Loc), (0 ≤ (x101).toInt ∧ (x101).toInt ≤ 1) → hk_W D (jT cI cJ) A s H locs (xw cI cJ ad g86 l87 a88 bk) → lv_has ls 4 [] → W p l e { frames := 8, cells := 1, slots := 6, locals := 128 } s m args below meth c H locs 0 0 Q (F0 m 201 ls [.int x101, .int z99, .ref (ad 7)]) := by
                    intro x101 ls H locs hf_B100_0 hw hl
                    have e_g86_18 : g86 18 = (g 18) := ((h91 18 rfl)).trans e_g66_18
                    refine jx_Vi (As := [.int z99, .int x101]) (rest := []) ⟨hx, hb, hml, hown, hts⟩ hZ hw hA (jx_X2_bit l hlt D t3 cI cJ ad g86 l87 a88 bk _ z99 x101 (ob53 ((x101).toInt) hf_B100_0 (hE_rng (x101))) hr97) (cwV 2 hts (jx_gV wwX_good wX_379 wX_292 wX_293 wX_270 wX_294) rfl rfl rfl (by decide +kernel) ⟨Nat.le_of_ble_eq_true rfl, Nat.le_of_ble_eq_true rfl⟩) 7 (ci := 5) (T := TX2) (N := 9) rfl rfl rfl hl.1 rfl (Nat.le_of_ble_eq_true rfl) dX5_codeKind_201 ⟨Nat.le_of_ble_eq_true rfl, Nat.le_of_ble_eq_true rfl⟩ (fun u102 u103 u104 u105 H locs ce q hp hw h1 h2 h3 => by obtain ⟨ht0, ht1, ht2, rfl, ht4, ht5⟩ := hp; exact kt _ _ _ _ _ _ _ _ _ _ _ ⟨(hk_frT (hk_frT (hk_frT (hk_frT h30 (by decide) h50) (by decide) h71) (by decide) h91) (by decide) ht0), (hk_frT (hk_frT (hk_frT (hk_frT h31 (by decide) h51) (by decide) h72) (by decide) h92) (by decide) ht1), (hk_frT (hk_frT (hk_frT (hk_frT h32 (by decide) h52) (by decide) h73) (by decide) h93) (by decide) ht2), rfl, (ob114 ((g 18).toInt) ((g25 14).toInt) ((g 14).toInt) ((g25 18).toInt) ((g45 18).toInt) ((g66 18).toInt) ((g86 18).toInt) ((g45 14).toInt) ((g66 14).toInt) ((g86 14).toInt) ((u102 14).toInt) h35 (congrArg Int32.toInt e_g25_18) (congrArg Int32.toInt e_g25_18) (congrArg Int32.toInt e_g45_18) (congrArg Int32.toInt e_g45_18) (congrArg Int32.toInt e_g66_18) (congrArg Int32.toInt e_g66_18) (congrArg Int32.toInt e_g86_18) h55 h76 h96 ht4 ht5 (hE_rng (g 18)) (hE_rng (g25 14)) (hE_rng (g 14)) (hE_rng (g25 18)) (hE_rng (g45 18)) (hE_rng (g66 18)) (hE_rng (g86 18)) (hE_rng (g45 14)) (hE_rng (g66 14)) (hE_rng (g86 14)) (hE_rng (u102 14))), (ob115 ((u102 14).toInt) ((g 14).toInt) ((g 18).toInt) ((g25 14).toInt) ((g86 14).toInt) ((g25 18).toInt) ((g45 14).toInt) ((g45 18).toInt) ((g66 18).toInt) ((g66 14).toInt) ((g86 18).toInt) h35 ht5 (congrArg Int32.toInt e_g25_18) (congrArg Int32.toInt e_g25_18) h55 (congrArg Int32.toInt e_g45_18) (congrArg Int32.toInt e_g45_18) (congrArg Int32.toInt e_g66_18) (congrArg Int32.toInt e_g66_18) h96 (congrArg Int32.toInt e_g86_18) h76 ht4 (hE_rng (u102 14)) (hE_rng (g 14)) (hE_rng (g 18)) (hE_rng (g25 14)) (hE_rng (g86 14)) (hE_rng (g25 18)) (hE_rng (g45 14)) (hE_rng (g45 18)) (hE_rng (g66 18)) (hE_rng (g66 14)) (hE_rng (g86 18)))⟩ hw h1 h2 h3) (fun r106 g107 l108 a109 b110 H locs hp111 hw => ?_)
                    obtain ⟨h112, h113, h114, rfl, h116, h117⟩ := hp111
                    have e_g86_18 : g86 18 = (g 18) := ((h91 18 rfl)).trans e_g66_18
                    refine lv_if_ne (tgt := 211) hx hb dX5_codeKind_204 (by decide) (fun cc118 => ?_) (fun cc118 => ?_)
                    · refine lv_iconst (v := 5) hx hb dX5_codeKind_211 (by decide) ?_
                      exact kr 5 g107 l108 a109 bk _ _ _ _ ⟨(hk_frT (hk_frT (hk_frT (hk_frT h30 (by decide) h50) (by decide) h71) (by decide) h91) (by decide) h112), (hk_frT (hk_frT (hk_frT (hk_frT h31 (by decide) h51) (by decide) h72) (by decide) h92) (by decide) h113), (hk_frT (hk_frT (hk_frT (hk_frT h32 (by decide) h52) (by decide) h73) (by decide) h93) (by decide) h114), rfl, (ob116 ((g 18).toInt) ((g107 14).toInt) ((g 14).toInt) ((g25 14).toInt) ((g25 18).toInt) ((g45 18).toInt) ((g66 18).toInt) ((g86 18).toInt) ((g86 14).toInt) ((g45 14).toInt) ((g66 14).toInt) h35 (congrArg Int32.toInt e_g25_18) (congrArg Int32.toInt e_g25_18) (congrArg Int32.toInt e_g45_18) (congrArg Int32.toInt e_g45_18) (congrArg Int32.toInt e_g66_18) (congrArg Int32.toInt e_g66_18) (congrArg Int32.toInt e_g86_18) (congrArg Int32.toInt e_g86_18) h117 h55 h76 h96 (hE_rng (g 18)) (hE_rng (g107 14)) (hE_rng (g 14)) (hE_rng (g25 14)) (hE_rng (g25 18)) (hE_rng (g45 18)) (hE_rng (g66 18)) (hE_rng (g86 18)) (hE_rng (g86 14)) (hE_rng (g45 14)) (hE_rng (g66 14)))⟩ hw dX5_codeKind_212
                    · refine lv_iconst (v := 4) hx hb dX5_codeKind_207 (by decide) ?_
                      refine lv_goto (tgt := 212) hx hb dX5_codeKind_208 (by decide) ?_
                      exact kr 4 g107 l108 a109 bk _ _ _ _ ⟨(hk_frT (hk_frT (hk_frT (hk_frT h30 (by decide) h50) (by decide) h71) (by decide) h91) (by decide) h112), (hk_frT (hk_frT (hk_frT (hk_frT h31 (by decide) h51) (by decide) h72) (by decide) h92) (by decide) h113), (hk_frT (hk_frT (hk_frT (hk_frT h32 (by decide) h52) (by decide) h73) (by decide) h93) (by decide) h114), rfl, (ob116 ((g 18).toInt) ((g107 14).toInt) ((g 14).toInt) ((g25 14).toInt) ((g25 18).toInt) ((g45 18).toInt) ((g66 18).toInt) ((g86 18).toInt) ((g86 14).toInt) ((g45 14).toInt) ((g66 14).toInt) h35 (congrArg Int32.toInt e_g25_18) (congrArg Int32.toInt e_g25_18) (congrArg Int32.toInt e_g45_18) (congrArg Int32.toInt e_g45_18) (congrArg Int32.toInt e_g66_18) (congrArg Int32.toInt e_g66_18) (congrArg Int32.toInt e_g86_18) (congrArg Int32.toInt e_g86_18) h117 h55 h76 h96 (hE_rng (g 18)) (hE_rng (g107 14)) (hE_rng (g 14)) (hE_rng (g25 14)) (hE_rng (g25 18)) (hE_rng (g45 18)) (hE_rng (g66 18)) (hE_rng (g86 18)) (hE_rng (g86 14)) (hE_rng (g45 14)) (hE_rng (g66 14)))⟩ hw dX5_codeKind_212
                  refine lv_icmp_ne (tgt := 200) hx hb dX5_codeKind_193 (by decide) (fun cc119 => ?_) (fun cc119 => ?_)
                  · refine lv_iconst (v := 1) hx hb dX5_codeKind_200 (by decide) ?_
                    exact B100 1 ls _ _ (ob49 (((1 : Int32)).toInt) (by decide)) hw (lv_sub hl [] rfl)
                  · refine lv_iconst (v := 0) hx hb dX5_codeKind_196 (by decide) ?_
                    refine lv_goto (tgt := 201) hx hb dX5_codeKind_197 (by decide) ?_
                    exact B100 0 ls _ _ (ob117 (((0 : Int32)).toInt) ((z16).toInt) ((z15).toInt) ((r24).toInt) ((r44).toInt) ((r65).toInt) ((r85).toInt) ((z17).toInt) ((r5).toInt) xz16 (hE_ne cc36) (hE_ne cc57) (hE_ne cc77) (hE_ne cc98) (hE_add hz17) h34 h54 h75 h95 (by decide) (hE_rng (z16)) (hE_rng (z15)) (hE_rng (r24)) (hE_rng (r44)) (hE_rng (r65)) (hE_rng (r85)) (hE_rng (z17)) (hE_rng (r5))) hw (lv_sub hl [] rfl)
                · refine lv_iconst (v := 3) hx hb dX5_codeKind_177 (by decide) ?_
                  exact kr 3 g86 l87 a88 bk _ _ _ _ ⟨(hk_frT (hk_frT (hk_frT h30 (by decide) h50) (by decide) h71) (by decide) h91), (hk_frT (hk_frT (hk_frT h31 (by decide) h51) (by decide) h72) (by decide) h92), (hk_frT (hk_frT (hk_frT h32 (by decide) h52) (by decide) h73) (by decide) h93), rfl, (ob118 ((g 18).toInt) ((g86 14).toInt) ((g 14).toInt) ((g25 14).toInt) ((g25 18).toInt) ((g45 18).toInt) ((g66 18).toInt) ((g66 14).toInt) ((g45 14).toInt) h35 (congrArg Int32.toInt e_g25_18) (congrArg Int32.toInt e_g25_18) (congrArg Int32.toInt e_g45_18) (congrArg Int32.toInt e_g45_18) (congrArg Int32.toInt e_g66_18) (congrArg Int32.toInt e_g66_18) h96 h55 h76 (hE_rng (g 18)) (hE_rng (g86 14)) (hE_rng (g 14)) (hE_rng (g25 14)) (hE_rng (g25 18)) (hE_rng (g45 18)) (hE_rng (g66 18)) (hE_rng (g66 14)) (hE_rng (g45 14)))⟩ hw dX5_codeKind_178
              refine lv_icmp_ne (tgt := 170) hx hb dX5_codeKind_163 (by decide) (fun cc120 => ?_) (fun cc120 => ?_)
              · refine lv_iconst (v := 1) hx hb dX5_codeKind_170 (by decide) ?_
                exact B79 1 ls _ _ (ob49 (((1 : Int32)).toInt) (by decide)) hw (lv_sub hl [0, 1] rfl)
              · refine lv_iconst (v := 0) hx hb dX5_codeKind_166 (by decide) ?_
                refine lv_goto (tgt := 171) hx hb dX5_codeKind_167 (by decide) ?_
                exact B79 0 ls _ _ (ob119 (((0 : Int32)).toInt) ((z16).toInt) ((z15).toInt) ((r24).toInt) ((r44).toInt) ((r65).toInt) ((z17).toInt) ((r5).toInt) xz16 (hE_ne cc36) (hE_ne cc57) (hE_ne cc77) (hE_add hz17) h34 h54 h75 (by decide) (hE_rng (z16)) (hE_rng (z15)) (hE_rng (r24)) (hE_rng (r44)) (hE_rng (r65)) (hE_rng (z17)) (hE_rng (r5))) hw (lv_sub hl [0, 1] rfl)
            · refine lv_aload_n hx hb dX5_codeKind_108 rfl (lv_at hl 0 rfl) ?_
              refine hk_get (ci := 8) (C := RX5) (T := TX5) (N := 6) (v := .ref (ad 7)) hx hb hts (fun _ h => List.mem_cons_of_mem _ (wwXc_wsX50 _ h)) hown hw 9 rfl rfl 0 (by decide) (hq _ wX_357) rfl dX5_codeKind_109 ?_
              refine lv_sipush (v := 240) hx hb dX5_codeKind_112 (by decide) ?_
              refine lv_aload_n hx hb dX5_codeKind_115 rfl (lv_at hl 0 rfl) ?_
              have e_g66_24 : g66 24 = (g 24) := ((h71 24 rfl)).trans e_g45_24
              refine hk_get (ci := 8) (C := RX5) (T := TX5) (N := 6) (v := .int (g 24)) hx hb hts (fun _ h => List.mem_cons_of_mem _ (wwXc_wsX50 _ h)) hown hw 9 rfl rfl 5 (by decide) (hq _ wX_378) (congrArg (fun z => some (Value.int z)) e_g66_24) dX5_codeKind_116 ?_
              refine lv_bipush (v := 16) hx hb dX5_codeKind_119 (by decide) ?_
              refine lv_imul hx hb dX5_codeKind_121 (jx_nm fun z121 hz121 => ?_)
              refine lv_iadd hx hb dX5_codeKind_122 (jx_nm fun z122 hz122 => ?_)
              refine lv_iload_n hx hb dX5_codeKind_123 rfl (lv_at hl 2 rfl) ?_
              refine lv_iadd hx hb dX5_codeKind_124 (jx_nm fun z123 hz123 => ?_)
              refine lv_iload_n hx hb dX5_codeKind_125 rfl (lv_at hl 1 rfl) ?_
              refine lv_bipush (v := 6) hx hb dX5_codeKind_126 (by decide) ?_
              have B124 : ∀  (x125 : Int32) (ls : Array Slot) (H : Heap) (locs : List Loc), (0 ≤ (x125).toInt ∧ (x125).toInt ≤ 1) → hk_W D (jT cI cJ) A s H locs (xw cI cJ ad g66 l67 a68 bk) → lv_has ls 4 [] → W p l e { frames := 8, cells := 1, slots := 6, locals := 128 } s m args below meth c H locs 0 0 Q (F0 m 136 ls [.int x125, .int z123, .ref (ad 7)]) := by
                intro x125 ls H locs hf_B124_0 hw hl
                have e_g66_18 : g66 18 = (g 18) := ((h71 18 rfl)).trans e_g45_18
                refine jx_Vi (As := [.int z123, .int x125]) (rest := []) ⟨hx, hb, hml, hown, hts⟩ hZ hw hA (jx_X2_bit l hlt D t3 cI cJ ad g66 l67 a68 bk _ z123 x125 (ob53 ((x125).toInt) hf_B124_0 (hE_rng (x125))) (hk_pE (P := hk_rg 0 255) hr56 (h73 0 rfl))) (cwV 2 hts (jx_gV wwX_good wX_379 wX_292 wX_293 wX_270 wX_294) rfl rfl rfl (by decide +kernel) ⟨Nat.le_of_ble_eq_true rfl, Nat.le_of_ble_eq_true rfl⟩) 7 (ci := 5) (T := TX2) (N := 9) rfl rfl rfl hl.1 rfl (Nat.le_of_ble_eq_true rfl) dX5_codeKind_136 ⟨Nat.le_of_ble_eq_true rfl, Nat.le_of_ble_eq_true rfl⟩ (fun u126 u127 u128 u129 H locs ce q hp hw h1 h2 h3 => by obtain ⟨ht0, ht1, ht2, rfl, ht4, ht5⟩ := hp; exact kt _ _ _ _ _ _ _ _ _ _ _ ⟨(hk_frT (hk_frT (hk_frT h30 (by decide) h50) (by decide) h71) (by decide) ht0), (hk_frT (hk_frT (hk_frT h31 (by decide) h51) (by decide) h72) (by decide) ht1), (hk_frT (hk_frT (hk_frT h32 (by decide) h52) (by decide) h73) (by decide) ht2), rfl, (ob112 ((g 18).toInt) ((g25 14).toInt) ((g 14).toInt) ((g25 18).toInt) ((g45 18).toInt) ((g66 18).toInt) ((g45 14).toInt) ((g66 14).toInt) ((u126 14).toInt) h35 (congrArg Int32.toInt e_g25_18) (congrArg Int32.toInt e_g25_18) (congrArg Int32.toInt e_g45_18) (congrArg Int32.toInt e_g45_18) (congrArg Int32.toInt e_g66_18) h55 h76 ht4 ht5 (hE_rng (g 18)) (hE_rng (g25 14)) (hE_rng (g 14)) (hE_rng (g25 18)) (hE_rng (g45 18)) (hE_rng (g66 18)) (hE_rng (g45 14)) (hE_rng (g66 14)) (hE_rng (u126 14))), (ob113 ((u126 14).toInt) ((g 14).toInt) ((g 18).toInt) ((g25 14).toInt) ((g66 14).toInt) ((g25 18).toInt) ((g45 14).toInt) ((g45 18).toInt) ((g66 18).toInt) h35 ht5 (congrArg Int32.toInt e_g25_18) (congrArg Int32.toInt e_g25_18) h55 (congrArg Int32.toInt e_g45_18) (congrArg Int32.toInt e_g45_18) h76 (congrArg Int32.toInt e_g66_18) ht4 (hE_rng (u126 14)) (hE_rng (g 14)) (hE_rng (g 18)) (hE_rng (g25 14)) (hE_rng (g66 14)) (hE_rng (g25 18)) (hE_rng (g45 14)) (hE_rng (g45 18)) (hE_rng (g66 18)))⟩ hw h1 h2 h3) (fun r130 g131 l132 a133 b134 H locs hp135 hw => ?_)
                obtain ⟨h136, h137, h138, rfl, h140, h141⟩ := hp135
                have e_g66_18 : g66 18 = (g 18) := ((h71 18 rfl)).trans e_g45_18
                have hr142 : hk_rg 0 255 (a133 0) := (hk_pE (P := hk_rg 0 255) (hk_pE (P := hk_rg 0 255) hr56 (h73 0 rfl)) (h138 0 rfl))
                refine lv_if_ne (tgt := 147) hx hb dX5_codeKind_139 (by decide) (fun cc143 => ?_) (fun cc143 => ?_)
                · refine lv_iconst (v := 2) hx hb dX5_codeKind_147 (by decide) ?_
                  exact kr 2 g131 l132 a133 bk _ _ _ _ ⟨(hk_frT (hk_frT (hk_frT h30 (by decide) h50) (by decide) h71) (by decide) h136), (hk_frT (hk_frT (hk_frT h31 (by decide) h51) (by decide) h72) (by decide) h137), (hk_frT (hk_frT (hk_frT h32 (by decide) h52) (by decide) h73) (by decide) h138), rfl, (ob118 ((g 18).toInt) ((g131 14).toInt) ((g 14).toInt) ((g25 14).toInt) ((g25 18).toInt) ((g45 18).toInt) ((g66 18).toInt) ((g66 14).toInt) ((g45 14).toInt) h35 (congrArg Int32.toInt e_g25_18) (congrArg Int32.toInt e_g25_18) (congrArg Int32.toInt e_g45_18) (congrArg Int32.toInt e_g45_18) (congrArg Int32.toInt e_g66_18) (congrArg Int32.toInt e_g66_18) h141 h55 h76 (hE_rng (g 18)) (hE_rng (g131 14)) (hE_rng (g 14)) (hE_rng (g25 14)) (hE_rng (g25 18)) (hE_rng (g45 18)) (hE_rng (g66 18)) (hE_rng (g66 14)) (hE_rng (g45 14)))⟩ hw dX5_codeKind_148
                · refine lv_bipush (v := 6) hx hb dX5_codeKind_142 (by decide) ?_
                  refine lv_goto (tgt := 148) hx hb dX5_codeKind_144 (by decide) ?_
                  exact kr 6 g131 l132 a133 bk _ _ _ _ ⟨(hk_frT (hk_frT (hk_frT h30 (by decide) h50) (by decide) h71) (by decide) h136), (hk_frT (hk_frT (hk_frT h31 (by decide) h51) (by decide) h72) (by decide) h137), (hk_frT (hk_frT (hk_frT h32 (by decide) h52) (by decide) h73) (by decide) h138), rfl, (ob118 ((g 18).toInt) ((g131 14).toInt) ((g 14).toInt) ((g25 14).toInt) ((g25 18).toInt) ((g45 18).toInt) ((g66 18).toInt) ((g66 14).toInt) ((g45 14).toInt) h35 (congrArg Int32.toInt e_g25_18) (congrArg Int32.toInt e_g25_18) (congrArg Int32.toInt e_g45_18) (congrArg Int32.toInt e_g45_18) (congrArg Int32.toInt e_g66_18) (congrArg Int32.toInt e_g66_18) h141 h55 h76 (hE_rng (g 18)) (hE_rng (g131 14)) (hE_rng (g 14)) (hE_rng (g25 14)) (hE_rng (g25 18)) (hE_rng (g45 18)) (hE_rng (g66 18)) (hE_rng (g66 14)) (hE_rng (g45 14)))⟩ hw dX5_codeKind_148
              refine lv_icmp_ne (tgt := 135) hx hb dX5_codeKind_128 (by decide) (fun cc144 => ?_) (fun cc144 => ?_)
              · refine lv_iconst (v := 1) hx hb dX5_codeKind_135 (by decide) ?_
                exact B124 1 ls _ _ (ob49 (((1 : Int32)).toInt) (by decide)) hw (lv_sub hl [] rfl)
              · refine lv_iconst (v := 0) hx hb dX5_codeKind_131 (by decide) ?_
                refine lv_goto (tgt := 136) hx hb dX5_codeKind_132 (by decide) ?_
                exact B124 0 ls _ _ (ob120 (((0 : Int32)).toInt) ((z16).toInt) ((z15).toInt) ((r24).toInt) ((r44).toInt) ((r65).toInt) ((z17).toInt) ((r5).toInt) ((z123).toInt) ((z122).toInt) (((240 : Int32)).toInt) ((z121).toInt) xz16 (hE_ne cc36) (hE_ne cc57) (hE_eq cc77) (hE_add hz17) h34 h54 h75 (hE_add hz123) (hE_add hz122) (by decide) (hE_rng (z16)) (hE_rng (z15)) (hE_rng (r24)) (hE_rng (r44)) (hE_rng (r65)) (hE_rng (z17)) (hE_rng (r5)) (hE_rng (z123)) (hE_rng (z122)) (by decide) (hE_rng (z121))) hw (lv_sub hl [] rfl)
          have B145 : ∀  (ls : Array Slot) (H : Heap) (locs : List Loc), hk_W D (jT cI cJ) A s H locs (xw cI cJ ad g45 l46 a47 bk) → lv_has ls 4 [(0, .ref (ad 9)), (1, .int y1), (3, .int r5)] → W p l e { frames := 8, cells := 1, slots := 6, locals := 128 } s m args below meth c H locs 0 0 Q (F0 m 97 ls [.int z58, .ref (ad 7)]) := by
            intro ls H locs hw hl
            refine lv_iconst (v := 0) hx hb dX5_codeKind_97 (by decide) ?_
            refine lv_goto (tgt := 102) hx hb dX5_codeKind_98 (by decide) ?_
            exact B59 0 ls _ _ (ob121 (((0 : Int32)).toInt) ((z16).toInt) ((z15).toInt) ((r24).toInt) ((r44).toInt) ((z17).toInt) ((r5).toInt) xz16 (hE_ne cc36) (hE_ne cc57) (hE_add hz17) h34 h54 (by decide) (hE_rng (z16)) (hE_rng (z15)) (hE_rng (r24)) (hE_rng (r44)) (hE_rng (z17)) (hE_rng (r5))) hw (lv_sub hl [0, 1, 2] rfl)
          refine lv_icmp_eq (tgt := 97) hx hb dX5_codeKind_88 (by decide) (fun cc146 => ?_) (fun cc146 => ?_)
          · exact B145 ls _ _ hw (lv_sub hl [0, 1, 2] rfl)
          · refine lv_iload_n hx hb dX5_codeKind_91 rfl (lv_at hl 1 rfl) ?_
            refine lv_bipush (v := 6) hx hb dX5_codeKind_92 (by decide) ?_
            refine lv_icmp_ne (tgt := 101) hx hb dX5_codeKind_94 (by decide) (fun cc147 => ?_) (fun cc147 => ?_)
            · refine lv_iconst (v := 1) hx hb dX5_codeKind_101 (by decide) ?_
              exact B59 1 ls _ _ (ob49 (((1 : Int32)).toInt) (by decide)) hw (lv_sub hl [0, 1, 2] rfl)
            · exact B145 ls _ _ hw (lv_sub hl [0, 1, 2] rfl)
        · refine lv_iconst (v := 1) hx hb dX5_codeKind_72 (by decide) ?_
          exact kr 1 g45 l46 a47 bk _ _ _ _ ⟨(hk_frT h30 (by decide) h50), (hk_frT h31 (by decide) h51), (hk_frT h32 (by decide) h52), rfl, (ob79 ((g 18).toInt) ((g45 14).toInt) ((g 14).toInt) ((g25 14).toInt) ((g25 18).toInt) h35 (congrArg Int32.toInt e_g25_18) (congrArg Int32.toInt e_g25_18) h55 (hE_rng (g 18)) (hE_rng (g45 14)) (hE_rng (g 14)) (hE_rng (g25 14)) (hE_rng (g25 18)))⟩ hw dX5_codeKind_73
      have B148 : ∀  (ls : Array Slot) (H : Heap) (locs : List Loc), hk_W D (jT cI cJ) A s H locs (xw cI cJ ad g25 l26 a27 bk) → lv_has ls 4 [(0, .ref (ad 9)), (1, .int y1), (3, .int r5)] → W p l e { frames := 8, cells := 1, slots := 6, locals := 128 } s m args below meth c H locs 0 0 Q (F0 m 61 ls [.int z37, .ref (ad 7)]) := by
        intro ls H locs hw hl
        refine lv_iconst (v := 0) hx hb dX5_codeKind_61 (by decide) ?_
        refine lv_goto (tgt := 66) hx hb dX5_codeKind_62 (by decide) ?_
        exact B38 0 ls _ _ (ob122 (((0 : Int32)).toInt) ((z16).toInt) ((z15).toInt) ((r24).toInt) ((z17).toInt) ((r5).toInt) xz16 (hE_ne cc36) (hE_add hz17) h34 (by decide) (hE_rng (z16)) (hE_rng (z15)) (hE_rng (r24)) (hE_rng (z17)) (hE_rng (r5))) hw (lv_sub hl [0, 1, 2] rfl)
      refine lv_icmp_eq (tgt := 61) hx hb dX5_codeKind_52 (by decide) (fun cc149 => ?_) (fun cc149 => ?_)
      · exact B148 ls _ _ hw (lv_sub hl [0, 1, 2] rfl)
      · refine lv_iload_n hx hb dX5_codeKind_55 rfl (lv_at hl 1 rfl) ?_
        refine lv_bipush (v := 7) hx hb dX5_codeKind_56 (by decide) ?_
        refine lv_icmp_ne (tgt := 65) hx hb dX5_codeKind_58 (by decide) (fun cc150 => ?_) (fun cc150 => ?_)
        · refine lv_iconst (v := 1) hx hb dX5_codeKind_65 (by decide) ?_
          exact B38 1 ls _ _ (ob123 (((1 : Int32)).toInt) ((y1).toInt) (((7 : Int32)).toInt) (hE_ne cc149) (hE_ne cc150) (by decide) (hE_rng (y1)) (by decide)) hw (lv_sub hl [0, 1, 2] rfl)
        · exact B148 ls _ _ hw (lv_sub hl [0, 1, 2] rfl)
    · refine lv_iconst (v := 0) hx hb dX5_codeKind_36 (by decide) ?_
      exact kr 0 g25 l26 a27 bk _ _ _ _ ⟨h30, h31, h32, rfl, (ob72 ((g 18).toInt) ((g25 14).toInt) ((g 14).toInt) h35 (hE_rng (g 18)) (hE_rng (g25 14)) (hE_rng (g 14)))⟩ hw dX5_codeKind_37
  refine lv_if_ne (tgt := 29) hx hb dX5_codeKind_22 (by decide) (fun cc151 => ?_) (fun cc151 => ?_)
  · refine lv_iconst (v := 1) hx hb dX5_codeKind_29 (by decide) ?_
    exact B18 1 ls _ _ (ob49 (((1 : Int32)).toInt) (by decide)) hw (lv_sub hl [1, 2, 0] rfl)
  · refine lv_iconst (v := 0) hx hb dX5_codeKind_25 (by decide) ?_
    refine lv_goto (tgt := 30) hx hb dX5_codeKind_26 (by decide) ?_
    exact B18 0 ls _ _ (ob124 (((0 : Int32)).toInt) ((z16).toInt) ((z15).toInt) ((y1).toInt) ((z17).toInt) ((r5).toInt) xz16 (hE_eq cc151) (hE_add hz17) (by decide) (hE_rng (z16)) (hE_rng (z15)) (hE_rng (y1)) (hE_rng (z17)) (hE_rng (r5))) hw (lv_sub hl [1, 2, 0] rfl)

set_option maxHeartbeats 4000000 in
set_option maxRecDepth 100000 in
/-- X5_codeMatch on (9,) -/
theorem jx_X5_codeMatch (l : Launch) (hlt : l.stackTraces = false) (D : va_G) (t3 : Nat × Nat × Nat) (cI cJ : ClassId) (ad : Nat → Nat) (g : Nat → Int32) (lg : Nat → Int64) (ar : Nat → Nat → Int32) (bk : Nat → Int64) (sz : Nat) (y1 : Int32) (hi_a0rg : hk_rg 0 255 (ar 0)) : JMi l yX5_codeMatch (Cond.code yX5_codeMatch cX5_codeMatch 2 (some .boolean) :: wwX) { frames := 8, cells := 1, slots := 6, locals := 128 } t3 D xw cI cJ ad [.ref (ad 9), .int y1] (xw cI cJ ad g lg ar bk) sz 1 6 (fun (r : Int32) g' lg' ar' bk' => hk_fr [14, 15, 17, 19, 20] g g' ∧ hk_fr [0, 1, 2] lg lg' ∧ hk_fr [1, 2] ar ar' ∧ bk = bk' ∧ ((g 18).toInt ≠ 0 → (g' 14).toInt = (g 14).toInt)) (fun g' lg' ar' bk' => hk_fr [14, 15, 17, 19, 20] g g' ∧ hk_fr [0, 1, 2] lg lg' ∧ hk_fr [1, 2] ar ar' ∧ bk = bk' ∧ ((g 18).toInt ≠ 0) ∧ ((g' 14).toInt = (g 14).toInt)) := by
  refine jx_metz (cc := cX5_codeMatch) (maxL := 2) (ret := (some .boolean)) rfl (by decide) rfl (Nat.le_of_ble_eq_true rfl) ?_
  intro p e s m args below meth c ls Q A hx hb hml hown hts hA hZ hw hl hQ kr kt
  have hq : ∀ w ∈ wwX, w.before args s = true := fun w h => hts w (List.mem_cons_of_mem _ h)
  have hl : lv_has ls 2 [(0, .ref (ad 9)), (1, .int y1)] := hl
  refine lv_aload_n hx hb dX5_codeMatch_0 rfl (lv_at hl 0 rfl) ?_
  refine hk_get (ci := 8) (C := RX5) (T := TX5) (N := 6) (v := .ref (ad 7)) hx hb hts (fun _ h => List.mem_cons_of_mem _ (wwXc_wsX50 _ h)) hown hw 9 rfl rfl 0 (by decide) (hq _ wX_357) rfl dX5_codeMatch_1 ?_
  refine lv_iconst (v := 0) hx hb dX5_codeMatch_4 (by decide) ?_
  refine lv_aload_n hx hb dX5_codeMatch_5 rfl (lv_at hl 0 rfl) ?_
  refine hk_get (ci := 8) (C := RX5) (T := TX5) (N := 6) (v := .int (g 24)) hx hb hts (fun _ h => List.mem_cons_of_mem _ (wwXc_wsX50 _ h)) hown hw 9 rfl rfl 5 (by decide) (hq _ wX_378) rfl dX5_codeMatch_6 ?_
  refine lv_bipush (v := 16) hx hb dX5_codeMatch_9 (by decide) ?_
  refine lv_imul hx hb dX5_codeMatch_11 (jx_nm fun z1 hz1 => ?_)
  refine lv_iadd hx hb dX5_codeMatch_12 (jx_nm fun z2 hz2 => ?_)
  have xz2 : (z2).toInt = ((0 : Int32)).toInt + (z1).toInt := (hE_imp (hE_add hz2) (ob108 (((0 : Int32)).toInt) ((z1).toInt) (by decide) (hE_rng (z1))))
  refine lv_aload_n hx hb dX5_codeMatch_13 rfl (lv_at hl 0 rfl) ?_
  refine lv_iload_n hx hb dX5_codeMatch_14 rfl (lv_at hl 1 rfl) ?_
  refine jx_Vi (As := [.int y1]) (rest := [.int z2, .ref (ad 7)]) ⟨hx, hb, hml, hown, hts⟩ hZ hw hA (jx_X5_turnOf l hlt D t3 cI cJ ad g lg ar bk _ y1) (cwV 1 hts (jx_gV wwX_good wX_374 wX_375 wX_376 wX_215 wX_377) rfl rfl rfl (by decide +kernel) ⟨Nat.le_of_ble_eq_true rfl, Nat.le_of_ble_eq_true rfl⟩) 9 (ci := 8) (T := TX5) (N := 6) rfl rfl rfl hl.1 rfl (Nat.le_of_ble_eq_true rfl) dX5_codeMatch_15 ⟨Nat.le_of_ble_eq_true rfl, Nat.le_of_ble_eq_true rfl⟩ (fun _ _ _ _ _ _ _ _ hp _ _ _ _ => hp.elim) (fun r7 g8 l9 a10 b11 H locs hp12 hw => ?_)
  obtain ⟨rfl, rfl, rfl, rfl⟩ := hp12
  refine lv_iadd hx hb dX5_codeMatch_18 (jx_nm fun z17 hz17 => ?_)
  refine lv_iconst (v := 1) hx hb dX5_codeMatch_19 (by decide) ?_
  refine jx_Vi (As := [.int z17, .int 1]) (rest := []) ⟨hx, hb, hml, hown, hts⟩ hZ hw hA (jx_X2_bit l hlt D t3 cI cJ ad g lg ar bk _ z17 1 (ob49 (((1 : Int32)).toInt) (by decide)) hi_a0rg) (cwV 2 hts (jx_gV wwX_good wX_379 wX_292 wX_293 wX_270 wX_294) rfl rfl rfl (by decide +kernel) ⟨Nat.le_of_ble_eq_true rfl, Nat.le_of_ble_eq_true rfl⟩) 7 (ci := 5) (T := TX2) (N := 9) rfl rfl rfl hl.1 rfl (Nat.le_of_ble_eq_true rfl) dX5_codeMatch_20 ⟨Nat.le_of_ble_eq_true rfl, Nat.le_of_ble_eq_true rfl⟩ (fun u18 u19 u20 u21 H locs ce q hp hw h1 h2 h3 => by obtain ⟨ht0, ht1, ht2, rfl, ht4, ht5⟩ := hp; exact kt _ _ _ _ _ _ _ _ _ _ _ ⟨ht0, ht1, ht2, rfl, (ob109 ((g 18).toInt) ht4 (hE_rng (g 18))), (ob56 ((u18 14).toInt) ((g 14).toInt) ht5 (hE_rng (u18 14)) (hE_rng (g 14)))⟩ hw h1 h2 h3) (fun r22 g23 l24 a25 b26 H locs hp27 hw => ?_)
  obtain ⟨h28, h29, h30, rfl, h32, h33⟩ := hp27
  refine lv_iconst (v := 1) hx hb dX5_codeMatch_23 (by decide) ?_
  refine lv_icmp_ne (tgt := 50) hx hb dX5_codeMatch_24 (by decide) (fun cc34 => ?_) (fun cc34 => ?_)
  · refine lv_iconst (v := 0) hx hb dX5_codeMatch_50 (by decide) ?_
    exact kr 0 g23 l24 a25 bk _ _ _ _ rfl ⟨h28, h29, h30, rfl, (ob72 ((g 18).toInt) ((g23 14).toInt) ((g 14).toInt) h33 (hE_rng (g 18)) (hE_rng (g23 14)) (hE_rng (g 14)))⟩ hw dX5_codeMatch_51
  · refine lv_aload_n hx hb dX5_codeMatch_27 rfl (lv_at hl 0 rfl) ?_
    refine hk_get (ci := 8) (C := RX5) (T := TX5) (N := 6) (v := .ref (ad 7)) hx hb hts (fun _ h => List.mem_cons_of_mem _ (wwXc_wsX50 _ h)) hown hw 9 rfl rfl 0 (by decide) (hq _ wX_357) rfl dX5_codeMatch_28 ?_
    refine lv_sipush (v := 192) hx hb dX5_codeMatch_31 (by decide) ?_
    refine lv_aload_n hx hb dX5_codeMatch_34 rfl (lv_at hl 0 rfl) ?_
    have e_g23_24 : g23 24 = (g 24) := (h28 24 rfl)
    refine hk_get (ci := 8) (C := RX5) (T := TX5) (N := 6) (v := .int (g 24)) hx hb hts (fun _ h => List.mem_cons_of_mem _ (wwXc_wsX50 _ h)) hown hw 9 rfl rfl 5 (by decide) (hq _ wX_378) (congrArg (fun z => some (Value.int z)) e_g23_24) dX5_codeMatch_35 ?_
    refine lv_iadd hx hb dX5_codeMatch_38 (jx_nm fun z35 hz35 => ?_)
    refine lv_iconst (v := 0) hx hb dX5_codeMatch_39 (by decide) ?_
    have e_g23_18 : g23 18 = (g 18) := (h28 18 rfl)
    refine jx_Vi (As := [.int z35, .int 0]) (rest := []) ⟨hx, hb, hml, hown, hts⟩ hZ hw hA (jx_X2_bit l hlt D t3 cI cJ ad g23 l24 a25 bk _ z35 0 (ob125 (((0 : Int32)).toInt) ((z2).toInt) ((z1).toInt) ((z17).toInt) ((r7).toInt) xz2 (hE_add hz17) (by decide) (hE_rng (z2)) (hE_rng (z1)) (hE_rng (z17)) (hE_rng (r7))) (hk_pE (P := hk_rg 0 255) hi_a0rg (h30 0 rfl))) (cwV 2 hts (jx_gV wwX_good wX_379 wX_292 wX_293 wX_270 wX_294) rfl rfl rfl (by decide +kernel) ⟨Nat.le_of_ble_eq_true rfl, Nat.le_of_ble_eq_true rfl⟩) 7 (ci := 5) (T := TX2) (N := 9) rfl rfl rfl hl.1 rfl (Nat.le_of_ble_eq_true rfl) dX5_codeMatch_40 ⟨Nat.le_of_ble_eq_true rfl, Nat.le_of_ble_eq_true rfl⟩ (fun u36 u37 u38 u39 H locs ce q hp hw h1 h2 h3 => by obtain ⟨ht0, ht1, ht2, rfl, ht4, ht5⟩ := hp; exact kt _ _ _ _ _ _ _ _ _ _ _ ⟨(hk_frT h28 (by decide) ht0), (hk_frT h29 (by decide) ht1), (hk_frT h30 (by decide) ht2), rfl, (ob75 ((g 18).toInt) ((g23 14).toInt) ((g 14).toInt) ((g23 18).toInt) ((u36 14).toInt) h33 (congrArg Int32.toInt e_g23_18) ht4 ht5 (hE_rng (g 18)) (hE_rng (g23 14)) (hE_rng (g 14)) (hE_rng (g23 18)) (hE_rng (u36 14))), (ob76 ((u36 14).toInt) ((g 14).toInt) ((g 18).toInt) ((g23 14).toInt) ((g23 18).toInt) h33 ht5 (congrArg Int32.toInt e_g23_18) ht4 (hE_rng (u36 14)) (hE_rng (g 14)) (hE_rng (g 18)) (hE_rng (g23 14)) (hE_rng (g23 18)))⟩ hw h1 h2 h3) (fun r40 g41 l42 a43 b44 H locs hp45 hw => ?_)
    obtain ⟨h46, h47, h48, rfl, h50, h51⟩ := hp45
    have e_g23_18 : g23 18 = (g 18) := (h28 18 rfl)
    have hr52 : hk_rg 0 255 (a43 0) := (hk_pE (P := hk_rg 0 255) (hk_pE (P := hk_rg 0 255) hi_a0rg (h30 0 rfl)) (h48 0 rfl))
    refine lv_if_ne (tgt := 50) hx hb dX5_codeMatch_43 (by decide) (fun cc53 => ?_) (fun cc53 => ?_)
    · refine lv_iconst (v := 0) hx hb dX5_codeMatch_50 (by decide) ?_
      exact kr 0 g41 l42 a43 bk _ _ _ _ rfl ⟨(hk_frT h28 (by decide) h46), (hk_frT h29 (by decide) h47), (hk_frT h30 (by decide) h48), rfl, (ob79 ((g 18).toInt) ((g41 14).toInt) ((g 14).toInt) ((g23 14).toInt) ((g23 18).toInt) h33 (congrArg Int32.toInt e_g23_18) (congrArg Int32.toInt e_g23_18) h51 (hE_rng (g 18)) (hE_rng (g41 14)) (hE_rng (g 14)) (hE_rng (g23 14)) (hE_rng (g23 18)))⟩ hw dX5_codeMatch_51
    · refine lv_iconst (v := 1) hx hb dX5_codeMatch_46 (by decide) ?_
      refine lv_goto (tgt := 51) hx hb dX5_codeMatch_47 (by decide) ?_
      exact kr 1 g41 l42 a43 bk _ _ _ _ rfl ⟨(hk_frT h28 (by decide) h46), (hk_frT h29 (by decide) h47), (hk_frT h30 (by decide) h48), rfl, (ob79 ((g 18).toInt) ((g41 14).toInt) ((g 14).toInt) ((g23 14).toInt) ((g23 18).toInt) h33 (congrArg Int32.toInt e_g23_18) (congrArg Int32.toInt e_g23_18) h51 (hE_rng (g 18)) (hE_rng (g41 14)) (hE_rng (g 14)) (hE_rng (g23 14)) (hE_rng (g23 18)))⟩ hw dX5_codeMatch_51

set_option maxHeartbeats 4000000 in
set_option maxRecDepth 100000 in
/-- X5_codeLiteral on (9,) -/
theorem jx_X5_codeLiteral (l : Launch) (hlt : l.stackTraces = false) (D : va_G) (t3 : Nat × Nat × Nat) (cI cJ : ClassId) (ad : Nat → Nat) (g : Nat → Int32) (lg : Nat → Int64) (ar : Nat → Nat → Int32) (bk : Nat → Int64) (sz : Nat) (y1 : Int32) (y2 : Int32) (y3 : Int32) (y4 : Int32) (hi_a0rg : hk_rg 0 255 (ar 0)) : JMi l yX5_codeLiteral (Cond.code yX5_codeLiteral cX5_codeLiteral 13 (some .int) :: wwX) { frames := 8, cells := 1, slots := 6, locals := 128 } t3 D xw cI cJ ad [.ref (ad 9), .int y1, .int y2, .int y3, .int y4] (xw cI cJ ad g lg ar bk) sz 1 6 (fun (r : Int32) g' lg' ar' bk' => hk_fr [14, 15, 17, 19, 20] g g' ∧ hk_fr [0, 1, 2] lg lg' ∧ hk_fr [1, 2] ar ar' ∧ bk = bk' ∧ ((g 18).toInt ≠ 0 → (g' 14).toInt = (g 14).toInt)) (fun g' lg' ar' bk' => hk_fr [14, 15, 17, 19, 20] g g' ∧ hk_fr [0, 1, 2] lg lg' ∧ hk_fr [1, 2] ar ar' ∧ bk = bk' ∧ ((g 18).toInt ≠ 0) ∧ ((g' 14).toInt = (g 14).toInt)) := by
  refine jx_meti (cc := cX5_codeLiteral) (maxL := 13) (ret := (some .int)) rfl (by decide) rfl (Nat.le_of_ble_eq_true rfl) ?_
  intro p e s m args below meth c ls Q A hx hb hml hown hts hA hZ hw hl hQ kr kt
  have hq : ∀ w ∈ wwX, w.before args s = true := fun w h => hts w (List.mem_cons_of_mem _ h)
  have hl : lv_has ls 13 [(0, .ref (ad 9)), (1, .int y1), (2, .int y2), (3, .int y3), (4, .int y4)] := hl
  refine lv_iload_n hx hb dX5_codeLiteral_0 rfl (lv_at hl 2 rfl) ?_
  refine lv_iconst (v := 1) hx hb dX5_codeLiteral_1 (by decide) ?_
  refine lv_aload_n hx hb dX5_codeLiteral_2 rfl (lv_at hl 0 rfl) ?_
  refine hk_get (ci := 8) (C := RX5) (T := TX5) (N := 6) (v := .int (g 22)) hx hb hts (fun _ h => List.mem_cons_of_mem _ (wwXc_wsX50 _ h)) hown hw 9 rfl rfl 3 (by decide) (hq _ wX_380) rfl dX5_codeLiteral_3 ?_
  refine lv_ishl hx hb dX5_codeLiteral_6 (jx_nm fun z1 hz1 => ?_)
  refine lv_iconst (v := 1) hx hb dX5_codeLiteral_7 (by decide) ?_
  refine lv_isub hx hb dX5_codeLiteral_8 (jx_nm fun z2 hz2 => ?_)
  refine lv_iand hx hb dX5_codeLiteral_9 (jx_nm fun z3 hz3 => ?_)
  refine lv_aload_n hx hb dX5_codeLiteral_10 rfl (lv_at hl 0 rfl) ?_
  refine hk_get (ci := 8) (C := RX5) (T := TX5) (N := 6) (v := .int (g 21)) hx hb hts (fun _ h => List.mem_cons_of_mem _ (wwXc_wsX50 _ h)) hown hw 9 rfl rfl 2 (by decide) (hq _ wX_381) rfl dX5_codeLiteral_11 ?_
  refine lv_ishl hx hb dX5_codeLiteral_14 (jx_nm fun z4 hz4 => ?_)
  refine lv_iload_n hx hb dX5_codeLiteral_15 rfl (lv_at hl 3 rfl) ?_
  refine lv_bipush (v := 8) hx hb dX5_codeLiteral_16 (by decide) ?_
  refine lv_aload_n hx hb dX5_codeLiteral_18 rfl (lv_at hl 0 rfl) ?_
  refine hk_get (ci := 8) (C := RX5) (T := TX5) (N := 6) (v := .int (g 21)) hx hb hts (fun _ h => List.mem_cons_of_mem _ (wwXc_wsX50 _ h)) hown hw 9 rfl rfl 2 (by decide) (hq _ wX_381) rfl dX5_codeLiteral_19 ?_
  refine lv_isub hx hb dX5_codeLiteral_22 (jx_nm fun z5 hz5 => ?_)
  refine lv_ishr hx hb dX5_codeLiteral_23 (jx_nm fun z6 hz6 => ?_)
  refine lv_iadd hx hb dX5_codeLiteral_24 (jx_nm fun z7 hz7 => ?_)
  refine lv_istore (lv' := [(5, .int z7), (0, .ref (ad 9)), (1, .int y1), (2, .int y2), (3, .int y3), (4, .int y4)]) hx hb dX5_codeLiteral_25 hl (by decide) rfl (fun ls hl => ?_)
  refine lv_sipush (v := 2052) hx hb dX5_codeLiteral_27 (by decide) ?_
  refine lv_sipush (v := 768) hx hb dX5_codeLiteral_30 (by decide) ?_
  refine lv_iload hx hb dX5_codeLiteral_33 (lv_at hl 0 rfl) ?_
  refine lv_imul hx hb dX5_codeLiteral_35 (jx_nm fun z8 hz8 => ?_)
  refine lv_iadd hx hb dX5_codeLiteral_36 (jx_nm fun z9 hz9 => ?_)
  refine lv_istore (lv' := [(6, .int z9), (5, .int z7), (0, .ref (ad 9)), (1, .int y1), (2, .int y2), (3, .int y3), (4, .int y4)]) hx hb dX5_codeLiteral_37 hl (by decide) rfl (fun ls hl => ?_)
  refine lv_aload_n hx hb dX5_codeLiteral_39 rfl (lv_at hl 2 rfl) ?_
  refine hk_get (ci := 8) (C := RX5) (T := TX5) (N := 6) (v := .int (g 24)) hx hb hts (fun _ h => List.mem_cons_of_mem _ (wwXc_wsX50 _ h)) hown hw 9 rfl rfl 5 (by decide) (hq _ wX_378) rfl dX5_codeLiteral_40 ?_
  refine lv_bipush (v := 7) hx hb dX5_codeLiteral_43 (by decide) ?_
  have B10 : ∀  (x11 : Int32) (ls : Array Slot) (H : Heap) (locs : List Loc), (0 ≤ (x11).toInt ∧ (x11).toInt ≤ 1) → hk_W D (jT cI cJ) A s H locs (xw cI cJ ad g lg ar bk) → lv_has ls 13 [(0, .ref (ad 9)), (1, .int y1), (4, .int y4), (6, .int z9)] → W p l e { frames := 8, cells := 1, slots := 6, locals := 128 } s m args below meth c H locs 0 0 Q (F0 m 53 ls [.int x11]) := by
    intro x11 ls H locs hf_B10_0 hw hl
    refine lv_istore (lv' := [(7, .int x11), (0, .ref (ad 9)), (1, .int y1), (4, .int y4), (6, .int z9)]) hx hb dX5_codeLiteral_53 hl (by decide) rfl (fun ls hl => ?_)
    refine lv_iconst (v := 1) hx hb dX5_codeLiteral_55 (by decide) ?_
    refine lv_istore (lv' := [(8, .int 1), (7, .int x11), (0, .ref (ad 9)), (1, .int y1), (4, .int y4), (6, .int z9)]) hx hb dX5_codeLiteral_56 hl (by decide) rfl (fun ls hl => ?_)
    refine lv_bipush (v := 7) hx hb dX5_codeLiteral_58 (by decide) ?_
    refine lv_istore (lv' := [(9, .int 7), (8, .int 1), (7, .int x11), (0, .ref (ad 9)), (1, .int y1), (4, .int y4), (6, .int z9)]) hx hb dX5_codeLiteral_60 hl (by decide) rfl (fun ls hl => ?_)
    have B12 : ∀ (k19 : Nat) (x13 : Int32) (x14 : Int32) (x15 : Int32) (g16 : Nat → Int32) (l17 : Nat → Int64) (a18 : Nat → Nat → Int32) (ls : Array Slot) (H : Heap) (locs : List Loc), ((x15).toInt + 2147483649 ≤ (k19 : Int)) → ((g 18).toInt ≠ 0 → (g16 14).toInt = (g 14).toInt) → ((x15).toInt ≤ 7) → (hk_fr [14, 15, 17, 19, 20] g g16) → (hk_fr [0, 1, 2] lg l17) → (hk_fr [1, 2] ar a18) → hk_W D (jT cI cJ) A s H locs (xw cI cJ ad g16 l17 a18 bk) → lv_has ls 13 [(0, .ref (ad 9)), (1, .int y1), (4, .int y4), (6, .int z9), (7, .int x13), (8, .int x14), (9, .int x15)] → W p l e { frames := 8, cells := 1, slots := 6, locals := 128 } s m args below meth c H locs 0 0 Q (F0 m 62 ls []) := by
      intro k19
      induction k19 with
      | zero =>
        intro x13 x14 x15 g16 l17 a18 ls H locs hrk_B12 hf_B12_0 hf_B12_1 hfr_g16 hfr_l17 hfr_a18 hw hl
        exact False.elim (hk_no0 (0 * (x15).toInt) (ob126 ((x15).toInt) hf_B12_1 hrk_B12 (hE_rng (x15))) (by simp))
      | succ k19 ih_B12 =>
        intro x13 x14 x15 g16 l17 a18 ls H locs hrk_B12 hf_B12_0 hf_B12_1 hfr_g16 hfr_l17 hfr_a18 hw hl
        have hrk_B12 := hk_rk hrk_B12
        refine lv_iload hx hb dX5_codeLiteral_62 (lv_at hl 6 rfl) ?_
        refine lv_if_lt (tgt := 157) hx hb dX5_codeLiteral_64 (by decide) (fun cc20 => ?_) (fun cc20 => ?_)
        · refine lv_iload hx hb dX5_codeLiteral_157 (lv_at hl 5 rfl) ?_
          refine lv_sipush (v := 255) hx hb dX5_codeLiteral_159 (by decide) ?_
          refine lv_iand hx hb dX5_codeLiteral_162 (jx_nm fun z21 hz21 => ?_)
          exact kr z21 g16 l17 a18 bk _ _ _ _ ⟨hfr_g16, hfr_l17, hfr_a18, rfl, (ob72 ((g 18).toInt) ((g16 14).toInt) ((g 14).toInt) hf_B12_0 (hE_rng (g 18)) (hE_rng (g16 14)) (hE_rng (g 14)))⟩ hw dX5_codeLiteral_163
        · refine lv_iload hx hb dX5_codeLiteral_67 (lv_at hl 2 rfl) ?_
          refine lv_iload hx hb dX5_codeLiteral_69 (lv_at hl 6 rfl) ?_
          refine lv_ishr hx hb dX5_codeLiteral_71 (jx_nm fun z22 hz22 => ?_)
          refine lv_iconst (v := 1) hx hb dX5_codeLiteral_72 (by decide) ?_
          refine lv_iand hx hb dX5_codeLiteral_73 (jx_nm fun z23 hz23 => ?_)
          refine lv_istore (lv' := [(10, .int z23), (0, .ref (ad 9)), (1, .int y1), (4, .int y4), (6, .int z9), (7, .int x13), (8, .int x14), (9, .int x15)]) hx hb dX5_codeLiteral_74 hl (by decide) rfl (fun ls hl => ?_)
          refine lv_iload hx hb dX5_codeLiteral_76 (lv_at hl 5 rfl) ?_
          have B24 : ∀  (x25 : Int32) (ls : Array Slot) (H : Heap) (locs : List Loc), hk_W D (jT cI cJ) A s H locs (xw cI cJ ad g16 l17 a18 bk) → lv_has ls 13 [(0, .ref (ad 9)), (1, .int y1), (4, .int y4), (6, .int z9), (7, .int x13), (8, .int x14), (9, .int x15), (10, .int z23)] → W p l e { frames := 8, cells := 1, slots := 6, locals := 128 } s m args below meth c H locs 0 0 Q (F0 m 104 ls [.int x25]) := by
            intro x25 ls H locs hw hl
            refine lv_istore (lv' := [(11, .int x25), (0, .ref (ad 9)), (1, .int y1), (4, .int y4), (6, .int z9), (7, .int x13), (8, .int x14), (9, .int x15), (10, .int z23)]) hx hb dX5_codeLiteral_104 hl (by decide) rfl (fun ls hl => ?_)
            refine lv_aload_n hx hb dX5_codeLiteral_106 rfl (lv_at hl 1 rfl) ?_
            refine hk_get (ci := 8) (C := RX5) (T := TX5) (N := 6) (v := .ref (ad 7)) hx hb hts (fun _ h => List.mem_cons_of_mem _ (wwXc_wsX50 _ h)) hown hw 9 rfl rfl 0 (by decide) (hq _ wX_357) rfl dX5_codeLiteral_107 ?_
            refine lv_iload hx hb dX5_codeLiteral_110 (lv_at hl 0 rfl) ?_
            refine lv_iload_n hx hb dX5_codeLiteral_112 rfl (lv_at hl 2 rfl) ?_
            refine lv_iload hx hb dX5_codeLiteral_113 (lv_at hl 7 rfl) ?_
            refine lv_ishr hx hb dX5_codeLiteral_115 (jx_nm fun z26 hz26 => ?_)
            refine lv_iconst (v := 1) hx hb dX5_codeLiteral_116 (by decide) ?_
            refine lv_iand hx hb dX5_codeLiteral_117 (jx_nm fun z27 hz27 => ?_)
            have e_g16_18 : g16 18 = (g 18) := (hfr_g16 18 rfl)
            refine jx_Vi (As := [.int x25, .int z27]) (rest := []) ⟨hx, hb, hml, hown, hts⟩ hZ hw hA (jx_X2_bit l hlt D t3 cI cJ ad g16 l17 a18 bk _ x25 z27 (ob74 ((z27).toInt) ((z26).toInt) (hE_and 1 2 hz27 (by decide) (by decide) (by decide)) (hE_rng (z27)) (hE_rng (z26))) (hk_pE (P := hk_rg 0 255) hi_a0rg (hfr_a18 0 rfl))) (cwV 2 hts (jx_gV wwX_good wX_379 wX_292 wX_293 wX_270 wX_294) rfl rfl rfl (by decide +kernel) ⟨Nat.le_of_ble_eq_true rfl, Nat.le_of_ble_eq_true rfl⟩) 7 (ci := 5) (T := TX2) (N := 9) rfl rfl rfl hl.1 rfl (Nat.le_of_ble_eq_true rfl) dX5_codeLiteral_118 ⟨Nat.le_of_ble_eq_true rfl, Nat.le_of_ble_eq_true rfl⟩ (fun u28 u29 u30 u31 H locs ce q hp hw h1 h2 h3 => by obtain ⟨ht0, ht1, ht2, rfl, ht4, ht5⟩ := hp; exact kt _ _ _ _ _ _ _ _ _ _ _ ⟨(hk_frT hfr_g16 (by decide) ht0), (hk_frT hfr_l17 (by decide) ht1), (hk_frT hfr_a18 (by decide) ht2), rfl, (ob75 ((g 18).toInt) ((g16 14).toInt) ((g 14).toInt) ((g16 18).toInt) ((u28 14).toInt) hf_B12_0 (congrArg Int32.toInt e_g16_18) ht4 ht5 (hE_rng (g 18)) (hE_rng (g16 14)) (hE_rng (g 14)) (hE_rng (g16 18)) (hE_rng (u28 14))), (ob76 ((u28 14).toInt) ((g 14).toInt) ((g 18).toInt) ((g16 14).toInt) ((g16 18).toInt) hf_B12_0 ht5 (congrArg Int32.toInt e_g16_18) ht4 (hE_rng (u28 14)) (hE_rng (g 14)) (hE_rng (g 18)) (hE_rng (g16 14)) (hE_rng (g16 18)))⟩ hw h1 h2 h3) (fun r32 g33 l34 a35 b36 H locs hp37 hw => ?_)
            obtain ⟨h38, h39, h40, rfl, h42, h43⟩ := hp37
            have e_g16_18 : g16 18 = (g 18) := (hfr_g16 18 rfl)
            have hr44 : hk_rg 0 255 (a35 0) := (hk_pE (P := hk_rg 0 255) (hk_pE (P := hk_rg 0 255) hi_a0rg (hfr_a18 0 rfl)) (h40 0 rfl))
            refine lv_istore (lv' := [(12, .int r32), (11, .int x25), (0, .ref (ad 9)), (1, .int y1), (4, .int y4), (6, .int z9), (7, .int x13), (8, .int x14), (9, .int x15), (10, .int z23)]) hx hb dX5_codeLiteral_121 hl (by decide) rfl (fun ls hl => ?_)
            refine lv_iload hx hb dX5_codeLiteral_123 (lv_at hl 7 rfl) ?_
            refine lv_iconst (v := 1) hx hb dX5_codeLiteral_125 (by decide) ?_
            refine lv_ishl hx hb dX5_codeLiteral_126 (jx_nm fun z45 hz45 => ?_)
            refine lv_iload hx hb dX5_codeLiteral_127 (lv_at hl 0 rfl) ?_
            refine lv_ior hx hb dX5_codeLiteral_129 (jx_nm fun z46 hz46 => ?_)
            refine lv_istore (lv' := [(8, .int z46), (12, .int r32), (11, .int x25), (0, .ref (ad 9)), (1, .int y1), (4, .int y4), (6, .int z9), (7, .int x13), (9, .int x15), (10, .int z23)]) hx hb dX5_codeLiteral_130 hl (by decide) rfl (fun ls hl => ?_)
            refine lv_iload hx hb dX5_codeLiteral_132 (lv_at hl 7 rfl) ?_
            have B47 : ∀  (x48 : Int32) (ls : Array Slot) (H : Heap) (locs : List Loc), (0 ≤ (x48).toInt ∧ (x48).toInt ≤ 1) → hk_W D (jT cI cJ) A s H locs (xw cI cJ ad g33 l34 a35 bk) → lv_has ls 13 [(0, .ref (ad 9)), (1, .int y1), (4, .int y4), (6, .int z9), (8, .int z46), (9, .int x15)] → W p l e { frames := 8, cells := 1, slots := 6, locals := 128 } s m args below meth c H locs 0 0 Q (F0 m 149 ls [.int x48]) := by
              intro x48 ls H locs hf_B47_0 hw hl
              refine lv_istore (lv' := [(7, .int x48), (0, .ref (ad 9)), (1, .int y1), (4, .int y4), (6, .int z9), (8, .int z46), (9, .int x15)]) hx hb dX5_codeLiteral_149 hl (by decide) rfl (fun ls hl => ?_)
              obtain ⟨z49, hz49⟩ : ∃ z : Int32, x15 + (-1) = z := ⟨_, rfl⟩
              refine lv_iinc (v := z49) (lv' := [(9, .int z49), (7, .int x48), (0, .ref (ad 9)), (1, .int y1), (4, .int y4), (6, .int z9), (8, .int z46)]) hx hb dX5_codeLiteral_151 hl (k := 6) rfl hz49 (by decide) rfl (fun ls hl => ?_)
              have xz49 : (z49).toInt = (x15).toInt + (((-1) : Int32)).toInt := (hE_imp (hE_add hz49) (ob127 ((x15).toInt) ((((-1) : Int32)).toInt) (k19 : Int) (((0 : Int32)).toInt) hf_B12_1 hrk_B12 (hE_nlt cc20) (hE_rng (x15)) (by decide) (by decide)))
              refine lv_goto (tgt := 62) hx hb dX5_codeLiteral_154 (by decide) ?_
              exact ih_B12 x48 z46 z49 g33 l34 a35 ls _ _ (ob128 ((z49).toInt) (k19 : Int) ((x15).toInt) ((((-1) : Int32)).toInt) (((0 : Int32)).toInt) hrk_B12 xz49 hf_B12_1 (hE_nlt cc20) (hE_rng (z49)) (hE_rng (x15)) (by decide) (by decide)) (ob79 ((g 18).toInt) ((g33 14).toInt) ((g 14).toInt) ((g16 14).toInt) ((g16 18).toInt) hf_B12_0 (congrArg Int32.toInt e_g16_18) (congrArg Int32.toInt e_g16_18) h43 (hE_rng (g 18)) (hE_rng (g33 14)) (hE_rng (g 14)) (hE_rng (g16 14)) (hE_rng (g16 18))) (ob129 ((z49).toInt) ((x15).toInt) ((((-1) : Int32)).toInt) (k19 : Int) (((0 : Int32)).toInt) xz49 hf_B12_1 hrk_B12 (hE_nlt cc20) (hE_rng (z49)) (hE_rng (x15)) (by decide) (by decide)) (hk_frT hfr_g16 (by decide) h38) (hk_frT hfr_l17 (by decide) h39) (hk_frT hfr_a18 (by decide) h40) hw (lv_sub hl [2, 3, 4, 5, 1, 6, 0] rfl)
            have B50 : ∀  (ls : Array Slot) (H : Heap) (locs : List Loc), hk_W D (jT cI cJ) A s H locs (xw cI cJ ad g33 l34 a35 bk) → lv_has ls 13 [(0, .ref (ad 9)), (1, .int y1), (4, .int y4), (6, .int z9), (8, .int z46), (9, .int x15)] → W p l e { frames := 8, cells := 1, slots := 6, locals := 128 } s m args below meth c H locs 0 0 Q (F0 m 148 ls []) := by
              intro ls H locs hw hl
              refine lv_iconst (v := 0) hx hb dX5_codeLiteral_148 (by decide) ?_
              exact B47 0 ls _ _ (ob130 (((0 : Int32)).toInt) ((x15).toInt) (k19 : Int) (hE_nlt cc20) hf_B12_1 hrk_B12 (by decide) (hE_rng (x15))) hw (lv_sub hl [0, 1, 2, 3, 4, 5] rfl)
            refine lv_if_eq (tgt := 148) hx hb dX5_codeLiteral_134 (by decide) (fun cc51 => ?_) (fun cc51 => ?_)
            · exact B50 ls _ _ hw (lv_sub hl [3, 4, 5, 6, 0, 8] rfl)
            · refine lv_iload hx hb dX5_codeLiteral_137 (lv_at hl 1 rfl) ?_
              refine lv_iload hx hb dX5_codeLiteral_139 (lv_at hl 9 rfl) ?_
              refine lv_icmp_ne (tgt := 148) hx hb dX5_codeLiteral_141 (by decide) (fun cc52 => ?_) (fun cc52 => ?_)
              · exact B50 ls _ _ hw (lv_sub hl [3, 4, 5, 6, 0, 8] rfl)
              · refine lv_iconst (v := 1) hx hb dX5_codeLiteral_144 (by decide) ?_
                refine lv_goto (tgt := 149) hx hb dX5_codeLiteral_145 (by decide) ?_
                exact B47 1 ls _ _ (ob131 (((1 : Int32)).toInt) ((z2).toInt) ((z1).toInt) ((z3).toInt) ((y2).toInt) (hE_sub hz2) (hE_and2 hz3) (by decide) (hE_rng (z2)) (hE_rng (z1)) (hE_rng (z3)) (hE_rng (y2))) hw (lv_sub hl [3, 4, 5, 6, 0, 8] rfl)
          refine lv_if_eq (tgt := 99) hx hb dX5_codeLiteral_78 (by decide) (fun cc53 => ?_) (fun cc53 => ?_)
          · refine lv_iload hx hb dX5_codeLiteral_99 (lv_at hl 4 rfl) ?_
            refine lv_iload hx hb dX5_codeLiteral_101 (lv_at hl 6 rfl) ?_
            refine lv_iadd hx hb dX5_codeLiteral_103 (jx_nm fun z54 hz54 => ?_)
            exact B24 z54 ls _ _ hw (lv_sub hl [1, 2, 3, 4, 5, 6, 7, 0] rfl)
          · refine lv_iload hx hb dX5_codeLiteral_81 (lv_at hl 4 rfl) ?_
            refine lv_iload hx hb dX5_codeLiteral_83 (lv_at hl 6 rfl) ?_
            refine lv_iadd hx hb dX5_codeLiteral_85 (jx_nm fun z55 hz55 => ?_)
            refine lv_sipush (v := 256) hx hb dX5_codeLiteral_86 (by decide) ?_
            refine lv_iadd hx hb dX5_codeLiteral_89 (jx_nm fun z56 hz56 => ?_)
            refine lv_iload hx hb dX5_codeLiteral_90 (lv_at hl 0 rfl) ?_
            refine lv_bipush (v := 8) hx hb dX5_codeLiteral_92 (by decide) ?_
            refine lv_ishl hx hb dX5_codeLiteral_94 (jx_nm fun z57 hz57 => ?_)
            have xz57 : (z57).toInt = (z23).toInt * 256 := (hE_imp (hE_shl 8 256 hz57 (by decide) (by decide) (by decide)) (ob132 ((z23).toInt) ((z22).toInt) (hE_and 1 2 hz23 (by decide) (by decide) (by decide)) (hE_rng (z23)) (hE_rng (z22))))
            refine lv_iadd hx hb dX5_codeLiteral_95 (jx_nm fun z58 hz58 => ?_)
            refine lv_goto (tgt := 104) hx hb dX5_codeLiteral_96 (by decide) ?_
            exact B24 z58 ls _ _ hw (lv_sub hl [1, 2, 3, 4, 5, 6, 7, 0] rfl)
    exact B12 (((7 : Int32)).toInt + 2147483649).toNat x11 1 7 g lg ar ls _ _ (Int.self_le_toNat _) (ob51 ((g 18).toInt) ((g 14).toInt) (hE_rng (g 18)) (hE_rng (g 14))) (ob133 (((7 : Int32)).toInt) (by decide)) hk_fr0 hk_fr0 hk_fr0 hw (lv_sub hl [3, 4, 5, 6, 2, 1, 0] rfl)
  refine lv_icmp_lt (tgt := 52) hx hb dX5_codeLiteral_45 (by decide) (fun cc59 => ?_) (fun cc59 => ?_)
  · refine lv_iconst (v := 0) hx hb dX5_codeLiteral_52 (by decide) ?_
    exact B10 0 ls _ _ (ob48 (((0 : Int32)).toInt) (by decide)) hw (lv_sub hl [2, 3, 6, 0] rfl)
  · refine lv_iconst (v := 1) hx hb dX5_codeLiteral_48 (by decide) ?_
    refine lv_goto (tgt := 53) hx hb dX5_codeLiteral_49 (by decide) ?_
    exact B10 1 ls _ _ (ob131 (((1 : Int32)).toInt) ((z2).toInt) ((z1).toInt) ((z3).toInt) ((y2).toInt) (hE_sub hz2) (hE_and2 hz3) (by decide) (hE_rng (z2)) (hE_rng (z1)) (hE_rng (z3)) (hE_rng (y2))) hw (lv_sub hl [2, 3, 6, 0] rfl)

set_option maxHeartbeats 4000000 in
set_option maxRecDepth 100000 in
/-- X5_codeLength on (9,) -/
theorem jx_X5_codeLength (l : Launch) (hlt : l.stackTraces = false) (D : va_G) (t3 : Nat × Nat × Nat) (cI cJ : ClassId) (ad : Nat → Nat) (g : Nat → Int32) (lg : Nat → Int64) (ar : Nat → Nat → Int32) (bk : Nat → Int64) (sz : Nat) (y1 : Int32) (y2 : Int32) (y3 : Int32) (hi_a0rg : hk_rg 0 255 (ar 0)) : JMi l yX5_codeLength (Cond.code yX5_codeLength cX5_codeLength 6 (some .int) :: wwX) { frames := 9, cells := 1, slots := 6, locals := 153 } t3 D xw cI cJ ad [.ref (ad 9), .int y1, .int y2, .int y3] (xw cI cJ ad g lg ar bk) sz 1 6 (fun (r : Int32) g' lg' ar' bk' => hk_fr [14, 15, 17, 19, 20] g g' ∧ hk_fr [0, 1, 2] lg lg' ∧ hk_fr [1, 2] ar ar' ∧ bk = bk' ∧ (-300 ≤ (r).toInt ∧ (r).toInt ≤ 600) ∧ ((g 18).toInt ≠ 0 → (g' 14).toInt = (g 14).toInt)) (fun g' lg' ar' bk' => hk_fr [14, 15, 17, 19, 20] g g' ∧ hk_fr [0, 1, 2] lg lg' ∧ hk_fr [1, 2] ar ar' ∧ bk = bk' ∧ ((g 18).toInt ≠ 0) ∧ ((g' 14).toInt = (g 14).toInt)) := by
  refine jx_meti (cc := cX5_codeLength) (maxL := 6) (ret := (some .int)) rfl (by decide) rfl (Nat.le_of_ble_eq_true rfl) ?_
  intro p e s m args below meth c ls Q A hx hb hml hown hts hA hZ hw hl hQ kr kt
  have hq : ∀ w ∈ wwX, w.before args s = true := fun w h => hts w (List.mem_cons_of_mem _ h)
  have hl : lv_has ls 6 [(0, .ref (ad 9)), (1, .int y1), (2, .int y2), (3, .int y3)] := hl
  refine lv_aload_n hx hb dX5_codeLength_0 rfl (lv_at hl 0 rfl) ?_
  refine lv_iload_n hx hb dX5_codeLength_1 rfl (lv_at hl 3 rfl) ?_
  refine jx_Vi (As := [.int y3]) (rest := []) ⟨hx, hb, hml, hown, hts⟩ hZ hw hA (jx_X5_turnOf l hlt D t3 cI cJ ad g lg ar bk _ y3) (cwV 1 hts (jx_gV wwX_good wX_374 wX_375 wX_376 wX_215 wX_377) rfl rfl rfl (by decide +kernel) ⟨Nat.le_of_ble_eq_true rfl, Nat.le_of_ble_eq_true rfl⟩) 9 (ci := 8) (T := TX5) (N := 6) rfl rfl rfl hl.1 rfl (Nat.le_of_ble_eq_true rfl) dX5_codeLength_2 ⟨Nat.le_of_ble_eq_true rfl, Nat.le_of_ble_eq_true rfl⟩ (fun _ _ _ _ _ _ _ _ hp _ _ _ _ => hp.elim) (fun r5 g6 l7 a8 b9 H locs hp10 hw => ?_)
  obtain ⟨rfl, rfl, rfl, rfl⟩ := hp10
  refine lv_istore (lv' := [(4, .int r5), (0, .ref (ad 9)), (1, .int y1), (2, .int y2), (3, .int y3)]) hx hb dX5_codeLength_5 hl (by decide) rfl (fun ls hl => ?_)
  refine lv_iload_n hx hb dX5_codeLength_7 rfl (lv_at hl 3 rfl) ?_
  refine lv_iconst (v := 2) hx hb dX5_codeLength_8 (by decide) ?_
  refine lv_isub hx hb dX5_codeLength_9 (jx_nm fun z15 hz15 => ?_)
  refine lv_istore (lv' := [(5, .int z15), (4, .int r5), (0, .ref (ad 9)), (1, .int y1), (2, .int y2), (3, .int y3)]) hx hb dX5_codeLength_10 hl (by decide) rfl (fun ls hl => ?_)
  refine lv_aload_n hx hb dX5_codeLength_12 rfl (lv_at hl 2 rfl) ?_
  refine hk_get (ci := 8) (C := RX5) (T := TX5) (N := 6) (v := .ref (ad 7)) hx hb hts (fun _ h => List.mem_cons_of_mem _ (wwXc_wsX50 _ h)) hown hw 9 rfl rfl 0 (by decide) (hq _ wX_357) rfl dX5_codeLength_13 ?_
  refine lv_iload_n hx hb dX5_codeLength_16 rfl (lv_at hl 3 rfl) ?_
  refine lv_iload hx hb dX5_codeLength_17 (lv_at hl 0 rfl) ?_
  refine lv_bipush (v := 8) hx hb dX5_codeLength_19 (by decide) ?_
  have B16 : ∀  (x17 : Int32) (ls : Array Slot) (H : Heap) (locs : List Loc), (0 ≤ (x17).toInt ∧ (x17).toInt ≤ 1) → hk_W D (jT cI cJ) A s H locs (xw cI cJ ad g lg ar bk) → lv_has ls 6 [(0, .ref (ad 9)), (1, .int y1), (4, .int r5), (5, .int z15)] → W p l e { frames := 9, cells := 1, slots := 6, locals := 153 } s m args below meth c H locs 0 0 Q (F0 m 29 ls [.int x17, .int y1, .ref (ad 7)]) := by
    intro x17 ls H locs hf_B16_0 hw hl
    refine jx_Vi (As := [.int y1, .int x17]) (rest := []) ⟨hx, hb, hml, hown, hts⟩ hZ hw hA (jx_X2_bit l hlt D t3 cI cJ ad g lg ar bk _ y1 x17 (ob53 ((x17).toInt) hf_B16_0 (hE_rng (x17))) hi_a0rg) (cwV 2 hts (jx_gV wwX_good wX_379 wX_292 wX_293 wX_270 wX_294) rfl rfl rfl (by decide +kernel) ⟨Nat.le_of_ble_eq_true rfl, Nat.le_of_ble_eq_true rfl⟩) 7 (ci := 5) (T := TX2) (N := 9) rfl rfl rfl hl.1 rfl (Nat.le_of_ble_eq_true rfl) dX5_codeLength_29 ⟨Nat.le_of_ble_eq_true rfl, Nat.le_of_ble_eq_true rfl⟩ (fun u18 u19 u20 u21 H locs ce q hp hw h1 h2 h3 => by obtain ⟨ht0, ht1, ht2, rfl, ht4, ht5⟩ := hp; exact kt _ _ _ _ _ _ _ _ _ _ _ ⟨ht0, ht1, ht2, rfl, (ob109 ((g 18).toInt) ht4 (hE_rng (g 18))), (ob56 ((u18 14).toInt) ((g 14).toInt) ht5 (hE_rng (u18 14)) (hE_rng (g 14)))⟩ hw h1 h2 h3) (fun r22 g23 l24 a25 b26 H locs hp27 hw => ?_)
    obtain ⟨h28, h29, h30, rfl, h32, h33⟩ := hp27
    refine lv_if_ne (tgt := 57) hx hb dX5_codeLength_32 (by decide) (fun cc34 => ?_) (fun cc34 => ?_)
    · refine lv_aload_n hx hb dX5_codeLength_57 rfl (lv_at hl 0 rfl) ?_
      refine hk_get (ci := 8) (C := RX5) (T := TX5) (N := 6) (v := .ref (ad 7)) hx hb hts (fun _ h => List.mem_cons_of_mem _ (wwXc_wsX50 _ h)) hown hw 9 rfl rfl 0 (by decide) (hq _ wX_357) rfl dX5_codeLength_58 ?_
      refine lv_iload_n hx hb dX5_codeLength_61 rfl (lv_at hl 1 rfl) ?_
      refine lv_iconst (v := 1) hx hb dX5_codeLength_62 (by decide) ?_
      refine lv_iadd hx hb dX5_codeLength_63 (jx_nm fun z35 hz35 => ?_)
      refine lv_iload hx hb dX5_codeLength_64 (lv_at hl 3 rfl) ?_
      refine lv_bipush (v := 16) hx hb dX5_codeLength_66 (by decide) ?_
      have B36 : ∀  (x37 : Int32) (ls : Array Slot) (H : Heap) (locs : List Loc), (0 ≤ (x37).toInt ∧ (x37).toInt ≤ 1) → hk_W D (jT cI cJ) A s H locs (xw cI cJ ad g23 l24 a25 bk) → lv_has ls 6 [(0, .ref (ad 9)), (1, .int y1), (4, .int r5), (5, .int z15)] → W p l e { frames := 9, cells := 1, slots := 6, locals := 153 } s m args below meth c H locs 0 0 Q (F0 m 76 ls [.int x37, .int z35, .ref (ad 7)]) := by
        intro x37 ls H locs hf_B36_0 hw hl
        have e_g23_18 : g23 18 = (g 18) := (h28 18 rfl)
        refine jx_Vi (As := [.int z35, .int x37]) (rest := []) ⟨hx, hb, hml, hown, hts⟩ hZ hw hA (jx_X2_bit l hlt D t3 cI cJ ad g23 l24 a25 bk _ z35 x37 (ob53 ((x37).toInt) hf_B36_0 (hE_rng (x37))) (hk_pE (P := hk_rg 0 255) hi_a0rg (h30 0 rfl))) (cwV 2 hts (jx_gV wwX_good wX_379 wX_292 wX_293 wX_270 wX_294) rfl rfl rfl (by decide +kernel) ⟨Nat.le_of_ble_eq_true rfl, Nat.le_of_ble_eq_true rfl⟩) 7 (ci := 5) (T := TX2) (N := 9) rfl rfl rfl hl.1 rfl (Nat.le_of_ble_eq_true rfl) dX5_codeLength_76 ⟨Nat.le_of_ble_eq_true rfl, Nat.le_of_ble_eq_true rfl⟩ (fun u38 u39 u40 u41 H locs ce q hp hw h1 h2 h3 => by obtain ⟨ht0, ht1, ht2, rfl, ht4, ht5⟩ := hp; exact kt _ _ _ _ _ _ _ _ _ _ _ ⟨(hk_frT h28 (by decide) ht0), (hk_frT h29 (by decide) ht1), (hk_frT h30 (by decide) ht2), rfl, (ob75 ((g 18).toInt) ((g23 14).toInt) ((g 14).toInt) ((g23 18).toInt) ((u38 14).toInt) h33 (congrArg Int32.toInt e_g23_18) ht4 ht5 (hE_rng (g 18)) (hE_rng (g23 14)) (hE_rng (g 14)) (hE_rng (g23 18)) (hE_rng (u38 14))), (ob76 ((u38 14).toInt) ((g 14).toInt) ((g 18).toInt) ((g23 14).toInt) ((g23 18).toInt) h33 ht5 (congrArg Int32.toInt e_g23_18) ht4 (hE_rng (u38 14)) (hE_rng (g 14)) (hE_rng (g 18)) (hE_rng (g23 14)) (hE_rng (g23 18)))⟩ hw h1 h2 h3) (fun r42 g43 l44 a45 b46 H locs hp47 hw => ?_)
        obtain ⟨h48, h49, h50, rfl, h52, h53⟩ := hp47
        have e_g23_18 : g23 18 = (g 18) := (h28 18 rfl)
        have hr54 : hk_rg 0 255 (a45 0) := (hk_pE (P := hk_rg 0 255) (hk_pE (P := hk_rg 0 255) hi_a0rg (h30 0 rfl)) (h50 0 rfl))
        refine lv_if_ne (tgt := 110) hx hb dX5_codeLength_79 (by decide) (fun cc55 => ?_) (fun cc55 => ?_)
        · refine lv_bipush (v := 18) hx hb dX5_codeLength_110 (by decide) ?_
          refine lv_aload_n hx hb dX5_codeLength_112 rfl (lv_at hl 0 rfl) ?_
          refine hk_get (ci := 8) (C := RX5) (T := TX5) (N := 6) (v := .ref (ad 7)) hx hb hts (fun _ h => List.mem_cons_of_mem _ (wwXc_wsX50 _ h)) hown hw 9 rfl rfl 0 (by decide) (hq _ wX_357) rfl dX5_codeLength_113 ?_
          refine lv_iload_n hx hb dX5_codeLength_116 rfl (lv_at hl 1 rfl) ?_
          refine lv_sipush (v := 258) hx hb dX5_codeLength_117 (by decide) ?_
          refine lv_iadd hx hb dX5_codeLength_120 (jx_nm fun z56 hz56 => ?_)
          refine lv_bipush (v := 8) hx hb dX5_codeLength_121 (by decide) ?_
          refine lv_iload hx hb dX5_codeLength_123 (lv_at hl 3 rfl) ?_
          refine lv_bipush (v := 16) hx hb dX5_codeLength_125 (by decide) ?_
          refine lv_isub hx hb dX5_codeLength_127 (jx_nm fun z57 hz57 => ?_)
          have e_g43_18 : g43 18 = (g 18) := ((h48 18 rfl)).trans e_g23_18
          refine jx_Vi (As := [.int z56, .int 8, .int z57]) (rest := [.int 18]) ⟨hx, hb, hml, hown, hts⟩ hZ hw hA (jx_X2_tree l hlt D t3 cI cJ ad g43 l44 a45 bk _ z56 8 z57 (ob134 (((8 : Int32)).toInt) (by decide)) hr54) (cwV 3 hts (jx_gV wwX_good wX_361 wX_362 wX_363 wX_270 wX_364) rfl rfl rfl (by decide +kernel) ⟨Nat.le_of_ble_eq_true rfl, Nat.le_of_ble_eq_true rfl⟩) 7 (ci := 5) (T := TX2) (N := 9) rfl rfl rfl hl.1 rfl (Nat.le_of_ble_eq_true rfl) dX5_codeLength_128 ⟨Nat.le_of_ble_eq_true rfl, Nat.le_of_ble_eq_true rfl⟩ (fun u58 u59 u60 u61 H locs ce q hp hw h1 h2 h3 => by obtain ⟨ht0, ht1, ht2, rfl, ht4, ht5⟩ := hp; exact kt _ _ _ _ _ _ _ _ _ _ _ ⟨(hk_frT (hk_frT h28 (by decide) h48) (by decide) ht0), (hk_frT (hk_frT h29 (by decide) h49) (by decide) ht1), (hk_frT (hk_frT h30 (by decide) h50) (by decide) ht2), rfl, (ob110 ((g 18).toInt) ((g23 14).toInt) ((g 14).toInt) ((g23 18).toInt) ((g43 18).toInt) ((g43 14).toInt) ((u58 14).toInt) h33 (congrArg Int32.toInt e_g23_18) (congrArg Int32.toInt e_g23_18) (congrArg Int32.toInt e_g43_18) h53 ht4 ht5 (hE_rng (g 18)) (hE_rng (g23 14)) (hE_rng (g 14)) (hE_rng (g23 18)) (hE_rng (g43 18)) (hE_rng (g43 14)) (hE_rng (u58 14))), (ob111 ((u58 14).toInt) ((g 14).toInt) ((g 18).toInt) ((g23 14).toInt) ((g43 14).toInt) ((g23 18).toInt) ((g43 18).toInt) h33 ht5 (congrArg Int32.toInt e_g23_18) (congrArg Int32.toInt e_g23_18) h53 (congrArg Int32.toInt e_g43_18) ht4 (hE_rng (u58 14)) (hE_rng (g 14)) (hE_rng (g 18)) (hE_rng (g23 14)) (hE_rng (g43 14)) (hE_rng (g23 18)) (hE_rng (g43 18)))⟩ hw h1 h2 h3) (fun r62 g63 l64 a65 b66 H locs hp67 hw => ?_)
          obtain ⟨h68, h69, h70, rfl, h72, h73⟩ := hp67
          have e_g43_18 : g43 18 = (g 18) := ((h48 18 rfl)).trans e_g23_18
          refine lv_iadd hx hb dX5_codeLength_131 (jx_nm fun z74 hz74 => ?_)
          have xz74 : (z74).toInt = ((18 : Int32)).toInt + (r62).toInt := (hE_imp (hE_add hz74) (ob135 (((18 : Int32)).toInt) ((r62).toInt) h72 (by decide) (hE_rng (r62))))
          exact kr z74 g63 l64 a65 bk _ _ _ _ ⟨(hk_frT (hk_frT h28 (by decide) h48) (by decide) h68), (hk_frT (hk_frT h29 (by decide) h49) (by decide) h69), (hk_frT (hk_frT h30 (by decide) h50) (by decide) h70), rfl, (ob136 ((z74).toInt) (((18 : Int32)).toInt) ((r62).toInt) xz74 h72 (hE_rng (z74)) (by decide) (hE_rng (r62))), (ob137 ((g 18).toInt) ((g63 14).toInt) ((g 14).toInt) ((g23 14).toInt) ((g23 18).toInt) ((g43 18).toInt) ((g43 14).toInt) h33 (congrArg Int32.toInt e_g23_18) (congrArg Int32.toInt e_g23_18) (congrArg Int32.toInt e_g43_18) (congrArg Int32.toInt e_g43_18) h73 h53 (hE_rng (g 18)) (hE_rng (g63 14)) (hE_rng (g 14)) (hE_rng (g23 14)) (hE_rng (g23 18)) (hE_rng (g43 18)) (hE_rng (g43 14)))⟩ hw dX5_codeLength_132
        · refine lv_bipush (v := 10) hx hb dX5_codeLength_82 (by decide) ?_
          refine lv_aload_n hx hb dX5_codeLength_84 rfl (lv_at hl 0 rfl) ?_
          refine hk_get (ci := 8) (C := RX5) (T := TX5) (N := 6) (v := .ref (ad 7)) hx hb hts (fun _ h => List.mem_cons_of_mem _ (wwXc_wsX50 _ h)) hown hw 9 rfl rfl 0 (by decide) (hq _ wX_357) rfl dX5_codeLength_85 ?_
          refine lv_iload_n hx hb dX5_codeLength_88 rfl (lv_at hl 1 rfl) ?_
          refine lv_sipush (v := 130) hx hb dX5_codeLength_89 (by decide) ?_
          refine lv_iadd hx hb dX5_codeLength_92 (jx_nm fun z75 hz75 => ?_)
          refine lv_iload hx hb dX5_codeLength_93 (lv_at hl 2 rfl) ?_
          refine lv_bipush (v := 8) hx hb dX5_codeLength_95 (by decide) ?_
          refine lv_imul hx hb dX5_codeLength_97 (jx_nm fun z76 hz76 => ?_)
          refine lv_iadd hx hb dX5_codeLength_98 (jx_nm fun z77 hz77 => ?_)
          refine lv_iconst (v := 3) hx hb dX5_codeLength_99 (by decide) ?_
          refine lv_iload hx hb dX5_codeLength_100 (lv_at hl 3 rfl) ?_
          refine lv_bipush (v := 8) hx hb dX5_codeLength_102 (by decide) ?_
          refine lv_isub hx hb dX5_codeLength_104 (jx_nm fun z78 hz78 => ?_)
          have e_g43_18 : g43 18 = (g 18) := ((h48 18 rfl)).trans e_g23_18
          refine jx_Vi (As := [.int z77, .int 3, .int z78]) (rest := [.int 10]) ⟨hx, hb, hml, hown, hts⟩ hZ hw hA (jx_X2_tree l hlt D t3 cI cJ ad g43 l44 a45 bk _ z77 3 z78 (ob138 (((3 : Int32)).toInt) (by decide)) hr54) (cwV 3 hts (jx_gV wwX_good wX_361 wX_362 wX_363 wX_270 wX_364) rfl rfl rfl (by decide +kernel) ⟨Nat.le_of_ble_eq_true rfl, Nat.le_of_ble_eq_true rfl⟩) 7 (ci := 5) (T := TX2) (N := 9) rfl rfl rfl hl.1 rfl (Nat.le_of_ble_eq_true rfl) dX5_codeLength_105 ⟨Nat.le_of_ble_eq_true rfl, Nat.le_of_ble_eq_true rfl⟩ (fun u79 u80 u81 u82 H locs ce q hp hw h1 h2 h3 => by obtain ⟨ht0, ht1, ht2, rfl, ht4, ht5⟩ := hp; exact kt _ _ _ _ _ _ _ _ _ _ _ ⟨(hk_frT (hk_frT h28 (by decide) h48) (by decide) ht0), (hk_frT (hk_frT h29 (by decide) h49) (by decide) ht1), (hk_frT (hk_frT h30 (by decide) h50) (by decide) ht2), rfl, (ob110 ((g 18).toInt) ((g23 14).toInt) ((g 14).toInt) ((g23 18).toInt) ((g43 18).toInt) ((g43 14).toInt) ((u79 14).toInt) h33 (congrArg Int32.toInt e_g23_18) (congrArg Int32.toInt e_g23_18) (congrArg Int32.toInt e_g43_18) h53 ht4 ht5 (hE_rng (g 18)) (hE_rng (g23 14)) (hE_rng (g 14)) (hE_rng (g23 18)) (hE_rng (g43 18)) (hE_rng (g43 14)) (hE_rng (u79 14))), (ob111 ((u79 14).toInt) ((g 14).toInt) ((g 18).toInt) ((g23 14).toInt) ((g43 14).toInt) ((g23 18).toInt) ((g43 18).toInt) h33 ht5 (congrArg Int32.toInt e_g23_18) (congrArg Int32.toInt e_g23_18) h53 (congrArg Int32.toInt e_g43_18) ht4 (hE_rng (u79 14)) (hE_rng (g 14)) (hE_rng (g 18)) (hE_rng (g23 14)) (hE_rng (g43 14)) (hE_rng (g23 18)) (hE_rng (g43 18)))⟩ hw h1 h2 h3) (fun r83 g84 l85 a86 b87 H locs hp88 hw => ?_)
          obtain ⟨h89, h90, h91, rfl, h93, h94⟩ := hp88
          have e_g43_18 : g43 18 = (g 18) := ((h48 18 rfl)).trans e_g23_18
          refine lv_iadd hx hb dX5_codeLength_108 (jx_nm fun z95 hz95 => ?_)
          have xz95 : (z95).toInt = ((10 : Int32)).toInt + (r83).toInt := (hE_imp (hE_add hz95) (ob139 (((10 : Int32)).toInt) ((r83).toInt) h93 (by decide) (hE_rng (r83))))
          exact kr z95 g84 l85 a86 bk _ _ _ _ ⟨(hk_frT (hk_frT h28 (by decide) h48) (by decide) h89), (hk_frT (hk_frT h29 (by decide) h49) (by decide) h90), (hk_frT (hk_frT h30 (by decide) h50) (by decide) h91), rfl, (ob140 ((z95).toInt) (((10 : Int32)).toInt) ((r83).toInt) xz95 h93 (hE_rng (z95)) (by decide) (hE_rng (r83))), (ob137 ((g 18).toInt) ((g84 14).toInt) ((g 14).toInt) ((g23 14).toInt) ((g23 18).toInt) ((g43 18).toInt) ((g43 14).toInt) h33 (congrArg Int32.toInt e_g23_18) (congrArg Int32.toInt e_g23_18) (congrArg Int32.toInt e_g43_18) (congrArg Int32.toInt e_g43_18) h94 h53 (hE_rng (g 18)) (hE_rng (g84 14)) (hE_rng (g 14)) (hE_rng (g23 14)) (hE_rng (g23 18)) (hE_rng (g43 18)) (hE_rng (g43 14)))⟩ hw dX5_codeLength_109
      refine lv_icmp_ge (tgt := 75) hx hb dX5_codeLength_68 (by decide) (fun cc96 => ?_) (fun cc96 => ?_)
      · refine lv_iconst (v := 1) hx hb dX5_codeLength_75 (by decide) ?_
        exact B36 1 ls _ _ (ob141 (((1 : Int32)).toInt) ((z35).toInt) ((y1).toInt) (hE_add hz35) (by decide) (hE_rng (z35)) (hE_rng (y1))) hw (lv_sub hl [0, 1, 2, 3] rfl)
      · refine lv_iconst (v := 0) hx hb dX5_codeLength_71 (by decide) ?_
        refine lv_goto (tgt := 76) hx hb dX5_codeLength_72 (by decide) ?_
        exact B36 0 ls _ _ (ob142 (((0 : Int32)).toInt) ((r22).toInt) (hE_ne cc34) h32 (by decide) (hE_rng (r22))) hw (lv_sub hl [0, 1, 2, 3] rfl)
    · refine lv_iconst (v := 2) hx hb dX5_codeLength_35 (by decide) ?_
      refine lv_aload_n hx hb dX5_codeLength_36 rfl (lv_at hl 0 rfl) ?_
      refine hk_get (ci := 8) (C := RX5) (T := TX5) (N := 6) (v := .ref (ad 7)) hx hb hts (fun _ h => List.mem_cons_of_mem _ (wwXc_wsX50 _ h)) hown hw 9 rfl rfl 0 (by decide) (hq _ wX_357) rfl dX5_codeLength_37 ?_
      refine lv_iload_n hx hb dX5_codeLength_40 rfl (lv_at hl 1 rfl) ?_
      refine lv_iconst (v := 2) hx hb dX5_codeLength_41 (by decide) ?_
      refine lv_iadd hx hb dX5_codeLength_42 (jx_nm fun z97 hz97 => ?_)
      refine lv_iload hx hb dX5_codeLength_43 (lv_at hl 2 rfl) ?_
      refine lv_bipush (v := 8) hx hb dX5_codeLength_45 (by decide) ?_
      refine lv_imul hx hb dX5_codeLength_47 (jx_nm fun z98 hz98 => ?_)
      refine lv_iadd hx hb dX5_codeLength_48 (jx_nm fun z99 hz99 => ?_)
      refine lv_iconst (v := 3) hx hb dX5_codeLength_49 (by decide) ?_
      refine lv_iload hx hb dX5_codeLength_50 (lv_at hl 3 rfl) ?_
      have e_g23_18 : g23 18 = (g 18) := (h28 18 rfl)
      refine jx_Vi (As := [.int z99, .int 3, .int z15]) (rest := [.int 2]) ⟨hx, hb, hml, hown, hts⟩ hZ hw hA (jx_X2_tree l hlt D t3 cI cJ ad g23 l24 a25 bk _ z99 3 z15 (ob138 (((3 : Int32)).toInt) (by decide)) (hk_pE (P := hk_rg 0 255) hi_a0rg (h30 0 rfl))) (cwV 3 hts (jx_gV wwX_good wX_361 wX_362 wX_363 wX_270 wX_364) rfl rfl rfl (by decide +kernel) ⟨Nat.le_of_ble_eq_true rfl, Nat.le_of_ble_eq_true rfl⟩) 7 (ci := 5) (T := TX2) (N := 9) rfl rfl rfl hl.1 rfl (Nat.le_of_ble_eq_true rfl) dX5_codeLength_52 ⟨Nat.le_of_ble_eq_true rfl, Nat.le_of_ble_eq_true rfl⟩ (fun u100 u101 u102 u103 H locs ce q hp hw h1 h2 h3 => by obtain ⟨ht0, ht1, ht2, rfl, ht4, ht5⟩ := hp; exact kt _ _ _ _ _ _ _ _ _ _ _ ⟨(hk_frT h28 (by decide) ht0), (hk_frT h29 (by decide) ht1), (hk_frT h30 (by decide) ht2), rfl, (ob75 ((g 18).toInt) ((g23 14).toInt) ((g 14).toInt) ((g23 18).toInt) ((u100 14).toInt) h33 (congrArg Int32.toInt e_g23_18) ht4 ht5 (hE_rng (g 18)) (hE_rng (g23 14)) (hE_rng (g 14)) (hE_rng (g23 18)) (hE_rng (u100 14))), (ob76 ((u100 14).toInt) ((g 14).toInt) ((g 18).toInt) ((g23 14).toInt) ((g23 18).toInt) h33 ht5 (congrArg Int32.toInt e_g23_18) ht4 (hE_rng (u100 14)) (hE_rng (g 14)) (hE_rng (g 18)) (hE_rng (g23 14)) (hE_rng (g23 18)))⟩ hw h1 h2 h3) (fun r104 g105 l106 a107 b108 H locs hp109 hw => ?_)
      obtain ⟨h110, h111, h112, rfl, h114, h115⟩ := hp109
      have e_g23_18 : g23 18 = (g 18) := (h28 18 rfl)
      have hr116 : hk_rg 0 255 (a107 0) := (hk_pE (P := hk_rg 0 255) (hk_pE (P := hk_rg 0 255) hi_a0rg (h30 0 rfl)) (h112 0 rfl))
      refine lv_iadd hx hb dX5_codeLength_55 (jx_nm fun z117 hz117 => ?_)
      have xz117 : (z117).toInt = ((2 : Int32)).toInt + (r104).toInt := (hE_imp (hE_add hz117) (ob143 (((2 : Int32)).toInt) ((r104).toInt) ((z15).toInt) ((y2).toInt) ((z97).toInt) ((y1).toInt) ((z99).toInt) ((z98).toInt) (hE_sub hz15) (hE_add hz97) h114 (hE_add hz99) (by decide) (hE_rng (r104)) (hE_rng (z15)) (hE_rng (y2)) (hE_rng (z97)) (hE_rng (y1)) (hE_rng (z99)) (hE_rng (z98))))
      exact kr z117 g105 l106 a107 bk _ _ _ _ ⟨(hk_frT h28 (by decide) h110), (hk_frT h29 (by decide) h111), (hk_frT h30 (by decide) h112), rfl, (ob144 ((z117).toInt) (((2 : Int32)).toInt) ((r104).toInt) ((z15).toInt) ((y2).toInt) ((z97).toInt) ((y1).toInt) ((z99).toInt) ((z98).toInt) xz117 (hE_sub hz15) (hE_add hz97) h114 (hE_add hz99) (hE_rng (z117)) (by decide) (hE_rng (r104)) (hE_rng (z15)) (hE_rng (y2)) (hE_rng (z97)) (hE_rng (y1)) (hE_rng (z99)) (hE_rng (z98))), (ob79 ((g 18).toInt) ((g105 14).toInt) ((g 14).toInt) ((g23 14).toInt) ((g23 18).toInt) h33 (congrArg Int32.toInt e_g23_18) (congrArg Int32.toInt e_g23_18) h115 (hE_rng (g 18)) (hE_rng (g105 14)) (hE_rng (g 14)) (hE_rng (g23 14)) (hE_rng (g23 18)))⟩ hw dX5_codeLength_56
  refine lv_icmp_ge (tgt := 28) hx hb dX5_codeLength_21 (by decide) (fun cc118 => ?_) (fun cc118 => ?_)
  · refine lv_iconst (v := 1) hx hb dX5_codeLength_28 (by decide) ?_
    exact B16 1 ls _ _ (ob49 (((1 : Int32)).toInt) (by decide)) hw (lv_sub hl [2, 3, 1, 0] rfl)
  · refine lv_iconst (v := 0) hx hb dX5_codeLength_24 (by decide) ?_
    refine lv_goto (tgt := 29) hx hb dX5_codeLength_25 (by decide) ?_
    exact B16 0 ls _ _ (ob48 (((0 : Int32)).toInt) (by decide)) hw (lv_sub hl [2, 3, 1, 0] rfl)

set_option maxHeartbeats 4000000 in
set_option maxRecDepth 100000 in
/-- J6_numberOfLeadingZeros_0f7a4 -/
theorem jx_J6_numberOfLeadingZeros_0f7a4 (l : Launch) (hlt : l.stackTraces = false) (D : va_G) (t3 : Nat × Nat × Nat) (cI cJ : ClassId) (ad : Nat → Nat) (g : Nat → Int32) (lg : Nat → Int64) (ar : Nat → Nat → Int32) (bk : Nat → Int64) (sz : Nat) (y0 : Int32) : JMi l yJ6_numberOfLeadingZeros_0f7a4 (Cond.code yJ6_numberOfLeadingZeros_0f7a4 cJ6_numberOfLeadingZeros_0f7a4 2 (some .int) :: wwX) { frames := 0, cells := 1, slots := 6, locals := 0 } t3 D xw cI cJ ad [.int y0] (xw cI cJ ad g lg ar bk) sz 1 6 (fun (r : Int32) g' lg' ar' bk' => g = g' ∧ lg = lg' ∧ ar = ar' ∧ bk = bk') (fun g' lg' ar' bk' => False) := by
  refine jx_meti (cc := cJ6_numberOfLeadingZeros_0f7a4) (maxL := 2) (ret := (some .int)) rfl (by decide) rfl (Nat.le_of_ble_eq_true rfl) ?_
  intro p e s m args below meth c ls Q A hx hb hml hown hts hA hZ hw hl hQ kr kt
  have hq : ∀ w ∈ wwX, w.before args s = true := fun w h => hts w (List.mem_cons_of_mem _ h)
  have hl : lv_has ls 2 [(0, .int y0)] := hl
  refine lv_iload_n hx hb dJ6_numberOfLeadingZeros_0f7a4_0 rfl (lv_at hl 0 rfl) ?_
  refine lv_if_gt (tgt := 15) hx hb dJ6_numberOfLeadingZeros_0f7a4_1 (by decide) (fun cc1 => ?_) (fun cc1 => ?_)
  · refine lv_bipush (v := 31) hx hb dJ6_numberOfLeadingZeros_0f7a4_15 (by decide) ?_
    refine lv_istore_n (lv' := [(1, .int 31), (0, .int y0)]) hx hb dJ6_numberOfLeadingZeros_0f7a4_17 rfl hl (by decide) rfl (fun ls hl => ?_)
    refine lv_iload_n hx hb dJ6_numberOfLeadingZeros_0f7a4_18 rfl (lv_at hl 1 rfl) ?_
    refine lv_ldcw (v := 65536) hx hb hown (hq _ wX_4) dJ6_numberOfLeadingZeros_0f7a4_19 ?_
    have B2 : ∀  (x3 : Int32) (x4 : Int32) (ls : Array Slot) (H : Heap) (locs : List Loc), hk_W D (jT cI cJ) A s H locs (xw cI cJ ad g lg ar bk) → lv_has ls 2 [(0, .int x3), (1, .int x4)] → W p l e { frames := 0, cells := 1, slots := 6, locals := 0 } s m args below meth c H locs 0 0 Q (F0 m 33 ls []) := by
      intro x3 x4 ls H locs hw hl
      refine lv_iload_n hx hb dJ6_numberOfLeadingZeros_0f7a4_33 rfl (lv_at hl 0 rfl) ?_
      refine lv_sipush (v := 256) hx hb dJ6_numberOfLeadingZeros_0f7a4_34 (by decide) ?_
      have B5 : ∀  (x6 : Int32) (x7 : Int32) (ls : Array Slot) (H : Heap) (locs : List Loc), hk_W D (jT cI cJ) A s H locs (xw cI cJ ad g lg ar bk) → lv_has ls 2 [(0, .int x6), (1, .int x7)] → W p l e { frames := 0, cells := 1, slots := 6, locals := 0 } s m args below meth c H locs 0 0 Q (F0 m 48 ls []) := by
        intro x6 x7 ls H locs hw hl
        refine lv_iload_n hx hb dJ6_numberOfLeadingZeros_0f7a4_48 rfl (lv_at hl 0 rfl) ?_
        refine lv_bipush (v := 16) hx hb dJ6_numberOfLeadingZeros_0f7a4_49 (by decide) ?_
        have B8 : ∀  (x9 : Int32) (x10 : Int32) (ls : Array Slot) (H : Heap) (locs : List Loc), hk_W D (jT cI cJ) A s H locs (xw cI cJ ad g lg ar bk) → lv_has ls 2 [(0, .int x9), (1, .int x10)] → W p l e { frames := 0, cells := 1, slots := 6, locals := 0 } s m args below meth c H locs 0 0 Q (F0 m 61 ls []) := by
          intro x9 x10 ls H locs hw hl
          refine lv_iload_n hx hb dJ6_numberOfLeadingZeros_0f7a4_61 rfl (lv_at hl 0 rfl) ?_
          refine lv_iconst (v := 4) hx hb dJ6_numberOfLeadingZeros_0f7a4_62 (by decide) ?_
          have B11 : ∀  (x12 : Int32) (x13 : Int32) (ls : Array Slot) (H : Heap) (locs : List Loc), hk_W D (jT cI cJ) A s H locs (xw cI cJ ad g lg ar bk) → lv_has ls 2 [(0, .int x12), (1, .int x13)] → W p l e { frames := 0, cells := 1, slots := 6, locals := 0 } s m args below meth c H locs 0 0 Q (F0 m 73 ls []) := by
            intro x12 x13 ls H locs hw hl
            refine lv_iload_n hx hb dJ6_numberOfLeadingZeros_0f7a4_73 rfl (lv_at hl 1 rfl) ?_
            refine lv_iload_n hx hb dJ6_numberOfLeadingZeros_0f7a4_74 rfl (lv_at hl 0 rfl) ?_
            refine lv_iconst (v := 1) hx hb dJ6_numberOfLeadingZeros_0f7a4_75 (by decide) ?_
            refine lv_iushr hx hb dJ6_numberOfLeadingZeros_0f7a4_76 rfl (jx_nm fun z14 hz14 => ?_)
            refine lv_isub hx hb dJ6_numberOfLeadingZeros_0f7a4_77 (jx_nm fun z15 hz15 => ?_)
            exact kr z15 g lg ar bk _ _ _ _ ⟨rfl, rfl, rfl, rfl⟩ hw dJ6_numberOfLeadingZeros_0f7a4_78
          refine lv_icmp_lt (tgt := 73) hx hb dJ6_numberOfLeadingZeros_0f7a4_63 (by decide) (fun cc16 => ?_) (fun cc16 => ?_)
          · exact B11 x9 x10 ls _ _ hw (lv_sub hl [0, 1] rfl)
          · obtain ⟨z17, hz17⟩ : ∃ z : Int32, x10 + (-2) = z := ⟨_, rfl⟩
            refine lv_iinc (v := z17) (lv' := [(1, .int z17), (0, .int x9)]) hx hb dJ6_numberOfLeadingZeros_0f7a4_66 hl (k := 1) rfl hz17 (by decide) rfl (fun ls hl => ?_)
            refine lv_iload_n hx hb dJ6_numberOfLeadingZeros_0f7a4_69 rfl (lv_at hl 1 rfl) ?_
            refine lv_iconst (v := 2) hx hb dJ6_numberOfLeadingZeros_0f7a4_70 (by decide) ?_
            refine lv_iushr hx hb dJ6_numberOfLeadingZeros_0f7a4_71 rfl (jx_nm fun z18 hz18 => ?_)
            refine lv_istore_n (lv' := [(0, .int z18), (1, .int z17)]) hx hb dJ6_numberOfLeadingZeros_0f7a4_72 rfl hl (by decide) rfl (fun ls hl => ?_)
            exact B11 z18 z17 ls _ _ hw (lv_sub hl [0, 1] rfl)
        refine lv_icmp_lt (tgt := 61) hx hb dJ6_numberOfLeadingZeros_0f7a4_51 (by decide) (fun cc19 => ?_) (fun cc19 => ?_)
        · exact B8 x6 x7 ls _ _ hw (lv_sub hl [0, 1] rfl)
        · obtain ⟨z20, hz20⟩ : ∃ z : Int32, x7 + (-4) = z := ⟨_, rfl⟩
          refine lv_iinc (v := z20) (lv' := [(1, .int z20), (0, .int x6)]) hx hb dJ6_numberOfLeadingZeros_0f7a4_54 hl (k := 1) rfl hz20 (by decide) rfl (fun ls hl => ?_)
          refine lv_iload_n hx hb dJ6_numberOfLeadingZeros_0f7a4_57 rfl (lv_at hl 1 rfl) ?_
          refine lv_iconst (v := 4) hx hb dJ6_numberOfLeadingZeros_0f7a4_58 (by decide) ?_
          refine lv_iushr hx hb dJ6_numberOfLeadingZeros_0f7a4_59 rfl (jx_nm fun z21 hz21 => ?_)
          refine lv_istore_n (lv' := [(0, .int z21), (1, .int z20)]) hx hb dJ6_numberOfLeadingZeros_0f7a4_60 rfl hl (by decide) rfl (fun ls hl => ?_)
          exact B8 z21 z20 ls _ _ hw (lv_sub hl [0, 1] rfl)
      refine lv_icmp_lt (tgt := 48) hx hb dJ6_numberOfLeadingZeros_0f7a4_37 (by decide) (fun cc22 => ?_) (fun cc22 => ?_)
      · exact B5 x3 x4 ls _ _ hw (lv_sub hl [0, 1] rfl)
      · obtain ⟨z23, hz23⟩ : ∃ z : Int32, x4 + (-8) = z := ⟨_, rfl⟩
        refine lv_iinc (v := z23) (lv' := [(1, .int z23), (0, .int x3)]) hx hb dJ6_numberOfLeadingZeros_0f7a4_40 hl (k := 1) rfl hz23 (by decide) rfl (fun ls hl => ?_)
        refine lv_iload_n hx hb dJ6_numberOfLeadingZeros_0f7a4_43 rfl (lv_at hl 1 rfl) ?_
        refine lv_bipush (v := 8) hx hb dJ6_numberOfLeadingZeros_0f7a4_44 (by decide) ?_
        refine lv_iushr hx hb dJ6_numberOfLeadingZeros_0f7a4_46 rfl (jx_nm fun z24 hz24 => ?_)
        refine lv_istore_n (lv' := [(0, .int z24), (1, .int z23)]) hx hb dJ6_numberOfLeadingZeros_0f7a4_47 rfl hl (by decide) rfl (fun ls hl => ?_)
        exact B5 z24 z23 ls _ _ hw (lv_sub hl [0, 1] rfl)
    refine lv_icmp_lt (tgt := 33) hx hb dJ6_numberOfLeadingZeros_0f7a4_22 (by decide) (fun cc25 => ?_) (fun cc25 => ?_)
    · exact B2 y0 31 ls _ _ hw (lv_sub hl [1, 0] rfl)
    · refine lv_iinc (v := 15) (lv' := [(1, .int 15), (0, .int y0)]) hx hb dJ6_numberOfLeadingZeros_0f7a4_25 hl (k := 0) rfl (by decide) (by decide) rfl (fun ls hl => ?_)
      refine lv_iload_n hx hb dJ6_numberOfLeadingZeros_0f7a4_28 rfl (lv_at hl 1 rfl) ?_
      refine lv_bipush (v := 16) hx hb dJ6_numberOfLeadingZeros_0f7a4_29 (by decide) ?_
      refine lv_iushr hx hb dJ6_numberOfLeadingZeros_0f7a4_31 rfl (jx_nm fun z26 hz26 => ?_)
      refine lv_istore_n (lv' := [(0, .int z26), (1, .int 15)]) hx hb dJ6_numberOfLeadingZeros_0f7a4_32 rfl hl (by decide) rfl (fun ls hl => ?_)
      exact B2 z26 15 ls _ _ hw (lv_sub hl [0, 1] rfl)
  · refine lv_iload_n hx hb dJ6_numberOfLeadingZeros_0f7a4_4 rfl (lv_at hl 0 rfl) ?_
    refine lv_if_ne (tgt := 13) hx hb dJ6_numberOfLeadingZeros_0f7a4_5 (by decide) (fun cc27 => ?_) (fun cc27 => ?_)
    · refine lv_iconst (v := 0) hx hb dJ6_numberOfLeadingZeros_0f7a4_13 (by decide) ?_
      exact kr 0 g lg ar bk _ _ _ _ ⟨rfl, rfl, rfl, rfl⟩ hw dJ6_numberOfLeadingZeros_0f7a4_14
    · refine lv_bipush (v := 32) hx hb dJ6_numberOfLeadingZeros_0f7a4_8 (by decide) ?_
      refine lv_goto (tgt := 14) hx hb dJ6_numberOfLeadingZeros_0f7a4_10 (by decide) ?_
      exact kr 32 g lg ar bk _ _ _ _ ⟨rfl, rfl, rfl, rfl⟩ hw dJ6_numberOfLeadingZeros_0f7a4_14

set_option maxHeartbeats 4000000 in
set_option maxRecDepth 100000 in
/-- J13_numberOfLeadingZeros_95d88 -/
theorem jx_J13_numberOfLeadingZeros_95d88 (l : Launch) (hlt : l.stackTraces = false) (D : va_G) (t3 : Nat × Nat × Nat) (cI cJ : ClassId) (ad : Nat → Nat) (g : Nat → Int32) (lg : Nat → Int64) (ar : Nat → Nat → Int32) (bk : Nat → Int64) (sz : Nat) (y0 : Int64) : JMi l yJ13_numberOfLeadingZeros_95d88 (Cond.code yJ13_numberOfLeadingZeros_95d88 cJ13_numberOfLeadingZeros_95d88 3 (some .int) :: wwX) { frames := 1, cells := 1, slots := 6, locals := 21 } t3 D xw cI cJ ad [.long y0] (xw cI cJ ad g lg ar bk) sz 1 6 (fun (r : Int32) g' lg' ar' bk' => g = g' ∧ lg = lg' ∧ ar = ar' ∧ bk = bk') (fun g' lg' ar' bk' => False) := by
  refine jx_meti (cc := cJ13_numberOfLeadingZeros_95d88) (maxL := 3) (ret := (some .int)) rfl (by decide) rfl (Nat.le_of_ble_eq_true rfl) ?_
  intro p e s m args below meth c ls Q A hx hb hml hown hts hA hZ hw hl hQ kr kt
  have hq : ∀ w ∈ wwX, w.before args s = true := fun w h => hts w (List.mem_cons_of_mem _ h)
  have hl : lv_has ls 3 [(0, .long y0)] := hl
  refine lv_lload_n hx hb dJ13_numberOfLeadingZeros_95d88_0 rfl (lv_at hl 0 rfl) ?_
  refine lv_bipush (v := 32) hx hb dJ13_numberOfLeadingZeros_95d88_1 (by decide) ?_
  refine lv_lushr hx hb dJ13_numberOfLeadingZeros_95d88_3 rfl (jx_nl fun z1 hz1 => ?_)
  refine lv_l2i hx hb dJ13_numberOfLeadingZeros_95d88_4 rfl (jx_nm fun z2 hz2 => ?_)
  refine lv_istore_n (lv' := [(2, .int z2), (0, .long y0)]) hx hb dJ13_numberOfLeadingZeros_95d88_5 rfl hl (by decide) rfl (fun ls hl => ?_)
  refine lv_iload_n hx hb dJ13_numberOfLeadingZeros_95d88_6 rfl (lv_at hl 0 rfl) ?_
  refine lv_if_ne (tgt := 21) hx hb dJ13_numberOfLeadingZeros_95d88_7 (by decide) (fun cc3 => ?_) (fun cc3 => ?_)
  · refine lv_iload_n hx hb dJ13_numberOfLeadingZeros_95d88_21 rfl (lv_at hl 0 rfl) ?_
    refine jx_Si (As := [.int z2]) (rest := []) ⟨hx, hb, hml, hown, hts⟩ hZ hw hA (jx_J6_numberOfLeadingZeros_0f7a4 l hlt D t3 cI cJ ad g lg ar bk _ z2) (va_cwS 1 hts (jx_gS wwX_good wX_0 wX_1 wX_2 wX_3) rfl rfl rfl (by decide +kernel) ⟨Nat.le_of_ble_eq_true rfl, Nat.le_of_ble_eq_true rfl⟩) rfl hl.1 rfl (Nat.le_of_ble_eq_true rfl) dJ13_numberOfLeadingZeros_95d88_22 ⟨Nat.le_of_ble_eq_true rfl, Nat.le_of_ble_eq_true rfl⟩ (fun _ _ _ _ _ _ _ _ hp _ _ _ _ => hp.elim) (fun r8 g9 l10 a11 b12 H locs hp13 hw => ?_)
    obtain ⟨rfl, rfl, rfl, rfl⟩ := hp13
    exact kr r8 g lg ar bk _ _ _ _ ⟨rfl, rfl, rfl, rfl⟩ hw dJ13_numberOfLeadingZeros_95d88_25
  · refine lv_bipush (v := 32) hx hb dJ13_numberOfLeadingZeros_95d88_10 (by decide) ?_
    refine lv_lload_n hx hb dJ13_numberOfLeadingZeros_95d88_12 rfl (lv_at hl 1 rfl) ?_
    refine lv_l2i hx hb dJ13_numberOfLeadingZeros_95d88_13 rfl (jx_nm fun z18 hz18 => ?_)
    refine jx_Si (As := [.int z18]) (rest := [.int 32]) ⟨hx, hb, hml, hown, hts⟩ hZ hw hA (jx_J6_numberOfLeadingZeros_0f7a4 l hlt D t3 cI cJ ad g lg ar bk _ z18) (va_cwS 1 hts (jx_gS wwX_good wX_0 wX_1 wX_2 wX_3) rfl rfl rfl (by decide +kernel) ⟨Nat.le_of_ble_eq_true rfl, Nat.le_of_ble_eq_true rfl⟩) rfl hl.1 rfl (Nat.le_of_ble_eq_true rfl) dJ13_numberOfLeadingZeros_95d88_14 ⟨Nat.le_of_ble_eq_true rfl, Nat.le_of_ble_eq_true rfl⟩ (fun _ _ _ _ _ _ _ _ hp _ _ _ _ => hp.elim) (fun r23 g24 l25 a26 b27 H locs hp28 hw => ?_)
    obtain ⟨rfl, rfl, rfl, rfl⟩ := hp28
    refine lv_iadd hx hb dJ13_numberOfLeadingZeros_95d88_17 (jx_nm fun z33 hz33 => ?_)
    refine lv_goto (tgt := 25) hx hb dJ13_numberOfLeadingZeros_95d88_18 (by decide) ?_
    exact kr z33 g lg ar bk _ _ _ _ ⟨rfl, rfl, rfl, rfl⟩ hw dJ13_numberOfLeadingZeros_95d88_25

set_option maxHeartbeats 4000000 in
set_option maxRecDepth 100000 in
/-- X5_slotOf -/
theorem jx_X5_slotOf (l : Launch) (hlt : l.stackTraces = false) (D : va_G) (t3 : Nat × Nat × Nat) (cI cJ : ClassId) (ad : Nat → Nat) (g : Nat → Int32) (lg : Nat → Int64) (ar : Nat → Nat → Int32) (bk : Nat → Int64) (sz : Nat) (y0 : Int64) : JMi l yX5_slotOf (Cond.code yX5_slotOf cX5_slotOf 3 (some .int) :: wwX) { frames := 2, cells := 1, slots := 6, locals := 43 } t3 D xw cI cJ ad [.long y0] (xw cI cJ ad g lg ar bk) sz 1 6 (fun (r : Int32) g' lg' ar' bk' => g = g' ∧ lg = lg' ∧ ar = ar' ∧ bk = bk') (fun g' lg' ar' bk' => False) := by
  refine jx_meti (cc := cX5_slotOf) (maxL := 3) (ret := (some .int)) rfl (by decide) rfl (Nat.le_of_ble_eq_true rfl) ?_
  intro p e s m args below meth c ls Q A hx hb hml hown hts hA hZ hw hl hQ kr kt
  have hq : ∀ w ∈ wwX, w.before args s = true := fun w h => hts w (List.mem_cons_of_mem _ h)
  have hl : lv_has ls 3 [(0, .long y0)] := hl
  refine lv_lload_n hx hb dX5_slotOf_0 rfl (lv_at hl 0 rfl) ?_
  refine lv_ldc2 (v := 4) hx hb hown (hq _ wX_393) dX5_slotOf_1 ?_
  refine hk_lcmp_ge (tgt := 11) hx hb dX5_slotOf_4 dX5_slotOf_5 (by decide) (fun cc1 => ?_) (fun cc1 => ?_)
  · refine lv_bipush (v := 63) hx hb dX5_slotOf_11 (by decide) ?_
    refine lv_lload_n hx hb dX5_slotOf_13 rfl (lv_at hl 0 rfl) ?_
    refine jx_Si (As := [.long y0]) (rest := [.int 63]) ⟨hx, hb, hml, hown, hts⟩ hZ hw hA (jx_J13_numberOfLeadingZeros_95d88 l hlt D t3 cI cJ ad g lg ar bk _ y0) (va_cwS 1 hts (jx_gS wwX_good wX_394 wX_395 wX_396 wX_397) rfl rfl rfl (by decide +kernel) ⟨Nat.le_of_ble_eq_true rfl, Nat.le_of_ble_eq_true rfl⟩) rfl hl.1 rfl (Nat.le_of_ble_eq_true rfl) dX5_slotOf_14 ⟨Nat.le_of_ble_eq_true rfl, Nat.le_of_ble_eq_true rfl⟩ (fun _ _ _ _ _ _ _ _ hp _ _ _ _ => hp.elim) (fun r6 g7 l8 a9 b10 H locs hp11 hw => ?_)
    obtain ⟨rfl, rfl, rfl, rfl⟩ := hp11
    refine lv_isub hx hb dX5_slotOf_17 (jx_nm fun z16 hz16 => ?_)
    refine lv_istore_n (lv' := [(2, .int z16), (0, .long y0)]) hx hb dX5_slotOf_18 rfl hl (by decide) rfl (fun ls hl => ?_)
    refine lv_iconst (v := 2) hx hb dX5_slotOf_19 (by decide) ?_
    refine lv_iload_n hx hb dX5_slotOf_20 rfl (lv_at hl 0 rfl) ?_
    refine lv_imul hx hb dX5_slotOf_21 (jx_nm fun z17 hz17 => ?_)
    refine lv_lload_n hx hb dX5_slotOf_22 rfl (lv_at hl 1 rfl) ?_
    refine lv_iload_n hx hb dX5_slotOf_23 rfl (lv_at hl 0 rfl) ?_
    refine lv_iconst (v := 1) hx hb dX5_slotOf_24 (by decide) ?_
    refine lv_isub hx hb dX5_slotOf_25 (jx_nm fun z18 hz18 => ?_)
    refine lv_lushr hx hb dX5_slotOf_26 rfl (jx_nl fun z19 hz19 => ?_)
    refine lv_lconst (v := 1) hx hb dX5_slotOf_27 (by decide) ?_
    refine lv_land hx hb dX5_slotOf_28 (jx_nl fun z20 hz20 => ?_)
    refine lv_l2i hx hb dX5_slotOf_29 rfl (jx_nm fun z21 hz21 => ?_)
    refine lv_iadd hx hb dX5_slotOf_30 (jx_nm fun z22 hz22 => ?_)
    exact kr z22 g lg ar bk _ _ _ _ ⟨rfl, rfl, rfl, rfl⟩ hw dX5_slotOf_31
  · refine lv_lload_n hx hb dX5_slotOf_8 rfl (lv_at hl 0 rfl) ?_
    refine lv_l2i hx hb dX5_slotOf_9 rfl (jx_nm fun z23 hz23 => ?_)
    exact kr z23 g lg ar bk _ _ _ _ ⟨rfl, rfl, rfl, rfl⟩ hw dX5_slotOf_10

set_option maxHeartbeats 4000000 in
set_option maxRecDepth 100000 in
/-- X5_codeFar on (9,) -/
theorem jx_X5_codeFar (l : Launch) (hlt : l.stackTraces = false) (D : va_G) (t3 : Nat × Nat × Nat) (cI cJ : ClassId) (ad : Nat → Nat) (g : Nat → Int32) (lg : Nat → Int64) (ar : Nat → Nat → Int32) (bk : Nat → Int64) (sz : Nat) (y1 : Int64) (y3 : Int32) (hi_a0rg : hk_rg 0 255 (ar 0)) : JMl l yX5_codeFar (Cond.code yX5_codeFar cX5_codeFar 13 (some .long) :: wwX) { frames := 9, cells := 1, slots := 6, locals := 155 } t3 D xw cI cJ ad [.ref (ad 9), .long y1, .int y3] (xw cI cJ ad g lg ar bk) sz 1 6 (fun (r : Int64) g' lg' ar' bk' => hk_fr [14, 15, 17, 19, 20] g g' ∧ hk_fr [0, 1, 2] lg lg' ∧ hk_fr [1, 2] ar ar' ∧ bk = bk' ∧ ((g 18).toInt ≠ 0 → (g' 14).toInt = (g 14).toInt)) (fun g' lg' ar' bk' => hk_fr [14, 15, 17, 19, 20] g g' ∧ hk_fr [0, 1, 2] lg lg' ∧ hk_fr [1, 2] ar ar' ∧ bk = bk' ∧ ((g 18).toInt ≠ 0) ∧ ((g' 14).toInt = (g 14).toInt)) := by
  refine jx_metl (cc := cX5_codeFar) (maxL := 13) (ret := (some .long)) rfl (by decide) rfl (Nat.le_of_ble_eq_true rfl) ?_
  intro p e s m args below meth c ls Q A hx hb hml hown hts hA hZ hw hl hQ kr kt
  have hq : ∀ w ∈ wwX, w.before args s = true := fun w h => hts w (List.mem_cons_of_mem _ h)
  have hl : lv_has ls 13 [(0, .ref (ad 9)), (1, .long y1), (3, .int y3)] := hl
  refine lv_iconst (v := 0) hx hb dX5_codeFar_0 (by decide) ?_
  refine lv_iload_n hx hb dX5_codeFar_1 rfl (lv_at hl 2 rfl) ?_
  refine lv_iconst (v := 2) hx hb dX5_codeFar_2 (by decide) ?_
  refine lv_isub hx hb dX5_codeFar_3 (jx_nm fun z1 hz1 => ?_)
  refine lv_iconst (v := 3) hx hb dX5_codeFar_4 (by decide) ?_
  refine va_mmin hx hb (by rw [hml]; exact hl.1.symm) hown (hq _ wX_355) (hq _ wX_146) (hq _ wX_143) (hq _ wX_147) (Nat.le_of_ble_eq_true rfl) (Nat.le_of_ble_eq_true rfl) (Nat.le_of_ble_eq_true rfl) (Nat.le_of_ble_eq_true rfl) dX5_codeFar_5 (jx_nm fun z2 hz2 => ?_)
  refine va_mmax hx hb (by rw [hml]; exact hl.1.symm) hown (hq _ wX_356) (hq _ wX_142) (hq _ wX_143) (hq _ wX_144) (Nat.le_of_ble_eq_true rfl) (Nat.le_of_ble_eq_true rfl) (Nat.le_of_ble_eq_true rfl) (Nat.le_of_ble_eq_true rfl) dX5_codeFar_8 (jx_nm fun z3 hz3 => ?_)
  refine lv_istore (lv' := [(4, .int z3), (0, .ref (ad 9)), (1, .long y1), (3, .int y3)]) hx hb dX5_codeFar_11 hl (by decide) rfl (fun ls hl => ?_)
  refine lv_aload_n hx hb dX5_codeFar_13 rfl (lv_at hl 1 rfl) ?_
  refine hk_get (ci := 8) (C := RX5) (T := TX5) (N := 6) (v := .ref (ad 7)) hx hb hts (fun _ h => List.mem_cons_of_mem _ (wwXc_wsX50 _ h)) hown hw 9 rfl rfl 0 (by decide) (hq _ wX_357) rfl dX5_codeFar_14 ?_
  refine lv_sipush (v := 432) hx hb dX5_codeFar_17 (by decide) ?_
  refine lv_iload hx hb dX5_codeFar_20 (lv_at hl 0 rfl) ?_
  refine lv_bipush (v := 64) hx hb dX5_codeFar_22 (by decide) ?_
  refine lv_imul hx hb dX5_codeFar_24 (jx_nm fun z4 hz4 => ?_)
  refine lv_iadd hx hb dX5_codeFar_25 (jx_nm fun z5 hz5 => ?_)
  refine lv_bipush (v := 6) hx hb dX5_codeFar_26 (by decide) ?_
  refine lv_lload_n hx hb dX5_codeFar_28 rfl (lv_at hl 2 rfl) ?_
  refine lv_lconst (v := 1) hx hb dX5_codeFar_29 (by decide) ?_
  refine lv_lsub hx hb dX5_codeFar_30 (jx_nl fun z6 hz6 => ?_)
  refine jx_Si (As := [.long z6]) (rest := [.int 6, .int z5, .ref (ad 7)]) ⟨hx, hb, hml, hown, hts⟩ hZ hw hA (jx_X5_slotOf l hlt D t3 cI cJ ad g lg ar bk _ z6) (va_cwS 1 hts (jx_gS wwX_good wX_358 wX_359 wX_215 wX_360) rfl rfl rfl (by decide +kernel) ⟨Nat.le_of_ble_eq_true rfl, Nat.le_of_ble_eq_true rfl⟩) rfl hl.1 rfl (Nat.le_of_ble_eq_true rfl) dX5_codeFar_31 ⟨Nat.le_of_ble_eq_true rfl, Nat.le_of_ble_eq_true rfl⟩ (fun _ _ _ _ _ _ _ _ hp _ _ _ _ => hp.elim) (fun r11 g12 l13 a14 b15 H locs hp16 hw => ?_)
  obtain ⟨rfl, rfl, rfl, rfl⟩ := hp16
  refine jx_Vi (As := [.int z5, .int 6, .int r11]) (rest := []) ⟨hx, hb, hml, hown, hts⟩ hZ hw hA (jx_X2_tree l hlt D t3 cI cJ ad g lg ar bk _ z5 6 r11 (ob145 (((6 : Int32)).toInt) (by decide)) hi_a0rg) (cwV 3 hts (jx_gV wwX_good wX_361 wX_362 wX_363 wX_270 wX_364) rfl rfl rfl (by decide +kernel) ⟨Nat.le_of_ble_eq_true rfl, Nat.le_of_ble_eq_true rfl⟩) 7 (ci := 5) (T := TX2) (N := 9) rfl rfl rfl hl.1 rfl (Nat.le_of_ble_eq_true rfl) dX5_codeFar_34 ⟨Nat.le_of_ble_eq_true rfl, Nat.le_of_ble_eq_true rfl⟩ (fun u21 u22 u23 u24 H locs ce q hp hw h1 h2 h3 => by obtain ⟨ht0, ht1, ht2, rfl, ht4, ht5⟩ := hp; exact kt _ _ _ _ _ _ _ _ _ _ _ ⟨ht0, ht1, ht2, rfl, (ob109 ((g 18).toInt) ht4 (hE_rng (g 18))), (ob56 ((u21 14).toInt) ((g 14).toInt) ht5 (hE_rng (u21 14)) (hE_rng (g 14)))⟩ hw h1 h2 h3) (fun r25 g26 l27 a28 b29 H locs hp30 hw => ?_)
  obtain ⟨h31, h32, h33, rfl, h35, h36⟩ := hp30
  refine lv_istore (lv' := [(5, .int r25), (4, .int z3), (0, .ref (ad 9)), (1, .long y1), (3, .int y3)]) hx hb dX5_codeFar_37 hl (by decide) rfl (fun ls hl => ?_)
  refine lv_iload hx hb dX5_codeFar_39 (lv_at hl 0 rfl) ?_
  refine lv_iconst (v := 4) hx hb dX5_codeFar_41 (by decide) ?_
  refine lv_icmp_ge (tgt := 51) hx hb dX5_codeFar_42 (by decide) (fun cc37 => ?_) (fun cc37 => ?_)
  · refine lv_iload hx hb dX5_codeFar_51 (lv_at hl 0 rfl) ?_
    refine lv_iconst (v := 2) hx hb dX5_codeFar_53 (by decide) ?_
    refine lv_idiv hx hb dX5_codeFar_54 (by decide) (jx_nm fun z38 hz38 => ?_)
    refine lv_iconst (v := 1) hx hb dX5_codeFar_55 (by decide) ?_
    refine lv_isub hx hb dX5_codeFar_56 (jx_nm fun z39 hz39 => ?_)
    have xz39 : (z39).toInt = (z38).toInt - ((1 : Int32)).toInt := (hE_imp (hE_sub hz39) (ob147 ((z38).toInt) (((1 : Int32)).toInt) ((r25).toInt) (((4 : Int32)).toInt) ((hE_div 2 hz38 (by decide) (by decide)).1 (ob146 ((r25).toInt) (((4 : Int32)).toInt) h35 (hE_le cc37) (hE_rng (r25)) (by decide))) h35 (hE_le cc37) (hE_rng (z38)) (by decide) (hE_rng (r25)) (by decide)))
    refine lv_istore (lv' := [(6, .int z39), (5, .int r25), (4, .int z3), (0, .ref (ad 9)), (1, .long y1), (3, .int y3)]) hx hb dX5_codeFar_57 hl (by decide) rfl (fun ls hl => ?_)
    refine lv_ldc2 (v := 2) hx hb hown (hq _ wX_365) dX5_codeFar_59 ?_
    refine lv_iload hx hb dX5_codeFar_62 (lv_at hl 1 rfl) ?_
    refine lv_iconst (v := 1) hx hb dX5_codeFar_64 (by decide) ?_
    refine lv_iand hx hb dX5_codeFar_65 (jx_nm fun z40 hz40 => ?_)
    refine lv_i2l hx hb dX5_codeFar_66 rfl (jx_nl fun z41 hz41 => ?_)
    refine lv_ladd hx hb dX5_codeFar_67 (jx_nl fun z42 hz42 => ?_)
    have xz42 : (z42).toInt = ((2 : Int64)).toInt + (z41).toInt := (hE_impL (hE_addL hz42) (ob148 (((2 : Int64)).toInt) ((z41).toInt) ((z40).toInt) ((r25).toInt) (((4 : Int32)).toInt) ((z38).toInt) ((z39).toInt) (((1 : Int32)).toInt) (hE_i2l hz41) (hE_and 1 2 hz40 (by decide) (by decide) (by decide)) h35 (hE_le cc37) ((hE_div 2 hz38 (by decide) (by decide)).1 (ob146 ((r25).toInt) (((4 : Int32)).toInt) h35 (hE_le cc37) (hE_rng (r25)) (by decide))) xz39 (by decide) (hE_rngL (z41)) (hE_rng (z40)) (hE_rng (r25)) (by decide) (hE_rng (z38)) (hE_rng (z39)) (by decide)))
    refine lv_iload hx hb dX5_codeFar_68 (lv_at hl 0 rfl) ?_
    refine lv_lshl hx hb dX5_codeFar_70 rfl (jx_nl fun z43 hz43 => ?_)
    refine lv_lstore (lv' := [(7, .long z43), (6, .int z39), (5, .int r25), (4, .int z3), (0, .ref (ad 9)), (1, .long y1), (3, .int y3)]) hx hb dX5_codeFar_71 hl (by decide) rfl (fun ls hl => ?_)
    refine lv_lload_n hx hb dX5_codeFar_73 rfl (lv_at hl 5 rfl) ?_
    refine lv_lconst (v := 1) hx hb dX5_codeFar_74 (by decide) ?_
    refine lv_lsub hx hb dX5_codeFar_75 (jx_nl fun z44 hz44 => ?_)
    refine lv_lload hx hb dX5_codeFar_76 (lv_at hl 0 rfl) ?_
    refine lv_lsub hx hb dX5_codeFar_78 (jx_nl fun z45 hz45 => ?_)
    refine lv_lstore (lv' := [(9, .long z45), (7, .long z43), (6, .int z39), (5, .int r25), (4, .int z3), (0, .ref (ad 9)), (1, .long y1), (3, .int y3)]) hx hb dX5_codeFar_79 hl (by decide) rfl (fun ls hl => ?_)
    refine lv_iload hx hb dX5_codeFar_81 (lv_at hl 3 rfl) ?_
    refine lv_bipush (v := 14) hx hb dX5_codeFar_83 (by decide) ?_
    refine lv_icmp_ge (tgt := 118) hx hb dX5_codeFar_85 (by decide) (fun cc46 => ?_) (fun cc46 => ?_)
    · refine lv_aload_n hx hb dX5_codeFar_118 rfl (lv_at hl 5 rfl) ?_
      refine hk_get (ci := 8) (C := RX5) (T := TX5) (N := 6) (v := .ref (ad 7)) hx hb hts (fun _ h => List.mem_cons_of_mem _ (wwXc_wsX50 _ h)) hown hw 9 rfl rfl 0 (by decide) (hq _ wX_357) rfl dX5_codeFar_119 ?_
      refine lv_iload hx hb dX5_codeFar_122 (lv_at hl 2 rfl) ?_
      refine lv_iconst (v := 4) hx hb dX5_codeFar_124 (by decide) ?_
      refine lv_isub hx hb dX5_codeFar_125 (jx_nm fun z47 hz47 => ?_)
      have xz47 : (z47).toInt = (z39).toInt - ((4 : Int32)).toInt := (hE_imp (hE_sub hz47) (ob149 ((z39).toInt) (((4 : Int32)).toInt) ((r25).toInt) ((z38).toInt) (((1 : Int32)).toInt) ((z40).toInt) (((14 : Int32)).toInt) ((z41).toInt) ((z42).toInt) (((2 : Int64)).toInt) (hE_le cc37) xz39 h35 ((hE_div 2 hz38 (by decide) (by decide)).1 (ob146 ((r25).toInt) (((4 : Int32)).toInt) h35 (hE_le cc37) (hE_rng (r25)) (by decide))) (hE_and 1 2 hz40 (by decide) (by decide) (by decide)) (hE_le cc46) (hE_i2l hz41) xz42 (hE_rng (z39)) (by decide) (hE_rng (r25)) (hE_rng (z38)) (by decide) (hE_rng (z40)) (by decide) (hE_rngL (z41)) (hE_rngL (z42)) (by decide)))
      refine lv_lload hx hb dX5_codeFar_126 (lv_at hl 0 rfl) ?_
      refine lv_iconst (v := 4) hx hb dX5_codeFar_128 (by decide) ?_
      refine lv_lushr hx hb dX5_codeFar_129 rfl (jx_nl fun z48 hz48 => ?_)
      have e_g26_18 : g26 18 = (g 18) := (h31 18 rfl)
      refine jx_Vl (As := [.int z47, .long z48]) (rest := []) ⟨hx, hb, hml, hown, hts⟩ hZ hw hA (jx_X2_plain l hlt D t3 cI cJ ad g26 l27 a28 bk _ z47 z48 (hk_pE (P := hk_rg 0 255) hi_a0rg (h33 0 rfl))) (cwV 2 hts (jx_gV wwX_good wX_370 wX_371 wX_372 wX_270 wX_373) rfl rfl rfl (by decide +kernel) ⟨Nat.le_of_ble_eq_true rfl, Nat.le_of_ble_eq_true rfl⟩) 7 (ci := 5) (T := TX2) (N := 9) rfl rfl rfl hl.1 rfl (Nat.le_of_ble_eq_true rfl) dX5_codeFar_130 ⟨Nat.le_of_ble_eq_true rfl, Nat.le_of_ble_eq_true rfl⟩ (fun u49 u50 u51 u52 H locs ce q hp hw h1 h2 h3 => by obtain ⟨ht0, ht1, ht2, rfl, ht4, ht5⟩ := hp; exact kt _ _ _ _ _ _ _ _ _ _ _ ⟨(hk_frT h31 (by decide) ht0), (hk_frT h32 (by decide) ht1), (hk_frT h33 (by decide) ht2), rfl, (ob75 ((g 18).toInt) ((g26 14).toInt) ((g 14).toInt) ((g26 18).toInt) ((u49 14).toInt) h36 (congrArg Int32.toInt e_g26_18) ht4 ht5 (hE_rng (g 18)) (hE_rng (g26 14)) (hE_rng (g 14)) (hE_rng (g26 18)) (hE_rng (u49 14))), (ob76 ((u49 14).toInt) ((g 14).toInt) ((g 18).toInt) ((g26 14).toInt) ((g26 18).toInt) h36 ht5 (congrArg Int32.toInt e_g26_18) ht4 (hE_rng (u49 14)) (hE_rng (g 14)) (hE_rng (g 18)) (hE_rng (g26 14)) (hE_rng (g26 18)))⟩ hw h1 h2 h3) (fun r53 g54 l55 a56 b57 H locs hp58 hw => ?_)
      obtain ⟨h59, h60, h61, rfl, h63⟩ := hp58
      have e_g26_18 : g26 18 = (g 18) := (h31 18 rfl)
      have hr64 : hk_rg 0 255 (a56 0) := (hk_pE (P := hk_rg 0 255) (hk_pE (P := hk_rg 0 255) hi_a0rg (h33 0 rfl)) (h61 0 rfl))
      refine lv_iconst (v := 4) hx hb dX5_codeFar_133 (by decide) ?_
      refine lv_lshl hx hb dX5_codeFar_134 rfl (jx_nl fun z65 hz65 => ?_)
      refine lv_lstore (lv' := [(11, .long z65), (9, .long z45), (7, .long z43), (6, .int z39), (5, .int r25), (4, .int z3), (0, .ref (ad 9)), (1, .long y1), (3, .int y3)]) hx hb dX5_codeFar_135 hl (by decide) rfl (fun ls hl => ?_)
      refine lv_lload hx hb dX5_codeFar_137 (lv_at hl 2 rfl) ?_
      refine lv_lload hx hb dX5_codeFar_139 (lv_at hl 0 rfl) ?_
      refine lv_ladd hx hb dX5_codeFar_141 (jx_nl fun z66 hz66 => ?_)
      refine lv_aload_n hx hb dX5_codeFar_142 rfl (lv_at hl 6 rfl) ?_
      refine hk_get (ci := 8) (C := RX5) (T := TX5) (N := 6) (v := .ref (ad 7)) hx hb hts (fun _ h => List.mem_cons_of_mem _ (wwXc_wsX50 _ h)) hown hw 9 rfl rfl 0 (by decide) (hq _ wX_357) rfl dX5_codeFar_143 ?_
      refine lv_sipush (v := 1008) hx hb dX5_codeFar_146 (by decide) ?_
      refine lv_iconst (v := 4) hx hb dX5_codeFar_149 (by decide) ?_
      refine lv_lload hx hb dX5_codeFar_150 (lv_at hl 1 rfl) ?_
      refine lv_l2i hx hb dX5_codeFar_152 rfl (jx_nm fun z67 hz67 => ?_)
      refine lv_bipush (v := 15) hx hb dX5_codeFar_153 (by decide) ?_
      refine lv_iand hx hb dX5_codeFar_155 (jx_nm fun z68 hz68 => ?_)
      have e_g54_18 : g54 18 = (g 18) := ((h59 18 rfl)).trans e_g26_18
      refine jx_Vi (As := [.int 1008, .int 4, .int z68]) (rest := [.long z66]) ⟨hx, hb, hml, hown, hts⟩ hZ hw hA (jx_X2_turned l hlt D t3 cI cJ ad g54 l55 a56 bk _ 1008 4 z68 hr64) (cwV 3 hts (jx_gV wwX_good wX_366 wX_367 wX_368 wX_270 wX_369) rfl rfl rfl (by decide +kernel) ⟨Nat.le_of_ble_eq_true rfl, Nat.le_of_ble_eq_true rfl⟩) 7 (ci := 5) (T := TX2) (N := 9) rfl rfl rfl hl.1 rfl (Nat.le_of_ble_eq_true rfl) dX5_codeFar_156 ⟨Nat.le_of_ble_eq_true rfl, Nat.le_of_ble_eq_true rfl⟩ (fun u69 u70 u71 u72 H locs ce q hp hw h1 h2 h3 => by obtain ⟨ht0, ht1, ht2, rfl, ht4, ht5⟩ := hp; exact kt _ _ _ _ _ _ _ _ _ _ _ ⟨(hk_frT (hk_frT h31 (by decide) h59) (by decide) ht0), (hk_frT (hk_frT h32 (by decide) h60) (by decide) ht1), (hk_frT (hk_frT h33 (by decide) h61) (by decide) ht2), rfl, (ob110 ((g 18).toInt) ((g26 14).toInt) ((g 14).toInt) ((g26 18).toInt) ((g54 18).toInt) ((g54 14).toInt) ((u69 14).toInt) h36 (congrArg Int32.toInt e_g26_18) (congrArg Int32.toInt e_g26_18) (congrArg Int32.toInt e_g54_18) h63 ht4 ht5 (hE_rng (g 18)) (hE_rng (g26 14)) (hE_rng (g 14)) (hE_rng (g26 18)) (hE_rng (g54 18)) (hE_rng (g54 14)) (hE_rng (u69 14))), (ob111 ((u69 14).toInt) ((g 14).toInt) ((g 18).toInt) ((g26 14).toInt) ((g54 14).toInt) ((g26 18).toInt) ((g54 18).toInt) h36 ht5 (congrArg Int32.toInt e_g26_18) (congrArg Int32.toInt e_g26_18) h63 (congrArg Int32.toInt e_g54_18) ht4 (hE_rng (u69 14)) (hE_rng (g 14)) (hE_rng (g 18)) (hE_rng (g26 14)) (hE_rng (g54 14)) (hE_rng (g26 18)) (hE_rng (g54 18)))⟩ hw h1 h2 h3) (fun r73 g74 l75 a76 b77 H locs hp78 hw => ?_)
      obtain ⟨h79, h80, h81, rfl, h83⟩ := hp78
      have e_g54_18 : g54 18 = (g 18) := ((h59 18 rfl)).trans e_g26_18
      refine lv_i2l hx hb dX5_codeFar_159 rfl (jx_nl fun z84 hz84 => ?_)
      refine lv_ladd hx hb dX5_codeFar_160 (jx_nl fun z85 hz85 => ?_)
      refine lv_lconst (v := 1) hx hb dX5_codeFar_161 (by decide) ?_
      refine lv_ladd hx hb dX5_codeFar_162 (jx_nl fun z86 hz86 => ?_)
      exact kr z86 g74 l75 a76 bk _ _ _ _ ⟨(hk_frT (hk_frT h31 (by decide) h59) (by decide) h79), (hk_frT (hk_frT h32 (by decide) h60) (by decide) h80), (hk_frT (hk_frT h33 (by decide) h61) (by decide) h81), rfl, (ob137 ((g 18).toInt) ((g74 14).toInt) ((g 14).toInt) ((g26 14).toInt) ((g26 18).toInt) ((g54 18).toInt) ((g54 14).toInt) h36 (congrArg Int32.toInt e_g26_18) (congrArg Int32.toInt e_g26_18) (congrArg Int32.toInt e_g54_18) (congrArg Int32.toInt e_g54_18) h83 h63 (hE_rng (g 18)) (hE_rng (g74 14)) (hE_rng (g 14)) (hE_rng (g26 14)) (hE_rng (g26 18)) (hE_rng (g54 18)) (hE_rng (g54 14)))⟩ hw dX5_codeFar_163
    · refine lv_lload hx hb dX5_codeFar_88 (lv_at hl 1 rfl) ?_
      refine lv_aload_n hx hb dX5_codeFar_90 rfl (lv_at hl 5 rfl) ?_
      refine hk_get (ci := 8) (C := RX5) (T := TX5) (N := 6) (v := .ref (ad 7)) hx hb hts (fun _ h => List.mem_cons_of_mem _ (wwXc_wsX50 _ h)) hown hw 9 rfl rfl 0 (by decide) (hq _ wX_357) rfl dX5_codeFar_91 ?_
      refine lv_sipush (v := 688) hx hb dX5_codeFar_94 (by decide) ?_
      refine lv_iload hx hb dX5_codeFar_97 (lv_at hl 3 rfl) ?_
      refine lv_iconst (v := 4) hx hb dX5_codeFar_99 (by decide) ?_
      refine lv_isub hx hb dX5_codeFar_100 (jx_nm fun z87 hz87 => ?_)
      have xz87 : (z87).toInt = (r25).toInt - ((4 : Int32)).toInt := (hE_imp (hE_sub hz87) (ob150 ((r25).toInt) (((4 : Int32)).toInt) ((z38).toInt) ((z40).toInt) (((14 : Int32)).toInt) ((z39).toInt) (((1 : Int32)).toInt) ((z41).toInt) ((z42).toInt) (((2 : Int64)).toInt) h35 (hE_le cc37) ((hE_div 2 hz38 (by decide) (by decide)).1 (ob146 ((r25).toInt) (((4 : Int32)).toInt) h35 (hE_le cc37) (hE_rng (r25)) (by decide))) (hE_and 1 2 hz40 (by decide) (by decide) (by decide)) (hE_nle cc46) xz39 (hE_i2l hz41) xz42 (hE_rng (r25)) (by decide) (hE_rng (z38)) (hE_rng (z40)) (by decide) (hE_rng (z39)) (by decide) (hE_rngL (z41)) (hE_rngL (z42)) (by decide)))
      refine lv_bipush (v := 32) hx hb dX5_codeFar_101 (by decide) ?_
      refine lv_imul hx hb dX5_codeFar_103 (jx_nm fun z88 hz88 => ?_)
      have xz88 : (z88).toInt = (z87).toInt * 32 := (hE_imp (hE_mul 32 hz88 (by decide)) (ob151 ((z87).toInt) ((r25).toInt) (((4 : Int32)).toInt) ((z38).toInt) ((z40).toInt) (((14 : Int32)).toInt) ((z39).toInt) (((1 : Int32)).toInt) ((z41).toInt) ((z42).toInt) (((2 : Int64)).toInt) xz87 h35 (hE_le cc37) ((hE_div 2 hz38 (by decide) (by decide)).1 (ob146 ((r25).toInt) (((4 : Int32)).toInt) h35 (hE_le cc37) (hE_rng (r25)) (by decide))) (hE_and 1 2 hz40 (by decide) (by decide) (by decide)) (hE_nle cc46) xz39 (hE_i2l hz41) xz42 (hE_rng (z87)) (hE_rng (r25)) (by decide) (hE_rng (z38)) (hE_rng (z40)) (by decide) (hE_rng (z39)) (by decide) (hE_rngL (z41)) (hE_rngL (z42)) (by decide)))
      refine lv_iadd hx hb dX5_codeFar_104 (jx_nm fun z89 hz89 => ?_)
      have xz89 : (z89).toInt = ((688 : Int32)).toInt + (z88).toInt := (hE_imp (hE_add hz89) (ob152 (((688 : Int32)).toInt) ((z88).toInt) ((z87).toInt) ((r25).toInt) (((4 : Int32)).toInt) ((z38).toInt) ((z40).toInt) (((14 : Int32)).toInt) ((z39).toInt) (((1 : Int32)).toInt) ((z41).toInt) ((z42).toInt) (((2 : Int64)).toInt) xz88 xz87 h35 (hE_le cc37) ((hE_div 2 hz38 (by decide) (by decide)).1 (ob146 ((r25).toInt) (((4 : Int32)).toInt) h35 (hE_le cc37) (hE_rng (r25)) (by decide))) (hE_and 1 2 hz40 (by decide) (by decide) (by decide)) (hE_nle cc46) xz39 (hE_i2l hz41) xz42 (by decide) (hE_rng (z88)) (hE_rng (z87)) (hE_rng (r25)) (by decide) (hE_rng (z38)) (hE_rng (z40)) (by decide) (hE_rng (z39)) (by decide) (hE_rngL (z41)) (hE_rngL (z42)) (by decide)))
      refine lv_iload hx hb dX5_codeFar_105 (lv_at hl 2 rfl) ?_
      refine lv_lload hx hb dX5_codeFar_107 (lv_at hl 0 rfl) ?_
      refine lv_l2i hx hb dX5_codeFar_109 rfl (jx_nm fun z90 hz90 => ?_)
      have e_g26_18 : g26 18 = (g 18) := (h31 18 rfl)
      refine jx_Vi (As := [.int z89, .int z39, .int z90]) (rest := [.long z43]) ⟨hx, hb, hml, hown, hts⟩ hZ hw hA (jx_X2_turned l hlt D t3 cI cJ ad g26 l27 a28 bk _ z89 z39 z90 (hk_pE (P := hk_rg 0 255) hi_a0rg (h33 0 rfl))) (cwV 3 hts (jx_gV wwX_good wX_366 wX_367 wX_368 wX_270 wX_369) rfl rfl rfl (by decide +kernel) ⟨Nat.le_of_ble_eq_true rfl, Nat.le_of_ble_eq_true rfl⟩) 7 (ci := 5) (T := TX2) (N := 9) rfl rfl rfl hl.1 rfl (Nat.le_of_ble_eq_true rfl) dX5_codeFar_110 ⟨Nat.le_of_ble_eq_true rfl, Nat.le_of_ble_eq_true rfl⟩ (fun u91 u92 u93 u94 H locs ce q hp hw h1 h2 h3 => by obtain ⟨ht0, ht1, ht2, rfl, ht4, ht5⟩ := hp; exact kt _ _ _ _ _ _ _ _ _ _ _ ⟨(hk_frT h31 (by decide) ht0), (hk_frT h32 (by decide) ht1), (hk_frT h33 (by decide) ht2), rfl, (ob75 ((g 18).toInt) ((g26 14).toInt) ((g 14).toInt) ((g26 18).toInt) ((u91 14).toInt) h36 (congrArg Int32.toInt e_g26_18) ht4 ht5 (hE_rng (g 18)) (hE_rng (g26 14)) (hE_rng (g 14)) (hE_rng (g26 18)) (hE_rng (u91 14))), (ob76 ((u91 14).toInt) ((g 14).toInt) ((g 18).toInt) ((g26 14).toInt) ((g26 18).toInt) h36 ht5 (congrArg Int32.toInt e_g26_18) ht4 (hE_rng (u91 14)) (hE_rng (g 14)) (hE_rng (g 18)) (hE_rng (g26 14)) (hE_rng (g26 18)))⟩ hw h1 h2 h3) (fun r95 g96 l97 a98 b99 H locs hp100 hw => ?_)
      obtain ⟨h101, h102, h103, rfl, h105⟩ := hp100
      have e_g26_18 : g26 18 = (g 18) := (h31 18 rfl)
      have hr106 : hk_rg 0 255 (a98 0) := (hk_pE (P := hk_rg 0 255) (hk_pE (P := hk_rg 0 255) hi_a0rg (h33 0 rfl)) (h103 0 rfl))
      refine lv_i2l hx hb dX5_codeFar_113 rfl (jx_nl fun z107 hz107 => ?_)
      refine lv_ladd hx hb dX5_codeFar_114 (jx_nl fun z108 hz108 => ?_)
      refine lv_lconst (v := 1) hx hb dX5_codeFar_115 (by decide) ?_
      refine lv_ladd hx hb dX5_codeFar_116 (jx_nl fun z109 hz109 => ?_)
      exact kr z109 g96 l97 a98 bk _ _ _ _ ⟨(hk_frT h31 (by decide) h101), (hk_frT h32 (by decide) h102), (hk_frT h33 (by decide) h103), rfl, (ob79 ((g 18).toInt) ((g96 14).toInt) ((g 14).toInt) ((g26 14).toInt) ((g26 18).toInt) h36 (congrArg Int32.toInt e_g26_18) (congrArg Int32.toInt e_g26_18) h105 (hE_rng (g 18)) (hE_rng (g96 14)) (hE_rng (g 14)) (hE_rng (g26 14)) (hE_rng (g26 18)))⟩ hw dX5_codeFar_117
  · refine lv_iload hx hb dX5_codeFar_45 (lv_at hl 0 rfl) ?_
    refine lv_iconst (v := 1) hx hb dX5_codeFar_47 (by decide) ?_
    refine lv_iadd hx hb dX5_codeFar_48 (jx_nm fun z110 hz110 => ?_)
    have xz110 : (z110).toInt = (r25).toInt + ((1 : Int32)).toInt := (hE_imp (hE_add hz110) (ob153 ((r25).toInt) (((1 : Int32)).toInt) (((4 : Int32)).toInt) h35 (hE_nle cc37) (hE_rng (r25)) (by decide) (by decide)))
    refine lv_i2l hx hb dX5_codeFar_49 rfl (jx_nl fun z111 hz111 => ?_)
    exact kr z111 g26 l27 a28 bk _ _ _ _ ⟨h31, h32, h33, rfl, (ob72 ((g 18).toInt) ((g26 14).toInt) ((g 14).toInt) h36 (hE_rng (g 18)) (hE_rng (g26 14)) (hE_rng (g 14)))⟩ hw dX5_codeFar_50

set_option maxHeartbeats 4000000 in
set_option maxRecDepth 100000 in
/-- X5_bringToFront on (9,) -/
theorem jx_X5_bringToFront (l : Launch) (hlt : l.stackTraces = false) (D : va_G) (t3 : Nat × Nat × Nat) (cI cJ : ClassId) (ad : Nat → Nat) (g : Nat → Int32) (lg : Nat → Int64) (ar : Nat → Nat → Int32) (bk : Nat → Int64) (sz : Nat) (y1 : Int32) (y2 : Int64) : JMv l yX5_bringToFront (Cond.code yX5_bringToFront cX5_bringToFront 5 none :: wwX) { frames := 1, cells := 1, slots := 6, locals := 24 } t3 D xw cI cJ ad [.ref (ad 9), .int y1, .long y2] (xw cI cJ ad g lg ar bk) sz 1 6 (fun g' lg' ar' bk' => g = g' ∧ lg = lg' ∧ ar = ar' ∧ True) (fun g' lg' ar' bk' => False) := by
  refine jx_metv (cc := cX5_bringToFront) (maxL := 5) (ret := none) rfl (by decide) rfl (Nat.le_of_ble_eq_true rfl) ?_
  intro p e s m args below meth c ls Q A hx hb hml hown hts hA hZ hw hl hQ kr kt
  have hq : ∀ w ∈ wwX, w.before args s = true := fun w h => hts w (List.mem_cons_of_mem _ h)
  have hl : lv_has ls 5 [(0, .ref (ad 9)), (1, .int y1), (2, .long y2)] := hl
  refine lv_iload_n hx hb dX5_bringToFront_0 rfl (lv_at hl 1 rfl) ?_
  refine lv_iconst (v := 3) hx hb dX5_bringToFront_1 (by decide) ?_
  refine va_mmin hx hb (by rw [hml]; exact hl.1.symm) hown (hq _ wX_355) (hq _ wX_146) (hq _ wX_143) (hq _ wX_147) (Nat.le_of_ble_eq_true rfl) (Nat.le_of_ble_eq_true rfl) (Nat.le_of_ble_eq_true rfl) (Nat.le_of_ble_eq_true rfl) dX5_bringToFront_2 (jx_nm fun z1 hz1 => ?_)
  refine lv_istore (lv' := [(4, .int z1), (0, .ref (ad 9)), (1, .int y1), (2, .long y2)]) hx hb dX5_bringToFront_5 hl (by decide) rfl (fun ls hl => ?_)
  have B2 : ∀ (k5 : Nat) (x3 : Int32) (b4 : Nat → Int64) (ls : Array Slot) (H : Heap) (locs : List Loc), ((x3).toInt + 2147483649 ≤ (k5 : Int)) → ((x3).toInt ≤ 3) → hk_W D (jT cI cJ) A s H locs (xw cI cJ ad g lg ar b4) → lv_has ls 5 [(0, .ref (ad 9)), (2, .long y2), (4, .int x3)] → W p l e { frames := 1, cells := 1, slots := 6, locals := 24 } s m args below meth c H locs 0 0 Q (F0 m 7 ls []) := by
    intro k5
    induction k5 with
    | zero =>
      intro x3 b4 ls H locs hrk_B2 hf_B2_0 hw hl
      exact False.elim (hk_no0 (0 * (x3).toInt) (ob154 ((x3).toInt) hf_B2_0 hrk_B2 (hE_rng (x3))) (by simp))
    | succ k5 ih_B2 =>
      intro x3 b4 ls H locs hrk_B2 hf_B2_0 hw hl
      have hrk_B2 := hk_rk hrk_B2
      refine lv_iload hx hb dX5_bringToFront_7 (lv_at hl 2 rfl) ?_
      refine lv_if_le (tgt := 34) hx hb dX5_bringToFront_9 (by decide) (fun cc6 => ?_) (fun cc6 => ?_)
      · refine lv_aload_n hx hb dX5_bringToFront_34 rfl (lv_at hl 0 rfl) ?_
        refine hk_get (ci := 8) (C := RX5) (T := TX5) (N := 6) (v := .ref (ad 10)) hx hb hts (fun _ h => List.mem_cons_of_mem _ (wwXc_wsX50 _ h)) hown hw 9 rfl rfl 1 (by decide) (hq _ wX_354) rfl dX5_bringToFront_35 ?_
        refine lv_iconst (v := 0) hx hb dX5_bringToFront_38 (by decide) ?_
        refine lv_lload_n hx hb dX5_bringToFront_39 rfl (lv_at hl 1 rfl) ?_
        refine jx_last xw (g := g) (lg := lg) (ar := ar) (bk := b4) hx hb hw 10 1 rfl rfl (show ¬ (_ ∨ _) by decide) dX5_bringToFront_40 rfl (fun H locs b7 h_b7 hw => ?_)
        exact kr g lg ar b7 _ _ _ _ ⟨rfl, rfl, rfl, trivial⟩ hw dX5_bringToFront_41
      · refine lv_aload_n hx hb dX5_bringToFront_12 rfl (lv_at hl 0 rfl) ?_
        refine hk_get (ci := 8) (C := RX5) (T := TX5) (N := 6) (v := .ref (ad 10)) hx hb hts (fun _ h => List.mem_cons_of_mem _ (wwXc_wsX50 _ h)) hown hw 9 rfl rfl 1 (by decide) (hq _ wX_354) rfl dX5_bringToFront_13 ?_
        refine lv_iload hx hb dX5_bringToFront_16 (lv_at hl 2 rfl) ?_
        refine lv_aload_n hx hb dX5_bringToFront_18 rfl (lv_at hl 0 rfl) ?_
        refine hk_get (ci := 8) (C := RX5) (T := TX5) (N := 6) (v := .ref (ad 10)) hx hb hts (fun _ h => List.mem_cons_of_mem _ (wwXc_wsX50 _ h)) hown hw 9 rfl rfl 1 (by decide) (hq _ wX_354) rfl dX5_bringToFront_19 ?_
        refine lv_iload hx hb dX5_bringToFront_22 (lv_at hl 2 rfl) ?_
        refine lv_iconst (v := 1) hx hb dX5_bringToFront_24 (by decide) ?_
        refine lv_isub hx hb dX5_bringToFront_25 (jx_nm fun z8 hz8 => ?_)
        have xz8 : (z8).toInt = (x3).toInt - ((1 : Int32)).toInt := (hE_imp (hE_sub hz8) (ob155 ((x3).toInt) (((1 : Int32)).toInt) (k5 : Int) (((0 : Int32)).toInt) hf_B2_0 hrk_B2 (hE_nle cc6) (hE_rng (x3)) (by decide) (by decide)))
        refine jx_lald hx hb hw 10 1 rfl rfl (hE_in (n := 4) (ob156 ((z8).toInt) ((x3).toInt) (((1 : Int32)).toInt) (k5 : Int) (((0 : Int32)).toInt) xz8 hf_B2_0 hrk_B2 (hE_nle cc6) (hE_rng (z8)) (hE_rng (x3)) (by decide) (by decide))) dX5_bringToFront_26 (fun z9 hz9 => ?_)
        refine jx_last xw (g := g) (lg := lg) (ar := ar) (bk := b4) hx hb hw 10 1 rfl rfl (hE_in (n := 4) (ob157 ((x3).toInt) (k5 : Int) (((0 : Int32)).toInt) ((z8).toInt) (((1 : Int32)).toInt) hf_B2_0 hrk_B2 (hE_nle cc6) xz8 (hE_rng (x3)) (by decide) (hE_rng (z8)) (by decide))) dX5_bringToFront_27 rfl (fun H locs b10 h_b10 hw => ?_)
        obtain ⟨z11, hz11⟩ : ∃ z : Int32, x3 + (-1) = z := ⟨_, rfl⟩
        refine lv_iinc (v := z11) (lv' := [(4, .int z11), (0, .ref (ad 9)), (2, .long y2)]) hx hb dX5_bringToFront_28 hl (k := 2) rfl hz11 (by decide) rfl (fun ls hl => ?_)
        have xz11 : (z11).toInt = (x3).toInt + (((-1) : Int32)).toInt := (hE_imp (hE_add hz11) (ob158 ((x3).toInt) ((((-1) : Int32)).toInt) (k5 : Int) (((0 : Int32)).toInt) ((z8).toInt) (((1 : Int32)).toInt) hf_B2_0 hrk_B2 (hE_nle cc6) xz8 (hE_rng (x3)) (by decide) (by decide) (hE_rng (z8)) (by decide)))
        refine lv_goto (tgt := 7) hx hb dX5_bringToFront_31 (by decide) ?_
        exact ih_B2 z11 b10 ls _ _ (ob159 ((z11).toInt) (k5 : Int) ((x3).toInt) ((((-1) : Int32)).toInt) (((0 : Int32)).toInt) ((z8).toInt) (((1 : Int32)).toInt) hrk_B2 xz11 hf_B2_0 (hE_nle cc6) xz8 (hE_rng (z11)) (hE_rng (x3)) (by decide) (by decide) (hE_rng (z8)) (by decide)) (ob160 ((z11).toInt) ((x3).toInt) ((((-1) : Int32)).toInt) (k5 : Int) (((0 : Int32)).toInt) ((z8).toInt) (((1 : Int32)).toInt) xz11 hf_B2_0 hrk_B2 (hE_nle cc6) xz8 (hE_rng (z11)) (hE_rng (x3)) (by decide) (by decide) (hE_rng (z8)) (by decide)) hw (lv_sub hl [1, 2, 0] rfl)
  exact B2 ((z1).toInt + 2147483649).toNat z1 bk ls _ _ (Int.self_le_toNat _) (ob161 ((z1).toInt) ((y1).toInt) (((3 : Int32)).toInt) (hE_min hz1) (hE_rng (z1)) (hE_rng (y1)) (by decide)) hw (lv_sub hl [1, 3, 0] rfl)

set_option maxHeartbeats 4000000 in
set_option maxRecDepth 100000 in
/-- X5_follow on (9,) -/
theorem jx_X5_follow (l : Launch) (hlt : l.stackTraces = false) (D : va_G) (t3 : Nat × Nat × Nat) (cI cJ : ClassId) (ad : Nat → Nat) (g : Nat → Int32) (lg : Nat → Int64) (ar : Nat → Nat → Int32) (bk : Nat → Int64) (sz : Nat) (y1 : Int32) (y2 : Int64) : JMv l yX5_follow (Cond.code yX5_follow cX5_follow 4 none :: wwX) { frames := 2, cells := 1, slots := 6, locals := 48 } t3 D xw cI cJ ad [.ref (ad 9), .int y1, .long y2] (xw cI cJ ad g lg ar bk) sz 1 6 (fun g' lg' ar' bk' => hk_fr [24] g g' ∧ lg = lg' ∧ ar = ar' ∧ True) (fun g' lg' ar' bk' => False) := by
  refine jx_metv (cc := cX5_follow) (maxL := 4) (ret := none) rfl (by decide) rfl (Nat.le_of_ble_eq_true rfl) ?_
  intro p e s m args below meth c ls Q A hx hb hml hown hts hA hZ hw hl hQ kr kt
  have hq : ∀ w ∈ wwX, w.before args s = true := fun w h => hts w (List.mem_cons_of_mem _ h)
  have hl : lv_has ls 4 [(0, .ref (ad 9)), (1, .int y1), (2, .long y2)] := hl
  refine lv_iload_n hx hb dX5_follow_0 rfl (lv_at hl 1 rfl) ?_
  refine lv_if_ne (tgt := 48) hx hb dX5_follow_1 (by decide) (fun cc1 => ?_) (fun cc1 => ?_)
  · refine lv_iload_n hx hb dX5_follow_48 rfl (lv_at hl 1 rfl) ?_
    refine lv_bipush (v := 6) hx hb dX5_follow_49 (by decide) ?_
    refine lv_icmp_ne (tgt := 77) hx hb dX5_follow_51 (by decide) (fun cc2 => ?_) (fun cc2 => ?_)
    · refine lv_iload_n hx hb dX5_follow_77 rfl (lv_at hl 1 rfl) ?_
      refine lv_iconst (v := 1) hx hb dX5_follow_78 (by decide) ?_
      have B3 : ∀  (ls : Array Slot) (H : Heap) (locs : List Loc), hk_W D (jT cI cJ) A s H locs (xw cI cJ ad g lg ar bk) → lv_has ls 4 [(0, .ref (ad 9)), (2, .long y2)] → W p l e { frames := 2, cells := 1, slots := 6, locals := 48 } s m args below meth c H locs 0 0 Q (F0 m 88 ls []) := by
        intro ls H locs hw hl
        refine lv_aload_n hx hb dX5_follow_88 rfl (lv_at hl 0 rfl) ?_
        refine lv_iconst (v := 3) hx hb dX5_follow_89 (by decide) ?_
        refine lv_lload_n hx hb dX5_follow_90 rfl (lv_at hl 1 rfl) ?_
        refine jx_Vv (As := [.int 3, .long y2]) (rest := []) ⟨hx, hb, hml, hown, hts⟩ hZ hw hA (jx_X5_bringToFront l hlt D t3 cI cJ ad g lg ar bk _ 3 y2) (cwV 2 hts (jx_gV wwX_good wX_382 wX_383 wX_384 wX_215 wX_385) rfl rfl rfl (by decide +kernel) ⟨Nat.le_of_ble_eq_true rfl, Nat.le_of_ble_eq_true rfl⟩) 9 (ci := 8) (T := TX5) (N := 6) rfl rfl rfl hl.1 rfl (Nat.le_of_ble_eq_true rfl) dX5_follow_91 ⟨Nat.le_of_ble_eq_true rfl, Nat.le_of_ble_eq_true rfl⟩ (fun _ _ _ _ _ _ _ _ hp _ _ _ _ => hp.elim) (fun g9 l10 a11 b12 H locs hp13 hw => ?_)
        obtain ⟨rfl, rfl, rfl, -⟩ := hp13
        refine lv_aload_n hx hb dX5_follow_94 rfl (lv_at hl 0 rfl) ?_
        refine lv_aload_n hx hb dX5_follow_95 rfl (lv_at hl 0 rfl) ?_
        refine hk_get (ci := 8) (C := RX5) (T := TX5) (N := 6) (v := .int (g 24)) hx hb hts (fun _ h => List.mem_cons_of_mem _ (wwXc_wsX50 _ h)) hown hw 9 rfl rfl 5 (by decide) (hq _ wX_378) rfl dX5_follow_96 ?_
        refine lv_bipush (v := 7) hx hb dX5_follow_99 (by decide) ?_
        have B18 : ∀  (x19 : Int32) (ls : Array Slot) (H : Heap) (locs : List Loc), (7 ≤ (x19).toInt ∧ (x19).toInt ≤ 10) → hk_W D (jT cI cJ) A s H locs (xw cI cJ ad g lg ar b12) → lv_has ls 4 [] → W p l e { frames := 2, cells := 1, slots := 6, locals := 48 } s m args below meth c H locs 0 0 Q (F0 m 111 ls [.int x19, .ref (ad 9)]) := by
          intro x19 ls H locs hf_B18_0 hw hl
          refine jx_putg xw (g := g) (lg := lg) (ar := ar) (bk := b12) (x := x19) 24 (ci := 8) (C := RX5) (T := TX5) (N := 6) (ty := .int) hx hb hts (fun _ h => List.mem_cons_of_mem _ (wwXc_wsX50 _ h)) tyX5 tyX5_ok nmX5 hown hw 9 rfl rfl 5 (by decide) (hq _ wX_378) rfl (by decide +kernel) rfl rfl (Nat.le_of_ble_eq_true rfl) dX5_follow_111 rfl (fun H locs g20 h_g20 hw => ?_)
          refine lv_goto (tgt := 145) hx hb dX5_follow_114 (by decide) ?_
          exact kr g20 lg ar b12 _ _ _ _ ⟨(hk_frG hk_fr0 (by decide) h_g20), rfl, rfl, trivial⟩ hw dX5_follow_145
        refine lv_icmp_ge (tgt := 109) hx hb dX5_follow_101 (by decide) (fun cc21 => ?_) (fun cc21 => ?_)
        · refine lv_bipush (v := 10) hx hb dX5_follow_109 (by decide) ?_
          exact B18 10 ls _ _ (ob162 (((10 : Int32)).toInt) (by decide)) hw (lv_sub hl [] rfl)
        · refine lv_bipush (v := 7) hx hb dX5_follow_104 (by decide) ?_
          refine lv_goto (tgt := 111) hx hb dX5_follow_106 (by decide) ?_
          exact B18 7 ls _ _ (ob163 (((7 : Int32)).toInt) ((g 24).toInt) (hE_nle cc21) (by decide) (hE_rng (g 24))) hw (lv_sub hl [] rfl)
      refine lv_icmp_eq (tgt := 88) hx hb dX5_follow_79 (by decide) (fun cc22 => ?_) (fun cc22 => ?_)
      · exact B3 ls _ _ hw (lv_sub hl [0, 2] rfl)
      · refine lv_iload_n hx hb dX5_follow_82 rfl (lv_at hl 1 rfl) ?_
        refine lv_bipush (v := 7) hx hb dX5_follow_83 (by decide) ?_
        refine lv_icmp_ne (tgt := 117) hx hb dX5_follow_85 (by decide) (fun cc23 => ?_) (fun cc23 => ?_)
        · refine lv_aload_n hx hb dX5_follow_117 rfl (lv_at hl 0 rfl) ?_
          refine lv_iload_n hx hb dX5_follow_118 rfl (lv_at hl 1 rfl) ?_
          refine lv_iconst (v := 2) hx hb dX5_follow_119 (by decide) ?_
          refine lv_isub hx hb dX5_follow_120 (jx_nm fun z24 hz24 => ?_)
          refine lv_lload_n hx hb dX5_follow_121 rfl (lv_at hl 2 rfl) ?_
          refine jx_Vv (As := [.int z24, .long y2]) (rest := []) ⟨hx, hb, hml, hown, hts⟩ hZ hw hA (jx_X5_bringToFront l hlt D t3 cI cJ ad g lg ar bk _ z24 y2) (cwV 2 hts (jx_gV wwX_good wX_382 wX_383 wX_384 wX_215 wX_385) rfl rfl rfl (by decide +kernel) ⟨Nat.le_of_ble_eq_true rfl, Nat.le_of_ble_eq_true rfl⟩) 9 (ci := 8) (T := TX5) (N := 6) rfl rfl rfl hl.1 rfl (Nat.le_of_ble_eq_true rfl) dX5_follow_122 ⟨Nat.le_of_ble_eq_true rfl, Nat.le_of_ble_eq_true rfl⟩ (fun _ _ _ _ _ _ _ _ hp _ _ _ _ => hp.elim) (fun g30 l31 a32 b33 H locs hp34 hw => ?_)
          obtain ⟨rfl, rfl, rfl, -⟩ := hp34
          refine lv_aload_n hx hb dX5_follow_125 rfl (lv_at hl 0 rfl) ?_
          refine lv_aload_n hx hb dX5_follow_126 rfl (lv_at hl 0 rfl) ?_
          refine hk_get (ci := 8) (C := RX5) (T := TX5) (N := 6) (v := .int (g 24)) hx hb hts (fun _ h => List.mem_cons_of_mem _ (wwXc_wsX50 _ h)) hown hw 9 rfl rfl 5 (by decide) (hq _ wX_378) rfl dX5_follow_127 ?_
          refine lv_bipush (v := 7) hx hb dX5_follow_130 (by decide) ?_
          have B39 : ∀  (x40 : Int32) (ls : Array Slot) (H : Heap) (locs : List Loc), (8 ≤ (x40).toInt ∧ (x40).toInt ≤ 11) → hk_W D (jT cI cJ) A s H locs (xw cI cJ ad g lg ar b33) → lv_has ls 4 [] → W p l e { frames := 2, cells := 1, slots := 6, locals := 48 } s m args below meth c H locs 0 0 Q (F0 m 142 ls [.int x40, .ref (ad 9)]) := by
            intro x40 ls H locs hf_B39_0 hw hl
            refine jx_putg xw (g := g) (lg := lg) (ar := ar) (bk := b33) (x := x40) 24 (ci := 8) (C := RX5) (T := TX5) (N := 6) (ty := .int) hx hb hts (fun _ h => List.mem_cons_of_mem _ (wwXc_wsX50 _ h)) tyX5 tyX5_ok nmX5 hown hw 9 rfl rfl 5 (by decide) (hq _ wX_378) rfl (by decide +kernel) rfl rfl (Nat.le_of_ble_eq_true rfl) dX5_follow_142 rfl (fun H locs g41 h_g41 hw => ?_)
            exact kr g41 lg ar b33 _ _ _ _ ⟨(hk_frG hk_fr0 (by decide) h_g41), rfl, rfl, trivial⟩ hw dX5_follow_145
          refine lv_icmp_ge (tgt := 140) hx hb dX5_follow_132 (by decide) (fun cc42 => ?_) (fun cc42 => ?_)
          · refine lv_bipush (v := 11) hx hb dX5_follow_140 (by decide) ?_
            exact B39 11 ls _ _ (ob164 (((11 : Int32)).toInt) (by decide)) hw (lv_sub hl [] rfl)
          · refine lv_bipush (v := 8) hx hb dX5_follow_135 (by decide) ?_
            refine lv_goto (tgt := 142) hx hb dX5_follow_137 (by decide) ?_
            exact B39 8 ls _ _ (ob165 (((8 : Int32)).toInt) (by decide)) hw (lv_sub hl [] rfl)
        · exact B3 ls _ _ hw (lv_sub hl [0, 2] rfl)
    · refine lv_aload_n hx hb dX5_follow_54 rfl (lv_at hl 0 rfl) ?_
      refine lv_aload_n hx hb dX5_follow_55 rfl (lv_at hl 0 rfl) ?_
      refine hk_get (ci := 8) (C := RX5) (T := TX5) (N := 6) (v := .int (g 24)) hx hb hts (fun _ h => List.mem_cons_of_mem _ (wwXc_wsX50 _ h)) hown hw 9 rfl rfl 5 (by decide) (hq _ wX_378) rfl dX5_follow_56 ?_
      refine lv_bipush (v := 7) hx hb dX5_follow_59 (by decide) ?_
      have B43 : ∀  (x44 : Int32) (ls : Array Slot) (H : Heap) (locs : List Loc), (9 ≤ (x44).toInt ∧ (x44).toInt ≤ 11) → hk_W D (jT cI cJ) A s H locs (xw cI cJ ad g lg ar bk) → lv_has ls 4 [] → W p l e { frames := 2, cells := 1, slots := 6, locals := 48 } s m args below meth c H locs 0 0 Q (F0 m 71 ls [.int x44, .ref (ad 9)]) := by
        intro x44 ls H locs hf_B43_0 hw hl
        refine jx_putg xw (g := g) (lg := lg) (ar := ar) (bk := bk) (x := x44) 24 (ci := 8) (C := RX5) (T := TX5) (N := 6) (ty := .int) hx hb hts (fun _ h => List.mem_cons_of_mem _ (wwXc_wsX50 _ h)) tyX5 tyX5_ok nmX5 hown hw 9 rfl rfl 5 (by decide) (hq _ wX_378) rfl (by decide +kernel) rfl rfl (Nat.le_of_ble_eq_true rfl) dX5_follow_71 rfl (fun H locs g45 h_g45 hw => ?_)
        refine lv_goto (tgt := 145) hx hb dX5_follow_74 (by decide) ?_
        exact kr g45 lg ar bk _ _ _ _ ⟨(hk_frG hk_fr0 (by decide) h_g45), rfl, rfl, trivial⟩ hw dX5_follow_145
      refine lv_icmp_ge (tgt := 69) hx hb dX5_follow_61 (by decide) (fun cc46 => ?_) (fun cc46 => ?_)
      · refine lv_bipush (v := 11) hx hb dX5_follow_69 (by decide) ?_
        exact B43 11 ls _ _ (ob166 (((11 : Int32)).toInt) (by decide)) hw (lv_sub hl [] rfl)
      · refine lv_bipush (v := 9) hx hb dX5_follow_64 (by decide) ?_
        refine lv_goto (tgt := 71) hx hb dX5_follow_66 (by decide) ?_
        exact B43 9 ls _ _ (ob167 (((9 : Int32)).toInt) (by decide)) hw (lv_sub hl [] rfl)
  · refine lv_aload_n hx hb dX5_follow_4 rfl (lv_at hl 0 rfl) ?_
    refine lv_aload_n hx hb dX5_follow_5 rfl (lv_at hl 0 rfl) ?_
    refine hk_get (ci := 8) (C := RX5) (T := TX5) (N := 6) (v := .int (g 24)) hx hb hts (fun _ h => List.mem_cons_of_mem _ (wwXc_wsX50 _ h)) hown hw 9 rfl rfl 5 (by decide) (hq _ wX_378) rfl dX5_follow_6 ?_
    refine lv_iconst (v := 4) hx hb dX5_follow_9 (by decide) ?_
    have B47 : ∀  (x48 : Int32) (ls : Array Slot) (H : Heap) (locs : List Loc), hk_W D (jT cI cJ) A s H locs (xw cI cJ ad g lg ar bk) → lv_has ls 4 [] → W p l e { frames := 2, cells := 1, slots := 6, locals := 48 } s m args below meth c H locs 0 0 Q (F0 m 42 ls [.int x48, .ref (ad 9)]) := by
      intro x48 ls H locs hw hl
      refine jx_putg xw (g := g) (lg := lg) (ar := ar) (bk := bk) (x := x48) 24 (ci := 8) (C := RX5) (T := TX5) (N := 6) (ty := .int) hx hb hts (fun _ h => List.mem_cons_of_mem _ (wwXc_wsX50 _ h)) tyX5 tyX5_ok nmX5 hown hw 9 rfl rfl 5 (by decide) (hq _ wX_378) rfl (by decide +kernel) rfl rfl (Nat.le_of_ble_eq_true rfl) dX5_follow_42 rfl (fun H locs g49 h_g49 hw => ?_)
      refine lv_goto (tgt := 145) hx hb dX5_follow_45 (by decide) ?_
      exact kr g49 lg ar bk _ _ _ _ ⟨(hk_frG hk_fr0 (by decide) h_g49), rfl, rfl, trivial⟩ hw dX5_follow_145
    refine lv_icmp_ge (tgt := 17) hx hb dX5_follow_10 (by decide) (fun cc50 => ?_) (fun cc50 => ?_)
    · refine lv_aload_n hx hb dX5_follow_17 rfl (lv_at hl 0 rfl) ?_
      refine hk_get (ci := 8) (C := RX5) (T := TX5) (N := 6) (v := .int (g 24)) hx hb hts (fun _ h => List.mem_cons_of_mem _ (wwXc_wsX50 _ h)) hown hw 9 rfl rfl 5 (by decide) (hq _ wX_378) rfl dX5_follow_18 ?_
      refine lv_bipush (v := 10) hx hb dX5_follow_21 (by decide) ?_
      refine lv_icmp_ge (tgt := 35) hx hb dX5_follow_23 (by decide) (fun cc51 => ?_) (fun cc51 => ?_)
      · refine lv_aload_n hx hb dX5_follow_35 rfl (lv_at hl 0 rfl) ?_
        refine hk_get (ci := 8) (C := RX5) (T := TX5) (N := 6) (v := .int (g 24)) hx hb hts (fun _ h => List.mem_cons_of_mem _ (wwXc_wsX50 _ h)) hown hw 9 rfl rfl 5 (by decide) (hq _ wX_378) rfl dX5_follow_36 ?_
        refine lv_bipush (v := 6) hx hb dX5_follow_39 (by decide) ?_
        refine lv_isub hx hb dX5_follow_41 (jx_nm fun z52 hz52 => ?_)
        have xz52 : (z52).toInt = (g 24).toInt - ((6 : Int32)).toInt := (hE_imp (hE_sub hz52) (ob168 ((g 24).toInt) (((6 : Int32)).toInt) (((4 : Int32)).toInt) (((10 : Int32)).toInt) (hE_le cc50) (hE_le cc51) (hE_rng (g 24)) (by decide) (by decide) (by decide)))
        exact B47 z52 ls _ _ hw (lv_sub hl [] rfl)
      · refine lv_aload_n hx hb dX5_follow_26 rfl (lv_at hl 0 rfl) ?_
        refine hk_get (ci := 8) (C := RX5) (T := TX5) (N := 6) (v := .int (g 24)) hx hb hts (fun _ h => List.mem_cons_of_mem _ (wwXc_wsX50 _ h)) hown hw 9 rfl rfl 5 (by decide) (hq _ wX_378) rfl dX5_follow_27 ?_
        refine lv_iconst (v := 3) hx hb dX5_follow_30 (by decide) ?_
        refine lv_isub hx hb dX5_follow_31 (jx_nm fun z53 hz53 => ?_)
        have xz53 : (z53).toInt = (g 24).toInt - ((3 : Int32)).toInt := (hE_imp (hE_sub hz53) (ob169 ((g 24).toInt) (((3 : Int32)).toInt) (((4 : Int32)).toInt) (((10 : Int32)).toInt) (hE_le cc50) (hE_nle cc51) (hE_rng (g 24)) (by decide) (by decide) (by decide)))
        refine lv_goto (tgt := 42) hx hb dX5_follow_32 (by decide) ?_
        exact B47 z53 ls _ _ hw (lv_sub hl [] rfl)
    · refine lv_iconst (v := 0) hx hb dX5_follow_13 (by decide) ?_
      refine lv_goto (tgt := 42) hx hb dX5_follow_14 (by decide) ?_
      exact B47 0 ls _ _ hw (lv_sub hl [] rfl)
