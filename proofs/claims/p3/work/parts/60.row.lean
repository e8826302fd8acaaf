/-! 60.row -/
theorem ob0 (v0 : Int) (v1 : Int) (v2 : Int) (h0 : v1 ≤ v0) (h1 : v0 < v2) (h2 : -2147483648 ≤ v0 ∧ v0 ≤ 2147483647) (h3 : v1 = 0) (h4 : v2 = 1500) : 0 ≤ v0 ∧ v0 < (1500 : Nat) := by omega
theorem ob1 (v0 : Int) (v1 : Int) (h0 : v0 = v1 % 256) (h1 : -2147483648 ≤ v0 ∧ v0 ≤ 2147483647) (h2 : -2147483648 ≤ v1 ∧ v1 ≤ 2147483647) : 0 ≤ v0 ∧ v0 ≤ 255 := by omega
theorem ob2 (v0 : Int) (v1 : Int) (v2 : Int) (v3 : Int) (v4 : Int) (h0 : v2 = v1) (h1 : v3 = (v1 + v4 + 2147483648) % 4294967296 - 2147483648) (h2 : v0 = v3) (h3 : -2147483648 ≤ v0 ∧ v0 ≤ 2147483647) (h4 : -2147483648 ≤ v1 ∧ v1 ≤ 2147483647) (h5 : -2147483648 ≤ v2 ∧ v2 ≤ 2147483647) (h6 : -2147483648 ≤ v3 ∧ v3 ≤ 2147483647) (h7 : v4 = 1) : v0 = (v1 + 1 + 2147483648) % 4294967296 - 2147483648 := by omega
theorem ob3 (v0 : Int) (v1 : Int) (v2 : Int) (h0 : v1 ≤ v0) (h1 : v0 < v2) (h2 : -2147483648 ≤ v0 ∧ v0 ≤ 2147483647) (h3 : v1 = 0) (h4 : v2 = 3000) : 0 ≤ v0 ∧ v0 < (3000 : Nat) := by omega
theorem ob4 (v0 : Int) (v1 : Int) (v2 : Int) (h0 : v1 ≤ v0) (h1 : v0 < v2) (h2 : -2147483648 ≤ v0 ∧ v0 ≤ 2147483647) (h3 : v1 = 0) (h4 : v2 = 1024) : 0 ≤ v0 ∧ v0 < (1024 : Nat) := by omega
theorem ob5 (v0 : Int) (h0 : 0 ≤ v0) (h1 : 2147483648 - v0 ≤ 0) (h2 : -2147483648 ≤ v0 ∧ v0 ≤ 2147483647) : (0 * v0) ≤ -1 := by omega
theorem ob6 (v0 : Int) (h0 : 0 ≤ v0 ∧ v0 ≤ 1500) (h1 : -2147483648 ≤ v0 ∧ v0 ≤ 2147483647) : 0 ≤ v0 ∧ v0 ≤ 1500 := by omega
theorem ob7 (v0 : Int) (v1 : Int) (v2 : Int) (v3 : Int) (v4 : Int) (v5 : Int) (h0 : 2147483648 - v2 ≤ v1 + 1) (h1 : v0 = (v2 + v3 + 2147483648) % 4294967296 - 2147483648) (h2 : 0 ≤ v2) (h3 : v2 < v4) (h4 : v5 = (v2 * 8 + 2147483648) % 4294967296 - 2147483648) (h5 : -2147483648 ≤ v0 ∧ v0 ≤ 2147483647) (h6 : -2147483648 ≤ v2 ∧ v2 ≤ 2147483647) (h7 : v3 = 1) (h8 : -2147483648 ≤ v4 ∧ v4 ≤ 2147483647) (h9 : -2147483648 ≤ v5 ∧ v5 ≤ 2147483647) : 2147483648 - v0 ≤ v1 := by omega
theorem ob8 (v0 : Int) (v1 : Int) (v2 : Int) (v3 : Int) (v4 : Int) (v5 : Int) (h0 : v0 = (v1 + v2 + 2147483648) % 4294967296 - 2147483648) (h1 : 0 ≤ v1) (h2 : 2147483648 - v1 ≤ v3 + 1) (h3 : v1 < v4) (h4 : v5 = (v1 * 8 + 2147483648) % 4294967296 - 2147483648) (h5 : -2147483648 ≤ v0 ∧ v0 ≤ 2147483647) (h6 : -2147483648 ≤ v1 ∧ v1 ≤ 2147483647) (h7 : v2 = 1) (h8 : -2147483648 ≤ v4 ∧ v4 ≤ 2147483647) (h9 : -2147483648 ≤ v5 ∧ v5 ≤ 2147483647) : 0 ≤ v0 := by omega
theorem ob9 (v0 : Int) (v1 : Int) (h0 : v0 = (v1 + 1 + 2147483648) % 4294967296 - 2147483648) (h1 : 0 ≤ v1 ∧ v1 ≤ 1500) (h2 : -2147483648 ≤ v0 ∧ v0 ≤ 2147483647) (h3 : -2147483648 ≤ v1 ∧ v1 ≤ 2147483647) : 0 ≤ v0 ∧ v0 ≤ 1500 := by omega
theorem ob10 (v0 : Int) (h0 : v0 = 0) : 0 ≤ v0 := by omega
theorem ob11 (v0 : Int) (v1 : Int) (v2 : Int) (v3 : Int) (v4 : Int) (v5 : Int) (h0 : -1 ≤ v0 ∧ v0 < v1) (h1 : v2 = (v3 + v1 - 1 - v0 + 2147483648) % 4294967296 - 2147483648) (h2 : v0 + 2147483649 ≤ 0) (h3 : 0 ≤ v1 ∧ v1 ≤ 8) (h4 : v4 = (v1 - v5 + 2147483648) % 4294967296 - 2147483648) (h5 : -2147483648 ≤ v0 ∧ v0 ≤ 2147483647) (h6 : -2147483648 ≤ v1 ∧ v1 ≤ 2147483647) (h7 : -2147483648 ≤ v2 ∧ v2 ≤ 2147483647) (h8 : -2147483648 ≤ v3 ∧ v3 ≤ 2147483647) (h9 : -2147483648 ≤ v4 ∧ v4 ≤ 2147483647) (h10 : v5 = 1) : (0 * v0) ≤ -1 := by omega
theorem ob12 (v0 : Int) (v1 : Int) (v2 : Int) (v3 : Int) (v4 : Int) (v5 : Int) (v6 : Int) (v7 : Int) (h0 : 0 ≤ v2 ∧ v2 ≤ 8) (h1 : v3 = (v2 - v4 + 2147483648) % 4294967296 - 2147483648) (h2 : -1 ≤ v5 ∧ v5 < v2) (h3 : v0 = (v1 + v2 - 1 - v5 + 2147483648) % 4294967296 - 2147483648) (h4 : v5 + 2147483649 ≤ v6 + 1) (h5 : v5 < v7) (h6 : -2147483648 ≤ v0 ∧ v0 ≤ 2147483647) (h7 : -2147483648 ≤ v1 ∧ v1 ≤ 2147483647) (h8 : -2147483648 ≤ v2 ∧ v2 ≤ 2147483647) (h9 : -2147483648 ≤ v3 ∧ v3 ≤ 2147483647) (h10 : v4 = 1) (h11 : -2147483648 ≤ v5 ∧ v5 ≤ 2147483647) (h12 : v7 = 0) : v0 = (v1 + v2 + 2147483648) % 4294967296 - 2147483648 := by omega
theorem ob13 (v0 : Int) (v1 : Int) (v2 : Int) (v3 : Int) (v4 : Int) (v5 : Int) (v6 : Int) (v7 : Int) (v8 : Int) (v9 : Int) (v10 : Int) (v11 : Int) (h0 : v2 + 2147483649 ≤ v1 + 1) (h1 : v0 = (v2 + v3 + 2147483648) % 4294967296 - 2147483648) (h2 : -1 ≤ v2 ∧ v2 < v4) (h3 : v5 = (v6 + v4 - 1 - v2 + 2147483648) % 4294967296 - 2147483648) (h4 : v7 ≤ v2) (h5 : v8 = (v2 * 8 + 2147483648) % 4294967296 - 2147483648) (h6 : 0 ≤ v4 ∧ v4 ≤ 8) (h7 : v9 = (v4 - v10 + 2147483648) % 4294967296 - 2147483648) (h8 : v11 = (v5 + 1 + 2147483648) % 4294967296 - 2147483648) (h9 : -2147483648 ≤ v0 ∧ v0 ≤ 2147483647) (h10 : -2147483648 ≤ v2 ∧ v2 ≤ 2147483647) (h11 : v3 = (-1)) (h12 : -2147483648 ≤ v4 ∧ v4 ≤ 2147483647) (h13 : -2147483648 ≤ v5 ∧ v5 ≤ 2147483647) (h14 : -2147483648 ≤ v6 ∧ v6 ≤ 2147483647) (h15 : v7 = 0) (h16 : -2147483648 ≤ v8 ∧ v8 ≤ 2147483647) (h17 : -2147483648 ≤ v9 ∧ v9 ≤ 2147483647) (h18 : v10 = 1) (h19 : -2147483648 ≤ v11 ∧ v11 ≤ 2147483647) : v0 + 2147483649 ≤ v1 := by omega
theorem ob14 (v0 : Int) (v1 : Int) (v2 : Int) (v3 : Int) (v4 : Int) (v5 : Int) (v6 : Int) (v7 : Int) (v8 : Int) (v9 : Int) (v10 : Int) (v11 : Int) (h0 : 0 ≤ v1 ∧ v1 ≤ 8) (h1 : v2 = (v1 - v3 + 2147483648) % 4294967296 - 2147483648) (h2 : -1 ≤ v4 ∧ v4 < v1) (h3 : v5 = (v6 + v1 - 1 - v4 + 2147483648) % 4294967296 - 2147483648) (h4 : v0 = (v4 + v7 + 2147483648) % 4294967296 - 2147483648) (h5 : v4 + 2147483649 ≤ v8 + 1) (h6 : v9 ≤ v4) (h7 : v10 = (v4 * 8 + 2147483648) % 4294967296 - 2147483648) (h8 : v11 = (v5 + 1 + 2147483648) % 4294967296 - 2147483648) (h9 : -2147483648 ≤ v0 ∧ v0 ≤ 2147483647) (h10 : -2147483648 ≤ v1 ∧ v1 ≤ 2147483647) (h11 : -2147483648 ≤ v2 ∧ v2 ≤ 2147483647) (h12 : v3 = 1) (h13 : -2147483648 ≤ v4 ∧ v4 ≤ 2147483647) (h14 : -2147483648 ≤ v5 ∧ v5 ≤ 2147483647) (h15 : -2147483648 ≤ v6 ∧ v6 ≤ 2147483647) (h16 : v7 = (-1)) (h17 : v9 = 0) (h18 : -2147483648 ≤ v10 ∧ v10 ≤ 2147483647) (h19 : -2147483648 ≤ v11 ∧ v11 ≤ 2147483647) : -1 ≤ v0 ∧ v0 < v1 := by omega
theorem ob15 (v0 : Int) (v1 : Int) (v2 : Int) (v3 : Int) (v4 : Int) (v5 : Int) (v6 : Int) (v7 : Int) (v8 : Int) (v9 : Int) (v10 : Int) (v11 : Int) (h0 : 0 ≤ v2 ∧ v2 ≤ 8) (h1 : v4 = (v2 - v5 + 2147483648) % 4294967296 - 2147483648) (h2 : -1 ≤ v6 ∧ v6 < v2) (h3 : v7 = (v1 + v2 - 1 - v6 + 2147483648) % 4294967296 - 2147483648) (h4 : v0 = (v7 + 1 + 2147483648) % 4294967296 - 2147483648) (h5 : v3 = (v6 + v8 + 2147483648) % 4294967296 - 2147483648) (h6 : v6 + 2147483649 ≤ v9 + 1) (h7 : v10 ≤ v6) (h8 : v11 = (v6 * 8 + 2147483648) % 4294967296 - 2147483648) (h9 : -2147483648 ≤ v0 ∧ v0 ≤ 2147483647) (h10 : -2147483648 ≤ v1 ∧ v1 ≤ 2147483647) (h11 : -2147483648 ≤ v2 ∧ v2 ≤ 2147483647) (h12 : -2147483648 ≤ v3 ∧ v3 ≤ 2147483647) (h13 : -2147483648 ≤ v4 ∧ v4 ≤ 2147483647) (h14 : v5 = 1) (h15 : -2147483648 ≤ v6 ∧ v6 ≤ 2147483647) (h16 : -2147483648 ≤ v7 ∧ v7 ≤ 2147483647) (h17 : v8 = (-1)) (h18 : v10 = 0) (h19 : -2147483648 ≤ v11 ∧ v11 ≤ 2147483647) : v0 = (v1 + v2 - 1 - v3 + 2147483648) % 4294967296 - 2147483648 := by omega
theorem ob16 (v0 : Int) (v1 : Int) (v2 : Int) (h0 : 0 ≤ v1 ∧ v1 ≤ 8) (h1 : v0 = (v1 - v2 + 2147483648) % 4294967296 - 2147483648) (h2 : -2147483648 ≤ v0 ∧ v0 ≤ 2147483647) (h3 : -2147483648 ≤ v1 ∧ v1 ≤ 2147483647) (h4 : v2 = 1) : -1 ≤ v0 ∧ v0 < v1 := by omega
theorem ob17 (v0 : Int) (v1 : Int) (v2 : Int) (v3 : Int) (h0 : 0 ≤ v1 ∧ v1 ≤ 8) (h1 : v2 = (v1 - v3 + 2147483648) % 4294967296 - 2147483648) (h2 : -2147483648 ≤ v0 ∧ v0 ≤ 2147483647) (h3 : -2147483648 ≤ v1 ∧ v1 ≤ 2147483647) (h4 : -2147483648 ≤ v2 ∧ v2 ≤ 2147483647) (h5 : v3 = 1) : v0 = (v0 + v1 - 1 - v2 + 2147483648) % 4294967296 - 2147483648 := by omega
theorem ob18 (v0 : Int) (v1 : Int) (v2 : Int) (v3 : Int) (v4 : Int) (h0 : 2147483648 - v2 ≤ v1 + 1) (h1 : v0 = (v2 + v3 + 2147483648) % 4294967296 - 2147483648) (h2 : 0 ≤ v2) (h3 : v2 < v4) (h4 : -2147483648 ≤ v0 ∧ v0 ≤ 2147483647) (h5 : -2147483648 ≤ v2 ∧ v2 ≤ 2147483647) (h6 : v3 = 1) (h7 : v4 = 4) : 2147483648 - v0 ≤ v1 := by omega
theorem ob19 (v0 : Int) (v1 : Int) (v2 : Int) (v3 : Int) (v4 : Int) (h0 : v0 = (v1 + v2 + 2147483648) % 4294967296 - 2147483648) (h1 : 0 ≤ v1) (h2 : 2147483648 - v1 ≤ v3 + 1) (h3 : v1 < v4) (h4 : -2147483648 ≤ v0 ∧ v0 ≤ 2147483647) (h5 : -2147483648 ≤ v1 ∧ v1 ≤ 2147483647) (h6 : v2 = 1) (h7 : v4 = 4) : 0 ≤ v0 := by omega
theorem ob20 (v0 : Int) (v1 : Int) (v2 : Int) (v3 : Int) (v4 : Int) (h0 : 0 ≤ v0 ∧ v0 ≤ 1500) (h1 : v1 = (v0 - v2 + 2147483648) % 4294967296 - 2147483648) (h2 : v3 = v1 % 4) (h3 : v3 = v4) (h4 : -2147483648 ≤ v0 ∧ v0 ≤ 2147483647) (h5 : -2147483648 ≤ v1 ∧ v1 ≤ 2147483647) (h6 : -2147483648 ≤ v2 ∧ v2 ≤ 2147483647) (h7 : -2147483648 ≤ v3 ∧ v3 ≤ 2147483647) (h8 : v4 = 0) : 0 ≤ v0 ∧ v0 ≤ 1500 := by omega
theorem ob21 (v0 : Int) (v1 : Int) (v2 : Int) (v3 : Int) (v4 : Int) (h0 : 2147483648 - v2 ≤ v1 + 1) (h1 : v0 = (v2 + v3 + 2147483648) % 4294967296 - 2147483648) (h2 : 0 ≤ v2) (h3 : v2 < v4) (h4 : -2147483648 ≤ v0 ∧ v0 ≤ 2147483647) (h5 : -2147483648 ≤ v2 ∧ v2 ≤ 2147483647) (h6 : v3 = 1) (h7 : v4 = 3) : 2147483648 - v0 ≤ v1 := by omega
theorem ob22 (v0 : Int) (v1 : Int) (v2 : Int) (v3 : Int) (v4 : Int) (h0 : v0 = (v1 + v2 + 2147483648) % 4294967296 - 2147483648) (h1 : 0 ≤ v1) (h2 : 2147483648 - v1 ≤ v3 + 1) (h3 : v1 < v4) (h4 : -2147483648 ≤ v0 ∧ v0 ≤ 2147483647) (h5 : -2147483648 ≤ v1 ∧ v1 ≤ 2147483647) (h6 : v2 = 1) (h7 : v4 = 3) : 0 ≤ v0 := by omega
theorem ob23 (v0 : Int) (v1 : Int) (v2 : Int) (v3 : Int) (v4 : Int) (v5 : Int) (h0 : v0 = (v1 + 1 + 2147483648) % 4294967296 - 2147483648) (h1 : 0 ≤ v1 ∧ v1 ≤ 1500) (h2 : v2 = (v1 - v3 + 2147483648) % 4294967296 - 2147483648) (h3 : v4 = v2 % 4) (h4 : v4 ≠ v5) (h5 : -2147483648 ≤ v0 ∧ v0 ≤ 2147483647) (h6 : -2147483648 ≤ v1 ∧ v1 ≤ 2147483647) (h7 : -2147483648 ≤ v2 ∧ v2 ≤ 2147483647) (h8 : -2147483648 ≤ v3 ∧ v3 ≤ 2147483647) (h9 : -2147483648 ≤ v4 ∧ v4 ≤ 2147483647) (h10 : v5 = 0) : 0 ≤ v0 ∧ v0 ≤ 1500 := by omega
theorem ob24 (v0 : Int) (v1 : Int) (v2 : Int) (v3 : Int) (v4 : Int) (v5 : Int) (v6 : Int) (v7 : Int) (v8 : Int) (v9 : Int) (v10 : Int) (h0 : 2147483648 - v2 ≤ v1 + 1) (h1 : v0 = (v2 + v3 + 2147483648) % 4294967296 - 2147483648) (h2 : 0 ≤ v2) (h3 : v2 < v4) (h4 : v4 = (v5 - v6 + 2147483648) % 4294967296 - 2147483648) (h5 : v5 = (v7 - v8 + 2147483648) % 4294967296 - 2147483648) (h6 : v9 = (v10 - v6 + 2147483648) % 4294967296 - 2147483648) (h7 : -2147483648 ≤ v0 ∧ v0 ≤ 2147483647) (h8 : -2147483648 ≤ v2 ∧ v2 ≤ 2147483647) (h9 : v3 = 1) (h10 : -2147483648 ≤ v4 ∧ v4 ≤ 2147483647) (h11 : -2147483648 ≤ v5 ∧ v5 ≤ 2147483647) (h12 : -2147483648 ≤ v6 ∧ v6 ≤ 2147483647) (h13 : -2147483648 ≤ v7 ∧ v7 ≤ 2147483647) (h14 : -2147483648 ≤ v8 ∧ v8 ≤ 2147483647) (h15 : -2147483648 ≤ v9 ∧ v9 ≤ 2147483647) (h16 : -2147483648 ≤ v10 ∧ v10 ≤ 2147483647) : 2147483648 - v0 ≤ v1 := by omega
theorem ob25 (v0 : Int) (v1 : Int) (v2 : Int) (v3 : Int) (v4 : Int) (v5 : Int) (v6 : Int) (v7 : Int) (v8 : Int) (v9 : Int) (v10 : Int) (h0 : v0 = (v1 + v2 + 2147483648) % 4294967296 - 2147483648) (h1 : 0 ≤ v1) (h2 : 2147483648 - v1 ≤ v3 + 1) (h3 : v1 < v4) (h4 : v4 = (v5 - v6 + 2147483648) % 4294967296 - 2147483648) (h5 : v5 = (v7 - v8 + 2147483648) % 4294967296 - 2147483648) (h6 : v9 = (v10 - v6 + 2147483648) % 4294967296 - 2147483648) (h7 : -2147483648 ≤ v0 ∧ v0 ≤ 2147483647) (h8 : -2147483648 ≤ v1 ∧ v1 ≤ 2147483647) (h9 : v2 = 1) (h10 : -2147483648 ≤ v4 ∧ v4 ≤ 2147483647) (h11 : -2147483648 ≤ v5 ∧ v5 ≤ 2147483647) (h12 : -2147483648 ≤ v6 ∧ v6 ≤ 2147483647) (h13 : -2147483648 ≤ v7 ∧ v7 ≤ 2147483647) (h14 : -2147483648 ≤ v8 ∧ v8 ≤ 2147483647) (h15 : -2147483648 ≤ v9 ∧ v9 ≤ 2147483647) (h16 : -2147483648 ≤ v10 ∧ v10 ≤ 2147483647) : 0 ≤ v0 := by omega
theorem ob26 (v0 : Int) (h0 : -1000000000 ≤ v0 ∧ v0 ≤ 1000000010) (h1 : 2147483648 - v0 ≤ 0) (h2 : -2147483648 ≤ v0 ∧ v0 ≤ 2147483647) : (0 * v0) ≤ -1 := by omega
theorem ob27 (v0 : Int) (v1 : Int) (v2 : Int) (v3 : Int) (v4 : Int) (v5 : Int) (v6 : Int) (v7 : Int) (h0 : 2147483648 - v2 ≤ v1 + 1) (h1 : v0 = (v2 + v3 + 2147483648) % 4294967296 - 2147483648) (h2 : -1000000000 ≤ v2 ∧ v2 ≤ 1000000010) (h3 : v4 = (v2 + v5 + 2147483648) % 4294967296 - 2147483648) (h4 : v6 = (v2 + v5 + 2147483648) % 4294967296 - 2147483648) (h5 : v4 < v7) (h6 : v7 ≤ 1000000000) (h7 : -2147483648 ≤ v0 ∧ v0 ≤ 2147483647) (h8 : -2147483648 ≤ v2 ∧ v2 ≤ 2147483647) (h9 : v3 = 4) (h10 : -2147483648 ≤ v4 ∧ v4 ≤ 2147483647) (h11 : v5 = 3) (h12 : -2147483648 ≤ v6 ∧ v6 ≤ 2147483647) (h13 : -2147483648 ≤ v7 ∧ v7 ≤ 2147483647) : 2147483648 - v0 ≤ v1 := by omega
theorem ob28 (v0 : Int) (v1 : Int) (v2 : Int) (v3 : Int) (v4 : Int) (v5 : Int) (v6 : Int) (v7 : Int) (h0 : v0 = (v1 + v2 + 2147483648) % 4294967296 - 2147483648) (h1 : -1000000000 ≤ v1 ∧ v1 ≤ 1000000010) (h2 : 2147483648 - v1 ≤ v3 + 1) (h3 : v4 = (v1 + v5 + 2147483648) % 4294967296 - 2147483648) (h4 : v6 = (v1 + v5 + 2147483648) % 4294967296 - 2147483648) (h5 : v4 < v7) (h6 : v7 ≤ 1000000000) (h7 : -2147483648 ≤ v0 ∧ v0 ≤ 2147483647) (h8 : -2147483648 ≤ v1 ∧ v1 ≤ 2147483647) (h9 : v2 = 4) (h10 : -2147483648 ≤ v4 ∧ v4 ≤ 2147483647) (h11 : v5 = 3) (h12 : -2147483648 ≤ v6 ∧ v6 ≤ 2147483647) (h13 : -2147483648 ≤ v7 ∧ v7 ≤ 2147483647) : -1000000000 ≤ v0 ∧ v0 ≤ 1000000010 := by omega
theorem ob29 (v0 : Int) (h0 : -1000000000 ≤ v0 ∧ v0 ≤ 1000000000) (h1 : -2147483648 ≤ v0 ∧ v0 ≤ 2147483647) : -1000000000 ≤ v0 ∧ v0 ≤ 1000000010 := by omega
set_option maxHeartbeats 4000000 in
set_option maxRecDepth 100000 in
/-- X9_set on (2,) -/
theorem jx_X9_set_2 (l : Launch) (hlt : l.stackTraces = false) (D : va_G) (t3 : Nat × Nat × Nat) (cI cJ : ClassId) (ad : Nat → Nat) (g : Nat → Int32) (lg : Nat → Int64) (ar : Nat → Nat → Int32) (bk : Nat → Int64) (sz : Nat) (y1 : Int32) (y2 : Int32) (hi_a0rg : hk_rg 0 255 (ar 0)) : JMv l yX9_set (Cond.code yX9_set cX9_set 3 none :: wwX) { frames := 0, cells := 1, slots := 6, locals := 0 } t3 D xw cI cJ ad [.ref (ad 2), .int y1, .int y2] (xw cI cJ ad g lg ar bk) sz 1 6 (fun g' lg' ar' bk' => hk_fr [] g g' ∧ hk_fr [] lg lg' ∧ hk_fr [0] ar ar' ∧ hk_rg 0 255 (ar' 0)) (fun g' lg' ar' bk' => False) := by
  refine jx_metv (cc := cX9_set) (maxL := 3) (ret := none) rfl (by decide) rfl (Nat.le_of_ble_eq_true rfl) ?_
  intro p e s m args below meth c ls Q A hx hb hml hown hts hA hZ hw hl hQ kr kt
  have hq : ∀ w ∈ wwX, w.before args s = true := fun w h => hts w (List.mem_cons_of_mem _ h)
  have hl : lv_has ls 3 [(0, .ref (ad 2)), (1, .int y1), (2, .int y2)] := hl
  refine lv_iload_n hx hb dX9_set_0 rfl (lv_at hl 1 rfl) ?_
  refine lv_if_lt (tgt := 24) hx hb dX9_set_1 (by decide) (fun cc1 => ?_) (fun cc1 => ?_)
  · exact kr g lg ar bk _ _ _ _ ⟨hk_fr0, hk_fr0, hk_fr0, hi_a0rg⟩ hw dX9_set_24
  · refine lv_iload_n hx hb dX9_set_4 rfl (lv_at hl 1 rfl) ?_
    refine lv_aload_n hx hb dX9_set_5 rfl (lv_at hl 0 rfl) ?_
    refine hk_get (ci := 12) (C := RX9) (T := TX9) (N := 2) (v := .ref (ad 3)) hx hb hts (fun _ h => List.mem_cons_of_mem _ (wwXc_wsX90 _ h)) hown hw 2 rfl rfl 0 (by decide) (hq _ wX_699) rfl dX9_set_6 ?_
    refine hk_alen (v := 1500) hx hb hw 3 0 rfl rfl rfl dX9_set_9 ?_
    refine lv_icmp_ge (tgt := 24) hx hb dX9_set_10 (by decide) (fun cc2 => ?_) (fun cc2 => ?_)
    · exact kr g lg ar bk _ _ _ _ ⟨hk_fr0, hk_fr0, hk_fr0, hi_a0rg⟩ hw dX9_set_24
    · refine lv_aload_n hx hb dX9_set_13 rfl (lv_at hl 0 rfl) ?_
      refine hk_get (ci := 12) (C := RX9) (T := TX9) (N := 2) (v := .ref (ad 3)) hx hb hts (fun _ h => List.mem_cons_of_mem _ (wwXc_wsX90 _ h)) hown hw 2 rfl rfl 0 (by decide) (hq _ wX_699) rfl dX9_set_14 ?_
      refine lv_iload_n hx hb dX9_set_17 rfl (lv_at hl 1 rfl) ?_
      refine lv_iload_n hx hb dX9_set_18 rfl (lv_at hl 2 rfl) ?_
      refine lv_sipush (v := 255) hx hb dX9_set_19 (by decide) ?_
      refine lv_iand hx hb dX9_set_22 (jx_nm fun z3 hz3 => ?_)
      refine jx_iast xw (g := g) (lg := lg) (ar := ar) (bk := bk) 0 hx hb hw 3 0 rfl rfl (hE_in (n := 1500) (ob0 ((y1).toInt) (((0 : Int32)).toInt) (((1500 : Int32)).toInt) (hE_nlt cc1) (hE_nle cc2) (hE_rng (y1)) (by decide) (by decide))) dX9_set_23 rfl (fun H locs a4 h_a4 hw => ?_)
      have hr5 : hk_rg 0 255 (a4 0) := (hk_rgS h_a4 hi_a0rg (ob1 ((z3).toInt) ((y2).toInt) (hE_and 8 256 hz3 (by decide) (by decide) (by decide)) (hE_rng (z3)) (hE_rng (y2))))
      exact kr g lg a4 bk _ _ _ _ ⟨hk_fr0, hk_fr0, (hk_frA hk_fr0 (by decide) h_a4), hr5⟩ hw dX9_set_24

set_option maxHeartbeats 4000000 in
set_option maxRecDepth 100000 in
/-- X9_put on (2,) -/
theorem jx_X9_put_2 (l : Launch) (hlt : l.stackTraces = false) (D : va_G) (t3 : Nat × Nat × Nat) (cI cJ : ClassId) (ad : Nat → Nat) (g : Nat → Int32) (lg : Nat → Int64) (ar : Nat → Nat → Int32) (bk : Nat → Int64) (sz : Nat) (y1 : Int32) (hi_a0rg : hk_rg 0 255 (ar 0)) : JMv l yX9_put (Cond.code yX9_put cX9_put 2 none :: wwX) { frames := 1, cells := 1, slots := 6, locals := 22 } t3 D xw cI cJ ad [.ref (ad 2), .int y1] (xw cI cJ ad g lg ar bk) sz 1 6 (fun g' lg' ar' bk' => hk_fr [13] g g' ∧ hk_fr [] lg lg' ∧ hk_fr [0] ar ar' ∧ ((g' 13).toInt = ((g 13).toInt + 1 + 2147483648) % 4294967296 - 2147483648) ∧ hk_rg 0 255 (ar' 0)) (fun g' lg' ar' bk' => False) := by
  refine jx_metv (cc := cX9_put) (maxL := 2) (ret := none) rfl (by decide) rfl (Nat.le_of_ble_eq_true rfl) ?_
  intro p e s m args below meth c ls Q A hx hb hml hown hts hA hZ hw hl hQ kr kt
  have hq : ∀ w ∈ wwX, w.before args s = true := fun w h => hts w (List.mem_cons_of_mem _ h)
  have hl : lv_has ls 2 [(0, .ref (ad 2)), (1, .int y1)] := hl
  refine lv_aload_n hx hb dX9_put_0 rfl (lv_at hl 0 rfl) ?_
  refine lv_aload_n hx hb dX9_put_1 rfl (lv_at hl 0 rfl) ?_
  refine hk_get (ci := 12) (C := RX9) (T := TX9) (N := 2) (v := .int (g 13)) hx hb hts (fun _ h => List.mem_cons_of_mem _ (wwXc_wsX90 _ h)) hown hw 2 rfl rfl 1 (by decide) (hq _ wX_700) rfl dX9_put_2 ?_
  refine lv_iload_n hx hb dX9_put_5 rfl (lv_at hl 1 rfl) ?_
  refine jx_Vv (As := [.int (g 13), .int y1]) (rest := []) ⟨hx, hb, hml, hown, hts⟩ hZ hw hA (jx_X9_set_2 l hlt D t3 cI cJ ad g lg ar bk _ (g 13) y1 hi_a0rg) (cwV 2 hts (jx_gV wwX_good wX_698 wX_587 wX_588 wX_24 wX_589) rfl rfl rfl (by decide +kernel) ⟨Nat.le_of_ble_eq_true rfl, Nat.le_of_ble_eq_true rfl⟩) 2 (ci := 12) (T := TX9) (N := 2) rfl rfl rfl hl.1 rfl (Nat.le_of_ble_eq_true rfl) dX9_put_6 ⟨Nat.le_of_ble_eq_true rfl, Nat.le_of_ble_eq_true rfl⟩ (fun _ _ _ _ _ _ _ _ hp _ _ _ _ => hp.elim) (fun g6 l7 a8 b9 H locs hp10 hw => ?_)
  obtain ⟨h11, h12, h13, h14⟩ := hp10
  refine lv_aload_n hx hb dX9_put_9 rfl (lv_at hl 0 rfl) ?_
  refine lv_dup hx hb dX9_put_10 rfl ?_
  have e_g6_13 : g6 13 = (g 13) := (h11 13 rfl)
  refine hk_get (ci := 12) (C := RX9) (T := TX9) (N := 2) (v := .int (g 13)) hx hb hts (fun _ h => List.mem_cons_of_mem _ (wwXc_wsX90 _ h)) hown hw 2 rfl rfl 1 (by decide) (hq _ wX_700) (congrArg (fun z => some (Value.int z)) e_g6_13) dX9_put_11 ?_
  refine lv_iconst (v := 1) hx hb dX9_put_14 (by decide) ?_
  refine lv_iadd hx hb dX9_put_15 (jx_nm fun z15 hz15 => ?_)
  refine jx_putg xw (g := g6) (lg := l7) (ar := a8) (bk := b9) (x := z15) 13 (ci := 12) (C := RX9) (T := TX9) (N := 2) (ty := .int) hx hb hts (fun _ h => List.mem_cons_of_mem _ (wwXc_wsX90 _ h)) tyX9 tyX9_ok nmX9 hown hw 2 rfl rfl 1 (by decide) (hq _ wX_700) rfl (by decide +kernel) rfl rfl (Nat.le_of_ble_eq_true rfl) dX9_put_16 rfl (fun H locs g16 h_g16 hw => ?_)
  have e_g16_13 : g16 13 = z15 := (hk_upgS h_g16)
  exact kr g16 l7 a8 b9 _ _ _ _ ⟨(hk_frG (hk_frT hk_fr0 (by decide) h11) (by decide) h_g16), h12, h13, (ob2 ((g16 13).toInt) ((g 13).toInt) ((g6 13).toInt) ((z15).toInt) (((1 : Int32)).toInt) (congrArg Int32.toInt e_g6_13) (hE_add hz15) (congrArg Int32.toInt e_g16_13) (hE_rng (g16 13)) (hE_rng (g 13)) (hE_rng (g6 13)) (hE_rng (z15)) (by decide)), h14⟩ hw dX9_put_19

set_option maxHeartbeats 4000000 in
set_option maxRecDepth 100000 in
/-- X9_set on (4,) -/
theorem jx_X9_set_4 (l : Launch) (hlt : l.stackTraces = false) (D : va_G) (t3 : Nat × Nat × Nat) (cI cJ : ClassId) (ad : Nat → Nat) (g : Nat → Int32) (lg : Nat → Int64) (ar : Nat → Nat → Int32) (bk : Nat → Int64) (sz : Nat) (y1 : Int32) (y2 : Int32) : JMv l yX9_set (Cond.code yX9_set cX9_set 3 none :: wwX) { frames := 0, cells := 1, slots := 6, locals := 0 } t3 D xw cI cJ ad [.ref (ad 4), .int y1, .int y2] (xw cI cJ ad g lg ar bk) sz 1 6 (fun g' lg' ar' bk' => hk_fr [] g g' ∧ hk_fr [] lg lg' ∧ hk_fr [1] ar ar') (fun g' lg' ar' bk' => False) := by
  refine jx_metv (cc := cX9_set) (maxL := 3) (ret := none) rfl (by decide) rfl (Nat.le_of_ble_eq_true rfl) ?_
  intro p e s m args below meth c ls Q A hx hb hml hown hts hA hZ hw hl hQ kr kt
  have hq : ∀ w ∈ wwX, w.before args s = true := fun w h => hts w (List.mem_cons_of_mem _ h)
  have hl : lv_has ls 3 [(0, .ref (ad 4)), (1, .int y1), (2, .int y2)] := hl
  refine lv_iload_n hx hb dX9_set_0 rfl (lv_at hl 1 rfl) ?_
  refine lv_if_lt (tgt := 24) hx hb dX9_set_1 (by decide) (fun cc1 => ?_) (fun cc1 => ?_)
  · exact kr g lg ar bk _ _ _ _ ⟨hk_fr0, hk_fr0, hk_fr0⟩ hw dX9_set_24
  · refine lv_iload_n hx hb dX9_set_4 rfl (lv_at hl 1 rfl) ?_
    refine lv_aload_n hx hb dX9_set_5 rfl (lv_at hl 0 rfl) ?_
    refine hk_get (ci := 12) (C := RX9) (T := TX9) (N := 2) (v := .ref (ad 5)) hx hb hts (fun _ h => List.mem_cons_of_mem _ (wwXc_wsX90 _ h)) hown hw 4 rfl rfl 0 (by decide) (hq _ wX_699) rfl dX9_set_6 ?_
    refine hk_alen (v := 3000) hx hb hw 5 0 rfl rfl rfl dX9_set_9 ?_
    refine lv_icmp_ge (tgt := 24) hx hb dX9_set_10 (by decide) (fun cc2 => ?_) (fun cc2 => ?_)
    · exact kr g lg ar bk _ _ _ _ ⟨hk_fr0, hk_fr0, hk_fr0⟩ hw dX9_set_24
    · refine lv_aload_n hx hb dX9_set_13 rfl (lv_at hl 0 rfl) ?_
      refine hk_get (ci := 12) (C := RX9) (T := TX9) (N := 2) (v := .ref (ad 5)) hx hb hts (fun _ h => List.mem_cons_of_mem _ (wwXc_wsX90 _ h)) hown hw 4 rfl rfl 0 (by decide) (hq _ wX_699) rfl dX9_set_14 ?_
      refine lv_iload_n hx hb dX9_set_17 rfl (lv_at hl 1 rfl) ?_
      refine lv_iload_n hx hb dX9_set_18 rfl (lv_at hl 2 rfl) ?_
      refine lv_sipush (v := 255) hx hb dX9_set_19 (by decide) ?_
      refine lv_iand hx hb dX9_set_22 (jx_nm fun z3 hz3 => ?_)
      refine jx_iast xw (g := g) (lg := lg) (ar := ar) (bk := bk) 1 hx hb hw 5 0 rfl rfl (hE_in (n := 3000) (ob3 ((y1).toInt) (((0 : Int32)).toInt) (((3000 : Int32)).toInt) (hE_nlt cc1) (hE_nle cc2) (hE_rng (y1)) (by decide) (by decide))) dX9_set_23 rfl (fun H locs a4 h_a4 hw => ?_)
      exact kr g lg a4 bk _ _ _ _ ⟨hk_fr0, hk_fr0, (hk_frA hk_fr0 (by decide) h_a4)⟩ hw dX9_set_24

set_option maxHeartbeats 4000000 in
set_option maxRecDepth 100000 in
/-- X9_put on (4,) -/
theorem jx_X9_put_4 (l : Launch) (hlt : l.stackTraces = false) (D : va_G) (t3 : Nat × Nat × Nat) (cI cJ : ClassId) (ad : Nat → Nat) (g : Nat → Int32) (lg : Nat → Int64) (ar : Nat → Nat → Int32) (bk : Nat → Int64) (sz : Nat) (y1 : Int32) : JMv l yX9_put (Cond.code yX9_put cX9_put 2 none :: wwX) { frames := 1, cells := 1, slots := 6, locals := 22 } t3 D xw cI cJ ad [.ref (ad 4), .int y1] (xw cI cJ ad g lg ar bk) sz 1 6 (fun g' lg' ar' bk' => hk_fr [14] g g' ∧ hk_fr [] lg lg' ∧ hk_fr [1] ar ar' ∧ ((g' 14).toInt = ((g 14).toInt + 1 + 2147483648) % 4294967296 - 2147483648)) (fun g' lg' ar' bk' => False) := by
  refine jx_metv (cc := cX9_put) (maxL := 2) (ret := none) rfl (by decide) rfl (Nat.le_of_ble_eq_true rfl) ?_
  intro p e s m args below meth c ls Q A hx hb hml hown hts hA hZ hw hl hQ kr kt
  have hq : ∀ w ∈ wwX, w.before args s = true := fun w h => hts w (List.mem_cons_of_mem _ h)
  have hl : lv_has ls 2 [(0, .ref (ad 4)), (1, .int y1)] := hl
  refine lv_aload_n hx hb dX9_put_0 rfl (lv_at hl 0 rfl) ?_
  refine lv_aload_n hx hb dX9_put_1 rfl (lv_at hl 0 rfl) ?_
  refine hk_get (ci := 12) (C := RX9) (T := TX9) (N := 2) (v := .int (g 14)) hx hb hts (fun _ h => List.mem_cons_of_mem _ (wwXc_wsX90 _ h)) hown hw 4 rfl rfl 1 (by decide) (hq _ wX_700) rfl dX9_put_2 ?_
  refine lv_iload_n hx hb dX9_put_5 rfl (lv_at hl 1 rfl) ?_
  refine jx_Vv (As := [.int (g 14), .int y1]) (rest := []) ⟨hx, hb, hml, hown, hts⟩ hZ hw hA (jx_X9_set_4 l hlt D t3 cI cJ ad g lg ar bk _ (g 14) y1) (cwV 2 hts (jx_gV wwX_good wX_698 wX_587 wX_588 wX_24 wX_589) rfl rfl rfl (by decide +kernel) ⟨Nat.le_of_ble_eq_true rfl, Nat.le_of_ble_eq_true rfl⟩) 4 (ci := 12) (T := TX9) (N := 2) rfl rfl rfl hl.1 rfl (Nat.le_of_ble_eq_true rfl) dX9_put_6 ⟨Nat.le_of_ble_eq_true rfl, Nat.le_of_ble_eq_true rfl⟩ (fun _ _ _ _ _ _ _ _ hp _ _ _ _ => hp.elim) (fun g6 l7 a8 b9 H locs hp10 hw => ?_)
  obtain ⟨h11, h12, h13⟩ := hp10
  refine lv_aload_n hx hb dX9_put_9 rfl (lv_at hl 0 rfl) ?_
  refine lv_dup hx hb dX9_put_10 rfl ?_
  have e_g6_14 : g6 14 = (g 14) := (h11 14 rfl)
  refine hk_get (ci := 12) (C := RX9) (T := TX9) (N := 2) (v := .int (g 14)) hx hb hts (fun _ h => List.mem_cons_of_mem _ (wwXc_wsX90 _ h)) hown hw 4 rfl rfl 1 (by decide) (hq _ wX_700) (congrArg (fun z => some (Value.int z)) e_g6_14) dX9_put_11 ?_
  refine lv_iconst (v := 1) hx hb dX9_put_14 (by decide) ?_
  refine lv_iadd hx hb dX9_put_15 (jx_nm fun z14 hz14 => ?_)
  refine jx_putg xw (g := g6) (lg := l7) (ar := a8) (bk := b9) (x := z14) 14 (ci := 12) (C := RX9) (T := TX9) (N := 2) (ty := .int) hx hb hts (fun _ h => List.mem_cons_of_mem _ (wwXc_wsX90 _ h)) tyX9 tyX9_ok nmX9 hown hw 4 rfl rfl 1 (by decide) (hq _ wX_700) rfl (by decide +kernel) rfl rfl (Nat.le_of_ble_eq_true rfl) dX9_put_16 rfl (fun H locs g15 h_g15 hw => ?_)
  have e_g15_14 : g15 14 = z14 := (hk_upgS h_g15)
  exact kr g15 l7 a8 b9 _ _ _ _ ⟨(hk_frG (hk_frT hk_fr0 (by decide) h11) (by decide) h_g15), h12, h13, (ob2 ((g15 14).toInt) ((g 14).toInt) ((g6 14).toInt) ((z14).toInt) (((1 : Int32)).toInt) (congrArg Int32.toInt e_g6_14) (hE_add hz14) (congrArg Int32.toInt e_g15_14) (hE_rng (g15 14)) (hE_rng (g 14)) (hE_rng (g6 14)) (hE_rng (z14)) (by decide))⟩ hw dX9_put_19

set_option maxHeartbeats 4000000 in
set_option maxRecDepth 100000 in
/-- X9_set on (29,) -/
theorem jx_X9_set_29 (l : Launch) (hlt : l.stackTraces = false) (D : va_G) (t3 : Nat × Nat × Nat) (cI cJ : ClassId) (ad : Nat → Nat) (g : Nat → Int32) (lg : Nat → Int64) (ar : Nat → Nat → Int32) (bk : Nat → Int64) (sz : Nat) (y1 : Int32) (y2 : Int32) : JMv l yX9_set (Cond.code yX9_set cX9_set 3 none :: wwX) { frames := 0, cells := 1, slots := 6, locals := 0 } t3 D xw cI cJ ad [.ref (ad 29), .int y1, .int y2] (xw cI cJ ad g lg ar bk) sz 1 6 (fun g' lg' ar' bk' => hk_fr [] g g' ∧ hk_fr [] lg lg' ∧ hk_fr [15] ar ar') (fun g' lg' ar' bk' => False) := by
  refine jx_metv (cc := cX9_set) (maxL := 3) (ret := none) rfl (by decide) rfl (Nat.le_of_ble_eq_true rfl) ?_
  intro p e s m args below meth c ls Q A hx hb hml hown hts hA hZ hw hl hQ kr kt
  have hq : ∀ w ∈ wwX, w.before args s = true := fun w h => hts w (List.mem_cons_of_mem _ h)
  have hl : lv_has ls 3 [(0, .ref (ad 29)), (1, .int y1), (2, .int y2)] := hl
  refine lv_iload_n hx hb dX9_set_0 rfl (lv_at hl 1 rfl) ?_
  refine lv_if_lt (tgt := 24) hx hb dX9_set_1 (by decide) (fun cc1 => ?_) (fun cc1 => ?_)
  · exact kr g lg ar bk _ _ _ _ ⟨hk_fr0, hk_fr0, hk_fr0⟩ hw dX9_set_24
  · refine lv_iload_n hx hb dX9_set_4 rfl (lv_at hl 1 rfl) ?_
    refine lv_aload_n hx hb dX9_set_5 rfl (lv_at hl 0 rfl) ?_
    refine hk_get (ci := 12) (C := RX9) (T := TX9) (N := 2) (v := .ref (ad 30)) hx hb hts (fun _ h => List.mem_cons_of_mem _ (wwXc_wsX90 _ h)) hown hw 29 rfl rfl 0 (by decide) (hq _ wX_699) rfl dX9_set_6 ?_
    refine hk_alen (v := 1024) hx hb hw 30 0 rfl rfl rfl dX9_set_9 ?_
    refine lv_icmp_ge (tgt := 24) hx hb dX9_set_10 (by decide) (fun cc2 => ?_) (fun cc2 => ?_)
    · exact kr g lg ar bk _ _ _ _ ⟨hk_fr0, hk_fr0, hk_fr0⟩ hw dX9_set_24
    · refine lv_aload_n hx hb dX9_set_13 rfl (lv_at hl 0 rfl) ?_
      refine hk_get (ci := 12) (C := RX9) (T := TX9) (N := 2) (v := .ref (ad 30)) hx hb hts (fun _ h => List.mem_cons_of_mem _ (wwXc_wsX90 _ h)) hown hw 29 rfl rfl 0 (by decide) (hq _ wX_699) rfl dX9_set_14 ?_
      refine lv_iload_n hx hb dX9_set_17 rfl (lv_at hl 1 rfl) ?_
      refine lv_iload_n hx hb dX9_set_18 rfl (lv_at hl 2 rfl) ?_
      refine lv_sipush (v := 255) hx hb dX9_set_19 (by decide) ?_
      refine lv_iand hx hb dX9_set_22 (jx_nm fun z3 hz3 => ?_)
      refine jx_iast xw (g := g) (lg := lg) (ar := ar) (bk := bk) 15 hx hb hw 30 0 rfl rfl (hE_in (n := 1024) (ob4 ((y1).toInt) (((0 : Int32)).toInt) (((1024 : Int32)).toInt) (hE_nlt cc1) (hE_nle cc2) (hE_rng (y1)) (by decide) (by decide))) dX9_set_23 rfl (fun H locs a4 h_a4 hw => ?_)
      exact kr g lg a4 bk _ _ _ _ ⟨hk_fr0, hk_fr0, (hk_frA hk_fr0 (by decide) h_a4)⟩ hw dX9_set_24

set_option maxHeartbeats 4000000 in
set_option maxRecDepth 100000 in
/-- X9_put on (29,) -/
theorem jx_X9_put_29 (l : Launch) (hlt : l.stackTraces = false) (D : va_G) (t3 : Nat × Nat × Nat) (cI cJ : ClassId) (ad : Nat → Nat) (g : Nat → Int32) (lg : Nat → Int64) (ar : Nat → Nat → Int32) (bk : Nat → Int64) (sz : Nat) (y1 : Int32) : JMv l yX9_put (Cond.code yX9_put cX9_put 2 none :: wwX) { frames := 1, cells := 1, slots := 6, locals := 22 } t3 D xw cI cJ ad [.ref (ad 29), .int y1] (xw cI cJ ad g lg ar bk) sz 1 6 (fun g' lg' ar' bk' => hk_fr [53] g g' ∧ hk_fr [] lg lg' ∧ hk_fr [15] ar ar' ∧ ((g' 53).toInt = ((g 53).toInt + 1 + 2147483648) % 4294967296 - 2147483648)) (fun g' lg' ar' bk' => False) := by
  refine jx_metv (cc := cX9_put) (maxL := 2) (ret := none) rfl (by decide) rfl (Nat.le_of_ble_eq_true rfl) ?_
  intro p e s m args below meth c ls Q A hx hb hml hown hts hA hZ hw hl hQ kr kt
  have hq : ∀ w ∈ wwX, w.before args s = true := fun w h => hts w (List.mem_cons_of_mem _ h)
  have hl : lv_has ls 2 [(0, .ref (ad 29)), (1, .int y1)] := hl
  refine lv_aload_n hx hb dX9_put_0 rfl (lv_at hl 0 rfl) ?_
  refine lv_aload_n hx hb dX9_put_1 rfl (lv_at hl 0 rfl) ?_
  refine hk_get (ci := 12) (C := RX9) (T := TX9) (N := 2) (v := .int (g 53)) hx hb hts (fun _ h => List.mem_cons_of_mem _ (wwXc_wsX90 _ h)) hown hw 29 rfl rfl 1 (by decide) (hq _ wX_700) rfl dX9_put_2 ?_
  refine lv_iload_n hx hb dX9_put_5 rfl (lv_at hl 1 rfl) ?_
  refine jx_Vv (As := [.int (g 53), .int y1]) (rest := []) ⟨hx, hb, hml, hown, hts⟩ hZ hw hA (jx_X9_set_29 l hlt D t3 cI cJ ad g lg ar bk _ (g 53) y1) (cwV 2 hts (jx_gV wwX_good wX_698 wX_587 wX_588 wX_24 wX_589) rfl rfl rfl (by decide +kernel) ⟨Nat.le_of_ble_eq_true rfl, Nat.le_of_ble_eq_true rfl⟩) 29 (ci := 12) (T := TX9) (N := 2) rfl rfl rfl hl.1 rfl (Nat.le_of_ble_eq_true rfl) dX9_put_6 ⟨Nat.le_of_ble_eq_true rfl, Nat.le_of_ble_eq_true rfl⟩ (fun _ _ _ _ _ _ _ _ hp _ _ _ _ => hp.elim) (fun g6 l7 a8 b9 H locs hp10 hw => ?_)
  obtain ⟨h11, h12, h13⟩ := hp10
  refine lv_aload_n hx hb dX9_put_9 rfl (lv_at hl 0 rfl) ?_
  refine lv_dup hx hb dX9_put_10 rfl ?_
  have e_g6_53 : g6 53 = (g 53) := (h11 53 rfl)
  refine hk_get (ci := 12) (C := RX9) (T := TX9) (N := 2) (v := .int (g 53)) hx hb hts (fun _ h => List.mem_cons_of_mem _ (wwXc_wsX90 _ h)) hown hw 29 rfl rfl 1 (by decide) (hq _ wX_700) (congrArg (fun z => some (Value.int z)) e_g6_53) dX9_put_11 ?_
  refine lv_iconst (v := 1) hx hb dX9_put_14 (by decide) ?_
  refine lv_iadd hx hb dX9_put_15 (jx_nm fun z14 hz14 => ?_)
  refine jx_putg xw (g := g6) (lg := l7) (ar := a8) (bk := b9) (x := z14) 53 (ci := 12) (C := RX9) (T := TX9) (N := 2) (ty := .int) hx hb hts (fun _ h => List.mem_cons_of_mem _ (wwXc_wsX90 _ h)) tyX9 tyX9_ok nmX9 hown hw 29 rfl rfl 1 (by decide) (hq _ wX_700) rfl (by decide +kernel) rfl rfl (Nat.le_of_ble_eq_true rfl) dX9_put_16 rfl (fun H locs g15 h_g15 hw => ?_)
  have e_g15_53 : g15 53 = z14 := (hk_upgS h_g15)
  exact kr g15 l7 a8 b9 _ _ _ _ ⟨(hk_frG (hk_frT hk_fr0 (by decide) h11) (by decide) h_g15), h12, h13, (ob2 ((g15 53).toInt) ((g 53).toInt) ((g6 53).toInt) ((z14).toInt) (((1 : Int32)).toInt) (congrArg Int32.toInt e_g6_53) (hE_add hz14) (congrArg Int32.toInt e_g15_53) (hE_rng (g15 53)) (hE_rng (g 53)) (hE_rng (g6 53)) (hE_rng (z14)) (by decide))⟩ hw dX9_put_19

set_option maxHeartbeats 4000000 in
set_option maxRecDepth 100000 in
/-- X9_get on (2,) -/
theorem jx_X9_get_2 (l : Launch) (hlt : l.stackTraces = false) (D : va_G) (t3 : Nat × Nat × Nat) (cI cJ : ClassId) (ad : Nat → Nat) (g : Nat → Int32) (lg : Nat → Int64) (ar : Nat → Nat → Int32) (bk : Nat → Int64) (sz : Nat) (y1 : Int32) : JMi l yX9_get (Cond.code yX9_get cX9_get 2 (some .int) :: wwX) { frames := 0, cells := 1, slots := 6, locals := 0 } t3 D xw cI cJ ad [.ref (ad 2), .int y1] (xw cI cJ ad g lg ar bk) sz 1 6 (fun (r : Int32) g' lg' ar' bk' => hk_fr [] g g' ∧ hk_fr [] lg lg' ∧ hk_fr [] ar ar') (fun g' lg' ar' bk' => False) := by
  refine jx_meti (cc := cX9_get) (maxL := 2) (ret := (some .int)) rfl (by decide) rfl (Nat.le_of_ble_eq_true rfl) ?_
  intro p e s m args below meth c ls Q A hx hb hml hown hts hA hZ hw hl hQ kr kt
  have hq : ∀ w ∈ wwX, w.before args s = true := fun w h => hts w (List.mem_cons_of_mem _ h)
  have hl : lv_has ls 2 [(0, .ref (ad 2)), (1, .int y1)] := hl
  refine lv_iload_n hx hb dX9_get_0 rfl (lv_at hl 1 rfl) ?_
  refine lv_if_lt (tgt := 22) hx hb dX9_get_1 (by decide) (fun cc1 => ?_) (fun cc1 => ?_)
  · refine lv_iconst (v := 0) hx hb dX9_get_22 (by decide) ?_
    exact kr 0 g lg ar bk _ _ _ _ ⟨hk_fr0, hk_fr0, hk_fr0⟩ hw dX9_get_23
  · refine lv_iload_n hx hb dX9_get_4 rfl (lv_at hl 1 rfl) ?_
    refine lv_aload_n hx hb dX9_get_5 rfl (lv_at hl 0 rfl) ?_
    refine hk_get (ci := 12) (C := RX9) (T := TX9) (N := 2) (v := .ref (ad 3)) hx hb hts (fun _ h => List.mem_cons_of_mem _ (wwXc_wsX90 _ h)) hown hw 2 rfl rfl 0 (by decide) (hq _ wX_699) rfl dX9_get_6 ?_
    refine hk_alen (v := 1500) hx hb hw 3 0 rfl rfl rfl dX9_get_9 ?_
    refine lv_icmp_ge (tgt := 22) hx hb dX9_get_10 (by decide) (fun cc2 => ?_) (fun cc2 => ?_)
    · refine lv_iconst (v := 0) hx hb dX9_get_22 (by decide) ?_
      exact kr 0 g lg ar bk _ _ _ _ ⟨hk_fr0, hk_fr0, hk_fr0⟩ hw dX9_get_23
    · refine lv_aload_n hx hb dX9_get_13 rfl (lv_at hl 0 rfl) ?_
      refine hk_get (ci := 12) (C := RX9) (T := TX9) (N := 2) (v := .ref (ad 3)) hx hb hts (fun _ h => List.mem_cons_of_mem _ (wwXc_wsX90 _ h)) hown hw 2 rfl rfl 0 (by decide) (hq _ wX_699) rfl dX9_get_14 ?_
      refine lv_iload_n hx hb dX9_get_17 rfl (lv_at hl 1 rfl) ?_
      refine jx_iald hx hb hw 3 0 rfl rfl (hE_in (n := 1500) (ob0 ((y1).toInt) (((0 : Int32)).toInt) (((1500 : Int32)).toInt) (hE_nlt cc1) (hE_nle cc2) (hE_rng (y1)) (by decide) (by decide))) dX9_get_18 (fun z3 hz3 => ?_)
      refine lv_goto (tgt := 23) hx hb dX9_get_19 (by decide) ?_
      exact kr z3 g lg ar bk _ _ _ _ ⟨hk_fr0, hk_fr0, hk_fr0⟩ hw dX9_get_23

set_option maxHeartbeats 4000000 in
set_option maxRecDepth 100000 in
/-- X9_get on (4,) -/
theorem jx_X9_get_4 (l : Launch) (hlt : l.stackTraces = false) (D : va_G) (t3 : Nat × Nat × Nat) (cI cJ : ClassId) (ad : Nat → Nat) (g : Nat → Int32) (lg : Nat → Int64) (ar : Nat → Nat → Int32) (bk : Nat → Int64) (sz : Nat) (y1 : Int32) : JMi l yX9_get (Cond.code yX9_get cX9_get 2 (some .int) :: wwX) { frames := 0, cells := 1, slots := 6, locals := 0 } t3 D xw cI cJ ad [.ref (ad 4), .int y1] (xw cI cJ ad g lg ar bk) sz 1 6 (fun (r : Int32) g' lg' ar' bk' => hk_fr [] g g' ∧ hk_fr [] lg lg' ∧ hk_fr [] ar ar') (fun g' lg' ar' bk' => False) := by
  refine jx_meti (cc := cX9_get) (maxL := 2) (ret := (some .int)) rfl (by decide) rfl (Nat.le_of_ble_eq_true rfl) ?_
  intro p e s m args below meth c ls Q A hx hb hml hown hts hA hZ hw hl hQ kr kt
  have hq : ∀ w ∈ wwX, w.before args s = true := fun w h => hts w (List.mem_cons_of_mem _ h)
  have hl : lv_has ls 2 [(0, .ref (ad 4)), (1, .int y1)] := hl
  refine lv_iload_n hx hb dX9_get_0 rfl (lv_at hl 1 rfl) ?_
  refine lv_if_lt (tgt := 22) hx hb dX9_get_1 (by decide) (fun cc1 => ?_) (fun cc1 => ?_)
  · refine lv_iconst (v := 0) hx hb dX9_get_22 (by decide) ?_
    exact kr 0 g lg ar bk _ _ _ _ ⟨hk_fr0, hk_fr0, hk_fr0⟩ hw dX9_get_23
  · refine lv_iload_n hx hb dX9_get_4 rfl (lv_at hl 1 rfl) ?_
    refine lv_aload_n hx hb dX9_get_5 rfl (lv_at hl 0 rfl) ?_
    refine hk_get (ci := 12) (C := RX9) (T := TX9) (N := 2) (v := .ref (ad 5)) hx hb hts (fun _ h => List.mem_cons_of_mem _ (wwXc_wsX90 _ h)) hown hw 4 rfl rfl 0 (by decide) (hq _ wX_699) rfl dX9_get_6 ?_
    refine hk_alen (v := 3000) hx hb hw 5 0 rfl rfl rfl dX9_get_9 ?_
    refine lv_icmp_ge (tgt := 22) hx hb dX9_get_10 (by decide) (fun cc2 => ?_) (fun cc2 => ?_)
    · refine lv_iconst (v := 0) hx hb dX9_get_22 (by decide) ?_
      exact kr 0 g lg ar bk _ _ _ _ ⟨hk_fr0, hk_fr0, hk_fr0⟩ hw dX9_get_23
    · refine lv_aload_n hx hb dX9_get_13 rfl (lv_at hl 0 rfl) ?_
      refine hk_get (ci := 12) (C := RX9) (T := TX9) (N := 2) (v := .ref (ad 5)) hx hb hts (fun _ h => List.mem_cons_of_mem _ (wwXc_wsX90 _ h)) hown hw 4 rfl rfl 0 (by decide) (hq _ wX_699) rfl dX9_get_14 ?_
      refine lv_iload_n hx hb dX9_get_17 rfl (lv_at hl 1 rfl) ?_
      refine jx_iald hx hb hw 5 0 rfl rfl (hE_in (n := 3000) (ob3 ((y1).toInt) (((0 : Int32)).toInt) (((3000 : Int32)).toInt) (hE_nlt cc1) (hE_nle cc2) (hE_rng (y1)) (by decide) (by decide))) dX9_get_18 (fun z3 hz3 => ?_)
      refine lv_goto (tgt := 23) hx hb dX9_get_19 (by decide) ?_
      exact kr z3 g lg ar bk _ _ _ _ ⟨hk_fr0, hk_fr0, hk_fr0⟩ hw dX9_get_23

set_option maxHeartbeats 4000000 in
set_option maxRecDepth 100000 in
/-- X9_get on (29,) -/
theorem jx_X9_get_29 (l : Launch) (hlt : l.stackTraces = false) (D : va_G) (t3 : Nat × Nat × Nat) (cI cJ : ClassId) (ad : Nat → Nat) (g : Nat → Int32) (lg : Nat → Int64) (ar : Nat → Nat → Int32) (bk : Nat → Int64) (sz : Nat) (y1 : Int32) : JMi l yX9_get (Cond.code yX9_get cX9_get 2 (some .int) :: wwX) { frames := 0, cells := 1, slots := 6, locals := 0 } t3 D xw cI cJ ad [.ref (ad 29), .int y1] (xw cI cJ ad g lg ar bk) sz 1 6 (fun (r : Int32) g' lg' ar' bk' => hk_fr [] g g' ∧ hk_fr [] lg lg' ∧ hk_fr [] ar ar') (fun g' lg' ar' bk' => False) := by
  refine jx_meti (cc := cX9_get) (maxL := 2) (ret := (some .int)) rfl (by decide) rfl (Nat.le_of_ble_eq_true rfl) ?_
  intro p e s m args below meth c ls Q A hx hb hml hown hts hA hZ hw hl hQ kr kt
  have hq : ∀ w ∈ wwX, w.before args s = true := fun w h => hts w (List.mem_cons_of_mem _ h)
  have hl : lv_has ls 2 [(0, .ref (ad 29)), (1, .int y1)] := hl
  refine lv_iload_n hx hb dX9_get_0 rfl (lv_at hl 1 rfl) ?_
  refine lv_if_lt (tgt := 22) hx hb dX9_get_1 (by decide) (fun cc1 => ?_) (fun cc1 => ?_)
  · refine lv_iconst (v := 0) hx hb dX9_get_22 (by decide) ?_
    exact kr 0 g lg ar bk _ _ _ _ ⟨hk_fr0, hk_fr0, hk_fr0⟩ hw dX9_get_23
  · refine lv_iload_n hx hb dX9_get_4 rfl (lv_at hl 1 rfl) ?_
    refine lv_aload_n hx hb dX9_get_5 rfl (lv_at hl 0 rfl) ?_
    refine hk_get (ci := 12) (C := RX9) (T := TX9) (N := 2) (v := .ref (ad 30)) hx hb hts (fun _ h => List.mem_cons_of_mem _ (wwXc_wsX90 _ h)) hown hw 29 rfl rfl 0 (by decide) (hq _ wX_699) rfl dX9_get_6 ?_
    refine hk_alen (v := 1024) hx hb hw 30 0 rfl rfl rfl dX9_get_9 ?_
    refine lv_icmp_ge (tgt := 22) hx hb dX9_get_10 (by decide) (fun cc2 => ?_) (fun cc2 => ?_)
    · refine lv_iconst (v := 0) hx hb dX9_get_22 (by decide) ?_
      exact kr 0 g lg ar bk _ _ _ _ ⟨hk_fr0, hk_fr0, hk_fr0⟩ hw dX9_get_23
    · refine lv_aload_n hx hb dX9_get_13 rfl (lv_at hl 0 rfl) ?_
      refine hk_get (ci := 12) (C := RX9) (T := TX9) (N := 2) (v := .ref (ad 30)) hx hb hts (fun _ h => List.mem_cons_of_mem _ (wwXc_wsX90 _ h)) hown hw 29 rfl rfl 0 (by decide) (hq _ wX_699) rfl dX9_get_14 ?_
      refine lv_iload_n hx hb dX9_get_17 rfl (lv_at hl 1 rfl) ?_
      refine jx_iald hx hb hw 30 0 rfl rfl (hE_in (n := 1024) (ob4 ((y1).toInt) (((0 : Int32)).toInt) (((1024 : Int32)).toInt) (hE_nlt cc1) (hE_nle cc2) (hE_rng (y1)) (by decide) (by decide))) dX9_get_18 (fun z3 hz3 => ?_)
      refine lv_goto (tgt := 23) hx hb dX9_get_19 (by decide) ?_
      exact kr z3 g lg ar bk _ _ _ _ ⟨hk_fr0, hk_fr0, hk_fr0⟩ hw dX9_get_23

set_option maxHeartbeats 4000000 in
set_option maxRecDepth 100000 in
/-- X9_putLow on (2,) -/
theorem jx_X9_putLow_2 (l : Launch) (hlt : l.stackTraces = false) (D : va_G) (t3 : Nat × Nat × Nat) (cI cJ : ClassId) (ad : Nat → Nat) (g : Nat → Int32) (lg : Nat → Int64) (ar : Nat → Nat → Int32) (bk : Nat → Int64) (sz : Nat) (y1 : Int64) (y3 : Int32) (hi_a0rg : hk_rg 0 255 (ar 0)) (hi_g13 : 0 ≤ (g 13).toInt ∧ (g 13).toInt ≤ 1500) : JMv l yX9_putLow (Cond.code yX9_putLow cX9_putLow 5 none :: wwX) { frames := 2, cells := 1, slots := 6, locals := 43 } t3 D xw cI cJ ad [.ref (ad 2), .long y1, .int y3] (xw cI cJ ad g lg ar bk) sz 1 6 (fun g' lg' ar' bk' => hk_fr [13] g g' ∧ hk_fr [] lg lg' ∧ hk_fr [0] ar ar' ∧ hk_rg 0 255 (ar' 0) ∧ (0 ≤ (g' 13).toInt ∧ (g' 13).toInt ≤ 1500)) (fun g' lg' ar' bk' => False) := by
  refine jx_metv (cc := cX9_putLow) (maxL := 5) (ret := none) rfl (by decide) rfl (Nat.le_of_ble_eq_true rfl) ?_
  intro p e s m args below meth c ls Q A hx hb hml hown hts hA hZ hw hl hQ kr kt
  have hq : ∀ w ∈ wwX, w.before args s = true := fun w h => hts w (List.mem_cons_of_mem _ h)
  have hl : lv_has ls 5 [(0, .ref (ad 2)), (1, .long y1), (3, .int y3)] := hl
  refine lv_iconst (v := 0) hx hb dX9_putLow_0 (by decide) ?_
  refine lv_istore (lv' := [(4, .int 0), (0, .ref (ad 2)), (1, .long y1), (3, .int y3)]) hx hb dX9_putLow_1 hl (by decide) rfl (fun ls hl => ?_)
  have B1 : ∀ (k5 : Nat) (x2 : Int32) (g3 : Nat → Int32) (a4 : Nat → Nat → Int32) (ls : Array Slot) (H : Heap) (locs : List Loc), 2147483648 - (x2).toInt ≤ (k5 : Int) → 0 ≤ (x2).toInt → 0 ≤ (g3 13).toInt ∧ (g3 13).toInt ≤ 1500 → hk_fr [13] g g3 → hk_fr [0] ar a4 → hk_rg 0 255 (a4 0) → hk_W D (jT cI cJ) A s H locs (xw cI cJ ad g3 lg a4 bk) → lv_has ls 5 [(0, .ref (ad 2)), (1, .long y1), (3, .int y3), (4, .int x2)] → W p l e { frames := 2, cells := 1, slots := 6, locals := 43 } s m args below meth c H locs 0 0 Q (F0 m 3 ls []) := by
    intro k5
    induction k5 with
    | zero =>
      intro x2 g3 a4 ls H locs hrk_B1 hf_B1_0 hf_B1_1 hfr_g3 hfr_a4 ha4_r0rg hw hl
      exact False.elim (hk_no0 (0 * (x2).toInt) (ob5 ((x2).toInt) hf_B1_0 hrk_B1 (hE_rng (x2))) (by simp))
    | succ k5 ih_B1 =>
      intro x2 g3 a4 ls H locs hrk_B1 hf_B1_0 hf_B1_1 hfr_g3 hfr_a4 ha4_r0rg hw hl
      have hrk_B1 := hk_rk hrk_B1
      refine lv_iload hx hb dX9_putLow_3 (lv_at hl 3 rfl) ?_
      refine lv_iload_n hx hb dX9_putLow_5 rfl (lv_at hl 2 rfl) ?_
      refine lv_icmp_ge (tgt := 27) hx hb dX9_putLow_6 (by decide) (fun cc6 => ?_) (fun cc6 => ?_)
      · exact kr g3 lg a4 bk _ _ _ _ ⟨hfr_g3, hk_fr0, hfr_a4, ha4_r0rg, (ob6 ((g3 13).toInt) hf_B1_1 (hE_rng (g3 13)))⟩ hw dX9_putLow_27
      · refine lv_aload_n hx hb dX9_putLow_9 rfl (lv_at hl 0 rfl) ?_
        refine lv_lload_n hx hb dX9_putLow_10 rfl (lv_at hl 1 rfl) ?_
        refine lv_bipush (v := 8) hx hb dX9_putLow_11 (by decide) ?_
        refine lv_iload hx hb dX9_putLow_13 (lv_at hl 3 rfl) ?_
        refine lv_imul hx hb dX9_putLow_15 (jx_nm fun z7 hz7 => ?_)
        refine lv_lushr hx hb dX9_putLow_16 rfl (jx_nl fun z8 hz8 => ?_)
        refine lv_l2i hx hb dX9_putLow_17 rfl (jx_nm fun z9 hz9 => ?_)
        refine jx_Vv (As := [.int z9]) (rest := []) ⟨hx, hb, hml, hown, hts⟩ hZ hw hA (jx_X9_put_2 l hlt D t3 cI cJ ad g3 lg a4 bk _ z9 ha4_r0rg) (cwV 1 hts (jx_gV wwX_good wX_701 wX_112 wX_113 wX_24 wX_114) rfl rfl rfl (by decide +kernel) ⟨Nat.le_of_ble_eq_true rfl, Nat.le_of_ble_eq_true rfl⟩) 2 (ci := 12) (T := TX9) (N := 2) rfl rfl rfl hl.1 rfl (Nat.le_of_ble_eq_true rfl) dX9_putLow_18 ⟨Nat.le_of_ble_eq_true rfl, Nat.le_of_ble_eq_true rfl⟩ (fun _ _ _ _ _ _ _ _ hp _ _ _ _ => hp.elim) (fun g15 l16 a17 b18 H locs hp19 hw => ?_)
        obtain ⟨h20, h21, h22, h23, h24⟩ := hp19
        obtain ⟨z25, hz25⟩ : ∃ z : Int32, x2 + 1 = z := ⟨_, rfl⟩
        refine lv_iinc (v := z25) (lv' := [(4, .int z25), (0, .ref (ad 2)), (1, .long y1), (3, .int y3)]) hx hb dX9_putLow_21 hl (k := 3) rfl hz25 (by decide) rfl (fun ls hl => ?_)
        refine lv_goto (tgt := 3) hx hb dX9_putLow_24 (by decide) ?_
        exact ih_B1 z25 g15 a17 ls _ _ (ob7 ((z25).toInt) (k5 : Int) ((x2).toInt) (((1 : Int32)).toInt) ((y3).toInt) ((z7).toInt) hrk_B1 (hE_add hz25) hf_B1_0 (hE_nle cc6) (hE_mul' 8 hz7 (by decide)) (hE_rng (z25)) (hE_rng (x2)) (by decide) (hE_rng (y3)) (hE_rng (z7))) (ob8 ((z25).toInt) ((x2).toInt) (((1 : Int32)).toInt) (k5 : Int) ((y3).toInt) ((z7).toInt) (hE_add hz25) hf_B1_0 hrk_B1 (hE_nle cc6) (hE_mul' 8 hz7 (by decide)) (hE_rng (z25)) (hE_rng (x2)) (by decide) (hE_rng (y3)) (hE_rng (z7))) (ob9 ((g15 13).toInt) ((g3 13).toInt) h23 hf_B1_1 (hE_rng (g15 13)) (hE_rng (g3 13))) (hk_frT hfr_g3 (by decide) h20) (hk_frT hfr_a4 (by decide) h22) h24 hw (lv_sub hl [1, 2, 3, 0] rfl)
  exact B1 (2147483648 - ((0 : Int32)).toInt).toNat 0 g ar ls _ _ (Int.self_le_toNat _) (ob10 (((0 : Int32)).toInt) (by decide)) (ob6 ((g 13).toInt) hi_g13 (hE_rng (g 13))) hk_fr0 hk_fr0 hi_a0rg hw (lv_sub hl [1, 2, 3, 0] rfl)

set_option maxHeartbeats 4000000 in
set_option maxRecDepth 100000 in
/-- X9_putLow on (4,) -/
theorem jx_X9_putLow_4 (l : Launch) (hlt : l.stackTraces = false) (D : va_G) (t3 : Nat × Nat × Nat) (cI cJ : ClassId) (ad : Nat → Nat) (g : Nat → Int32) (lg : Nat → Int64) (ar : Nat → Nat → Int32) (bk : Nat → Int64) (sz : Nat) (y1 : Int64) (y3 : Int32) : JMv l yX9_putLow (Cond.code yX9_putLow cX9_putLow 5 none :: wwX) { frames := 2, cells := 1, slots := 6, locals := 43 } t3 D xw cI cJ ad [.ref (ad 4), .long y1, .int y3] (xw cI cJ ad g lg ar bk) sz 1 6 (fun g' lg' ar' bk' => hk_fr [14] g g' ∧ hk_fr [] lg lg' ∧ hk_fr [1] ar ar') (fun g' lg' ar' bk' => False) := by
  refine jx_metv (cc := cX9_putLow) (maxL := 5) (ret := none) rfl (by decide) rfl (Nat.le_of_ble_eq_true rfl) ?_
  intro p e s m args below meth c ls Q A hx hb hml hown hts hA hZ hw hl hQ kr kt
  have hq : ∀ w ∈ wwX, w.before args s = true := fun w h => hts w (List.mem_cons_of_mem _ h)
  have hl : lv_has ls 5 [(0, .ref (ad 4)), (1, .long y1), (3, .int y3)] := hl
  refine lv_iconst (v := 0) hx hb dX9_putLow_0 (by decide) ?_
  refine lv_istore (lv' := [(4, .int 0), (0, .ref (ad 4)), (1, .long y1), (3, .int y3)]) hx hb dX9_putLow_1 hl (by decide) rfl (fun ls hl => ?_)
  have B1 : ∀ (k5 : Nat) (x2 : Int32) (g3 : Nat → Int32) (a4 : Nat → Nat → Int32) (ls : Array Slot) (H : Heap) (locs : List Loc), 2147483648 - (x2).toInt ≤ (k5 : Int) → 0 ≤ (x2).toInt → hk_fr [14] g g3 → hk_fr [1] ar a4 → hk_W D (jT cI cJ) A s H locs (xw cI cJ ad g3 lg a4 bk) → lv_has ls 5 [(0, .ref (ad 4)), (1, .long y1), (3, .int y3), (4, .int x2)] → W p l e { frames := 2, cells := 1, slots := 6, locals := 43 } s m args below meth c H locs 0 0 Q (F0 m 3 ls []) := by
    intro k5
    induction k5 with
    | zero =>
      intro x2 g3 a4 ls H locs hrk_B1 hf_B1_0 hfr_g3 hfr_a4 hw hl
      exact False.elim (hk_no0 (0 * (x2).toInt) (ob5 ((x2).toInt) hf_B1_0 hrk_B1 (hE_rng (x2))) (by simp))
    | succ k5 ih_B1 =>
      intro x2 g3 a4 ls H locs hrk_B1 hf_B1_0 hfr_g3 hfr_a4 hw hl
      have hrk_B1 := hk_rk hrk_B1
      refine lv_iload hx hb dX9_putLow_3 (lv_at hl 3 rfl) ?_
      refine lv_iload_n hx hb dX9_putLow_5 rfl (lv_at hl 2 rfl) ?_
      refine lv_icmp_ge (tgt := 27) hx hb dX9_putLow_6 (by decide) (fun cc6 => ?_) (fun cc6 => ?_)
      · exact kr g3 lg a4 bk _ _ _ _ ⟨hfr_g3, hk_fr0, hfr_a4⟩ hw dX9_putLow_27
      · refine lv_aload_n hx hb dX9_putLow_9 rfl (lv_at hl 0 rfl) ?_
        refine lv_lload_n hx hb dX9_putLow_10 rfl (lv_at hl 1 rfl) ?_
        refine lv_bipush (v := 8) hx hb dX9_putLow_11 (by decide) ?_
        refine lv_iload hx hb dX9_putLow_13 (lv_at hl 3 rfl) ?_
        refine lv_imul hx hb dX9_putLow_15 (jx_nm fun z7 hz7 => ?_)
        refine lv_lushr hx hb dX9_putLow_16 rfl (jx_nl fun z8 hz8 => ?_)
        refine lv_l2i hx hb dX9_putLow_17 rfl (jx_nm fun z9 hz9 => ?_)
        refine jx_Vv (As := [.int z9]) (rest := []) ⟨hx, hb, hml, hown, hts⟩ hZ hw hA (jx_X9_put_4 l hlt D t3 cI cJ ad g3 lg a4 bk _ z9) (cwV 1 hts (jx_gV wwX_good wX_701 wX_112 wX_113 wX_24 wX_114) rfl rfl rfl (by decide +kernel) ⟨Nat.le_of_ble_eq_true rfl, Nat.le_of_ble_eq_true rfl⟩) 4 (ci := 12) (T := TX9) (N := 2) rfl rfl rfl hl.1 rfl (Nat.le_of_ble_eq_true rfl) dX9_putLow_18 ⟨Nat.le_of_ble_eq_true rfl, Nat.le_of_ble_eq_true rfl⟩ (fun _ _ _ _ _ _ _ _ hp _ _ _ _ => hp.elim) (fun g15 l16 a17 b18 H locs hp19 hw => ?_)
        obtain ⟨h20, h21, h22, h23⟩ := hp19
        obtain ⟨z24, hz24⟩ : ∃ z : Int32, x2 + 1 = z := ⟨_, rfl⟩
        refine lv_iinc (v := z24) (lv' := [(4, .int z24), (0, .ref (ad 4)), (1, .long y1), (3, .int y3)]) hx hb dX9_putLow_21 hl (k := 3) rfl hz24 (by decide) rfl (fun ls hl => ?_)
        refine lv_goto (tgt := 3) hx hb dX9_putLow_24 (by decide) ?_
        exact ih_B1 z24 g15 a17 ls _ _ (ob7 ((z24).toInt) (k5 : Int) ((x2).toInt) (((1 : Int32)).toInt) ((y3).toInt) ((z7).toInt) hrk_B1 (hE_add hz24) hf_B1_0 (hE_nle cc6) (hE_mul' 8 hz7 (by decide)) (hE_rng (z24)) (hE_rng (x2)) (by decide) (hE_rng (y3)) (hE_rng (z7))) (ob8 ((z24).toInt) ((x2).toInt) (((1 : Int32)).toInt) (k5 : Int) ((y3).toInt) ((z7).toInt) (hE_add hz24) hf_B1_0 hrk_B1 (hE_nle cc6) (hE_mul' 8 hz7 (by decide)) (hE_rng (z24)) (hE_rng (x2)) (by decide) (hE_rng (y3)) (hE_rng (z7))) (hk_frT hfr_g3 (by decide) h20) (hk_frT hfr_a4 (by decide) h22) hw (lv_sub hl [1, 2, 3, 0] rfl)
  exact B1 (2147483648 - ((0 : Int32)).toInt).toNat 0 g ar ls _ _ (Int.self_le_toNat _) (ob10 (((0 : Int32)).toInt) (by decide)) hk_fr0 hk_fr0 hw (lv_sub hl [1, 2, 3, 0] rfl)

set_option maxHeartbeats 4000000 in
set_option maxRecDepth 100000 in
/-- X9_putLow on (29,) -/
theorem jx_X9_putLow_29 (l : Launch) (hlt : l.stackTraces = false) (D : va_G) (t3 : Nat × Nat × Nat) (cI cJ : ClassId) (ad : Nat → Nat) (g : Nat → Int32) (lg : Nat → Int64) (ar : Nat → Nat → Int32) (bk : Nat → Int64) (sz : Nat) (y1 : Int64) (y3 : Int32) : JMv l yX9_putLow (Cond.code yX9_putLow cX9_putLow 5 none :: wwX) { frames := 2, cells := 1, slots := 6, locals := 43 } t3 D xw cI cJ ad [.ref (ad 29), .long y1, .int y3] (xw cI cJ ad g lg ar bk) sz 1 6 (fun g' lg' ar' bk' => hk_fr [53] g g' ∧ hk_fr [] lg lg' ∧ hk_fr [15] ar ar') (fun g' lg' ar' bk' => False) := by
  refine jx_metv (cc := cX9_putLow) (maxL := 5) (ret := none) rfl (by decide) rfl (Nat.le_of_ble_eq_true rfl) ?_
  intro p e s m args below meth c ls Q A hx hb hml hown hts hA hZ hw hl hQ kr kt
  have hq : ∀ w ∈ wwX, w.before args s = true := fun w h => hts w (List.mem_cons_of_mem _ h)
  have hl : lv_has ls 5 [(0, .ref (ad 29)), (1, .long y1), (3, .int y3)] := hl
  refine lv_iconst (v := 0) hx hb dX9_putLow_0 (by decide) ?_
  refine lv_istore (lv' := [(4, .int 0), (0, .ref (ad 29)), (1, .long y1), (3, .int y3)]) hx hb dX9_putLow_1 hl (by decide) rfl (fun ls hl => ?_)
  have B1 : ∀ (k5 : Nat) (x2 : Int32) (g3 : Nat → Int32) (a4 : Nat → Nat → Int32) (ls : Array Slot) (H : Heap) (locs : List Loc), 2147483648 - (x2).toInt ≤ (k5 : Int) → 0 ≤ (x2).toInt → hk_fr [53] g g3 → hk_fr [15] ar a4 → hk_W D (jT cI cJ) A s H locs (xw cI cJ ad g3 lg a4 bk) → lv_has ls 5 [(0, .ref (ad 29)), (1, .long y1), (3, .int y3), (4, .int x2)] → W p l e { frames := 2, cells := 1, slots := 6, locals := 43 } s m args below meth c H locs 0 0 Q (F0 m 3 ls []) := by
    intro k5
    induction k5 with
    | zero =>
      intro x2 g3 a4 ls H locs hrk_B1 hf_B1_0 hfr_g3 hfr_a4 hw hl
      exact False.elim (hk_no0 (0 * (x2).toInt) (ob5 ((x2).toInt) hf_B1_0 hrk_B1 (hE_rng (x2))) (by simp))
    | succ k5 ih_B1 =>
      intro x2 g3 a4 ls H locs hrk_B1 hf_B1_0 hfr_g3 hfr_a4 hw hl
      have hrk_B1 := hk_rk hrk_B1
      refine lv_iload hx hb dX9_putLow_3 (lv_at hl 3 rfl) ?_
      refine lv_iload_n hx hb dX9_putLow_5 rfl (lv_at hl 2 rfl) ?_
      refine lv_icmp_ge (tgt := 27) hx hb dX9_putLow_6 (by decide) (fun cc6 => ?_) (fun cc6 => ?_)
      · exact kr g3 lg a4 bk _ _ _ _ ⟨hfr_g3, hk_fr0, hfr_a4⟩ hw dX9_putLow_27
      · refine lv_aload_n hx hb dX9_putLow_9 rfl (lv_at hl 0 rfl) ?_
        refine lv_lload_n hx hb dX9_putLow_10 rfl (lv_at hl 1 rfl) ?_
        refine lv_bipush (v := 8) hx hb dX9_putLow_11 (by decide) ?_
        refine lv_iload hx hb dX9_putLow_13 (lv_at hl 3 rfl) ?_
        refine lv_imul hx hb dX9_putLow_15 (jx_nm fun z7 hz7 => ?_)
        refine lv_lushr hx hb dX9_putLow_16 rfl (jx_nl fun z8 hz8 => ?_)
        refine lv_l2i hx hb dX9_putLow_17 rfl (jx_nm fun z9 hz9 => ?_)
        refine jx_Vv (As := [.int z9]) (rest := []) ⟨hx, hb, hml, hown, hts⟩ hZ hw hA (jx_X9_put_29 l hlt D t3 cI cJ ad g3 lg a4 bk _ z9) (cwV 1 hts (jx_gV wwX_good wX_701 wX_112 wX_113 wX_24 wX_114) rfl rfl rfl (by decide +kernel) ⟨Nat.le_of_ble_eq_true rfl, Nat.le_of_ble_eq_true rfl⟩) 29 (ci := 12) (T := TX9) (N := 2) rfl rfl rfl hl.1 rfl (Nat.le_of_ble_eq_true rfl) dX9_putLow_18 ⟨Nat.le_of_ble_eq_true rfl, Nat.le_of_ble_eq_true rfl⟩ (fun _ _ _ _ _ _ _ _ hp _ _ _ _ => hp.elim) (fun g15 l16 a17 b18 H locs hp19 hw => ?_)
        obtain ⟨h20, h21, h22, h23⟩ := hp19
        obtain ⟨z24, hz24⟩ : ∃ z : Int32, x2 + 1 = z := ⟨_, rfl⟩
        refine lv_iinc (v := z24) (lv' := [(4, .int z24), (0, .ref (ad 29)), (1, .long y1), (3, .int y3)]) hx hb dX9_putLow_21 hl (k := 3) rfl hz24 (by decide) rfl (fun ls hl => ?_)
        refine lv_goto (tgt := 3) hx hb dX9_putLow_24 (by decide) ?_
        exact ih_B1 z24 g15 a17 ls _ _ (ob7 ((z24).toInt) (k5 : Int) ((x2).toInt) (((1 : Int32)).toInt) ((y3).toInt) ((z7).toInt) hrk_B1 (hE_add hz24) hf_B1_0 (hE_nle cc6) (hE_mul' 8 hz7 (by decide)) (hE_rng (z24)) (hE_rng (x2)) (by decide) (hE_rng (y3)) (hE_rng (z7))) (ob8 ((z24).toInt) ((x2).toInt) (((1 : Int32)).toInt) (k5 : Int) ((y3).toInt) ((z7).toInt) (hE_add hz24) hf_B1_0 hrk_B1 (hE_nle cc6) (hE_mul' 8 hz7 (by decide)) (hE_rng (z24)) (hE_rng (x2)) (by decide) (hE_rng (y3)) (hE_rng (z7))) (hk_frT hfr_g3 (by decide) h20) (hk_frT hfr_a4 (by decide) h22) hw (lv_sub hl [1, 2, 3, 0] rfl)
  exact B1 (2147483648 - ((0 : Int32)).toInt).toNat 0 g ar ls _ _ (Int.self_le_toNat _) (ob10 (((0 : Int32)).toInt) (by decide)) hk_fr0 hk_fr0 hw (lv_sub hl [1, 2, 3, 0] rfl)

set_option maxHeartbeats 4000000 in
set_option maxRecDepth 100000 in
/-- X9_putHigh on (2,) -/
theorem jx_X9_putHigh_2 (l : Launch) (hlt : l.stackTraces = false) (D : va_G) (t3 : Nat × Nat × Nat) (cI cJ : ClassId) (ad : Nat → Nat) (g : Nat → Int32) (lg : Nat → Int64) (ar : Nat → Nat → Int32) (bk : Nat → Int64) (sz : Nat) (y1 : Int64) (y3 : Int32) (hr0 : 0 ≤ (y3).toInt ∧ (y3).toInt ≤ 8) (hi_a0rg : hk_rg 0 255 (ar 0)) : JMv l yX9_putHigh (Cond.code yX9_putHigh cX9_putHigh 5 none :: wwX) { frames := 2, cells := 1, slots := 6, locals := 43 } t3 D xw cI cJ ad [.ref (ad 2), .long y1, .int y3] (xw cI cJ ad g lg ar bk) sz 1 6 (fun g' lg' ar' bk' => hk_fr [13] g g' ∧ hk_fr [] lg lg' ∧ hk_fr [0] ar ar' ∧ ((g' 13).toInt = ((g 13).toInt + (y3).toInt + 2147483648) % 4294967296 - 2147483648) ∧ hk_rg 0 255 (ar' 0)) (fun g' lg' ar' bk' => False) := by
  refine jx_metv (cc := cX9_putHigh) (maxL := 5) (ret := none) rfl (by decide) rfl (Nat.le_of_ble_eq_true rfl) ?_
  intro p e s m args below meth c ls Q A hx hb hml hown hts hA hZ hw hl hQ kr kt
  have hq : ∀ w ∈ wwX, w.before args s = true := fun w h => hts w (List.mem_cons_of_mem _ h)
  have hl : lv_has ls 5 [(0, .ref (ad 2)), (1, .long y1), (3, .int y3)] := hl
  refine lv_iload_n hx hb dX9_putHigh_0 rfl (lv_at hl 2 rfl) ?_
  refine lv_iconst (v := 1) hx hb dX9_putHigh_1 (by decide) ?_
  refine lv_isub hx hb dX9_putHigh_2 (jx_nm fun z1 hz1 => ?_)
  refine lv_istore (lv' := [(4, .int z1), (0, .ref (ad 2)), (1, .long y1), (3, .int y3)]) hx hb dX9_putHigh_3 hl (by decide) rfl (fun ls hl => ?_)
  have B2 : ∀ (k6 : Nat) (x3 : Int32) (g4 : Nat → Int32) (a5 : Nat → Nat → Int32) (ls : Array Slot) (H : Heap) (locs : List Loc), (x3).toInt + 2147483649 ≤ (k6 : Int) → -1 ≤ (x3).toInt ∧ (x3).toInt < (y3).toInt → (g4 13).toInt = ((g 13).toInt + (y3).toInt - 1 - (x3).toInt + 2147483648) % 4294967296 - 2147483648 → hk_fr [13] g g4 → hk_fr [0] ar a5 → hk_rg 0 255 (a5 0) → hk_W D (jT cI cJ) A s H locs (xw cI cJ ad g4 lg a5 bk) → lv_has ls 5 [(0, .ref (ad 2)), (1, .long y1), (4, .int x3)] → W p l e { frames := 2, cells := 1, slots := 6, locals := 43 } s m args below meth c H locs 0 0 Q (F0 m 5 ls []) := by
    intro k6
    induction k6 with
    | zero =>
      intro x3 g4 a5 ls H locs hrk_B2 hf_B2_0 hf_B2_1 hfr_g4 hfr_a5 ha5_r0rg hw hl
      exact False.elim (hk_no0 (0 * (x3).toInt) (ob11 ((x3).toInt) ((y3).toInt) ((g4 13).toInt) ((g 13).toInt) ((z1).toInt) (((1 : Int32)).toInt) hf_B2_0 hf_B2_1 hrk_B2 hr0 (hE_sub hz1) (hE_rng (x3)) (hE_rng (y3)) (hE_rng (g4 13)) (hE_rng (g 13)) (hE_rng (z1)) (by decide)) (by simp))
    | succ k6 ih_B2 =>
      intro x3 g4 a5 ls H locs hrk_B2 hf_B2_0 hf_B2_1 hfr_g4 hfr_a5 ha5_r0rg hw hl
      have hrk_B2 := hk_rk hrk_B2
      refine lv_iload hx hb dX9_putHigh_5 (lv_at hl 2 rfl) ?_
      refine lv_if_lt (tgt := 28) hx hb dX9_putHigh_7 (by decide) (fun cc7 => ?_) (fun cc7 => ?_)
      · exact kr g4 lg a5 bk _ _ _ _ ⟨hfr_g4, hk_fr0, hfr_a5, (ob12 ((g4 13).toInt) ((g 13).toInt) ((y3).toInt) ((z1).toInt) (((1 : Int32)).toInt) ((x3).toInt) (k6 : Int) (((0 : Int32)).toInt) hr0 (hE_sub hz1) hf_B2_0 hf_B2_1 hrk_B2 (hE_lt cc7) (hE_rng (g4 13)) (hE_rng (g 13)) (hE_rng (y3)) (hE_rng (z1)) (by decide) (hE_rng (x3)) (by decide)), ha5_r0rg⟩ hw dX9_putHigh_28
      · refine lv_aload_n hx hb dX9_putHigh_10 rfl (lv_at hl 0 rfl) ?_
        refine lv_lload_n hx hb dX9_putHigh_11 rfl (lv_at hl 1 rfl) ?_
        refine lv_bipush (v := 8) hx hb dX9_putHigh_12 (by decide) ?_
        refine lv_iload hx hb dX9_putHigh_14 (lv_at hl 2 rfl) ?_
        refine lv_imul hx hb dX9_putHigh_16 (jx_nm fun z8 hz8 => ?_)
        refine lv_lushr hx hb dX9_putHigh_17 rfl (jx_nl fun z9 hz9 => ?_)
        refine lv_l2i hx hb dX9_putHigh_18 rfl (jx_nm fun z10 hz10 => ?_)
        refine jx_Vv (As := [.int z10]) (rest := []) ⟨hx, hb, hml, hown, hts⟩ hZ hw hA (jx_X9_put_2 l hlt D t3 cI cJ ad g4 lg a5 bk _ z10 ha5_r0rg) (cwV 1 hts (jx_gV wwX_good wX_701 wX_112 wX_113 wX_24 wX_114) rfl rfl rfl (by decide +kernel) ⟨Nat.le_of_ble_eq_true rfl, Nat.le_of_ble_eq_true rfl⟩) 2 (ci := 12) (T := TX9) (N := 2) rfl rfl rfl hl.1 rfl (Nat.le_of_ble_eq_true rfl) dX9_putHigh_19 ⟨Nat.le_of_ble_eq_true rfl, Nat.le_of_ble_eq_true rfl⟩ (fun _ _ _ _ _ _ _ _ hp _ _ _ _ => hp.elim) (fun g16 l17 a18 b19 H locs hp20 hw => ?_)
        obtain ⟨h21, h22, h23, h24, h25⟩ := hp20
        obtain ⟨z26, hz26⟩ : ∃ z : Int32, x3 + (-1) = z := ⟨_, rfl⟩
        refine lv_iinc (v := z26) (lv' := [(4, .int z26), (0, .ref (ad 2)), (1, .long y1)]) hx hb dX9_putHigh_22 hl (k := 2) rfl hz26 (by decide) rfl (fun ls hl => ?_)
        refine lv_goto (tgt := 5) hx hb dX9_putHigh_25 (by decide) ?_
        exact ih_B2 z26 g16 a18 ls _ _ (ob13 ((z26).toInt) (k6 : Int) ((x3).toInt) ((((-1) : Int32)).toInt) ((y3).toInt) ((g4 13).toInt) ((g 13).toInt) (((0 : Int32)).toInt) ((z8).toInt) ((z1).toInt) (((1 : Int32)).toInt) ((g16 13).toInt) hrk_B2 (hE_add hz26) hf_B2_0 hf_B2_1 (hE_nlt cc7) (hE_mul' 8 hz8 (by decide)) hr0 (hE_sub hz1) h24 (hE_rng (z26)) (hE_rng (x3)) (by decide) (hE_rng (y3)) (hE_rng (g4 13)) (hE_rng (g 13)) (by decide) (hE_rng (z8)) (hE_rng (z1)) (by decide) (hE_rng (g16 13))) (ob14 ((z26).toInt) ((y3).toInt) ((z1).toInt) (((1 : Int32)).toInt) ((x3).toInt) ((g4 13).toInt) ((g 13).toInt) ((((-1) : Int32)).toInt) (k6 : Int) (((0 : Int32)).toInt) ((z8).toInt) ((g16 13).toInt) hr0 (hE_sub hz1) hf_B2_0 hf_B2_1 (hE_add hz26) hrk_B2 (hE_nlt cc7) (hE_mul' 8 hz8 (by decide)) h24 (hE_rng (z26)) (hE_rng (y3)) (hE_rng (z1)) (by decide) (hE_rng (x3)) (hE_rng (g4 13)) (hE_rng (g 13)) (by decide) (by decide) (hE_rng (z8)) (hE_rng (g16 13))) (ob15 ((g16 13).toInt) ((g 13).toInt) ((y3).toInt) ((z26).toInt) ((z1).toInt) (((1 : Int32)).toInt) ((x3).toInt) ((g4 13).toInt) ((((-1) : Int32)).toInt) (k6 : Int) (((0 : Int32)).toInt) ((z8).toInt) hr0 (hE_sub hz1) hf_B2_0 hf_B2_1 h24 (hE_add hz26) hrk_B2 (hE_nlt cc7) (hE_mul' 8 hz8 (by decide)) (hE_rng (g16 13)) (hE_rng (g 13)) (hE_rng (y3)) (hE_rng (z26)) (hE_rng (z1)) (by decide) (hE_rng (x3)) (hE_rng (g4 13)) (by decide) (by decide) (hE_rng (z8))) (hk_frT hfr_g4 (by decide) h21) (hk_frT hfr_a5 (by decide) h23) h25 hw (lv_sub hl [1, 2, 0] rfl)
  exact B2 ((z1).toInt + 2147483649).toNat z1 g ar ls _ _ (Int.self_le_toNat _) (ob16 ((z1).toInt) ((y3).toInt) (((1 : Int32)).toInt) hr0 (hE_sub hz1) (hE_rng (z1)) (hE_rng (y3)) (by decide)) (ob17 ((g 13).toInt) ((y3).toInt) ((z1).toInt) (((1 : Int32)).toInt) hr0 (hE_sub hz1) (hE_rng (g 13)) (hE_rng (y3)) (hE_rng (z1)) (by decide)) hk_fr0 hk_fr0 hi_a0rg hw (lv_sub hl [1, 2, 0] rfl)

set_option maxHeartbeats 4000000 in
set_option maxRecDepth 100000 in
/-- X9_putHigh on (4,) -/
theorem jx_X9_putHigh_4 (l : Launch) (hlt : l.stackTraces = false) (D : va_G) (t3 : Nat × Nat × Nat) (cI cJ : ClassId) (ad : Nat → Nat) (g : Nat → Int32) (lg : Nat → Int64) (ar : Nat → Nat → Int32) (bk : Nat → Int64) (sz : Nat) (y1 : Int64) (y3 : Int32) (hr0 : 0 ≤ (y3).toInt ∧ (y3).toInt ≤ 8) : JMv l yX9_putHigh (Cond.code yX9_putHigh cX9_putHigh 5 none :: wwX) { frames := 2, cells := 1, slots := 6, locals := 43 } t3 D xw cI cJ ad [.ref (ad 4), .long y1, .int y3] (xw cI cJ ad g lg ar bk) sz 1 6 (fun g' lg' ar' bk' => hk_fr [14] g g' ∧ hk_fr [] lg lg' ∧ hk_fr [1] ar ar' ∧ ((g' 14).toInt = ((g 14).toInt + (y3).toInt + 2147483648) % 4294967296 - 2147483648)) (fun g' lg' ar' bk' => False) := by
  refine jx_metv (cc := cX9_putHigh) (maxL := 5) (ret := none) rfl (by decide) rfl (Nat.le_of_ble_eq_true rfl) ?_
  intro p e s m args below meth c ls Q A hx hb hml hown hts hA hZ hw hl hQ kr kt
  have hq : ∀ w ∈ wwX, w.before args s = true := fun w h => hts w (List.mem_cons_of_mem _ h)
  have hl : lv_has ls 5 [(0, .ref (ad 4)), (1, .long y1), (3, .int y3)] := hl
  refine lv_iload_n hx hb dX9_putHigh_0 rfl (lv_at hl 2 rfl) ?_
  refine lv_iconst (v := 1) hx hb dX9_putHigh_1 (by decide) ?_
  refine lv_isub hx hb dX9_putHigh_2 (jx_nm fun z1 hz1 => ?_)
  refine lv_istore (lv' := [(4, .int z1), (0, .ref (ad 4)), (1, .long y1), (3, .int y3)]) hx hb dX9_putHigh_3 hl (by decide) rfl (fun ls hl => ?_)
  have B2 : ∀ (k6 : Nat) (x3 : Int32) (g4 : Nat → Int32) (a5 : Nat → Nat → Int32) (ls : Array Slot) (H : Heap) (locs : List Loc), (x3).toInt + 2147483649 ≤ (k6 : Int) → -1 ≤ (x3).toInt ∧ (x3).toInt < (y3).toInt → (g4 14).toInt = ((g 14).toInt + (y3).toInt - 1 - (x3).toInt + 2147483648) % 4294967296 - 2147483648 → hk_fr [14] g g4 → hk_fr [1] ar a5 → hk_W D (jT cI cJ) A s H locs (xw cI cJ ad g4 lg a5 bk) → lv_has ls 5 [(0, .ref (ad 4)), (1, .long y1), (4, .int x3)] → W p l e { frames := 2, cells := 1, slots := 6, locals := 43 } s m args below meth c H locs 0 0 Q (F0 m 5 ls []) := by
    intro k6
    induction k6 with
    | zero =>
      intro x3 g4 a5 ls H locs hrk_B2 hf_B2_0 hf_B2_1 hfr_g4 hfr_a5 hw hl
      exact False.elim (hk_no0 (0 * (x3).toInt) (ob11 ((x3).toInt) ((y3).toInt) ((g4 14).toInt) ((g 14).toInt) ((z1).toInt) (((1 : Int32)).toInt) hf_B2_0 hf_B2_1 hrk_B2 hr0 (hE_sub hz1) (hE_rng (x3)) (hE_rng (y3)) (hE_rng (g4 14)) (hE_rng (g 14)) (hE_rng (z1)) (by decide)) (by simp))
    | succ k6 ih_B2 =>
      intro x3 g4 a5 ls H locs hrk_B2 hf_B2_0 hf_B2_1 hfr_g4 hfr_a5 hw hl
      have hrk_B2 := hk_rk hrk_B2
      refine lv_iload hx hb dX9_putHigh_5 (lv_at hl 2 rfl) ?_
      refine lv_if_lt (tgt := 28) hx hb dX9_putHigh_7 (by decide) (fun cc7 => ?_) (fun cc7 => ?_)
      · exact kr g4 lg a5 bk _ _ _ _ ⟨hfr_g4, hk_fr0, hfr_a5, (ob12 ((g4 14).toInt) ((g 14).toInt) ((y3).toInt) ((z1).toInt) (((1 : Int32)).toInt) ((x3).toInt) (k6 : Int) (((0 : Int32)).toInt) hr0 (hE_sub hz1) hf_B2_0 hf_B2_1 hrk_B2 (hE_lt cc7) (hE_rng (g4 14)) (hE_rng (g 14)) (hE_rng (y3)) (hE_rng (z1)) (by decide) (hE_rng (x3)) (by decide))⟩ hw dX9_putHigh_28
      · refine lv_aload_n hx hb dX9_putHigh_10 rfl (lv_at hl 0 rfl) ?_
        refine lv_lload_n hx hb dX9_putHigh_11 rfl (lv_at hl 1 rfl) ?_
        refine lv_bipush (v := 8) hx hb dX9_putHigh_12 (by decide) ?_
        refine lv_iload hx hb dX9_putHigh_14 (lv_at hl 2 rfl) ?_
        refine lv_imul hx hb dX9_putHigh_16 (jx_nm fun z8 hz8 => ?_)
        refine lv_lushr hx hb dX9_putHigh_17 rfl (jx_nl fun z9 hz9 => ?_)
        refine lv_l2i hx hb dX9_putHigh_18 rfl (jx_nm fun z10 hz10 => ?_)
        refine jx_Vv (As := [.int z10]) (rest := []) ⟨hx, hb, hml, hown, hts⟩ hZ hw hA (jx_X9_put_4 l hlt D t3 cI cJ ad g4 lg a5 bk _ z10) (cwV 1 hts (jx_gV wwX_good wX_701 wX_112 wX_113 wX_24 wX_114) rfl rfl rfl (by decide +kernel) ⟨Nat.le_of_ble_eq_true rfl, Nat.le_of_ble_eq_true rfl⟩) 4 (ci := 12) (T := TX9) (N := 2) rfl rfl rfl hl.1 rfl (Nat.le_of_ble_eq_true rfl) dX9_putHigh_19 ⟨Nat.le_of_ble_eq_true rfl, Nat.le_of_ble_eq_true rfl⟩ (fun _ _ _ _ _ _ _ _ hp _ _ _ _ => hp.elim) (fun g16 l17 a18 b19 H locs hp20 hw => ?_)
        obtain ⟨h21, h22, h23, h24⟩ := hp20
        obtain ⟨z25, hz25⟩ : ∃ z : Int32, x3 + (-1) = z := ⟨_, rfl⟩
        refine lv_iinc (v := z25) (lv' := [(4, .int z25), (0, .ref (ad 4)), (1, .long y1)]) hx hb dX9_putHigh_22 hl (k := 2) rfl hz25 (by decide) rfl (fun ls hl => ?_)
        refine lv_goto (tgt := 5) hx hb dX9_putHigh_25 (by decide) ?_
        exact ih_B2 z25 g16 a18 ls _ _ (ob13 ((z25).toInt) (k6 : Int) ((x3).toInt) ((((-1) : Int32)).toInt) ((y3).toInt) ((g4 14).toInt) ((g 14).toInt) (((0 : Int32)).toInt) ((z8).toInt) ((z1).toInt) (((1 : Int32)).toInt) ((g16 14).toInt) hrk_B2 (hE_add hz25) hf_B2_0 hf_B2_1 (hE_nlt cc7) (hE_mul' 8 hz8 (by decide)) hr0 (hE_sub hz1) h24 (hE_rng (z25)) (hE_rng (x3)) (by decide) (hE_rng (y3)) (hE_rng (g4 14)) (hE_rng (g 14)) (by decide) (hE_rng (z8)) (hE_rng (z1)) (by decide) (hE_rng (g16 14))) (ob14 ((z25).toInt) ((y3).toInt) ((z1).toInt) (((1 : Int32)).toInt) ((x3).toInt) ((g4 14).toInt) ((g 14).toInt) ((((-1) : Int32)).toInt) (k6 : Int) (((0 : Int32)).toInt) ((z8).toInt) ((g16 14).toInt) hr0 (hE_sub hz1) hf_B2_0 hf_B2_1 (hE_add hz25) hrk_B2 (hE_nlt cc7) (hE_mul' 8 hz8 (by decide)) h24 (hE_rng (z25)) (hE_rng (y3)) (hE_rng (z1)) (by decide) (hE_rng (x3)) (hE_rng (g4 14)) (hE_rng (g 14)) (by decide) (by decide) (hE_rng (z8)) (hE_rng (g16 14))) (ob15 ((g16 14).toInt) ((g 14).toInt) ((y3).toInt) ((z25).toInt) ((z1).toInt) (((1 : Int32)).toInt) ((x3).toInt) ((g4 14).toInt) ((((-1) : Int32)).toInt) (k6 : Int) (((0 : Int32)).toInt) ((z8).toInt) hr0 (hE_sub hz1) hf_B2_0 hf_B2_1 h24 (hE_add hz25) hrk_B2 (hE_nlt cc7) (hE_mul' 8 hz8 (by decide)) (hE_rng (g16 14)) (hE_rng (g 14)) (hE_rng (y3)) (hE_rng (z25)) (hE_rng (z1)) (by decide) (hE_rng (x3)) (hE_rng (g4 14)) (by decide) (by decide) (hE_rng (z8))) (hk_frT hfr_g4 (by decide) h21) (hk_frT hfr_a5 (by decide) h23) hw (lv_sub hl [1, 2, 0] rfl)
  exact B2 ((z1).toInt + 2147483649).toNat z1 g ar ls _ _ (Int.self_le_toNat _) (ob16 ((z1).toInt) ((y3).toInt) (((1 : Int32)).toInt) hr0 (hE_sub hz1) (hE_rng (z1)) (hE_rng (y3)) (by decide)) (ob17 ((g 14).toInt) ((y3).toInt) ((z1).toInt) (((1 : Int32)).toInt) hr0 (hE_sub hz1) (hE_rng (g 14)) (hE_rng (y3)) (hE_rng (z1)) (by decide)) hk_fr0 hk_fr0 hw (lv_sub hl [1, 2, 0] rfl)

set_option maxHeartbeats 4000000 in
set_option maxRecDepth 100000 in
/-- X9_putHigh on (29,) -/
theorem jx_X9_putHigh_29 (l : Launch) (hlt : l.stackTraces = false) (D : va_G) (t3 : Nat × Nat × Nat) (cI cJ : ClassId) (ad : Nat → Nat) (g : Nat → Int32) (lg : Nat → Int64) (ar : Nat → Nat → Int32) (bk : Nat → Int64) (sz : Nat) (y1 : Int64) (y3 : Int32) (hr0 : 0 ≤ (y3).toInt ∧ (y3).toInt ≤ 8) : JMv l yX9_putHigh (Cond.code yX9_putHigh cX9_putHigh 5 none :: wwX) { frames := 2, cells := 1, slots := 6, locals := 43 } t3 D xw cI cJ ad [.ref (ad 29), .long y1, .int y3] (xw cI cJ ad g lg ar bk) sz 1 6 (fun g' lg' ar' bk' => hk_fr [53] g g' ∧ hk_fr [] lg lg' ∧ hk_fr [15] ar ar' ∧ ((g' 53).toInt = ((g 53).toInt + (y3).toInt + 2147483648) % 4294967296 - 2147483648)) (fun g' lg' ar' bk' => False) := by
  refine jx_metv (cc := cX9_putHigh) (maxL := 5) (ret := none) rfl (by decide) rfl (Nat.le_of_ble_eq_true rfl) ?_
  intro p e s m args below meth c ls Q A hx hb hml hown hts hA hZ hw hl hQ kr kt
  have hq : ∀ w ∈ wwX, w.before args s = true := fun w h => hts w (List.mem_cons_of_mem _ h)
  have hl : lv_has ls 5 [(0, .ref (ad 29)), (1, .long y1), (3, .int y3)] := hl
  refine lv_iload_n hx hb dX9_putHigh_0 rfl (lv_at hl 2 rfl) ?_
  refine lv_iconst (v := 1) hx hb dX9_putHigh_1 (by decide) ?_
  refine lv_isub hx hb dX9_putHigh_2 (jx_nm fun z1 hz1 => ?_)
  refine lv_istore (lv' := [(4, .int z1), (0, .ref (ad 29)), (1, .long y1), (3, .int y3)]) hx hb dX9_putHigh_3 hl (by decide) rfl (fun ls hl => ?_)
  have B2 : ∀ (k6 : Nat) (x3 : Int32) (g4 : Nat → Int32) (a5 : Nat → Nat → Int32) (ls : Array Slot) (H : Heap) (locs : List Loc), (x3).toInt + 2147483649 ≤ (k6 : Int) → -1 ≤ (x3).toInt ∧ (x3).toInt < (y3).toInt → (g4 53).toInt = ((g 53).toInt + (y3).toInt - 1 - (x3).toInt + 2147483648) % 4294967296 - 2147483648 → hk_fr [53] g g4 → hk_fr [15] ar a5 → hk_W D (jT cI cJ) A s H locs (xw cI cJ ad g4 lg a5 bk) → lv_has ls 5 [(0, .ref (ad 29)), (1, .long y1), (4, .int x3)] → W p l e { frames := 2, cells := 1, slots := 6, locals := 43 } s m args below meth c H locs 0 0 Q (F0 m 5 ls []) := by
    intro k6
    induction k6 with
    | zero =>
      intro x3 g4 a5 ls H locs hrk_B2 hf_B2_0 hf_B2_1 hfr_g4 hfr_a5 hw hl
      exact False.elim (hk_no0 (0 * (x3).toInt) (ob11 ((x3).toInt) ((y3).toInt) ((g4 53).toInt) ((g 53).toInt) ((z1).toInt) (((1 : Int32)).toInt) hf_B2_0 hf_B2_1 hrk_B2 hr0 (hE_sub hz1) (hE_rng (x3)) (hE_rng (y3)) (hE_rng (g4 53)) (hE_rng (g 53)) (hE_rng (z1)) (by decide)) (by simp))
    | succ k6 ih_B2 =>
      intro x3 g4 a5 ls H locs hrk_B2 hf_B2_0 hf_B2_1 hfr_g4 hfr_a5 hw hl
      have hrk_B2 := hk_rk hrk_B2
      refine lv_iload hx hb dX9_putHigh_5 (lv_at hl 2 rfl) ?_
      refine lv_if_lt (tgt := 28) hx hb dX9_putHigh_7 (by decide) (fun cc7 => ?_) (fun cc7 => ?_)
      · exact kr g4 lg a5 bk _ _ _ _ ⟨hfr_g4, hk_fr0, hfr_a5, (ob12 ((g4 53).toInt) ((g 53).toInt) ((y3).toInt) ((z1).toInt) (((1 : Int32)).toInt) ((x3).toInt) (k6 : Int) (((0 : Int32)).toInt) hr0 (hE_sub hz1) hf_B2_0 hf_B2_1 hrk_B2 (hE_lt cc7) (hE_rng (g4 53)) (hE_rng (g 53)) (hE_rng (y3)) (hE_rng (z1)) (by decide) (hE_rng (x3)) (by decide))⟩ hw dX9_putHigh_28
      · refine lv_aload_n hx hb dX9_putHigh_10 rfl (lv_at hl 0 rfl) ?_
        refine lv_lload_n hx hb dX9_putHigh_11 rfl (lv_at hl 1 rfl) ?_
        refine lv_bipush (v := 8) hx hb dX9_putHigh_12 (by decide) ?_
        refine lv_iload hx hb dX9_putHigh_14 (lv_at hl 2 rfl) ?_
        refine lv_imul hx hb dX9_putHigh_16 (jx_nm fun z8 hz8 => ?_)
        refine lv_lushr hx hb dX9_putHigh_17 rfl (jx_nl fun z9 hz9 => ?_)
        refine lv_l2i hx hb dX9_putHigh_18 rfl (jx_nm fun z10 hz10 => ?_)
        refine jx_Vv (As := [.int z10]) (rest := []) ⟨hx, hb, hml, hown, hts⟩ hZ hw hA (jx_X9_put_29 l hlt D t3 cI cJ ad g4 lg a5 bk _ z10) (cwV 1 hts (jx_gV wwX_good wX_701 wX_112 wX_113 wX_24 wX_114) rfl rfl rfl (by decide +kernel) ⟨Nat.le_of_ble_eq_true rfl, Nat.le_of_ble_eq_true rfl⟩) 29 (ci := 12) (T := TX9) (N := 2) rfl rfl rfl hl.1 rfl (Nat.le_of_ble_eq_true rfl) dX9_putHigh_19 ⟨Nat.le_of_ble_eq_true rfl, Nat.le_of_ble_eq_true rfl⟩ (fun _ _ _ _ _ _ _ _ hp _ _ _ _ => hp.elim) (fun g16 l17 a18 b19 H locs hp20 hw => ?_)
        obtain ⟨h21, h22, h23, h24⟩ := hp20
        obtain ⟨z25, hz25⟩ : ∃ z : Int32, x3 + (-1) = z := ⟨_, rfl⟩
        refine lv_iinc (v := z25) (lv' := [(4, .int z25), (0, .ref (ad 29)), (1, .long y1)]) hx hb dX9_putHigh_22 hl (k := 2) rfl hz25 (by decide) rfl (fun ls hl => ?_)
        refine lv_goto (tgt := 5) hx hb dX9_putHigh_25 (by decide) ?_
        exact ih_B2 z25 g16 a18 ls _ _ (ob13 ((z25).toInt) (k6 : Int) ((x3).toInt) ((((-1) : Int32)).toInt) ((y3).toInt) ((g4 53).toInt) ((g 53).toInt) (((0 : Int32)).toInt) ((z8).toInt) ((z1).toInt) (((1 : Int32)).toInt) ((g16 53).toInt) hrk_B2 (hE_add hz25) hf_B2_0 hf_B2_1 (hE_nlt cc7) (hE_mul' 8 hz8 (by decide)) hr0 (hE_sub hz1) h24 (hE_rng (z25)) (hE_rng (x3)) (by decide) (hE_rng (y3)) (hE_rng (g4 53)) (hE_rng (g 53)) (by decide) (hE_rng (z8)) (hE_rng (z1)) (by decide) (hE_rng (g16 53))) (ob14 ((z25).toInt) ((y3).toInt) ((z1).toInt) (((1 : Int32)).toInt) ((x3).toInt) ((g4 53).toInt) ((g 53).toInt) ((((-1) : Int32)).toInt) (k6 : Int) (((0 : Int32)).toInt) ((z8).toInt) ((g16 53).toInt) hr0 (hE_sub hz1) hf_B2_0 hf_B2_1 (hE_add hz25) hrk_B2 (hE_nlt cc7) (hE_mul' 8 hz8 (by decide)) h24 (hE_rng (z25)) (hE_rng (y3)) (hE_rng (z1)) (by decide) (hE_rng (x3)) (hE_rng (g4 53)) (hE_rng (g 53)) (by decide) (by decide) (hE_rng (z8)) (hE_rng (g16 53))) (ob15 ((g16 53).toInt) ((g 53).toInt) ((y3).toInt) ((z25).toInt) ((z1).toInt) (((1 : Int32)).toInt) ((x3).toInt) ((g4 53).toInt) ((((-1) : Int32)).toInt) (k6 : Int) (((0 : Int32)).toInt) ((z8).toInt) hr0 (hE_sub hz1) hf_B2_0 hf_B2_1 h24 (hE_add hz25) hrk_B2 (hE_nlt cc7) (hE_mul' 8 hz8 (by decide)) (hE_rng (g16 53)) (hE_rng (g 53)) (hE_rng (y3)) (hE_rng (z25)) (hE_rng (z1)) (by decide) (hE_rng (x3)) (hE_rng (g4 53)) (by decide) (by decide) (hE_rng (z8))) (hk_frT hfr_g4 (by decide) h21) (hk_frT hfr_a5 (by decide) h23) hw (lv_sub hl [1, 2, 0] rfl)
  exact B2 ((z1).toInt + 2147483649).toNat z1 g ar ls _ _ (Int.self_le_toNat _) (ob16 ((z1).toInt) ((y3).toInt) (((1 : Int32)).toInt) hr0 (hE_sub hz1) (hE_rng (z1)) (hE_rng (y3)) (by decide)) (ob17 ((g 53).toInt) ((y3).toInt) ((z1).toInt) (((1 : Int32)).toInt) hr0 (hE_sub hz1) (hE_rng (g 53)) (hE_rng (y3)) (hE_rng (z1)) (by decide)) hk_fr0 hk_fr0 hw (lv_sub hl [1, 2, 0] rfl)

set_option maxHeartbeats 4000000 in
set_option maxRecDepth 100000 in
/-- X9_putNumber on (2,) -/
theorem jx_X9_putNumber_2 (l : Launch) (hlt : l.stackTraces = false) (D : va_G) (t3 : Nat × Nat × Nat) (cI cJ : ClassId) (ad : Nat → Nat) (g : Nat → Int32) (lg : Nat → Int64) (ar : Nat → Nat → Int32) (bk : Nat → Int64) (sz : Nat) (y1 : Int32) (hi_a0rg : hk_rg 0 255 (ar 0)) (hi_g13 : 0 ≤ (g 13).toInt ∧ (g 13).toInt ≤ 1500) : JMv l yX9_putNumber (Cond.code yX9_putNumber cX9_putNumber 4 none :: wwX) { frames := 2, cells := 1, slots := 6, locals := 43 } t3 D xw cI cJ ad [.ref (ad 2), .int y1] (xw cI cJ ad g lg ar bk) sz 1 6 (fun g' lg' ar' bk' => hk_fr [13] g g' ∧ hk_fr [] lg lg' ∧ hk_fr [0] ar ar' ∧ hk_rg 0 255 (ar' 0) ∧ (0 ≤ (g' 13).toInt ∧ (g' 13).toInt ≤ 1500)) (fun g' lg' ar' bk' => False) := by
  refine jx_metv (cc := cX9_putNumber) (maxL := 4) (ret := none) rfl (by decide) rfl (Nat.le_of_ble_eq_true rfl) ?_
  intro p e s m args below meth c ls Q A hx hb hml hown hts hA hZ hw hl hQ kr kt
  have hq : ∀ w ∈ wwX, w.before args s = true := fun w h => hts w (List.mem_cons_of_mem _ h)
  have hl : lv_has ls 4 [(0, .ref (ad 2)), (1, .int y1)] := hl
  refine lv_iload_n hx hb dX9_putNumber_0 rfl (lv_at hl 1 rfl) ?_
  refine lv_istore_n (lv' := [(2, .int y1), (0, .ref (ad 2)), (1, .int y1)]) hx hb dX9_putNumber_1 rfl hl (by decide) rfl (fun ls hl => ?_)
  refine lv_iconst (v := 0) hx hb dX9_putNumber_2 (by decide) ?_
  refine lv_istore_n (lv' := [(3, .int 0), (2, .int y1), (0, .ref (ad 2)), (1, .int y1)]) hx hb dX9_putNumber_3 rfl hl (by decide) rfl (fun ls hl => ?_)
  have B1 : ∀ (k6 : Nat) (x2 : Int32) (x3 : Int32) (g4 : Nat → Int32) (a5 : Nat → Nat → Int32) (ls : Array Slot) (H : Heap) (locs : List Loc), 2147483648 - (x3).toInt ≤ (k6 : Int) → 0 ≤ (x3).toInt → 0 ≤ (g4 13).toInt ∧ (g4 13).toInt ≤ 1500 → hk_fr [13] g g4 → hk_fr [0] ar a5 → hk_rg 0 255 (a5 0) → hk_W D (jT cI cJ) A s H locs (xw cI cJ ad g4 lg a5 bk) → lv_has ls 4 [(0, .ref (ad 2)), (2, .int x2), (3, .int x3)] → W p l e { frames := 2, cells := 1, slots := 6, locals := 43 } s m args below meth c H locs 0 0 Q (F0 m 4 ls []) := by
    intro k6
    induction k6 with
    | zero =>
      intro x2 x3 g4 a5 ls H locs hrk_B1 hf_B1_0 hf_B1_1 hfr_g4 hfr_a5 ha5_r0rg hw hl
      exact False.elim (hk_no0 (0 * (x3).toInt) (ob5 ((x3).toInt) hf_B1_0 hrk_B1 (hE_rng (x3))) (by simp))
    | succ k6 ih_B1 =>
      intro x2 x3 g4 a5 ls H locs hrk_B1 hf_B1_0 hf_B1_1 hfr_g4 hfr_a5 ha5_r0rg hw hl
      have hrk_B1 := hk_rk hrk_B1
      refine lv_iload_n hx hb dX9_putNumber_4 rfl (lv_at hl 2 rfl) ?_
      refine lv_iconst (v := 4) hx hb dX9_putNumber_5 (by decide) ?_
      have B7 : ∀  (ls : Array Slot) (H : Heap) (locs : List Loc), hk_W D (jT cI cJ) A s H locs (xw cI cJ ad g4 lg a5 bk) → lv_has ls 4 [(0, .ref (ad 2)), (2, .int x2)] → W p l e { frames := 2, cells := 1, slots := 6, locals := 43 } s m args below meth c H locs 0 0 Q (F0 m 38 ls []) := by
        intro ls H locs hw hl
        refine lv_aload_n hx hb dX9_putNumber_38 rfl (lv_at hl 0 rfl) ?_
        refine lv_iload_n hx hb dX9_putNumber_39 rfl (lv_at hl 1 rfl) ?_
        refine lv_bipush (v := 127) hx hb dX9_putNumber_40 (by decide) ?_
        refine lv_iand hx hb dX9_putNumber_42 (jx_nm fun z8 hz8 => ?_)
        refine jx_Vv (As := [.int z8]) (rest := []) ⟨hx, hb, hml, hown, hts⟩ hZ hw hA (jx_X9_put_2 l hlt D t3 cI cJ ad g4 lg a5 bk _ z8 ha5_r0rg) (cwV 1 hts (jx_gV wwX_good wX_701 wX_112 wX_113 wX_24 wX_114) rfl rfl rfl (by decide +kernel) ⟨Nat.le_of_ble_eq_true rfl, Nat.le_of_ble_eq_true rfl⟩) 2 (ci := 12) (T := TX9) (N := 2) rfl rfl rfl hl.1 rfl (Nat.le_of_ble_eq_true rfl) dX9_putNumber_43 ⟨Nat.le_of_ble_eq_true rfl, Nat.le_of_ble_eq_true rfl⟩ (fun _ _ _ _ _ _ _ _ hp _ _ _ _ => hp.elim) (fun g14 l15 a16 b17 H locs hp18 hw => ?_)
        obtain ⟨h19, h20, h21, h22, h23⟩ := hp18
        exact kr g14 l15 a16 b17 _ _ _ _ ⟨(hk_frT hfr_g4 (by decide) h19), h20, (hk_frT hfr_a5 (by decide) h21), h23, (ob9 ((g14 13).toInt) ((g4 13).toInt) h22 hf_B1_1 (hE_rng (g14 13)) (hE_rng (g4 13)))⟩ hw dX9_putNumber_46
      refine lv_icmp_ge (tgt := 38) hx hb dX9_putNumber_6 (by decide) (fun cc24 => ?_) (fun cc24 => ?_)
      · exact B7 ls _ _ hw (lv_sub hl [0, 1] rfl)
      · refine lv_iload_n hx hb dX9_putNumber_9 rfl (lv_at hl 1 rfl) ?_
        refine lv_bipush (v := 127) hx hb dX9_putNumber_10 (by decide) ?_
        refine lv_icmp_le (tgt := 38) hx hb dX9_putNumber_12 (by decide) (fun cc25 => ?_) (fun cc25 => ?_)
        · exact B7 ls _ _ hw (lv_sub hl [0, 1] rfl)
        · refine lv_aload_n hx hb dX9_putNumber_15 rfl (lv_at hl 0 rfl) ?_
          refine lv_iload_n hx hb dX9_putNumber_16 rfl (lv_at hl 1 rfl) ?_
          refine lv_bipush (v := 127) hx hb dX9_putNumber_17 (by decide) ?_
          refine lv_iand hx hb dX9_putNumber_19 (jx_nm fun z26 hz26 => ?_)
          refine lv_sipush (v := 128) hx hb dX9_putNumber_20 (by decide) ?_
          refine lv_ior hx hb dX9_putNumber_23 (jx_nm fun z27 hz27 => ?_)
          refine jx_Vv (As := [.int z27]) (rest := []) ⟨hx, hb, hml, hown, hts⟩ hZ hw hA (jx_X9_put_2 l hlt D t3 cI cJ ad g4 lg a5 bk _ z27 ha5_r0rg) (cwV 1 hts (jx_gV wwX_good wX_701 wX_112 wX_113 wX_24 wX_114) rfl rfl rfl (by decide +kernel) ⟨Nat.le_of_ble_eq_true rfl, Nat.le_of_ble_eq_true rfl⟩) 2 (ci := 12) (T := TX9) (N := 2) rfl rfl rfl hl.1 rfl (Nat.le_of_ble_eq_true rfl) dX9_putNumber_24 ⟨Nat.le_of_ble_eq_true rfl, Nat.le_of_ble_eq_true rfl⟩ (fun _ _ _ _ _ _ _ _ hp _ _ _ _ => hp.elim) (fun g33 l34 a35 b36 H locs hp37 hw => ?_)
          obtain ⟨h38, h39, h40, h41, h42⟩ := hp37
          refine lv_iload_n hx hb dX9_putNumber_27 rfl (lv_at hl 1 rfl) ?_
          refine lv_bipush (v := 7) hx hb dX9_putNumber_28 (by decide) ?_
          refine lv_iushr hx hb dX9_putNumber_30 rfl (jx_nm fun z43 hz43 => ?_)
          refine lv_istore_n (lv' := [(2, .int z43), (0, .ref (ad 2)), (3, .int x3)]) hx hb dX9_putNumber_31 rfl hl (by decide) rfl (fun ls hl => ?_)
          obtain ⟨z44, hz44⟩ : ∃ z : Int32, x3 + 1 = z := ⟨_, rfl⟩
          refine lv_iinc (v := z44) (lv' := [(3, .int z44), (2, .int z43), (0, .ref (ad 2))]) hx hb dX9_putNumber_32 hl (k := 2) rfl hz44 (by decide) rfl (fun ls hl => ?_)
          refine lv_goto (tgt := 4) hx hb dX9_putNumber_35 (by decide) ?_
          exact ih_B1 z43 z44 g33 a35 ls _ _ (ob18 ((z44).toInt) (k6 : Int) ((x3).toInt) (((1 : Int32)).toInt) (((4 : Int32)).toInt) hrk_B1 (hE_add hz44) hf_B1_0 (hE_nle cc24) (hE_rng (z44)) (hE_rng (x3)) (by decide) (by decide)) (ob19 ((z44).toInt) ((x3).toInt) (((1 : Int32)).toInt) (k6 : Int) (((4 : Int32)).toInt) (hE_add hz44) hf_B1_0 hrk_B1 (hE_nle cc24) (hE_rng (z44)) (hE_rng (x3)) (by decide) (by decide)) (ob9 ((g33 13).toInt) ((g4 13).toInt) h41 hf_B1_1 (hE_rng (g33 13)) (hE_rng (g4 13))) (hk_frT hfr_g4 (by decide) h38) (hk_frT hfr_a5 (by decide) h40) h42 hw (lv_sub hl [2, 1, 0] rfl)
  exact B1 (2147483648 - ((0 : Int32)).toInt).toNat y1 0 g ar ls _ _ (Int.self_le_toNat _) (ob10 (((0 : Int32)).toInt) (by decide)) (ob6 ((g 13).toInt) hi_g13 (hE_rng (g 13))) hk_fr0 hk_fr0 hi_a0rg hw (lv_sub hl [2, 1, 0] rfl)

set_option maxHeartbeats 4000000 in
set_option maxRecDepth 100000 in
/-- X9_putNumber on (4,) -/
theorem jx_X9_putNumber_4 (l : Launch) (hlt : l.stackTraces = false) (D : va_G) (t3 : Nat × Nat × Nat) (cI cJ : ClassId) (ad : Nat → Nat) (g : Nat → Int32) (lg : Nat → Int64) (ar : Nat → Nat → Int32) (bk : Nat → Int64) (sz : Nat) (y1 : Int32) : JMv l yX9_putNumber (Cond.code yX9_putNumber cX9_putNumber 4 none :: wwX) { frames := 2, cells := 1, slots := 6, locals := 43 } t3 D xw cI cJ ad [.ref (ad 4), .int y1] (xw cI cJ ad g lg ar bk) sz 1 6 (fun g' lg' ar' bk' => hk_fr [14] g g' ∧ hk_fr [] lg lg' ∧ hk_fr [1] ar ar') (fun g' lg' ar' bk' => False) := by
  refine jx_metv (cc := cX9_putNumber) (maxL := 4) (ret := none) rfl (by decide) rfl (Nat.le_of_ble_eq_true rfl) ?_
  intro p e s m args below meth c ls Q A hx hb hml hown hts hA hZ hw hl hQ kr kt
  have hq : ∀ w ∈ wwX, w.before args s = true := fun w h => hts w (List.mem_cons_of_mem _ h)
  have hl : lv_has ls 4 [(0, .ref (ad 4)), (1, .int y1)] := hl
  refine lv_iload_n hx hb dX9_putNumber_0 rfl (lv_at hl 1 rfl) ?_
  refine lv_istore_n (lv' := [(2, .int y1), (0, .ref (ad 4)), (1, .int y1)]) hx hb dX9_putNumber_1 rfl hl (by decide) rfl (fun ls hl => ?_)
  refine lv_iconst (v := 0) hx hb dX9_putNumber_2 (by decide) ?_
  refine lv_istore_n (lv' := [(3, .int 0), (2, .int y1), (0, .ref (ad 4)), (1, .int y1)]) hx hb dX9_putNumber_3 rfl hl (by decide) rfl (fun ls hl => ?_)
  have B1 : ∀ (k6 : Nat) (x2 : Int32) (x3 : Int32) (g4 : Nat → Int32) (a5 : Nat → Nat → Int32) (ls : Array Slot) (H : Heap) (locs : List Loc), 2147483648 - (x3).toInt ≤ (k6 : Int) → 0 ≤ (x3).toInt → hk_fr [14] g g4 → hk_fr [1] ar a5 → hk_W D (jT cI cJ) A s H locs (xw cI cJ ad g4 lg a5 bk) → lv_has ls 4 [(0, .ref (ad 4)), (2, .int x2), (3, .int x3)] → W p l e { frames := 2, cells := 1, slots := 6, locals := 43 } s m args below meth c H locs 0 0 Q (F0 m 4 ls []) := by
    intro k6
    induction k6 with
    | zero =>
      intro x2 x3 g4 a5 ls H locs hrk_B1 hf_B1_0 hfr_g4 hfr_a5 hw hl
      exact False.elim (hk_no0 (0 * (x3).toInt) (ob5 ((x3).toInt) hf_B1_0 hrk_B1 (hE_rng (x3))) (by simp))
    | succ k6 ih_B1 =>
      intro x2 x3 g4 a5 ls H locs hrk_B1 hf_B1_0 hfr_g4 hfr_a5 hw hl
      have hrk_B1 := hk_rk hrk_B1
      refine lv_iload_n hx hb dX9_putNumber_4 rfl (lv_at hl 2 rfl) ?_
      refine lv_iconst (v := 4) hx hb dX9_putNumber_5 (by decide) ?_
      have B7 : ∀  (ls : Array Slot) (H : Heap) (locs : List Loc), hk_W D (jT cI cJ) A s H locs (xw cI cJ ad g4 lg a5 bk) → lv_has ls 4 [(0, .ref (ad 4)), (2, .int x2)] → W p l e { frames := 2, cells := 1, slots := 6, locals := 43 } s m args below meth c H locs 0 0 Q (F0 m 38 ls []) := by
        intro ls H locs hw hl
        refine lv_aload_n hx hb dX9_putNumber_38 rfl (lv_at hl 0 rfl) ?_
        refine lv_iload_n hx hb dX9_putNumber_39 rfl (lv_at hl 1 rfl) ?_
        refine lv_bipush (v := 127) hx hb dX9_putNumber_40 (by decide) ?_
        refine lv_iand hx hb dX9_putNumber_42 (jx_nm fun z8 hz8 => ?_)
        refine jx_Vv (As := [.int z8]) (rest := []) ⟨hx, hb, hml, hown, hts⟩ hZ hw hA (jx_X9_put_4 l hlt D t3 cI cJ ad g4 lg a5 bk _ z8) (cwV 1 hts (jx_gV wwX_good wX_701 wX_112 wX_113 wX_24 wX_114) rfl rfl rfl (by decide +kernel) ⟨Nat.le_of_ble_eq_true rfl, Nat.le_of_ble_eq_true rfl⟩) 4 (ci := 12) (T := TX9) (N := 2) rfl rfl rfl hl.1 rfl (Nat.le_of_ble_eq_true rfl) dX9_putNumber_43 ⟨Nat.le_of_ble_eq_true rfl, Nat.le_of_ble_eq_true rfl⟩ (fun _ _ _ _ _ _ _ _ hp _ _ _ _ => hp.elim) (fun g14 l15 a16 b17 H locs hp18 hw => ?_)
        obtain ⟨h19, h20, h21, h22⟩ := hp18
        exact kr g14 l15 a16 b17 _ _ _ _ ⟨(hk_frT hfr_g4 (by decide) h19), h20, (hk_frT hfr_a5 (by decide) h21)⟩ hw dX9_putNumber_46
      refine lv_icmp_ge (tgt := 38) hx hb dX9_putNumber_6 (by decide) (fun cc23 => ?_) (fun cc23 => ?_)
      · exact B7 ls _ _ hw (lv_sub hl [0, 1] rfl)
      · refine lv_iload_n hx hb dX9_putNumber_9 rfl (lv_at hl 1 rfl) ?_
        refine lv_bipush (v := 127) hx hb dX9_putNumber_10 (by decide) ?_
        refine lv_icmp_le (tgt := 38) hx hb dX9_putNumber_12 (by decide) (fun cc24 => ?_) (fun cc24 => ?_)
        · exact B7 ls _ _ hw (lv_sub hl [0, 1] rfl)
        · refine lv_aload_n hx hb dX9_putNumber_15 rfl (lv_at hl 0 rfl) ?_
          refine lv_iload_n hx hb dX9_putNumber_16 rfl (lv_at hl 1 rfl) ?_
          refine lv_bipush (v := 127) hx hb dX9_putNumber_17 (by decide) ?_
          refine lv_iand hx hb dX9_putNumber_19 (jx_nm fun z25 hz25 => ?_)
          refine lv_sipush (v := 128) hx hb dX9_putNumber_20 (by decide) ?_
          refine lv_ior hx hb dX9_putNumber_23 (jx_nm fun z26 hz26 => ?_)
          refine jx_Vv (As := [.int z26]) (rest := []) ⟨hx, hb, hml, hown, hts⟩ hZ hw hA (jx_X9_put_4 l hlt D t3 cI cJ ad g4 lg a5 bk _ z26) (cwV 1 hts (jx_gV wwX_good wX_701 wX_112 wX_113 wX_24 wX_114) rfl rfl rfl (by decide +kernel) ⟨Nat.le_of_ble_eq_true rfl, Nat.le_of_ble_eq_true rfl⟩) 4 (ci := 12) (T := TX9) (N := 2) rfl rfl rfl hl.1 rfl (Nat.le_of_ble_eq_true rfl) dX9_putNumber_24 ⟨Nat.le_of_ble_eq_true rfl, Nat.le_of_ble_eq_true rfl⟩ (fun _ _ _ _ _ _ _ _ hp _ _ _ _ => hp.elim) (fun g32 l33 a34 b35 H locs hp36 hw => ?_)
          obtain ⟨h37, h38, h39, h40⟩ := hp36
          refine lv_iload_n hx hb dX9_putNumber_27 rfl (lv_at hl 1 rfl) ?_
          refine lv_bipush (v := 7) hx hb dX9_putNumber_28 (by decide) ?_
          refine lv_iushr hx hb dX9_putNumber_30 rfl (jx_nm fun z41 hz41 => ?_)
          refine lv_istore_n (lv' := [(2, .int z41), (0, .ref (ad 4)), (3, .int x3)]) hx hb dX9_putNumber_31 rfl hl (by decide) rfl (fun ls hl => ?_)
          obtain ⟨z42, hz42⟩ : ∃ z : Int32, x3 + 1 = z := ⟨_, rfl⟩
          refine lv_iinc (v := z42) (lv' := [(3, .int z42), (2, .int z41), (0, .ref (ad 4))]) hx hb dX9_putNumber_32 hl (k := 2) rfl hz42 (by decide) rfl (fun ls hl => ?_)
          refine lv_goto (tgt := 4) hx hb dX9_putNumber_35 (by decide) ?_
          exact ih_B1 z41 z42 g32 a34 ls _ _ (ob18 ((z42).toInt) (k6 : Int) ((x3).toInt) (((1 : Int32)).toInt) (((4 : Int32)).toInt) hrk_B1 (hE_add hz42) hf_B1_0 (hE_nle cc23) (hE_rng (z42)) (hE_rng (x3)) (by decide) (by decide)) (ob19 ((z42).toInt) ((x3).toInt) (((1 : Int32)).toInt) (k6 : Int) (((4 : Int32)).toInt) (hE_add hz42) hf_B1_0 hrk_B1 (hE_nle cc23) (hE_rng (z42)) (hE_rng (x3)) (by decide) (by decide)) (hk_frT hfr_g4 (by decide) h37) (hk_frT hfr_a5 (by decide) h39) hw (lv_sub hl [2, 1, 0] rfl)
  exact B1 (2147483648 - ((0 : Int32)).toInt).toNat y1 0 g ar ls _ _ (Int.self_le_toNat _) (ob10 (((0 : Int32)).toInt) (by decide)) hk_fr0 hk_fr0 hw (lv_sub hl [2, 1, 0] rfl)

set_option maxHeartbeats 4000000 in
set_option maxRecDepth 100000 in
/-- X9_putNumber on (29,) -/
theorem jx_X9_putNumber_29 (l : Launch) (hlt : l.stackTraces = false) (D : va_G) (t3 : Nat × Nat × Nat) (cI cJ : ClassId) (ad : Nat → Nat) (g : Nat → Int32) (lg : Nat → Int64) (ar : Nat → Nat → Int32) (bk : Nat → Int64) (sz : Nat) (y1 : Int32) : JMv l yX9_putNumber (Cond.code yX9_putNumber cX9_putNumber 4 none :: wwX) { frames := 2, cells := 1, slots := 6, locals := 43 } t3 D xw cI cJ ad [.ref (ad 29), .int y1] (xw cI cJ ad g lg ar bk) sz 1 6 (fun g' lg' ar' bk' => hk_fr [53] g g' ∧ hk_fr [] lg lg' ∧ hk_fr [15] ar ar') (fun g' lg' ar' bk' => False) := by
  refine jx_metv (cc := cX9_putNumber) (maxL := 4) (ret := none) rfl (by decide) rfl (Nat.le_of_ble_eq_true rfl) ?_
  intro p e s m args below meth c ls Q A hx hb hml hown hts hA hZ hw hl hQ kr kt
  have hq : ∀ w ∈ wwX, w.before args s = true := fun w h => hts w (List.mem_cons_of_mem _ h)
  have hl : lv_has ls 4 [(0, .ref (ad 29)), (1, .int y1)] := hl
  refine lv_iload_n hx hb dX9_putNumber_0 rfl (lv_at hl 1 rfl) ?_
  refine lv_istore_n (lv' := [(2, .int y1), (0, .ref (ad 29)), (1, .int y1)]) hx hb dX9_putNumber_1 rfl hl (by decide) rfl (fun ls hl => ?_)
  refine lv_iconst (v := 0) hx hb dX9_putNumber_2 (by decide) ?_
  refine lv_istore_n (lv' := [(3, .int 0), (2, .int y1), (0, .ref (ad 29)), (1, .int y1)]) hx hb dX9_putNumber_3 rfl hl (by decide) rfl (fun ls hl => ?_)
  have B1 : ∀ (k6 : Nat) (x2 : Int32) (x3 : Int32) (g4 : Nat → Int32) (a5 : Nat → Nat → Int32) (ls : Array Slot) (H : Heap) (locs : List Loc), 2147483648 - (x3).toInt ≤ (k6 : Int) → 0 ≤ (x3).toInt → hk_fr [53] g g4 → hk_fr [15] ar a5 → hk_W D (jT cI cJ) A s H locs (xw cI cJ ad g4 lg a5 bk) → lv_has ls 4 [(0, .ref (ad 29)), (2, .int x2), (3, .int x3)] → W p l e { frames := 2, cells := 1, slots := 6, locals := 43 } s m args below meth c H locs 0 0 Q (F0 m 4 ls []) := by
    intro k6
    induction k6 with
    | zero =>
      intro x2 x3 g4 a5 ls H locs hrk_B1 hf_B1_0 hfr_g4 hfr_a5 hw hl
      exact False.elim (hk_no0 (0 * (x3).toInt) (ob5 ((x3).toInt) hf_B1_0 hrk_B1 (hE_rng (x3))) (by simp))
    | succ k6 ih_B1 =>
      intro x2 x3 g4 a5 ls H locs hrk_B1 hf_B1_0 hfr_g4 hfr_a5 hw hl
      have hrk_B1 := hk_rk hrk_B1
      refine lv_iload_n hx hb dX9_putNumber_4 rfl (lv_at hl 2 rfl) ?_
      refine lv_iconst (v := 4) hx hb dX9_putNumber_5 (by decide) ?_
      have B7 : ∀  (ls : Array Slot) (H : Heap) (locs : List Loc), hk_W D (jT cI cJ) A s H locs (xw cI cJ ad g4 lg a5 bk) → lv_has ls 4 [(0, .ref (ad 29)), (2, .int x2)] → W p l e { frames := 2, cells := 1, slots := 6, locals := 43 } s m args below meth c H locs 0 0 Q (F0 m 38 ls []) := by
        intro ls H locs hw hl
        refine lv_aload_n hx hb dX9_putNumber_38 rfl (lv_at hl 0 rfl) ?_
        refine lv_iload_n hx hb dX9_putNumber_39 rfl (lv_at hl 1 rfl) ?_
        refine lv_bipush (v := 127) hx hb dX9_putNumber_40 (by decide) ?_
        refine lv_iand hx hb dX9_putNumber_42 (jx_nm fun z8 hz8 => ?_)
        refine jx_Vv (As := [.int z8]) (rest := []) ⟨hx, hb, hml, hown, hts⟩ hZ hw hA (jx_X9_put_29 l hlt D t3 cI cJ ad g4 lg a5 bk _ z8) (cwV 1 hts (jx_gV wwX_good wX_701 wX_112 wX_113 wX_24 wX_114) rfl rfl rfl (by decide +kernel) ⟨Nat.le_of_ble_eq_true rfl, Nat.le_of_ble_eq_true rfl⟩) 29 (ci := 12) (T := TX9) (N := 2) rfl rfl rfl hl.1 rfl (Nat.le_of_ble_eq_true rfl) dX9_putNumber_43 ⟨Nat.le_of_ble_eq_true rfl, Nat.le_of_ble_eq_true rfl⟩ (fun _ _ _ _ _ _ _ _ hp _ _ _ _ => hp.elim) (fun g14 l15 a16 b17 H locs hp18 hw => ?_)
        obtain ⟨h19, h20, h21, h22⟩ := hp18
        exact kr g14 l15 a16 b17 _ _ _ _ ⟨(hk_frT hfr_g4 (by decide) h19), h20, (hk_frT hfr_a5 (by decide) h21)⟩ hw dX9_putNumber_46
      refine lv_icmp_ge (tgt := 38) hx hb dX9_putNumber_6 (by decide) (fun cc23 => ?_) (fun cc23 => ?_)
      · exact B7 ls _ _ hw (lv_sub hl [0, 1] rfl)
      · refine lv_iload_n hx hb dX9_putNumber_9 rfl (lv_at hl 1 rfl) ?_
        refine lv_bipush (v := 127) hx hb dX9_putNumber_10 (by decide) ?_
        refine lv_icmp_le (tgt := 38) hx hb dX9_putNumber_12 (by decide) (fun cc24 => ?_) (fun cc24 => ?_)
        · exact B7 ls _ _ hw (lv_sub hl [0, 1] rfl)
        · refine lv_aload_n hx hb dX9_putNumber_15 rfl (lv_at hl 0 rfl) ?_
          refine lv_iload_n hx hb dX9_putNumber_16 rfl (lv_at hl 1 rfl) ?_
          refine lv_bipush (v := 127) hx hb dX9_putNumber_17 (by decide) ?_
          refine lv_iand hx hb dX9_putNumber_19 (jx_nm fun z25 hz25 => ?_)
          refine lv_sipush (v := 128) hx hb dX9_putNumber_20 (by decide) ?_
          refine lv_ior hx hb dX9_putNumber_23 (jx_nm fun z26 hz26 => ?_)
          refine jx_Vv (As := [.int z26]) (rest := []) ⟨hx, hb, hml, hown, hts⟩ hZ hw hA (jx_X9_put_29 l hlt D t3 cI cJ ad g4 lg a5 bk _ z26) (cwV 1 hts (jx_gV wwX_good wX_701 wX_112 wX_113 wX_24 wX_114) rfl rfl rfl (by decide +kernel) ⟨Nat.le_of_ble_eq_true rfl, Nat.le_of_ble_eq_true rfl⟩) 29 (ci := 12) (T := TX9) (N := 2) rfl rfl rfl hl.1 rfl (Nat.le_of_ble_eq_true rfl) dX9_putNumber_24 ⟨Nat.le_of_ble_eq_true rfl, Nat.le_of_ble_eq_true rfl⟩ (fun _ _ _ _ _ _ _ _ hp _ _ _ _ => hp.elim) (fun g32 l33 a34 b35 H locs hp36 hw => ?_)
          obtain ⟨h37, h38, h39, h40⟩ := hp36
          refine lv_iload_n hx hb dX9_putNumber_27 rfl (lv_at hl 1 rfl) ?_
          refine lv_bipush (v := 7) hx hb dX9_putNumber_28 (by decide) ?_
          refine lv_iushr hx hb dX9_putNumber_30 rfl (jx_nm fun z41 hz41 => ?_)
          refine lv_istore_n (lv' := [(2, .int z41), (0, .ref (ad 29)), (3, .int x3)]) hx hb dX9_putNumber_31 rfl hl (by decide) rfl (fun ls hl => ?_)
          obtain ⟨z42, hz42⟩ : ∃ z : Int32, x3 + 1 = z := ⟨_, rfl⟩
          refine lv_iinc (v := z42) (lv' := [(3, .int z42), (2, .int z41), (0, .ref (ad 29))]) hx hb dX9_putNumber_32 hl (k := 2) rfl hz42 (by decide) rfl (fun ls hl => ?_)
          refine lv_goto (tgt := 4) hx hb dX9_putNumber_35 (by decide) ?_
          exact ih_B1 z41 z42 g32 a34 ls _ _ (ob18 ((z42).toInt) (k6 : Int) ((x3).toInt) (((1 : Int32)).toInt) (((4 : Int32)).toInt) hrk_B1 (hE_add hz42) hf_B1_0 (hE_nle cc23) (hE_rng (z42)) (hE_rng (x3)) (by decide) (by decide)) (ob19 ((z42).toInt) ((x3).toInt) (((1 : Int32)).toInt) (k6 : Int) (((4 : Int32)).toInt) (hE_add hz42) hf_B1_0 hrk_B1 (hE_nle cc23) (hE_rng (z42)) (hE_rng (x3)) (by decide) (by decide)) (hk_frT hfr_g4 (by decide) h37) (hk_frT hfr_a5 (by decide) h39) hw (lv_sub hl [2, 1, 0] rfl)
  exact B1 (2147483648 - ((0 : Int32)).toInt).toNat y1 0 g ar ls _ _ (Int.self_le_toNat _) (ob10 (((0 : Int32)).toInt) (by decide)) hk_fr0 hk_fr0 hw (lv_sub hl [2, 1, 0] rfl)

set_option maxHeartbeats 4000000 in
set_option maxRecDepth 100000 in
/-- X9_putZeros on (2,) -/
theorem jx_X9_putZeros_2 (l : Launch) (hlt : l.stackTraces = false) (D : va_G) (t3 : Nat × Nat × Nat) (cI cJ : ClassId) (ad : Nat → Nat) (g : Nat → Int32) (lg : Nat → Int64) (ar : Nat → Nat → Int32) (bk : Nat → Int64) (sz : Nat) (y1 : Int32) (hi_a0rg : hk_rg 0 255 (ar 0)) (hi_g13 : 0 ≤ (g 13).toInt ∧ (g 13).toInt ≤ 1500) : JMv l yX9_putZeros (Cond.code yX9_putZeros cX9_putZeros 3 none :: wwX) { frames := 2, cells := 1, slots := 6, locals := 43 } t3 D xw cI cJ ad [.ref (ad 2), .int y1] (xw cI cJ ad g lg ar bk) sz 1 6 (fun g' lg' ar' bk' => hk_fr [13] g g' ∧ hk_fr [] lg lg' ∧ hk_fr [0] ar ar' ∧ hk_rg 0 255 (ar' 0) ∧ (0 ≤ (g' 13).toInt ∧ (g' 13).toInt ≤ 1500)) (fun g' lg' ar' bk' => False) := by
  refine jx_metv (cc := cX9_putZeros) (maxL := 3) (ret := none) rfl (by decide) rfl (Nat.le_of_ble_eq_true rfl) ?_
  intro p e s m args below meth c ls Q A hx hb hml hown hts hA hZ hw hl hQ kr kt
  have hq : ∀ w ∈ wwX, w.before args s = true := fun w h => hts w (List.mem_cons_of_mem _ h)
  have hl : lv_has ls 3 [(0, .ref (ad 2)), (1, .int y1)] := hl
  refine lv_iconst (v := 0) hx hb dX9_putZeros_0 (by decide) ?_
  refine lv_istore_n (lv' := [(2, .int 0), (0, .ref (ad 2)), (1, .int y1)]) hx hb dX9_putZeros_1 rfl hl (by decide) rfl (fun ls hl => ?_)
  have B1 : ∀ (k5 : Nat) (x2 : Int32) (g3 : Nat → Int32) (a4 : Nat → Nat → Int32) (ls : Array Slot) (H : Heap) (locs : List Loc), 2147483648 - (x2).toInt ≤ (k5 : Int) → 0 ≤ (x2).toInt → 0 ≤ (g3 13).toInt ∧ (g3 13).toInt ≤ 1500 → hk_fr [13] g g3 → hk_fr [0] ar a4 → hk_rg 0 255 (a4 0) → hk_W D (jT cI cJ) A s H locs (xw cI cJ ad g3 lg a4 bk) → lv_has ls 3 [(0, .ref (ad 2)), (1, .int y1), (2, .int x2)] → W p l e { frames := 2, cells := 1, slots := 6, locals := 43 } s m args below meth c H locs 0 0 Q (F0 m 2 ls []) := by
    intro k5
    induction k5 with
    | zero =>
      intro x2 g3 a4 ls H locs hrk_B1 hf_B1_0 hf_B1_1 hfr_g3 hfr_a4 ha4_r0rg hw hl
      exact False.elim (hk_no0 (0 * (x2).toInt) (ob5 ((x2).toInt) hf_B1_0 hrk_B1 (hE_rng (x2))) (by simp))
    | succ k5 ih_B1 =>
      intro x2 g3 a4 ls H locs hrk_B1 hf_B1_0 hf_B1_1 hfr_g3 hfr_a4 ha4_r0rg hw hl
      have hrk_B1 := hk_rk hrk_B1
      refine lv_iload_n hx hb dX9_putZeros_2 rfl (lv_at hl 2 rfl) ?_
      refine lv_iconst (v := 3) hx hb dX9_putZeros_3 (by decide) ?_
      refine lv_icmp_ge (tgt := 29) hx hb dX9_putZeros_4 (by decide) (fun cc6 => ?_) (fun cc6 => ?_)
      · exact kr g3 lg a4 bk _ _ _ _ ⟨hfr_g3, hk_fr0, hfr_a4, ha4_r0rg, (ob6 ((g3 13).toInt) hf_B1_1 (hE_rng (g3 13)))⟩ hw dX9_putZeros_29
      · refine lv_aload_n hx hb dX9_putZeros_7 rfl (lv_at hl 0 rfl) ?_
        refine hk_get (ci := 12) (C := RX9) (T := TX9) (N := 2) (v := .int (g3 13)) hx hb hts (fun _ h => List.mem_cons_of_mem _ (wwXc_wsX90 _ h)) hown hw 2 rfl rfl 1 (by decide) (hq _ wX_700) rfl dX9_putZeros_8 ?_
        refine lv_iload_n hx hb dX9_putZeros_11 rfl (lv_at hl 1 rfl) ?_
        refine lv_isub hx hb dX9_putZeros_12 (jx_nm fun z7 hz7 => ?_)
        refine lv_iconst (v := 3) hx hb dX9_putZeros_13 (by decide) ?_
        refine lv_iand hx hb dX9_putZeros_14 (jx_nm fun z8 hz8 => ?_)
        refine lv_if_eq (tgt := 29) hx hb dX9_putZeros_15 (by decide) (fun cc9 => ?_) (fun cc9 => ?_)
        · exact kr g3 lg a4 bk _ _ _ _ ⟨hfr_g3, hk_fr0, hfr_a4, ha4_r0rg, (ob20 ((g3 13).toInt) ((z7).toInt) ((y1).toInt) ((z8).toInt) (((0 : Int32)).toInt) hf_B1_1 (hE_sub hz7) (hE_and 2 4 hz8 (by decide) (by decide) (by decide)) (hE_eq cc9) (hE_rng (g3 13)) (hE_rng (z7)) (hE_rng (y1)) (hE_rng (z8)) (by decide))⟩ hw dX9_putZeros_29
        · refine lv_aload_n hx hb dX9_putZeros_18 rfl (lv_at hl 0 rfl) ?_
          refine lv_iconst (v := 0) hx hb dX9_putZeros_19 (by decide) ?_
          refine jx_Vv (As := [.int 0]) (rest := []) ⟨hx, hb, hml, hown, hts⟩ hZ hw hA (jx_X9_put_2 l hlt D t3 cI cJ ad g3 lg a4 bk _ 0 ha4_r0rg) (cwV 1 hts (jx_gV wwX_good wX_701 wX_112 wX_113 wX_24 wX_114) rfl rfl rfl (by decide +kernel) ⟨Nat.le_of_ble_eq_true rfl, Nat.le_of_ble_eq_true rfl⟩) 2 (ci := 12) (T := TX9) (N := 2) rfl rfl rfl hl.1 rfl (Nat.le_of_ble_eq_true rfl) dX9_putZeros_20 ⟨Nat.le_of_ble_eq_true rfl, Nat.le_of_ble_eq_true rfl⟩ (fun _ _ _ _ _ _ _ _ hp _ _ _ _ => hp.elim) (fun g15 l16 a17 b18 H locs hp19 hw => ?_)
          obtain ⟨h20, h21, h22, h23, h24⟩ := hp19
          obtain ⟨z25, hz25⟩ : ∃ z : Int32, x2 + 1 = z := ⟨_, rfl⟩
          refine lv_iinc (v := z25) (lv' := [(2, .int z25), (0, .ref (ad 2)), (1, .int y1)]) hx hb dX9_putZeros_23 hl (k := 2) rfl hz25 (by decide) rfl (fun ls hl => ?_)
          refine lv_goto (tgt := 2) hx hb dX9_putZeros_26 (by decide) ?_
          exact ih_B1 z25 g15 a17 ls _ _ (ob21 ((z25).toInt) (k5 : Int) ((x2).toInt) (((1 : Int32)).toInt) (((3 : Int32)).toInt) hrk_B1 (hE_add hz25) hf_B1_0 (hE_nle cc6) (hE_rng (z25)) (hE_rng (x2)) (by decide) (by decide)) (ob22 ((z25).toInt) ((x2).toInt) (((1 : Int32)).toInt) (k5 : Int) (((3 : Int32)).toInt) (hE_add hz25) hf_B1_0 hrk_B1 (hE_nle cc6) (hE_rng (z25)) (hE_rng (x2)) (by decide) (by decide)) (ob23 ((g15 13).toInt) ((g3 13).toInt) ((z7).toInt) ((y1).toInt) ((z8).toInt) (((0 : Int32)).toInt) h23 hf_B1_1 (hE_sub hz7) (hE_and 2 4 hz8 (by decide) (by decide) (by decide)) (hE_ne cc9) (hE_rng (g15 13)) (hE_rng (g3 13)) (hE_rng (z7)) (hE_rng (y1)) (hE_rng (z8)) (by decide)) (hk_frT hfr_g3 (by decide) h20) (hk_frT hfr_a4 (by decide) h22) h24 hw (lv_sub hl [1, 2, 0] rfl)
  exact B1 (2147483648 - ((0 : Int32)).toInt).toNat 0 g ar ls _ _ (Int.self_le_toNat _) (ob10 (((0 : Int32)).toInt) (by decide)) (ob6 ((g 13).toInt) hi_g13 (hE_rng (g 13))) hk_fr0 hk_fr0 hi_a0rg hw (lv_sub hl [1, 2, 0] rfl)

set_option maxHeartbeats 4000000 in
set_option maxRecDepth 100000 in
/-- X9_putZeros on (4,) -/
theorem jx_X9_putZeros_4 (l : Launch) (hlt : l.stackTraces = false) (D : va_G) (t3 : Nat × Nat × Nat) (cI cJ : ClassId) (ad : Nat → Nat) (g : Nat → Int32) (lg : Nat → Int64) (ar : Nat → Nat → Int32) (bk : Nat → Int64) (sz : Nat) (y1 : Int32) : JMv l yX9_putZeros (Cond.code yX9_putZeros cX9_putZeros 3 none :: wwX) { frames := 2, cells := 1, slots := 6, locals := 43 } t3 D xw cI cJ ad [.ref (ad 4), .int y1] (xw cI cJ ad g lg ar bk) sz 1 6 (fun g' lg' ar' bk' => hk_fr [14] g g' ∧ hk_fr [] lg lg' ∧ hk_fr [1] ar ar') (fun g' lg' ar' bk' => False) := by
  refine jx_metv (cc := cX9_putZeros) (maxL := 3) (ret := none) rfl (by decide) rfl (Nat.le_of_ble_eq_true rfl) ?_
  intro p e s m args below meth c ls Q A hx hb hml hown hts hA hZ hw hl hQ kr kt
  have hq : ∀ w ∈ wwX, w.before args s = true := fun w h => hts w (List.mem_cons_of_mem _ h)
  have hl : lv_has ls 3 [(0, .ref (ad 4)), (1, .int y1)] := hl
  refine lv_iconst (v := 0) hx hb dX9_putZeros_0 (by decide) ?_
  refine lv_istore_n (lv' := [(2, .int 0), (0, .ref (ad 4)), (1, .int y1)]) hx hb dX9_putZeros_1 rfl hl (by decide) rfl (fun ls hl => ?_)
  have B1 : ∀ (k5 : Nat) (x2 : Int32) (g3 : Nat → Int32) (a4 : Nat → Nat → Int32) (ls : Array Slot) (H : Heap) (locs : List Loc), 2147483648 - (x2).toInt ≤ (k5 : Int) → 0 ≤ (x2).toInt → hk_fr [14] g g3 → hk_fr [1] ar a4 → hk_W D (jT cI cJ) A s H locs (xw cI cJ ad g3 lg a4 bk) → lv_has ls 3 [(0, .ref (ad 4)), (1, .int y1), (2, .int x2)] → W p l e { frames := 2, cells := 1, slots := 6, locals := 43 } s m args below meth c H locs 0 0 Q (F0 m 2 ls []) := by
    intro k5
    induction k5 with
    | zero =>
      intro x2 g3 a4 ls H locs hrk_B1 hf_B1_0 hfr_g3 hfr_a4 hw hl
      exact False.elim (hk_no0 (0 * (x2).toInt) (ob5 ((x2).toInt) hf_B1_0 hrk_B1 (hE_rng (x2))) (by simp))
    | succ k5 ih_B1 =>
      intro x2 g3 a4 ls H locs hrk_B1 hf_B1_0 hfr_g3 hfr_a4 hw hl
      have hrk_B1 := hk_rk hrk_B1
      refine lv_iload_n hx hb dX9_putZeros_2 rfl (lv_at hl 2 rfl) ?_
      refine lv_iconst (v := 3) hx hb dX9_putZeros_3 (by decide) ?_
      refine lv_icmp_ge (tgt := 29) hx hb dX9_putZeros_4 (by decide) (fun cc6 => ?_) (fun cc6 => ?_)
      · exact kr g3 lg a4 bk _ _ _ _ ⟨hfr_g3, hk_fr0, hfr_a4⟩ hw dX9_putZeros_29
      · refine lv_aload_n hx hb dX9_putZeros_7 rfl (lv_at hl 0 rfl) ?_
        refine hk_get (ci := 12) (C := RX9) (T := TX9) (N := 2) (v := .int (g3 14)) hx hb hts (fun _ h => List.mem_cons_of_mem _ (wwXc_wsX90 _ h)) hown hw 4 rfl rfl 1 (by decide) (hq _ wX_700) rfl dX9_putZeros_8 ?_
        refine lv_iload_n hx hb dX9_putZeros_11 rfl (lv_at hl 1 rfl) ?_
        refine lv_isub hx hb dX9_putZeros_12 (jx_nm fun z7 hz7 => ?_)
        refine lv_iconst (v := 3) hx hb dX9_putZeros_13 (by decide) ?_
        refine lv_iand hx hb dX9_putZeros_14 (jx_nm fun z8 hz8 => ?_)
        refine lv_if_eq (tgt := 29) hx hb dX9_putZeros_15 (by decide) (fun cc9 => ?_) (fun cc9 => ?_)
        · exact kr g3 lg a4 bk _ _ _ _ ⟨hfr_g3, hk_fr0, hfr_a4⟩ hw dX9_putZeros_29
        · refine lv_aload_n hx hb dX9_putZeros_18 rfl (lv_at hl 0 rfl) ?_
          refine lv_iconst (v := 0) hx hb dX9_putZeros_19 (by decide) ?_
          refine jx_Vv (As := [.int 0]) (rest := []) ⟨hx, hb, hml, hown, hts⟩ hZ hw hA (jx_X9_put_4 l hlt D t3 cI cJ ad g3 lg a4 bk _ 0) (cwV 1 hts (jx_gV wwX_good wX_701 wX_112 wX_113 wX_24 wX_114) rfl rfl rfl (by decide +kernel) ⟨Nat.le_of_ble_eq_true rfl, Nat.le_of_ble_eq_true rfl⟩) 4 (ci := 12) (T := TX9) (N := 2) rfl rfl rfl hl.1 rfl (Nat.le_of_ble_eq_true rfl) dX9_putZeros_20 ⟨Nat.le_of_ble_eq_true rfl, Nat.le_of_ble_eq_true rfl⟩ (fun _ _ _ _ _ _ _ _ hp _ _ _ _ => hp.elim) (fun g15 l16 a17 b18 H locs hp19 hw => ?_)
          obtain ⟨h20, h21, h22, h23⟩ := hp19
          obtain ⟨z24, hz24⟩ : ∃ z : Int32, x2 + 1 = z := ⟨_, rfl⟩
          refine lv_iinc (v := z24) (lv' := [(2, .int z24), (0, .ref (ad 4)), (1, .int y1)]) hx hb dX9_putZeros_23 hl (k := 2) rfl hz24 (by decide) rfl (fun ls hl => ?_)
          refine lv_goto (tgt := 2) hx hb dX9_putZeros_26 (by decide) ?_
          exact ih_B1 z24 g15 a17 ls _ _ (ob21 ((z24).toInt) (k5 : Int) ((x2).toInt) (((1 : Int32)).toInt) (((3 : Int32)).toInt) hrk_B1 (hE_add hz24) hf_B1_0 (hE_nle cc6) (hE_rng (z24)) (hE_rng (x2)) (by decide) (by decide)) (ob22 ((z24).toInt) ((x2).toInt) (((1 : Int32)).toInt) (k5 : Int) (((3 : Int32)).toInt) (hE_add hz24) hf_B1_0 hrk_B1 (hE_nle cc6) (hE_rng (z24)) (hE_rng (x2)) (by decide) (by decide)) (hk_frT hfr_g3 (by decide) h20) (hk_frT hfr_a4 (by decide) h22) hw (lv_sub hl [1, 2, 0] rfl)
  exact B1 (2147483648 - ((0 : Int32)).toInt).toNat 0 g ar ls _ _ (Int.self_le_toNat _) (ob10 (((0 : Int32)).toInt) (by decide)) hk_fr0 hk_fr0 hw (lv_sub hl [1, 2, 0] rfl)

set_option maxHeartbeats 4000000 in
set_option maxRecDepth 100000 in
/-- X9_putZeros on (29,) -/
theorem jx_X9_putZeros_29 (l : Launch) (hlt : l.stackTraces = false) (D : va_G) (t3 : Nat × Nat × Nat) (cI cJ : ClassId) (ad : Nat → Nat) (g : Nat → Int32) (lg : Nat → Int64) (ar : Nat → Nat → Int32) (bk : Nat → Int64) (sz : Nat) (y1 : Int32) : JMv l yX9_putZeros (Cond.code yX9_putZeros cX9_putZeros 3 none :: wwX) { frames := 2, cells := 1, slots := 6, locals := 43 } t3 D xw cI cJ ad [.ref (ad 29), .int y1] (xw cI cJ ad g lg ar bk) sz 1 6 (fun g' lg' ar' bk' => hk_fr [53] g g' ∧ hk_fr [] lg lg' ∧ hk_fr [15] ar ar') (fun g' lg' ar' bk' => False) := by
  refine jx_metv (cc := cX9_putZeros) (maxL := 3) (ret := none) rfl (by decide) rfl (Nat.le_of_ble_eq_true rfl) ?_
  intro p e s m args below meth c ls Q A hx hb hml hown hts hA hZ hw hl hQ kr kt
  have hq : ∀ w ∈ wwX, w.before args s = true := fun w h => hts w (List.mem_cons_of_mem _ h)
  have hl : lv_has ls 3 [(0, .ref (ad 29)), (1, .int y1)] := hl
  refine lv_iconst (v := 0) hx hb dX9_putZeros_0 (by decide) ?_
  refine lv_istore_n (lv' := [(2, .int 0), (0, .ref (ad 29)), (1, .int y1)]) hx hb dX9_putZeros_1 rfl hl (by decide) rfl (fun ls hl => ?_)
  have B1 : ∀ (k5 : Nat) (x2 : Int32) (g3 : Nat → Int32) (a4 : Nat → Nat → Int32) (ls : Array Slot) (H : Heap) (locs : List Loc), 2147483648 - (x2).toInt ≤ (k5 : Int) → 0 ≤ (x2).toInt → hk_fr [53] g g3 → hk_fr [15] ar a4 → hk_W D (jT cI cJ) A s H locs (xw cI cJ ad g3 lg a4 bk) → lv_has ls 3 [(0, .ref (ad 29)), (1, .int y1), (2, .int x2)] → W p l e { frames := 2, cells := 1, slots := 6, locals := 43 } s m args below meth c H locs 0 0 Q (F0 m 2 ls []) := by
    intro k5
    induction k5 with
    | zero =>
      intro x2 g3 a4 ls H locs hrk_B1 hf_B1_0 hfr_g3 hfr_a4 hw hl
      exact False.elim (hk_no0 (0 * (x2).toInt) (ob5 ((x2).toInt) hf_B1_0 hrk_B1 (hE_rng (x2))) (by simp))
    | succ k5 ih_B1 =>
      intro x2 g3 a4 ls H locs hrk_B1 hf_B1_0 hfr_g3 hfr_a4 hw hl
      have hrk_B1 := hk_rk hrk_B1
      refine lv_iload_n hx hb dX9_putZeros_2 rfl (lv_at hl 2 rfl) ?_
      refine lv_iconst (v := 3) hx hb dX9_putZeros_3 (by decide) ?_
      refine lv_icmp_ge (tgt := 29) hx hb dX9_putZeros_4 (by decide) (fun cc6 => ?_) (fun cc6 => ?_)
      · exact kr g3 lg a4 bk _ _ _ _ ⟨hfr_g3, hk_fr0, hfr_a4⟩ hw dX9_putZeros_29
      · refine lv_aload_n hx hb dX9_putZeros_7 rfl (lv_at hl 0 rfl) ?_
        refine hk_get (ci := 12) (C := RX9) (T := TX9) (N := 2) (v := .int (g3 53)) hx hb hts (fun _ h => List.mem_cons_of_mem _ (wwXc_wsX90 _ h)) hown hw 29 rfl rfl 1 (by decide) (hq _ wX_700) rfl dX9_putZeros_8 ?_
        refine lv_iload_n hx hb dX9_putZeros_11 rfl (lv_at hl 1 rfl) ?_
        refine lv_isub hx hb dX9_putZeros_12 (jx_nm fun z7 hz7 => ?_)
        refine lv_iconst (v := 3) hx hb dX9_putZeros_13 (by decide) ?_
        refine lv_iand hx hb dX9_putZeros_14 (jx_nm fun z8 hz8 => ?_)
        refine lv_if_eq (tgt := 29) hx hb dX9_putZeros_15 (by decide) (fun cc9 => ?_) (fun cc9 => ?_)
        · exact kr g3 lg a4 bk _ _ _ _ ⟨hfr_g3, hk_fr0, hfr_a4⟩ hw dX9_putZeros_29
        · refine lv_aload_n hx hb dX9_putZeros_18 rfl (lv_at hl 0 rfl) ?_
          refine lv_iconst (v := 0) hx hb dX9_putZeros_19 (by decide) ?_
          refine jx_Vv (As := [.int 0]) (rest := []) ⟨hx, hb, hml, hown, hts⟩ hZ hw hA (jx_X9_put_29 l hlt D t3 cI cJ ad g3 lg a4 bk _ 0) (cwV 1 hts (jx_gV wwX_good wX_701 wX_112 wX_113 wX_24 wX_114) rfl rfl rfl (by decide +kernel) ⟨Nat.le_of_ble_eq_true rfl, Nat.le_of_ble_eq_true rfl⟩) 29 (ci := 12) (T := TX9) (N := 2) rfl rfl rfl hl.1 rfl (Nat.le_of_ble_eq_true rfl) dX9_putZeros_20 ⟨Nat.le_of_ble_eq_true rfl, Nat.le_of_ble_eq_true rfl⟩ (fun _ _ _ _ _ _ _ _ hp _ _ _ _ => hp.elim) (fun g15 l16 a17 b18 H locs hp19 hw => ?_)
          obtain ⟨h20, h21, h22, h23⟩ := hp19
          obtain ⟨z24, hz24⟩ : ∃ z : Int32, x2 + 1 = z := ⟨_, rfl⟩
          refine lv_iinc (v := z24) (lv' := [(2, .int z24), (0, .ref (ad 29)), (1, .int y1)]) hx hb dX9_putZeros_23 hl (k := 2) rfl hz24 (by decide) rfl (fun ls hl => ?_)
          refine lv_goto (tgt := 2) hx hb dX9_putZeros_26 (by decide) ?_
          exact ih_B1 z24 g15 a17 ls _ _ (ob21 ((z24).toInt) (k5 : Int) ((x2).toInt) (((1 : Int32)).toInt) (((3 : Int32)).toInt) hrk_B1 (hE_add hz24) hf_B1_0 (hE_nle cc6) (hE_rng (z24)) (hE_rng (x2)) (by decide) (by decide)) (ob22 ((z24).toInt) ((x2).toInt) (((1 : Int32)).toInt) (k5 : Int) (((3 : Int32)).toInt) (hE_add hz24) hf_B1_0 hrk_B1 (hE_nle cc6) (hE_rng (z24)) (hE_rng (x2)) (by decide) (by decide)) (hk_frT hfr_g3 (by decide) h20) (hk_frT hfr_a4 (by decide) h22) hw (lv_sub hl [1, 2, 0] rfl)
  exact B1 (2147483648 - ((0 : Int32)).toInt).toNat 0 g ar ls _ _ (Int.self_le_toNat _) (ob10 (((0 : Int32)).toInt) (by decide)) hk_fr0 hk_fr0 hw (lv_sub hl [1, 2, 0] rfl)

set_option maxHeartbeats 4000000 in
set_option maxRecDepth 100000 in
/-- X9_delta on (2,) -/
theorem jx_X9_delta_2 (l : Launch) (hlt : l.stackTraces = false) (D : va_G) (t3 : Nat × Nat × Nat) (cI cJ : ClassId) (ad : Nat → Nat) (g : Nat → Int32) (lg : Nat → Int64) (ar : Nat → Nat → Int32) (bk : Nat → Int64) (sz : Nat) (y1 : Int32) (y2 : Int32) (y3 : Int32) (y4 : Int32) (hi_a0rg : hk_rg 0 255 (ar 0)) : JMv l yX9_delta (Cond.code yX9_delta cX9_delta 9 none :: wwX) { frames := 1, cells := 1, slots := 6, locals := 22 } t3 D xw cI cJ ad [.ref (ad 2), .int y1, .int y2, .int y3, .int y4] (xw cI cJ ad g lg ar bk) sz 1 6 (fun g' lg' ar' bk' => hk_fr [] g g' ∧ hk_fr [] lg lg' ∧ hk_fr [0] ar ar' ∧ hk_rg 0 255 (ar' 0)) (fun g' lg' ar' bk' => False) := by
  refine jx_metv (cc := cX9_delta) (maxL := 9) (ret := none) rfl (by decide) rfl (Nat.le_of_ble_eq_true rfl) ?_
  intro p e s m args below meth c ls Q A hx hb hml hown hts hA hZ hw hl hQ kr kt
  have hq : ∀ w ∈ wwX, w.before args s = true := fun w h => hts w (List.mem_cons_of_mem _ h)
  have hl : lv_has ls 9 [(0, .ref (ad 2)), (1, .int y1), (2, .int y2), (3, .int y3), (4, .int y4)] := hl
  refine lv_iload_n hx hb dX9_delta_0 rfl (lv_at hl 2 rfl) ?_
  refine lv_iload_n hx hb dX9_delta_1 rfl (lv_at hl 1 rfl) ?_
  refine lv_isub hx hb dX9_delta_2 (jx_nm fun z1 hz1 => ?_)
  refine lv_iload_n hx hb dX9_delta_3 rfl (lv_at hl 3 rfl) ?_
  refine lv_isub hx hb dX9_delta_4 (jx_nm fun z2 hz2 => ?_)
  refine lv_istore (lv' := [(5, .int z2), (0, .ref (ad 2)), (1, .int y1), (2, .int y2), (3, .int y3), (4, .int y4)]) hx hb dX9_delta_5 hl (by decide) rfl (fun ls hl => ?_)
  refine lv_iconst (v := 0) hx hb dX9_delta_7 (by decide) ?_
  refine lv_istore (lv' := [(6, .int 0), (5, .int z2), (0, .ref (ad 2)), (1, .int y1), (2, .int y2), (3, .int y3), (4, .int y4)]) hx hb dX9_delta_8 hl (by decide) rfl (fun ls hl => ?_)
  have B3 : ∀ (k6 : Nat) (x4 : Int32) (a5 : Nat → Nat → Int32) (ls : Array Slot) (H : Heap) (locs : List Loc), 2147483648 - (x4).toInt ≤ (k6 : Int) → 0 ≤ (x4).toInt → hk_fr [0] ar a5 → hk_rg 0 255 (a5 0) → hk_W D (jT cI cJ) A s H locs (xw cI cJ ad g lg a5 bk) → lv_has ls 9 [(0, .ref (ad 2)), (1, .int y1), (2, .int y2), (3, .int y3), (4, .int y4), (5, .int z2), (6, .int x4)] → W p l e { frames := 1, cells := 1, slots := 6, locals := 22 } s m args below meth c H locs 0 0 Q (F0 m 10 ls []) := by
    intro k6
    induction k6 with
    | zero =>
      intro x4 a5 ls H locs hrk_B3 hf_B3_0 hfr_a5 ha5_r0rg hw hl
      exact False.elim (hk_no0 (0 * (x4).toInt) (ob5 ((x4).toInt) hf_B3_0 hrk_B3 (hE_rng (x4))) (by simp))
    | succ k6 ih_B3 =>
      intro x4 a5 ls H locs hrk_B3 hf_B3_0 hfr_a5 ha5_r0rg hw hl
      have hrk_B3 := hk_rk hrk_B3
      refine lv_iload hx hb dX9_delta_10 (lv_at hl 6 rfl) ?_
      refine lv_iload hx hb dX9_delta_12 (lv_at hl 5 rfl) ?_
      refine lv_icmp_ge (tgt := 87) hx hb dX9_delta_14 (by decide) (fun cc7 => ?_) (fun cc7 => ?_)
      · exact kr g lg a5 bk _ _ _ _ ⟨hk_fr0, hk_fr0, hfr_a5, ha5_r0rg⟩ hw dX9_delta_87
      · refine lv_iload hx hb dX9_delta_17 (lv_at hl 4 rfl) ?_
        have B8 : ∀  (x9 : Int32) (ls : Array Slot) (H : Heap) (locs : List Loc), hk_W D (jT cI cJ) A s H locs (xw cI cJ ad g lg a5 bk) → lv_has ls 9 [(0, .ref (ad 2)), (1, .int y1), (2, .int y2), (3, .int y3), (4, .int y4), (5, .int z2), (6, .int x4)] → W p l e { frames := 1, cells := 1, slots := 6, locals := 22 } s m args below meth c H locs 0 0 Q (F0 m 37 ls [.int x9]) := by
          intro x9 ls H locs hw hl
          refine lv_istore (lv' := [(7, .int x9), (0, .ref (ad 2)), (1, .int y1), (2, .int y2), (3, .int y3), (4, .int y4), (5, .int z2), (6, .int x4)]) hx hb dX9_delta_37 hl (by decide) rfl (fun ls hl => ?_)
          refine lv_aload_n hx hb dX9_delta_39 rfl (lv_at hl 1 rfl) ?_
          refine lv_iload hx hb dX9_delta_40 (lv_at hl 0 rfl) ?_
          refine lv_iload_n hx hb dX9_delta_42 rfl (lv_at hl 4 rfl) ?_
          refine lv_isub hx hb dX9_delta_43 (jx_nm fun z10 hz10 => ?_)
          refine jx_Vi (As := [.int z10]) (rest := []) ⟨hx, hb, hml, hown, hts⟩ hZ hw hA (jx_X9_get_2 l hlt D t3 cI cJ ad g lg a5 bk _ z10) (cwV 1 hts (jx_gV wwX_good wX_697 wX_22 wX_23 wX_24 wX_25) rfl rfl rfl (by decide +kernel) ⟨Nat.le_of_ble_eq_true rfl, Nat.le_of_ble_eq_true rfl⟩) 2 (ci := 12) (T := TX9) (N := 2) rfl rfl rfl hl.1 rfl (Nat.le_of_ble_eq_true rfl) dX9_delta_44 ⟨Nat.le_of_ble_eq_true rfl, Nat.le_of_ble_eq_true rfl⟩ (fun _ _ _ _ _ _ _ _ hp _ _ _ _ => hp.elim) (fun r15 g16 l17 a18 b19 H locs hp20 hw => ?_)
          obtain ⟨h21, h22, h23⟩ := hp20
          refine lv_istore (lv' := [(8, .int r15), (7, .int x9), (0, .ref (ad 2)), (1, .int y1), (2, .int y2), (3, .int y3), (4, .int y4), (5, .int z2), (6, .int x4)]) hx hb dX9_delta_47 hl (by decide) rfl (fun ls hl => ?_)
          refine lv_aload_n hx hb dX9_delta_49 rfl (lv_at hl 2 rfl) ?_
          refine lv_iload hx hb dX9_delta_50 (lv_at hl 1 rfl) ?_
          refine lv_iload hx hb dX9_delta_52 (lv_at hl 6 rfl) ?_
          have B24 : ∀  (x25 : Int32) (ls : Array Slot) (H : Heap) (locs : List Loc), hk_W D (jT cI cJ) A s H locs (xw cI cJ ad g16 l17 a18 b19) → lv_has ls 9 [(0, .ref (ad 2)), (1, .int y1), (2, .int y2), (3, .int y3), (4, .int y4), (5, .int z2), (6, .int x4)] → W p l e { frames := 1, cells := 1, slots := 6, locals := 22 } s m args below meth c H locs 0 0 Q (F0 m 78 ls [.int x25, .int x9, .ref (ad 2)]) := by
            intro x25 ls H locs hw hl
            refine jx_Vv (As := [.int x9, .int x25]) (rest := []) ⟨hx, hb, hml, hown, hts⟩ hZ hw hA (jx_X9_set_2 l hlt D t3 cI cJ ad g16 l17 a18 b19 _ x9 x25 (hk_pE (P := hk_rg 0 255) ha5_r0rg (h23 0 rfl))) (cwV 2 hts (jx_gV wwX_good wX_698 wX_587 wX_588 wX_24 wX_589) rfl rfl rfl (by decide +kernel) ⟨Nat.le_of_ble_eq_true rfl, Nat.le_of_ble_eq_true rfl⟩) 2 (ci := 12) (T := TX9) (N := 2) rfl rfl rfl hl.1 rfl (Nat.le_of_ble_eq_true rfl) dX9_delta_78 ⟨Nat.le_of_ble_eq_true rfl, Nat.le_of_ble_eq_true rfl⟩ (fun _ _ _ _ _ _ _ _ hp _ _ _ _ => hp.elim) (fun g31 l32 a33 b34 H locs hp35 hw => ?_)
            obtain ⟨h36, h37, h38, h39⟩ := hp35
            obtain ⟨z40, hz40⟩ : ∃ z : Int32, x4 + 1 = z := ⟨_, rfl⟩
            refine lv_iinc (v := z40) (lv' := [(6, .int z40), (0, .ref (ad 2)), (1, .int y1), (2, .int y2), (3, .int y3), (4, .int y4), (5, .int z2)]) hx hb dX9_delta_81 hl (k := 6) rfl hz40 (by decide) rfl (fun ls hl => ?_)
            refine lv_goto (tgt := 10) hx hb dX9_delta_84 (by decide) ?_
            exact ih_B3 z40 a33 ls _ _ (ob24 ((z40).toInt) (k6 : Int) ((x4).toInt) (((1 : Int32)).toInt) ((z2).toInt) ((z1).toInt) ((y3).toInt) ((y2).toInt) ((y1).toInt) ((z10).toInt) ((x9).toInt) hrk_B3 (hE_add hz40) hf_B3_0 (hE_nle cc7) (hE_sub hz2) (hE_sub hz1) (hE_sub hz10) (hE_rng (z40)) (hE_rng (x4)) (by decide) (hE_rng (z2)) (hE_rng (z1)) (hE_rng (y3)) (hE_rng (y2)) (hE_rng (y1)) (hE_rng (z10)) (hE_rng (x9))) (ob25 ((z40).toInt) ((x4).toInt) (((1 : Int32)).toInt) (k6 : Int) ((z2).toInt) ((z1).toInt) ((y3).toInt) ((y2).toInt) ((y1).toInt) ((z10).toInt) ((x9).toInt) (hE_add hz40) hf_B3_0 hrk_B3 (hE_nle cc7) (hE_sub hz2) (hE_sub hz1) (hE_sub hz10) (hE_rng (z40)) (hE_rng (x4)) (by decide) (hE_rng (z2)) (hE_rng (z1)) (hE_rng (y3)) (hE_rng (y2)) (hE_rng (y1)) (hE_rng (z10)) (hE_rng (x9))) (hk_frT (hk_frT hfr_a5 (by decide) h23) (by decide) h38) h39 hw (lv_sub hl [1, 2, 3, 4, 5, 6, 0] rfl)
          refine lv_if_eq (tgt := 69) hx hb dX9_delta_54 (by decide) (fun cc41 => ?_) (fun cc41 => ?_)
          · refine lv_aload_n hx hb dX9_delta_69 rfl (lv_at hl 2 rfl) ?_
            refine lv_iload hx hb dX9_delta_70 (lv_at hl 1 rfl) ?_
            refine jx_Vi (As := [.int x9]) (rest := [.int x9, .ref (ad 2)]) ⟨hx, hb, hml, hown, hts⟩ hZ hw hA (jx_X9_get_2 l hlt D t3 cI cJ ad g16 l17 a18 b19 _ x9) (cwV 1 hts (jx_gV wwX_good wX_697 wX_22 wX_23 wX_24 wX_25) rfl rfl rfl (by decide +kernel) ⟨Nat.le_of_ble_eq_true rfl, Nat.le_of_ble_eq_true rfl⟩) 2 (ci := 12) (T := TX9) (N := 2) rfl rfl rfl hl.1 rfl (Nat.le_of_ble_eq_true rfl) dX9_delta_72 ⟨Nat.le_of_ble_eq_true rfl, Nat.le_of_ble_eq_true rfl⟩ (fun _ _ _ _ _ _ _ _ hp _ _ _ _ => hp.elim) (fun r46 g47 l48 a49 b50 H locs hp51 hw => ?_)
            obtain ⟨h52, h53, h54⟩ := hp51
            have hr55 : hk_rg 0 255 (a49 0) := (hk_pE (P := hk_rg 0 255) (hk_pE (P := hk_rg 0 255) ha5_r0rg (h23 0 rfl)) (h54 0 rfl))
            refine lv_iload hx hb dX9_delta_75 (lv_at hl 0 rfl) ?_
            refine lv_isub hx hb dX9_delta_77 (jx_nm fun z56 hz56 => ?_)
            exact B24 z56 ls _ _ hw (lv_sub hl [2, 3, 4, 5, 6, 7, 8] rfl)
          · refine lv_aload_n hx hb dX9_delta_57 rfl (lv_at hl 2 rfl) ?_
            refine lv_iload hx hb dX9_delta_58 (lv_at hl 1 rfl) ?_
            refine jx_Vi (As := [.int x9]) (rest := [.int x9, .ref (ad 2)]) ⟨hx, hb, hml, hown, hts⟩ hZ hw hA (jx_X9_get_2 l hlt D t3 cI cJ ad g16 l17 a18 b19 _ x9) (cwV 1 hts (jx_gV wwX_good wX_697 wX_22 wX_23 wX_24 wX_25) rfl rfl rfl (by decide +kernel) ⟨Nat.le_of_ble_eq_true rfl, Nat.le_of_ble_eq_true rfl⟩) 2 (ci := 12) (T := TX9) (N := 2) rfl rfl rfl hl.1 rfl (Nat.le_of_ble_eq_true rfl) dX9_delta_60 ⟨Nat.le_of_ble_eq_true rfl, Nat.le_of_ble_eq_true rfl⟩ (fun _ _ _ _ _ _ _ _ hp _ _ _ _ => hp.elim) (fun r61 g62 l63 a64 b65 H locs hp66 hw => ?_)
            obtain ⟨h67, h68, h69⟩ := hp66
            have hr70 : hk_rg 0 255 (a64 0) := (hk_pE (P := hk_rg 0 255) (hk_pE (P := hk_rg 0 255) ha5_r0rg (h23 0 rfl)) (h69 0 rfl))
            refine lv_iload hx hb dX9_delta_63 (lv_at hl 0 rfl) ?_
            refine lv_iadd hx hb dX9_delta_65 (jx_nm fun z71 hz71 => ?_)
            refine lv_goto (tgt := 78) hx hb dX9_delta_66 (by decide) ?_
            exact B24 z71 ls _ _ hw (lv_sub hl [2, 3, 4, 5, 6, 7, 8] rfl)
        refine lv_if_eq (tgt := 31) hx hb dX9_delta_19 (by decide) (fun cc72 => ?_) (fun cc72 => ?_)
        · refine lv_iload_n hx hb dX9_delta_31 rfl (lv_at hl 2 rfl) ?_
          refine lv_iconst (v := 1) hx hb dX9_delta_32 (by decide) ?_
          refine lv_isub hx hb dX9_delta_33 (jx_nm fun z73 hz73 => ?_)
          refine lv_iload hx hb dX9_delta_34 (lv_at hl 6 rfl) ?_
          refine lv_isub hx hb dX9_delta_36 (jx_nm fun z74 hz74 => ?_)
          exact B8 z74 ls _ _ hw (lv_sub hl [0, 1, 2, 3, 4, 5, 6] rfl)
        · refine lv_iload_n hx hb dX9_delta_22 rfl (lv_at hl 1 rfl) ?_
          refine lv_iload_n hx hb dX9_delta_23 rfl (lv_at hl 3 rfl) ?_
          refine lv_iadd hx hb dX9_delta_24 (jx_nm fun z75 hz75 => ?_)
          refine lv_iload hx hb dX9_delta_25 (lv_at hl 6 rfl) ?_
          refine lv_iadd hx hb dX9_delta_27 (jx_nm fun z76 hz76 => ?_)
          refine lv_goto (tgt := 37) hx hb dX9_delta_28 (by decide) ?_
          exact B8 z76 ls _ _ hw (lv_sub hl [0, 1, 2, 3, 4, 5, 6] rfl)
  exact B3 (2147483648 - ((0 : Int32)).toInt).toNat 0 ar ls _ _ (Int.self_le_toNat _) (ob10 (((0 : Int32)).toInt) (by decide)) hk_fr0 hi_a0rg hw (lv_sub hl [2, 3, 4, 5, 6, 1, 0] rfl)

set_option maxHeartbeats 4000000 in
set_option maxRecDepth 100000 in
/-- X9_delta on (4,) -/
theorem jx_X9_delta_4 (l : Launch) (hlt : l.stackTraces = false) (D : va_G) (t3 : Nat × Nat × Nat) (cI cJ : ClassId) (ad : Nat → Nat) (g : Nat → Int32) (lg : Nat → Int64) (ar : Nat → Nat → Int32) (bk : Nat → Int64) (sz : Nat) (y1 : Int32) (y2 : Int32) (y3 : Int32) (y4 : Int32) : JMv l yX9_delta (Cond.code yX9_delta cX9_delta 9 none :: wwX) { frames := 1, cells := 1, slots := 6, locals := 22 } t3 D xw cI cJ ad [.ref (ad 4), .int y1, .int y2, .int y3, .int y4] (xw cI cJ ad g lg ar bk) sz 1 6 (fun g' lg' ar' bk' => hk_fr [] g g' ∧ hk_fr [] lg lg' ∧ hk_fr [1] ar ar') (fun g' lg' ar' bk' => False) := by
  refine jx_metv (cc := cX9_delta) (maxL := 9) (ret := none) rfl (by decide) rfl (Nat.le_of_ble_eq_true rfl) ?_
  intro p e s m args below meth c ls Q A hx hb hml hown hts hA hZ hw hl hQ kr kt
  have hq : ∀ w ∈ wwX, w.before args s = true := fun w h => hts w (List.mem_cons_of_mem _ h)
  have hl : lv_has ls 9 [(0, .ref (ad 4)), (1, .int y1), (2, .int y2), (3, .int y3), (4, .int y4)] := hl
  refine lv_iload_n hx hb dX9_delta_0 rfl (lv_at hl 2 rfl) ?_
  refine lv_iload_n hx hb dX9_delta_1 rfl (lv_at hl 1 rfl) ?_
  refine lv_isub hx hb dX9_delta_2 (jx_nm fun z1 hz1 => ?_)
  refine lv_iload_n hx hb dX9_delta_3 rfl (lv_at hl 3 rfl) ?_
  refine lv_isub hx hb dX9_delta_4 (jx_nm fun z2 hz2 => ?_)
  refine lv_istore (lv' := [(5, .int z2), (0, .ref (ad 4)), (1, .int y1), (2, .int y2), (3, .int y3), (4, .int y4)]) hx hb dX9_delta_5 hl (by decide) rfl (fun ls hl => ?_)
  refine lv_iconst (v := 0) hx hb dX9_delta_7 (by decide) ?_
  refine lv_istore (lv' := [(6, .int 0), (5, .int z2), (0, .ref (ad 4)), (1, .int y1), (2, .int y2), (3, .int y3), (4, .int y4)]) hx hb dX9_delta_8 hl (by decide) rfl (fun ls hl => ?_)
  have B3 : ∀ (k6 : Nat) (x4 : Int32) (a5 : Nat → Nat → Int32) (ls : Array Slot) (H : Heap) (locs : List Loc), 2147483648 - (x4).toInt ≤ (k6 : Int) → 0 ≤ (x4).toInt → hk_fr [1] ar a5 → hk_W D (jT cI cJ) A s H locs (xw cI cJ ad g lg a5 bk) → lv_has ls 9 [(0, .ref (ad 4)), (1, .int y1), (2, .int y2), (3, .int y3), (4, .int y4), (5, .int z2), (6, .int x4)] → W p l e { frames := 1, cells := 1, slots := 6, locals := 22 } s m args below meth c H locs 0 0 Q (F0 m 10 ls []) := by
    intro k6
    induction k6 with
    | zero =>
      intro x4 a5 ls H locs hrk_B3 hf_B3_0 hfr_a5 hw hl
      exact False.elim (hk_no0 (0 * (x4).toInt) (ob5 ((x4).toInt) hf_B3_0 hrk_B3 (hE_rng (x4))) (by simp))
    | succ k6 ih_B3 =>
      intro x4 a5 ls H locs hrk_B3 hf_B3_0 hfr_a5 hw hl
      have hrk_B3 := hk_rk hrk_B3
      refine lv_iload hx hb dX9_delta_10 (lv_at hl 6 rfl) ?_
      refine lv_iload hx hb dX9_delta_12 (lv_at hl 5 rfl) ?_
      refine lv_icmp_ge (tgt := 87) hx hb dX9_delta_14 (by decide) (fun cc7 => ?_) (fun cc7 => ?_)
      · exact kr g lg a5 bk _ _ _ _ ⟨hk_fr0, hk_fr0, hfr_a5⟩ hw dX9_delta_87
      · refine lv_iload hx hb dX9_delta_17 (lv_at hl 4 rfl) ?_
        have B8 : ∀  (x9 : Int32) (ls : Array Slot) (H : Heap) (locs : List Loc), hk_W D (jT cI cJ) A s H locs (xw cI cJ ad g lg a5 bk) → lv_has ls 9 [(0, .ref (ad 4)), (1, .int y1), (2, .int y2), (3, .int y3), (4, .int y4), (5, .int z2), (6, .int x4)] → W p l e { frames := 1, cells := 1, slots := 6, locals := 22 } s m args below meth c H locs 0 0 Q (F0 m 37 ls [.int x9]) := by
          intro x9 ls H locs hw hl
          refine lv_istore (lv' := [(7, .int x9), (0, .ref (ad 4)), (1, .int y1), (2, .int y2), (3, .int y3), (4, .int y4), (5, .int z2), (6, .int x4)]) hx hb dX9_delta_37 hl (by decide) rfl (fun ls hl => ?_)
          refine lv_aload_n hx hb dX9_delta_39 rfl (lv_at hl 1 rfl) ?_
          refine lv_iload hx hb dX9_delta_40 (lv_at hl 0 rfl) ?_
          refine lv_iload_n hx hb dX9_delta_42 rfl (lv_at hl 4 rfl) ?_
          refine lv_isub hx hb dX9_delta_43 (jx_nm fun z10 hz10 => ?_)
          refine jx_Vi (As := [.int z10]) (rest := []) ⟨hx, hb, hml, hown, hts⟩ hZ hw hA (jx_X9_get_4 l hlt D t3 cI cJ ad g lg a5 bk _ z10) (cwV 1 hts (jx_gV wwX_good wX_697 wX_22 wX_23 wX_24 wX_25) rfl rfl rfl (by decide +kernel) ⟨Nat.le_of_ble_eq_true rfl, Nat.le_of_ble_eq_true rfl⟩) 4 (ci := 12) (T := TX9) (N := 2) rfl rfl rfl hl.1 rfl (Nat.le_of_ble_eq_true rfl) dX9_delta_44 ⟨Nat.le_of_ble_eq_true rfl, Nat.le_of_ble_eq_true rfl⟩ (fun _ _ _ _ _ _ _ _ hp _ _ _ _ => hp.elim) (fun r15 g16 l17 a18 b19 H locs hp20 hw => ?_)
          obtain ⟨h21, h22, h23⟩ := hp20
          refine lv_istore (lv' := [(8, .int r15), (7, .int x9), (0, .ref (ad 4)), (1, .int y1), (2, .int y2), (3, .int y3), (4, .int y4), (5, .int z2), (6, .int x4)]) hx hb dX9_delta_47 hl (by decide) rfl (fun ls hl => ?_)
          refine lv_aload_n hx hb dX9_delta_49 rfl (lv_at hl 2 rfl) ?_
          refine lv_iload hx hb dX9_delta_50 (lv_at hl 1 rfl) ?_
          refine lv_iload hx hb dX9_delta_52 (lv_at hl 6 rfl) ?_
          have B24 : ∀  (x25 : Int32) (ls : Array Slot) (H : Heap) (locs : List Loc), hk_W D (jT cI cJ) A s H locs (xw cI cJ ad g16 l17 a18 b19) → lv_has ls 9 [(0, .ref (ad 4)), (1, .int y1), (2, .int y2), (3, .int y3), (4, .int y4), (5, .int z2), (6, .int x4)] → W p l e { frames := 1, cells := 1, slots := 6, locals := 22 } s m args below meth c H locs 0 0 Q (F0 m 78 ls [.int x25, .int x9, .ref (ad 4)]) := by
            intro x25 ls H locs hw hl
            refine jx_Vv (As := [.int x9, .int x25]) (rest := []) ⟨hx, hb, hml, hown, hts⟩ hZ hw hA (jx_X9_set_4 l hlt D t3 cI cJ ad g16 l17 a18 b19 _ x9 x25) (cwV 2 hts (jx_gV wwX_good wX_698 wX_587 wX_588 wX_24 wX_589) rfl rfl rfl (by decide +kernel) ⟨Nat.le_of_ble_eq_true rfl, Nat.le_of_ble_eq_true rfl⟩) 4 (ci := 12) (T := TX9) (N := 2) rfl rfl rfl hl.1 rfl (Nat.le_of_ble_eq_true rfl) dX9_delta_78 ⟨Nat.le_of_ble_eq_true rfl, Nat.le_of_ble_eq_true rfl⟩ (fun _ _ _ _ _ _ _ _ hp _ _ _ _ => hp.elim) (fun g31 l32 a33 b34 H locs hp35 hw => ?_)
            obtain ⟨h36, h37, h38⟩ := hp35
            obtain ⟨z39, hz39⟩ : ∃ z : Int32, x4 + 1 = z := ⟨_, rfl⟩
            refine lv_iinc (v := z39) (lv' := [(6, .int z39), (0, .ref (ad 4)), (1, .int y1), (2, .int y2), (3, .int y3), (4, .int y4), (5, .int z2)]) hx hb dX9_delta_81 hl (k := 6) rfl hz39 (by decide) rfl (fun ls hl => ?_)
            refine lv_goto (tgt := 10) hx hb dX9_delta_84 (by decide) ?_
            exact ih_B3 z39 a33 ls _ _ (ob24 ((z39).toInt) (k6 : Int) ((x4).toInt) (((1 : Int32)).toInt) ((z2).toInt) ((z1).toInt) ((y3).toInt) ((y2).toInt) ((y1).toInt) ((z10).toInt) ((x9).toInt) hrk_B3 (hE_add hz39) hf_B3_0 (hE_nle cc7) (hE_sub hz2) (hE_sub hz1) (hE_sub hz10) (hE_rng (z39)) (hE_rng (x4)) (by decide) (hE_rng (z2)) (hE_rng (z1)) (hE_rng (y3)) (hE_rng (y2)) (hE_rng (y1)) (hE_rng (z10)) (hE_rng (x9))) (ob25 ((z39).toInt) ((x4).toInt) (((1 : Int32)).toInt) (k6 : Int) ((z2).toInt) ((z1).toInt) ((y3).toInt) ((y2).toInt) ((y1).toInt) ((z10).toInt) ((x9).toInt) (hE_add hz39) hf_B3_0 hrk_B3 (hE_nle cc7) (hE_sub hz2) (hE_sub hz1) (hE_sub hz10) (hE_rng (z39)) (hE_rng (x4)) (by decide) (hE_rng (z2)) (hE_rng (z1)) (hE_rng (y3)) (hE_rng (y2)) (hE_rng (y1)) (hE_rng (z10)) (hE_rng (x9))) (hk_frT (hk_frT hfr_a5 (by decide) h23) (by decide) h38) hw (lv_sub hl [1, 2, 3, 4, 5, 6, 0] rfl)
          refine lv_if_eq (tgt := 69) hx hb dX9_delta_54 (by decide) (fun cc40 => ?_) (fun cc40 => ?_)
          · refine lv_aload_n hx hb dX9_delta_69 rfl (lv_at hl 2 rfl) ?_
            refine lv_iload hx hb dX9_delta_70 (lv_at hl 1 rfl) ?_
            refine jx_Vi (As := [.int x9]) (rest := [.int x9, .ref (ad 4)]) ⟨hx, hb, hml, hown, hts⟩ hZ hw hA (jx_X9_get_4 l hlt D t3 cI cJ ad g16 l17 a18 b19 _ x9) (cwV 1 hts (jx_gV wwX_good wX_697 wX_22 wX_23 wX_24 wX_25) rfl rfl rfl (by decide +kernel) ⟨Nat.le_of_ble_eq_true rfl, Nat.le_of_ble_eq_true rfl⟩) 4 (ci := 12) (T := TX9) (N := 2) rfl rfl rfl hl.1 rfl (Nat.le_of_ble_eq_true rfl) dX9_delta_72 ⟨Nat.le_of_ble_eq_true rfl, Nat.le_of_ble_eq_true rfl⟩ (fun _ _ _ _ _ _ _ _ hp _ _ _ _ => hp.elim) (fun r45 g46 l47 a48 b49 H locs hp50 hw => ?_)
            obtain ⟨h51, h52, h53⟩ := hp50
            refine lv_iload hx hb dX9_delta_75 (lv_at hl 0 rfl) ?_
            refine lv_isub hx hb dX9_delta_77 (jx_nm fun z54 hz54 => ?_)
            exact B24 z54 ls _ _ hw (lv_sub hl [2, 3, 4, 5, 6, 7, 8] rfl)
          · refine lv_aload_n hx hb dX9_delta_57 rfl (lv_at hl 2 rfl) ?_
            refine lv_iload hx hb dX9_delta_58 (lv_at hl 1 rfl) ?_
            refine jx_Vi (As := [.int x9]) (rest := [.int x9, .ref (ad 4)]) ⟨hx, hb, hml, hown, hts⟩ hZ hw hA (jx_X9_get_4 l hlt D t3 cI cJ ad g16 l17 a18 b19 _ x9) (cwV 1 hts (jx_gV wwX_good wX_697 wX_22 wX_23 wX_24 wX_25) rfl rfl rfl (by decide +kernel) ⟨Nat.le_of_ble_eq_true rfl, Nat.le_of_ble_eq_true rfl⟩) 4 (ci := 12) (T := TX9) (N := 2) rfl rfl rfl hl.1 rfl (Nat.le_of_ble_eq_true rfl) dX9_delta_60 ⟨Nat.le_of_ble_eq_true rfl, Nat.le_of_ble_eq_true rfl⟩ (fun _ _ _ _ _ _ _ _ hp _ _ _ _ => hp.elim) (fun r59 g60 l61 a62 b63 H locs hp64 hw => ?_)
            obtain ⟨h65, h66, h67⟩ := hp64
            refine lv_iload hx hb dX9_delta_63 (lv_at hl 0 rfl) ?_
            refine lv_iadd hx hb dX9_delta_65 (jx_nm fun z68 hz68 => ?_)
            refine lv_goto (tgt := 78) hx hb dX9_delta_66 (by decide) ?_
            exact B24 z68 ls _ _ hw (lv_sub hl [2, 3, 4, 5, 6, 7, 8] rfl)
        refine lv_if_eq (tgt := 31) hx hb dX9_delta_19 (by decide) (fun cc69 => ?_) (fun cc69 => ?_)
        · refine lv_iload_n hx hb dX9_delta_31 rfl (lv_at hl 2 rfl) ?_
          refine lv_iconst (v := 1) hx hb dX9_delta_32 (by decide) ?_
          refine lv_isub hx hb dX9_delta_33 (jx_nm fun z70 hz70 => ?_)
          refine lv_iload hx hb dX9_delta_34 (lv_at hl 6 rfl) ?_
          refine lv_isub hx hb dX9_delta_36 (jx_nm fun z71 hz71 => ?_)
          exact B8 z71 ls _ _ hw (lv_sub hl [0, 1, 2, 3, 4, 5, 6] rfl)
        · refine lv_iload_n hx hb dX9_delta_22 rfl (lv_at hl 1 rfl) ?_
          refine lv_iload_n hx hb dX9_delta_23 rfl (lv_at hl 3 rfl) ?_
          refine lv_iadd hx hb dX9_delta_24 (jx_nm fun z72 hz72 => ?_)
          refine lv_iload hx hb dX9_delta_25 (lv_at hl 6 rfl) ?_
          refine lv_iadd hx hb dX9_delta_27 (jx_nm fun z73 hz73 => ?_)
          refine lv_goto (tgt := 37) hx hb dX9_delta_28 (by decide) ?_
          exact B8 z73 ls _ _ hw (lv_sub hl [0, 1, 2, 3, 4, 5, 6] rfl)
  exact B3 (2147483648 - ((0 : Int32)).toInt).toNat 0 ar ls _ _ (Int.self_le_toNat _) (ob10 (((0 : Int32)).toInt) (by decide)) hk_fr0 hw (lv_sub hl [2, 3, 4, 5, 6, 1, 0] rfl)

set_option maxHeartbeats 4000000 in
set_option maxRecDepth 100000 in
/-- X9_delta on (29,) -/
theorem jx_X9_delta_29 (l : Launch) (hlt : l.stackTraces = false) (D : va_G) (t3 : Nat × Nat × Nat) (cI cJ : ClassId) (ad : Nat → Nat) (g : Nat → Int32) (lg : Nat → Int64) (ar : Nat → Nat → Int32) (bk : Nat → Int64) (sz : Nat) (y1 : Int32) (y2 : Int32) (y3 : Int32) (y4 : Int32) : JMv l yX9_delta (Cond.code yX9_delta cX9_delta 9 none :: wwX) { frames := 1, cells := 1, slots := 6, locals := 22 } t3 D xw cI cJ ad [.ref (ad 29), .int y1, .int y2, .int y3, .int y4] (xw cI cJ ad g lg ar bk) sz 1 6 (fun g' lg' ar' bk' => hk_fr [] g g' ∧ hk_fr [] lg lg' ∧ hk_fr [15] ar ar') (fun g' lg' ar' bk' => False) := by
  refine jx_metv (cc := cX9_delta) (maxL := 9) (ret := none) rfl (by decide) rfl (Nat.le_of_ble_eq_true rfl) ?_
  intro p e s m args below meth c ls Q A hx hb hml hown hts hA hZ hw hl hQ kr kt
  have hq : ∀ w ∈ wwX, w.before args s = true := fun w h => hts w (List.mem_cons_of_mem _ h)
  have hl : lv_has ls 9 [(0, .ref (ad 29)), (1, .int y1), (2, .int y2), (3, .int y3), (4, .int y4)] := hl
  refine lv_iload_n hx hb dX9_delta_0 rfl (lv_at hl 2 rfl) ?_
  refine lv_iload_n hx hb dX9_delta_1 rfl (lv_at hl 1 rfl) ?_
  refine lv_isub hx hb dX9_delta_2 (jx_nm fun z1 hz1 => ?_)
  refine lv_iload_n hx hb dX9_delta_3 rfl (lv_at hl 3 rfl) ?_
  refine lv_isub hx hb dX9_delta_4 (jx_nm fun z2 hz2 => ?_)
  refine lv_istore (lv' := [(5, .int z2), (0, .ref (ad 29)), (1, .int y1), (2, .int y2), (3, .int y3), (4, .int y4)]) hx hb dX9_delta_5 hl (by decide) rfl (fun ls hl => ?_)
  refine lv_iconst (v := 0) hx hb dX9_delta_7 (by decide) ?_
  refine lv_istore (lv' := [(6, .int 0), (5, .int z2), (0, .ref (ad 29)), (1, .int y1), (2, .int y2), (3, .int y3), (4, .int y4)]) hx hb dX9_delta_8 hl (by decide) rfl (fun ls hl => ?_)
  have B3 : ∀ (k6 : Nat) (x4 : Int32) (a5 : Nat → Nat → Int32) (ls : Array Slot) (H : Heap) (locs : List Loc), 2147483648 - (x4).toInt ≤ (k6 : Int) → 0 ≤ (x4).toInt → hk_fr [15] ar a5 → hk_W D (jT cI cJ) A s H locs (xw cI cJ ad g lg a5 bk) → lv_has ls 9 [(0, .ref (ad 29)), (1, .int y1), (2, .int y2), (3, .int y3), (4, .int y4), (5, .int z2), (6, .int x4)] → W p l e { frames := 1, cells := 1, slots := 6, locals := 22 } s m args below meth c H locs 0 0 Q (F0 m 10 ls []) := by
    intro k6
    induction k6 with
    | zero =>
      intro x4 a5 ls H locs hrk_B3 hf_B3_0 hfr_a5 hw hl
      exact False.elim (hk_no0 (0 * (x4).toInt) (ob5 ((x4).toInt) hf_B3_0 hrk_B3 (hE_rng (x4))) (by simp))
    | succ k6 ih_B3 =>
      intro x4 a5 ls H locs hrk_B3 hf_B3_0 hfr_a5 hw hl
      have hrk_B3 := hk_rk hrk_B3
      refine lv_iload hx hb dX9_delta_10 (lv_at hl 6 rfl) ?_
      refine lv_iload hx hb dX9_delta_12 (lv_at hl 5 rfl) ?_
      refine lv_icmp_ge (tgt := 87) hx hb dX9_delta_14 (by decide) (fun cc7 => ?_) (fun cc7 => ?_)
      · exact kr g lg a5 bk _ _ _ _ ⟨hk_fr0, hk_fr0, hfr_a5⟩ hw dX9_delta_87
      · refine lv_iload hx hb dX9_delta_17 (lv_at hl 4 rfl) ?_
        have B8 : ∀  (x9 : Int32) (ls : Array Slot) (H : Heap) (locs : List Loc), hk_W D (jT cI cJ) A s H locs (xw cI cJ ad g lg a5 bk) → lv_has ls 9 [(0, .ref (ad 29)), (1, .int y1), (2, .int y2), (3, .int y3), (4, .int y4), (5, .int z2), (6, .int x4)] → W p l e { frames := 1, cells := 1, slots := 6, locals := 22 } s m args below meth c H locs 0 0 Q (F0 m 37 ls [.int x9]) := by
          intro x9 ls H locs hw hl
          refine lv_istore (lv' := [(7, .int x9), (0, .ref (ad 29)), (1, .int y1), (2, .int y2), (3, .int y3), (4, .int y4), (5, .int z2), (6, .int x4)]) hx hb dX9_delta_37 hl (by decide) rfl (fun ls hl => ?_)
          refine lv_aload_n hx hb dX9_delta_39 rfl (lv_at hl 1 rfl) ?_
          refine lv_iload hx hb dX9_delta_40 (lv_at hl 0 rfl) ?_
          refine lv_iload_n hx hb dX9_delta_42 rfl (lv_at hl 4 rfl) ?_
          refine lv_isub hx hb dX9_delta_43 (jx_nm fun z10 hz10 => ?_)
          refine jx_Vi (As := [.int z10]) (rest := []) ⟨hx, hb, hml, hown, hts⟩ hZ hw hA (jx_X9_get_29 l hlt D t3 cI cJ ad g lg a5 bk _ z10) (cwV 1 hts (jx_gV wwX_good wX_697 wX_22 wX_23 wX_24 wX_25) rfl rfl rfl (by decide +kernel) ⟨Nat.le_of_ble_eq_true rfl, Nat.le_of_ble_eq_true rfl⟩) 29 (ci := 12) (T := TX9) (N := 2) rfl rfl rfl hl.1 rfl (Nat.le_of_ble_eq_true rfl) dX9_delta_44 ⟨Nat.le_of_ble_eq_true rfl, Nat.le_of_ble_eq_true rfl⟩ (fun _ _ _ _ _ _ _ _ hp _ _ _ _ => hp.elim) (fun r15 g16 l17 a18 b19 H locs hp20 hw => ?_)
          obtain ⟨h21, h22, h23⟩ := hp20
          refine lv_istore (lv' := [(8, .int r15), (7, .int x9), (0, .ref (ad 29)), (1, .int y1), (2, .int y2), (3, .int y3), (4, .int y4), (5, .int z2), (6, .int x4)]) hx hb dX9_delta_47 hl (by decide) rfl (fun ls hl => ?_)
          refine lv_aload_n hx hb dX9_delta_49 rfl (lv_at hl 2 rfl) ?_
          refine lv_iload hx hb dX9_delta_50 (lv_at hl 1 rfl) ?_
          refine lv_iload hx hb dX9_delta_52 (lv_at hl 6 rfl) ?_
          have B24 : ∀  (x25 : Int32) (ls : Array Slot) (H : Heap) (locs : List Loc), hk_W D (jT cI cJ) A s H locs (xw cI cJ ad g16 l17 a18 b19) → lv_has ls 9 [(0, .ref (ad 29)), (1, .int y1), (2, .int y2), (3, .int y3), (4, .int y4), (5, .int z2), (6, .int x4)] → W p l e { frames := 1, cells := 1, slots := 6, locals := 22 } s m args below meth c H locs 0 0 Q (F0 m 78 ls [.int x25, .int x9, .ref (ad 29)]) := by
            intro x25 ls H locs hw hl
            refine jx_Vv (As := [.int x9, .int x25]) (rest := []) ⟨hx, hb, hml, hown, hts⟩ hZ hw hA (jx_X9_set_29 l hlt D t3 cI cJ ad g16 l17 a18 b19 _ x9 x25) (cwV 2 hts (jx_gV wwX_good wX_698 wX_587 wX_588 wX_24 wX_589) rfl rfl rfl (by decide +kernel) ⟨Nat.le_of_ble_eq_true rfl, Nat.le_of_ble_eq_true rfl⟩) 29 (ci := 12) (T := TX9) (N := 2) rfl rfl rfl hl.1 rfl (Nat.le_of_ble_eq_true rfl) dX9_delta_78 ⟨Nat.le_of_ble_eq_true rfl, Nat.le_of_ble_eq_true rfl⟩ (fun _ _ _ _ _ _ _ _ hp _ _ _ _ => hp.elim) (fun g31 l32 a33 b34 H locs hp35 hw => ?_)
            obtain ⟨h36, h37, h38⟩ := hp35
            obtain ⟨z39, hz39⟩ : ∃ z : Int32, x4 + 1 = z := ⟨_, rfl⟩
            refine lv_iinc (v := z39) (lv' := [(6, .int z39), (0, .ref (ad 29)), (1, .int y1), (2, .int y2), (3, .int y3), (4, .int y4), (5, .int z2)]) hx hb dX9_delta_81 hl (k := 6) rfl hz39 (by decide) rfl (fun ls hl => ?_)
            refine lv_goto (tgt := 10) hx hb dX9_delta_84 (by decide) ?_
            exact ih_B3 z39 a33 ls _ _ (ob24 ((z39).toInt) (k6 : Int) ((x4).toInt) (((1 : Int32)).toInt) ((z2).toInt) ((z1).toInt) ((y3).toInt) ((y2).toInt) ((y1).toInt) ((z10).toInt) ((x9).toInt) hrk_B3 (hE_add hz39) hf_B3_0 (hE_nle cc7) (hE_sub hz2) (hE_sub hz1) (hE_sub hz10) (hE_rng (z39)) (hE_rng (x4)) (by decide) (hE_rng (z2)) (hE_rng (z1)) (hE_rng (y3)) (hE_rng (y2)) (hE_rng (y1)) (hE_rng (z10)) (hE_rng (x9))) (ob25 ((z39).toInt) ((x4).toInt) (((1 : Int32)).toInt) (k6 : Int) ((z2).toInt) ((z1).toInt) ((y3).toInt) ((y2).toInt) ((y1).toInt) ((z10).toInt) ((x9).toInt) (hE_add hz39) hf_B3_0 hrk_B3 (hE_nle cc7) (hE_sub hz2) (hE_sub hz1) (hE_sub hz10) (hE_rng (z39)) (hE_rng (x4)) (by decide) (hE_rng (z2)) (hE_rng (z1)) (hE_rng (y3)) (hE_rng (y2)) (hE_rng (y1)) (hE_rng (z10)) (hE_rng (x9))) (hk_frT (hk_frT hfr_a5 (by decide) h23) (by decide) h38) hw (lv_sub hl [1, 2, 3, 4, 5, 6, 0] rfl)
          refine lv_if_eq (tgt := 69) hx hb dX9_delta_54 (by decide) (fun cc40 => ?_) (fun cc40 => ?_)
          · refine lv_aload_n hx hb dX9_delta_69 rfl (lv_at hl 2 rfl) ?_
            refine lv_iload hx hb dX9_delta_70 (lv_at hl 1 rfl) ?_
            refine jx_Vi (As := [.int x9]) (rest := [.int x9, .ref (ad 29)]) ⟨hx, hb, hml, hown, hts⟩ hZ hw hA (jx_X9_get_29 l hlt D t3 cI cJ ad g16 l17 a18 b19 _ x9) (cwV 1 hts (jx_gV wwX_good wX_697 wX_22 wX_23 wX_24 wX_25) rfl rfl rfl (by decide +kernel) ⟨Nat.le_of_ble_eq_true rfl, Nat.le_of_ble_eq_true rfl⟩) 29 (ci := 12) (T := TX9) (N := 2) rfl rfl rfl hl.1 rfl (Nat.le_of_ble_eq_true rfl) dX9_delta_72 ⟨Nat.le_of_ble_eq_true rfl, Nat.le_of_ble_eq_true rfl⟩ (fun _ _ _ _ _ _ _ _ hp _ _ _ _ => hp.elim) (fun r45 g46 l47 a48 b49 H locs hp50 hw => ?_)
            obtain ⟨h51, h52, h53⟩ := hp50
            refine lv_iload hx hb dX9_delta_75 (lv_at hl 0 rfl) ?_
            refine lv_isub hx hb dX9_delta_77 (jx_nm fun z54 hz54 => ?_)
            exact B24 z54 ls _ _ hw (lv_sub hl [2, 3, 4, 5, 6, 7, 8] rfl)
          · refine lv_aload_n hx hb dX9_delta_57 rfl (lv_at hl 2 rfl) ?_
            refine lv_iload hx hb dX9_delta_58 (lv_at hl 1 rfl) ?_
            refine jx_Vi (As := [.int x9]) (rest := [.int x9, .ref (ad 29)]) ⟨hx, hb, hml, hown, hts⟩ hZ hw hA (jx_X9_get_29 l hlt D t3 cI cJ ad g16 l17 a18 b19 _ x9) (cwV 1 hts (jx_gV wwX_good wX_697 wX_22 wX_23 wX_24 wX_25) rfl rfl rfl (by decide +kernel) ⟨Nat.le_of_ble_eq_true rfl, Nat.le_of_ble_eq_true rfl⟩) 29 (ci := 12) (T := TX9) (N := 2) rfl rfl rfl hl.1 rfl (Nat.le_of_ble_eq_true rfl) dX9_delta_60 ⟨Nat.le_of_ble_eq_true rfl, Nat.le_of_ble_eq_true rfl⟩ (fun _ _ _ _ _ _ _ _ hp _ _ _ _ => hp.elim) (fun r59 g60 l61 a62 b63 H locs hp64 hw => ?_)
            obtain ⟨h65, h66, h67⟩ := hp64
            refine lv_iload hx hb dX9_delta_63 (lv_at hl 0 rfl) ?_
            refine lv_iadd hx hb dX9_delta_65 (jx_nm fun z68 hz68 => ?_)
            refine lv_goto (tgt := 78) hx hb dX9_delta_66 (by decide) ?_
            exact B24 z68 ls _ _ hw (lv_sub hl [2, 3, 4, 5, 6, 7, 8] rfl)
        refine lv_if_eq (tgt := 31) hx hb dX9_delta_19 (by decide) (fun cc69 => ?_) (fun cc69 => ?_)
        · refine lv_iload_n hx hb dX9_delta_31 rfl (lv_at hl 2 rfl) ?_
          refine lv_iconst (v := 1) hx hb dX9_delta_32 (by decide) ?_
          refine lv_isub hx hb dX9_delta_33 (jx_nm fun z70 hz70 => ?_)
          refine lv_iload hx hb dX9_delta_34 (lv_at hl 6 rfl) ?_
          refine lv_isub hx hb dX9_delta_36 (jx_nm fun z71 hz71 => ?_)
          exact B8 z71 ls _ _ hw (lv_sub hl [0, 1, 2, 3, 4, 5, 6] rfl)
        · refine lv_iload_n hx hb dX9_delta_22 rfl (lv_at hl 1 rfl) ?_
          refine lv_iload_n hx hb dX9_delta_23 rfl (lv_at hl 3 rfl) ?_
          refine lv_iadd hx hb dX9_delta_24 (jx_nm fun z72 hz72 => ?_)
          refine lv_iload hx hb dX9_delta_25 (lv_at hl 6 rfl) ?_
          refine lv_iadd hx hb dX9_delta_27 (jx_nm fun z73 hz73 => ?_)
          refine lv_goto (tgt := 37) hx hb dX9_delta_28 (by decide) ?_
          exact B8 z73 ls _ _ hw (lv_sub hl [0, 1, 2, 3, 4, 5, 6] rfl)
  exact B3 (2147483648 - ((0 : Int32)).toInt).toNat 0 ar ls _ _ (Int.self_le_toNat _) (ob10 (((0 : Int32)).toInt) (by decide)) hk_fr0 hw (lv_sub hl [2, 3, 4, 5, 6, 1, 0] rfl)

set_option maxHeartbeats 4000000 in
set_option maxRecDepth 100000 in
/-- X9_branch on (2,) -/
theorem jx_X9_branch_2 (l : Launch) (hlt : l.stackTraces = false) (D : va_G) (t3 : Nat × Nat × Nat) (cI cJ : ClassId) (ad : Nat → Nat) (g : Nat → Int32) (lg : Nat → Int64) (ar : Nat → Nat → Int32) (bk : Nat → Int64) (sz : Nat) (y1 : Int32) (y2 : Int32) (y3 : Int32) (hr0 : -1000000000 ≤ (y1).toInt ∧ (y1).toInt ≤ 1000000000) (hr1 : (y2).toInt ≤ 1000000000) (hi_a0rg : hk_rg 0 255 (ar 0)) : JMv l yX9_branch (Cond.code yX9_branch cX9_branch 8 none :: wwX) { frames := 1, cells := 1, slots := 6, locals := 22 } t3 D xw cI cJ ad [.ref (ad 2), .int y1, .int y2, .int y3] (xw cI cJ ad g lg ar bk) sz 1 6 (fun g' lg' ar' bk' => hk_fr [] g g' ∧ hk_fr [] lg lg' ∧ hk_fr [0] ar ar' ∧ hk_rg 0 255 (ar' 0)) (fun g' lg' ar' bk' => False) := by
  refine jx_metv (cc := cX9_branch) (maxL := 8) (ret := none) rfl (by decide) rfl (Nat.le_of_ble_eq_true rfl) ?_
  intro p e s m args below meth c ls Q A hx hb hml hown hts hA hZ hw hl hQ kr kt
  have hq : ∀ w ∈ wwX, w.before args s = true := fun w h => hts w (List.mem_cons_of_mem _ h)
  have hl : lv_has ls 8 [(0, .ref (ad 2)), (1, .int y1), (2, .int y2), (3, .int y3)] := hl
  refine lv_iload_n hx hb dX9_branch_0 rfl (lv_at hl 1 rfl) ?_
  refine lv_istore (lv' := [(4, .int y1), (0, .ref (ad 2)), (1, .int y1), (2, .int y2), (3, .int y3)]) hx hb dX9_branch_1 hl (by decide) rfl (fun ls hl => ?_)
  have B1 : ∀ (k4 : Nat) (x2 : Int32) (a3 : Nat → Nat → Int32) (ls : Array Slot) (H : Heap) (locs : List Loc), 2147483648 - (x2).toInt ≤ (k4 : Int) → -1000000000 ≤ (x2).toInt ∧ (x2).toInt ≤ 1000000010 → hk_fr [0] ar a3 → hk_rg 0 255 (a3 0) → hk_W D (jT cI cJ) A s H locs (xw cI cJ ad g lg a3 bk) → lv_has ls 8 [(0, .ref (ad 2)), (1, .int y1), (2, .int y2), (3, .int y3), (4, .int x2)] → W p l e { frames := 1, cells := 1, slots := 6, locals := 22 } s m args below meth c H locs 0 0 Q (F0 m 3 ls []) := by
    intro k4
    induction k4 with
    | zero =>
      intro x2 a3 ls H locs hrk_B1 hf_B1_0 hfr_a3 ha3_r0rg hw hl
      exact False.elim (hk_no0 (0 * (x2).toInt) (ob26 ((x2).toInt) hf_B1_0 hrk_B1 (hE_rng (x2))) (by simp))
    | succ k4 ih_B1 =>
      intro x2 a3 ls H locs hrk_B1 hf_B1_0 hfr_a3 ha3_r0rg hw hl
      have hrk_B1 := hk_rk hrk_B1
      refine lv_iload hx hb dX9_branch_3 (lv_at hl 4 rfl) ?_
      refine lv_iconst (v := 3) hx hb dX9_branch_5 (by decide) ?_
      refine lv_iadd hx hb dX9_branch_6 (jx_nm fun z5 hz5 => ?_)
      refine lv_iload_n hx hb dX9_branch_7 rfl (lv_at hl 2 rfl) ?_
      refine lv_icmp_ge (tgt := 129) hx hb dX9_branch_8 (by decide) (fun cc6 => ?_) (fun cc6 => ?_)
      · exact kr g lg a3 bk _ _ _ _ ⟨hk_fr0, hk_fr0, hfr_a3, ha3_r0rg⟩ hw dX9_branch_129
      · refine lv_aload_n hx hb dX9_branch_11 rfl (lv_at hl 0 rfl) ?_
        refine lv_iload hx hb dX9_branch_12 (lv_at hl 4 rfl) ?_
        refine lv_iconst (v := 3) hx hb dX9_branch_14 (by decide) ?_
        refine lv_iadd hx hb dX9_branch_15 (jx_nm fun z7 hz7 => ?_)
        refine jx_Vi (As := [.int z7]) (rest := []) ⟨hx, hb, hml, hown, hts⟩ hZ hw hA (jx_X9_get_2 l hlt D t3 cI cJ ad g lg a3 bk _ z7) (cwV 1 hts (jx_gV wwX_good wX_697 wX_22 wX_23 wX_24 wX_25) rfl rfl rfl (by decide +kernel) ⟨Nat.le_of_ble_eq_true rfl, Nat.le_of_ble_eq_true rfl⟩) 2 (ci := 12) (T := TX9) (N := 2) rfl rfl rfl hl.1 rfl (Nat.le_of_ble_eq_true rfl) dX9_branch_16 ⟨Nat.le_of_ble_eq_true rfl, Nat.le_of_ble_eq_true rfl⟩ (fun _ _ _ _ _ _ _ _ hp _ _ _ _ => hp.elim) (fun r12 g13 l14 a15 b16 H locs hp17 hw => ?_)
        obtain ⟨h18, h19, h20⟩ := hp17
        refine lv_sipush (v := 235) hx hb dX9_branch_19 (by decide) ?_
        have B21 : ∀  (a22 : Nat → Nat → Int32) (ls : Array Slot) (H : Heap) (locs : List Loc), hk_fr [0] a15 a22 → hk_rg 0 255 (a22 0) → hk_W D (jT cI cJ) A s H locs (xw cI cJ ad g13 l14 a22 b16) → lv_has ls 8 [(0, .ref (ad 2)), (1, .int y1), (2, .int y2), (3, .int y3), (4, .int x2)] → W p l e { frames := 1, cells := 1, slots := 6, locals := 22 } s m args below meth c H locs 0 0 Q (F0 m 123 ls []) := by
          intro a22 ls H locs hfr_a22 ha22_r0rg hw hl
          obtain ⟨z23, hz23⟩ : ∃ z : Int32, x2 + 4 = z := ⟨_, rfl⟩
          refine lv_iinc (v := z23) (lv' := [(4, .int z23), (0, .ref (ad 2)), (1, .int y1), (2, .int y2), (3, .int y3)]) hx hb dX9_branch_123 hl (k := 4) rfl hz23 (by decide) rfl (fun ls hl => ?_)
          refine lv_goto (tgt := 3) hx hb dX9_branch_126 (by decide) ?_
          exact ih_B1 z23 a22 ls _ _ (ob27 ((z23).toInt) (k4 : Int) ((x2).toInt) (((4 : Int32)).toInt) ((z5).toInt) (((3 : Int32)).toInt) ((z7).toInt) ((y2).toInt) hrk_B1 (hE_add hz23) hf_B1_0 (hE_add hz5) (hE_add hz7) (hE_nle cc6) hr1 (hE_rng (z23)) (hE_rng (x2)) (by decide) (hE_rng (z5)) (by decide) (hE_rng (z7)) (hE_rng (y2))) (ob28 ((z23).toInt) ((x2).toInt) (((4 : Int32)).toInt) (k4 : Int) ((z5).toInt) (((3 : Int32)).toInt) ((z7).toInt) ((y2).toInt) (hE_add hz23) hf_B1_0 hrk_B1 (hE_add hz5) (hE_add hz7) (hE_nle cc6) hr1 (hE_rng (z23)) (hE_rng (x2)) (by decide) (hE_rng (z5)) (by decide) (hE_rng (z7)) (hE_rng (y2))) (hk_frT (hk_frT hfr_a3 (by decide) h20) (by decide) hfr_a22) ha22_r0rg hw (lv_sub hl [1, 2, 3, 4, 0] rfl)
        refine lv_icmp_ne (tgt := 123) hx hb dX9_branch_22 (by decide) (fun cc24 => ?_) (fun cc24 => ?_)
        · exact B21 a15 ls _ _ hk_fr0 (hk_pE (P := hk_rg 0 255) ha3_r0rg (h20 0 rfl)) hw (lv_sub hl [0, 1, 2, 3, 4] rfl)
        · refine lv_aload_n hx hb dX9_branch_25 rfl (lv_at hl 0 rfl) ?_
          refine lv_iload hx hb dX9_branch_26 (lv_at hl 4 rfl) ?_
          refine jx_Vi (As := [.int x2]) (rest := []) ⟨hx, hb, hml, hown, hts⟩ hZ hw hA (jx_X9_get_2 l hlt D t3 cI cJ ad g13 l14 a15 b16 _ x2) (cwV 1 hts (jx_gV wwX_good wX_697 wX_22 wX_23 wX_24 wX_25) rfl rfl rfl (by decide +kernel) ⟨Nat.le_of_ble_eq_true rfl, Nat.le_of_ble_eq_true rfl⟩) 2 (ci := 12) (T := TX9) (N := 2) rfl rfl rfl hl.1 rfl (Nat.le_of_ble_eq_true rfl) dX9_branch_28 ⟨Nat.le_of_ble_eq_true rfl, Nat.le_of_ble_eq_true rfl⟩ (fun _ _ _ _ _ _ _ _ hp _ _ _ _ => hp.elim) (fun r29 g30 l31 a32 b33 H locs hp34 hw => ?_)
          obtain ⟨h35, h36, h37⟩ := hp34
          have hr38 : hk_rg 0 255 (a32 0) := (hk_pE (P := hk_rg 0 255) (hk_pE (P := hk_rg 0 255) ha3_r0rg (h20 0 rfl)) (h37 0 rfl))
          refine lv_aload_n hx hb dX9_branch_31 rfl (lv_at hl 0 rfl) ?_
          refine lv_iload hx hb dX9_branch_32 (lv_at hl 4 rfl) ?_
          refine lv_iconst (v := 1) hx hb dX9_branch_34 (by decide) ?_
          refine lv_iadd hx hb dX9_branch_35 (jx_nm fun z39 hz39 => ?_)
          refine jx_Vi (As := [.int z39]) (rest := [.int r29]) ⟨hx, hb, hml, hown, hts⟩ hZ hw hA (jx_X9_get_2 l hlt D t3 cI cJ ad g30 l31 a32 b33 _ z39) (cwV 1 hts (jx_gV wwX_good wX_697 wX_22 wX_23 wX_24 wX_25) rfl rfl rfl (by decide +kernel) ⟨Nat.le_of_ble_eq_true rfl, Nat.le_of_ble_eq_true rfl⟩) 2 (ci := 12) (T := TX9) (N := 2) rfl rfl rfl hl.1 rfl (Nat.le_of_ble_eq_true rfl) dX9_branch_36 ⟨Nat.le_of_ble_eq_true rfl, Nat.le_of_ble_eq_true rfl⟩ (fun _ _ _ _ _ _ _ _ hp _ _ _ _ => hp.elim) (fun r44 g45 l46 a47 b48 H locs hp49 hw => ?_)
          obtain ⟨h50, h51, h52⟩ := hp49
          refine lv_bipush (v := 8) hx hb dX9_branch_39 (by decide) ?_
          refine lv_ishl hx hb dX9_branch_41 (jx_nm fun z53 hz53 => ?_)
          refine lv_ior hx hb dX9_branch_42 (jx_nm fun z54 hz54 => ?_)
          refine lv_aload_n hx hb dX9_branch_43 rfl (lv_at hl 0 rfl) ?_
          refine lv_iload hx hb dX9_branch_44 (lv_at hl 4 rfl) ?_
          refine lv_iconst (v := 2) hx hb dX9_branch_46 (by decide) ?_
          refine lv_iadd hx hb dX9_branch_47 (jx_nm fun z55 hz55 => ?_)
          refine jx_Vi (As := [.int z55]) (rest := [.int z54]) ⟨hx, hb, hml, hown, hts⟩ hZ hw hA (jx_X9_get_2 l hlt D t3 cI cJ ad g45 l46 a47 b48 _ z55) (cwV 1 hts (jx_gV wwX_good wX_697 wX_22 wX_23 wX_24 wX_25) rfl rfl rfl (by decide +kernel) ⟨Nat.le_of_ble_eq_true rfl, Nat.le_of_ble_eq_true rfl⟩) 2 (ci := 12) (T := TX9) (N := 2) rfl rfl rfl hl.1 rfl (Nat.le_of_ble_eq_true rfl) dX9_branch_48 ⟨Nat.le_of_ble_eq_true rfl, Nat.le_of_ble_eq_true rfl⟩ (fun _ _ _ _ _ _ _ _ hp _ _ _ _ => hp.elim) (fun r60 g61 l62 a63 b64 H locs hp65 hw => ?_)
          obtain ⟨h66, h67, h68⟩ := hp65
          have hr69 : hk_rg 0 255 (a63 0) := (hk_pE (P := hk_rg 0 255) (hk_pE (P := hk_rg 0 255) hr38 (h52 0 rfl)) (h68 0 rfl))
          refine lv_bipush (v := 16) hx hb dX9_branch_51 (by decide) ?_
          refine lv_ishl hx hb dX9_branch_53 (jx_nm fun z70 hz70 => ?_)
          refine lv_ior hx hb dX9_branch_54 (jx_nm fun z71 hz71 => ?_)
          refine lv_iconst (v := 2) hx hb dX9_branch_55 (by decide) ?_
          refine lv_ishl hx hb dX9_branch_56 (jx_nm fun z72 hz72 => ?_)
          refine lv_istore (lv' := [(5, .int z72), (0, .ref (ad 2)), (1, .int y1), (2, .int y2), (3, .int y3), (4, .int x2)]) hx hb dX9_branch_57 hl (by decide) rfl (fun ls hl => ?_)
          refine lv_iload hx hb dX9_branch_59 (lv_at hl 5 rfl) ?_
          refine lv_iload_n hx hb dX9_branch_61 rfl (lv_at hl 2 rfl) ?_
          refine lv_isub hx hb dX9_branch_62 (jx_nm fun z73 hz73 => ?_)
          refine lv_bipush (v := 8) hx hb dX9_branch_63 (by decide) ?_
          refine lv_iadd hx hb dX9_branch_65 (jx_nm fun z74 hz74 => ?_)
          refine lv_istore (lv' := [(6, .int z74), (5, .int z72), (0, .ref (ad 2)), (1, .int y1), (2, .int y2), (3, .int y3), (4, .int x2)]) hx hb dX9_branch_66 hl (by decide) rfl (fun ls hl => ?_)
          refine lv_iload_n hx hb dX9_branch_68 rfl (lv_at hl 5 rfl) ?_
          have B75 : ∀  (x76 : Int32) (ls : Array Slot) (H : Heap) (locs : List Loc), hk_W D (jT cI cJ) A s H locs (xw cI cJ ad g61 l62 a63 b64) → lv_has ls 8 [(0, .ref (ad 2)), (1, .int y1), (2, .int y2), (3, .int y3), (4, .int x2)] → W p l e { frames := 1, cells := 1, slots := 6, locals := 22 } s m args below meth c H locs 0 0 Q (F0 m 85 ls [.int x76]) := by
            intro x76 ls H locs hw hl
            refine lv_iconst (v := 2) hx hb dX9_branch_85 (by decide) ?_
            refine lv_iushr hx hb dX9_branch_86 rfl (jx_nm fun z77 hz77 => ?_)
            refine lv_istore (lv' := [(7, .int z77), (0, .ref (ad 2)), (1, .int y1), (2, .int y2), (3, .int y3), (4, .int x2)]) hx hb dX9_branch_87 hl (by decide) rfl (fun ls hl => ?_)
            refine lv_aload_n hx hb dX9_branch_89 rfl (lv_at hl 1 rfl) ?_
            refine lv_iload hx hb dX9_branch_90 (lv_at hl 5 rfl) ?_
            refine lv_iload hx hb dX9_branch_92 (lv_at hl 0 rfl) ?_
            refine jx_Vv (As := [.int x2, .int z77]) (rest := []) ⟨hx, hb, hml, hown, hts⟩ hZ hw hA (jx_X9_set_2 l hlt D t3 cI cJ ad g61 l62 a63 b64 _ x2 z77 hr69) (cwV 2 hts (jx_gV wwX_good wX_698 wX_587 wX_588 wX_24 wX_589) rfl rfl rfl (by decide +kernel) ⟨Nat.le_of_ble_eq_true rfl, Nat.le_of_ble_eq_true rfl⟩) 2 (ci := 12) (T := TX9) (N := 2) rfl rfl rfl hl.1 rfl (Nat.le_of_ble_eq_true rfl) dX9_branch_94 ⟨Nat.le_of_ble_eq_true rfl, Nat.le_of_ble_eq_true rfl⟩ (fun _ _ _ _ _ _ _ _ hp _ _ _ _ => hp.elim) (fun g83 l84 a85 b86 H locs hp87 hw => ?_)
            obtain ⟨h88, h89, h90, h91⟩ := hp87
            refine lv_aload_n hx hb dX9_branch_97 rfl (lv_at hl 1 rfl) ?_
            refine lv_iload hx hb dX9_branch_98 (lv_at hl 5 rfl) ?_
            refine lv_iconst (v := 1) hx hb dX9_branch_100 (by decide) ?_
            refine lv_iadd hx hb dX9_branch_101 (jx_nm fun z92 hz92 => ?_)
            refine lv_iload hx hb dX9_branch_102 (lv_at hl 0 rfl) ?_
            refine lv_bipush (v := 8) hx hb dX9_branch_104 (by decide) ?_
            refine lv_iushr hx hb dX9_branch_106 rfl (jx_nm fun z93 hz93 => ?_)
            refine jx_Vv (As := [.int z92, .int z93]) (rest := []) ⟨hx, hb, hml, hown, hts⟩ hZ hw hA (jx_X9_set_2 l hlt D t3 cI cJ ad g83 l84 a85 b86 _ z92 z93 h91) (cwV 2 hts (jx_gV wwX_good wX_698 wX_587 wX_588 wX_24 wX_589) rfl rfl rfl (by decide +kernel) ⟨Nat.le_of_ble_eq_true rfl, Nat.le_of_ble_eq_true rfl⟩) 2 (ci := 12) (T := TX9) (N := 2) rfl rfl rfl hl.1 rfl (Nat.le_of_ble_eq_true rfl) dX9_branch_107 ⟨Nat.le_of_ble_eq_true rfl, Nat.le_of_ble_eq_true rfl⟩ (fun _ _ _ _ _ _ _ _ hp _ _ _ _ => hp.elim) (fun g99 l100 a101 b102 H locs hp103 hw => ?_)
            obtain ⟨h104, h105, h106, h107⟩ := hp103
            refine lv_aload_n hx hb dX9_branch_110 rfl (lv_at hl 1 rfl) ?_
            refine lv_iload hx hb dX9_branch_111 (lv_at hl 5 rfl) ?_
            refine lv_iconst (v := 2) hx hb dX9_branch_113 (by decide) ?_
            refine lv_iadd hx hb dX9_branch_114 (jx_nm fun z108 hz108 => ?_)
            refine lv_iload hx hb dX9_branch_115 (lv_at hl 0 rfl) ?_
            refine lv_bipush (v := 16) hx hb dX9_branch_117 (by decide) ?_
            refine lv_iushr hx hb dX9_branch_119 rfl (jx_nm fun z109 hz109 => ?_)
            refine jx_Vv (As := [.int z108, .int z109]) (rest := []) ⟨hx, hb, hml, hown, hts⟩ hZ hw hA (jx_X9_set_2 l hlt D t3 cI cJ ad g99 l100 a101 b102 _ z108 z109 h107) (cwV 2 hts (jx_gV wwX_good wX_698 wX_587 wX_588 wX_24 wX_589) rfl rfl rfl (by decide +kernel) ⟨Nat.le_of_ble_eq_true rfl, Nat.le_of_ble_eq_true rfl⟩) 2 (ci := 12) (T := TX9) (N := 2) rfl rfl rfl hl.1 rfl (Nat.le_of_ble_eq_true rfl) dX9_branch_120 ⟨Nat.le_of_ble_eq_true rfl, Nat.le_of_ble_eq_true rfl⟩ (fun _ _ _ _ _ _ _ _ hp _ _ _ _ => hp.elim) (fun g115 l116 a117 b118 H locs hp119 hw => ?_)
            obtain ⟨h120, h121, h122, h123⟩ := hp119
            exact B21 a117 ls _ _ (hk_frT (hk_frT (hk_frT (hk_frT (hk_frT (hk_frT hk_fr0 (by decide) h37) (by decide) h52) (by decide) h68) (by decide) h90) (by decide) h106) (by decide) h122) h123 hw (lv_sub hl [1, 2, 3, 4, 5] rfl)
          refine lv_if_eq (tgt := 80) hx hb dX9_branch_69 (by decide) (fun cc124 => ?_) (fun cc124 => ?_)
          · refine lv_iload hx hb dX9_branch_80 (lv_at hl 1 rfl) ?_
            refine lv_iload hx hb dX9_branch_82 (lv_at hl 0 rfl) ?_
            refine lv_iadd hx hb dX9_branch_84 (jx_nm fun z125 hz125 => ?_)
            exact B75 z125 ls _ _ hw (lv_sub hl [2, 3, 4, 5, 6] rfl)
          · refine lv_iload hx hb dX9_branch_72 (lv_at hl 1 rfl) ?_
            refine lv_iload hx hb dX9_branch_74 (lv_at hl 0 rfl) ?_
            refine lv_isub hx hb dX9_branch_76 (jx_nm fun z126 hz126 => ?_)
            refine lv_goto (tgt := 85) hx hb dX9_branch_77 (by decide) ?_
            exact B75 z126 ls _ _ hw (lv_sub hl [2, 3, 4, 5, 6] rfl)
  exact B1 (2147483648 - (y1).toInt).toNat y1 ar ls _ _ (Int.self_le_toNat _) (ob29 ((y1).toInt) hr0 (hE_rng (y1))) hk_fr0 hi_a0rg hw (lv_sub hl [1, 2, 3, 4, 0] rfl)

set_option maxHeartbeats 4000000 in
set_option maxRecDepth 100000 in
/-- X9_branch on (4,) -/
theorem jx_X9_branch_4 (l : Launch) (hlt : l.stackTraces = false) (D : va_G) (t3 : Nat × Nat × Nat) (cI cJ : ClassId) (ad : Nat → Nat) (g : Nat → Int32) (lg : Nat → Int64) (ar : Nat → Nat → Int32) (bk : Nat → Int64) (sz : Nat) (y1 : Int32) (y2 : Int32) (y3 : Int32) (hr0 : -1000000000 ≤ (y1).toInt ∧ (y1).toInt ≤ 1000000000) (hr1 : (y2).toInt ≤ 1000000000) : JMv l yX9_branch (Cond.code yX9_branch cX9_branch 8 none :: wwX) { frames := 1, cells := 1, slots := 6, locals := 22 } t3 D xw cI cJ ad [.ref (ad 4), .int y1, .int y2, .int y3] (xw cI cJ ad g lg ar bk) sz 1 6 (fun g' lg' ar' bk' => hk_fr [] g g' ∧ hk_fr [] lg lg' ∧ hk_fr [1] ar ar') (fun g' lg' ar' bk' => False) := by
  refine jx_metv (cc := cX9_branch) (maxL := 8) (ret := none) rfl (by decide) rfl (Nat.le_of_ble_eq_true rfl) ?_
  intro p e s m args below meth c ls Q A hx hb hml hown hts hA hZ hw hl hQ kr kt
  have hq : ∀ w ∈ wwX, w.before args s = true := fun w h => hts w (List.mem_cons_of_mem _ h)
  have hl : lv_has ls 8 [(0, .ref (ad 4)), (1, .int y1), (2, .int y2), (3, .int y3)] := hl
  refine lv_iload_n hx hb dX9_branch_0 rfl (lv_at hl 1 rfl) ?_
  refine lv_istore (lv' := [(4, .int y1), (0, .ref (ad 4)), (1, .int y1), (2, .int y2), (3, .int y3)]) hx hb dX9_branch_1 hl (by decide) rfl (fun ls hl => ?_)
  have B1 : ∀ (k4 : Nat) (x2 : Int32) (a3 : Nat → Nat → Int32) (ls : Array Slot) (H : Heap) (locs : List Loc), 2147483648 - (x2).toInt ≤ (k4 : Int) → -1000000000 ≤ (x2).toInt ∧ (x2).toInt ≤ 1000000010 → hk_fr [1] ar a3 → hk_W D (jT cI cJ) A s H locs (xw cI cJ ad g lg a3 bk) → lv_has ls 8 [(0, .ref (ad 4)), (1, .int y1), (2, .int y2), (3, .int y3), (4, .int x2)] → W p l e { frames := 1, cells := 1, slots := 6, locals := 22 } s m args below meth c H locs 0 0 Q (F0 m 3 ls []) := by
    intro k4
    induction k4 with
    | zero =>
      intro x2 a3 ls H locs hrk_B1 hf_B1_0 hfr_a3 hw hl
      exact False.elim (hk_no0 (0 * (x2).toInt) (ob26 ((x2).toInt) hf_B1_0 hrk_B1 (hE_rng (x2))) (by simp))
    | succ k4 ih_B1 =>
      intro x2 a3 ls H locs hrk_B1 hf_B1_0 hfr_a3 hw hl
      have hrk_B1 := hk_rk hrk_B1
      refine lv_iload hx hb dX9_branch_3 (lv_at hl 4 rfl) ?_
      refine lv_iconst (v := 3) hx hb dX9_branch_5 (by decide) ?_
      refine lv_iadd hx hb dX9_branch_6 (jx_nm fun z5 hz5 => ?_)
      refine lv_iload_n hx hb dX9_branch_7 rfl (lv_at hl 2 rfl) ?_
      refine lv_icmp_ge (tgt := 129) hx hb dX9_branch_8 (by decide) (fun cc6 => ?_) (fun cc6 => ?_)
      · exact kr g lg a3 bk _ _ _ _ ⟨hk_fr0, hk_fr0, hfr_a3⟩ hw dX9_branch_129
      · refine lv_aload_n hx hb dX9_branch_11 rfl (lv_at hl 0 rfl) ?_
        refine lv_iload hx hb dX9_branch_12 (lv_at hl 4 rfl) ?_
        refine lv_iconst (v := 3) hx hb dX9_branch_14 (by decide) ?_
        refine lv_iadd hx hb dX9_branch_15 (jx_nm fun z7 hz7 => ?_)
        refine jx_Vi (As := [.int z7]) (rest := []) ⟨hx, hb, hml, hown, hts⟩ hZ hw hA (jx_X9_get_4 l hlt D t3 cI cJ ad g lg a3 bk _ z7) (cwV 1 hts (jx_gV wwX_good wX_697 wX_22 wX_23 wX_24 wX_25) rfl rfl rfl (by decide +kernel) ⟨Nat.le_of_ble_eq_true rfl, Nat.le_of_ble_eq_true rfl⟩) 4 (ci := 12) (T := TX9) (N := 2) rfl rfl rfl hl.1 rfl (Nat.le_of_ble_eq_true rfl) dX9_branch_16 ⟨Nat.le_of_ble_eq_true rfl, Nat.le_of_ble_eq_true rfl⟩ (fun _ _ _ _ _ _ _ _ hp _ _ _ _ => hp.elim) (fun r12 g13 l14 a15 b16 H locs hp17 hw => ?_)
        obtain ⟨h18, h19, h20⟩ := hp17
        refine lv_sipush (v := 235) hx hb dX9_branch_19 (by decide) ?_
        have B21 : ∀  (a22 : Nat → Nat → Int32) (ls : Array Slot) (H : Heap) (locs : List Loc), hk_fr [1] a15 a22 → hk_W D (jT cI cJ) A s H locs (xw cI cJ ad g13 l14 a22 b16) → lv_has ls 8 [(0, .ref (ad 4)), (1, .int y1), (2, .int y2), (3, .int y3), (4, .int x2)] → W p l e { frames := 1, cells := 1, slots := 6, locals := 22 } s m args below meth c H locs 0 0 Q (F0 m 123 ls []) := by
          intro a22 ls H locs hfr_a22 hw hl
          obtain ⟨z23, hz23⟩ : ∃ z : Int32, x2 + 4 = z := ⟨_, rfl⟩
          refine lv_iinc (v := z23) (lv' := [(4, .int z23), (0, .ref (ad 4)), (1, .int y1), (2, .int y2), (3, .int y3)]) hx hb dX9_branch_123 hl (k := 4) rfl hz23 (by decide) rfl (fun ls hl => ?_)
          refine lv_goto (tgt := 3) hx hb dX9_branch_126 (by decide) ?_
          exact ih_B1 z23 a22 ls _ _ (ob27 ((z23).toInt) (k4 : Int) ((x2).toInt) (((4 : Int32)).toInt) ((z5).toInt) (((3 : Int32)).toInt) ((z7).toInt) ((y2).toInt) hrk_B1 (hE_add hz23) hf_B1_0 (hE_add hz5) (hE_add hz7) (hE_nle cc6) hr1 (hE_rng (z23)) (hE_rng (x2)) (by decide) (hE_rng (z5)) (by decide) (hE_rng (z7)) (hE_rng (y2))) (ob28 ((z23).toInt) ((x2).toInt) (((4 : Int32)).toInt) (k4 : Int) ((z5).toInt) (((3 : Int32)).toInt) ((z7).toInt) ((y2).toInt) (hE_add hz23) hf_B1_0 hrk_B1 (hE_add hz5) (hE_add hz7) (hE_nle cc6) hr1 (hE_rng (z23)) (hE_rng (x2)) (by decide) (hE_rng (z5)) (by decide) (hE_rng (z7)) (hE_rng (y2))) (hk_frT (hk_frT hfr_a3 (by decide) h20) (by decide) hfr_a22) hw (lv_sub hl [1, 2, 3, 4, 0] rfl)
        refine lv_icmp_ne (tgt := 123) hx hb dX9_branch_22 (by decide) (fun cc24 => ?_) (fun cc24 => ?_)
        · exact B21 a15 ls _ _ hk_fr0 hw (lv_sub hl [0, 1, 2, 3, 4] rfl)
        · refine lv_aload_n hx hb dX9_branch_25 rfl (lv_at hl 0 rfl) ?_
          refine lv_iload hx hb dX9_branch_26 (lv_at hl 4 rfl) ?_
          refine jx_Vi (As := [.int x2]) (rest := []) ⟨hx, hb, hml, hown, hts⟩ hZ hw hA (jx_X9_get_4 l hlt D t3 cI cJ ad g13 l14 a15 b16 _ x2) (cwV 1 hts (jx_gV wwX_good wX_697 wX_22 wX_23 wX_24 wX_25) rfl rfl rfl (by decide +kernel) ⟨Nat.le_of_ble_eq_true rfl, Nat.le_of_ble_eq_true rfl⟩) 4 (ci := 12) (T := TX9) (N := 2) rfl rfl rfl hl.1 rfl (Nat.le_of_ble_eq_true rfl) dX9_branch_28 ⟨Nat.le_of_ble_eq_true rfl, Nat.le_of_ble_eq_true rfl⟩ (fun _ _ _ _ _ _ _ _ hp _ _ _ _ => hp.elim) (fun r29 g30 l31 a32 b33 H locs hp34 hw => ?_)
          obtain ⟨h35, h36, h37⟩ := hp34
          refine lv_aload_n hx hb dX9_branch_31 rfl (lv_at hl 0 rfl) ?_
          refine lv_iload hx hb dX9_branch_32 (lv_at hl 4 rfl) ?_
          refine lv_iconst (v := 1) hx hb dX9_branch_34 (by decide) ?_
          refine lv_iadd hx hb dX9_branch_35 (jx_nm fun z38 hz38 => ?_)
          refine jx_Vi (As := [.int z38]) (rest := [.int r29]) ⟨hx, hb, hml, hown, hts⟩ hZ hw hA (jx_X9_get_4 l hlt D t3 cI cJ ad g30 l31 a32 b33 _ z38) (cwV 1 hts (jx_gV wwX_good wX_697 wX_22 wX_23 wX_24 wX_25) rfl rfl rfl (by decide +kernel) ⟨Nat.le_of_ble_eq_true rfl, Nat.le_of_ble_eq_true rfl⟩) 4 (ci := 12) (T := TX9) (N := 2) rfl rfl rfl hl.1 rfl (Nat.le_of_ble_eq_true rfl) dX9_branch_36 ⟨Nat.le_of_ble_eq_true rfl, Nat.le_of_ble_eq_true rfl⟩ (fun _ _ _ _ _ _ _ _ hp _ _ _ _ => hp.elim) (fun r43 g44 l45 a46 b47 H locs hp48 hw => ?_)
          obtain ⟨h49, h50, h51⟩ := hp48
          refine lv_bipush (v := 8) hx hb dX9_branch_39 (by decide) ?_
          refine lv_ishl hx hb dX9_branch_41 (jx_nm fun z52 hz52 => ?_)
          refine lv_ior hx hb dX9_branch_42 (jx_nm fun z53 hz53 => ?_)
          refine lv_aload_n hx hb dX9_branch_43 rfl (lv_at hl 0 rfl) ?_
          refine lv_iload hx hb dX9_branch_44 (lv_at hl 4 rfl) ?_
          refine lv_iconst (v := 2) hx hb dX9_branch_46 (by decide) ?_
          refine lv_iadd hx hb dX9_branch_47 (jx_nm fun z54 hz54 => ?_)
          refine jx_Vi (As := [.int z54]) (rest := [.int z53]) ⟨hx, hb, hml, hown, hts⟩ hZ hw hA (jx_X9_get_4 l hlt D t3 cI cJ ad g44 l45 a46 b47 _ z54) (cwV 1 hts (jx_gV wwX_good wX_697 wX_22 wX_23 wX_24 wX_25) rfl rfl rfl (by decide +kernel) ⟨Nat.le_of_ble_eq_true rfl, Nat.le_of_ble_eq_true rfl⟩) 4 (ci := 12) (T := TX9) (N := 2) rfl rfl rfl hl.1 rfl (Nat.le_of_ble_eq_true rfl) dX9_branch_48 ⟨Nat.le_of_ble_eq_true rfl, Nat.le_of_ble_eq_true rfl⟩ (fun _ _ _ _ _ _ _ _ hp _ _ _ _ => hp.elim) (fun r59 g60 l61 a62 b63 H locs hp64 hw => ?_)
          obtain ⟨h65, h66, h67⟩ := hp64
          refine lv_bipush (v := 16) hx hb dX9_branch_51 (by decide) ?_
          refine lv_ishl hx hb dX9_branch_53 (jx_nm fun z68 hz68 => ?_)
          refine lv_ior hx hb dX9_branch_54 (jx_nm fun z69 hz69 => ?_)
          refine lv_iconst (v := 2) hx hb dX9_branch_55 (by decide) ?_
          refine lv_ishl hx hb dX9_branch_56 (jx_nm fun z70 hz70 => ?_)
          refine lv_istore (lv' := [(5, .int z70), (0, .ref (ad 4)), (1, .int y1), (2, .int y2), (3, .int y3), (4, .int x2)]) hx hb dX9_branch_57 hl (by decide) rfl (fun ls hl => ?_)
          refine lv_iload hx hb dX9_branch_59 (lv_at hl 5 rfl) ?_
          refine lv_iload_n hx hb dX9_branch_61 rfl (lv_at hl 2 rfl) ?_
          refine lv_isub hx hb dX9_branch_62 (jx_nm fun z71 hz71 => ?_)
          refine lv_bipush (v := 8) hx hb dX9_branch_63 (by decide) ?_
          refine lv_iadd hx hb dX9_branch_65 (jx_nm fun z72 hz72 => ?_)
          refine lv_istore (lv' := [(6, .int z72), (5, .int z70), (0, .ref (ad 4)), (1, .int y1), (2, .int y2), (3, .int y3), (4, .int x2)]) hx hb dX9_branch_66 hl (by decide) rfl (fun ls hl => ?_)
          refine lv_iload_n hx hb dX9_branch_68 rfl (lv_at hl 5 rfl) ?_
          have B73 : ∀  (x74 : Int32) (ls : Array Slot) (H : Heap) (locs : List Loc), hk_W D (jT cI cJ) A s H locs (xw cI cJ ad g60 l61 a62 b63) → lv_has ls 8 [(0, .ref (ad 4)), (1, .int y1), (2, .int y2), (3, .int y3), (4, .int x2)] → W p l e { frames := 1, cells := 1, slots := 6, locals := 22 } s m args below meth c H locs 0 0 Q (F0 m 85 ls [.int x74]) := by
            intro x74 ls H locs hw hl
            refine lv_iconst (v := 2) hx hb dX9_branch_85 (by decide) ?_
            refine lv_iushr hx hb dX9_branch_86 rfl (jx_nm fun z75 hz75 => ?_)
            refine lv_istore (lv' := [(7, .int z75), (0, .ref (ad 4)), (1, .int y1), (2, .int y2), (3, .int y3), (4, .int x2)]) hx hb dX9_branch_87 hl (by decide) rfl (fun ls hl => ?_)
            refine lv_aload_n hx hb dX9_branch_89 rfl (lv_at hl 1 rfl) ?_
            refine lv_iload hx hb dX9_branch_90 (lv_at hl 5 rfl) ?_
            refine lv_iload hx hb dX9_branch_92 (lv_at hl 0 rfl) ?_
            refine jx_Vv (As := [.int x2, .int z75]) (rest := []) ⟨hx, hb, hml, hown, hts⟩ hZ hw hA (jx_X9_set_4 l hlt D t3 cI cJ ad g60 l61 a62 b63 _ x2 z75) (cwV 2 hts (jx_gV wwX_good wX_698 wX_587 wX_588 wX_24 wX_589) rfl rfl rfl (by decide +kernel) ⟨Nat.le_of_ble_eq_true rfl, Nat.le_of_ble_eq_true rfl⟩) 4 (ci := 12) (T := TX9) (N := 2) rfl rfl rfl hl.1 rfl (Nat.le_of_ble_eq_true rfl) dX9_branch_94 ⟨Nat.le_of_ble_eq_true rfl, Nat.le_of_ble_eq_true rfl⟩ (fun _ _ _ _ _ _ _ _ hp _ _ _ _ => hp.elim) (fun g81 l82 a83 b84 H locs hp85 hw => ?_)
            obtain ⟨h86, h87, h88⟩ := hp85
            refine lv_aload_n hx hb dX9_branch_97 rfl (lv_at hl 1 rfl) ?_
            refine lv_iload hx hb dX9_branch_98 (lv_at hl 5 rfl) ?_
            refine lv_iconst (v := 1) hx hb dX9_branch_100 (by decide) ?_
            refine lv_iadd hx hb dX9_branch_101 (jx_nm fun z89 hz89 => ?_)
            refine lv_iload hx hb dX9_branch_102 (lv_at hl 0 rfl) ?_
            refine lv_bipush (v := 8) hx hb dX9_branch_104 (by decide) ?_
            refine lv_iushr hx hb dX9_branch_106 rfl (jx_nm fun z90 hz90 => ?_)
            refine jx_Vv (As := [.int z89, .int z90]) (rest := []) ⟨hx, hb, hml, hown, hts⟩ hZ hw hA (jx_X9_set_4 l hlt D t3 cI cJ ad g81 l82 a83 b84 _ z89 z90) (cwV 2 hts (jx_gV wwX_good wX_698 wX_587 wX_588 wX_24 wX_589) rfl rfl rfl (by decide +kernel) ⟨Nat.le_of_ble_eq_true rfl, Nat.le_of_ble_eq_true rfl⟩) 4 (ci := 12) (T := TX9) (N := 2) rfl rfl rfl hl.1 rfl (Nat.le_of_ble_eq_true rfl) dX9_branch_107 ⟨Nat.le_of_ble_eq_true rfl, Nat.le_of_ble_eq_true rfl⟩ (fun _ _ _ _ _ _ _ _ hp _ _ _ _ => hp.elim) (fun g96 l97 a98 b99 H locs hp100 hw => ?_)
            obtain ⟨h101, h102, h103⟩ := hp100
            refine lv_aload_n hx hb dX9_branch_110 rfl (lv_at hl 1 rfl) ?_
            refine lv_iload hx hb dX9_branch_111 (lv_at hl 5 rfl) ?_
            refine lv_iconst (v := 2) hx hb dX9_branch_113 (by decide) ?_
            refine lv_iadd hx hb dX9_branch_114 (jx_nm fun z104 hz104 => ?_)
            refine lv_iload hx hb dX9_branch_115 (lv_at hl 0 rfl) ?_
            refine lv_bipush (v := 16) hx hb dX9_branch_117 (by decide) ?_
            refine lv_iushr hx hb dX9_branch_119 rfl (jx_nm fun z105 hz105 => ?_)
            refine jx_Vv (As := [.int z104, .int z105]) (rest := []) ⟨hx, hb, hml, hown, hts⟩ hZ hw hA (jx_X9_set_4 l hlt D t3 cI cJ ad g96 l97 a98 b99 _ z104 z105) (cwV 2 hts (jx_gV wwX_good wX_698 wX_587 wX_588 wX_24 wX_589) rfl rfl rfl (by decide +kernel) ⟨Nat.le_of_ble_eq_true rfl, Nat.le_of_ble_eq_true rfl⟩) 4 (ci := 12) (T := TX9) (N := 2) rfl rfl rfl hl.1 rfl (Nat.le_of_ble_eq_true rfl) dX9_branch_120 ⟨Nat.le_of_ble_eq_true rfl, Nat.le_of_ble_eq_true rfl⟩ (fun _ _ _ _ _ _ _ _ hp _ _ _ _ => hp.elim) (fun g111 l112 a113 b114 H locs hp115 hw => ?_)
            obtain ⟨h116, h117, h118⟩ := hp115
            exact B21 a113 ls _ _ (hk_frT (hk_frT (hk_frT (hk_frT (hk_frT (hk_frT hk_fr0 (by decide) h37) (by decide) h51) (by decide) h67) (by decide) h88) (by decide) h103) (by decide) h118) hw (lv_sub hl [1, 2, 3, 4, 5] rfl)
          refine lv_if_eq (tgt := 80) hx hb dX9_branch_69 (by decide) (fun cc119 => ?_) (fun cc119 => ?_)
          · refine lv_iload hx hb dX9_branch_80 (lv_at hl 1 rfl) ?_
            refine lv_iload hx hb dX9_branch_82 (lv_at hl 0 rfl) ?_
            refine lv_iadd hx hb dX9_branch_84 (jx_nm fun z120 hz120 => ?_)
            exact B73 z120 ls _ _ hw (lv_sub hl [2, 3, 4, 5, 6] rfl)
          · refine lv_iload hx hb dX9_branch_72 (lv_at hl 1 rfl) ?_
            refine lv_iload hx hb dX9_branch_74 (lv_at hl 0 rfl) ?_
            refine lv_isub hx hb dX9_branch_76 (jx_nm fun z121 hz121 => ?_)
            refine lv_goto (tgt := 85) hx hb dX9_branch_77 (by decide) ?_
            exact B73 z121 ls _ _ hw (lv_sub hl [2, 3, 4, 5, 6] rfl)
  exact B1 (2147483648 - (y1).toInt).toNat y1 ar ls _ _ (Int.self_le_toNat _) (ob29 ((y1).toInt) hr0 (hE_rng (y1))) hk_fr0 hw (lv_sub hl [1, 2, 3, 4, 0] rfl)

set_option maxHeartbeats 4000000 in
set_option maxRecDepth 100000 in
/-- X9_branch on (29,) -/
theorem jx_X9_branch_29 (l : Launch) (hlt : l.stackTraces = false) (D : va_G) (t3 : Nat × Nat × Nat) (cI cJ : ClassId) (ad : Nat → Nat) (g : Nat → Int32) (lg : Nat → Int64) (ar : Nat → Nat → Int32) (bk : Nat → Int64) (sz : Nat) (y1 : Int32) (y2 : Int32) (y3 : Int32) (hr0 : -1000000000 ≤ (y1).toInt ∧ (y1).toInt ≤ 1000000000) (hr1 : (y2).toInt ≤ 1000000000) : JMv l yX9_branch (Cond.code yX9_branch cX9_branch 8 none :: wwX) { frames := 1, cells := 1, slots := 6, locals := 22 } t3 D xw cI cJ ad [.ref (ad 29), .int y1, .int y2, .int y3] (xw cI cJ ad g lg ar bk) sz 1 6 (fun g' lg' ar' bk' => hk_fr [] g g' ∧ hk_fr [] lg lg' ∧ hk_fr [15] ar ar') (fun g' lg' ar' bk' => False) := by
  refine jx_metv (cc := cX9_branch) (maxL := 8) (ret := none) rfl (by decide) rfl (Nat.le_of_ble_eq_true rfl) ?_
  intro p e s m args below meth c ls Q A hx hb hml hown hts hA hZ hw hl hQ kr kt
  have hq : ∀ w ∈ wwX, w.before args s = true := fun w h => hts w (List.mem_cons_of_mem _ h)
  have hl : lv_has ls 8 [(0, .ref (ad 29)), (1, .int y1), (2, .int y2), (3, .int y3)] := hl
  refine lv_iload_n hx hb dX9_branch_0 rfl (lv_at hl 1 rfl) ?_
  refine lv_istore (lv' := [(4, .int y1), (0, .ref (ad 29)), (1, .int y1), (2, .int y2), (3, .int y3)]) hx hb dX9_branch_1 hl (by decide) rfl (fun ls hl => ?_)
  have B1 : ∀ (k4 : Nat) (x2 : Int32) (a3 : Nat → Nat → Int32) (ls : Array Slot) (H : Heap) (locs : List Loc), 2147483648 - (x2).toInt ≤ (k4 : Int) → -1000000000 ≤ (x2).toInt ∧ (x2).toInt ≤ 1000000010 → hk_fr [15] ar a3 → hk_W D (jT cI cJ) A s H locs (xw cI cJ ad g lg a3 bk) → lv_has ls 8 [(0, .ref (ad 29)), (1, .int y1), (2, .int y2), (3, .int y3), (4, .int x2)] → W p l e { frames := 1, cells := 1, slots := 6, locals := 22 } s m args below meth c H locs 0 0 Q (F0 m 3 ls []) := by
    intro k4
    induction k4 with
    | zero =>
      intro x2 a3 ls H locs hrk_B1 hf_B1_0 hfr_a3 hw hl
      exact False.elim (hk_no0 (0 * (x2).toInt) (ob26 ((x2).toInt) hf_B1_0 hrk_B1 (hE_rng (x2))) (by simp))
    | succ k4 ih_B1 =>
      intro x2 a3 ls H locs hrk_B1 hf_B1_0 hfr_a3 hw hl
      have hrk_B1 := hk_rk hrk_B1
      refine lv_iload hx hb dX9_branch_3 (lv_at hl 4 rfl) ?_
      refine lv_iconst (v := 3) hx hb dX9_branch_5 (by decide) ?_
      refine lv_iadd hx hb dX9_branch_6 (jx_nm fun z5 hz5 => ?_)
      refine lv_iload_n hx hb dX9_branch_7 rfl (lv_at hl 2 rfl) ?_
      refine lv_icmp_ge (tgt := 129) hx hb dX9_branch_8 (by decide) (fun cc6 => ?_) (fun cc6 => ?_)
      · exact kr g lg a3 bk _ _ _ _ ⟨hk_fr0, hk_fr0, hfr_a3⟩ hw dX9_branch_129
      · refine lv_aload_n hx hb dX9_branch_11 rfl (lv_at hl 0 rfl) ?_
        refine lv_iload hx hb dX9_branch_12 (lv_at hl 4 rfl) ?_
        refine lv_iconst (v := 3) hx hb dX9_branch_14 (by decide) ?_
        refine lv_iadd hx hb dX9_branch_15 (jx_nm fun z7 hz7 => ?_)
        refine jx_Vi (As := [.int z7]) (rest := []) ⟨hx, hb, hml, hown, hts⟩ hZ hw hA (jx_X9_get_29 l hlt D t3 cI cJ ad g lg a3 bk _ z7) (cwV 1 hts (jx_gV wwX_good wX_697 wX_22 wX_23 wX_24 wX_25) rfl rfl rfl (by decide +kernel) ⟨Nat.le_of_ble_eq_true rfl, Nat.le_of_ble_eq_true rfl⟩) 29 (ci := 12) (T := TX9) (N := 2) rfl rfl rfl hl.1 rfl (Nat.le_of_ble_eq_true rfl) dX9_branch_16 ⟨Nat.le_of_ble_eq_true rfl, Nat.le_of_ble_eq_true rfl⟩ (fun _ _ _ _ _ _ _ _ hp _ _ _ _ => hp.elim) (fun r12 g13 l14 a15 b16 H locs hp17 hw => ?_)
        obtain ⟨h18, h19, h20⟩ := hp17
        refine lv_sipush (v := 235) hx hb dX9_branch_19 (by decide) ?_
        have B21 : ∀  (a22 : Nat → Nat → Int32) (ls : Array Slot) (H : Heap) (locs : List Loc), hk_fr [15] a15 a22 → hk_W D (jT cI cJ) A s H locs (xw cI cJ ad g13 l14 a22 b16) → lv_has ls 8 [(0, .ref (ad 29)), (1, .int y1), (2, .int y2), (3, .int y3), (4, .int x2)] → W p l e { frames := 1, cells := 1, slots := 6, locals := 22 } s m args below meth c H locs 0 0 Q (F0 m 123 ls []) := by
          intro a22 ls H locs hfr_a22 hw hl
          obtain ⟨z23, hz23⟩ : ∃ z : Int32, x2 + 4 = z := ⟨_, rfl⟩
          refine lv_iinc (v := z23) (lv' := [(4, .int z23), (0, .ref (ad 29)), (1, .int y1), (2, .int y2), (3, .int y3)]) hx hb dX9_branch_123 hl (k := 4) rfl hz23 (by decide) rfl (fun ls hl => ?_)
          refine lv_goto (tgt := 3) hx hb dX9_branch_126 (by decide) ?_
          exact ih_B1 z23 a22 ls _ _ (ob27 ((z23).toInt) (k4 : Int) ((x2).toInt) (((4 : Int32)).toInt) ((z5).toInt) (((3 : Int32)).toInt) ((z7).toInt) ((y2).toInt) hrk_B1 (hE_add hz23) hf_B1_0 (hE_add hz5) (hE_add hz7) (hE_nle cc6) hr1 (hE_rng (z23)) (hE_rng (x2)) (by decide) (hE_rng (z5)) (by decide) (hE_rng (z7)) (hE_rng (y2))) (ob28 ((z23).toInt) ((x2).toInt) (((4 : Int32)).toInt) (k4 : Int) ((z5).toInt) (((3 : Int32)).toInt) ((z7).toInt) ((y2).toInt) (hE_add hz23) hf_B1_0 hrk_B1 (hE_add hz5) (hE_add hz7) (hE_nle cc6) hr1 (hE_rng (z23)) (hE_rng (x2)) (by decide) (hE_rng (z5)) (by decide) (hE_rng (z7)) (hE_rng (y2))) (hk_frT (hk_frT hfr_a3 (by decide) h20) (by decide) hfr_a22) hw (lv_sub hl [1, 2, 3, 4, 0] rfl)
        refine lv_icmp_ne (tgt := 123) hx hb dX9_branch_22 (by decide) (fun cc24 => ?_) (fun cc24 => ?_)
        · exact B21 a15 ls _ _ hk_fr0 hw (lv_sub hl [0, 1, 2, 3, 4] rfl)
        · refine lv_aload_n hx hb dX9_branch_25 rfl (lv_at hl 0 rfl) ?_
          refine lv_iload hx hb dX9_branch_26 (lv_at hl 4 rfl) ?_
          refine jx_Vi (As := [.int x2]) (rest := []) ⟨hx, hb, hml, hown, hts⟩ hZ hw hA (jx_X9_get_29 l hlt D t3 cI cJ ad g13 l14 a15 b16 _ x2) (cwV 1 hts (jx_gV wwX_good wX_697 wX_22 wX_23 wX_24 wX_25) rfl rfl rfl (by decide +kernel) ⟨Nat.le_of_ble_eq_true rfl, Nat.le_of_ble_eq_true rfl⟩) 29 (ci := 12) (T := TX9) (N := 2) rfl rfl rfl hl.1 rfl (Nat.le_of_ble_eq_true rfl) dX9_branch_28 ⟨Nat.le_of_ble_eq_true rfl, Nat.le_of_ble_eq_true rfl⟩ (fun _ _ _ _ _ _ _ _ hp _ _ _ _ => hp.elim) (fun r29 g30 l31 a32 b33 H locs hp34 hw => ?_)
          obtain ⟨h35, h36, h37⟩ := hp34
          refine lv_aload_n hx hb dX9_branch_31 rfl (lv_at hl 0 rfl) ?_
          refine lv_iload hx hb dX9_branch_32 (lv_at hl 4 rfl) ?_
          refine lv_iconst (v := 1) hx hb dX9_branch_34 (by decide) ?_
          refine lv_iadd hx hb dX9_branch_35 (jx_nm fun z38 hz38 => ?_)
          refine jx_Vi (As := [.int z38]) (rest := [.int r29]) ⟨hx, hb, hml, hown, hts⟩ hZ hw hA (jx_X9_get_29 l hlt D t3 cI cJ ad g30 l31 a32 b33 _ z38) (cwV 1 hts (jx_gV wwX_good wX_697 wX_22 wX_23 wX_24 wX_25) rfl rfl rfl (by decide +kernel) ⟨Nat.le_of_ble_eq_true rfl, Nat.le_of_ble_eq_true rfl⟩) 29 (ci := 12) (T := TX9) (N := 2) rfl rfl rfl hl.1 rfl (Nat.le_of_ble_eq_true rfl) dX9_branch_36 ⟨Nat.le_of_ble_eq_true rfl, Nat.le_of_ble_eq_true rfl⟩ (fun _ _ _ _ _ _ _ _ hp _ _ _ _ => hp.elim) (fun r43 g44 l45 a46 b47 H locs hp48 hw => ?_)
          obtain ⟨h49, h50, h51⟩ := hp48
          refine lv_bipush (v := 8) hx hb dX9_branch_39 (by decide) ?_
          refine lv_ishl hx hb dX9_branch_41 (jx_nm fun z52 hz52 => ?_)
          refine lv_ior hx hb dX9_branch_42 (jx_nm fun z53 hz53 => ?_)
          refine lv_aload_n hx hb dX9_branch_43 rfl (lv_at hl 0 rfl) ?_
          refine lv_iload hx hb dX9_branch_44 (lv_at hl 4 rfl) ?_
          refine lv_iconst (v := 2) hx hb dX9_branch_46 (by decide) ?_
          refine lv_iadd hx hb dX9_branch_47 (jx_nm fun z54 hz54 => ?_)
          refine jx_Vi (As := [.int z54]) (rest := [.int z53]) ⟨hx, hb, hml, hown, hts⟩ hZ hw hA (jx_X9_get_29 l hlt D t3 cI cJ ad g44 l45 a46 b47 _ z54) (cwV 1 hts (jx_gV wwX_good wX_697 wX_22 wX_23 wX_24 wX_25) rfl rfl rfl (by decide +kernel) ⟨Nat.le_of_ble_eq_true rfl, Nat.le_of_ble_eq_true rfl⟩) 29 (ci := 12) (T := TX9) (N := 2) rfl rfl rfl hl.1 rfl (Nat.le_of_ble_eq_true rfl) dX9_branch_48 ⟨Nat.le_of_ble_eq_true rfl, Nat.le_of_ble_eq_true rfl⟩ (fun _ _ _ _ _ _ _ _ hp _ _ _ _ => hp.elim) (fun r59 g60 l61 a62 b63 H locs hp64 hw => ?_)
          obtain ⟨h65, h66, h67⟩ := hp64
          refine lv_bipush (v := 16) hx hb dX9_branch_51 (by decide) ?_
          refine lv_ishl hx hb dX9_branch_53 (jx_nm fun z68 hz68 => ?_)
          refine lv_ior hx hb dX9_branch_54 (jx_nm fun z69 hz69 => ?_)
          refine lv_iconst (v := 2) hx hb dX9_branch_55 (by decide) ?_
          refine lv_ishl hx hb dX9_branch_56 (jx_nm fun z70 hz70 => ?_)
          refine lv_istore (lv' := [(5, .int z70), (0, .ref (ad 29)), (1, .int y1), (2, .int y2), (3, .int y3), (4, .int x2)]) hx hb dX9_branch_57 hl (by decide) rfl (fun ls hl => ?_)
          refine lv_iload hx hb dX9_branch_59 (lv_at hl 5 rfl) ?_
          refine lv_iload_n hx hb dX9_branch_61 rfl (lv_at hl 2 rfl) ?_
          refine lv_isub hx hb dX9_branch_62 (jx_nm fun z71 hz71 => ?_)
          refine lv_bipush (v := 8) hx hb dX9_branch_63 (by decide) ?_
          refine lv_iadd hx hb dX9_branch_65 (jx_nm fun z72 hz72 => ?_)
          refine lv_istore (lv' := [(6, .int z72), (5, .int z70), (0, .ref (ad 29)), (1, .int y1), (2, .int y2), (3, .int y3), (4, .int x2)]) hx hb dX9_branch_66 hl (by decide) rfl (fun ls hl => ?_)
          refine lv_iload_n hx hb dX9_branch_68 rfl (lv_at hl 5 rfl) ?_
          have B73 : ∀  (x74 : Int32) (ls : Array Slot) (H : Heap) (locs : List Loc), hk_W D (jT cI cJ) A s H locs (xw cI cJ ad g60 l61 a62 b63) → lv_has ls 8 [(0, .ref (ad 29)), (1, .int y1), (2, .int y2), (3, .int y3), (4, .int x2)] → W p l e { frames := 1, cells := 1, slots := 6, locals := 22 } s m args below meth c H locs 0 0 Q (F0 m 85 ls [.int x74]) := by
            intro x74 ls H locs hw hl
            refine lv_iconst (v := 2) hx hb dX9_branch_85 (by decide) ?_
            refine lv_iushr hx hb dX9_branch_86 rfl (jx_nm fun z75 hz75 => ?_)
            refine lv_istore (lv' := [(7, .int z75), (0, .ref (ad 29)), (1, .int y1), (2, .int y2), (3, .int y3), (4, .int x2)]) hx hb dX9_branch_87 hl (by decide) rfl (fun ls hl => ?_)
            refine lv_aload_n hx hb dX9_branch_89 rfl (lv_at hl 1 rfl) ?_
            refine lv_iload hx hb dX9_branch_90 (lv_at hl 5 rfl) ?_
            refine lv_iload hx hb dX9_branch_92 (lv_at hl 0 rfl) ?_
            refine jx_Vv (As := [.int x2, .int z75]) (rest := []) ⟨hx, hb, hml, hown, hts⟩ hZ hw hA (jx_X9_set_29 l hlt D t3 cI cJ ad g60 l61 a62 b63 _ x2 z75) (cwV 2 hts (jx_gV wwX_good wX_698 wX_587 wX_588 wX_24 wX_589) rfl rfl rfl (by decide +kernel) ⟨Nat.le_of_ble_eq_true rfl, Nat.le_of_ble_eq_true rfl⟩) 29 (ci := 12) (T := TX9) (N := 2) rfl rfl rfl hl.1 rfl (Nat.le_of_ble_eq_true rfl) dX9_branch_94 ⟨Nat.le_of_ble_eq_true rfl, Nat.le_of_ble_eq_true rfl⟩ (fun _ _ _ _ _ _ _ _ hp _ _ _ _ => hp.elim) (fun g81 l82 a83 b84 H locs hp85 hw => ?_)
            obtain ⟨h86, h87, h88⟩ := hp85
            refine lv_aload_n hx hb dX9_branch_97 rfl (lv_at hl 1 rfl) ?_
            refine lv_iload hx hb dX9_branch_98 (lv_at hl 5 rfl) ?_
            refine lv_iconst (v := 1) hx hb dX9_branch_100 (by decide) ?_
            refine lv_iadd hx hb dX9_branch_101 (jx_nm fun z89 hz89 => ?_)
            refine lv_iload hx hb dX9_branch_102 (lv_at hl 0 rfl) ?_
            refine lv_bipush (v := 8) hx hb dX9_branch_104 (by decide) ?_
            refine lv_iushr hx hb dX9_branch_106 rfl (jx_nm fun z90 hz90 => ?_)
            refine jx_Vv (As := [.int z89, .int z90]) (rest := []) ⟨hx, hb, hml, hown, hts⟩ hZ hw hA (jx_X9_set_29 l hlt D t3 cI cJ ad g81 l82 a83 b84 _ z89 z90) (cwV 2 hts (jx_gV wwX_good wX_698 wX_587 wX_588 wX_24 wX_589) rfl rfl rfl (by decide +kernel) ⟨Nat.le_of_ble_eq_true rfl, Nat.le_of_ble_eq_true rfl⟩) 29 (ci := 12) (T := TX9) (N := 2) rfl rfl rfl hl.1 rfl (Nat.le_of_ble_eq_true rfl) dX9_branch_107 ⟨Nat.le_of_ble_eq_true rfl, Nat.le_of_ble_eq_true rfl⟩ (fun _ _ _ _ _ _ _ _ hp _ _ _ _ => hp.elim) (fun g96 l97 a98 b99 H locs hp100 hw => ?_)
            obtain ⟨h101, h102, h103⟩ := hp100
            refine lv_aload_n hx hb dX9_branch_110 rfl (lv_at hl 1 rfl) ?_
            refine lv_iload hx hb dX9_branch_111 (lv_at hl 5 rfl) ?_
            refine lv_iconst (v := 2) hx hb dX9_branch_113 (by decide) ?_
            refine lv_iadd hx hb dX9_branch_114 (jx_nm fun z104 hz104 => ?_)
            refine lv_iload hx hb dX9_branch_115 (lv_at hl 0 rfl) ?_
            refine lv_bipush (v := 16) hx hb dX9_branch_117 (by decide) ?_
            refine lv_iushr hx hb dX9_branch_119 rfl (jx_nm fun z105 hz105 => ?_)
            refine jx_Vv (As := [.int z104, .int z105]) (rest := []) ⟨hx, hb, hml, hown, hts⟩ hZ hw hA (jx_X9_set_29 l hlt D t3 cI cJ ad g96 l97 a98 b99 _ z104 z105) (cwV 2 hts (jx_gV wwX_good wX_698 wX_587 wX_588 wX_24 wX_589) rfl rfl rfl (by decide +kernel) ⟨Nat.le_of_ble_eq_true rfl, Nat.le_of_ble_eq_true rfl⟩) 29 (ci := 12) (T := TX9) (N := 2) rfl rfl rfl hl.1 rfl (Nat.le_of_ble_eq_true rfl) dX9_branch_120 ⟨Nat.le_of_ble_eq_true rfl, Nat.le_of_ble_eq_true rfl⟩ (fun _ _ _ _ _ _ _ _ hp _ _ _ _ => hp.elim) (fun g111 l112 a113 b114 H locs hp115 hw => ?_)
            obtain ⟨h116, h117, h118⟩ := hp115
            exact B21 a113 ls _ _ (hk_frT (hk_frT (hk_frT (hk_frT (hk_frT (hk_frT hk_fr0 (by decide) h37) (by decide) h51) (by decide) h67) (by decide) h88) (by decide) h103) (by decide) h118) hw (lv_sub hl [1, 2, 3, 4, 5] rfl)
          refine lv_if_eq (tgt := 80) hx hb dX9_branch_69 (by decide) (fun cc119 => ?_) (fun cc119 => ?_)
          · refine lv_iload hx hb dX9_branch_80 (lv_at hl 1 rfl) ?_
            refine lv_iload hx hb dX9_branch_82 (lv_at hl 0 rfl) ?_
            refine lv_iadd hx hb dX9_branch_84 (jx_nm fun z120 hz120 => ?_)
            exact B73 z120 ls _ _ hw (lv_sub hl [2, 3, 4, 5, 6] rfl)
          · refine lv_iload hx hb dX9_branch_72 (lv_at hl 1 rfl) ?_
            refine lv_iload hx hb dX9_branch_74 (lv_at hl 0 rfl) ?_
            refine lv_isub hx hb dX9_branch_76 (jx_nm fun z121 hz121 => ?_)
            refine lv_goto (tgt := 85) hx hb dX9_branch_77 (by decide) ?_
            exact B73 z121 ls _ _ hw (lv_sub hl [2, 3, 4, 5, 6] rfl)
  exact B1 (2147483648 - (y1).toInt).toNat y1 ar ls _ _ (Int.self_le_toNat _) (ob29 ((y1).toInt) hr0 (hE_rng (y1))) hk_fr0 hw (lv_sub hl [1, 2, 3, 4, 0] rfl)
