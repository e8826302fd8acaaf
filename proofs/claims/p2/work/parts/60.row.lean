/-! 60.row -/
theorem ob0 (v0 : Int) (v1 : Int) (v2 : Int) (h0 : v1 ≤ v0) (h1 : v0 < v2) (h2 : -2147483648 ≤ v0 ∧ v0 ≤ 2147483647) (h3 : v1 = 0) (h4 : v2 = 1500) : 0 ≤ v0 ∧ v0 < (1500 : Nat) := by omega
theorem ob1 (v0 : Int) (v1 : Int) (h0 : v0 = v1 % 256) (h1 : -2147483648 ≤ v0 ∧ v0 ≤ 2147483647) (h2 : -2147483648 ≤ v1 ∧ v1 ≤ 2147483647) : 0 ≤ v0 ∧ v0 ≤ 255 := by omega
theorem ob2 (v0 : Int) (v1 : Int) (v2 : Int) (v3 : Int) (h0 : v2 = (v0 + v3 + 2147483648) % 4294967296 - 2147483648) (h1 : v1 = v2) (h2 : -2147483648 ≤ v0 ∧ v0 ≤ 2147483647) (h3 : -2147483648 ≤ v1 ∧ v1 ≤ 2147483647) (h4 : -2147483648 ≤ v2 ∧ v2 ≤ 2147483647) (h5 : v3 = 1) : v0 ≤ 2147483646 → v1 = v0 + 1 := by omega
theorem ob3 (v0 : Int) (v1 : Int) (v2 : Int) (h0 : v1 ≤ v0) (h1 : v0 < v2) (h2 : -2147483648 ≤ v0 ∧ v0 ≤ 2147483647) (h3 : v1 = 0) (h4 : v2 = 3000) : 0 ≤ v0 ∧ v0 < (3000 : Nat) := by omega
theorem ob4 (v0 : Int) (v1 : Int) (v2 : Int) (h0 : v1 ≤ v0) (h1 : v0 < v2) (h2 : -2147483648 ≤ v0 ∧ v0 ≤ 2147483647) (h3 : v1 = 0) (h4 : v2 = 1024) : 0 ≤ v0 ∧ v0 < (1024 : Nat) := by omega
theorem ob5 (v0 : Int) (h0 : 0 ≤ v0) (h1 : 2147483648 - v0 ≤ 0) (h2 : -2147483648 ≤ v0 ∧ v0 ≤ 2147483647) : (0 * v0) ≤ -1 := by omega
theorem ob6 (v0 : Int) (v1 : Int) (v2 : Int) (v3 : Int) (h0 : 0 ≤ v0) (h1 : 2147483648 - v0 ≤ v2 + 1) (h2 : v0 < v3) (h3 : -2147483648 ≤ v0 ∧ v0 ≤ 2147483647) (h4 : v1 = 1) (h5 : -2147483648 ≤ v3 ∧ v3 ≤ 2147483647) : -2147483648 ≤ v0 + v1 ∧ v0 + v1 ≤ 2147483647 := by omega
theorem ob7 (v0 : Int) (v1 : Int) (v2 : Int) (v3 : Int) (v4 : Int) (h0 : 2147483648 - v2 ≤ v1 + 1) (h1 : v0 = v2 + v3) (h2 : 0 ≤ v2) (h3 : v2 < v4) (h4 : -2147483648 ≤ v0 ∧ v0 ≤ 2147483647) (h5 : -2147483648 ≤ v2 ∧ v2 ≤ 2147483647) (h6 : v3 = 1) (h7 : -2147483648 ≤ v4 ∧ v4 ≤ 2147483647) : 2147483648 - v0 ≤ v1 := by omega
theorem ob8 (v0 : Int) (v1 : Int) (v2 : Int) (v3 : Int) (v4 : Int) (h0 : v0 = v1 + v2) (h1 : 0 ≤ v1) (h2 : 2147483648 - v1 ≤ v3 + 1) (h3 : v1 < v4) (h4 : -2147483648 ≤ v0 ∧ v0 ≤ 2147483647) (h5 : -2147483648 ≤ v1 ∧ v1 ≤ 2147483647) (h6 : v2 = 1) (h7 : -2147483648 ≤ v4 ∧ v4 ≤ 2147483647) : 0 ≤ v0 := by omega
theorem ob9 (v0 : Int) (h0 : v0 = 0) : 0 ≤ v0 := by omega
theorem ob10 (v0 : Int) (v1 : Int) (h0 : 0 ≤ v0 ∧ v0 ≤ 8) (h1 : -2147483648 ≤ v0 ∧ v0 ≤ 2147483647) (h2 : v1 = 1) : -2147483648 ≤ v0 - v1 ∧ v0 - v1 ≤ 2147483647 := by omega
theorem ob11 (v0 : Int) (v1 : Int) (v2 : Int) (v3 : Int) (v4 : Int) (v5 : Int) (h0 : -1 ≤ v0 ∧ v0 < v1 ∨ v0 = -1) (h1 : v2 ≤ 2147483000 → v3 = v2 + v1 - 1 - v0) (h2 : v0 + 2147483649 ≤ 0) (h3 : 0 ≤ v1 ∧ v1 ≤ 8) (h4 : v4 = v1 - v5) (h5 : -2147483648 ≤ v0 ∧ v0 ≤ 2147483647) (h6 : -2147483648 ≤ v1 ∧ v1 ≤ 2147483647) (h7 : -2147483648 ≤ v2 ∧ v2 ≤ 2147483647) (h8 : -2147483648 ≤ v3 ∧ v3 ≤ 2147483647) (h9 : -2147483648 ≤ v4 ∧ v4 ≤ 2147483647) (h10 : v5 = 1) : (0 * v0) ≤ -1 := by omega
theorem ob12 (v0 : Int) (v1 : Int) (v2 : Int) (v3 : Int) (v4 : Int) (v5 : Int) (v6 : Int) (v7 : Int) (h0 : 0 ≤ v2 ∧ v2 ≤ 8) (h1 : v3 = v2 - v4) (h2 : -1 ≤ v5 ∧ v5 < v2 ∨ v5 = -1) (h3 : v0 ≤ 2147483000 → v1 = v0 + v2 - 1 - v5) (h4 : v5 + 2147483649 ≤ v6 + 1) (h5 : v5 < v7) (h6 : -2147483648 ≤ v0 ∧ v0 ≤ 2147483647) (h7 : -2147483648 ≤ v1 ∧ v1 ≤ 2147483647) (h8 : -2147483648 ≤ v2 ∧ v2 ≤ 2147483647) (h9 : -2147483648 ≤ v3 ∧ v3 ≤ 2147483647) (h10 : v4 = 1) (h11 : -2147483648 ≤ v5 ∧ v5 ≤ 2147483647) (h12 : v7 = 0) : v0 ≤ 2147483000 → v1 = v0 + v2 := by omega
theorem ob13 (v0 : Int) (v1 : Int) (v2 : Int) (v3 : Int) (v4 : Int) (v5 : Int) (v6 : Int) (v7 : Int) (v8 : Int) (v9 : Int) (h0 : -1 ≤ v0 ∧ v0 < v2 ∨ v0 = -1) (h1 : v3 ≤ 2147483000 → v4 = v3 + v2 - 1 - v0) (h2 : v0 + 2147483649 ≤ v5 + 1) (h3 : v6 ≤ v0) (h4 : 0 ≤ v2 ∧ v2 ≤ 8) (h5 : v7 = v2 - v8) (h6 : v4 ≤ 2147483646 → v9 = v4 + 1) (h7 : -2147483648 ≤ v0 ∧ v0 ≤ 2147483647) (h8 : v1 = (-1)) (h9 : -2147483648 ≤ v2 ∧ v2 ≤ 2147483647) (h10 : -2147483648 ≤ v3 ∧ v3 ≤ 2147483647) (h11 : -2147483648 ≤ v4 ∧ v4 ≤ 2147483647) (h12 : v6 = 0) (h13 : -2147483648 ≤ v7 ∧ v7 ≤ 2147483647) (h14 : v8 = 1) (h15 : -2147483648 ≤ v9 ∧ v9 ≤ 2147483647) : -2147483648 ≤ v0 + v1 ∧ v0 + v1 ≤ 2147483647 := by omega
theorem ob14 (v0 : Int) (v1 : Int) (v2 : Int) (v3 : Int) (v4 : Int) (v5 : Int) (v6 : Int) (v7 : Int) (v8 : Int) (v9 : Int) (v10 : Int) (h0 : v2 + 2147483649 ≤ v1 + 1) (h1 : v0 = v2 + v3) (h2 : -1 ≤ v2 ∧ v2 < v4 ∨ v2 = -1) (h3 : v5 ≤ 2147483000 → v6 = v5 + v4 - 1 - v2) (h4 : v7 ≤ v2) (h5 : 0 ≤ v4 ∧ v4 ≤ 8) (h6 : v8 = v4 - v9) (h7 : v6 ≤ 2147483646 → v10 = v6 + 1) (h8 : -2147483648 ≤ v0 ∧ v0 ≤ 2147483647) (h9 : -2147483648 ≤ v2 ∧ v2 ≤ 2147483647) (h10 : v3 = (-1)) (h11 : -2147483648 ≤ v4 ∧ v4 ≤ 2147483647) (h12 : -2147483648 ≤ v5 ∧ v5 ≤ 2147483647) (h13 : -2147483648 ≤ v6 ∧ v6 ≤ 2147483647) (h14 : v7 = 0) (h15 : -2147483648 ≤ v8 ∧ v8 ≤ 2147483647) (h16 : v9 = 1) (h17 : -2147483648 ≤ v10 ∧ v10 ≤ 2147483647) : v0 + 2147483649 ≤ v1 := by omega
theorem ob15 (v0 : Int) (v1 : Int) (v2 : Int) (v3 : Int) (v4 : Int) (v5 : Int) (v6 : Int) (v7 : Int) (v8 : Int) (v9 : Int) (v10 : Int) (h0 : 0 ≤ v1 ∧ v1 ≤ 8) (h1 : v2 = v1 - v3) (h2 : -1 ≤ v4 ∧ v4 < v1 ∨ v4 = -1) (h3 : v5 ≤ 2147483000 → v6 = v5 + v1 - 1 - v4) (h4 : v0 = v4 + v7) (h5 : v4 + 2147483649 ≤ v8 + 1) (h6 : v9 ≤ v4) (h7 : v6 ≤ 2147483646 → v10 = v6 + 1) (h8 : -2147483648 ≤ v0 ∧ v0 ≤ 2147483647) (h9 : -2147483648 ≤ v1 ∧ v1 ≤ 2147483647) (h10 : -2147483648 ≤ v2 ∧ v2 ≤ 2147483647) (h11 : v3 = 1) (h12 : -2147483648 ≤ v4 ∧ v4 ≤ 2147483647) (h13 : -2147483648 ≤ v5 ∧ v5 ≤ 2147483647) (h14 : -2147483648 ≤ v6 ∧ v6 ≤ 2147483647) (h15 : v7 = (-1)) (h16 : v9 = 0) (h17 : -2147483648 ≤ v10 ∧ v10 ≤ 2147483647) : -1 ≤ v0 ∧ v0 < v1 ∨ v0 = -1 := by omega
theorem ob16 (v0 : Int) (v1 : Int) (v2 : Int) (v3 : Int) (v4 : Int) (v5 : Int) (v6 : Int) (v7 : Int) (v8 : Int) (v9 : Int) (v10 : Int) (h0 : 0 ≤ v2 ∧ v2 ≤ 8) (h1 : v4 = v2 - v5) (h2 : -1 ≤ v6 ∧ v6 < v2 ∨ v6 = -1) (h3 : v0 ≤ 2147483000 → v7 = v0 + v2 - 1 - v6) (h4 : v7 ≤ 2147483646 → v1 = v7 + 1) (h5 : v3 = v6 + v8) (h6 : v6 + 2147483649 ≤ v9 + 1) (h7 : v10 ≤ v6) (h8 : -2147483648 ≤ v0 ∧ v0 ≤ 2147483647) (h9 : -2147483648 ≤ v1 ∧ v1 ≤ 2147483647) (h10 : -2147483648 ≤ v2 ∧ v2 ≤ 2147483647) (h11 : -2147483648 ≤ v3 ∧ v3 ≤ 2147483647) (h12 : -2147483648 ≤ v4 ∧ v4 ≤ 2147483647) (h13 : v5 = 1) (h14 : -2147483648 ≤ v6 ∧ v6 ≤ 2147483647) (h15 : -2147483648 ≤ v7 ∧ v7 ≤ 2147483647) (h16 : v8 = (-1)) (h17 : v10 = 0) : v0 ≤ 2147483000 → v1 = v0 + v2 - 1 - v3 := by omega
theorem ob17 (v0 : Int) (v1 : Int) (v2 : Int) (h0 : 0 ≤ v1 ∧ v1 ≤ 8) (h1 : v0 = v1 - v2) (h2 : -2147483648 ≤ v0 ∧ v0 ≤ 2147483647) (h3 : -2147483648 ≤ v1 ∧ v1 ≤ 2147483647) (h4 : v2 = 1) : -1 ≤ v0 ∧ v0 < v1 ∨ v0 = -1 := by omega
theorem ob18 (v0 : Int) (v1 : Int) (v2 : Int) (v3 : Int) (h0 : 0 ≤ v1 ∧ v1 ≤ 8) (h1 : v2 = v1 - v3) (h2 : -2147483648 ≤ v0 ∧ v0 ≤ 2147483647) (h3 : -2147483648 ≤ v1 ∧ v1 ≤ 2147483647) (h4 : -2147483648 ≤ v2 ∧ v2 ≤ 2147483647) (h5 : v3 = 1) : v0 ≤ 2147483000 → v0 = v0 + v1 - 1 - v2 := by omega
theorem ob19 (v0 : Int) (v1 : Int) (v2 : Int) (v3 : Int) (h0 : 0 ≤ v0) (h1 : 2147483648 - v0 ≤ v2 + 1) (h2 : v0 < v3) (h3 : -2147483648 ≤ v0 ∧ v0 ≤ 2147483647) (h4 : v1 = 1) (h5 : v3 = 4) : -2147483648 ≤ v0 + v1 ∧ v0 + v1 ≤ 2147483647 := by omega
theorem ob20 (v0 : Int) (v1 : Int) (v2 : Int) (v3 : Int) (v4 : Int) (h0 : 2147483648 - v2 ≤ v1 + 1) (h1 : v0 = v2 + v3) (h2 : 0 ≤ v2) (h3 : v2 < v4) (h4 : -2147483648 ≤ v0 ∧ v0 ≤ 2147483647) (h5 : -2147483648 ≤ v2 ∧ v2 ≤ 2147483647) (h6 : v3 = 1) (h7 : v4 = 4) : 2147483648 - v0 ≤ v1 := by omega
theorem ob21 (v0 : Int) (v1 : Int) (v2 : Int) (v3 : Int) (v4 : Int) (h0 : v0 = v1 + v2) (h1 : 0 ≤ v1) (h2 : 2147483648 - v1 ≤ v3 + 1) (h3 : v1 < v4) (h4 : -2147483648 ≤ v0 ∧ v0 ≤ 2147483647) (h5 : -2147483648 ≤ v1 ∧ v1 ≤ 2147483647) (h6 : v2 = 1) (h7 : v4 = 4) : 0 ≤ v0 := by omega
theorem ob22 (v0 : Int) (v1 : Int) (v2 : Int) (v3 : Int) (h0 : 0 ≤ v0) (h1 : 2147483648 - v0 ≤ v2 + 1) (h2 : v0 < v3) (h3 : -2147483648 ≤ v0 ∧ v0 ≤ 2147483647) (h4 : v1 = 1) (h5 : v3 = 3) : -2147483648 ≤ v0 + v1 ∧ v0 + v1 ≤ 2147483647 := by omega
theorem ob23 (v0 : Int) (v1 : Int) (v2 : Int) (v3 : Int) (v4 : Int) (h0 : 2147483648 - v2 ≤ v1 + 1) (h1 : v0 = v2 + v3) (h2 : 0 ≤ v2) (h3 : v2 < v4) (h4 : -2147483648 ≤ v0 ∧ v0 ≤ 2147483647) (h5 : -2147483648 ≤ v2 ∧ v2 ≤ 2147483647) (h6 : v3 = 1) (h7 : v4 = 3) : 2147483648 - v0 ≤ v1 := by omega
theorem ob24 (v0 : Int) (v1 : Int) (v2 : Int) (v3 : Int) (v4 : Int) (h0 : v0 = v1 + v2) (h1 : 0 ≤ v1) (h2 : 2147483648 - v1 ≤ v3 + 1) (h3 : v1 < v4) (h4 : -2147483648 ≤ v0 ∧ v0 ≤ 2147483647) (h5 : -2147483648 ≤ v1 ∧ v1 ≤ 2147483647) (h6 : v2 = 1) (h7 : v4 = 3) : 0 ≤ v0 := by omega
theorem ob25 (v0 : Int) (v1 : Int) (v2 : Int) (v3 : Int) (v4 : Int) (v5 : Int) (v6 : Int) (v7 : Int) (v8 : Int) (v9 : Int) (h0 : 0 ≤ v0) (h1 : 2147483648 - v0 ≤ v2 + 1) (h2 : v0 < v3) (h3 : v3 = (v4 - v5 + 2147483648) % 4294967296 - 2147483648) (h4 : v4 = (v6 - v7 + 2147483648) % 4294967296 - 2147483648) (h5 : v8 = (v9 - v5 + 2147483648) % 4294967296 - 2147483648) (h6 : -2147483648 ≤ v0 ∧ v0 ≤ 2147483647) (h7 : v1 = 1) (h8 : -2147483648 ≤ v3 ∧ v3 ≤ 2147483647) (h9 : -2147483648 ≤ v4 ∧ v4 ≤ 2147483647) (h10 : -2147483648 ≤ v5 ∧ v5 ≤ 2147483647) (h11 : -2147483648 ≤ v6 ∧ v6 ≤ 2147483647) (h12 : -2147483648 ≤ v7 ∧ v7 ≤ 2147483647) (h13 : -2147483648 ≤ v8 ∧ v8 ≤ 2147483647) (h14 : -2147483648 ≤ v9 ∧ v9 ≤ 2147483647) : -2147483648 ≤ v0 + v1 ∧ v0 + v1 ≤ 2147483647 := by omega
theorem ob26 (v0 : Int) (v1 : Int) (v2 : Int) (v3 : Int) (v4 : Int) (v5 : Int) (v6 : Int) (v7 : Int) (v8 : Int) (v9 : Int) (v10 : Int) (h0 : 2147483648 - v2 ≤ v1 + 1) (h1 : v0 = v2 + v3) (h2 : 0 ≤ v2) (h3 : v2 < v4) (h4 : v4 = (v5 - v6 + 2147483648) % 4294967296 - 2147483648) (h5 : v5 = (v7 - v8 + 2147483648) % 4294967296 - 2147483648) (h6 : v9 = (v10 - v6 + 2147483648) % 4294967296 - 2147483648) (h7 : -2147483648 ≤ v0 ∧ v0 ≤ 2147483647) (h8 : -2147483648 ≤ v2 ∧ v2 ≤ 2147483647) (h9 : v3 = 1) (h10 : -2147483648 ≤ v4 ∧ v4 ≤ 2147483647) (h11 : -2147483648 ≤ v5 ∧ v5 ≤ 2147483647) (h12 : -2147483648 ≤ v6 ∧ v6 ≤ 2147483647) (h13 : -2147483648 ≤ v7 ∧ v7 ≤ 2147483647) (h14 : -2147483648 ≤ v8 ∧ v8 ≤ 2147483647) (h15 : -2147483648 ≤ v9 ∧ v9 ≤ 2147483647) (h16 : -2147483648 ≤ v10 ∧ v10 ≤ 2147483647) : 2147483648 - v0 ≤ v1 := by omega
theorem ob27 (v0 : Int) (v1 : Int) (v2 : Int) (v3 : Int) (v4 : Int) (v5 : Int) (v6 : Int) (v7 : Int) (v8 : Int) (v9 : Int) (v10 : Int) (h0 : v0 = v1 + v2) (h1 : 0 ≤ v1) (h2 : 2147483648 - v1 ≤ v3 + 1) (h3 : v1 < v4) (h4 : v4 = (v5 - v6 + 2147483648) % 4294967296 - 2147483648) (h5 : v5 = (v7 - v8 + 2147483648) % 4294967296 - 2147483648) (h6 : v9 = (v10 - v6 + 2147483648) % 4294967296 - 2147483648) (h7 : -2147483648 ≤ v0 ∧ v0 ≤ 2147483647) (h8 : -2147483648 ≤ v1 ∧ v1 ≤ 2147483647) (h9 : v2 = 1) (h10 : -2147483648 ≤ v4 ∧ v4 ≤ 2147483647) (h11 : -2147483648 ≤ v5 ∧ v5 ≤ 2147483647) (h12 : -2147483648 ≤ v6 ∧ v6 ≤ 2147483647) (h13 : -2147483648 ≤ v7 ∧ v7 ≤ 2147483647) (h14 : -2147483648 ≤ v8 ∧ v8 ≤ 2147483647) (h15 : -2147483648 ≤ v9 ∧ v9 ≤ 2147483647) (h16 : -2147483648 ≤ v10 ∧ v10 ≤ 2147483647) : 0 ≤ v0 := by omega
theorem ob28 (v0 : Int) (h0 : -1000000000 ≤ v0 ∧ v0 ≤ 1000000010) (h1 : 2147483648 - v0 ≤ 0) (h2 : -2147483648 ≤ v0 ∧ v0 ≤ 2147483647) : (0 * v0) ≤ -1 := by omega
theorem ob29 (v0 : Int) (v1 : Int) (v2 : Int) (h0 : -1000000000 ≤ v0 ∧ v0 ≤ 1000000010) (h1 : 2147483648 - v0 ≤ v2 + 1) (h2 : -2147483648 ≤ v0 ∧ v0 ≤ 2147483647) (h3 : v1 = 3) : -2147483648 ≤ v0 + v1 ∧ v0 + v1 ≤ 2147483647 := by omega
theorem ob30 (v0 : Int) (v1 : Int) (v2 : Int) (v3 : Int) (v4 : Int) (h0 : -1000000000 ≤ v0 ∧ v0 ≤ 1000000010) (h1 : 2147483648 - v0 ≤ v2 + 1) (h2 : v3 = v0 + v1) (h3 : v3 < v4) (h4 : v4 ≤ 1000000000) (h5 : -2147483648 ≤ v0 ∧ v0 ≤ 2147483647) (h6 : v1 = 3) (h7 : -2147483648 ≤ v3 ∧ v3 ≤ 2147483647) (h8 : -2147483648 ≤ v4 ∧ v4 ≤ 2147483647) : -2147483648 ≤ v0 + v1 ∧ v0 + v1 ≤ 2147483647 := by omega
theorem ob31 (v0 : Int) (v1 : Int) (v2 : Int) (v3 : Int) (v4 : Int) (v5 : Int) (v6 : Int) (h0 : -1000000000 ≤ v0 ∧ v0 ≤ 1000000010) (h1 : 2147483648 - v0 ≤ v2 + 1) (h2 : v3 = v0 + v4) (h3 : v5 = v0 + v4) (h4 : v3 < v6) (h5 : v6 ≤ 1000000000) (h6 : -2147483648 ≤ v0 ∧ v0 ≤ 2147483647) (h7 : v1 = 4) (h8 : -2147483648 ≤ v3 ∧ v3 ≤ 2147483647) (h9 : v4 = 3) (h10 : -2147483648 ≤ v5 ∧ v5 ≤ 2147483647) (h11 : -2147483648 ≤ v6 ∧ v6 ≤ 2147483647) : -2147483648 ≤ v0 + v1 ∧ v0 + v1 ≤ 2147483647 := by omega
theorem ob32 (v0 : Int) (v1 : Int) (v2 : Int) (v3 : Int) (v4 : Int) (v5 : Int) (v6 : Int) (v7 : Int) (h0 : 2147483648 - v2 ≤ v1 + 1) (h1 : v0 = v2 + v3) (h2 : -1000000000 ≤ v2 ∧ v2 ≤ 1000000010) (h3 : v4 = v2 + v5) (h4 : v6 = v2 + v5) (h5 : v4 < v7) (h6 : v7 ≤ 1000000000) (h7 : -2147483648 ≤ v0 ∧ v0 ≤ 2147483647) (h8 : -2147483648 ≤ v2 ∧ v2 ≤ 2147483647) (h9 : v3 = 4) (h10 : -2147483648 ≤ v4 ∧ v4 ≤ 2147483647) (h11 : v5 = 3) (h12 : -2147483648 ≤ v6 ∧ v6 ≤ 2147483647) (h13 : -2147483648 ≤ v7 ∧ v7 ≤ 2147483647) : 2147483648 - v0 ≤ v1 := by omega
theorem ob33 (v0 : Int) (v1 : Int) (v2 : Int) (v3 : Int) (v4 : Int) (v5 : Int) (v6 : Int) (v7 : Int) (h0 : v0 = v1 + v2) (h1 : -1000000000 ≤ v1 ∧ v1 ≤ 1000000010) (h2 : 2147483648 - v1 ≤ v3 + 1) (h3 : v4 = v1 + v5) (h4 : v6 = v1 + v5) (h5 : v4 < v7) (h6 : v7 ≤ 1000000000) (h7 : -2147483648 ≤ v0 ∧ v0 ≤ 2147483647) (h8 : -2147483648 ≤ v1 ∧ v1 ≤ 2147483647) (h9 : v2 = 4) (h10 : -2147483648 ≤ v4 ∧ v4 ≤ 2147483647) (h11 : v5 = 3) (h12 : -2147483648 ≤ v6 ∧ v6 ≤ 2147483647) (h13 : -2147483648 ≤ v7 ∧ v7 ≤ 2147483647) : -1000000000 ≤ v0 ∧ v0 ≤ 1000000010 := by omega
theorem ob34 (v0 : Int) (v1 : Int) (v2 : Int) (v3 : Int) (v4 : Int) (v5 : Int) (v6 : Int) (h0 : -1000000000 ≤ v0 ∧ v0 ≤ 1000000010) (h1 : 2147483648 - v0 ≤ v2 + 1) (h2 : v3 = v0 + v4) (h3 : v5 = v0 + v4) (h4 : v3 < v6) (h5 : v6 ≤ 1000000000) (h6 : -2147483648 ≤ v0 ∧ v0 ≤ 2147483647) (h7 : v1 = 1) (h8 : -2147483648 ≤ v3 ∧ v3 ≤ 2147483647) (h9 : v4 = 3) (h10 : -2147483648 ≤ v5 ∧ v5 ≤ 2147483647) (h11 : -2147483648 ≤ v6 ∧ v6 ≤ 2147483647) : -2147483648 ≤ v0 + v1 ∧ v0 + v1 ≤ 2147483647 := by omega
theorem ob35 (v0 : Int) (v1 : Int) (v2 : Int) (v3 : Int) (v4 : Int) (v5 : Int) (v6 : Int) (v7 : Int) (v8 : Int) (h0 : -1000000000 ≤ v0 ∧ v0 ≤ 1000000010) (h1 : 2147483648 - v0 ≤ v2 + 1) (h2 : v3 = v0 + v4) (h3 : v5 = v0 + v4) (h4 : v6 = v0 + v7) (h5 : v3 < v8) (h6 : v8 ≤ 1000000000) (h7 : -2147483648 ≤ v0 ∧ v0 ≤ 2147483647) (h8 : v1 = 2) (h9 : -2147483648 ≤ v3 ∧ v3 ≤ 2147483647) (h10 : v4 = 3) (h11 : -2147483648 ≤ v5 ∧ v5 ≤ 2147483647) (h12 : -2147483648 ≤ v6 ∧ v6 ≤ 2147483647) (h13 : v7 = 1) (h14 : -2147483648 ≤ v8 ∧ v8 ≤ 2147483647) : -2147483648 ≤ v0 + v1 ∧ v0 + v1 ≤ 2147483647 := by omega
theorem ob36 (v0 : Int) (v1 : Int) (v2 : Int) (v3 : Int) (v4 : Int) (v5 : Int) (v6 : Int) (v7 : Int) (v8 : Int) (v9 : Int) (v10 : Int) (h0 : -1000000000 ≤ v1 ∧ v1 ≤ 1000000000) (h1 : -1000000000 ≤ v0 ∧ v0 ≤ 1000000010) (h2 : 2147483648 - v0 ≤ v2 + 1) (h3 : v3 = v0 + v4) (h4 : v5 = v0 + v4) (h5 : v6 = v0 + v7) (h6 : v8 = v0 + v9) (h7 : v3 < v10) (h8 : v10 ≤ 1000000000) (h9 : -2147483648 ≤ v0 ∧ v0 ≤ 2147483647) (h10 : -2147483648 ≤ v1 ∧ v1 ≤ 2147483647) (h11 : -2147483648 ≤ v3 ∧ v3 ≤ 2147483647) (h12 : v4 = 3) (h13 : -2147483648 ≤ v5 ∧ v5 ≤ 2147483647) (h14 : -2147483648 ≤ v6 ∧ v6 ≤ 2147483647) (h15 : v7 = 1) (h16 : -2147483648 ≤ v8 ∧ v8 ≤ 2147483647) (h17 : v9 = 2) (h18 : -2147483648 ≤ v10 ∧ v10 ≤ 2147483647) : -2147483648 ≤ v0 - v1 ∧ v0 - v1 ≤ 2147483647 := by omega
theorem ob37 (v0 : Int) (v1 : Int) (v2 : Int) (v3 : Int) (v4 : Int) (v5 : Int) (v6 : Int) (v7 : Int) (v8 : Int) (v9 : Int) (v10 : Int) (v11 : Int) (v12 : Int) (h0 : v0 = v2 - v3) (h1 : -1000000000 ≤ v3 ∧ v3 ≤ 1000000000) (h2 : -1000000000 ≤ v2 ∧ v2 ≤ 1000000010) (h3 : 2147483648 - v2 ≤ v4 + 1) (h4 : v5 = v2 + v6) (h5 : v7 = v2 + v6) (h6 : v8 = v2 + v9) (h7 : v10 = v2 + v11) (h8 : v5 < v12) (h9 : v12 ≤ 1000000000) (h10 : -2147483648 ≤ v0 ∧ v0 ≤ 2147483647) (h11 : v1 = 8) (h12 : -2147483648 ≤ v2 ∧ v2 ≤ 2147483647) (h13 : -2147483648 ≤ v3 ∧ v3 ≤ 2147483647) (h14 : -2147483648 ≤ v5 ∧ v5 ≤ 2147483647) (h15 : v6 = 3) (h16 : -2147483648 ≤ v7 ∧ v7 ≤ 2147483647) (h17 : -2147483648 ≤ v8 ∧ v8 ≤ 2147483647) (h18 : v9 = 1) (h19 : -2147483648 ≤ v10 ∧ v10 ≤ 2147483647) (h20 : v11 = 2) (h21 : -2147483648 ≤ v12 ∧ v12 ≤ 2147483647) : -2147483648 ≤ v0 + v1 ∧ v0 + v1 ≤ 2147483647 := by omega
theorem ob38 (v0 : Int) (v1 : Int) (v2 : Int) (v3 : Int) (v4 : Int) (v5 : Int) (v6 : Int) (v7 : Int) (v8 : Int) (v9 : Int) (v10 : Int) (v11 : Int) (v12 : Int) (v13 : Int) (h0 : -1000000000 ≤ v0 ∧ v0 ≤ 1000000010) (h1 : 2147483648 - v0 ≤ v2 + 1) (h2 : v3 = v0 + v4) (h3 : v5 = v0 + v4) (h4 : v6 = v0 + v1) (h5 : v7 = v0 + v8) (h6 : v9 = v0 - v10) (h7 : -1000000000 ≤ v10 ∧ v10 ≤ 1000000000) (h8 : v3 < v11) (h9 : v12 = v9 + v13) (h10 : v11 ≤ 1000000000) (h11 : -2147483648 ≤ v0 ∧ v0 ≤ 2147483647) (h12 : v1 = 1) (h13 : -2147483648 ≤ v3 ∧ v3 ≤ 2147483647) (h14 : v4 = 3) (h15 : -2147483648 ≤ v5 ∧ v5 ≤ 2147483647) (h16 : -2147483648 ≤ v6 ∧ v6 ≤ 2147483647) (h17 : -2147483648 ≤ v7 ∧ v7 ≤ 2147483647) (h18 : v8 = 2) (h19 : -2147483648 ≤ v9 ∧ v9 ≤ 2147483647) (h20 : -2147483648 ≤ v10 ∧ v10 ≤ 2147483647) (h21 : -2147483648 ≤ v11 ∧ v11 ≤ 2147483647) (h22 : -2147483648 ≤ v12 ∧ v12 ≤ 2147483647) (h23 : v13 = 8) : -2147483648 ≤ v0 + v1 ∧ v0 + v1 ≤ 2147483647 := by omega
theorem ob39 (v0 : Int) (v1 : Int) (v2 : Int) (v3 : Int) (v4 : Int) (v5 : Int) (v6 : Int) (v7 : Int) (v8 : Int) (v9 : Int) (v10 : Int) (v11 : Int) (v12 : Int) (v13 : Int) (v14 : Int) (h0 : -1000000000 ≤ v0 ∧ v0 ≤ 1000000010) (h1 : 2147483648 - v0 ≤ v2 + 1) (h2 : v3 = v0 + v4) (h3 : v5 = v0 + v4) (h4 : v6 = v0 + v7) (h5 : v8 = v0 + v1) (h6 : v9 = v0 - v10) (h7 : v11 = v0 + v7) (h8 : -1000000000 ≤ v10 ∧ v10 ≤ 1000000000) (h9 : v3 < v12) (h10 : v13 = v9 + v14) (h11 : v12 ≤ 1000000000) (h12 : -2147483648 ≤ v0 ∧ v0 ≤ 2147483647) (h13 : v1 = 2) (h14 : -2147483648 ≤ v3 ∧ v3 ≤ 2147483647) (h15 : v4 = 3) (h16 : -2147483648 ≤ v5 ∧ v5 ≤ 2147483647) (h17 : -2147483648 ≤ v6 ∧ v6 ≤ 2147483647) (h18 : v7 = 1) (h19 : -2147483648 ≤ v8 ∧ v8 ≤ 2147483647) (h20 : -2147483648 ≤ v9 ∧ v9 ≤ 2147483647) (h21 : -2147483648 ≤ v10 ∧ v10 ≤ 2147483647) (h22 : -2147483648 ≤ v11 ∧ v11 ≤ 2147483647) (h23 : -2147483648 ≤ v12 ∧ v12 ≤ 2147483647) (h24 : -2147483648 ≤ v13 ∧ v13 ≤ 2147483647) (h25 : v14 = 8) : -2147483648 ≤ v0 + v1 ∧ v0 + v1 ≤ 2147483647 := by omega
theorem ob40 (v0 : Int) (h0 : -1000000000 ≤ v0 ∧ v0 ≤ 1000000000) (h1 : -2147483648 ≤ v0 ∧ v0 ≤ 2147483647) : -1000000000 ≤ v0 ∧ v0 ≤ 1000000010 := by omega
set_option maxHeartbeats 4000000 in
set_option maxRecDepth 100000 in
/-- X9_set on (2,) -/
theorem jx_X9_set_2 (l : Launch) (hlt : l.stackTraces = false) (D : va_G) (t3 : Nat × Nat × Nat) (cI cJ : ClassId) (ad : Nat → Nat) (g : Nat → Int32) (lg : Nat → Int64) (ar : Nat → Nat → Int32) (bk : Nat → Int64) (sz : Nat) (y1 : Int32) (y2 : Int32) (hi_a0rg : hk_rg 0 255 (ar 0)) : JMv l yX9_set (Cond.code yX9_set cX9_set 3 none :: wwX) { frames := 0, cells := 1, slots := 6, locals := 0 } t3 D xw cI cJ ad [.ref (ad 2), .int y1, .int y2] (xw cI cJ ad g lg ar bk) sz 1 6 (fun g' lg' ar' bk' => g = g' ∧ lg = lg' ∧ hk_fr [0] ar ar' ∧ bk = bk' ∧ hk_rg 0 255 (ar' 0)) (fun g' lg' ar' bk' => False) := by
  refine jx_metv (cc := cX9_set) (maxL := 3) (ret := none) rfl (by decide) rfl (Nat.le_of_ble_eq_true rfl) ?_
  intro p e s m args below meth c ls Q A hx hb hml hown hts hA hZ hw hl hQ kr kt
  have hq : ∀ w ∈ wwX, w.before args s = true := fun w h => hts w (List.mem_cons_of_mem _ h)
  have hl : lv_has ls 3 [(0, .ref (ad 2)), (1, .int y1), (2, .int y2)] := hl
  refine lv_iload_n hx hb dX9_set_0 rfl (lv_at hl 1 rfl) ?_
  refine lv_if_lt (tgt := 24) hx hb dX9_set_1 (by decide) (fun cc1 => ?_) (fun cc1 => ?_)
  · exact kr g lg ar bk _ _ _ _ ⟨rfl, rfl, hk_fr0, rfl, hi_a0rg⟩ hw dX9_set_24
  · refine lv_iload_n hx hb dX9_set_4 rfl (lv_at hl 1 rfl) ?_
    refine lv_aload_n hx hb dX9_set_5 rfl (lv_at hl 0 rfl) ?_
    refine hk_get (ci := 12) (C := RX9) (T := TX9) (N := 2) (v := .ref (ad 3)) hx hb hts (fun _ h => List.mem_cons_of_mem _ (wwXc_wsX90 _ h)) hown hw 2 rfl rfl 0 (by decide) (hq _ wX_699) rfl dX9_set_6 ?_
    refine hk_alen (v := 1500) hx hb hw 3 0 rfl rfl rfl dX9_set_9 ?_
    refine lv_icmp_ge (tgt := 24) hx hb dX9_set_10 (by decide) (fun cc2 => ?_) (fun cc2 => ?_)
    · exact kr g lg ar bk _ _ _ _ ⟨rfl, rfl, hk_fr0, rfl, hi_a0rg⟩ hw dX9_set_24
    · refine lv_aload_n hx hb dX9_set_13 rfl (lv_at hl 0 rfl) ?_
      refine hk_get (ci := 12) (C := RX9) (T := TX9) (N := 2) (v := .ref (ad 3)) hx hb hts (fun _ h => List.mem_cons_of_mem _ (wwXc_wsX90 _ h)) hown hw 2 rfl rfl 0 (by decide) (hq _ wX_699) rfl dX9_set_14 ?_
      refine lv_iload_n hx hb dX9_set_17 rfl (lv_at hl 1 rfl) ?_
      refine lv_iload_n hx hb dX9_set_18 rfl (lv_at hl 2 rfl) ?_
      refine lv_sipush (v := 255) hx hb dX9_set_19 (by decide) ?_
      refine lv_iand hx hb dX9_set_22 (jx_nm fun z3 hz3 => ?_)
      refine jx_iast xw (g := g) (lg := lg) (ar := ar) (bk := bk) 0 hx hb hw 3 0 rfl rfl (hE_in (n := 1500) (ob0 ((y1).toInt) (((0 : Int32)).toInt) (((1500 : Int32)).toInt) (hE_nlt cc1) (hE_nle cc2) (hE_rng (y1)) (by decide) (by decide))) dX9_set_23 rfl (fun H locs a4 h_a4 hw => ?_)
      have hr5 : hk_rg 0 255 (a4 0) := (hk_rgS h_a4 hi_a0rg (ob1 ((z3).toInt) ((y2).toInt) (hE_and 8 256 hz3 (by decide) (by decide) (by decide)) (hE_rng (z3)) (hE_rng (y2))))
      exact kr g lg a4 bk _ _ _ _ ⟨rfl, rfl, (hk_frA hk_fr0 (by decide) h_a4), rfl, hr5⟩ hw dX9_set_24

set_option maxHeartbeats 4000000 in
set_option maxRecDepth 100000 in
/-- X9_put on (2,) -/
theorem jx_X9_put_2 (l : Launch) (hlt : l.stackTraces = false) (D : va_G) (t3 : Nat × Nat × Nat) (cI cJ : ClassId) (ad : Nat → Nat) (g : Nat → Int32) (lg : Nat → Int64) (ar : Nat → Nat → Int32) (bk : Nat → Int64) (sz : Nat) (y1 : Int32) (hi_a0rg : hk_rg 0 255 (ar 0)) : JMv l yX9_put (Cond.code yX9_put cX9_put 2 none :: wwX) { frames := 1, cells := 1, slots := 6, locals := 22 } t3 D xw cI cJ ad [.ref (ad 2), .int y1] (xw cI cJ ad g lg ar bk) sz 1 6 (fun g' lg' ar' bk' => hk_fr [13] g g' ∧ lg = lg' ∧ hk_fr [0] ar ar' ∧ bk = bk' ∧ ((g 13).toInt ≤ 2147483646 → (g' 13).toInt = (g 13).toInt + 1) ∧ hk_rg 0 255 (ar' 0)) (fun g' lg' ar' bk' => False) := by
  refine jx_metv (cc := cX9_put) (maxL := 2) (ret := none) rfl (by decide) rfl (Nat.le_of_ble_eq_true rfl) ?_
  intro p e s m args below meth c ls Q A hx hb hml hown hts hA hZ hw hl hQ kr kt
  have hq : ∀ w ∈ wwX, w.before args s = true := fun w h => hts w (List.mem_cons_of_mem _ h)
  have hl : lv_has ls 2 [(0, .ref (ad 2)), (1, .int y1)] := hl
  refine lv_aload_n hx hb dX9_put_0 rfl (lv_at hl 0 rfl) ?_
  refine lv_aload_n hx hb dX9_put_1 rfl (lv_at hl 0 rfl) ?_
  refine hk_get (ci := 12) (C := RX9) (T := TX9) (N := 2) (v := .int (g 13)) hx hb hts (fun _ h => List.mem_cons_of_mem _ (wwXc_wsX90 _ h)) hown hw 2 rfl rfl 1 (by decide) (hq _ wX_700) rfl dX9_put_2 ?_
  refine lv_iload_n hx hb dX9_put_5 rfl (lv_at hl 1 rfl) ?_
  refine jx_Vv (As := [.int (g 13), .int y1]) (rest := []) ⟨hx, hb, hml, hown, hts⟩ hZ hw hA (jx_X9_set_2 l hlt D t3 cI cJ ad g lg ar bk _ (g 13) y1 hi_a0rg) (cwV 2 hts (jx_gV wwX_good wX_698 wX_587 wX_588 wX_24 wX_589) rfl rfl rfl (by decide +kernel) ⟨Nat.le_of_ble_eq_true rfl, Nat.le_of_ble_eq_true rfl⟩) 2 (ci := 12) (T := TX9) (N := 2) rfl rfl rfl hl.1 rfl (Nat.le_of_ble_eq_true rfl) dX9_put_6 ⟨Nat.le_of_ble_eq_true rfl, Nat.le_of_ble_eq_true rfl⟩ (fun _ _ _ _ _ _ _ _ hp _ _ _ _ => hp.elim) (fun g6 l7 a8 b9 H locs hp10 hw => ?_)
  obtain ⟨rfl, rfl, h13, rfl, h15⟩ := hp10
  refine lv_aload_n hx hb dX9_put_9 rfl (lv_at hl 0 rfl) ?_
  refine lv_dup hx hb dX9_put_10 rfl ?_
  refine hk_get (ci := 12) (C := RX9) (T := TX9) (N := 2) (v := .int (g 13)) hx hb hts (fun _ h => List.mem_cons_of_mem _ (wwXc_wsX90 _ h)) hown hw 2 rfl rfl 1 (by decide) (hq _ wX_700) rfl dX9_put_11 ?_
  refine lv_iconst (v := 1) hx hb dX9_put_14 (by decide) ?_
  refine lv_iadd hx hb dX9_put_15 (jx_nm fun z16 hz16 => ?_)
  refine jx_putg xw (g := g) (lg := lg) (ar := a8) (bk := bk) (x := z16) 13 (ci := 12) (C := RX9) (T := TX9) (N := 2) (ty := .int) hx hb hts (fun _ h => List.mem_cons_of_mem _ (wwXc_wsX90 _ h)) tyX9 tyX9_ok nmX9 hown hw 2 rfl rfl 1 (by decide) (hq _ wX_700) rfl (by decide +kernel) rfl rfl (Nat.le_of_ble_eq_true rfl) dX9_put_16 rfl (fun H locs g17 h_g17 hw => ?_)
  have e_g17_13 : g17 13 = z16 := (hk_upgS h_g17)
  exact kr g17 lg a8 bk _ _ _ _ ⟨(hk_frG hk_fr0 (by decide) h_g17), rfl, h13, rfl, (ob2 ((g 13).toInt) ((g17 13).toInt) ((z16).toInt) (((1 : Int32)).toInt) (hE_add hz16) (congrArg Int32.toInt e_g17_13) (hE_rng (g 13)) (hE_rng (g17 13)) (hE_rng (z16)) (by decide)), h15⟩ hw dX9_put_19

set_option maxHeartbeats 4000000 in
set_option maxRecDepth 100000 in
/-- X9_set on (4,) -/
theorem jx_X9_set_4 (l : Launch) (hlt : l.stackTraces = false) (D : va_G) (t3 : Nat × Nat × Nat) (cI cJ : ClassId) (ad : Nat → Nat) (g : Nat → Int32) (lg : Nat → Int64) (ar : Nat → Nat → Int32) (bk : Nat → Int64) (sz : Nat) (y1 : Int32) (y2 : Int32) : JMv l yX9_set (Cond.code yX9_set cX9_set 3 none :: wwX) { frames := 0, cells := 1, slots := 6, locals := 0 } t3 D xw cI cJ ad [.ref (ad 4), .int y1, .int y2] (xw cI cJ ad g lg ar bk) sz 1 6 (fun g' lg' ar' bk' => g = g' ∧ lg = lg' ∧ hk_fr [1] ar ar' ∧ bk = bk') (fun g' lg' ar' bk' => False) := by
  refine jx_metv (cc := cX9_set) (maxL := 3) (ret := none) rfl (by decide) rfl (Nat.le_of_ble_eq_true rfl) ?_
  intro p e s m args below meth c ls Q A hx hb hml hown hts hA hZ hw hl hQ kr kt
  have hq : ∀ w ∈ wwX, w.before args s = true := fun w h => hts w (List.mem_cons_of_mem _ h)
  have hl : lv_has ls 3 [(0, .ref (ad 4)), (1, .int y1), (2, .int y2)] := hl
  refine lv_iload_n hx hb dX9_set_0 rfl (lv_at hl 1 rfl) ?_
  refine lv_if_lt (tgt := 24) hx hb dX9_set_1 (by decide) (fun cc1 => ?_) (fun cc1 => ?_)
  · exact kr g lg ar bk _ _ _ _ ⟨rfl, rfl, hk_fr0, rfl⟩ hw dX9_set_24
  · refine lv_iload_n hx hb dX9_set_4 rfl (lv_at hl 1 rfl) ?_
    refine lv_aload_n hx hb dX9_set_5 rfl (lv_at hl 0 rfl) ?_
    refine hk_get (ci := 12) (C := RX9) (T := TX9) (N := 2) (v := .ref (ad 5)) hx hb hts (fun _ h => List.mem_cons_of_mem _ (wwXc_wsX90 _ h)) hown hw 4 rfl rfl 0 (by decide) (hq _ wX_699) rfl dX9_set_6 ?_
    refine hk_alen (v := 3000) hx hb hw 5 0 rfl rfl rfl dX9_set_9 ?_
    refine lv_icmp_ge (tgt := 24) hx hb dX9_set_10 (by decide) (fun cc2 => ?_) (fun cc2 => ?_)
    · exact kr g lg ar bk _ _ _ _ ⟨rfl, rfl, hk_fr0, rfl⟩ hw dX9_set_24
    · refine lv_aload_n hx hb dX9_set_13 rfl (lv_at hl 0 rfl) ?_
      refine hk_get (ci := 12) (C := RX9) (T := TX9) (N := 2) (v := .ref (ad 5)) hx hb hts (fun _ h => List.mem_cons_of_mem _ (wwXc_wsX90 _ h)) hown hw 4 rfl rfl 0 (by decide) (hq _ wX_699) rfl dX9_set_14 ?_
      refine lv_iload_n hx hb dX9_set_17 rfl (lv_at hl 1 rfl) ?_
      refine lv_iload_n hx hb dX9_set_18 rfl (lv_at hl 2 rfl) ?_
      refine lv_sipush (v := 255) hx hb dX9_set_19 (by decide) ?_
      refine lv_iand hx hb dX9_set_22 (jx_nm fun z3 hz3 => ?_)
      refine jx_iast xw (g := g) (lg := lg) (ar := ar) (bk := bk) 1 hx hb hw 5 0 rfl rfl (hE_in (n := 3000) (ob3 ((y1).toInt) (((0 : Int32)).toInt) (((3000 : Int32)).toInt) (hE_nlt cc1) (hE_nle cc2) (hE_rng (y1)) (by decide) (by decide))) dX9_set_23 rfl (fun H locs a4 h_a4 hw => ?_)
      exact kr g lg a4 bk _ _ _ _ ⟨rfl, rfl, (hk_frA hk_fr0 (by decide) h_a4), rfl⟩ hw dX9_set_24

set_option maxHeartbeats 4000000 in
set_option maxRecDepth 100000 in
/-- X9_put on (4,) -/
theorem jx_X9_put_4 (l : Launch) (hlt : l.stackTraces = false) (D : va_G) (t3 : Nat × Nat × Nat) (cI cJ : ClassId) (ad : Nat → Nat) (g : Nat → Int32) (lg : Nat → Int64) (ar : Nat → Nat → Int32) (bk : Nat → Int64) (sz : Nat) (y1 : Int32) : JMv l yX9_put (Cond.code yX9_put cX9_put 2 none :: wwX) { frames := 1, cells := 1, slots := 6, locals := 22 } t3 D xw cI cJ ad [.ref (ad 4), .int y1] (xw cI cJ ad g lg ar bk) sz 1 6 (fun g' lg' ar' bk' => hk_fr [14] g g' ∧ lg = lg' ∧ hk_fr [1] ar ar' ∧ bk = bk' ∧ ((g 14).toInt ≤ 2147483646 → (g' 14).toInt = (g 14).toInt + 1)) (fun g' lg' ar' bk' => False) := by
  refine jx_metv (cc := cX9_put) (maxL := 2) (ret := none) rfl (by decide) rfl (Nat.le_of_ble_eq_true rfl) ?_
  intro p e s m args below meth c ls Q A hx hb hml hown hts hA hZ hw hl hQ kr kt
  have hq : ∀ w ∈ wwX, w.before args s = true := fun w h => hts w (List.mem_cons_of_mem _ h)
  have hl : lv_has ls 2 [(0, .ref (ad 4)), (1, .int y1)] := hl
  refine lv_aload_n hx hb dX9_put_0 rfl (lv_at hl 0 rfl) ?_
  refine lv_aload_n hx hb dX9_put_1 rfl (lv_at hl 0 rfl) ?_
  refine hk_get (ci := 12) (C := RX9) (T := TX9) (N := 2) (v := .int (g 14)) hx hb hts (fun _ h => List.mem_cons_of_mem _ (wwXc_wsX90 _ h)) hown hw 4 rfl rfl 1 (by decide) (hq _ wX_700) rfl dX9_put_2 ?_
  refine lv_iload_n hx hb dX9_put_5 rfl (lv_at hl 1 rfl) ?_
  refine jx_Vv (As := [.int (g 14), .int y1]) (rest := []) ⟨hx, hb, hml, hown, hts⟩ hZ hw hA (jx_X9_set_4 l hlt D t3 cI cJ ad g lg ar bk _ (g 14) y1) (cwV 2 hts (jx_gV wwX_good wX_698 wX_587 wX_588 wX_24 wX_589) rfl rfl rfl (by decide +kernel) ⟨Nat.le_of_ble_eq_true rfl, Nat.le_of_ble_eq_true rfl⟩) 4 (ci := 12) (T := TX9) (N := 2) rfl rfl rfl hl.1 rfl (Nat.le_of_ble_eq_true rfl) dX9_put_6 ⟨Nat.le_of_ble_eq_true rfl, Nat.le_of_ble_eq_true rfl⟩ (fun _ _ _ _ _ _ _ _ hp _ _ _ _ => hp.elim) (fun g6 l7 a8 b9 H locs hp10 hw => ?_)
  obtain ⟨rfl, rfl, h13, rfl⟩ := hp10
  refine lv_aload_n hx hb dX9_put_9 rfl (lv_at hl 0 rfl) ?_
  refine lv_dup hx hb dX9_put_10 rfl ?_
  refine hk_get (ci := 12) (C := RX9) (T := TX9) (N := 2) (v := .int (g 14)) hx hb hts (fun _ h => List.mem_cons_of_mem _ (wwXc_wsX90 _ h)) hown hw 4 rfl rfl 1 (by decide) (hq _ wX_700) rfl dX9_put_11 ?_
  refine lv_iconst (v := 1) hx hb dX9_put_14 (by decide) ?_
  refine lv_iadd hx hb dX9_put_15 (jx_nm fun z15 hz15 => ?_)
  refine jx_putg xw (g := g) (lg := lg) (ar := a8) (bk := bk) (x := z15) 14 (ci := 12) (C := RX9) (T := TX9) (N := 2) (ty := .int) hx hb hts (fun _ h => List.mem_cons_of_mem _ (wwXc_wsX90 _ h)) tyX9 tyX9_ok nmX9 hown hw 4 rfl rfl 1 (by decide) (hq _ wX_700) rfl (by decide +kernel) rfl rfl (Nat.le_of_ble_eq_true rfl) dX9_put_16 rfl (fun H locs g16 h_g16 hw => ?_)
  have e_g16_14 : g16 14 = z15 := (hk_upgS h_g16)
  exact kr g16 lg a8 bk _ _ _ _ ⟨(hk_frG hk_fr0 (by decide) h_g16), rfl, h13, rfl, (ob2 ((g 14).toInt) ((g16 14).toInt) ((z15).toInt) (((1 : Int32)).toInt) (hE_add hz15) (congrArg Int32.toInt e_g16_14) (hE_rng (g 14)) (hE_rng (g16 14)) (hE_rng (z15)) (by decide))⟩ hw dX9_put_19

set_option maxHeartbeats 4000000 in
set_option maxRecDepth 100000 in
/-- X9_set on (29,) -/
theorem jx_X9_set_29 (l : Launch) (hlt : l.stackTraces = false) (D : va_G) (t3 : Nat × Nat × Nat) (cI cJ : ClassId) (ad : Nat → Nat) (g : Nat → Int32) (lg : Nat → Int64) (ar : Nat → Nat → Int32) (bk : Nat → Int64) (sz : Nat) (y1 : Int32) (y2 : Int32) : JMv l yX9_set (Cond.code yX9_set cX9_set 3 none :: wwX) { frames := 0, cells := 1, slots := 6, locals := 0 } t3 D xw cI cJ ad [.ref (ad 29), .int y1, .int y2] (xw cI cJ ad g lg ar bk) sz 1 6 (fun g' lg' ar' bk' => g = g' ∧ lg = lg' ∧ hk_fr [15] ar ar' ∧ bk = bk') (fun g' lg' ar' bk' => False) := by
  refine jx_metv (cc := cX9_set) (maxL := 3) (ret := none) rfl (by decide) rfl (Nat.le_of_ble_eq_true rfl) ?_
  intro p e s m args below meth c ls Q A hx hb hml hown hts hA hZ hw hl hQ kr kt
  have hq : ∀ w ∈ wwX, w.before args s = true := fun w h => hts w (List.mem_cons_of_mem _ h)
  have hl : lv_has ls 3 [(0, .ref (ad 29)), (1, .int y1), (2, .int y2)] := hl
  refine lv_iload_n hx hb dX9_set_0 rfl (lv_at hl 1 rfl) ?_
  refine lv_if_lt (tgt := 24) hx hb dX9_set_1 (by decide) (fun cc1 => ?_) (fun cc1 => ?_)
  · exact kr g lg ar bk _ _ _ _ ⟨rfl, rfl, hk_fr0, rfl⟩ hw dX9_set_24
  · refine lv_iload_n hx hb dX9_set_4 rfl (lv_at hl 1 rfl) ?_
    refine lv_aload_n hx hb dX9_set_5 rfl (lv_at hl 0 rfl) ?_
    refine hk_get (ci := 12) (C := RX9) (T := TX9) (N := 2) (v := .ref (ad 30)) hx hb hts (fun _ h => List.mem_cons_of_mem _ (wwXc_wsX90 _ h)) hown hw 29 rfl rfl 0 (by decide) (hq _ wX_699) rfl dX9_set_6 ?_
    refine hk_alen (v := 1024) hx hb hw 30 0 rfl rfl rfl dX9_set_9 ?_
    refine lv_icmp_ge (tgt := 24) hx hb dX9_set_10 (by decide) (fun cc2 => ?_) (fun cc2 => ?_)
    · exact kr g lg ar bk _ _ _ _ ⟨rfl, rfl, hk_fr0, rfl⟩ hw dX9_set_24
    · refine lv_aload_n hx hb dX9_set_13 rfl (lv_at hl 0 rfl) ?_
      refine hk_get (ci := 12) (C := RX9) (T := TX9) (N := 2) (v := .ref (ad 30)) hx hb hts (fun _ h => List.mem_cons_of_mem _ (wwXc_wsX90 _ h)) hown hw 29 rfl rfl 0 (by decide) (hq _ wX_699) rfl dX9_set_14 ?_
      refine lv_iload_n hx hb dX9_set_17 rfl (lv_at hl 1 rfl) ?_
      refine lv_iload_n hx hb dX9_set_18 rfl (lv_at hl 2 rfl) ?_
      refine lv_sipush (v := 255) hx hb dX9_set_19 (by decide) ?_
      refine lv_iand hx hb dX9_set_22 (jx_nm fun z3 hz3 => ?_)
      refine jx_iast xw (g := g) (lg := lg) (ar := ar) (bk := bk) 15 hx hb hw 30 0 rfl rfl (hE_in (n := 1024) (ob4 ((y1).toInt) (((0 : Int32)).toInt) (((1024 : Int32)).toInt) (hE_nlt cc1) (hE_nle cc2) (hE_rng (y1)) (by decide) (by decide))) dX9_set_23 rfl (fun H locs a4 h_a4 hw => ?_)
      exact kr g lg a4 bk _ _ _ _ ⟨rfl, rfl, (hk_frA hk_fr0 (by decide) h_a4), rfl⟩ hw dX9_set_24

set_option maxHeartbeats 4000000 in
set_option maxRecDepth 100000 in
/-- X9_put on (29,) -/
theorem jx_X9_put_29 (l : Launch) (hlt : l.stackTraces = false) (D : va_G) (t3 : Nat × Nat × Nat) (cI cJ : ClassId) (ad : Nat → Nat) (g : Nat → Int32) (lg : Nat → Int64) (ar : Nat → Nat → Int32) (bk : Nat → Int64) (sz : Nat) (y1 : Int32) : JMv l yX9_put (Cond.code yX9_put cX9_put 2 none :: wwX) { frames := 1, cells := 1, slots := 6, locals := 22 } t3 D xw cI cJ ad [.ref (ad 29), .int y1] (xw cI cJ ad g lg ar bk) sz 1 6 (fun g' lg' ar' bk' => hk_fr [53] g g' ∧ lg = lg' ∧ hk_fr [15] ar ar' ∧ bk = bk' ∧ ((g 53).toInt ≤ 2147483646 → (g' 53).toInt = (g 53).toInt + 1)) (fun g' lg' ar' bk' => False) := by
  refine jx_metv (cc := cX9_put) (maxL := 2) (ret := none) rfl (by decide) rfl (Nat.le_of_ble_eq_true rfl) ?_
  intro p e s m args below meth c ls Q A hx hb hml hown hts hA hZ hw hl hQ kr kt
  have hq : ∀ w ∈ wwX, w.before args s = true := fun w h => hts w (List.mem_cons_of_mem _ h)
  have hl : lv_has ls 2 [(0, .ref (ad 29)), (1, .int y1)] := hl
  refine lv_aload_n hx hb dX9_put_0 rfl (lv_at hl 0 rfl) ?_
  refine lv_aload_n hx hb dX9_put_1 rfl (lv_at hl 0 rfl) ?_
  refine hk_get (ci := 12) (C := RX9) (T := TX9) (N := 2) (v := .int (g 53)) hx hb hts (fun _ h => List.mem_cons_of_mem _ (wwXc_wsX90 _ h)) hown hw 29 rfl rfl 1 (by decide) (hq _ wX_700) rfl dX9_put_2 ?_
  refine lv_iload_n hx hb dX9_put_5 rfl (lv_at hl 1 rfl) ?_
  refine jx_Vv (As := [.int (g 53), .int y1]) (rest := []) ⟨hx, hb, hml, hown, hts⟩ hZ hw hA (jx_X9_set_29 l hlt D t3 cI cJ ad g lg ar bk _ (g 53) y1) (cwV 2 hts (jx_gV wwX_good wX_698 wX_587 wX_588 wX_24 wX_589) rfl rfl rfl (by decide +kernel) ⟨Nat.le_of_ble_eq_true rfl, Nat.le_of_ble_eq_true rfl⟩) 29 (ci := 12) (T := TX9) (N := 2) rfl rfl rfl hl.1 rfl (Nat.le_of_ble_eq_true rfl) dX9_put_6 ⟨Nat.le_of_ble_eq_true rfl, Nat.le_of_ble_eq_true rfl⟩ (fun _ _ _ _ _ _ _ _ hp _ _ _ _ => hp.elim) (fun g6 l7 a8 b9 H locs hp10 hw => ?_)
  obtain ⟨rfl, rfl, h13, rfl⟩ := hp10
  refine lv_aload_n hx hb dX9_put_9 rfl (lv_at hl 0 rfl) ?_
  refine lv_dup hx hb dX9_put_10 rfl ?_
  refine hk_get (ci := 12) (C := RX9) (T := TX9) (N := 2) (v := .int (g 53)) hx hb hts (fun _ h => List.mem_cons_of_mem _ (wwXc_wsX90 _ h)) hown hw 29 rfl rfl 1 (by decide) (hq _ wX_700) rfl dX9_put_11 ?_
  refine lv_iconst (v := 1) hx hb dX9_put_14 (by decide) ?_
  refine lv_iadd hx hb dX9_put_15 (jx_nm fun z15 hz15 => ?_)
  refine jx_putg xw (g := g) (lg := lg) (ar := a8) (bk := bk) (x := z15) 53 (ci := 12) (C := RX9) (T := TX9) (N := 2) (ty := .int) hx hb hts (fun _ h => List.mem_cons_of_mem _ (wwXc_wsX90 _ h)) tyX9 tyX9_ok nmX9 hown hw 29 rfl rfl 1 (by decide) (hq _ wX_700) rfl (by decide +kernel) rfl rfl (Nat.le_of_ble_eq_true rfl) dX9_put_16 rfl (fun H locs g16 h_g16 hw => ?_)
  have e_g16_53 : g16 53 = z15 := (hk_upgS h_g16)
  exact kr g16 lg a8 bk _ _ _ _ ⟨(hk_frG hk_fr0 (by decide) h_g16), rfl, h13, rfl, (ob2 ((g 53).toInt) ((g16 53).toInt) ((z15).toInt) (((1 : Int32)).toInt) (hE_add hz15) (congrArg Int32.toInt e_g16_53) (hE_rng (g 53)) (hE_rng (g16 53)) (hE_rng (z15)) (by decide))⟩ hw dX9_put_19

set_option maxHeartbeats 4000000 in
set_option maxRecDepth 100000 in
/-- X9_get on (2,) -/
theorem jx_X9_get_2 (l : Launch) (hlt : l.stackTraces = false) (D : va_G) (t3 : Nat × Nat × Nat) (cI cJ : ClassId) (ad : Nat → Nat) (g : Nat → Int32) (lg : Nat → Int64) (ar : Nat → Nat → Int32) (bk : Nat → Int64) (sz : Nat) (y1 : Int32) : JMi l yX9_get (Cond.code yX9_get cX9_get 2 (some .int) :: wwX) { frames := 0, cells := 1, slots := 6, locals := 0 } t3 D xw cI cJ ad [.ref (ad 2), .int y1] (xw cI cJ ad g lg ar bk) sz 1 6 (fun (r : Int32) g' lg' ar' bk' => g = g' ∧ lg = lg' ∧ ar = ar' ∧ bk = bk') (fun g' lg' ar' bk' => False) := by
  refine jx_meti (cc := cX9_get) (maxL := 2) (ret := (some .int)) rfl (by decide) rfl (Nat.le_of_ble_eq_true rfl) ?_
  intro p e s m args below meth c ls Q A hx hb hml hown hts hA hZ hw hl hQ kr kt
  have hq : ∀ w ∈ wwX, w.before args s = true := fun w h => hts w (List.mem_cons_of_mem _ h)
  have hl : lv_has ls 2 [(0, .ref (ad 2)), (1, .int y1)] := hl
  refine lv_iload_n hx hb dX9_get_0 rfl (lv_at hl 1 rfl) ?_
  refine lv_if_lt (tgt := 22) hx hb dX9_get_1 (by decide) (fun cc1 => ?_) (fun cc1 => ?_)
  · refine lv_iconst (v := 0) hx hb dX9_get_22 (by decide) ?_
    exact kr 0 g lg ar bk _ _ _ _ ⟨rfl, rfl, rfl, rfl⟩ hw dX9_get_23
  · refine lv_iload_n hx hb dX9_get_4 rfl (lv_at hl 1 rfl) ?_
    refine lv_aload_n hx hb dX9_get_5 rfl (lv_at hl 0 rfl) ?_
    refine hk_get (ci := 12) (C := RX9) (T := TX9) (N := 2) (v := .ref (ad 3)) hx hb hts (fun _ h => List.mem_cons_of_mem _ (wwXc_wsX90 _ h)) hown hw 2 rfl rfl 0 (by decide) (hq _ wX_699) rfl dX9_get_6 ?_
    refine hk_alen (v := 1500) hx hb hw 3 0 rfl rfl rfl dX9_get_9 ?_
    refine lv_icmp_ge (tgt := 22) hx hb dX9_get_10 (by decide) (fun cc2 => ?_) (fun cc2 => ?_)
    · refine lv_iconst (v := 0) hx hb dX9_get_22 (by decide) ?_
      exact kr 0 g lg ar bk _ _ _ _ ⟨rfl, rfl, rfl, rfl⟩ hw dX9_get_23
    · refine lv_aload_n hx hb dX9_get_13 rfl (lv_at hl 0 rfl) ?_
      refine hk_get (ci := 12) (C := RX9) (T := TX9) (N := 2) (v := .ref (ad 3)) hx hb hts (fun _ h => List.mem_cons_of_mem _ (wwXc_wsX90 _ h)) hown hw 2 rfl rfl 0 (by decide) (hq _ wX_699) rfl dX9_get_14 ?_
      refine lv_iload_n hx hb dX9_get_17 rfl (lv_at hl 1 rfl) ?_
      refine jx_iald hx hb hw 3 0 rfl rfl (hE_in (n := 1500) (ob0 ((y1).toInt) (((0 : Int32)).toInt) (((1500 : Int32)).toInt) (hE_nlt cc1) (hE_nle cc2) (hE_rng (y1)) (by decide) (by decide))) dX9_get_18 (fun z3 hz3 => ?_)
      refine lv_goto (tgt := 23) hx hb dX9_get_19 (by decide) ?_
      exact kr z3 g lg ar bk _ _ _ _ ⟨rfl, rfl, rfl, rfl⟩ hw dX9_get_23

set_option maxHeartbeats 4000000 in
set_option maxRecDepth 100000 in
/-- X9_get on (4,) -/
theorem jx_X9_get_4 (l : Launch) (hlt : l.stackTraces = false) (D : va_G) (t3 : Nat × Nat × Nat) (cI cJ : ClassId) (ad : Nat → Nat) (g : Nat → Int32) (lg : Nat → Int64) (ar : Nat → Nat → Int32) (bk : Nat → Int64) (sz : Nat) (y1 : Int32) : JMi l yX9_get (Cond.code yX9_get cX9_get 2 (some .int) :: wwX) { frames := 0, cells := 1, slots := 6, locals := 0 } t3 D xw cI cJ ad [.ref (ad 4), .int y1] (xw cI cJ ad g lg ar bk) sz 1 6 (fun (r : Int32) g' lg' ar' bk' => g = g' ∧ lg = lg' ∧ ar = ar' ∧ bk = bk') (fun g' lg' ar' bk' => False) := by
  refine jx_meti (cc := cX9_get) (maxL := 2) (ret := (some .int)) rfl (by decide) rfl (Nat.le_of_ble_eq_true rfl) ?_
  intro p e s m args below meth c ls Q A hx hb hml hown hts hA hZ hw hl hQ kr kt
  have hq : ∀ w ∈ wwX, w.before args s = true := fun w h => hts w (List.mem_cons_of_mem _ h)
  have hl : lv_has ls 2 [(0, .ref (ad 4)), (1, .int y1)] := hl
  refine lv_iload_n hx hb dX9_get_0 rfl (lv_at hl 1 rfl) ?_
  refine lv_if_lt (tgt := 22) hx hb dX9_get_1 (by decide) (fun cc1 => ?_) (fun cc1 => ?_)
  · refine lv_iconst (v := 0) hx hb dX9_get_22 (by decide) ?_
    exact kr 0 g lg ar bk _ _ _ _ ⟨rfl, rfl, rfl, rfl⟩ hw dX9_get_23
  · refine lv_iload_n hx hb dX9_get_4 rfl (lv_at hl 1 rfl) ?_
    refine lv_aload_n hx hb dX9_get_5 rfl (lv_at hl 0 rfl) ?_
    refine hk_get (ci := 12) (C := RX9) (T := TX9) (N := 2) (v := .ref (ad 5)) hx hb hts (fun _ h => List.mem_cons_of_mem _ (wwXc_wsX90 _ h)) hown hw 4 rfl rfl 0 (by decide) (hq _ wX_699) rfl dX9_get_6 ?_
    refine hk_alen (v := 3000) hx hb hw 5 0 rfl rfl rfl dX9_get_9 ?_
    refine lv_icmp_ge (tgt := 22) hx hb dX9_get_10 (by decide) (fun cc2 => ?_) (fun cc2 => ?_)
    · refine lv_iconst (v := 0) hx hb dX9_get_22 (by decide) ?_
      exact kr 0 g lg ar bk _ _ _ _ ⟨rfl, rfl, rfl, rfl⟩ hw dX9_get_23
    · refine lv_aload_n hx hb dX9_get_13 rfl (lv_at hl 0 rfl) ?_
      refine hk_get (ci := 12) (C := RX9) (T := TX9) (N := 2) (v := .ref (ad 5)) hx hb hts (fun _ h => List.mem_cons_of_mem _ (wwXc_wsX90 _ h)) hown hw 4 rfl rfl 0 (by decide) (hq _ wX_699) rfl dX9_get_14 ?_
      refine lv_iload_n hx hb dX9_get_17 rfl (lv_at hl 1 rfl) ?_
      refine jx_iald hx hb hw 5 0 rfl rfl (hE_in (n := 3000) (ob3 ((y1).toInt) (((0 : Int32)).toInt) (((3000 : Int32)).toInt) (hE_nlt cc1) (hE_nle cc2) (hE_rng (y1)) (by decide) (by decide))) dX9_get_18 (fun z3 hz3 => ?_)
      refine lv_goto (tgt := 23) hx hb dX9_get_19 (by decide) ?_
      exact kr z3 g lg ar bk _ _ _ _ ⟨rfl, rfl, rfl, rfl⟩ hw dX9_get_23

set_option maxHeartbeats 4000000 in
set_option maxRecDepth 100000 in
/-- X9_get on (29,) -/
theorem jx_X9_get_29 (l : Launch) (hlt : l.stackTraces = false) (D : va_G) (t3 : Nat × Nat × Nat) (cI cJ : ClassId) (ad : Nat → Nat) (g : Nat → Int32) (lg : Nat → Int64) (ar : Nat → Nat → Int32) (bk : Nat → Int64) (sz : Nat) (y1 : Int32) : JMi l yX9_get (Cond.code yX9_get cX9_get 2 (some .int) :: wwX) { frames := 0, cells := 1, slots := 6, locals := 0 } t3 D xw cI cJ ad [.ref (ad 29), .int y1] (xw cI cJ ad g lg ar bk) sz 1 6 (fun (r : Int32) g' lg' ar' bk' => g = g' ∧ lg = lg' ∧ ar = ar' ∧ bk = bk') (fun g' lg' ar' bk' => False) := by
  refine jx_meti (cc := cX9_get) (maxL := 2) (ret := (some .int)) rfl (by decide) rfl (Nat.le_of_ble_eq_true rfl) ?_
  intro p e s m args below meth c ls Q A hx hb hml hown hts hA hZ hw hl hQ kr kt
  have hq : ∀ w ∈ wwX, w.before args s = true := fun w h => hts w (List.mem_cons_of_mem _ h)
  have hl : lv_has ls 2 [(0, .ref (ad 29)), (1, .int y1)] := hl
  refine lv_iload_n hx hb dX9_get_0 rfl (lv_at hl 1 rfl) ?_
  refine lv_if_lt (tgt := 22) hx hb dX9_get_1 (by decide) (fun cc1 => ?_) (fun cc1 => ?_)
  · refine lv_iconst (v := 0) hx hb dX9_get_22 (by decide) ?_
    exact kr 0 g lg ar bk _ _ _ _ ⟨rfl, rfl, rfl, rfl⟩ hw dX9_get_23
  · refine lv_iload_n hx hb dX9_get_4 rfl (lv_at hl 1 rfl) ?_
    refine lv_aload_n hx hb dX9_get_5 rfl (lv_at hl 0 rfl) ?_
    refine hk_get (ci := 12) (C := RX9) (T := TX9) (N := 2) (v := .ref (ad 30)) hx hb hts (fun _ h => List.mem_cons_of_mem _ (wwXc_wsX90 _ h)) hown hw 29 rfl rfl 0 (by decide) (hq _ wX_699) rfl dX9_get_6 ?_
    refine hk_alen (v := 1024) hx hb hw 30 0 rfl rfl rfl dX9_get_9 ?_
    refine lv_icmp_ge (tgt := 22) hx hb dX9_get_10 (by decide) (fun cc2 => ?_) (fun cc2 => ?_)
    · refine lv_iconst (v := 0) hx hb dX9_get_22 (by decide) ?_
      exact kr 0 g lg ar bk _ _ _ _ ⟨rfl, rfl, rfl, rfl⟩ hw dX9_get_23
    · refine lv_aload_n hx hb dX9_get_13 rfl (lv_at hl 0 rfl) ?_
      refine hk_get (ci := 12) (C := RX9) (T := TX9) (N := 2) (v := .ref (ad 30)) hx hb hts (fun _ h => List.mem_cons_of_mem _ (wwXc_wsX90 _ h)) hown hw 29 rfl rfl 0 (by decide) (hq _ wX_699) rfl dX9_get_14 ?_
      refine lv_iload_n hx hb dX9_get_17 rfl (lv_at hl 1 rfl) ?_
      refine jx_iald hx hb hw 30 0 rfl rfl (hE_in (n := 1024) (ob4 ((y1).toInt) (((0 : Int32)).toInt) (((1024 : Int32)).toInt) (hE_nlt cc1) (hE_nle cc2) (hE_rng (y1)) (by decide) (by decide))) dX9_get_18 (fun z3 hz3 => ?_)
      refine lv_goto (tgt := 23) hx hb dX9_get_19 (by decide) ?_
      exact kr z3 g lg ar bk _ _ _ _ ⟨rfl, rfl, rfl, rfl⟩ hw dX9_get_23

set_option maxHeartbeats 4000000 in
set_option maxRecDepth 100000 in
/-- X9_putLow on (4,) -/
theorem jx_X9_putLow_4 (l : Launch) (hlt : l.stackTraces = false) (D : va_G) (t3 : Nat × Nat × Nat) (cI cJ : ClassId) (ad : Nat → Nat) (g : Nat → Int32) (lg : Nat → Int64) (ar : Nat → Nat → Int32) (bk : Nat → Int64) (sz : Nat) (y1 : Int64) (y3 : Int32) : JMv l yX9_putLow (Cond.code yX9_putLow cX9_putLow 5 none :: wwX) { frames := 2, cells := 1, slots := 6, locals := 43 } t3 D xw cI cJ ad [.ref (ad 4), .long y1, .int y3] (xw cI cJ ad g lg ar bk) sz 1 6 (fun g' lg' ar' bk' => hk_fr [14] g g' ∧ lg = lg' ∧ hk_fr [1] ar ar' ∧ bk = bk') (fun g' lg' ar' bk' => False) := by
  refine jx_metv (cc := cX9_putLow) (maxL := 5) (ret := none) rfl (by decide) rfl (Nat.le_of_ble_eq_true rfl) ?_
  intro p e s m args below meth c ls Q A hx hb hml hown hts hA hZ hw hl hQ kr kt
  have hq : ∀ w ∈ wwX, w.before args s = true := fun w h => hts w (List.mem_cons_of_mem _ h)
  have hl : lv_has ls 5 [(0, .ref (ad 4)), (1, .long y1), (3, .int y3)] := hl
  refine lv_iconst (v := 0) hx hb dX9_putLow_0 (by decide) ?_
  refine lv_istore (lv' := [(4, .int 0), (0, .ref (ad 4)), (1, .long y1), (3, .int y3)]) hx hb dX9_putLow_1 hl (by decide) rfl (fun ls hl => ?_)
  have B1 : ∀ (k5 : Nat) (x2 : Int32) (g3 : Nat → Int32) (a4 : Nat → Nat → Int32) (ls : Array Slot) (H : Heap) (locs : List Loc), (2147483648 - (x2).toInt ≤ (k5 : Int)) → (0 ≤ (x2).toInt) → (hk_fr [14] g g3) → (hk_fr [1] ar a4) → hk_W D (jT cI cJ) A s H locs (xw cI cJ ad g3 lg a4 bk) → lv_has ls 5 [(0, .ref (ad 4)), (1, .long y1), (3, .int y3), (4, .int x2)] → W p l e { frames := 2, cells := 1, slots := 6, locals := 43 } s m args below meth c H locs 0 0 Q (F0 m 3 ls []) := by
    intro k5
    induction k5 with
    | zero =>
      intro x2 g3 a4 ls H locs hrk_B1 hf_B1_0 hfr_g3 hfr_a4 hw hl
      exact False.elim (hk_no0 (0 * (x2).toInt) (ob5 ((x2).toInt) hf_B1_0 hrk_B1 (hE_rng (x2))) (by simp))
    | succ k5 ih_B1 =>
      intro x2 g3 a4 ls H locs hrk_B1 hf_B1_0 hfr_g3 hfr_a4 hw hl
      have hrk_B1 := hk_rk hrk_B1
      refine lv_iload hx hb dX9_putLow_3 (lv_at hl 3 rfl) ?_
      refine lv_iload_n hx hb dX9_putLow_5 rfl (lv_at hl 2 rfl) ?_
      refine lv_icmp_ge (tgt := 27) hx hb dX9_putLow_6 (by decide) (fun cc6 => ?_) (fun cc6 => ?_)
      · exact kr g3 lg a4 bk _ _ _ _ ⟨hfr_g3, rfl, hfr_a4, rfl⟩ hw dX9_putLow_27
      · refine lv_aload_n hx hb dX9_putLow_9 rfl (lv_at hl 0 rfl) ?_
        refine lv_lload_n hx hb dX9_putLow_10 rfl (lv_at hl 1 rfl) ?_
        refine lv_bipush (v := 8) hx hb dX9_putLow_11 (by decide) ?_
        refine lv_iload hx hb dX9_putLow_13 (lv_at hl 3 rfl) ?_
        refine lv_imul hx hb dX9_putLow_15 (jx_nm fun z7 hz7 => ?_)
        refine lv_lushr hx hb dX9_putLow_16 rfl (jx_nl fun z8 hz8 => ?_)
        refine lv_l2i hx hb dX9_putLow_17 rfl (jx_nm fun z9 hz9 => ?_)
        refine jx_Vv (As := [.int z9]) (rest := []) ⟨hx, hb, hml, hown, hts⟩ hZ hw hA (jx_X9_put_4 l hlt D t3 cI cJ ad g3 lg a4 bk _ z9) (cwV 1 hts (jx_gV wwX_good wX_701 wX_112 wX_113 wX_24 wX_114) rfl rfl rfl (by decide +kernel) ⟨Nat.le_of_ble_eq_true rfl, Nat.le_of_ble_eq_true rfl⟩) 4 (ci := 12) (T := TX9) (N := 2) rfl rfl rfl hl.1 rfl (Nat.le_of_ble_eq_true rfl) dX9_putLow_18 ⟨Nat.le_of_ble_eq_true rfl, Nat.le_of_ble_eq_true rfl⟩ (fun _ _ _ _ _ _ _ _ hp _ _ _ _ => hp.elim) (fun g15 l16 a17 b18 H locs hp19 hw => ?_)
        obtain ⟨h20, rfl, h22, rfl, h24⟩ := hp19
        obtain ⟨z25, hz25⟩ : ∃ z : Int32, x2 + 1 = z := ⟨_, rfl⟩
        refine lv_iinc (v := z25) (lv' := [(4, .int z25), (0, .ref (ad 4)), (1, .long y1), (3, .int y3)]) hx hb dX9_putLow_21 hl (k := 3) rfl hz25 (by decide) rfl (fun ls hl => ?_)
        have xz25 : (z25).toInt = (x2).toInt + ((1 : Int32)).toInt := (hE_imp (hE_add hz25) (ob6 ((x2).toInt) (((1 : Int32)).toInt) (k5 : Int) ((y3).toInt) hf_B1_0 hrk_B1 (hE_nle cc6) (hE_rng (x2)) (by decide) (hE_rng (y3))))
        refine lv_goto (tgt := 3) hx hb dX9_putLow_24 (by decide) ?_
        exact ih_B1 z25 g15 a17 ls _ _ (ob7 ((z25).toInt) (k5 : Int) ((x2).toInt) (((1 : Int32)).toInt) ((y3).toInt) hrk_B1 xz25 hf_B1_0 (hE_nle cc6) (hE_rng (z25)) (hE_rng (x2)) (by decide) (hE_rng (y3))) (ob8 ((z25).toInt) ((x2).toInt) (((1 : Int32)).toInt) (k5 : Int) ((y3).toInt) xz25 hf_B1_0 hrk_B1 (hE_nle cc6) (hE_rng (z25)) (hE_rng (x2)) (by decide) (hE_rng (y3))) (hk_frT hfr_g3 (by decide) h20) (hk_frT hfr_a4 (by decide) h22) hw (lv_sub hl [1, 2, 3, 0] rfl)
  exact B1 (2147483648 - ((0 : Int32)).toInt).toNat 0 g ar ls _ _ (Int.self_le_toNat _) (ob9 (((0 : Int32)).toInt) (by decide)) hk_fr0 hk_fr0 hw (lv_sub hl [1, 2, 3, 0] rfl)

set_option maxHeartbeats 4000000 in
set_option maxRecDepth 100000 in
/-- X9_putHigh on (2,) -/
theorem jx_X9_putHigh_2 (l : Launch) (hlt : l.stackTraces = false) (D : va_G) (t3 : Nat × Nat × Nat) (cI cJ : ClassId) (ad : Nat → Nat) (g : Nat → Int32) (lg : Nat → Int64) (ar : Nat → Nat → Int32) (bk : Nat → Int64) (sz : Nat) (y1 : Int64) (y3 : Int32) (hr0 : 0 ≤ (y3).toInt ∧ (y3).toInt ≤ 8) (hi_a0rg : hk_rg 0 255 (ar 0)) : JMv l yX9_putHigh (Cond.code yX9_putHigh cX9_putHigh 5 none :: wwX) { frames := 2, cells := 1, slots := 6, locals := 43 } t3 D xw cI cJ ad [.ref (ad 2), .long y1, .int y3] (xw cI cJ ad g lg ar bk) sz 1 6 (fun g' lg' ar' bk' => hk_fr [13] g g' ∧ lg = lg' ∧ hk_fr [0] ar ar' ∧ bk = bk' ∧ ((g 13).toInt ≤ 2147483000 → (g' 13).toInt = (g 13).toInt + (y3).toInt) ∧ hk_rg 0 255 (ar' 0)) (fun g' lg' ar' bk' => False) := by
  refine jx_metv (cc := cX9_putHigh) (maxL := 5) (ret := none) rfl (by decide) rfl (Nat.le_of_ble_eq_true rfl) ?_
  intro p e s m args below meth c ls Q A hx hb hml hown hts hA hZ hw hl hQ kr kt
  have hq : ∀ w ∈ wwX, w.before args s = true := fun w h => hts w (List.mem_cons_of_mem _ h)
  have hl : lv_has ls 5 [(0, .ref (ad 2)), (1, .long y1), (3, .int y3)] := hl
  refine lv_iload_n hx hb dX9_putHigh_0 rfl (lv_at hl 2 rfl) ?_
  refine lv_iconst (v := 1) hx hb dX9_putHigh_1 (by decide) ?_
  refine lv_isub hx hb dX9_putHigh_2 (jx_nm fun z1 hz1 => ?_)
  have xz1 : (z1).toInt = (y3).toInt - ((1 : Int32)).toInt := (hE_imp (hE_sub hz1) (ob10 ((y3).toInt) (((1 : Int32)).toInt) hr0 (hE_rng (y3)) (by decide)))
  refine lv_istore (lv' := [(4, .int z1), (0, .ref (ad 2)), (1, .long y1), (3, .int y3)]) hx hb dX9_putHigh_3 hl (by decide) rfl (fun ls hl => ?_)
  have B2 : ∀ (k6 : Nat) (x3 : Int32) (g4 : Nat → Int32) (a5 : Nat → Nat → Int32) (ls : Array Slot) (H : Heap) (locs : List Loc), ((x3).toInt + 2147483649 ≤ (k6 : Int)) → (-1 ≤ (x3).toInt ∧ (x3).toInt < (y3).toInt ∨ (x3).toInt = -1) → ((g 13).toInt ≤ 2147483000 → (g4 13).toInt = (g 13).toInt + (y3).toInt - 1 - (x3).toInt) → (hk_fr [13] g g4) → (hk_fr [0] ar a5) → (hk_rg 0 255 (a5 0)) → hk_W D (jT cI cJ) A s H locs (xw cI cJ ad g4 lg a5 bk) → lv_has ls 5 [(0, .ref (ad 2)), (1, .long y1), (4, .int x3)] → W p l e { frames := 2, cells := 1, slots := 6, locals := 43 } s m args below meth c H locs 0 0 Q (F0 m 5 ls []) := by
    intro k6
    induction k6 with
    | zero =>
      intro x3 g4 a5 ls H locs hrk_B2 hf_B2_0 hf_B2_1 hfr_g4 hfr_a5 ha5_r0rg hw hl
      exact False.elim (hk_no0 (0 * (x3).toInt) (ob11 ((x3).toInt) ((y3).toInt) ((g 13).toInt) ((g4 13).toInt) ((z1).toInt) (((1 : Int32)).toInt) hf_B2_0 hf_B2_1 hrk_B2 hr0 xz1 (hE_rng (x3)) (hE_rng (y3)) (hE_rng (g 13)) (hE_rng (g4 13)) (hE_rng (z1)) (by decide)) (by simp))
    | succ k6 ih_B2 =>
      intro x3 g4 a5 ls H locs hrk_B2 hf_B2_0 hf_B2_1 hfr_g4 hfr_a5 ha5_r0rg hw hl
      have hrk_B2 := hk_rk hrk_B2
      refine lv_iload hx hb dX9_putHigh_5 (lv_at hl 2 rfl) ?_
      refine lv_if_lt (tgt := 28) hx hb dX9_putHigh_7 (by decide) (fun cc7 => ?_) (fun cc7 => ?_)
      · exact kr g4 lg a5 bk _ _ _ _ ⟨hfr_g4, rfl, hfr_a5, rfl, (ob12 ((g 13).toInt) ((g4 13).toInt) ((y3).toInt) ((z1).toInt) (((1 : Int32)).toInt) ((x3).toInt) (k6 : Int) (((0 : Int32)).toInt) hr0 xz1 hf_B2_0 hf_B2_1 hrk_B2 (hE_lt cc7) (hE_rng (g 13)) (hE_rng (g4 13)) (hE_rng (y3)) (hE_rng (z1)) (by decide) (hE_rng (x3)) (by decide)), ha5_r0rg⟩ hw dX9_putHigh_28
      · refine lv_aload_n hx hb dX9_putHigh_10 rfl (lv_at hl 0 rfl) ?_
        refine lv_lload_n hx hb dX9_putHigh_11 rfl (lv_at hl 1 rfl) ?_
        refine lv_bipush (v := 8) hx hb dX9_putHigh_12 (by decide) ?_
        refine lv_iload hx hb dX9_putHigh_14 (lv_at hl 2 rfl) ?_
        refine lv_imul hx hb dX9_putHigh_16 (jx_nm fun z8 hz8 => ?_)
        refine lv_lushr hx hb dX9_putHigh_17 rfl (jx_nl fun z9 hz9 => ?_)
        refine lv_l2i hx hb dX9_putHigh_18 rfl (jx_nm fun z10 hz10 => ?_)
        refine jx_Vv (As := [.int z10]) (rest := []) ⟨hx, hb, hml, hown, hts⟩ hZ hw hA (jx_X9_put_2 l hlt D t3 cI cJ ad g4 lg a5 bk _ z10 ha5_r0rg) (cwV 1 hts (jx_gV wwX_good wX_701 wX_112 wX_113 wX_24 wX_114) rfl rfl rfl (by decide +kernel) ⟨Nat.le_of_ble_eq_true rfl, Nat.le_of_ble_eq_true rfl⟩) 2 (ci := 12) (T := TX9) (N := 2) rfl rfl rfl hl.1 rfl (Nat.le_of_ble_eq_true rfl) dX9_putHigh_19 ⟨Nat.le_of_ble_eq_true rfl, Nat.le_of_ble_eq_true rfl⟩ (fun _ _ _ _ _ _ _ _ hp _ _ _ _ => hp.elim) (fun g16 l17 a18 b19 H locs hp20 hw => ?_)
        obtain ⟨h21, rfl, h23, rfl, h25, h26⟩ := hp20
        obtain ⟨z27, hz27⟩ : ∃ z : Int32, x3 + (-1) = z := ⟨_, rfl⟩
        refine lv_iinc (v := z27) (lv' := [(4, .int z27), (0, .ref (ad 2)), (1, .long y1)]) hx hb dX9_putHigh_22 hl (k := 2) rfl hz27 (by decide) rfl (fun ls hl => ?_)
        have xz27 : (z27).toInt = (x3).toInt + (((-1) : Int32)).toInt := (hE_imp (hE_add hz27) (ob13 ((x3).toInt) ((((-1) : Int32)).toInt) ((y3).toInt) ((g 13).toInt) ((g4 13).toInt) (k6 : Int) (((0 : Int32)).toInt) ((z1).toInt) (((1 : Int32)).toInt) ((g16 13).toInt) hf_B2_0 hf_B2_1 hrk_B2 (hE_nlt cc7) hr0 xz1 h25 (hE_rng (x3)) (by decide) (hE_rng (y3)) (hE_rng (g 13)) (hE_rng (g4 13)) (by decide) (hE_rng (z1)) (by decide) (hE_rng (g16 13))))
        refine lv_goto (tgt := 5) hx hb dX9_putHigh_25 (by decide) ?_
        exact ih_B2 z27 g16 a18 ls _ _ (ob14 ((z27).toInt) (k6 : Int) ((x3).toInt) ((((-1) : Int32)).toInt) ((y3).toInt) ((g 13).toInt) ((g4 13).toInt) (((0 : Int32)).toInt) ((z1).toInt) (((1 : Int32)).toInt) ((g16 13).toInt) hrk_B2 xz27 hf_B2_0 hf_B2_1 (hE_nlt cc7) hr0 xz1 h25 (hE_rng (z27)) (hE_rng (x3)) (by decide) (hE_rng (y3)) (hE_rng (g 13)) (hE_rng (g4 13)) (by decide) (hE_rng (z1)) (by decide) (hE_rng (g16 13))) (ob15 ((z27).toInt) ((y3).toInt) ((z1).toInt) (((1 : Int32)).toInt) ((x3).toInt) ((g 13).toInt) ((g4 13).toInt) ((((-1) : Int32)).toInt) (k6 : Int) (((0 : Int32)).toInt) ((g16 13).toInt) hr0 xz1 hf_B2_0 hf_B2_1 xz27 hrk_B2 (hE_nlt cc7) h25 (hE_rng (z27)) (hE_rng (y3)) (hE_rng (z1)) (by decide) (hE_rng (x3)) (hE_rng (g 13)) (hE_rng (g4 13)) (by decide) (by decide) (hE_rng (g16 13))) (ob16 ((g 13).toInt) ((g16 13).toInt) ((y3).toInt) ((z27).toInt) ((z1).toInt) (((1 : Int32)).toInt) ((x3).toInt) ((g4 13).toInt) ((((-1) : Int32)).toInt) (k6 : Int) (((0 : Int32)).toInt) hr0 xz1 hf_B2_0 hf_B2_1 h25 xz27 hrk_B2 (hE_nlt cc7) (hE_rng (g 13)) (hE_rng (g16 13)) (hE_rng (y3)) (hE_rng (z27)) (hE_rng (z1)) (by decide) (hE_rng (x3)) (hE_rng (g4 13)) (by decide) (by decide)) (hk_frT hfr_g4 (by decide) h21) (hk_frT hfr_a5 (by decide) h23) h26 hw (lv_sub hl [1, 2, 0] rfl)
  exact B2 ((z1).toInt + 2147483649).toNat z1 g ar ls _ _ (Int.self_le_toNat _) (ob17 ((z1).toInt) ((y3).toInt) (((1 : Int32)).toInt) hr0 xz1 (hE_rng (z1)) (hE_rng (y3)) (by decide)) (ob18 ((g 13).toInt) ((y3).toInt) ((z1).toInt) (((1 : Int32)).toInt) hr0 xz1 (hE_rng (g 13)) (hE_rng (y3)) (hE_rng (z1)) (by decide)) hk_fr0 hk_fr0 hi_a0rg hw (lv_sub hl [1, 2, 0] rfl)

set_option maxHeartbeats 4000000 in
set_option maxRecDepth 100000 in
/-- X9_putHigh on (4,) -/
theorem jx_X9_putHigh_4 (l : Launch) (hlt : l.stackTraces = false) (D : va_G) (t3 : Nat × Nat × Nat) (cI cJ : ClassId) (ad : Nat → Nat) (g : Nat → Int32) (lg : Nat → Int64) (ar : Nat → Nat → Int32) (bk : Nat → Int64) (sz : Nat) (y1 : Int64) (y3 : Int32) (hr0 : 0 ≤ (y3).toInt ∧ (y3).toInt ≤ 8) : JMv l yX9_putHigh (Cond.code yX9_putHigh cX9_putHigh 5 none :: wwX) { frames := 2, cells := 1, slots := 6, locals := 43 } t3 D xw cI cJ ad [.ref (ad 4), .long y1, .int y3] (xw cI cJ ad g lg ar bk) sz 1 6 (fun g' lg' ar' bk' => hk_fr [14] g g' ∧ lg = lg' ∧ hk_fr [1] ar ar' ∧ bk = bk' ∧ ((g 14).toInt ≤ 2147483000 → (g' 14).toInt = (g 14).toInt + (y3).toInt)) (fun g' lg' ar' bk' => False) := by
  refine jx_metv (cc := cX9_putHigh) (maxL := 5) (ret := none) rfl (by decide) rfl (Nat.le_of_ble_eq_true rfl) ?_
  intro p e s m args below meth c ls Q A hx hb hml hown hts hA hZ hw hl hQ kr kt
  have hq : ∀ w ∈ wwX, w.before args s = true := fun w h => hts w (List.mem_cons_of_mem _ h)
  have hl : lv_has ls 5 [(0, .ref (ad 4)), (1, .long y1), (3, .int y3)] := hl
  refine lv_iload_n hx hb dX9_putHigh_0 rfl (lv_at hl 2 rfl) ?_
  refine lv_iconst (v := 1) hx hb dX9_putHigh_1 (by decide) ?_
  refine lv_isub hx hb dX9_putHigh_2 (jx_nm fun z1 hz1 => ?_)
  have xz1 : (z1).toInt = (y3).toInt - ((1 : Int32)).toInt := (hE_imp (hE_sub hz1) (ob10 ((y3).toInt) (((1 : Int32)).toInt) hr0 (hE_rng (y3)) (by decide)))
  refine lv_istore (lv' := [(4, .int z1), (0, .ref (ad 4)), (1, .long y1), (3, .int y3)]) hx hb dX9_putHigh_3 hl (by decide) rfl (fun ls hl => ?_)
  have B2 : ∀ (k6 : Nat) (x3 : Int32) (g4 : Nat → Int32) (a5 : Nat → Nat → Int32) (ls : Array Slot) (H : Heap) (locs : List Loc), ((x3).toInt + 2147483649 ≤ (k6 : Int)) → (-1 ≤ (x3).toInt ∧ (x3).toInt < (y3).toInt ∨ (x3).toInt = -1) → ((g 14).toInt ≤ 2147483000 → (g4 14).toInt = (g 14).toInt + (y3).toInt - 1 - (x3).toInt) → (hk_fr [14] g g4) → (hk_fr [1] ar a5) → hk_W D (jT cI cJ) A s H locs (xw cI cJ ad g4 lg a5 bk) → lv_has ls 5 [(0, .ref (ad 4)), (1, .long y1), (4, .int x3)] → W p l e { frames := 2, cells := 1, slots := 6, locals := 43 } s m args below meth c H locs 0 0 Q (F0 m 5 ls []) := by
    intro k6
    induction k6 with
    | zero =>
      intro x3 g4 a5 ls H locs hrk_B2 hf_B2_0 hf_B2_1 hfr_g4 hfr_a5 hw hl
      exact False.elim (hk_no0 (0 * (x3).toInt) (ob11 ((x3).toInt) ((y3).toInt) ((g 14).toInt) ((g4 14).toInt) ((z1).toInt) (((1 : Int32)).toInt) hf_B2_0 hf_B2_1 hrk_B2 hr0 xz1 (hE_rng (x3)) (hE_rng (y3)) (hE_rng (g 14)) (hE_rng (g4 14)) (hE_rng (z1)) (by decide)) (by simp))
    | succ k6 ih_B2 =>
      intro x3 g4 a5 ls H locs hrk_B2 hf_B2_0 hf_B2_1 hfr_g4 hfr_a5 hw hl
      have hrk_B2 := hk_rk hrk_B2
      refine lv_iload hx hb dX9_putHigh_5 (lv_at hl 2 rfl) ?_
      refine lv_if_lt (tgt := 28) hx hb dX9_putHigh_7 (by decide) (fun cc7 => ?_) (fun cc7 => ?_)
      · exact kr g4 lg a5 bk _ _ _ _ ⟨hfr_g4, rfl, hfr_a5, rfl, (ob12 ((g 14).toInt) ((g4 14).toInt) ((y3).toInt) ((z1).toInt) (((1 : Int32)).toInt) ((x3).toInt) (k6 : Int) (((0 : Int32)).toInt) hr0 xz1 hf_B2_0 hf_B2_1 hrk_B2 (hE_lt cc7) (hE_rng (g 14)) (hE_rng (g4 14)) (hE_rng (y3)) (hE_rng (z1)) (by decide) (hE_rng (x3)) (by decide))⟩ hw dX9_putHigh_28
      · refine lv_aload_n hx hb dX9_putHigh_10 rfl (lv_at hl 0 rfl) ?_
        refine lv_lload_n hx hb dX9_putHigh_11 rfl (lv_at hl 1 rfl) ?_
        refine lv_bipush (v := 8) hx hb dX9_putHigh_12 (by decide) ?_
        refine lv_iload hx hb dX9_putHigh_14 (lv_at hl 2 rfl) ?_
        refine lv_imul hx hb dX9_putHigh_16 (jx_nm fun z8 hz8 => ?_)
        refine lv_lushr hx hb dX9_putHigh_17 rfl (jx_nl fun z9 hz9 => ?_)
        refine lv_l2i hx hb dX9_putHigh_18 rfl (jx_nm fun z10 hz10 => ?_)
        refine jx_Vv (As := [.int z10]) (rest := []) ⟨hx, hb, hml, hown, hts⟩ hZ hw hA (jx_X9_put_4 l hlt D t3 cI cJ ad g4 lg a5 bk _ z10) (cwV 1 hts (jx_gV wwX_good wX_701 wX_112 wX_113 wX_24 wX_114) rfl rfl rfl (by decide +kernel) ⟨Nat.le_of_ble_eq_true rfl, Nat.le_of_ble_eq_true rfl⟩) 4 (ci := 12) (T := TX9) (N := 2) rfl rfl rfl hl.1 rfl (Nat.le_of_ble_eq_true rfl) dX9_putHigh_19 ⟨Nat.le_of_ble_eq_true rfl, Nat.le_of_ble_eq_true rfl⟩ (fun _ _ _ _ _ _ _ _ hp _ _ _ _ => hp.elim) (fun g16 l17 a18 b19 H locs hp20 hw => ?_)
        obtain ⟨h21, rfl, h23, rfl, h25⟩ := hp20
        obtain ⟨z26, hz26⟩ : ∃ z : Int32, x3 + (-1) = z := ⟨_, rfl⟩
        refine lv_iinc (v := z26) (lv' := [(4, .int z26), (0, .ref (ad 4)), (1, .long y1)]) hx hb dX9_putHigh_22 hl (k := 2) rfl hz26 (by decide) rfl (fun ls hl => ?_)
        have xz26 : (z26).toInt = (x3).toInt + (((-1) : Int32)).toInt := (hE_imp (hE_add hz26) (ob13 ((x3).toInt) ((((-1) : Int32)).toInt) ((y3).toInt) ((g 14).toInt) ((g4 14).toInt) (k6 : Int) (((0 : Int32)).toInt) ((z1).toInt) (((1 : Int32)).toInt) ((g16 14).toInt) hf_B2_0 hf_B2_1 hrk_B2 (hE_nlt cc7) hr0 xz1 h25 (hE_rng (x3)) (by decide) (hE_rng (y3)) (hE_rng (g 14)) (hE_rng (g4 14)) (by decide) (hE_rng (z1)) (by decide) (hE_rng (g16 14))))
        refine lv_goto (tgt := 5) hx hb dX9_putHigh_25 (by decide) ?_
        exact ih_B2 z26 g16 a18 ls _ _ (ob14 ((z26).toInt) (k6 : Int) ((x3).toInt) ((((-1) : Int32)).toInt) ((y3).toInt) ((g 14).toInt) ((g4 14).toInt) (((0 : Int32)).toInt) ((z1).toInt) (((1 : Int32)).toInt) ((g16 14).toInt) hrk_B2 xz26 hf_B2_0 hf_B2_1 (hE_nlt cc7) hr0 xz1 h25 (hE_rng (z26)) (hE_rng (x3)) (by decide) (hE_rng (y3)) (hE_rng (g 14)) (hE_rng (g4 14)) (by decide) (hE_rng (z1)) (by decide) (hE_rng (g16 14))) (ob15 ((z26).toInt) ((y3).toInt) ((z1).toInt) (((1 : Int32)).toInt) ((x3).toInt) ((g 14).toInt) ((g4 14).toInt) ((((-1) : Int32)).toInt) (k6 : Int) (((0 : Int32)).toInt) ((g16 14).toInt) hr0 xz1 hf_B2_0 hf_B2_1 xz26 hrk_B2 (hE_nlt cc7) h25 (hE_rng (z26)) (hE_rng (y3)) (hE_rng (z1)) (by decide) (hE_rng (x3)) (hE_rng (g 14)) (hE_rng (g4 14)) (by decide) (by decide) (hE_rng (g16 14))) (ob16 ((g 14).toInt) ((g16 14).toInt) ((y3).toInt) ((z26).toInt) ((z1).toInt) (((1 : Int32)).toInt) ((x3).toInt) ((g4 14).toInt) ((((-1) : Int32)).toInt) (k6 : Int) (((0 : Int32)).toInt) hr0 xz1 hf_B2_0 hf_B2_1 h25 xz26 hrk_B2 (hE_nlt cc7) (hE_rng (g 14)) (hE_rng (g16 14)) (hE_rng (y3)) (hE_rng (z26)) (hE_rng (z1)) (by decide) (hE_rng (x3)) (hE_rng (g4 14)) (by decide) (by decide)) (hk_frT hfr_g4 (by decide) h21) (hk_frT hfr_a5 (by decide) h23) hw (lv_sub hl [1, 2, 0] rfl)
  exact B2 ((z1).toInt + 2147483649).toNat z1 g ar ls _ _ (Int.self_le_toNat _) (ob17 ((z1).toInt) ((y3).toInt) (((1 : Int32)).toInt) hr0 xz1 (hE_rng (z1)) (hE_rng (y3)) (by decide)) (ob18 ((g 14).toInt) ((y3).toInt) ((z1).toInt) (((1 : Int32)).toInt) hr0 xz1 (hE_rng (g 14)) (hE_rng (y3)) (hE_rng (z1)) (by decide)) hk_fr0 hk_fr0 hw (lv_sub hl [1, 2, 0] rfl)

set_option maxHeartbeats 4000000 in
set_option maxRecDepth 100000 in
/-- X9_putNumber on (4,) -/
theorem jx_X9_putNumber_4 (l : Launch) (hlt : l.stackTraces = false) (D : va_G) (t3 : Nat × Nat × Nat) (cI cJ : ClassId) (ad : Nat → Nat) (g : Nat → Int32) (lg : Nat → Int64) (ar : Nat → Nat → Int32) (bk : Nat → Int64) (sz : Nat) (y1 : Int32) : JMv l yX9_putNumber (Cond.code yX9_putNumber cX9_putNumber 4 none :: wwX) { frames := 2, cells := 1, slots := 6, locals := 43 } t3 D xw cI cJ ad [.ref (ad 4), .int y1] (xw cI cJ ad g lg ar bk) sz 1 6 (fun g' lg' ar' bk' => hk_fr [14] g g' ∧ lg = lg' ∧ hk_fr [1] ar ar' ∧ bk = bk') (fun g' lg' ar' bk' => False) := by
  refine jx_metv (cc := cX9_putNumber) (maxL := 4) (ret := none) rfl (by decide) rfl (Nat.le_of_ble_eq_true rfl) ?_
  intro p e s m args below meth c ls Q A hx hb hml hown hts hA hZ hw hl hQ kr kt
  have hq : ∀ w ∈ wwX, w.before args s = true := fun w h => hts w (List.mem_cons_of_mem _ h)
  have hl : lv_has ls 4 [(0, .ref (ad 4)), (1, .int y1)] := hl
  refine lv_iload_n hx hb dX9_putNumber_0 rfl (lv_at hl 1 rfl) ?_
  refine lv_istore_n (lv' := [(2, .int y1), (0, .ref (ad 4)), (1, .int y1)]) hx hb dX9_putNumber_1 rfl hl (by decide) rfl (fun ls hl => ?_)
  refine lv_iconst (v := 0) hx hb dX9_putNumber_2 (by decide) ?_
  refine lv_istore_n (lv' := [(3, .int 0), (2, .int y1), (0, .ref (ad 4)), (1, .int y1)]) hx hb dX9_putNumber_3 rfl hl (by decide) rfl (fun ls hl => ?_)
  have B1 : ∀ (k6 : Nat) (x2 : Int32) (x3 : Int32) (g4 : Nat → Int32) (a5 : Nat → Nat → Int32) (ls : Array Slot) (H : Heap) (locs : List Loc), (2147483648 - (x3).toInt ≤ (k6 : Int)) → (0 ≤ (x3).toInt) → (hk_fr [14] g g4) → (hk_fr [1] ar a5) → hk_W D (jT cI cJ) A s H locs (xw cI cJ ad g4 lg a5 bk) → lv_has ls 4 [(0, .ref (ad 4)), (2, .int x2), (3, .int x3)] → W p l e { frames := 2, cells := 1, slots := 6, locals := 43 } s m args below meth c H locs 0 0 Q (F0 m 4 ls []) := by
    intro k6
    induction k6 with
    | zero =>
      intro x2 x3 g4 a5 ls H locs hrk_B1 hf_B1_0 hfr_g4 hfr_a5 hw hl
      exact False.elim (hk_no0 (0 * (x3).toInt) (ob5 ((x3).toInt) hf_B1_0 hrk_B1 (hE_rng (x3))) (by simp))
    | succ k6 ih_B1 =>
      intro x2 x3 g4 a5 ls H locs hrk_B1 hf_B1_0 hfr_g4 hfr_a5 hw hl
      have hrk_B1 := hk_rk hrk_B1
      refine lv_iload_n hx hb dX9_putNumber_4 rfl (lv_at hl 2 rfl) ?_
      refine lv_iconst (v := 4) hx hb dX9_putNumber_5 (by decide) ?_
      have B7 : ∀  (ls : Array Slot) (H : Heap) (locs : List Loc), hk_W D (jT cI cJ) A s H locs (xw cI cJ ad g4 lg a5 bk) → lv_has ls 4 [(0, .ref (ad 4)), (2, .int x2)] → W p l e { frames := 2, cells := 1, slots := 6, locals := 43 } s m args below meth c H locs 0 0 Q (F0 m 38 ls []) := by
        intro ls H locs hw hl
        refine lv_aload_n hx hb dX9_putNumber_38 rfl (lv_at hl 0 rfl) ?_
        refine lv_iload_n hx hb dX9_putNumber_39 rfl (lv_at hl 1 rfl) ?_
        refine lv_bipush (v := 127) hx hb dX9_putNumber_40 (by decide) ?_
        refine lv_iand hx hb dX9_putNumber_42 (jx_nm fun z8 hz8 => ?_)
        refine jx_Vv (As := [.int z8]) (rest := []) ⟨hx, hb, hml, hown, hts⟩ hZ hw hA (jx_X9_put_4 l hlt D t3 cI cJ ad g4 lg a5 bk _ z8) (cwV 1 hts (jx_gV wwX_good wX_701 wX_112 wX_113 wX_24 wX_114) rfl rfl rfl (by decide +kernel) ⟨Nat.le_of_ble_eq_true rfl, Nat.le_of_ble_eq_true rfl⟩) 4 (ci := 12) (T := TX9) (N := 2) rfl rfl rfl hl.1 rfl (Nat.le_of_ble_eq_true rfl) dX9_putNumber_43 ⟨Nat.le_of_ble_eq_true rfl, Nat.le_of_ble_eq_true rfl⟩ (fun _ _ _ _ _ _ _ _ hp _ _ _ _ => hp.elim) (fun g14 l15 a16 b17 H locs hp18 hw => ?_)
        obtain ⟨h19, rfl, h21, rfl, h23⟩ := hp18
        exact kr g14 lg a16 bk _ _ _ _ ⟨(hk_frT hfr_g4 (by decide) h19), rfl, (hk_frT hfr_a5 (by decide) h21), rfl⟩ hw dX9_putNumber_46
      refine lv_icmp_ge (tgt := 38) hx hb dX9_putNumber_6 (by decide) (fun cc24 => ?_) (fun cc24 => ?_)
      · exact B7 ls _ _ hw (lv_sub hl [0, 1] rfl)
      · refine lv_iload_n hx hb dX9_putNumber_9 rfl (lv_at hl 1 rfl) ?_
        refine lv_bipush (v := 127) hx hb dX9_putNumber_10 (by decide) ?_
        refine lv_icmp_le (tgt := 38) hx hb dX9_putNumber_12 (by decide) (fun cc25 => ?_) (fun cc25 => ?_)
        · exact B7 ls _ _ hw (lv_sub hl [0, 1] rfl)
        · refine lv_aload_n hx hb dX9_putNumber_15 rfl (lv_at hl 0 rfl) ?_
          refine lv_iload_n hx hb dX9_putNumber_16 rfl (lv_at hl 1 rfl) ?_
          refine lv_bipush (v := 127) hx hb dX9_putNumber_17 (by decide) ?_
          refine lv_iand hx hb dX9_putNumber_19 (jx_nm fun z26 hz26 => ?_)
          refine lv_sipush (v := 128) hx hb dX9_putNumber_20 (by decide) ?_
          refine lv_ior hx hb dX9_putNumber_23 (jx_nm fun z27 hz27 => ?_)
          refine jx_Vv (As := [.int z27]) (rest := []) ⟨hx, hb, hml, hown, hts⟩ hZ hw hA (jx_X9_put_4 l hlt D t3 cI cJ ad g4 lg a5 bk _ z27) (cwV 1 hts (jx_gV wwX_good wX_701 wX_112 wX_113 wX_24 wX_114) rfl rfl rfl (by decide +kernel) ⟨Nat.le_of_ble_eq_true rfl, Nat.le_of_ble_eq_true rfl⟩) 4 (ci := 12) (T := TX9) (N := 2) rfl rfl rfl hl.1 rfl (Nat.le_of_ble_eq_true rfl) dX9_putNumber_24 ⟨Nat.le_of_ble_eq_true rfl, Nat.le_of_ble_eq_true rfl⟩ (fun _ _ _ _ _ _ _ _ hp _ _ _ _ => hp.elim) (fun g33 l34 a35 b36 H locs hp37 hw => ?_)
          obtain ⟨h38, rfl, h40, rfl, h42⟩ := hp37
          refine lv_iload_n hx hb dX9_putNumber_27 rfl (lv_at hl 1 rfl) ?_
          refine lv_bipush (v := 7) hx hb dX9_putNumber_28 (by decide) ?_
          refine lv_iushr hx hb dX9_putNumber_30 rfl (jx_nm fun z43 hz43 => ?_)
          refine lv_istore_n (lv' := [(2, .int z43), (0, .ref (ad 4)), (3, .int x3)]) hx hb dX9_putNumber_31 rfl hl (by decide) rfl (fun ls hl => ?_)
          obtain ⟨z44, hz44⟩ : ∃ z : Int32, x3 + 1 = z := ⟨_, rfl⟩
          refine lv_iinc (v := z44) (lv' := [(3, .int z44), (2, .int z43), (0, .ref (ad 4))]) hx hb dX9_putNumber_32 hl (k := 2) rfl hz44 (by decide) rfl (fun ls hl => ?_)
          have xz44 : (z44).toInt = (x3).toInt + ((1 : Int32)).toInt := (hE_imp (hE_add hz44) (ob19 ((x3).toInt) (((1 : Int32)).toInt) (k6 : Int) (((4 : Int32)).toInt) hf_B1_0 hrk_B1 (hE_nle cc24) (hE_rng (x3)) (by decide) (by decide)))
          refine lv_goto (tgt := 4) hx hb dX9_putNumber_35 (by decide) ?_
          exact ih_B1 z43 z44 g33 a35 ls _ _ (ob20 ((z44).toInt) (k6 : Int) ((x3).toInt) (((1 : Int32)).toInt) (((4 : Int32)).toInt) hrk_B1 xz44 hf_B1_0 (hE_nle cc24) (hE_rng (z44)) (hE_rng (x3)) (by decide) (by decide)) (ob21 ((z44).toInt) ((x3).toInt) (((1 : Int32)).toInt) (k6 : Int) (((4 : Int32)).toInt) xz44 hf_B1_0 hrk_B1 (hE_nle cc24) (hE_rng (z44)) (hE_rng (x3)) (by decide) (by decide)) (hk_frT hfr_g4 (by decide) h38) (hk_frT hfr_a5 (by decide) h40) hw (lv_sub hl [2, 1, 0] rfl)
  exact B1 (2147483648 - ((0 : Int32)).toInt).toNat y1 0 g ar ls _ _ (Int.self_le_toNat _) (ob9 (((0 : Int32)).toInt) (by decide)) hk_fr0 hk_fr0 hw (lv_sub hl [2, 1, 0] rfl)

set_option maxHeartbeats 4000000 in
set_option maxRecDepth 100000 in
/-- X9_putNumber on (29,) -/
theorem jx_X9_putNumber_29 (l : Launch) (hlt : l.stackTraces = false) (D : va_G) (t3 : Nat × Nat × Nat) (cI cJ : ClassId) (ad : Nat → Nat) (g : Nat → Int32) (lg : Nat → Int64) (ar : Nat → Nat → Int32) (bk : Nat → Int64) (sz : Nat) (y1 : Int32) : JMv l yX9_putNumber (Cond.code yX9_putNumber cX9_putNumber 4 none :: wwX) { frames := 2, cells := 1, slots := 6, locals := 43 } t3 D xw cI cJ ad [.ref (ad 29), .int y1] (xw cI cJ ad g lg ar bk) sz 1 6 (fun g' lg' ar' bk' => hk_fr [53] g g' ∧ lg = lg' ∧ hk_fr [15] ar ar' ∧ bk = bk') (fun g' lg' ar' bk' => False) := by
  refine jx_metv (cc := cX9_putNumber) (maxL := 4) (ret := none) rfl (by decide) rfl (Nat.le_of_ble_eq_true rfl) ?_
  intro p e s m args below meth c ls Q A hx hb hml hown hts hA hZ hw hl hQ kr kt
  have hq : ∀ w ∈ wwX, w.before args s = true := fun w h => hts w (List.mem_cons_of_mem _ h)
  have hl : lv_has ls 4 [(0, .ref (ad 29)), (1, .int y1)] := hl
  refine lv_iload_n hx hb dX9_putNumber_0 rfl (lv_at hl 1 rfl) ?_
  refine lv_istore_n (lv' := [(2, .int y1), (0, .ref (ad 29)), (1, .int y1)]) hx hb dX9_putNumber_1 rfl hl (by decide) rfl (fun ls hl => ?_)
  refine lv_iconst (v := 0) hx hb dX9_putNumber_2 (by decide) ?_
  refine lv_istore_n (lv' := [(3, .int 0), (2, .int y1), (0, .ref (ad 29)), (1, .int y1)]) hx hb dX9_putNumber_3 rfl hl (by decide) rfl (fun ls hl => ?_)
  have B1 : ∀ (k6 : Nat) (x2 : Int32) (x3 : Int32) (g4 : Nat → Int32) (a5 : Nat → Nat → Int32) (ls : Array Slot) (H : Heap) (locs : List Loc), (2147483648 - (x3).toInt ≤ (k6 : Int)) → (0 ≤ (x3).toInt) → (hk_fr [53] g g4) → (hk_fr [15] ar a5) → hk_W D (jT cI cJ) A s H locs (xw cI cJ ad g4 lg a5 bk) → lv_has ls 4 [(0, .ref (ad 29)), (2, .int x2), (3, .int x3)] → W p l e { frames := 2, cells := 1, slots := 6, locals := 43 } s m args below meth c H locs 0 0 Q (F0 m 4 ls []) := by
    intro k6
    induction k6 with
    | zero =>
      intro x2 x3 g4 a5 ls H locs hrk_B1 hf_B1_0 hfr_g4 hfr_a5 hw hl
      exact False.elim (hk_no0 (0 * (x3).toInt) (ob5 ((x3).toInt) hf_B1_0 hrk_B1 (hE_rng (x3))) (by simp))
    | succ k6 ih_B1 =>
      intro x2 x3 g4 a5 ls H locs hrk_B1 hf_B1_0 hfr_g4 hfr_a5 hw hl
      have hrk_B1 := hk_rk hrk_B1
      refine lv_iload_n hx hb dX9_putNumber_4 rfl (lv_at hl 2 rfl) ?_
      refine lv_iconst (v := 4) hx hb dX9_putNumber_5 (by decide) ?_
      have B7 : ∀  (ls : Array Slot) (H : Heap) (locs : List Loc), hk_W D (jT cI cJ) A s H locs (xw cI cJ ad g4 lg a5 bk) → lv_has ls 4 [(0, .ref (ad 29)), (2, .int x2)] → W p l e { frames := 2, cells := 1, slots := 6, locals := 43 } s m args below meth c H locs 0 0 Q (F0 m 38 ls []) := by
        intro ls H locs hw hl
        refine lv_aload_n hx hb dX9_putNumber_38 rfl (lv_at hl 0 rfl) ?_
        refine lv_iload_n hx hb dX9_putNumber_39 rfl (lv_at hl 1 rfl) ?_
        refine lv_bipush (v := 127) hx hb dX9_putNumber_40 (by decide) ?_
        refine lv_iand hx hb dX9_putNumber_42 (jx_nm fun z8 hz8 => ?_)
        refine jx_Vv (As := [.int z8]) (rest := []) ⟨hx, hb, hml, hown, hts⟩ hZ hw hA (jx_X9_put_29 l hlt D t3 cI cJ ad g4 lg a5 bk _ z8) (cwV 1 hts (jx_gV wwX_good wX_701 wX_112 wX_113 wX_24 wX_114) rfl rfl rfl (by decide +kernel) ⟨Nat.le_of_ble_eq_true rfl, Nat.le_of_ble_eq_true rfl⟩) 29 (ci := 12) (T := TX9) (N := 2) rfl rfl rfl hl.1 rfl (Nat.le_of_ble_eq_true rfl) dX9_putNumber_43 ⟨Nat.le_of_ble_eq_true rfl, Nat.le_of_ble_eq_true rfl⟩ (fun _ _ _ _ _ _ _ _ hp _ _ _ _ => hp.elim) (fun g14 l15 a16 b17 H locs hp18 hw => ?_)
        obtain ⟨h19, rfl, h21, rfl, h23⟩ := hp18
        exact kr g14 lg a16 bk _ _ _ _ ⟨(hk_frT hfr_g4 (by decide) h19), rfl, (hk_frT hfr_a5 (by decide) h21), rfl⟩ hw dX9_putNumber_46
      refine lv_icmp_ge (tgt := 38) hx hb dX9_putNumber_6 (by decide) (fun cc24 => ?_) (fun cc24 => ?_)
      · exact B7 ls _ _ hw (lv_sub hl [0, 1] rfl)
      · refine lv_iload_n hx hb dX9_putNumber_9 rfl (lv_at hl 1 rfl) ?_
        refine lv_bipush (v := 127) hx hb dX9_putNumber_10 (by decide) ?_
        refine lv_icmp_le (tgt := 38) hx hb dX9_putNumber_12 (by decide) (fun cc25 => ?_) (fun cc25 => ?_)
        · exact B7 ls _ _ hw (lv_sub hl [0, 1] rfl)
        · refine lv_aload_n hx hb dX9_putNumber_15 rfl (lv_at hl 0 rfl) ?_
          refine lv_iload_n hx hb dX9_putNumber_16 rfl (lv_at hl 1 rfl) ?_
          refine lv_bipush (v := 127) hx hb dX9_putNumber_17 (by decide) ?_
          refine lv_iand hx hb dX9_putNumber_19 (jx_nm fun z26 hz26 => ?_)
          refine lv_sipush (v := 128) hx hb dX9_putNumber_20 (by decide) ?_
          refine lv_ior hx hb dX9_putNumber_23 (jx_nm fun z27 hz27 => ?_)
          refine jx_Vv (As := [.int z27]) (rest := []) ⟨hx, hb, hml, hown, hts⟩ hZ hw hA (jx_X9_put_29 l hlt D t3 cI cJ ad g4 lg a5 bk _ z27) (cwV 1 hts (jx_gV wwX_good wX_701 wX_112 wX_113 wX_24 wX_114) rfl rfl rfl (by decide +kernel) ⟨Nat.le_of_ble_eq_true rfl, Nat.le_of_ble_eq_true rfl⟩) 29 (ci := 12) (T := TX9) (N := 2) rfl rfl rfl hl.1 rfl (Nat.le_of_ble_eq_true rfl) dX9_putNumber_24 ⟨Nat.le_of_ble_eq_true rfl, Nat.le_of_ble_eq_true rfl⟩ (fun _ _ _ _ _ _ _ _ hp _ _ _ _ => hp.elim) (fun g33 l34 a35 b36 H locs hp37 hw => ?_)
          obtain ⟨h38, rfl, h40, rfl, h42⟩ := hp37
          refine lv_iload_n hx hb dX9_putNumber_27 rfl (lv_at hl 1 rfl) ?_
          refine lv_bipush (v := 7) hx hb dX9_putNumber_28 (by decide) ?_
          refine lv_iushr hx hb dX9_putNumber_30 rfl (jx_nm fun z43 hz43 => ?_)
          refine lv_istore_n (lv' := [(2, .int z43), (0, .ref (ad 29)), (3, .int x3)]) hx hb dX9_putNumber_31 rfl hl (by decide) rfl (fun ls hl => ?_)
          obtain ⟨z44, hz44⟩ : ∃ z : Int32, x3 + 1 = z := ⟨_, rfl⟩
          refine lv_iinc (v := z44) (lv' := [(3, .int z44), (2, .int z43), (0, .ref (ad 29))]) hx hb dX9_putNumber_32 hl (k := 2) rfl hz44 (by decide) rfl (fun ls hl => ?_)
          have xz44 : (z44).toInt = (x3).toInt + ((1 : Int32)).toInt := (hE_imp (hE_add hz44) (ob19 ((x3).toInt) (((1 : Int32)).toInt) (k6 : Int) (((4 : Int32)).toInt) hf_B1_0 hrk_B1 (hE_nle cc24) (hE_rng (x3)) (by decide) (by decide)))
          refine lv_goto (tgt := 4) hx hb dX9_putNumber_35 (by decide) ?_
          exact ih_B1 z43 z44 g33 a35 ls _ _ (ob20 ((z44).toInt) (k6 : Int) ((x3).toInt) (((1 : Int32)).toInt) (((4 : Int32)).toInt) hrk_B1 xz44 hf_B1_0 (hE_nle cc24) (hE_rng (z44)) (hE_rng (x3)) (by decide) (by decide)) (ob21 ((z44).toInt) ((x3).toInt) (((1 : Int32)).toInt) (k6 : Int) (((4 : Int32)).toInt) xz44 hf_B1_0 hrk_B1 (hE_nle cc24) (hE_rng (z44)) (hE_rng (x3)) (by decide) (by decide)) (hk_frT hfr_g4 (by decide) h38) (hk_frT hfr_a5 (by decide) h40) hw (lv_sub hl [2, 1, 0] rfl)
  exact B1 (2147483648 - ((0 : Int32)).toInt).toNat y1 0 g ar ls _ _ (Int.self_le_toNat _) (ob9 (((0 : Int32)).toInt) (by decide)) hk_fr0 hk_fr0 hw (lv_sub hl [2, 1, 0] rfl)

set_option maxHeartbeats 4000000 in
set_option maxRecDepth 100000 in
/-- X9_putZeros on (4,) -/
theorem jx_X9_putZeros_4 (l : Launch) (hlt : l.stackTraces = false) (D : va_G) (t3 : Nat × Nat × Nat) (cI cJ : ClassId) (ad : Nat → Nat) (g : Nat → Int32) (lg : Nat → Int64) (ar : Nat → Nat → Int32) (bk : Nat → Int64) (sz : Nat) (y1 : Int32) : JMv l yX9_putZeros (Cond.code yX9_putZeros cX9_putZeros 3 none :: wwX) { frames := 2, cells := 1, slots := 6, locals := 43 } t3 D xw cI cJ ad [.ref (ad 4), .int y1] (xw cI cJ ad g lg ar bk) sz 1 6 (fun g' lg' ar' bk' => hk_fr [14] g g' ∧ lg = lg' ∧ hk_fr [1] ar ar' ∧ bk = bk') (fun g' lg' ar' bk' => False) := by
  refine jx_metv (cc := cX9_putZeros) (maxL := 3) (ret := none) rfl (by decide) rfl (Nat.le_of_ble_eq_true rfl) ?_
  intro p e s m args below meth c ls Q A hx hb hml hown hts hA hZ hw hl hQ kr kt
  have hq : ∀ w ∈ wwX, w.before args s = true := fun w h => hts w (List.mem_cons_of_mem _ h)
  have hl : lv_has ls 3 [(0, .ref (ad 4)), (1, .int y1)] := hl
  refine lv_iconst (v := 0) hx hb dX9_putZeros_0 (by decide) ?_
  refine lv_istore_n (lv' := [(2, .int 0), (0, .ref (ad 4)), (1, .int y1)]) hx hb dX9_putZeros_1 rfl hl (by decide) rfl (fun ls hl => ?_)
  have B1 : ∀ (k5 : Nat) (x2 : Int32) (g3 : Nat → Int32) (a4 : Nat → Nat → Int32) (ls : Array Slot) (H : Heap) (locs : List Loc), (2147483648 - (x2).toInt ≤ (k5 : Int)) → (0 ≤ (x2).toInt) → (hk_fr [14] g g3) → (hk_fr [1] ar a4) → hk_W D (jT cI cJ) A s H locs (xw cI cJ ad g3 lg a4 bk) → lv_has ls 3 [(0, .ref (ad 4)), (1, .int y1), (2, .int x2)] → W p l e { frames := 2, cells := 1, slots := 6, locals := 43 } s m args below meth c H locs 0 0 Q (F0 m 2 ls []) := by
    intro k5
    induction k5 with
    | zero =>
      intro x2 g3 a4 ls H locs hrk_B1 hf_B1_0 hfr_g3 hfr_a4 hw hl
      exact False.elim (hk_no0 (0 * (x2).toInt) (ob5 ((x2).toInt) hf_B1_0 hrk_B1 (hE_rng (x2))) (by simp))
    | succ k5 ih_B1 =>
      intro x2 g3 a4 ls H locs hrk_B1 hf_B1_0 hfr_g3 hfr_a4 hw hl
      have hrk_B1 := hk_rk hrk_B1
      refine lv_iload_n hx hb dX9_putZeros_2 rfl (lv_at hl 2 rfl) ?_
      refine lv_iconst (v := 3) hx hb dX9_putZeros_3 (by decide) ?_
      refine lv_icmp_ge (tgt := 29) hx hb dX9_putZeros_4 (by decide) (fun cc6 => ?_) (fun cc6 => ?_)
      · exact kr g3 lg a4 bk _ _ _ _ ⟨hfr_g3, rfl, hfr_a4, rfl⟩ hw dX9_putZeros_29
      · refine lv_aload_n hx hb dX9_putZeros_7 rfl (lv_at hl 0 rfl) ?_
        refine hk_get (ci := 12) (C := RX9) (T := TX9) (N := 2) (v := .int (g3 14)) hx hb hts (fun _ h => List.mem_cons_of_mem _ (wwXc_wsX90 _ h)) hown hw 4 rfl rfl 1 (by decide) (hq _ wX_700) rfl dX9_putZeros_8 ?_
        refine lv_iload_n hx hb dX9_putZeros_11 rfl (lv_at hl 1 rfl) ?_
        refine lv_isub hx hb dX9_putZeros_12 (jx_nm fun z7 hz7 => ?_)
        refine lv_iconst (v := 3) hx hb dX9_putZeros_13 (by decide) ?_
        refine lv_iand hx hb dX9_putZeros_14 (jx_nm fun z8 hz8 => ?_)
        refine lv_if_eq (tgt := 29) hx hb dX9_putZeros_15 (by decide) (fun cc9 => ?_) (fun cc9 => ?_)
        · exact kr g3 lg a4 bk _ _ _ _ ⟨hfr_g3, rfl, hfr_a4, rfl⟩ hw dX9_putZeros_29
        · refine lv_aload_n hx hb dX9_putZeros_18 rfl (lv_at hl 0 rfl) ?_
          refine lv_iconst (v := 0) hx hb dX9_putZeros_19 (by decide) ?_
          refine jx_Vv (As := [.int 0]) (rest := []) ⟨hx, hb, hml, hown, hts⟩ hZ hw hA (jx_X9_put_4 l hlt D t3 cI cJ ad g3 lg a4 bk _ 0) (cwV 1 hts (jx_gV wwX_good wX_701 wX_112 wX_113 wX_24 wX_114) rfl rfl rfl (by decide +kernel) ⟨Nat.le_of_ble_eq_true rfl, Nat.le_of_ble_eq_true rfl⟩) 4 (ci := 12) (T := TX9) (N := 2) rfl rfl rfl hl.1 rfl (Nat.le_of_ble_eq_true rfl) dX9_putZeros_20 ⟨Nat.le_of_ble_eq_true rfl, Nat.le_of_ble_eq_true rfl⟩ (fun _ _ _ _ _ _ _ _ hp _ _ _ _ => hp.elim) (fun g15 l16 a17 b18 H locs hp19 hw => ?_)
          obtain ⟨h20, rfl, h22, rfl, h24⟩ := hp19
          obtain ⟨z25, hz25⟩ : ∃ z : Int32, x2 + 1 = z := ⟨_, rfl⟩
          refine lv_iinc (v := z25) (lv' := [(2, .int z25), (0, .ref (ad 4)), (1, .int y1)]) hx hb dX9_putZeros_23 hl (k := 2) rfl hz25 (by decide) rfl (fun ls hl => ?_)
          have xz25 : (z25).toInt = (x2).toInt + ((1 : Int32)).toInt := (hE_imp (hE_add hz25) (ob22 ((x2).toInt) (((1 : Int32)).toInt) (k5 : Int) (((3 : Int32)).toInt) hf_B1_0 hrk_B1 (hE_nle cc6) (hE_rng (x2)) (by decide) (by decide)))
          refine lv_goto (tgt := 2) hx hb dX9_putZeros_26 (by decide) ?_
          exact ih_B1 z25 g15 a17 ls _ _ (ob23 ((z25).toInt) (k5 : Int) ((x2).toInt) (((1 : Int32)).toInt) (((3 : Int32)).toInt) hrk_B1 xz25 hf_B1_0 (hE_nle cc6) (hE_rng (z25)) (hE_rng (x2)) (by decide) (by decide)) (ob24 ((z25).toInt) ((x2).toInt) (((1 : Int32)).toInt) (k5 : Int) (((3 : Int32)).toInt) xz25 hf_B1_0 hrk_B1 (hE_nle cc6) (hE_rng (z25)) (hE_rng (x2)) (by decide) (by decide)) (hk_frT hfr_g3 (by decide) h20) (hk_frT hfr_a4 (by decide) h22) hw (lv_sub hl [1, 2, 0] rfl)
  exact B1 (2147483648 - ((0 : Int32)).toInt).toNat 0 g ar ls _ _ (Int.self_le_toNat _) (ob9 (((0 : Int32)).toInt) (by decide)) hk_fr0 hk_fr0 hw (lv_sub hl [1, 2, 0] rfl)

set_option maxHeartbeats 4000000 in
set_option maxRecDepth 100000 in
/-- X9_putZeros on (29,) -/
theorem jx_X9_putZeros_29 (l : Launch) (hlt : l.stackTraces = false) (D : va_G) (t3 : Nat × Nat × Nat) (cI cJ : ClassId) (ad : Nat → Nat) (g : Nat → Int32) (lg : Nat → Int64) (ar : Nat → Nat → Int32) (bk : Nat → Int64) (sz : Nat) (y1 : Int32) : JMv l yX9_putZeros (Cond.code yX9_putZeros cX9_putZeros 3 none :: wwX) { frames := 2, cells := 1, slots := 6, locals := 43 } t3 D xw cI cJ ad [.ref (ad 29), .int y1] (xw cI cJ ad g lg ar bk) sz 1 6 (fun g' lg' ar' bk' => hk_fr [53] g g' ∧ lg = lg' ∧ hk_fr [15] ar ar' ∧ bk = bk') (fun g' lg' ar' bk' => False) := by
  refine jx_metv (cc := cX9_putZeros) (maxL := 3) (ret := none) rfl (by decide) rfl (Nat.le_of_ble_eq_true rfl) ?_
  intro p e s m args below meth c ls Q A hx hb hml hown hts hA hZ hw hl hQ kr kt
  have hq : ∀ w ∈ wwX, w.before args s = true := fun w h => hts w (List.mem_cons_of_mem _ h)
  have hl : lv_has ls 3 [(0, .ref (ad 29)), (1, .int y1)] := hl
  refine lv_iconst (v := 0) hx hb dX9_putZeros_0 (by decide) ?_
  refine lv_istore_n (lv' := [(2, .int 0), (0, .ref (ad 29)), (1, .int y1)]) hx hb dX9_putZeros_1 rfl hl (by decide) rfl (fun ls hl => ?_)
  have B1 : ∀ (k5 : Nat) (x2 : Int32) (g3 : Nat → Int32) (a4 : Nat → Nat → Int32) (ls : Array Slot) (H : Heap) (locs : List Loc), (2147483648 - (x2).toInt ≤ (k5 : Int)) → (0 ≤ (x2).toInt) → (hk_fr [53] g g3) → (hk_fr [15] ar a4) → hk_W D (jT cI cJ) A s H locs (xw cI cJ ad g3 lg a4 bk) → lv_has ls 3 [(0, .ref (ad 29)), (1, .int y1), (2, .int x2)] → W p l e { frames := 2, cells := 1, slots := 6, locals := 43 } s m args below meth c H locs 0 0 Q (F0 m 2 ls []) := by
    intro k5
    induction k5 with
    | zero =>
      intro x2 g3 a4 ls H locs hrk_B1 hf_B1_0 hfr_g3 hfr_a4 hw hl
      exact False.elim (hk_no0 (0 * (x2).toInt) (ob5 ((x2).toInt) hf_B1_0 hrk_B1 (hE_rng (x2))) (by simp))
    | succ k5 ih_B1 =>
      intro x2 g3 a4 ls H locs hrk_B1 hf_B1_0 hfr_g3 hfr_a4 hw hl
      have hrk_B1 := hk_rk hrk_B1
      refine lv_iload_n hx hb dX9_putZeros_2 rfl (lv_at hl 2 rfl) ?_
      refine lv_iconst (v := 3) hx hb dX9_putZeros_3 (by decide) ?_
      refine lv_icmp_ge (tgt := 29) hx hb dX9_putZeros_4 (by decide) (fun cc6 => ?_) (fun cc6 => ?_)
      · exact kr g3 lg a4 bk _ _ _ _ ⟨hfr_g3, rfl, hfr_a4, rfl⟩ hw dX9_putZeros_29
      · refine lv_aload_n hx hb dX9_putZeros_7 rfl (lv_at hl 0 rfl) ?_
        refine hk_get (ci := 12) (C := RX9) (T := TX9) (N := 2) (v := .int (g3 53)) hx hb hts (fun _ h => List.mem_cons_of_mem _ (wwXc_wsX90 _ h)) hown hw 29 rfl rfl 1 (by decide) (hq _ wX_700) rfl dX9_putZeros_8 ?_
        refine lv_iload_n hx hb dX9_putZeros_11 rfl (lv_at hl 1 rfl) ?_
        refine lv_isub hx hb dX9_putZeros_12 (jx_nm fun z7 hz7 => ?_)
        refine lv_iconst (v := 3) hx hb dX9_putZeros_13 (by decide) ?_
        refine lv_iand hx hb dX9_putZeros_14 (jx_nm fun z8 hz8 => ?_)
        refine lv_if_eq (tgt := 29) hx hb dX9_putZeros_15 (by decide) (fun cc9 => ?_) (fun cc9 => ?_)
        · exact kr g3 lg a4 bk _ _ _ _ ⟨hfr_g3, rfl, hfr_a4, rfl⟩ hw dX9_putZeros_29
        · refine lv_aload_n hx hb dX9_putZeros_18 rfl (lv_at hl 0 rfl) ?_
          refine lv_iconst (v := 0) hx hb dX9_putZeros_19 (by decide) ?_
          refine jx_Vv (As := [.int 0]) (rest := []) ⟨hx, hb, hml, hown, hts⟩ hZ hw hA (jx_X9_put_29 l hlt D t3 cI cJ ad g3 lg a4 bk _ 0) (cwV 1 hts (jx_gV wwX_good wX_701 wX_112 wX_113 wX_24 wX_114) rfl rfl rfl (by decide +kernel) ⟨Nat.le_of_ble_eq_true rfl, Nat.le_of_ble_eq_true rfl⟩) 29 (ci := 12) (T := TX9) (N := 2) rfl rfl rfl hl.1 rfl (Nat.le_of_ble_eq_true rfl) dX9_putZeros_20 ⟨Nat.le_of_ble_eq_true rfl, Nat.le_of_ble_eq_true rfl⟩ (fun _ _ _ _ _ _ _ _ hp _ _ _ _ => hp.elim) (fun g15 l16 a17 b18 H locs hp19 hw => ?_)
          obtain ⟨h20, rfl, h22, rfl, h24⟩ := hp19
          obtain ⟨z25, hz25⟩ : ∃ z : Int32, x2 + 1 = z := ⟨_, rfl⟩
          refine lv_iinc (v := z25) (lv' := [(2, .int z25), (0, .ref (ad 29)), (1, .int y1)]) hx hb dX9_putZeros_23 hl (k := 2) rfl hz25 (by decide) rfl (fun ls hl => ?_)
          have xz25 : (z25).toInt = (x2).toInt + ((1 : Int32)).toInt := (hE_imp (hE_add hz25) (ob22 ((x2).toInt) (((1 : Int32)).toInt) (k5 : Int) (((3 : Int32)).toInt) hf_B1_0 hrk_B1 (hE_nle cc6) (hE_rng (x2)) (by decide) (by decide)))
          refine lv_goto (tgt := 2) hx hb dX9_putZeros_26 (by decide) ?_
          exact ih_B1 z25 g15 a17 ls _ _ (ob23 ((z25).toInt) (k5 : Int) ((x2).toInt) (((1 : Int32)).toInt) (((3 : Int32)).toInt) hrk_B1 xz25 hf_B1_0 (hE_nle cc6) (hE_rng (z25)) (hE_rng (x2)) (by decide) (by decide)) (ob24 ((z25).toInt) ((x2).toInt) (((1 : Int32)).toInt) (k5 : Int) (((3 : Int32)).toInt) xz25 hf_B1_0 hrk_B1 (hE_nle cc6) (hE_rng (z25)) (hE_rng (x2)) (by decide) (by decide)) (hk_frT hfr_g3 (by decide) h20) (hk_frT hfr_a4 (by decide) h22) hw (lv_sub hl [1, 2, 0] rfl)
  exact B1 (2147483648 - ((0 : Int32)).toInt).toNat 0 g ar ls _ _ (Int.self_le_toNat _) (ob9 (((0 : Int32)).toInt) (by decide)) hk_fr0 hk_fr0 hw (lv_sub hl [1, 2, 0] rfl)

set_option maxHeartbeats 4000000 in
set_option maxRecDepth 100000 in
/-- X9_delta on (2,) -/
theorem jx_X9_delta_2 (l : Launch) (hlt : l.stackTraces = false) (D : va_G) (t3 : Nat × Nat × Nat) (cI cJ : ClassId) (ad : Nat → Nat) (g : Nat → Int32) (lg : Nat → Int64) (ar : Nat → Nat → Int32) (bk : Nat → Int64) (sz : Nat) (y1 : Int32) (y2 : Int32) (y3 : Int32) (y4 : Int32) (hi_a0rg : hk_rg 0 255 (ar 0)) : JMv l yX9_delta (Cond.code yX9_delta cX9_delta 9 none :: wwX) { frames := 1, cells := 1, slots := 6, locals := 22 } t3 D xw cI cJ ad [.ref (ad 2), .int y1, .int y2, .int y3, .int y4] (xw cI cJ ad g lg ar bk) sz 1 6 (fun g' lg' ar' bk' => g = g' ∧ lg = lg' ∧ hk_fr [0] ar ar' ∧ bk = bk' ∧ hk_rg 0 255 (ar' 0)) (fun g' lg' ar' bk' => False) := by
  refine jx_metv (cc := cX9_delta) (maxL := 9) (ret := none) rfl (by decide) rfl (Nat.le_of_ble_eq_true rfl) ?_
  intro p e s m args below meth c ls Q A hx hb hml hown hts hA hZ hw hl hQ kr kt
  have hq : ∀ w ∈ wwX, w.before args s = true := fun w h => hts w (List.mem_cons_of_mem _ h)
  have hl : lv_has ls 9 [(0, .ref (ad 2)), (1, .int y1), (2, .int y2), (3, .int y3), (4, .int y4)] := hl
  refine lv_iload_n hx hb dX9_delta_0 rfl (lv_at hl 2 rfl) ?_
  refine lv_iload_n hx hb dX9_delta_1 rfl (lv_at hl 1 rfl) ?_
  refine lv_isub hx hb dX9_delta_2 (jx_nm fun z1 hz1 => ?_)
  refine lv_iload_n hx hb dX9_delta_3 rfl (lv_at hl 3 rfl) ?_
  refine lv_isub hx hb dX9_delta_4 (jx_nm fun z2 hz2 => ?_)
  refine lv_istore (lv' := [(5, .int z2), (0, .ref (ad 2)), (1, .int y1), (2, .int y2), (3, .int y3), (4, .int y4)]) hx hb dX9_delta_5 hl (by decide) rfl (fun ls hl => ?_)
  refine lv_iconst (v := 0) hx hb dX9_delta_7 (by decide) ?_
  refine lv_istore (lv' := [(6, .int 0), (5, .int z2), (0, .ref (ad 2)), (1, .int y1), (2, .int y2), (3, .int y3), (4, .int y4)]) hx hb dX9_delta_8 hl (by decide) rfl (fun ls hl => ?_)
  have B3 : ∀ (k6 : Nat) (x4 : Int32) (a5 : Nat → Nat → Int32) (ls : Array Slot) (H : Heap) (locs : List Loc), (2147483648 - (x4).toInt ≤ (k6 : Int)) → (0 ≤ (x4).toInt) → (hk_fr [0] ar a5) → (hk_rg 0 255 (a5 0)) → hk_W D (jT cI cJ) A s H locs (xw cI cJ ad g lg a5 bk) → lv_has ls 9 [(0, .ref (ad 2)), (1, .int y1), (2, .int y2), (3, .int y3), (4, .int y4), (5, .int z2), (6, .int x4)] → W p l e { frames := 1, cells := 1, slots := 6, locals := 22 } s m args below meth c H locs 0 0 Q (F0 m 10 ls []) := by
    intro k6
    induction k6 with
    | zero =>
      intro x4 a5 ls H locs hrk_B3 hf_B3_0 hfr_a5 ha5_r0rg hw hl
      exact False.elim (hk_no0 (0 * (x4).toInt) (ob5 ((x4).toInt) hf_B3_0 hrk_B3 (hE_rng (x4))) (by simp))
    | succ k6 ih_B3 =>
      intro x4 a5 ls H locs hrk_B3 hf_B3_0 hfr_a5 ha5_r0rg hw hl
      have hrk_B3 := hk_rk hrk_B3
      refine lv_iload hx hb dX9_delta_10 (lv_at hl 6 rfl) ?_
      refine lv_iload hx hb dX9_delta_12 (lv_at hl 5 rfl) ?_
      refine lv_icmp_ge (tgt := 87) hx hb dX9_delta_14 (by decide) (fun cc7 => ?_) (fun cc7 => ?_)
      · exact kr g lg a5 bk _ _ _ _ ⟨rfl, rfl, hfr_a5, rfl, ha5_r0rg⟩ hw dX9_delta_87
      · refine lv_iload hx hb dX9_delta_17 (lv_at hl 4 rfl) ?_
        have B8 : ∀  (x9 : Int32) (ls : Array Slot) (H : Heap) (locs : List Loc), hk_W D (jT cI cJ) A s H locs (xw cI cJ ad g lg a5 bk) → lv_has ls 9 [(0, .ref (ad 2)), (1, .int y1), (2, .int y2), (3, .int y3), (4, .int y4), (5, .int z2), (6, .int x4)] → W p l e { frames := 1, cells := 1, slots := 6, locals := 22 } s m args below meth c H locs 0 0 Q (F0 m 37 ls [.int x9]) := by
          intro x9 ls H locs hw hl
          refine lv_istore (lv' := [(7, .int x9), (0, .ref (ad 2)), (1, .int y1), (2, .int y2), (3, .int y3), (4, .int y4), (5, .int z2), (6, .int x4)]) hx hb dX9_delta_37 hl (by decide) rfl (fun ls hl => ?_)
          refine lv_aload_n hx hb dX9_delta_39 rfl (lv_at hl 1 rfl) ?_
          refine lv_iload hx hb dX9_delta_40 (lv_at hl 0 rfl) ?_
          refine lv_iload_n hx hb dX9_delta_42 rfl (lv_at hl 4 rfl) ?_
          refine lv_isub hx hb dX9_delta_43 (jx_nm fun z10 hz10 => ?_)
          refine jx_Vi (As := [.int z10]) (rest := []) ⟨hx, hb, hml, hown, hts⟩ hZ hw hA (jx_X9_get_2 l hlt D t3 cI cJ ad g lg a5 bk _ z10) (cwV 1 hts (jx_gV wwX_good wX_697 wX_22 wX_23 wX_24 wX_25) rfl rfl rfl (by decide +kernel) ⟨Nat.le_of_ble_eq_true rfl, Nat.le_of_ble_eq_true rfl⟩) 2 (ci := 12) (T := TX9) (N := 2) rfl rfl rfl hl.1 rfl (Nat.le_of_ble_eq_true rfl) dX9_delta_44 ⟨Nat.le_of_ble_eq_true rfl, Nat.le_of_ble_eq_true rfl⟩ (fun _ _ _ _ _ _ _ _ hp _ _ _ _ => hp.elim) (fun r15 g16 l17 a18 b19 H locs hp20 hw => ?_)
          obtain ⟨rfl, rfl, rfl, rfl⟩ := hp20
          refine lv_istore (lv' := [(8, .int r15), (7, .int x9), (0, .ref (ad 2)), (1, .int y1), (2, .int y2), (3, .int y3), (4, .int y4), (5, .int z2), (6, .int x4)]) hx hb dX9_delta_47 hl (by decide) rfl (fun ls hl => ?_)
          refine lv_aload_n hx hb dX9_delta_49 rfl (lv_at hl 2 rfl) ?_
          refine lv_iload hx hb dX9_delta_50 (lv_at hl 1 rfl) ?_
          refine lv_iload hx hb dX9_delta_52 (lv_at hl 6 rfl) ?_
          have B25 : ∀  (x26 : Int32) (ls : Array Slot) (H : Heap) (locs : List Loc), hk_W D (jT cI cJ) A s H locs (xw cI cJ ad g lg a5 bk) → lv_has ls 9 [(0, .ref (ad 2)), (1, .int y1), (2, .int y2), (3, .int y3), (4, .int y4), (5, .int z2), (6, .int x4)] → W p l e { frames := 1, cells := 1, slots := 6, locals := 22 } s m args below meth c H locs 0 0 Q (F0 m 78 ls [.int x26, .int x9, .ref (ad 2)]) := by
            intro x26 ls H locs hw hl
            refine jx_Vv (As := [.int x9, .int x26]) (rest := []) ⟨hx, hb, hml, hown, hts⟩ hZ hw hA (jx_X9_set_2 l hlt D t3 cI cJ ad g lg a5 bk _ x9 x26 ha5_r0rg) (cwV 2 hts (jx_gV wwX_good wX_698 wX_587 wX_588 wX_24 wX_589) rfl rfl rfl (by decide +kernel) ⟨Nat.le_of_ble_eq_true rfl, Nat.le_of_ble_eq_true rfl⟩) 2 (ci := 12) (T := TX9) (N := 2) rfl rfl rfl hl.1 rfl (Nat.le_of_ble_eq_true rfl) dX9_delta_78 ⟨Nat.le_of_ble_eq_true rfl, Nat.le_of_ble_eq_true rfl⟩ (fun _ _ _ _ _ _ _ _ hp _ _ _ _ => hp.elim) (fun g32 l33 a34 b35 H locs hp36 hw => ?_)
            obtain ⟨rfl, rfl, h39, rfl, h41⟩ := hp36
            obtain ⟨z42, hz42⟩ : ∃ z : Int32, x4 + 1 = z := ⟨_, rfl⟩
            refine lv_iinc (v := z42) (lv' := [(6, .int z42), (0, .ref (ad 2)), (1, .int y1), (2, .int y2), (3, .int y3), (4, .int y4), (5, .int z2)]) hx hb dX9_delta_81 hl (k := 6) rfl hz42 (by decide) rfl (fun ls hl => ?_)
            have xz42 : (z42).toInt = (x4).toInt + ((1 : Int32)).toInt := (hE_imp (hE_add hz42) (ob25 ((x4).toInt) (((1 : Int32)).toInt) (k6 : Int) ((z2).toInt) ((z1).toInt) ((y3).toInt) ((y2).toInt) ((y1).toInt) ((z10).toInt) ((x9).toInt) hf_B3_0 hrk_B3 (hE_nle cc7) (hE_sub hz2) (hE_sub hz1) (hE_sub hz10) (hE_rng (x4)) (by decide) (hE_rng (z2)) (hE_rng (z1)) (hE_rng (y3)) (hE_rng (y2)) (hE_rng (y1)) (hE_rng (z10)) (hE_rng (x9))))
            refine lv_goto (tgt := 10) hx hb dX9_delta_84 (by decide) ?_
            exact ih_B3 z42 a34 ls _ _ (ob26 ((z42).toInt) (k6 : Int) ((x4).toInt) (((1 : Int32)).toInt) ((z2).toInt) ((z1).toInt) ((y3).toInt) ((y2).toInt) ((y1).toInt) ((z10).toInt) ((x9).toInt) hrk_B3 xz42 hf_B3_0 (hE_nle cc7) (hE_sub hz2) (hE_sub hz1) (hE_sub hz10) (hE_rng (z42)) (hE_rng (x4)) (by decide) (hE_rng (z2)) (hE_rng (z1)) (hE_rng (y3)) (hE_rng (y2)) (hE_rng (y1)) (hE_rng (z10)) (hE_rng (x9))) (ob27 ((z42).toInt) ((x4).toInt) (((1 : Int32)).toInt) (k6 : Int) ((z2).toInt) ((z1).toInt) ((y3).toInt) ((y2).toInt) ((y1).toInt) ((z10).toInt) ((x9).toInt) xz42 hf_B3_0 hrk_B3 (hE_nle cc7) (hE_sub hz2) (hE_sub hz1) (hE_sub hz10) (hE_rng (z42)) (hE_rng (x4)) (by decide) (hE_rng (z2)) (hE_rng (z1)) (hE_rng (y3)) (hE_rng (y2)) (hE_rng (y1)) (hE_rng (z10)) (hE_rng (x9))) (hk_frT hfr_a5 (by decide) h39) h41 hw (lv_sub hl [1, 2, 3, 4, 5, 6, 0] rfl)
          refine lv_if_eq (tgt := 69) hx hb dX9_delta_54 (by decide) (fun cc43 => ?_) (fun cc43 => ?_)
          · refine lv_aload_n hx hb dX9_delta_69 rfl (lv_at hl 2 rfl) ?_
            refine lv_iload hx hb dX9_delta_70 (lv_at hl 1 rfl) ?_
            refine jx_Vi (As := [.int x9]) (rest := [.int x9, .ref (ad 2)]) ⟨hx, hb, hml, hown, hts⟩ hZ hw hA (jx_X9_get_2 l hlt D t3 cI cJ ad g lg a5 bk _ x9) (cwV 1 hts (jx_gV wwX_good wX_697 wX_22 wX_23 wX_24 wX_25) rfl rfl rfl (by decide +kernel) ⟨Nat.le_of_ble_eq_true rfl, Nat.le_of_ble_eq_true rfl⟩) 2 (ci := 12) (T := TX9) (N := 2) rfl rfl rfl hl.1 rfl (Nat.le_of_ble_eq_true rfl) dX9_delta_72 ⟨Nat.le_of_ble_eq_true rfl, Nat.le_of_ble_eq_true rfl⟩ (fun _ _ _ _ _ _ _ _ hp _ _ _ _ => hp.elim) (fun r48 g49 l50 a51 b52 H locs hp53 hw => ?_)
            obtain ⟨rfl, rfl, rfl, rfl⟩ := hp53
            refine lv_iload hx hb dX9_delta_75 (lv_at hl 0 rfl) ?_
            refine lv_isub hx hb dX9_delta_77 (jx_nm fun z58 hz58 => ?_)
            exact B25 z58 ls _ _ hw (lv_sub hl [2, 3, 4, 5, 6, 7, 8] rfl)
          · refine lv_aload_n hx hb dX9_delta_57 rfl (lv_at hl 2 rfl) ?_
            refine lv_iload hx hb dX9_delta_58 (lv_at hl 1 rfl) ?_
            refine jx_Vi (As := [.int x9]) (rest := [.int x9, .ref (ad 2)]) ⟨hx, hb, hml, hown, hts⟩ hZ hw hA (jx_X9_get_2 l hlt D t3 cI cJ ad g lg a5 bk _ x9) (cwV 1 hts (jx_gV wwX_good wX_697 wX_22 wX_23 wX_24 wX_25) rfl rfl rfl (by decide +kernel) ⟨Nat.le_of_ble_eq_true rfl, Nat.le_of_ble_eq_true rfl⟩) 2 (ci := 12) (T := TX9) (N := 2) rfl rfl rfl hl.1 rfl (Nat.le_of_ble_eq_true rfl) dX9_delta_60 ⟨Nat.le_of_ble_eq_true rfl, Nat.le_of_ble_eq_true rfl⟩ (fun _ _ _ _ _ _ _ _ hp _ _ _ _ => hp.elim) (fun r63 g64 l65 a66 b67 H locs hp68 hw => ?_)
            obtain ⟨rfl, rfl, rfl, rfl⟩ := hp68
            refine lv_iload hx hb dX9_delta_63 (lv_at hl 0 rfl) ?_
            refine lv_iadd hx hb dX9_delta_65 (jx_nm fun z73 hz73 => ?_)
            refine lv_goto (tgt := 78) hx hb dX9_delta_66 (by decide) ?_
            exact B25 z73 ls _ _ hw (lv_sub hl [2, 3, 4, 5, 6, 7, 8] rfl)
        refine lv_if_eq (tgt := 31) hx hb dX9_delta_19 (by decide) (fun cc74 => ?_) (fun cc74 => ?_)
        · refine lv_iload_n hx hb dX9_delta_31 rfl (lv_at hl 2 rfl) ?_
          refine lv_iconst (v := 1) hx hb dX9_delta_32 (by decide) ?_
          refine lv_isub hx hb dX9_delta_33 (jx_nm fun z75 hz75 => ?_)
          refine lv_iload hx hb dX9_delta_34 (lv_at hl 6 rfl) ?_
          refine lv_isub hx hb dX9_delta_36 (jx_nm fun z76 hz76 => ?_)
          exact B8 z76 ls _ _ hw (lv_sub hl [0, 1, 2, 3, 4, 5, 6] rfl)
        · refine lv_iload_n hx hb dX9_delta_22 rfl (lv_at hl 1 rfl) ?_
          refine lv_iload_n hx hb dX9_delta_23 rfl (lv_at hl 3 rfl) ?_
          refine lv_iadd hx hb dX9_delta_24 (jx_nm fun z77 hz77 => ?_)
          refine lv_iload hx hb dX9_delta_25 (lv_at hl 6 rfl) ?_
          refine lv_iadd hx hb dX9_delta_27 (jx_nm fun z78 hz78 => ?_)
          refine lv_goto (tgt := 37) hx hb dX9_delta_28 (by decide) ?_
          exact B8 z78 ls _ _ hw (lv_sub hl [0, 1, 2, 3, 4, 5, 6] rfl)
  exact B3 (2147483648 - ((0 : Int32)).toInt).toNat 0 ar ls _ _ (Int.self_le_toNat _) (ob9 (((0 : Int32)).toInt) (by decide)) hk_fr0 hi_a0rg hw (lv_sub hl [2, 3, 4, 5, 6, 1, 0] rfl)

set_option maxHeartbeats 4000000 in
set_option maxRecDepth 100000 in
/-- X9_delta on (4,) -/
theorem jx_X9_delta_4 (l : Launch) (hlt : l.stackTraces = false) (D : va_G) (t3 : Nat × Nat × Nat) (cI cJ : ClassId) (ad : Nat → Nat) (g : Nat → Int32) (lg : Nat → Int64) (ar : Nat → Nat → Int32) (bk : Nat → Int64) (sz : Nat) (y1 : Int32) (y2 : Int32) (y3 : Int32) (y4 : Int32) : JMv l yX9_delta (Cond.code yX9_delta cX9_delta 9 none :: wwX) { frames := 1, cells := 1, slots := 6, locals := 22 } t3 D xw cI cJ ad [.ref (ad 4), .int y1, .int y2, .int y3, .int y4] (xw cI cJ ad g lg ar bk) sz 1 6 (fun g' lg' ar' bk' => g = g' ∧ lg = lg' ∧ hk_fr [1] ar ar' ∧ bk = bk') (fun g' lg' ar' bk' => False) := by
  refine jx_metv (cc := cX9_delta) (maxL := 9) (ret := none) rfl (by decide) rfl (Nat.le_of_ble_eq_true rfl) ?_
  intro p e s m args below meth c ls Q A hx hb hml hown hts hA hZ hw hl hQ kr kt
  have hq : ∀ w ∈ wwX, w.before args s = true := fun w h => hts w (List.mem_cons_of_mem _ h)
  have hl : lv_has ls 9 [(0, .ref (ad 4)), (1, .int y1), (2, .int y2), (3, .int y3), (4, .int y4)] := hl
  refine lv_iload_n hx hb dX9_delta_0 rfl (lv_at hl 2 rfl) ?_
  refine lv_iload_n hx hb dX9_delta_1 rfl (lv_at hl 1 rfl) ?_
  refine lv_isub hx hb dX9_delta_2 (jx_nm fun z1 hz1 => ?_)
  refine lv_iload_n hx hb dX9_delta_3 rfl (lv_at hl 3 rfl) ?_
  refine lv_isub hx hb dX9_delta_4 (jx_nm fun z2 hz2 => ?_)
  refine lv_istore (lv' := [(5, .int z2), (0, .ref (ad 4)), (1, .int y1), (2, .int y2), (3, .int y3), (4, .int y4)]) hx hb dX9_delta_5 hl (by decide) rfl (fun ls hl => ?_)
  refine lv_iconst (v := 0) hx hb dX9_delta_7 (by decide) ?_
  refine lv_istore (lv' := [(6, .int 0), (5, .int z2), (0, .ref (ad 4)), (1, .int y1), (2, .int y2), (3, .int y3), (4, .int y4)]) hx hb dX9_delta_8 hl (by decide) rfl (fun ls hl => ?_)
  have B3 : ∀ (k6 : Nat) (x4 : Int32) (a5 : Nat → Nat → Int32) (ls : Array Slot) (H : Heap) (locs : List Loc), (2147483648 - (x4).toInt ≤ (k6 : Int)) → (0 ≤ (x4).toInt) → (hk_fr [1] ar a5) → hk_W D (jT cI cJ) A s H locs (xw cI cJ ad g lg a5 bk) → lv_has ls 9 [(0, .ref (ad 4)), (1, .int y1), (2, .int y2), (3, .int y3), (4, .int y4), (5, .int z2), (6, .int x4)] → W p l e { frames := 1, cells := 1, slots := 6, locals := 22 } s m args below meth c H locs 0 0 Q (F0 m 10 ls []) := by
    intro k6
    induction k6 with
    | zero =>
      intro x4 a5 ls H locs hrk_B3 hf_B3_0 hfr_a5 hw hl
      exact False.elim (hk_no0 (0 * (x4).toInt) (ob5 ((x4).toInt) hf_B3_0 hrk_B3 (hE_rng (x4))) (by simp))
    | succ k6 ih_B3 =>
      intro x4 a5 ls H locs hrk_B3 hf_B3_0 hfr_a5 hw hl
      have hrk_B3 := hk_rk hrk_B3
      refine lv_iload hx hb dX9_delta_10 (lv_at hl 6 rfl) ?_
      refine lv_iload hx hb dX9_delta_12 (lv_at hl 5 rfl) ?_
      refine lv_icmp_ge (tgt := 87) hx hb dX9_delta_14 (by decide) (fun cc7 => ?_) (fun cc7 => ?_)
      · exact kr g lg a5 bk _ _ _ _ ⟨rfl, rfl, hfr_a5, rfl⟩ hw dX9_delta_87
      · refine lv_iload hx hb dX9_delta_17 (lv_at hl 4 rfl) ?_
        have B8 : ∀  (x9 : Int32) (ls : Array Slot) (H : Heap) (locs : List Loc), hk_W D (jT cI cJ) A s H locs (xw cI cJ ad g lg a5 bk) → lv_has ls 9 [(0, .ref (ad 4)), (1, .int y1), (2, .int y2), (3, .int y3), (4, .int y4), (5, .int z2), (6, .int x4)] → W p l e { frames := 1, cells := 1, slots := 6, locals := 22 } s m args below meth c H locs 0 0 Q (F0 m 37 ls [.int x9]) := by
          intro x9 ls H locs hw hl
          refine lv_istore (lv' := [(7, .int x9), (0, .ref (ad 4)), (1, .int y1), (2, .int y2), (3, .int y3), (4, .int y4), (5, .int z2), (6, .int x4)]) hx hb dX9_delta_37 hl (by decide) rfl (fun ls hl => ?_)
          refine lv_aload_n hx hb dX9_delta_39 rfl (lv_at hl 1 rfl) ?_
          refine lv_iload hx hb dX9_delta_40 (lv_at hl 0 rfl) ?_
          refine lv_iload_n hx hb dX9_delta_42 rfl (lv_at hl 4 rfl) ?_
          refine lv_isub hx hb dX9_delta_43 (jx_nm fun z10 hz10 => ?_)
          refine jx_Vi (As := [.int z10]) (rest := []) ⟨hx, hb, hml, hown, hts⟩ hZ hw hA (jx_X9_get_4 l hlt D t3 cI cJ ad g lg a5 bk _ z10) (cwV 1 hts (jx_gV wwX_good wX_697 wX_22 wX_23 wX_24 wX_25) rfl rfl rfl (by decide +kernel) ⟨Nat.le_of_ble_eq_true rfl, Nat.le_of_ble_eq_true rfl⟩) 4 (ci := 12) (T := TX9) (N := 2) rfl rfl rfl hl.1 rfl (Nat.le_of_ble_eq_true rfl) dX9_delta_44 ⟨Nat.le_of_ble_eq_true rfl, Nat.le_of_ble_eq_true rfl⟩ (fun _ _ _ _ _ _ _ _ hp _ _ _ _ => hp.elim) (fun r15 g16 l17 a18 b19 H locs hp20 hw => ?_)
          obtain ⟨rfl, rfl, rfl, rfl⟩ := hp20
          refine lv_istore (lv' := [(8, .int r15), (7, .int x9), (0, .ref (ad 4)), (1, .int y1), (2, .int y2), (3, .int y3), (4, .int y4), (5, .int z2), (6, .int x4)]) hx hb dX9_delta_47 hl (by decide) rfl (fun ls hl => ?_)
          refine lv_aload_n hx hb dX9_delta_49 rfl (lv_at hl 2 rfl) ?_
          refine lv_iload hx hb dX9_delta_50 (lv_at hl 1 rfl) ?_
          refine lv_iload hx hb dX9_delta_52 (lv_at hl 6 rfl) ?_
          have B25 : ∀  (x26 : Int32) (ls : Array Slot) (H : Heap) (locs : List Loc), hk_W D (jT cI cJ) A s H locs (xw cI cJ ad g lg a5 bk) → lv_has ls 9 [(0, .ref (ad 4)), (1, .int y1), (2, .int y2), (3, .int y3), (4, .int y4), (5, .int z2), (6, .int x4)] → W p l e { frames := 1, cells := 1, slots := 6, locals := 22 } s m args below meth c H locs 0 0 Q (F0 m 78 ls [.int x26, .int x9, .ref (ad 4)]) := by
            intro x26 ls H locs hw hl
            refine jx_Vv (As := [.int x9, .int x26]) (rest := []) ⟨hx, hb, hml, hown, hts⟩ hZ hw hA (jx_X9_set_4 l hlt D t3 cI cJ ad g lg a5 bk _ x9 x26) (cwV 2 hts (jx_gV wwX_good wX_698 wX_587 wX_588 wX_24 wX_589) rfl rfl rfl (by decide +kernel) ⟨Nat.le_of_ble_eq_true rfl, Nat.le_of_ble_eq_true rfl⟩) 4 (ci := 12) (T := TX9) (N := 2) rfl rfl rfl hl.1 rfl (Nat.le_of_ble_eq_true rfl) dX9_delta_78 ⟨Nat.le_of_ble_eq_true rfl, Nat.le_of_ble_eq_true rfl⟩ (fun _ _ _ _ _ _ _ _ hp _ _ _ _ => hp.elim) (fun g32 l33 a34 b35 H locs hp36 hw => ?_)
            obtain ⟨rfl, rfl, h39, rfl⟩ := hp36
            obtain ⟨z41, hz41⟩ : ∃ z : Int32, x4 + 1 = z := ⟨_, rfl⟩
            refine lv_iinc (v := z41) (lv' := [(6, .int z41), (0, .ref (ad 4)), (1, .int y1), (2, .int y2), (3, .int y3), (4, .int y4), (5, .int z2)]) hx hb dX9_delta_81 hl (k := 6) rfl hz41 (by decide) rfl (fun ls hl => ?_)
            have xz41 : (z41).toInt = (x4).toInt + ((1 : Int32)).toInt := (hE_imp (hE_add hz41) (ob25 ((x4).toInt) (((1 : Int32)).toInt) (k6 : Int) ((z2).toInt) ((z1).toInt) ((y3).toInt) ((y2).toInt) ((y1).toInt) ((z10).toInt) ((x9).toInt) hf_B3_0 hrk_B3 (hE_nle cc7) (hE_sub hz2) (hE_sub hz1) (hE_sub hz10) (hE_rng (x4)) (by decide) (hE_rng (z2)) (hE_rng (z1)) (hE_rng (y3)) (hE_rng (y2)) (hE_rng (y1)) (hE_rng (z10)) (hE_rng (x9))))
            refine lv_goto (tgt := 10) hx hb dX9_delta_84 (by decide) ?_
            exact ih_B3 z41 a34 ls _ _ (ob26 ((z41).toInt) (k6 : Int) ((x4).toInt) (((1 : Int32)).toInt) ((z2).toInt) ((z1).toInt) ((y3).toInt) ((y2).toInt) ((y1).toInt) ((z10).toInt) ((x9).toInt) hrk_B3 xz41 hf_B3_0 (hE_nle cc7) (hE_sub hz2) (hE_sub hz1) (hE_sub hz10) (hE_rng (z41)) (hE_rng (x4)) (by decide) (hE_rng (z2)) (hE_rng (z1)) (hE_rng (y3)) (hE_rng (y2)) (hE_rng (y1)) (hE_rng (z10)) (hE_rng (x9))) (ob27 ((z41).toInt) ((x4).toInt) (((1 : Int32)).toInt) (k6 : Int) ((z2).toInt) ((z1).toInt) ((y3).toInt) ((y2).toInt) ((y1).toInt) ((z10).toInt) ((x9).toInt) xz41 hf_B3_0 hrk_B3 (hE_nle cc7) (hE_sub hz2) (hE_sub hz1) (hE_sub hz10) (hE_rng (z41)) (hE_rng (x4)) (by decide) (hE_rng (z2)) (hE_rng (z1)) (hE_rng (y3)) (hE_rng (y2)) (hE_rng (y1)) (hE_rng (z10)) (hE_rng (x9))) (hk_frT hfr_a5 (by decide) h39) hw (lv_sub hl [1, 2, 3, 4, 5, 6, 0] rfl)
          refine lv_if_eq (tgt := 69) hx hb dX9_delta_54 (by decide) (fun cc42 => ?_) (fun cc42 => ?_)
          · refine lv_aload_n hx hb dX9_delta_69 rfl (lv_at hl 2 rfl) ?_
            refine lv_iload hx hb dX9_delta_70 (lv_at hl 1 rfl) ?_
            refine jx_Vi (As := [.int x9]) (rest := [.int x9, .ref (ad 4)]) ⟨hx, hb, hml, hown, hts⟩ hZ hw hA (jx_X9_get_4 l hlt D t3 cI cJ ad g lg a5 bk _ x9) (cwV 1 hts (jx_gV wwX_good wX_697 wX_22 wX_23 wX_24 wX_25) rfl rfl rfl (by decide +kernel) ⟨Nat.le_of_ble_eq_true rfl, Nat.le_of_ble_eq_true rfl⟩) 4 (ci := 12) (T := TX9) (N := 2) rfl rfl rfl hl.1 rfl (Nat.le_of_ble_eq_true rfl) dX9_delta_72 ⟨Nat.le_of_ble_eq_true rfl, Nat.le_of_ble_eq_true rfl⟩ (fun _ _ _ _ _ _ _ _ hp _ _ _ _ => hp.elim) (fun r47 g48 l49 a50 b51 H locs hp52 hw => ?_)
            obtain ⟨rfl, rfl, rfl, rfl⟩ := hp52
            refine lv_iload hx hb dX9_delta_75 (lv_at hl 0 rfl) ?_
            refine lv_isub hx hb dX9_delta_77 (jx_nm fun z57 hz57 => ?_)
            exact B25 z57 ls _ _ hw (lv_sub hl [2, 3, 4, 5, 6, 7, 8] rfl)
          · refine lv_aload_n hx hb dX9_delta_57 rfl (lv_at hl 2 rfl) ?_
            refine lv_iload hx hb dX9_delta_58 (lv_at hl 1 rfl) ?_
            refine jx_Vi (As := [.int x9]) (rest := [.int x9, .ref (ad 4)]) ⟨hx, hb, hml, hown, hts⟩ hZ hw hA (jx_X9_get_4 l hlt D t3 cI cJ ad g lg a5 bk _ x9) (cwV 1 hts (jx_gV wwX_good wX_697 wX_22 wX_23 wX_24 wX_25) rfl rfl rfl (by decide +kernel) ⟨Nat.le_of_ble_eq_true rfl, Nat.le_of_ble_eq_true rfl⟩) 4 (ci := 12) (T := TX9) (N := 2) rfl rfl rfl hl.1 rfl (Nat.le_of_ble_eq_true rfl) dX9_delta_60 ⟨Nat.le_of_ble_eq_true rfl, Nat.le_of_ble_eq_true rfl⟩ (fun _ _ _ _ _ _ _ _ hp _ _ _ _ => hp.elim) (fun r62 g63 l64 a65 b66 H locs hp67 hw => ?_)
            obtain ⟨rfl, rfl, rfl, rfl⟩ := hp67
            refine lv_iload hx hb dX9_delta_63 (lv_at hl 0 rfl) ?_
            refine lv_iadd hx hb dX9_delta_65 (jx_nm fun z72 hz72 => ?_)
            refine lv_goto (tgt := 78) hx hb dX9_delta_66 (by decide) ?_
            exact B25 z72 ls _ _ hw (lv_sub hl [2, 3, 4, 5, 6, 7, 8] rfl)
        refine lv_if_eq (tgt := 31) hx hb dX9_delta_19 (by decide) (fun cc73 => ?_) (fun cc73 => ?_)
        · refine lv_iload_n hx hb dX9_delta_31 rfl (lv_at hl 2 rfl) ?_
          refine lv_iconst (v := 1) hx hb dX9_delta_32 (by decide) ?_
          refine lv_isub hx hb dX9_delta_33 (jx_nm fun z74 hz74 => ?_)
          refine lv_iload hx hb dX9_delta_34 (lv_at hl 6 rfl) ?_
          refine lv_isub hx hb dX9_delta_36 (jx_nm fun z75 hz75 => ?_)
          exact B8 z75 ls _ _ hw (lv_sub hl [0, 1, 2, 3, 4, 5, 6] rfl)
        · refine lv_iload_n hx hb dX9_delta_22 rfl (lv_at hl 1 rfl) ?_
          refine lv_iload_n hx hb dX9_delta_23 rfl (lv_at hl 3 rfl) ?_
          refine lv_iadd hx hb dX9_delta_24 (jx_nm fun z76 hz76 => ?_)
          refine lv_iload hx hb dX9_delta_25 (lv_at hl 6 rfl) ?_
          refine lv_iadd hx hb dX9_delta_27 (jx_nm fun z77 hz77 => ?_)
          refine lv_goto (tgt := 37) hx hb dX9_delta_28 (by decide) ?_
          exact B8 z77 ls _ _ hw (lv_sub hl [0, 1, 2, 3, 4, 5, 6] rfl)
  exact B3 (2147483648 - ((0 : Int32)).toInt).toNat 0 ar ls _ _ (Int.self_le_toNat _) (ob9 (((0 : Int32)).toInt) (by decide)) hk_fr0 hw (lv_sub hl [2, 3, 4, 5, 6, 1, 0] rfl)

set_option maxHeartbeats 4000000 in
set_option maxRecDepth 100000 in
/-- X9_branch on (2,) -/
theorem jx_X9_branch_2 (l : Launch) (hlt : l.stackTraces = false) (D : va_G) (t3 : Nat × Nat × Nat) (cI cJ : ClassId) (ad : Nat → Nat) (g : Nat → Int32) (lg : Nat → Int64) (ar : Nat → Nat → Int32) (bk : Nat → Int64) (sz : Nat) (y1 : Int32) (y2 : Int32) (y3 : Int32) (hr0 : -1000000000 ≤ (y1).toInt ∧ (y1).toInt ≤ 1000000000) (hr1 : (y2).toInt ≤ 1000000000) (hi_a0rg : hk_rg 0 255 (ar 0)) : JMv l yX9_branch (Cond.code yX9_branch cX9_branch 8 none :: wwX) { frames := 1, cells := 1, slots := 6, locals := 22 } t3 D xw cI cJ ad [.ref (ad 2), .int y1, .int y2, .int y3] (xw cI cJ ad g lg ar bk) sz 1 6 (fun g' lg' ar' bk' => g = g' ∧ lg = lg' ∧ hk_fr [0] ar ar' ∧ bk = bk' ∧ hk_rg 0 255 (ar' 0)) (fun g' lg' ar' bk' => False) := by
  refine jx_metv (cc := cX9_branch) (maxL := 8) (ret := none) rfl (by decide) rfl (Nat.le_of_ble_eq_true rfl) ?_
  intro p e s m args below meth c ls Q A hx hb hml hown hts hA hZ hw hl hQ kr kt
  have hq : ∀ w ∈ wwX, w.before args s = true := fun w h => hts w (List.mem_cons_of_mem _ h)
  have hl : lv_has ls 8 [(0, .ref (ad 2)), (1, .int y1), (2, .int y2), (3, .int y3)] := hl
  refine lv_iload_n hx hb dX9_branch_0 rfl (lv_at hl 1 rfl) ?_
  refine lv_istore (lv' := [(4, .int y1), (0, .ref (ad 2)), (1, .int y1), (2, .int y2), (3, .int y3)]) hx hb dX9_branch_1 hl (by decide) rfl (fun ls hl => ?_)
  have B1 : ∀ (k4 : Nat) (x2 : Int32) (a3 : Nat → Nat → Int32) (ls : Array Slot) (H : Heap) (locs : List Loc), (2147483648 - (x2).toInt ≤ (k4 : Int)) → (-1000000000 ≤ (x2).toInt ∧ (x2).toInt ≤ 1000000010) → (hk_fr [0] ar a3) → (hk_rg 0 255 (a3 0)) → hk_W D (jT cI cJ) A s H locs (xw cI cJ ad g lg a3 bk) → lv_has ls 8 [(0, .ref (ad 2)), (1, .int y1), (2, .int y2), (3, .int y3), (4, .int x2)] → W p l e { frames := 1, cells := 1, slots := 6, locals := 22 } s m args below meth c H locs 0 0 Q (F0 m 3 ls []) := by
    intro k4
    induction k4 with
    | zero =>
      intro x2 a3 ls H locs hrk_B1 hf_B1_0 hfr_a3 ha3_r0rg hw hl
      exact False.elim (hk_no0 (0 * (x2).toInt) (ob28 ((x2).toInt) hf_B1_0 hrk_B1 (hE_rng (x2))) (by simp))
    | succ k4 ih_B1 =>
      intro x2 a3 ls H locs hrk_B1 hf_B1_0 hfr_a3 ha3_r0rg hw hl
      have hrk_B1 := hk_rk hrk_B1
      refine lv_iload hx hb dX9_branch_3 (lv_at hl 4 rfl) ?_
      refine lv_iconst (v := 3) hx hb dX9_branch_5 (by decide) ?_
      refine lv_iadd hx hb dX9_branch_6 (jx_nm fun z5 hz5 => ?_)
      have xz5 : (z5).toInt = (x2).toInt + ((3 : Int32)).toInt := (hE_imp (hE_add hz5) (ob29 ((x2).toInt) (((3 : Int32)).toInt) (k4 : Int) hf_B1_0 hrk_B1 (hE_rng (x2)) (by decide)))
      refine lv_iload_n hx hb dX9_branch_7 rfl (lv_at hl 2 rfl) ?_
      refine lv_icmp_ge (tgt := 129) hx hb dX9_branch_8 (by decide) (fun cc6 => ?_) (fun cc6 => ?_)
      · exact kr g lg a3 bk _ _ _ _ ⟨rfl, rfl, hfr_a3, rfl, ha3_r0rg⟩ hw dX9_branch_129
      · refine lv_aload_n hx hb dX9_branch_11 rfl (lv_at hl 0 rfl) ?_
        refine lv_iload hx hb dX9_branch_12 (lv_at hl 4 rfl) ?_
        refine lv_iconst (v := 3) hx hb dX9_branch_14 (by decide) ?_
        refine lv_iadd hx hb dX9_branch_15 (jx_nm fun z7 hz7 => ?_)
        have xz7 : (z7).toInt = (x2).toInt + ((3 : Int32)).toInt := (hE_imp (hE_add hz7) (ob30 ((x2).toInt) (((3 : Int32)).toInt) (k4 : Int) ((z5).toInt) ((y2).toInt) hf_B1_0 hrk_B1 xz5 (hE_nle cc6) hr1 (hE_rng (x2)) (by decide) (hE_rng (z5)) (hE_rng (y2))))
        refine jx_Vi (As := [.int z7]) (rest := []) ⟨hx, hb, hml, hown, hts⟩ hZ hw hA (jx_X9_get_2 l hlt D t3 cI cJ ad g lg a3 bk _ z7) (cwV 1 hts (jx_gV wwX_good wX_697 wX_22 wX_23 wX_24 wX_25) rfl rfl rfl (by decide +kernel) ⟨Nat.le_of_ble_eq_true rfl, Nat.le_of_ble_eq_true rfl⟩) 2 (ci := 12) (T := TX9) (N := 2) rfl rfl rfl hl.1 rfl (Nat.le_of_ble_eq_true rfl) dX9_branch_16 ⟨Nat.le_of_ble_eq_true rfl, Nat.le_of_ble_eq_true rfl⟩ (fun _ _ _ _ _ _ _ _ hp _ _ _ _ => hp.elim) (fun r12 g13 l14 a15 b16 H locs hp17 hw => ?_)
        obtain ⟨rfl, rfl, rfl, rfl⟩ := hp17
        refine lv_sipush (v := 235) hx hb dX9_branch_19 (by decide) ?_
        have B22 : ∀  (a23 : Nat → Nat → Int32) (ls : Array Slot) (H : Heap) (locs : List Loc), (hk_fr [0] a3 a23) → (hk_rg 0 255 (a23 0)) → hk_W D (jT cI cJ) A s H locs (xw cI cJ ad g lg a23 bk) → lv_has ls 8 [(0, .ref (ad 2)), (1, .int y1), (2, .int y2), (3, .int y3), (4, .int x2)] → W p l e { frames := 1, cells := 1, slots := 6, locals := 22 } s m args below meth c H locs 0 0 Q (F0 m 123 ls []) := by
          intro a23 ls H locs hfr_a23 ha23_r0rg hw hl
          obtain ⟨z24, hz24⟩ : ∃ z : Int32, x2 + 4 = z := ⟨_, rfl⟩
          refine lv_iinc (v := z24) (lv' := [(4, .int z24), (0, .ref (ad 2)), (1, .int y1), (2, .int y2), (3, .int y3)]) hx hb dX9_branch_123 hl (k := 4) rfl hz24 (by decide) rfl (fun ls hl => ?_)
          have xz24 : (z24).toInt = (x2).toInt + ((4 : Int32)).toInt := (hE_imp (hE_add hz24) (ob31 ((x2).toInt) (((4 : Int32)).toInt) (k4 : Int) ((z5).toInt) (((3 : Int32)).toInt) ((z7).toInt) ((y2).toInt) hf_B1_0 hrk_B1 xz5 xz7 (hE_nle cc6) hr1 (hE_rng (x2)) (by decide) (hE_rng (z5)) (by decide) (hE_rng (z7)) (hE_rng (y2))))
          refine lv_goto (tgt := 3) hx hb dX9_branch_126 (by decide) ?_
          exact ih_B1 z24 a23 ls _ _ (ob32 ((z24).toInt) (k4 : Int) ((x2).toInt) (((4 : Int32)).toInt) ((z5).toInt) (((3 : Int32)).toInt) ((z7).toInt) ((y2).toInt) hrk_B1 xz24 hf_B1_0 xz5 xz7 (hE_nle cc6) hr1 (hE_rng (z24)) (hE_rng (x2)) (by decide) (hE_rng (z5)) (by decide) (hE_rng (z7)) (hE_rng (y2))) (ob33 ((z24).toInt) ((x2).toInt) (((4 : Int32)).toInt) (k4 : Int) ((z5).toInt) (((3 : Int32)).toInt) ((z7).toInt) ((y2).toInt) xz24 hf_B1_0 hrk_B1 xz5 xz7 (hE_nle cc6) hr1 (hE_rng (z24)) (hE_rng (x2)) (by decide) (hE_rng (z5)) (by decide) (hE_rng (z7)) (hE_rng (y2))) (hk_frT hfr_a3 (by decide) hfr_a23) ha23_r0rg hw (lv_sub hl [1, 2, 3, 4, 0] rfl)
        refine lv_icmp_ne (tgt := 123) hx hb dX9_branch_22 (by decide) (fun cc25 => ?_) (fun cc25 => ?_)
        · exact B22 a3 ls _ _ hk_fr0 ha3_r0rg hw (lv_sub hl [0, 1, 2, 3, 4] rfl)
        · refine lv_aload_n hx hb dX9_branch_25 rfl (lv_at hl 0 rfl) ?_
          refine lv_iload hx hb dX9_branch_26 (lv_at hl 4 rfl) ?_
          refine jx_Vi (As := [.int x2]) (rest := []) ⟨hx, hb, hml, hown, hts⟩ hZ hw hA (jx_X9_get_2 l hlt D t3 cI cJ ad g lg a3 bk _ x2) (cwV 1 hts (jx_gV wwX_good wX_697 wX_22 wX_23 wX_24 wX_25) rfl rfl rfl (by decide +kernel) ⟨Nat.le_of_ble_eq_true rfl, Nat.le_of_ble_eq_true rfl⟩) 2 (ci := 12) (T := TX9) (N := 2) rfl rfl rfl hl.1 rfl (Nat.le_of_ble_eq_true rfl) dX9_branch_28 ⟨Nat.le_of_ble_eq_true rfl, Nat.le_of_ble_eq_true rfl⟩ (fun _ _ _ _ _ _ _ _ hp _ _ _ _ => hp.elim) (fun r30 g31 l32 a33 b34 H locs hp35 hw => ?_)
          obtain ⟨rfl, rfl, rfl, rfl⟩ := hp35
          refine lv_aload_n hx hb dX9_branch_31 rfl (lv_at hl 0 rfl) ?_
          refine lv_iload hx hb dX9_branch_32 (lv_at hl 4 rfl) ?_
          refine lv_iconst (v := 1) hx hb dX9_branch_34 (by decide) ?_
          refine lv_iadd hx hb dX9_branch_35 (jx_nm fun z40 hz40 => ?_)
          have xz40 : (z40).toInt = (x2).toInt + ((1 : Int32)).toInt := (hE_imp (hE_add hz40) (ob34 ((x2).toInt) (((1 : Int32)).toInt) (k4 : Int) ((z5).toInt) (((3 : Int32)).toInt) ((z7).toInt) ((y2).toInt) hf_B1_0 hrk_B1 xz5 xz7 (hE_nle cc6) hr1 (hE_rng (x2)) (by decide) (hE_rng (z5)) (by decide) (hE_rng (z7)) (hE_rng (y2))))
          refine jx_Vi (As := [.int z40]) (rest := [.int r30]) ⟨hx, hb, hml, hown, hts⟩ hZ hw hA (jx_X9_get_2 l hlt D t3 cI cJ ad g lg a3 bk _ z40) (cwV 1 hts (jx_gV wwX_good wX_697 wX_22 wX_23 wX_24 wX_25) rfl rfl rfl (by decide +kernel) ⟨Nat.le_of_ble_eq_true rfl, Nat.le_of_ble_eq_true rfl⟩) 2 (ci := 12) (T := TX9) (N := 2) rfl rfl rfl hl.1 rfl (Nat.le_of_ble_eq_true rfl) dX9_branch_36 ⟨Nat.le_of_ble_eq_true rfl, Nat.le_of_ble_eq_true rfl⟩ (fun _ _ _ _ _ _ _ _ hp _ _ _ _ => hp.elim) (fun r45 g46 l47 a48 b49 H locs hp50 hw => ?_)
          obtain ⟨rfl, rfl, rfl, rfl⟩ := hp50
          refine lv_bipush (v := 8) hx hb dX9_branch_39 (by decide) ?_
          refine lv_ishl hx hb dX9_branch_41 (jx_nm fun z55 hz55 => ?_)
          refine lv_ior hx hb dX9_branch_42 (jx_nm fun z56 hz56 => ?_)
          refine lv_aload_n hx hb dX9_branch_43 rfl (lv_at hl 0 rfl) ?_
          refine lv_iload hx hb dX9_branch_44 (lv_at hl 4 rfl) ?_
          refine lv_iconst (v := 2) hx hb dX9_branch_46 (by decide) ?_
          refine lv_iadd hx hb dX9_branch_47 (jx_nm fun z57 hz57 => ?_)
          have xz57 : (z57).toInt = (x2).toInt + ((2 : Int32)).toInt := (hE_imp (hE_add hz57) (ob35 ((x2).toInt) (((2 : Int32)).toInt) (k4 : Int) ((z5).toInt) (((3 : Int32)).toInt) ((z7).toInt) ((z40).toInt) (((1 : Int32)).toInt) ((y2).toInt) hf_B1_0 hrk_B1 xz5 xz7 xz40 (hE_nle cc6) hr1 (hE_rng (x2)) (by decide) (hE_rng (z5)) (by decide) (hE_rng (z7)) (hE_rng (z40)) (by decide) (hE_rng (y2))))
          refine jx_Vi (As := [.int z57]) (rest := [.int z56]) ⟨hx, hb, hml, hown, hts⟩ hZ hw hA (jx_X9_get_2 l hlt D t3 cI cJ ad g lg a3 bk _ z57) (cwV 1 hts (jx_gV wwX_good wX_697 wX_22 wX_23 wX_24 wX_25) rfl rfl rfl (by decide +kernel) ⟨Nat.le_of_ble_eq_true rfl, Nat.le_of_ble_eq_true rfl⟩) 2 (ci := 12) (T := TX9) (N := 2) rfl rfl rfl hl.1 rfl (Nat.le_of_ble_eq_true rfl) dX9_branch_48 ⟨Nat.le_of_ble_eq_true rfl, Nat.le_of_ble_eq_true rfl⟩ (fun _ _ _ _ _ _ _ _ hp _ _ _ _ => hp.elim) (fun r62 g63 l64 a65 b66 H locs hp67 hw => ?_)
          obtain ⟨rfl, rfl, rfl, rfl⟩ := hp67
          refine lv_bipush (v := 16) hx hb dX9_branch_51 (by decide) ?_
          refine lv_ishl hx hb dX9_branch_53 (jx_nm fun z72 hz72 => ?_)
          refine lv_ior hx hb dX9_branch_54 (jx_nm fun z73 hz73 => ?_)
          refine lv_iconst (v := 2) hx hb dX9_branch_55 (by decide) ?_
          refine lv_ishl hx hb dX9_branch_56 (jx_nm fun z74 hz74 => ?_)
          refine lv_istore (lv' := [(5, .int z74), (0, .ref (ad 2)), (1, .int y1), (2, .int y2), (3, .int y3), (4, .int x2)]) hx hb dX9_branch_57 hl (by decide) rfl (fun ls hl => ?_)
          refine lv_iload hx hb dX9_branch_59 (lv_at hl 5 rfl) ?_
          refine lv_iload_n hx hb dX9_branch_61 rfl (lv_at hl 2 rfl) ?_
          refine lv_isub hx hb dX9_branch_62 (jx_nm fun z75 hz75 => ?_)
          have xz75 : (z75).toInt = (x2).toInt - (y1).toInt := (hE_imp (hE_sub hz75) (ob36 ((x2).toInt) ((y1).toInt) (k4 : Int) ((z5).toInt) (((3 : Int32)).toInt) ((z7).toInt) ((z40).toInt) (((1 : Int32)).toInt) ((z57).toInt) (((2 : Int32)).toInt) ((y2).toInt) hr0 hf_B1_0 hrk_B1 xz5 xz7 xz40 xz57 (hE_nle cc6) hr1 (hE_rng (x2)) (hE_rng (y1)) (hE_rng (z5)) (by decide) (hE_rng (z7)) (hE_rng (z40)) (by decide) (hE_rng (z57)) (by decide) (hE_rng (y2))))
          refine lv_bipush (v := 8) hx hb dX9_branch_63 (by decide) ?_
          refine lv_iadd hx hb dX9_branch_65 (jx_nm fun z76 hz76 => ?_)
          have xz76 : (z76).toInt = (z75).toInt + ((8 : Int32)).toInt := (hE_imp (hE_add hz76) (ob37 ((z75).toInt) (((8 : Int32)).toInt) ((x2).toInt) ((y1).toInt) (k4 : Int) ((z5).toInt) (((3 : Int32)).toInt) ((z7).toInt) ((z40).toInt) (((1 : Int32)).toInt) ((z57).toInt) (((2 : Int32)).toInt) ((y2).toInt) xz75 hr0 hf_B1_0 hrk_B1 xz5 xz7 xz40 xz57 (hE_nle cc6) hr1 (hE_rng (z75)) (by decide) (hE_rng (x2)) (hE_rng (y1)) (hE_rng (z5)) (by decide) (hE_rng (z7)) (hE_rng (z40)) (by decide) (hE_rng (z57)) (by decide) (hE_rng (y2))))
          refine lv_istore (lv' := [(6, .int z76), (5, .int z74), (0, .ref (ad 2)), (1, .int y1), (2, .int y2), (3, .int y3), (4, .int x2)]) hx hb dX9_branch_66 hl (by decide) rfl (fun ls hl => ?_)
          refine lv_iload_n hx hb dX9_branch_68 rfl (lv_at hl 5 rfl) ?_
          have B77 : ∀  (x78 : Int32) (ls : Array Slot) (H : Heap) (locs : List Loc), hk_W D (jT cI cJ) A s H locs (xw cI cJ ad g lg a3 bk) → lv_has ls 8 [(0, .ref (ad 2)), (1, .int y1), (2, .int y2), (3, .int y3), (4, .int x2)] → W p l e { frames := 1, cells := 1, slots := 6, locals := 22 } s m args below meth c H locs 0 0 Q (F0 m 85 ls [.int x78]) := by
            intro x78 ls H locs hw hl
            refine lv_iconst (v := 2) hx hb dX9_branch_85 (by decide) ?_
            refine lv_iushr hx hb dX9_branch_86 rfl (jx_nm fun z79 hz79 => ?_)
            refine lv_istore (lv' := [(7, .int z79), (0, .ref (ad 2)), (1, .int y1), (2, .int y2), (3, .int y3), (4, .int x2)]) hx hb dX9_branch_87 hl (by decide) rfl (fun ls hl => ?_)
            refine lv_aload_n hx hb dX9_branch_89 rfl (lv_at hl 1 rfl) ?_
            refine lv_iload hx hb dX9_branch_90 (lv_at hl 5 rfl) ?_
            refine lv_iload hx hb dX9_branch_92 (lv_at hl 0 rfl) ?_
            refine jx_Vv (As := [.int x2, .int z79]) (rest := []) ⟨hx, hb, hml, hown, hts⟩ hZ hw hA (jx_X9_set_2 l hlt D t3 cI cJ ad g lg a3 bk _ x2 z79 ha3_r0rg) (cwV 2 hts (jx_gV wwX_good wX_698 wX_587 wX_588 wX_24 wX_589) rfl rfl rfl (by decide +kernel) ⟨Nat.le_of_ble_eq_true rfl, Nat.le_of_ble_eq_true rfl⟩) 2 (ci := 12) (T := TX9) (N := 2) rfl rfl rfl hl.1 rfl (Nat.le_of_ble_eq_true rfl) dX9_branch_94 ⟨Nat.le_of_ble_eq_true rfl, Nat.le_of_ble_eq_true rfl⟩ (fun _ _ _ _ _ _ _ _ hp _ _ _ _ => hp.elim) (fun g85 l86 a87 b88 H locs hp89 hw => ?_)
            obtain ⟨rfl, rfl, h92, rfl, h94⟩ := hp89
            refine lv_aload_n hx hb dX9_branch_97 rfl (lv_at hl 1 rfl) ?_
            refine lv_iload hx hb dX9_branch_98 (lv_at hl 5 rfl) ?_
            refine lv_iconst (v := 1) hx hb dX9_branch_100 (by decide) ?_
            refine lv_iadd hx hb dX9_branch_101 (jx_nm fun z95 hz95 => ?_)
            have xz95 : (z95).toInt = (x2).toInt + ((1 : Int32)).toInt := (hE_imp (hE_add hz95) (ob38 ((x2).toInt) (((1 : Int32)).toInt) (k4 : Int) ((z5).toInt) (((3 : Int32)).toInt) ((z7).toInt) ((z40).toInt) ((z57).toInt) (((2 : Int32)).toInt) ((z75).toInt) ((y1).toInt) ((y2).toInt) ((z76).toInt) (((8 : Int32)).toInt) hf_B1_0 hrk_B1 xz5 xz7 xz40 xz57 xz75 hr0 (hE_nle cc6) xz76 hr1 (hE_rng (x2)) (by decide) (hE_rng (z5)) (by decide) (hE_rng (z7)) (hE_rng (z40)) (hE_rng (z57)) (by decide) (hE_rng (z75)) (hE_rng (y1)) (hE_rng (y2)) (hE_rng (z76)) (by decide)))
            refine lv_iload hx hb dX9_branch_102 (lv_at hl 0 rfl) ?_
            refine lv_bipush (v := 8) hx hb dX9_branch_104 (by decide) ?_
            refine lv_iushr hx hb dX9_branch_106 rfl (jx_nm fun z96 hz96 => ?_)
            refine jx_Vv (As := [.int z95, .int z96]) (rest := []) ⟨hx, hb, hml, hown, hts⟩ hZ hw hA (jx_X9_set_2 l hlt D t3 cI cJ ad g lg a87 bk _ z95 z96 h94) (cwV 2 hts (jx_gV wwX_good wX_698 wX_587 wX_588 wX_24 wX_589) rfl rfl rfl (by decide +kernel) ⟨Nat.le_of_ble_eq_true rfl, Nat.le_of_ble_eq_true rfl⟩) 2 (ci := 12) (T := TX9) (N := 2) rfl rfl rfl hl.1 rfl (Nat.le_of_ble_eq_true rfl) dX9_branch_107 ⟨Nat.le_of_ble_eq_true rfl, Nat.le_of_ble_eq_true rfl⟩ (fun _ _ _ _ _ _ _ _ hp _ _ _ _ => hp.elim) (fun g102 l103 a104 b105 H locs hp106 hw => ?_)
            obtain ⟨rfl, rfl, h109, rfl, h111⟩ := hp106
            refine lv_aload_n hx hb dX9_branch_110 rfl (lv_at hl 1 rfl) ?_
            refine lv_iload hx hb dX9_branch_111 (lv_at hl 5 rfl) ?_
            refine lv_iconst (v := 2) hx hb dX9_branch_113 (by decide) ?_
            refine lv_iadd hx hb dX9_branch_114 (jx_nm fun z112 hz112 => ?_)
            have xz112 : (z112).toInt = (x2).toInt + ((2 : Int32)).toInt := (hE_imp (hE_add hz112) (ob39 ((x2).toInt) (((2 : Int32)).toInt) (k4 : Int) ((z5).toInt) (((3 : Int32)).toInt) ((z7).toInt) ((z40).toInt) (((1 : Int32)).toInt) ((z57).toInt) ((z75).toInt) ((y1).toInt) ((z95).toInt) ((y2).toInt) ((z76).toInt) (((8 : Int32)).toInt) hf_B1_0 hrk_B1 xz5 xz7 xz40 xz57 xz75 xz95 hr0 (hE_nle cc6) xz76 hr1 (hE_rng (x2)) (by decide) (hE_rng (z5)) (by decide) (hE_rng (z7)) (hE_rng (z40)) (by decide) (hE_rng (z57)) (hE_rng (z75)) (hE_rng (y1)) (hE_rng (z95)) (hE_rng (y2)) (hE_rng (z76)) (by decide)))
            refine lv_iload hx hb dX9_branch_115 (lv_at hl 0 rfl) ?_
            refine lv_bipush (v := 16) hx hb dX9_branch_117 (by decide) ?_
            refine lv_iushr hx hb dX9_branch_119 rfl (jx_nm fun z113 hz113 => ?_)
            refine jx_Vv (As := [.int z112, .int z113]) (rest := []) ⟨hx, hb, hml, hown, hts⟩ hZ hw hA (jx_X9_set_2 l hlt D t3 cI cJ ad g lg a104 bk _ z112 z113 h111) (cwV 2 hts (jx_gV wwX_good wX_698 wX_587 wX_588 wX_24 wX_589) rfl rfl rfl (by decide +kernel) ⟨Nat.le_of_ble_eq_true rfl, Nat.le_of_ble_eq_true rfl⟩) 2 (ci := 12) (T := TX9) (N := 2) rfl rfl rfl hl.1 rfl (Nat.le_of_ble_eq_true rfl) dX9_branch_120 ⟨Nat.le_of_ble_eq_true rfl, Nat.le_of_ble_eq_true rfl⟩ (fun _ _ _ _ _ _ _ _ hp _ _ _ _ => hp.elim) (fun g119 l120 a121 b122 H locs hp123 hw => ?_)
            obtain ⟨rfl, rfl, h126, rfl, h128⟩ := hp123
            exact B22 a121 ls _ _ (hk_frT (hk_frT h92 (by decide) h109) (by decide) h126) h128 hw (lv_sub hl [1, 2, 3, 4, 5] rfl)
          refine lv_if_eq (tgt := 80) hx hb dX9_branch_69 (by decide) (fun cc129 => ?_) (fun cc129 => ?_)
          · refine lv_iload hx hb dX9_branch_80 (lv_at hl 1 rfl) ?_
            refine lv_iload hx hb dX9_branch_82 (lv_at hl 0 rfl) ?_
            refine lv_iadd hx hb dX9_branch_84 (jx_nm fun z130 hz130 => ?_)
            exact B77 z130 ls _ _ hw (lv_sub hl [2, 3, 4, 5, 6] rfl)
          · refine lv_iload hx hb dX9_branch_72 (lv_at hl 1 rfl) ?_
            refine lv_iload hx hb dX9_branch_74 (lv_at hl 0 rfl) ?_
            refine lv_isub hx hb dX9_branch_76 (jx_nm fun z131 hz131 => ?_)
            refine lv_goto (tgt := 85) hx hb dX9_branch_77 (by decide) ?_
            exact B77 z131 ls _ _ hw (lv_sub hl [2, 3, 4, 5, 6] rfl)
  exact B1 (2147483648 - (y1).toInt).toNat y1 ar ls _ _ (Int.self_le_toNat _) (ob40 ((y1).toInt) hr0 (hE_rng (y1))) hk_fr0 hi_a0rg hw (lv_sub hl [1, 2, 3, 4, 0] rfl)

set_option maxHeartbeats 4000000 in
set_option maxRecDepth 100000 in
/-- X9_branch on (4,) -/
theorem jx_X9_branch_4 (l : Launch) (hlt : l.stackTraces = false) (D : va_G) (t3 : Nat × Nat × Nat) (cI cJ : ClassId) (ad : Nat → Nat) (g : Nat → Int32) (lg : Nat → Int64) (ar : Nat → Nat → Int32) (bk : Nat → Int64) (sz : Nat) (y1 : Int32) (y2 : Int32) (y3 : Int32) (hr0 : -1000000000 ≤ (y1).toInt ∧ (y1).toInt ≤ 1000000000) (hr1 : (y2).toInt ≤ 1000000000) : JMv l yX9_branch (Cond.code yX9_branch cX9_branch 8 none :: wwX) { frames := 1, cells := 1, slots := 6, locals := 22 } t3 D xw cI cJ ad [.ref (ad 4), .int y1, .int y2, .int y3] (xw cI cJ ad g lg ar bk) sz 1 6 (fun g' lg' ar' bk' => g = g' ∧ lg = lg' ∧ hk_fr [1] ar ar' ∧ bk = bk') (fun g' lg' ar' bk' => False) := by
  refine jx_metv (cc := cX9_branch) (maxL := 8) (ret := none) rfl (by decide) rfl (Nat.le_of_ble_eq_true rfl) ?_
  intro p e s m args below meth c ls Q A hx hb hml hown hts hA hZ hw hl hQ kr kt
  have hq : ∀ w ∈ wwX, w.before args s = true := fun w h => hts w (List.mem_cons_of_mem _ h)
  have hl : lv_has ls 8 [(0, .ref (ad 4)), (1, .int y1), (2, .int y2), (3, .int y3)] := hl
  refine lv_iload_n hx hb dX9_branch_0 rfl (lv_at hl 1 rfl) ?_
  refine lv_istore (lv' := [(4, .int y1), (0, .ref (ad 4)), (1, .int y1), (2, .int y2), (3, .int y3)]) hx hb dX9_branch_1 hl (by decide) rfl (fun ls hl => ?_)
  have B1 : ∀ (k4 : Nat) (x2 : Int32) (a3 : Nat → Nat → Int32) (ls : Array Slot) (H : Heap) (locs : List Loc), (2147483648 - (x2).toInt ≤ (k4 : Int)) → (-1000000000 ≤ (x2).toInt ∧ (x2).toInt ≤ 1000000010) → (hk_fr [1] ar a3) → hk_W D (jT cI cJ) A s H locs (xw cI cJ ad g lg a3 bk) → lv_has ls 8 [(0, .ref (ad 4)), (1, .int y1), (2, .int y2), (3, .int y3), (4, .int x2)] → W p l e { frames := 1, cells := 1, slots := 6, locals := 22 } s m args below meth c H locs 0 0 Q (F0 m 3 ls []) := by
    intro k4
    induction k4 with
    | zero =>
      intro x2 a3 ls H locs hrk_B1 hf_B1_0 hfr_a3 hw hl
      exact False.elim (hk_no0 (0 * (x2).toInt) (ob28 ((x2).toInt) hf_B1_0 hrk_B1 (hE_rng (x2))) (by simp))
    | succ k4 ih_B1 =>
      intro x2 a3 ls H locs hrk_B1 hf_B1_0 hfr_a3 hw hl
      have hrk_B1 := hk_rk hrk_B1
      refine lv_iload hx hb dX9_branch_3 (lv_at hl 4 rfl) ?_
      refine lv_iconst (v := 3) hx hb dX9_branch_5 (by decide) ?_
      refine lv_iadd hx hb dX9_branch_6 (jx_nm fun z5 hz5 => ?_)
      have xz5 : (z5).toInt = (x2).toInt + ((3 : Int32)).toInt := (hE_imp (hE_add hz5) (ob29 ((x2).toInt) (((3 : Int32)).toInt) (k4 : Int) hf_B1_0 hrk_B1 (hE_rng (x2)) (by decide)))
      refine lv_iload_n hx hb dX9_branch_7 rfl (lv_at hl 2 rfl) ?_
      refine lv_icmp_ge (tgt := 129) hx hb dX9_branch_8 (by decide) (fun cc6 => ?_) (fun cc6 => ?_)
      · exact kr g lg a3 bk _ _ _ _ ⟨rfl, rfl, hfr_a3, rfl⟩ hw dX9_branch_129
      · refine lv_aload_n hx hb dX9_branch_11 rfl (lv_at hl 0 rfl) ?_
        refine lv_iload hx hb dX9_branch_12 (lv_at hl 4 rfl) ?_
        refine lv_iconst (v := 3) hx hb dX9_branch_14 (by decide) ?_
        refine lv_iadd hx hb dX9_branch_15 (jx_nm fun z7 hz7 => ?_)
        have xz7 : (z7).toInt = (x2).toInt + ((3 : Int32)).toInt := (hE_imp (hE_add hz7) (ob30 ((x2).toInt) (((3 : Int32)).toInt) (k4 : Int) ((z5).toInt) ((y2).toInt) hf_B1_0 hrk_B1 xz5 (hE_nle cc6) hr1 (hE_rng (x2)) (by decide) (hE_rng (z5)) (hE_rng (y2))))
        refine jx_Vi (As := [.int z7]) (rest := []) ⟨hx, hb, hml, hown, hts⟩ hZ hw hA (jx_X9_get_4 l hlt D t3 cI cJ ad g lg a3 bk _ z7) (cwV 1 hts (jx_gV wwX_good wX_697 wX_22 wX_23 wX_24 wX_25) rfl rfl rfl (by decide +kernel) ⟨Nat.le_of_ble_eq_true rfl, Nat.le_of_ble_eq_true rfl⟩) 4 (ci := 12) (T := TX9) (N := 2) rfl rfl rfl hl.1 rfl (Nat.le_of_ble_eq_true rfl) dX9_branch_16 ⟨Nat.le_of_ble_eq_true rfl, Nat.le_of_ble_eq_true rfl⟩ (fun _ _ _ _ _ _ _ _ hp _ _ _ _ => hp.elim) (fun r12 g13 l14 a15 b16 H locs hp17 hw => ?_)
        obtain ⟨rfl, rfl, rfl, rfl⟩ := hp17
        refine lv_sipush (v := 235) hx hb dX9_branch_19 (by decide) ?_
        have B22 : ∀  (a23 : Nat → Nat → Int32) (ls : Array Slot) (H : Heap) (locs : List Loc), (hk_fr [1] a3 a23) → hk_W D (jT cI cJ) A s H locs (xw cI cJ ad g lg a23 bk) → lv_has ls 8 [(0, .ref (ad 4)), (1, .int y1), (2, .int y2), (3, .int y3), (4, .int x2)] → W p l e { frames := 1, cells := 1, slots := 6, locals := 22 } s m args below meth c H locs 0 0 Q (F0 m 123 ls []) := by
          intro a23 ls H locs hfr_a23 hw hl
          obtain ⟨z24, hz24⟩ : ∃ z : Int32, x2 + 4 = z := ⟨_, rfl⟩
          refine lv_iinc (v := z24) (lv' := [(4, .int z24), (0, .ref (ad 4)), (1, .int y1), (2, .int y2), (3, .int y3)]) hx hb dX9_branch_123 hl (k := 4) rfl hz24 (by decide) rfl (fun ls hl => ?_)
          have xz24 : (z24).toInt = (x2).toInt + ((4 : Int32)).toInt := (hE_imp (hE_add hz24) (ob31 ((x2).toInt) (((4 : Int32)).toInt) (k4 : Int) ((z5).toInt) (((3 : Int32)).toInt) ((z7).toInt) ((y2).toInt) hf_B1_0 hrk_B1 xz5 xz7 (hE_nle cc6) hr1 (hE_rng (x2)) (by decide) (hE_rng (z5)) (by decide) (hE_rng (z7)) (hE_rng (y2))))
          refine lv_goto (tgt := 3) hx hb dX9_branch_126 (by decide) ?_
          exact ih_B1 z24 a23 ls _ _ (ob32 ((z24).toInt) (k4 : Int) ((x2).toInt) (((4 : Int32)).toInt) ((z5).toInt) (((3 : Int32)).toInt) ((z7).toInt) ((y2).toInt) hrk_B1 xz24 hf_B1_0 xz5 xz7 (hE_nle cc6) hr1 (hE_rng (z24)) (hE_rng (x2)) (by decide) (hE_rng (z5)) (by decide) (hE_rng (z7)) (hE_rng (y2))) (ob33 ((z24).toInt) ((x2).toInt) (((4 : Int32)).toInt) (k4 : Int) ((z5).toInt) (((3 : Int32)).toInt) ((z7).toInt) ((y2).toInt) xz24 hf_B1_0 hrk_B1 xz5 xz7 (hE_nle cc6) hr1 (hE_rng (z24)) (hE_rng (x2)) (by decide) (hE_rng (z5)) (by decide) (hE_rng (z7)) (hE_rng (y2))) (hk_frT hfr_a3 (by decide) hfr_a23) hw (lv_sub hl [1, 2, 3, 4, 0] rfl)
        refine lv_icmp_ne (tgt := 123) hx hb dX9_branch_22 (by decide) (fun cc25 => ?_) (fun cc25 => ?_)
        · exact B22 a3 ls _ _ hk_fr0 hw (lv_sub hl [0, 1, 2, 3, 4] rfl)
        · refine lv_aload_n hx hb dX9_branch_25 rfl (lv_at hl 0 rfl) ?_
          refine lv_iload hx hb dX9_branch_26 (lv_at hl 4 rfl) ?_
          refine jx_Vi (As := [.int x2]) (rest := []) ⟨hx, hb, hml, hown, hts⟩ hZ hw hA (jx_X9_get_4 l hlt D t3 cI cJ ad g lg a3 bk _ x2) (cwV 1 hts (jx_gV wwX_good wX_697 wX_22 wX_23 wX_24 wX_25) rfl rfl rfl (by decide +kernel) ⟨Nat.le_of_ble_eq_true rfl, Nat.le_of_ble_eq_true rfl⟩) 4 (ci := 12) (T := TX9) (N := 2) rfl rfl rfl hl.1 rfl (Nat.le_of_ble_eq_true rfl) dX9_branch_28 ⟨Nat.le_of_ble_eq_true rfl, Nat.le_of_ble_eq_true rfl⟩ (fun _ _ _ _ _ _ _ _ hp _ _ _ _ => hp.elim) (fun r30 g31 l32 a33 b34 H locs hp35 hw => ?_)
          obtain ⟨rfl, rfl, rfl, rfl⟩ := hp35
          refine lv_aload_n hx hb dX9_branch_31 rfl (lv_at hl 0 rfl) ?_
          refine lv_iload hx hb dX9_branch_32 (lv_at hl 4 rfl) ?_
          refine lv_iconst (v := 1) hx hb dX9_branch_34 (by decide) ?_
          refine lv_iadd hx hb dX9_branch_35 (jx_nm fun z40 hz40 => ?_)
          have xz40 : (z40).toInt = (x2).toInt + ((1 : Int32)).toInt := (hE_imp (hE_add hz40) (ob34 ((x2).toInt) (((1 : Int32)).toInt) (k4 : Int) ((z5).toInt) (((3 : Int32)).toInt) ((z7).toInt) ((y2).toInt) hf_B1_0 hrk_B1 xz5 xz7 (hE_nle cc6) hr1 (hE_rng (x2)) (by decide) (hE_rng (z5)) (by decide) (hE_rng (z7)) (hE_rng (y2))))
          refine jx_Vi (As := [.int z40]) (rest := [.int r30]) ⟨hx, hb, hml, hown, hts⟩ hZ hw hA (jx_X9_get_4 l hlt D t3 cI cJ ad g lg a3 bk _ z40) (cwV 1 hts (jx_gV wwX_good wX_697 wX_22 wX_23 wX_24 wX_25) rfl rfl rfl (by decide +kernel) ⟨Nat.le_of_ble_eq_true rfl, Nat.le_of_ble_eq_true rfl⟩) 4 (ci := 12) (T := TX9) (N := 2) rfl rfl rfl hl.1 rfl (Nat.le_of_ble_eq_true rfl) dX9_branch_36 ⟨Nat.le_of_ble_eq_true rfl, Nat.le_of_ble_eq_true rfl⟩ (fun _ _ _ _ _ _ _ _ hp _ _ _ _ => hp.elim) (fun r45 g46 l47 a48 b49 H locs hp50 hw => ?_)
          obtain ⟨rfl, rfl, rfl, rfl⟩ := hp50
          refine lv_bipush (v := 8) hx hb dX9_branch_39 (by decide) ?_
          refine lv_ishl hx hb dX9_branch_41 (jx_nm fun z55 hz55 => ?_)
          refine lv_ior hx hb dX9_branch_42 (jx_nm fun z56 hz56 => ?_)
          refine lv_aload_n hx hb dX9_branch_43 rfl (lv_at hl 0 rfl) ?_
          refine lv_iload hx hb dX9_branch_44 (lv_at hl 4 rfl) ?_
          refine lv_iconst (v := 2) hx hb dX9_branch_46 (by decide) ?_
          refine lv_iadd hx hb dX9_branch_47 (jx_nm fun z57 hz57 => ?_)
          have xz57 : (z57).toInt = (x2).toInt + ((2 : Int32)).toInt := (hE_imp (hE_add hz57) (ob35 ((x2).toInt) (((2 : Int32)).toInt) (k4 : Int) ((z5).toInt) (((3 : Int32)).toInt) ((z7).toInt) ((z40).toInt) (((1 : Int32)).toInt) ((y2).toInt) hf_B1_0 hrk_B1 xz5 xz7 xz40 (hE_nle cc6) hr1 (hE_rng (x2)) (by decide) (hE_rng (z5)) (by decide) (hE_rng (z7)) (hE_rng (z40)) (by decide) (hE_rng (y2))))
          refine jx_Vi (As := [.int z57]) (rest := [.int z56]) ⟨hx, hb, hml, hown, hts⟩ hZ hw hA (jx_X9_get_4 l hlt D t3 cI cJ ad g lg a3 bk _ z57) (cwV 1 hts (jx_gV wwX_good wX_697 wX_22 wX_23 wX_24 wX_25) rfl rfl rfl (by decide +kernel) ⟨Nat.le_of_ble_eq_true rfl, Nat.le_of_ble_eq_true rfl⟩) 4 (ci := 12) (T := TX9) (N := 2) rfl rfl rfl hl.1 rfl (Nat.le_of_ble_eq_true rfl) dX9_branch_48 ⟨Nat.le_of_ble_eq_true rfl, Nat.le_of_ble_eq_true rfl⟩ (fun _ _ _ _ _ _ _ _ hp _ _ _ _ => hp.elim) (fun r62 g63 l64 a65 b66 H locs hp67 hw => ?_)
          obtain ⟨rfl, rfl, rfl, rfl⟩ := hp67
          refine lv_bipush (v := 16) hx hb dX9_branch_51 (by decide) ?_
          refine lv_ishl hx hb dX9_branch_53 (jx_nm fun z72 hz72 => ?_)
          refine lv_ior hx hb dX9_branch_54 (jx_nm fun z73 hz73 => ?_)
          refine lv_iconst (v := 2) hx hb dX9_branch_55 (by decide) ?_
          refine lv_ishl hx hb dX9_branch_56 (jx_nm fun z74 hz74 => ?_)
          refine lv_istore (lv' := [(5, .int z74), (0, .ref (ad 4)), (1, .int y1), (2, .int y2), (3, .int y3), (4, .int x2)]) hx hb dX9_branch_57 hl (by decide) rfl (fun ls hl => ?_)
          refine lv_iload hx hb dX9_branch_59 (lv_at hl 5 rfl) ?_
          refine lv_iload_n hx hb dX9_branch_61 rfl (lv_at hl 2 rfl) ?_
          refine lv_isub hx hb dX9_branch_62 (jx_nm fun z75 hz75 => ?_)
          have xz75 : (z75).toInt = (x2).toInt - (y1).toInt := (hE_imp (hE_sub hz75) (ob36 ((x2).toInt) ((y1).toInt) (k4 : Int) ((z5).toInt) (((3 : Int32)).toInt) ((z7).toInt) ((z40).toInt) (((1 : Int32)).toInt) ((z57).toInt) (((2 : Int32)).toInt) ((y2).toInt) hr0 hf_B1_0 hrk_B1 xz5 xz7 xz40 xz57 (hE_nle cc6) hr1 (hE_rng (x2)) (hE_rng (y1)) (hE_rng (z5)) (by decide) (hE_rng (z7)) (hE_rng (z40)) (by decide) (hE_rng (z57)) (by decide) (hE_rng (y2))))
          refine lv_bipush (v := 8) hx hb dX9_branch_63 (by decide) ?_
          refine lv_iadd hx hb dX9_branch_65 (jx_nm fun z76 hz76 => ?_)
          have xz76 : (z76).toInt = (z75).toInt + ((8 : Int32)).toInt := (hE_imp (hE_add hz76) (ob37 ((z75).toInt) (((8 : Int32)).toInt) ((x2).toInt) ((y1).toInt) (k4 : Int) ((z5).toInt) (((3 : Int32)).toInt) ((z7).toInt) ((z40).toInt) (((1 : Int32)).toInt) ((z57).toInt) (((2 : Int32)).toInt) ((y2).toInt) xz75 hr0 hf_B1_0 hrk_B1 xz5 xz7 xz40 xz57 (hE_nle cc6) hr1 (hE_rng (z75)) (by decide) (hE_rng (x2)) (hE_rng (y1)) (hE_rng (z5)) (by decide) (hE_rng (z7)) (hE_rng (z40)) (by decide) (hE_rng (z57)) (by decide) (hE_rng (y2))))
          refine lv_istore (lv' := [(6, .int z76), (5, .int z74), (0, .ref (ad 4)), (1, .int y1), (2, .int y2), (3, .int y3), (4, .int x2)]) hx hb dX9_branch_66 hl (by decide) rfl (fun ls hl => ?_)
          refine lv_iload_n hx hb dX9_branch_68 rfl (lv_at hl 5 rfl) ?_
          have B77 : ∀  (x78 : Int32) (ls : Array Slot) (H : Heap) (locs : List Loc), hk_W D (jT cI cJ) A s H locs (xw cI cJ ad g lg a3 bk) → lv_has ls 8 [(0, .ref (ad 4)), (1, .int y1), (2, .int y2), (3, .int y3), (4, .int x2)] → W p l e { frames := 1, cells := 1, slots := 6, locals := 22 } s m args below meth c H locs 0 0 Q (F0 m 85 ls [.int x78]) := by
            intro x78 ls H locs hw hl
            refine lv_iconst (v := 2) hx hb dX9_branch_85 (by decide) ?_
            refine lv_iushr hx hb dX9_branch_86 rfl (jx_nm fun z79 hz79 => ?_)
            refine lv_istore (lv' := [(7, .int z79), (0, .ref (ad 4)), (1, .int y1), (2, .int y2), (3, .int y3), (4, .int x2)]) hx hb dX9_branch_87 hl (by decide) rfl (fun ls hl => ?_)
            refine lv_aload_n hx hb dX9_branch_89 rfl (lv_at hl 1 rfl) ?_
            refine lv_iload hx hb dX9_branch_90 (lv_at hl 5 rfl) ?_
            refine lv_iload hx hb dX9_branch_92 (lv_at hl 0 rfl) ?_
            refine jx_Vv (As := [.int x2, .int z79]) (rest := []) ⟨hx, hb, hml, hown, hts⟩ hZ hw hA (jx_X9_set_4 l hlt D t3 cI cJ ad g lg a3 bk _ x2 z79) (cwV 2 hts (jx_gV wwX_good wX_698 wX_587 wX_588 wX_24 wX_589) rfl rfl rfl (by decide +kernel) ⟨Nat.le_of_ble_eq_true rfl, Nat.le_of_ble_eq_true rfl⟩) 4 (ci := 12) (T := TX9) (N := 2) rfl rfl rfl hl.1 rfl (Nat.le_of_ble_eq_true rfl) dX9_branch_94 ⟨Nat.le_of_ble_eq_true rfl, Nat.le_of_ble_eq_true rfl⟩ (fun _ _ _ _ _ _ _ _ hp _ _ _ _ => hp.elim) (fun g85 l86 a87 b88 H locs hp89 hw => ?_)
            obtain ⟨rfl, rfl, h92, rfl⟩ := hp89
            refine lv_aload_n hx hb dX9_branch_97 rfl (lv_at hl 1 rfl) ?_
            refine lv_iload hx hb dX9_branch_98 (lv_at hl 5 rfl) ?_
            refine lv_iconst (v := 1) hx hb dX9_branch_100 (by decide) ?_
            refine lv_iadd hx hb dX9_branch_101 (jx_nm fun z94 hz94 => ?_)
            have xz94 : (z94).toInt = (x2).toInt + ((1 : Int32)).toInt := (hE_imp (hE_add hz94) (ob38 ((x2).toInt) (((1 : Int32)).toInt) (k4 : Int) ((z5).toInt) (((3 : Int32)).toInt) ((z7).toInt) ((z40).toInt) ((z57).toInt) (((2 : Int32)).toInt) ((z75).toInt) ((y1).toInt) ((y2).toInt) ((z76).toInt) (((8 : Int32)).toInt) hf_B1_0 hrk_B1 xz5 xz7 xz40 xz57 xz75 hr0 (hE_nle cc6) xz76 hr1 (hE_rng (x2)) (by decide) (hE_rng (z5)) (by decide) (hE_rng (z7)) (hE_rng (z40)) (hE_rng (z57)) (by decide) (hE_rng (z75)) (hE_rng (y1)) (hE_rng (y2)) (hE_rng (z76)) (by decide)))
            refine lv_iload hx hb dX9_branch_102 (lv_at hl 0 rfl) ?_
            refine lv_bipush (v := 8) hx hb dX9_branch_104 (by decide) ?_
            refine lv_iushr hx hb dX9_branch_106 rfl (jx_nm fun z95 hz95 => ?_)
            refine jx_Vv (As := [.int z94, .int z95]) (rest := []) ⟨hx, hb, hml, hown, hts⟩ hZ hw hA (jx_X9_set_4 l hlt D t3 cI cJ ad g lg a87 bk _ z94 z95) (cwV 2 hts (jx_gV wwX_good wX_698 wX_587 wX_588 wX_24 wX_589) rfl rfl rfl (by decide +kernel) ⟨Nat.le_of_ble_eq_true rfl, Nat.le_of_ble_eq_true rfl⟩) 4 (ci := 12) (T := TX9) (N := 2) rfl rfl rfl hl.1 rfl (Nat.le_of_ble_eq_true rfl) dX9_branch_107 ⟨Nat.le_of_ble_eq_true rfl, Nat.le_of_ble_eq_true rfl⟩ (fun _ _ _ _ _ _ _ _ hp _ _ _ _ => hp.elim) (fun g101 l102 a103 b104 H locs hp105 hw => ?_)
            obtain ⟨rfl, rfl, h108, rfl⟩ := hp105
            refine lv_aload_n hx hb dX9_branch_110 rfl (lv_at hl 1 rfl) ?_
            refine lv_iload hx hb dX9_branch_111 (lv_at hl 5 rfl) ?_
            refine lv_iconst (v := 2) hx hb dX9_branch_113 (by decide) ?_
            refine lv_iadd hx hb dX9_branch_114 (jx_nm fun z110 hz110 => ?_)
            have xz110 : (z110).toInt = (x2).toInt + ((2 : Int32)).toInt := (hE_imp (hE_add hz110) (ob39 ((x2).toInt) (((2 : Int32)).toInt) (k4 : Int) ((z5).toInt) (((3 : Int32)).toInt) ((z7).toInt) ((z40).toInt) (((1 : Int32)).toInt) ((z57).toInt) ((z75).toInt) ((y1).toInt) ((z94).toInt) ((y2).toInt) ((z76).toInt) (((8 : Int32)).toInt) hf_B1_0 hrk_B1 xz5 xz7 xz40 xz57 xz75 xz94 hr0 (hE_nle cc6) xz76 hr1 (hE_rng (x2)) (by decide) (hE_rng (z5)) (by decide) (hE_rng (z7)) (hE_rng (z40)) (by decide) (hE_rng (z57)) (hE_rng (z75)) (hE_rng (y1)) (hE_rng (z94)) (hE_rng (y2)) (hE_rng (z76)) (by decide)))
            refine lv_iload hx hb dX9_branch_115 (lv_at hl 0 rfl) ?_
            refine lv_bipush (v := 16) hx hb dX9_branch_117 (by decide) ?_
            refine lv_iushr hx hb dX9_branch_119 rfl (jx_nm fun z111 hz111 => ?_)
            refine jx_Vv (As := [.int z110, .int z111]) (rest := []) ⟨hx, hb, hml, hown, hts⟩ hZ hw hA (jx_X9_set_4 l hlt D t3 cI cJ ad g lg a103 bk _ z110 z111) (cwV 2 hts (jx_gV wwX_good wX_698 wX_587 wX_588 wX_24 wX_589) rfl rfl rfl (by decide +kernel) ⟨Nat.le_of_ble_eq_true rfl, Nat.le_of_ble_eq_true rfl⟩) 4 (ci := 12) (T := TX9) (N := 2) rfl rfl rfl hl.1 rfl (Nat.le_of_ble_eq_true rfl) dX9_branch_120 ⟨Nat.le_of_ble_eq_true rfl, Nat.le_of_ble_eq_true rfl⟩ (fun _ _ _ _ _ _ _ _ hp _ _ _ _ => hp.elim) (fun g117 l118 a119 b120 H locs hp121 hw => ?_)
            obtain ⟨rfl, rfl, h124, rfl⟩ := hp121
            exact B22 a119 ls _ _ (hk_frT (hk_frT h92 (by decide) h108) (by decide) h124) hw (lv_sub hl [1, 2, 3, 4, 5] rfl)
          refine lv_if_eq (tgt := 80) hx hb dX9_branch_69 (by decide) (fun cc126 => ?_) (fun cc126 => ?_)
          · refine lv_iload hx hb dX9_branch_80 (lv_at hl 1 rfl) ?_
            refine lv_iload hx hb dX9_branch_82 (lv_at hl 0 rfl) ?_
            refine lv_iadd hx hb dX9_branch_84 (jx_nm fun z127 hz127 => ?_)
            exact B77 z127 ls _ _ hw (lv_sub hl [2, 3, 4, 5, 6] rfl)
          · refine lv_iload hx hb dX9_branch_72 (lv_at hl 1 rfl) ?_
            refine lv_iload hx hb dX9_branch_74 (lv_at hl 0 rfl) ?_
            refine lv_isub hx hb dX9_branch_76 (jx_nm fun z128 hz128 => ?_)
            refine lv_goto (tgt := 85) hx hb dX9_branch_77 (by decide) ?_
            exact B77 z128 ls _ _ hw (lv_sub hl [2, 3, 4, 5, 6] rfl)
  exact B1 (2147483648 - (y1).toInt).toNat y1 ar ls _ _ (Int.self_le_toNat _) (ob40 ((y1).toInt) hr0 (hE_rng (y1))) hk_fr0 hw (lv_sub hl [1, 2, 3, 4, 0] rfl)
