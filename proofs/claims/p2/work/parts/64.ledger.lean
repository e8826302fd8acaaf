/-! 64.ledger -/
theorem ob170 (v0 : Int) (v1 : Int) (h0 : v0 = v1) (h1 : -2147483648 ≤ v0 ∧ v0 ≤ 2147483647) (h2 : v1 = 0) : 0 ≤ v0 ∧ v0 ≤ 200 := by omega
theorem ob171 (v0 : Int) (v1 : Int) (v2 : Int) (h0 : v1 ≤ v0) (h1 : v0 < v2) (h2 : -2147483648 ≤ v0 ∧ v0 ≤ 2147483647) (h3 : v1 = 0) (h4 : v2 = 2000) : -2147483648 ≤ v0 * 4 ∧ v0 * 4 ≤ 2147483647 := by omega
theorem ob172 (v0 : Int) (v1 : Int) (v2 : Int) (v3 : Int) (h0 : v0 = v1 * 4) (h1 : v2 ≤ v1) (h2 : v1 < v3) (h3 : -2147483648 ≤ v0 ∧ v0 ≤ 2147483647) (h4 : -2147483648 ≤ v1 ∧ v1 ≤ 2147483647) (h5 : v2 = 0) (h6 : v3 = 2000) : 0 ≤ v0 ∧ v0 < (8000 : Nat) := by omega
theorem ob173 (v0 : Int) (v1 : Int) (v2 : Int) (v3 : Int) (v4 : Int) (h0 : v0 = v2 * 4) (h1 : v3 ≤ v2) (h2 : v2 < v4) (h3 : -2147483648 ≤ v0 ∧ v0 ≤ 2147483647) (h4 : v1 = 1) (h5 : -2147483648 ≤ v2 ∧ v2 ≤ 2147483647) (h6 : v3 = 0) (h7 : v4 = 2000) : -2147483648 ≤ v0 + v1 ∧ v0 + v1 ≤ 2147483647 := by omega
theorem ob174 (v0 : Int) (v1 : Int) (v2 : Int) (v3 : Int) (v4 : Int) (v5 : Int) (h0 : v0 = v1 + v2) (h1 : v1 = v3 * 4) (h2 : v4 ≤ v3) (h3 : v3 < v5) (h4 : -2147483648 ≤ v0 ∧ v0 ≤ 2147483647) (h5 : -2147483648 ≤ v1 ∧ v1 ≤ 2147483647) (h6 : v2 = 1) (h7 : -2147483648 ≤ v3 ∧ v3 ≤ 2147483647) (h8 : v4 = 0) (h9 : v5 = 2000) : 0 ≤ v0 ∧ v0 < (8000 : Nat) := by omega
theorem ob175 (v0 : Int) (v1 : Int) (v2 : Int) (v3 : Int) (v4 : Int) (v5 : Int) (v6 : Int) (h0 : v0 = v2 * 4) (h1 : v3 = v0 + v4) (h2 : v5 ≤ v2) (h3 : v2 < v6) (h4 : -2147483648 ≤ v0 ∧ v0 ≤ 2147483647) (h5 : v1 = 2) (h6 : -2147483648 ≤ v2 ∧ v2 ≤ 2147483647) (h7 : -2147483648 ≤ v3 ∧ v3 ≤ 2147483647) (h8 : v4 = 1) (h9 : v5 = 0) (h10 : v6 = 2000) : -2147483648 ≤ v0 + v1 ∧ v0 + v1 ≤ 2147483647 := by omega
theorem ob176 (v0 : Int) (v1 : Int) (v2 : Int) (v3 : Int) (v4 : Int) (v5 : Int) (v6 : Int) (v7 : Int) (h0 : v0 = v1 + v2) (h1 : v1 = v3 * 4) (h2 : v4 = v1 + v5) (h3 : v6 ≤ v3) (h4 : v3 < v7) (h5 : -2147483648 ≤ v0 ∧ v0 ≤ 2147483647) (h6 : -2147483648 ≤ v1 ∧ v1 ≤ 2147483647) (h7 : v2 = 2) (h8 : -2147483648 ≤ v3 ∧ v3 ≤ 2147483647) (h9 : -2147483648 ≤ v4 ∧ v4 ≤ 2147483647) (h10 : v5 = 1) (h11 : v6 = 0) (h12 : v7 = 2000) : 0 ≤ v0 ∧ v0 < (8000 : Nat) := by omega
theorem ob177 (v0 : Int) (v1 : Int) (v2 : Int) (v3 : Int) (v4 : Int) (v5 : Int) (v6 : Int) (v7 : Int) (v8 : Int) (h0 : v0 = v2 * 4) (h1 : v3 = v0 + v4) (h2 : v5 = v0 + v6) (h3 : v7 ≤ v2) (h4 : v2 < v8) (h5 : -2147483648 ≤ v0 ∧ v0 ≤ 2147483647) (h6 : v1 = 3) (h7 : -2147483648 ≤ v2 ∧ v2 ≤ 2147483647) (h8 : -2147483648 ≤ v3 ∧ v3 ≤ 2147483647) (h9 : v4 = 1) (h10 : -2147483648 ≤ v5 ∧ v5 ≤ 2147483647) (h11 : v6 = 2) (h12 : v7 = 0) (h13 : v8 = 2000) : -2147483648 ≤ v0 + v1 ∧ v0 + v1 ≤ 2147483647 := by omega
theorem ob178 (v0 : Int) (v1 : Int) (v2 : Int) (v3 : Int) (v4 : Int) (v5 : Int) (v6 : Int) (v7 : Int) (v8 : Int) (v9 : Int) (h0 : v0 = v1 + v2) (h1 : v1 = v3 * 4) (h2 : v4 = v1 + v5) (h3 : v6 = v1 + v7) (h4 : v8 ≤ v3) (h5 : v3 < v9) (h6 : -2147483648 ≤ v0 ∧ v0 ≤ 2147483647) (h7 : -2147483648 ≤ v1 ∧ v1 ≤ 2147483647) (h8 : v2 = 3) (h9 : -2147483648 ≤ v3 ∧ v3 ≤ 2147483647) (h10 : -2147483648 ≤ v4 ∧ v4 ≤ 2147483647) (h11 : v5 = 1) (h12 : -2147483648 ≤ v6 ∧ v6 ≤ 2147483647) (h13 : v7 = 2) (h14 : v8 = 0) (h15 : v9 = 2000) : 0 ≤ v0 ∧ v0 < (8000 : Nat) := by omega
theorem ob179 (v0 : Int) (v1 : Int) (v2 : Int) (v3 : Int) (v4 : Int) (v5 : Int) (h0 : v1 ≤ v0) (h1 : v0 < v2) (h2 : v0 < v3) (h3 : v1 ≤ v4) (h4 : v4 ≤ v5) (h5 : -2147483648 ≤ v0 ∧ v0 ≤ 2147483647) (h6 : v1 = 0) (h7 : -2147483648 ≤ v2 ∧ v2 ≤ 2147483647) (h8 : v3 = 2000) (h9 : -2147483648 ≤ v4 ∧ v4 ≤ 2147483647) (h10 : v5 = 3) : -2147483648 ≤ v0 * 4 ∧ v0 * 4 ≤ 2147483647 := by omega
theorem ob180 (v0 : Int) (v1 : Int) (v2 : Int) (v3 : Int) (v4 : Int) (v5 : Int) (v6 : Int) (h0 : v2 ≤ v1) (h1 : v1 ≤ v3) (h2 : v0 = v4 * 4) (h3 : v2 ≤ v4) (h4 : v4 < v5) (h5 : v4 < v6) (h6 : -2147483648 ≤ v0 ∧ v0 ≤ 2147483647) (h7 : -2147483648 ≤ v1 ∧ v1 ≤ 2147483647) (h8 : v2 = 0) (h9 : v3 = 3) (h10 : -2147483648 ≤ v4 ∧ v4 ≤ 2147483647) (h11 : -2147483648 ≤ v5 ∧ v5 ≤ 2147483647) (h12 : v6 = 2000) : -2147483648 ≤ v0 + v1 ∧ v0 + v1 ≤ 2147483647 := by omega
theorem ob181 (v0 : Int) (v1 : Int) (v2 : Int) (v3 : Int) (v4 : Int) (v5 : Int) (v6 : Int) (v7 : Int) (h0 : v0 = v1 + v2) (h1 : v3 ≤ v2) (h2 : v2 ≤ v4) (h3 : v1 = v5 * 4) (h4 : v3 ≤ v5) (h5 : v5 < v6) (h6 : v5 < v7) (h7 : -2147483648 ≤ v0 ∧ v0 ≤ 2147483647) (h8 : -2147483648 ≤ v1 ∧ v1 ≤ 2147483647) (h9 : -2147483648 ≤ v2 ∧ v2 ≤ 2147483647) (h10 : v3 = 0) (h11 : v4 = 3) (h12 : -2147483648 ≤ v5 ∧ v5 ≤ 2147483647) (h13 : -2147483648 ≤ v6 ∧ v6 ≤ 2147483647) (h14 : v7 = 2000) : 0 ≤ v0 ∧ v0 < (8000 : Nat) := by omega
theorem ob182 (v0 : Int) (v1 : Int) (h0 : 0 ≤ v0 ∧ v0 ≤ 200) (h1 : v0 < v1) (h2 : -2147483648 ≤ v0 ∧ v0 ≤ 2147483647) (h3 : v1 = 0) : 0 ≤ v0 ∧ v0 ≤ 200 := by omega
theorem ob183 (v0 : Int) (v1 : Int) (v2 : Int) (h0 : 0 ≤ v0 ∧ v0 ≤ 200) (h1 : v1 ≤ v0) (h2 : v2 ≤ v0) (h3 : -2147483648 ≤ v0 ∧ v0 ≤ 2147483647) (h4 : v1 = 0) (h5 : v2 = 200) : 0 ≤ v0 ∧ v0 ≤ 200 := by omega
theorem ob184 (v0 : Int) (v1 : Int) (v2 : Int) (h0 : 0 ≤ v0 ∧ v0 ≤ 200) (h1 : v1 ≤ v0) (h2 : v0 < v2) (h3 : -2147483648 ≤ v0 ∧ v0 ≤ 2147483647) (h4 : v1 = 0) (h5 : v2 = 200) : -2147483648 ≤ v0 * 5 ∧ v0 * 5 ≤ 2147483647 := by omega
theorem ob185 (v0 : Int) (v1 : Int) (v2 : Int) (v3 : Int) (h0 : v0 = v1 * 5) (h1 : 0 ≤ v1 ∧ v1 ≤ 200) (h2 : v2 ≤ v1) (h3 : v1 < v3) (h4 : -2147483648 ≤ v0 ∧ v0 ≤ 2147483647) (h5 : -2147483648 ≤ v1 ∧ v1 ≤ 2147483647) (h6 : v2 = 0) (h7 : v3 = 200) : 0 ≤ v0 ∧ v0 < (1000 : Nat) := by omega
theorem ob186 (v0 : Int) (v1 : Int) (v2 : Int) (v3 : Int) (v4 : Int) (h0 : v0 = v2 * 5) (h1 : 0 ≤ v2 ∧ v2 ≤ 200) (h2 : v3 ≤ v2) (h3 : v2 < v4) (h4 : -2147483648 ≤ v0 ∧ v0 ≤ 2147483647) (h5 : -2147483648 ≤ v1 ∧ v1 ≤ 2147483647) (h6 : -2147483648 ≤ v2 ∧ v2 ≤ 2147483647) (h7 : v3 = 0) (h8 : v4 = 200) : 0 ≤ v0 ∧ (v0 % 5 = 3 → -3000 ≤ v1 ∧ v1 ≤ 3000) := by omega
theorem ob187 (v0 : Int) (v1 : Int) (v2 : Int) (v3 : Int) (v4 : Int) (h0 : v0 = v2 * 5) (h1 : 0 ≤ v2 ∧ v2 ≤ 200) (h2 : v3 ≤ v2) (h3 : v2 < v4) (h4 : -2147483648 ≤ v0 ∧ v0 ≤ 2147483647) (h5 : v1 = 1) (h6 : -2147483648 ≤ v2 ∧ v2 ≤ 2147483647) (h7 : v3 = 0) (h8 : v4 = 200) : -2147483648 ≤ v0 + v1 ∧ v0 + v1 ≤ 2147483647 := by omega
theorem ob188 (v0 : Int) (v1 : Int) (v2 : Int) (v3 : Int) (v4 : Int) (v5 : Int) (h0 : v0 = v1 + v2) (h1 : v1 = v3 * 5) (h2 : 0 ≤ v3 ∧ v3 ≤ 200) (h3 : v4 ≤ v3) (h4 : v3 < v5) (h5 : -2147483648 ≤ v0 ∧ v0 ≤ 2147483647) (h6 : -2147483648 ≤ v1 ∧ v1 ≤ 2147483647) (h7 : v2 = 1) (h8 : -2147483648 ≤ v3 ∧ v3 ≤ 2147483647) (h9 : v4 = 0) (h10 : v5 = 200) : 0 ≤ v0 ∧ v0 < (1000 : Nat) := by omega
theorem ob189 (v0 : Int) (v1 : Int) (v2 : Int) (v3 : Int) (v4 : Int) (v5 : Int) (v6 : Int) (h0 : v0 = v2 + v3) (h1 : v2 = v4 * 5) (h2 : 0 ≤ v4 ∧ v4 ≤ 200) (h3 : v5 ≤ v4) (h4 : v4 < v6) (h5 : -2147483648 ≤ v0 ∧ v0 ≤ 2147483647) (h6 : -2147483648 ≤ v1 ∧ v1 ≤ 2147483647) (h7 : -2147483648 ≤ v2 ∧ v2 ≤ 2147483647) (h8 : v3 = 1) (h9 : -2147483648 ≤ v4 ∧ v4 ≤ 2147483647) (h10 : v5 = 0) (h11 : v6 = 200) : 0 ≤ v0 ∧ (v0 % 5 = 3 → -3000 ≤ v1 ∧ v1 ≤ 3000) := by omega
theorem ob190 (v0 : Int) (v1 : Int) (v2 : Int) (v3 : Int) (v4 : Int) (v5 : Int) (v6 : Int) (h0 : v0 = v2 * 5) (h1 : v3 = v0 + v4) (h2 : 0 ≤ v2 ∧ v2 ≤ 200) (h3 : v5 ≤ v2) (h4 : v2 < v6) (h5 : -2147483648 ≤ v0 ∧ v0 ≤ 2147483647) (h6 : v1 = 2) (h7 : -2147483648 ≤ v2 ∧ v2 ≤ 2147483647) (h8 : -2147483648 ≤ v3 ∧ v3 ≤ 2147483647) (h9 : v4 = 1) (h10 : v5 = 0) (h11 : v6 = 200) : -2147483648 ≤ v0 + v1 ∧ v0 + v1 ≤ 2147483647 := by omega
theorem ob191 (v0 : Int) (v1 : Int) (v2 : Int) (v3 : Int) (v4 : Int) (v5 : Int) (v6 : Int) (v7 : Int) (h0 : v0 = v1 + v2) (h1 : v1 = v3 * 5) (h2 : v4 = v1 + v5) (h3 : 0 ≤ v3 ∧ v3 ≤ 200) (h4 : v6 ≤ v3) (h5 : v3 < v7) (h6 : -2147483648 ≤ v0 ∧ v0 ≤ 2147483647) (h7 : -2147483648 ≤ v1 ∧ v1 ≤ 2147483647) (h8 : v2 = 2) (h9 : -2147483648 ≤ v3 ∧ v3 ≤ 2147483647) (h10 : -2147483648 ≤ v4 ∧ v4 ≤ 2147483647) (h11 : v5 = 1) (h12 : v6 = 0) (h13 : v7 = 200) : 0 ≤ v0 ∧ v0 < (1000 : Nat) := by omega
theorem ob192 (v0 : Int) (v1 : Int) (v2 : Int) (v3 : Int) (v4 : Int) (v5 : Int) (v6 : Int) (v7 : Int) (v8 : Int) (h0 : v0 = v2 + v3) (h1 : v2 = v4 * 5) (h2 : v5 = v2 + v6) (h3 : 0 ≤ v4 ∧ v4 ≤ 200) (h4 : v7 ≤ v4) (h5 : v4 < v8) (h6 : -2147483648 ≤ v0 ∧ v0 ≤ 2147483647) (h7 : -2147483648 ≤ v1 ∧ v1 ≤ 2147483647) (h8 : -2147483648 ≤ v2 ∧ v2 ≤ 2147483647) (h9 : v3 = 2) (h10 : -2147483648 ≤ v4 ∧ v4 ≤ 2147483647) (h11 : -2147483648 ≤ v5 ∧ v5 ≤ 2147483647) (h12 : v6 = 1) (h13 : v7 = 0) (h14 : v8 = 200) : 0 ≤ v0 ∧ (v0 % 5 = 3 → -3000 ≤ v1 ∧ v1 ≤ 3000) := by omega
theorem ob193 (v0 : Int) (v1 : Int) (v2 : Int) (v3 : Int) (v4 : Int) (v5 : Int) (v6 : Int) (v7 : Int) (v8 : Int) (h0 : v0 = v2 * 5) (h1 : v3 = v0 + v4) (h2 : v5 = v0 + v6) (h3 : 0 ≤ v2 ∧ v2 ≤ 200) (h4 : v7 ≤ v2) (h5 : v2 < v8) (h6 : -2147483648 ≤ v0 ∧ v0 ≤ 2147483647) (h7 : v1 = 3) (h8 : -2147483648 ≤ v2 ∧ v2 ≤ 2147483647) (h9 : -2147483648 ≤ v3 ∧ v3 ≤ 2147483647) (h10 : v4 = 1) (h11 : -2147483648 ≤ v5 ∧ v5 ≤ 2147483647) (h12 : v6 = 2) (h13 : v7 = 0) (h14 : v8 = 200) : -2147483648 ≤ v0 + v1 ∧ v0 + v1 ≤ 2147483647 := by omega
theorem ob194 (v0 : Int) (v1 : Int) (v2 : Int) (v3 : Int) (v4 : Int) (v5 : Int) (v6 : Int) (v7 : Int) (v8 : Int) (v9 : Int) (h0 : v0 = v1 + v2) (h1 : v1 = v3 * 5) (h2 : v4 = v1 + v5) (h3 : v6 = v1 + v7) (h4 : 0 ≤ v3 ∧ v3 ≤ 200) (h5 : v8 ≤ v3) (h6 : v3 < v9) (h7 : -2147483648 ≤ v0 ∧ v0 ≤ 2147483647) (h8 : -2147483648 ≤ v1 ∧ v1 ≤ 2147483647) (h9 : v2 = 3) (h10 : -2147483648 ≤ v3 ∧ v3 ≤ 2147483647) (h11 : -2147483648 ≤ v4 ∧ v4 ≤ 2147483647) (h12 : v5 = 1) (h13 : -2147483648 ≤ v6 ∧ v6 ≤ 2147483647) (h14 : v7 = 2) (h15 : v8 = 0) (h16 : v9 = 200) : 0 ≤ v0 ∧ v0 < (1000 : Nat) := by omega
theorem ob195 (v0 : Int) (v1 : Int) (v2 : Int) (v3 : Int) (v4 : Int) (v5 : Int) (v6 : Int) (v7 : Int) (v8 : Int) (v9 : Int) (v10 : Int) (h0 : -3000 ≤ v1 ∧ v1 ≤ 3000) (h1 : v0 = v2 + v3) (h2 : v2 = v4 * 5) (h3 : v5 = v2 + v6) (h4 : v7 = v2 + v8) (h5 : 0 ≤ v4 ∧ v4 ≤ 200) (h6 : v9 ≤ v4) (h7 : v4 < v10) (h8 : -2147483648 ≤ v0 ∧ v0 ≤ 2147483647) (h9 : -2147483648 ≤ v1 ∧ v1 ≤ 2147483647) (h10 : -2147483648 ≤ v2 ∧ v2 ≤ 2147483647) (h11 : v3 = 3) (h12 : -2147483648 ≤ v4 ∧ v4 ≤ 2147483647) (h13 : -2147483648 ≤ v5 ∧ v5 ≤ 2147483647) (h14 : v6 = 1) (h15 : -2147483648 ≤ v7 ∧ v7 ≤ 2147483647) (h16 : v8 = 2) (h17 : v9 = 0) (h18 : v10 = 200) : 0 ≤ v0 ∧ (v0 % 5 = 3 → -3000 ≤ v1 ∧ v1 ≤ 3000) := by omega
theorem ob196 (v0 : Int) (v1 : Int) (v2 : Int) (v3 : Int) (v4 : Int) (v5 : Int) (v6 : Int) (v7 : Int) (v8 : Int) (v9 : Int) (v10 : Int) (h0 : v0 = v2 * 5) (h1 : v3 = v0 + v4) (h2 : v5 = v0 + v6) (h3 : v7 = v0 + v8) (h4 : 0 ≤ v2 ∧ v2 ≤ 200) (h5 : v9 ≤ v2) (h6 : v2 < v10) (h7 : -2147483648 ≤ v0 ∧ v0 ≤ 2147483647) (h8 : v1 = 4) (h9 : -2147483648 ≤ v2 ∧ v2 ≤ 2147483647) (h10 : -2147483648 ≤ v3 ∧ v3 ≤ 2147483647) (h11 : v4 = 1) (h12 : -2147483648 ≤ v5 ∧ v5 ≤ 2147483647) (h13 : v6 = 2) (h14 : -2147483648 ≤ v7 ∧ v7 ≤ 2147483647) (h15 : v8 = 3) (h16 : v9 = 0) (h17 : v10 = 200) : -2147483648 ≤ v0 + v1 ∧ v0 + v1 ≤ 2147483647 := by omega
theorem ob197 (v0 : Int) (v1 : Int) (v2 : Int) (v3 : Int) (v4 : Int) (v5 : Int) (v6 : Int) (v7 : Int) (v8 : Int) (v9 : Int) (v10 : Int) (v11 : Int) (h0 : v0 = v1 + v2) (h1 : v1 = v3 * 5) (h2 : v4 = v1 + v5) (h3 : v6 = v1 + v7) (h4 : v8 = v1 + v9) (h5 : 0 ≤ v3 ∧ v3 ≤ 200) (h6 : v10 ≤ v3) (h7 : v3 < v11) (h8 : -2147483648 ≤ v0 ∧ v0 ≤ 2147483647) (h9 : -2147483648 ≤ v1 ∧ v1 ≤ 2147483647) (h10 : v2 = 4) (h11 : -2147483648 ≤ v3 ∧ v3 ≤ 2147483647) (h12 : -2147483648 ≤ v4 ∧ v4 ≤ 2147483647) (h13 : v5 = 1) (h14 : -2147483648 ≤ v6 ∧ v6 ≤ 2147483647) (h15 : v7 = 2) (h16 : -2147483648 ≤ v8 ∧ v8 ≤ 2147483647) (h17 : v9 = 3) (h18 : v10 = 0) (h19 : v11 = 200) : 0 ≤ v0 ∧ v0 < (1000 : Nat) := by omega
theorem ob198 (v0 : Int) (v1 : Int) (v2 : Int) (v3 : Int) (v4 : Int) (v5 : Int) (v6 : Int) (v7 : Int) (v8 : Int) (v9 : Int) (v10 : Int) (v11 : Int) (v12 : Int) (h0 : v0 = v2 + v3) (h1 : v2 = v4 * 5) (h2 : v5 = v2 + v6) (h3 : v7 = v2 + v8) (h4 : v9 = v2 + v10) (h5 : 0 ≤ v4 ∧ v4 ≤ 200) (h6 : v11 ≤ v4) (h7 : v4 < v12) (h8 : -2147483648 ≤ v0 ∧ v0 ≤ 2147483647) (h9 : -2147483648 ≤ v1 ∧ v1 ≤ 2147483647) (h10 : -2147483648 ≤ v2 ∧ v2 ≤ 2147483647) (h11 : v3 = 4) (h12 : -2147483648 ≤ v4 ∧ v4 ≤ 2147483647) (h13 : -2147483648 ≤ v5 ∧ v5 ≤ 2147483647) (h14 : v6 = 1) (h15 : -2147483648 ≤ v7 ∧ v7 ≤ 2147483647) (h16 : v8 = 2) (h17 : -2147483648 ≤ v9 ∧ v9 ≤ 2147483647) (h18 : v10 = 3) (h19 : v11 = 0) (h20 : v12 = 200) : 0 ≤ v0 ∧ (v0 % 5 = 3 → -3000 ≤ v1 ∧ v1 ≤ 3000) := by omega
theorem ob199 (v0 : Int) (v1 : Int) (v2 : Int) (v3 : Int) (v4 : Int) (v5 : Int) (v6 : Int) (v7 : Int) (v8 : Int) (v9 : Int) (v10 : Int) (v11 : Int) (h0 : 0 ≤ v0 ∧ v0 ≤ 200) (h1 : v2 ≤ v0) (h2 : v0 < v3) (h3 : v4 = v0 * 5) (h4 : v5 = v4 + v1) (h5 : v6 = v4 + v7) (h6 : v8 = v4 + v9) (h7 : v10 = v4 + v11) (h8 : -2147483648 ≤ v0 ∧ v0 ≤ 2147483647) (h9 : v1 = 1) (h10 : v2 = 0) (h11 : v3 = 200) (h12 : -2147483648 ≤ v4 ∧ v4 ≤ 2147483647) (h13 : -2147483648 ≤ v5 ∧ v5 ≤ 2147483647) (h14 : -2147483648 ≤ v6 ∧ v6 ≤ 2147483647) (h15 : v7 = 2) (h16 : -2147483648 ≤ v8 ∧ v8 ≤ 2147483647) (h17 : v9 = 3) (h18 : -2147483648 ≤ v10 ∧ v10 ≤ 2147483647) (h19 : v11 = 4) : -2147483648 ≤ v0 + v1 ∧ v0 + v1 ≤ 2147483647 := by omega
theorem ob200 (v0 : Int) (v1 : Int) (v2 : Int) (v3 : Int) (v4 : Int) (v5 : Int) (v6 : Int) (v7 : Int) (v8 : Int) (v9 : Int) (v10 : Int) (v11 : Int) (v12 : Int) (v13 : Int) (h0 : v0 = v1) (h1 : v1 = v2 + v3) (h2 : 0 ≤ v2 ∧ v2 ≤ 200) (h3 : v4 ≤ v2) (h4 : v2 < v5) (h5 : v6 = v2 * 5) (h6 : v7 = v6 + v3) (h7 : v8 = v6 + v9) (h8 : v10 = v6 + v11) (h9 : v12 = v6 + v13) (h10 : -2147483648 ≤ v0 ∧ v0 ≤ 2147483647) (h11 : -2147483648 ≤ v1 ∧ v1 ≤ 2147483647) (h12 : -2147483648 ≤ v2 ∧ v2 ≤ 2147483647) (h13 : v3 = 1) (h14 : v4 = 0) (h15 : v5 = 200) (h16 : -2147483648 ≤ v6 ∧ v6 ≤ 2147483647) (h17 : -2147483648 ≤ v7 ∧ v7 ≤ 2147483647) (h18 : -2147483648 ≤ v8 ∧ v8 ≤ 2147483647) (h19 : v9 = 2) (h20 : -2147483648 ≤ v10 ∧ v10 ≤ 2147483647) (h21 : v11 = 3) (h22 : -2147483648 ≤ v12 ∧ v12 ≤ 2147483647) (h23 : v13 = 4) : 0 ≤ v0 ∧ v0 ≤ 200 := by omega
theorem ob201 (v0 : Int) (v1 : Int) (h0 : -2147483648 ≤ v0 ∧ v0 ≤ 2147483647) (h1 : v1 = (-1)) : v0 = 3 → -3000 ≤ v1 ∧ v1 ≤ 3000 := by omega
theorem ob202 (v0 : Int) (v1 : Int) (v2 : Int) (v3 : Int) (v4 : Int) (v5 : Int) (h0 : v0 < v2) (h1 : v2 ≤ v3) (h2 : v3 < v4) (h3 : v3 < v5) (h4 : -2147483648 ≤ v0 ∧ v0 ≤ 2147483647) (h5 : v1 = (-1)) (h6 : v2 = 0) (h7 : -2147483648 ≤ v3 ∧ v3 ≤ 2147483647) (h8 : -2147483648 ≤ v4 ∧ v4 ≤ 2147483647) (h9 : v5 = 200) : v0 = 3 → -3000 ≤ v1 ∧ v1 ≤ 3000 := by omega
theorem ob203 (v0 : Int) (v1 : Int) (v2 : Int) (v3 : Int) (v4 : Int) (v5 : Int) (h0 : v1 ≤ v0) (h1 : v0 < v2) (h2 : v0 < v3) (h3 : v1 ≤ v4) (h4 : v4 ≤ v5) (h5 : -2147483648 ≤ v0 ∧ v0 ≤ 2147483647) (h6 : v1 = 0) (h7 : -2147483648 ≤ v2 ∧ v2 ≤ 2147483647) (h8 : v3 = 200) (h9 : -2147483648 ≤ v4 ∧ v4 ≤ 2147483647) (h10 : v5 = 4) : -2147483648 ≤ v0 * 5 ∧ v0 * 5 ≤ 2147483647 := by omega
theorem ob204 (v0 : Int) (v1 : Int) (v2 : Int) (v3 : Int) (v4 : Int) (v5 : Int) (v6 : Int) (h0 : v2 ≤ v1) (h1 : v1 ≤ v3) (h2 : v0 = v4 * 5) (h3 : v2 ≤ v4) (h4 : v4 < v5) (h5 : v4 < v6) (h6 : -2147483648 ≤ v0 ∧ v0 ≤ 2147483647) (h7 : -2147483648 ≤ v1 ∧ v1 ≤ 2147483647) (h8 : v2 = 0) (h9 : v3 = 4) (h10 : -2147483648 ≤ v4 ∧ v4 ≤ 2147483647) (h11 : -2147483648 ≤ v5 ∧ v5 ≤ 2147483647) (h12 : v6 = 200) : -2147483648 ≤ v0 + v1 ∧ v0 + v1 ≤ 2147483647 := by omega
theorem ob205 (v0 : Int) (v1 : Int) (v2 : Int) (v3 : Int) (v4 : Int) (v5 : Int) (v6 : Int) (v7 : Int) (h0 : v0 = v1 + v2) (h1 : v3 ≤ v2) (h2 : v2 ≤ v4) (h3 : v1 = v5 * 5) (h4 : v3 ≤ v5) (h5 : v5 < v6) (h6 : v5 < v7) (h7 : -2147483648 ≤ v0 ∧ v0 ≤ 2147483647) (h8 : -2147483648 ≤ v1 ∧ v1 ≤ 2147483647) (h9 : -2147483648 ≤ v2 ∧ v2 ≤ 2147483647) (h10 : v3 = 0) (h11 : v4 = 4) (h12 : -2147483648 ≤ v5 ∧ v5 ≤ 2147483647) (h13 : -2147483648 ≤ v6 ∧ v6 ≤ 2147483647) (h14 : v7 = 200) : 0 ≤ v0 ∧ v0 < (1000 : Nat) := by omega
theorem ob206 (v0 : Int) (v1 : Int) (v2 : Int) (v3 : Int) (v4 : Int) (v5 : Int) (v6 : Int) (v7 : Int) (h0 : v0 = v1 + v2) (h1 : v3 ≤ v2) (h2 : v2 ≤ v4) (h3 : v1 = v5 * 5) (h4 : v3 ≤ v5) (h5 : v5 < v6) (h6 : v5 < v7) (h7 : -2147483648 ≤ v0 ∧ v0 ≤ 2147483647) (h8 : -2147483648 ≤ v1 ∧ v1 ≤ 2147483647) (h9 : -2147483648 ≤ v2 ∧ v2 ≤ 2147483647) (h10 : v3 = 0) (h11 : v4 = 4) (h12 : -2147483648 ≤ v5 ∧ v5 ≤ 2147483647) (h13 : -2147483648 ≤ v6 ∧ v6 ≤ 2147483647) (h14 : v7 = 200) : 0 ≤ v0 := by omega
theorem ob207 (v0 : Int) (v1 : Int) (v2 : Int) (v3 : Int) (v4 : Int) (v5 : Int) (v6 : Int) (v7 : Int) (v8 : Int) (h0 : v2 ≤ v0) (h1 : v0 ≤ v3) (h2 : v4 = v5 + v0) (h3 : v4 % 5 = 3 → -3000 ≤ v1 ∧ v1 ≤ 3000) (h4 : v2 ≤ v6) (h5 : v5 = v6 * 5) (h6 : v6 < v7) (h7 : v6 < v8) (h8 : -2147483648 ≤ v0 ∧ v0 ≤ 2147483647) (h9 : -2147483648 ≤ v1 ∧ v1 ≤ 2147483647) (h10 : v2 = 0) (h11 : v3 = 4) (h12 : -2147483648 ≤ v4 ∧ v4 ≤ 2147483647) (h13 : -2147483648 ≤ v5 ∧ v5 ≤ 2147483647) (h14 : -2147483648 ≤ v6 ∧ v6 ≤ 2147483647) (h15 : -2147483648 ≤ v7 ∧ v7 ≤ 2147483647) (h16 : v8 = 200) : v0 = 3 → -3000 ≤ v1 ∧ v1 ≤ 3000 := by omega
theorem ob208 (v0 : Int) (v1 : Int) (v2 : Int) (v3 : Int) (v4 : Int) (v5 : Int) (v6 : Int) (h0 : v2 ≤ v0) (h1 : v3 < v0) (h2 : v2 ≤ v4) (h3 : v4 < v5) (h4 : v4 < v6) (h5 : -2147483648 ≤ v0 ∧ v0 ≤ 2147483647) (h6 : v1 = (-1)) (h7 : v2 = 0) (h8 : v3 = 4) (h9 : -2147483648 ≤ v4 ∧ v4 ≤ 2147483647) (h10 : -2147483648 ≤ v5 ∧ v5 ≤ 2147483647) (h11 : v6 = 200) : v0 = 3 → -3000 ≤ v1 ∧ v1 ≤ 3000 := by omega
theorem ob209 (v0 : Int) (v1 : Int) (h0 : v0 ≤ 200) (h1 : -3000 * v0 ≤ v1 ∧ v1 ≤ 3000 * v0) (h2 : 0 ≤ v0) (h3 : 2147483648 - v0 ≤ 0) (h4 : -2147483648 ≤ v0 ∧ v0 ≤ 2147483647) (h5 : -2147483648 ≤ v1 ∧ v1 ≤ 2147483647) : (0 * v0) ≤ -1 := by omega
theorem ob210 (v0 : Int) (v1 : Int) (v2 : Int) (v3 : Int) (h0 : -3000 * v1 ≤ v0 ∧ v0 ≤ 3000 * v1) (h1 : v1 ≤ 200) (h2 : 0 ≤ v1) (h3 : 2147483648 - v1 ≤ v2 + 1) (h4 : v3 ≤ v1) (h5 : 0 ≤ v3 ∧ v3 ≤ 200) (h6 : -2147483648 ≤ v0 ∧ v0 ≤ 2147483647) (h7 : -2147483648 ≤ v1 ∧ v1 ≤ 2147483647) (h8 : -2147483648 ≤ v3 ∧ v3 ≤ 2147483647) : -600000 ≤ v0 ∧ v0 ≤ 600000 := by omega
theorem ob211 (v0 : Int) (v1 : Int) (v2 : Int) (v3 : Int) (v4 : Int) (v5 : Int) (v6 : Int) (v7 : Int) (h0 : v0 ≤ 200) (h1 : -3000 * v0 ≤ v2 ∧ v2 ≤ 3000 * v0) (h2 : 0 ≤ v0) (h3 : 2147483648 - v0 ≤ v3 + 1) (h4 : v0 < v4) (h5 : 0 ≤ v4 ∧ v4 ≤ 200) (h6 : v5 = (v2 + v6 + 2147483648) % 4294967296 - 2147483648) (h7 : v7 = 3 → -3000 ≤ v6 ∧ v6 ≤ 3000) (h8 : -2147483648 ≤ v0 ∧ v0 ≤ 2147483647) (h9 : v1 = 1) (h10 : -2147483648 ≤ v2 ∧ v2 ≤ 2147483647) (h11 : -2147483648 ≤ v4 ∧ v4 ≤ 2147483647) (h12 : -2147483648 ≤ v5 ∧ v5 ≤ 2147483647) (h13 : -2147483648 ≤ v6 ∧ v6 ≤ 2147483647) (h14 : v7 = 3) : -2147483648 ≤ v0 + v1 ∧ v0 + v1 ≤ 2147483647 := by omega
theorem ob212 (v0 : Int) (v1 : Int) (v2 : Int) (v3 : Int) (v4 : Int) (v5 : Int) (v6 : Int) (v7 : Int) (v8 : Int) (h0 : 2147483648 - v2 ≤ v1 + 1) (h1 : v0 = v2 + v3) (h2 : v2 ≤ 200) (h3 : -3000 * v2 ≤ v4 ∧ v4 ≤ 3000 * v2) (h4 : 0 ≤ v2) (h5 : v2 < v5) (h6 : 0 ≤ v5 ∧ v5 ≤ 200) (h7 : v6 = (v4 + v7 + 2147483648) % 4294967296 - 2147483648) (h8 : v8 = 3 → -3000 ≤ v7 ∧ v7 ≤ 3000) (h9 : -2147483648 ≤ v0 ∧ v0 ≤ 2147483647) (h10 : -2147483648 ≤ v2 ∧ v2 ≤ 2147483647) (h11 : v3 = 1) (h12 : -2147483648 ≤ v4 ∧ v4 ≤ 2147483647) (h13 : -2147483648 ≤ v5 ∧ v5 ≤ 2147483647) (h14 : -2147483648 ≤ v6 ∧ v6 ≤ 2147483647) (h15 : -2147483648 ≤ v7 ∧ v7 ≤ 2147483647) (h16 : v8 = 3) : 2147483648 - v0 ≤ v1 := by omega
theorem ob213 (v0 : Int) (v1 : Int) (v2 : Int) (v3 : Int) (v4 : Int) (v5 : Int) (v6 : Int) (v7 : Int) (v8 : Int) (h0 : v0 = v1 + v2) (h1 : v1 ≤ 200) (h2 : -3000 * v1 ≤ v3 ∧ v3 ≤ 3000 * v1) (h3 : 0 ≤ v1) (h4 : 2147483648 - v1 ≤ v4 + 1) (h5 : v1 < v5) (h6 : 0 ≤ v5 ∧ v5 ≤ 200) (h7 : v6 = (v3 + v7 + 2147483648) % 4294967296 - 2147483648) (h8 : v8 = 3 → -3000 ≤ v7 ∧ v7 ≤ 3000) (h9 : -2147483648 ≤ v0 ∧ v0 ≤ 2147483647) (h10 : -2147483648 ≤ v1 ∧ v1 ≤ 2147483647) (h11 : v2 = 1) (h12 : -2147483648 ≤ v3 ∧ v3 ≤ 2147483647) (h13 : -2147483648 ≤ v5 ∧ v5 ≤ 2147483647) (h14 : -2147483648 ≤ v6 ∧ v6 ≤ 2147483647) (h15 : -2147483648 ≤ v7 ∧ v7 ≤ 2147483647) (h16 : v8 = 3) : v0 ≤ 200 := by omega
theorem ob214 (v0 : Int) (v1 : Int) (v2 : Int) (v3 : Int) (v4 : Int) (v5 : Int) (v6 : Int) (v7 : Int) (v8 : Int) (h0 : v1 = (v2 + v3 + 2147483648) % 4294967296 - 2147483648) (h1 : v0 = v4 + v5) (h2 : v4 ≤ 200) (h3 : -3000 * v4 ≤ v2 ∧ v2 ≤ 3000 * v4) (h4 : 0 ≤ v4) (h5 : 2147483648 - v4 ≤ v6 + 1) (h6 : v4 < v7) (h7 : v8 = 3 → -3000 ≤ v3 ∧ v3 ≤ 3000) (h8 : 0 ≤ v7 ∧ v7 ≤ 200) (h9 : -2147483648 ≤ v0 ∧ v0 ≤ 2147483647) (h10 : -2147483648 ≤ v1 ∧ v1 ≤ 2147483647) (h11 : -2147483648 ≤ v2 ∧ v2 ≤ 2147483647) (h12 : -2147483648 ≤ v3 ∧ v3 ≤ 2147483647) (h13 : -2147483648 ≤ v4 ∧ v4 ≤ 2147483647) (h14 : v5 = 1) (h15 : -2147483648 ≤ v7 ∧ v7 ≤ 2147483647) (h16 : v8 = 3) : -3000 * v0 ≤ v1 ∧ v1 ≤ 3000 * v0 := by omega
theorem ob215 (v0 : Int) (v1 : Int) (v2 : Int) (v3 : Int) (v4 : Int) (v5 : Int) (v6 : Int) (v7 : Int) (v8 : Int) (h0 : v0 = v1 + v2) (h1 : v1 ≤ 200) (h2 : -3000 * v1 ≤ v3 ∧ v3 ≤ 3000 * v1) (h3 : 0 ≤ v1) (h4 : 2147483648 - v1 ≤ v4 + 1) (h5 : v1 < v5) (h6 : 0 ≤ v5 ∧ v5 ≤ 200) (h7 : v6 = (v3 + v7 + 2147483648) % 4294967296 - 2147483648) (h8 : v8 = 3 → -3000 ≤ v7 ∧ v7 ≤ 3000) (h9 : -2147483648 ≤ v0 ∧ v0 ≤ 2147483647) (h10 : -2147483648 ≤ v1 ∧ v1 ≤ 2147483647) (h11 : v2 = 1) (h12 : -2147483648 ≤ v3 ∧ v3 ≤ 2147483647) (h13 : -2147483648 ≤ v5 ∧ v5 ≤ 2147483647) (h14 : -2147483648 ≤ v6 ∧ v6 ≤ 2147483647) (h15 : -2147483648 ≤ v7 ∧ v7 ≤ 2147483647) (h16 : v8 = 3) : 0 ≤ v0 := by omega
theorem ob216 (v0 : Int) (h0 : v0 = 0) : v0 ≤ 200 := by omega
theorem ob217 (v0 : Int) (h0 : v0 = 0) : -3000 * v0 ≤ v0 ∧ v0 ≤ 3000 * v0 := by omega
set_option maxHeartbeats 4000000 in
set_option maxRecDepth 100000 in
/-- X4_clear on (15,) -/
theorem jx_X4_clear (l : Launch) (hlt : l.stackTraces = false) (D : va_G) (t3 : Nat × Nat × Nat) (cI cJ : ClassId) (ad : Nat → Nat) (g : Nat → Int32) (lg : Nat → Int64) (ar : Nat → Nat → Int32) (bk : Nat → Int64) (sz : Nat) (hi_g26 : 0 ≤ (g 26).toInt ∧ (g 26).toInt ≤ 200) : JMv l yX4_clear (Cond.code yX4_clear cX4_clear 1 none :: wwX) { frames := 0, cells := 1, slots := 6, locals := 0 } t3 D xw cI cJ ad [.ref (ad 15)] (xw cI cJ ad g lg ar bk) sz 1 6 (fun g' lg' ar' bk' => hk_fr [25, 26] g g' ∧ lg = lg' ∧ ar = ar' ∧ bk = bk' ∧ (0 ≤ (g' 26).toInt ∧ (g' 26).toInt ≤ 200)) (fun g' lg' ar' bk' => False) := by
  refine jx_metv (cc := cX4_clear) (maxL := 1) (ret := none) rfl (by decide) rfl (Nat.le_of_ble_eq_true rfl) ?_
  intro p e s m args below meth c ls Q A hx hb hml hown hts hA hZ hw hl hQ kr kt
  have hq : ∀ w ∈ wwX, w.before args s = true := fun w h => hts w (List.mem_cons_of_mem _ h)
  have hl : lv_has ls 1 [(0, .ref (ad 15))] := hl
  refine lv_aload_n hx hb dX4_clear_0 rfl (lv_at hl 0 rfl) ?_
  refine lv_iconst (v := 0) hx hb dX4_clear_1 (by decide) ?_
  refine jx_putg xw (g := g) (lg := lg) (ar := ar) (bk := bk) (x := 0) 25 (ci := 7) (C := RX4) (T := TX4) (N := 4) (ty := .int) hx hb hts (fun _ h => List.mem_cons_of_mem _ (wwXc_wsX40 _ h)) tyX4 tyX4_ok nmX4 hown hw 15 rfl rfl 2 (by decide) (hq _ wX_341) rfl (by decide +kernel) rfl rfl (Nat.le_of_ble_eq_true rfl) dX4_clear_2 rfl (fun H locs g1 h_g1 hw => ?_)
  refine lv_aload_n hx hb dX4_clear_5 rfl (lv_at hl 0 rfl) ?_
  refine lv_iconst (v := 0) hx hb dX4_clear_6 (by decide) ?_
  refine jx_putg xw (g := g1) (lg := lg) (ar := ar) (bk := bk) (x := 0) 26 (ci := 7) (C := RX4) (T := TX4) (N := 4) (ty := .int) hx hb hts (fun _ h => List.mem_cons_of_mem _ (wwXc_wsX40 _ h)) tyX4 tyX4_ok nmX4 hown hw 15 rfl rfl 3 (by decide) (hq _ wX_339) rfl (by decide +kernel) rfl rfl (Nat.le_of_ble_eq_true rfl) dX4_clear_7 rfl (fun H locs g2 h_g2 hw => ?_)
  have e_g2_26 : g2 26 = (0 : Int32) := (hk_upgS h_g2)
  exact kr g2 lg ar bk _ _ _ _ ⟨(hk_frG (hk_frG hk_fr0 (by decide) h_g1) (by decide) h_g2), rfl, rfl, rfl, (ob170 ((g2 26).toInt) (((0 : Int32)).toInt) (congrArg Int32.toInt e_g2_26) (hE_rng (g2 26)) (by decide))⟩ hw dX4_clear_10

set_option maxHeartbeats 4000000 in
set_option maxRecDepth 100000 in
/-- X4_addStep on (15,) -/
theorem jx_X4_addStep (l : Launch) (hlt : l.stackTraces = false) (D : va_G) (t3 : Nat × Nat × Nat) (cI cJ : ClassId) (ad : Nat → Nat) (g : Nat → Int32) (lg : Nat → Int64) (ar : Nat → Nat → Int32) (bk : Nat → Int64) (sz : Nat) (y1 : Int32) (y2 : Int32) (y3 : Int32) (y4 : Int32) : JMv l yX4_addStep (Cond.code yX4_addStep cX4_addStep 6 none :: wwX) { frames := 0, cells := 1, slots := 6, locals := 0 } t3 D xw cI cJ ad [.ref (ad 15), .int y1, .int y2, .int y3, .int y4] (xw cI cJ ad g lg ar bk) sz 1 6 (fun g' lg' ar' bk' => hk_fr [25] g g' ∧ lg = lg' ∧ hk_fr [6] ar ar' ∧ bk = bk') (fun g' lg' ar' bk' => False) := by
  refine jx_metv (cc := cX4_addStep) (maxL := 6) (ret := none) rfl (by decide) rfl (Nat.le_of_ble_eq_true rfl) ?_
  intro p e s m args below meth c ls Q A hx hb hml hown hts hA hZ hw hl hQ kr kt
  have hq : ∀ w ∈ wwX, w.before args s = true := fun w h => hts w (List.mem_cons_of_mem _ h)
  have hl : lv_has ls 6 [(0, .ref (ad 15)), (1, .int y1), (2, .int y2), (3, .int y3), (4, .int y4)] := hl
  refine lv_aload_n hx hb dX4_addStep_0 rfl (lv_at hl 0 rfl) ?_
  refine hk_get (ci := 7) (C := RX4) (T := TX4) (N := 4) (v := .int (g 25)) hx hb hts (fun _ h => List.mem_cons_of_mem _ (wwXc_wsX40 _ h)) hown hw 15 rfl rfl 2 (by decide) (hq _ wX_341) rfl dX4_addStep_1 ?_
  have B1 : ∀  (a2 : Nat → Nat → Int32) (ls : Array Slot) (H : Heap) (locs : List Loc), (hk_fr [6] ar a2) → hk_W D (jT cI cJ) A s H locs (xw cI cJ ad g lg a2 bk) → lv_has ls 6 [(0, .ref (ad 15))] → W p l e { frames := 0, cells := 1, slots := 6, locals := 0 } s m args below meth c H locs 0 0 Q (F0 m 64 ls []) := by
    intro a2 ls H locs hfr_a2 hw hl
    refine lv_aload_n hx hb dX4_addStep_64 rfl (lv_at hl 0 rfl) ?_
    refine lv_dup hx hb dX4_addStep_65 rfl ?_
    refine hk_get (ci := 7) (C := RX4) (T := TX4) (N := 4) (v := .int (g 25)) hx hb hts (fun _ h => List.mem_cons_of_mem _ (wwXc_wsX40 _ h)) hown hw 15 rfl rfl 2 (by decide) (hq _ wX_341) rfl dX4_addStep_66 ?_
    refine lv_iconst (v := 1) hx hb dX4_addStep_69 (by decide) ?_
    refine lv_iadd hx hb dX4_addStep_70 (jx_nm fun z3 hz3 => ?_)
    refine jx_putg xw (g := g) (lg := lg) (ar := a2) (bk := bk) (x := z3) 25 (ci := 7) (C := RX4) (T := TX4) (N := 4) (ty := .int) hx hb hts (fun _ h => List.mem_cons_of_mem _ (wwXc_wsX40 _ h)) tyX4 tyX4_ok nmX4 hown hw 15 rfl rfl 2 (by decide) (hq _ wX_341) rfl (by decide +kernel) rfl rfl (Nat.le_of_ble_eq_true rfl) dX4_addStep_71 rfl (fun H locs g4 h_g4 hw => ?_)
    exact kr g4 lg a2 bk _ _ _ _ ⟨(hk_frG hk_fr0 (by decide) h_g4), rfl, hfr_a2, rfl⟩ hw dX4_addStep_74
  refine lv_if_lt (tgt := 64) hx hb dX4_addStep_4 (by decide) (fun cc5 => ?_) (fun cc5 => ?_)
  · exact B1 ar ls _ _ hk_fr0 hw (lv_sub hl [0] rfl)
  · refine lv_aload_n hx hb dX4_addStep_7 rfl (lv_at hl 0 rfl) ?_
    refine hk_get (ci := 7) (C := RX4) (T := TX4) (N := 4) (v := .int (g 25)) hx hb hts (fun _ h => List.mem_cons_of_mem _ (wwXc_wsX40 _ h)) hown hw 15 rfl rfl 2 (by decide) (hq _ wX_341) rfl dX4_addStep_8 ?_
    refine lv_sipush (v := 2000) hx hb dX4_addStep_11 (by decide) ?_
    refine lv_icmp_ge (tgt := 64) hx hb dX4_addStep_14 (by decide) (fun cc6 => ?_) (fun cc6 => ?_)
    · exact B1 ar ls _ _ hk_fr0 hw (lv_sub hl [0] rfl)
    · refine lv_iconst (v := 4) hx hb dX4_addStep_17 (by decide) ?_
      refine lv_aload_n hx hb dX4_addStep_18 rfl (lv_at hl 0 rfl) ?_
      refine hk_get (ci := 7) (C := RX4) (T := TX4) (N := 4) (v := .int (g 25)) hx hb hts (fun _ h => List.mem_cons_of_mem _ (wwXc_wsX40 _ h)) hown hw 15 rfl rfl 2 (by decide) (hq _ wX_341) rfl dX4_addStep_19 ?_
      refine lv_imul hx hb dX4_addStep_22 (jx_nm fun z7 hz7 => ?_)
      have xz7 : (z7).toInt = (g 25).toInt * 4 := (hE_imp (hE_mul' 4 hz7 (by decide)) (ob171 ((g 25).toInt) (((0 : Int32)).toInt) (((2000 : Int32)).toInt) (hE_nlt cc5) (hE_nle cc6) (hE_rng (g 25)) (by decide) (by decide)))
      refine lv_istore (lv' := [(5, .int z7), (0, .ref (ad 15)), (1, .int y1), (2, .int y2), (3, .int y3), (4, .int y4)]) hx hb dX4_addStep_23 hl (by decide) rfl (fun ls hl => ?_)
      refine lv_aload_n hx hb dX4_addStep_25 rfl (lv_at hl 1 rfl) ?_
      refine hk_get (ci := 7) (C := RX4) (T := TX4) (N := 4) (v := .ref (ad 16)) hx hb hts (fun _ h => List.mem_cons_of_mem _ (wwXc_wsX40 _ h)) hown hw 15 rfl rfl 0 (by decide) (hq _ wX_342) rfl dX4_addStep_26 ?_
      refine lv_iload hx hb dX4_addStep_29 (lv_at hl 0 rfl) ?_
      refine lv_iload_n hx hb dX4_addStep_31 rfl (lv_at hl 2 rfl) ?_
      refine jx_iast xw (g := g) (lg := lg) (ar := ar) (bk := bk) 6 hx hb hw 16 0 rfl rfl (hE_in (n := 8000) (ob172 ((z7).toInt) ((g 25).toInt) (((0 : Int32)).toInt) (((2000 : Int32)).toInt) xz7 (hE_nlt cc5) (hE_nle cc6) (hE_rng (z7)) (hE_rng (g 25)) (by decide) (by decide))) dX4_addStep_32 rfl (fun H locs a8 h_a8 hw => ?_)
      refine lv_aload_n hx hb dX4_addStep_33 rfl (lv_at hl 1 rfl) ?_
      refine hk_get (ci := 7) (C := RX4) (T := TX4) (N := 4) (v := .ref (ad 16)) hx hb hts (fun _ h => List.mem_cons_of_mem _ (wwXc_wsX40 _ h)) hown hw 15 rfl rfl 0 (by decide) (hq _ wX_342) rfl dX4_addStep_34 ?_
      refine lv_iload hx hb dX4_addStep_37 (lv_at hl 0 rfl) ?_
      refine lv_iconst (v := 1) hx hb dX4_addStep_39 (by decide) ?_
      refine lv_iadd hx hb dX4_addStep_40 (jx_nm fun z9 hz9 => ?_)
      have xz9 : (z9).toInt = (z7).toInt + ((1 : Int32)).toInt := (hE_imp (hE_add hz9) (ob173 ((z7).toInt) (((1 : Int32)).toInt) ((g 25).toInt) (((0 : Int32)).toInt) (((2000 : Int32)).toInt) xz7 (hE_nlt cc5) (hE_nle cc6) (hE_rng (z7)) (by decide) (hE_rng (g 25)) (by decide) (by decide)))
      refine lv_iload_n hx hb dX4_addStep_41 rfl (lv_at hl 3 rfl) ?_
      refine jx_iast xw (g := g) (lg := lg) (ar := a8) (bk := bk) 6 hx hb hw 16 0 rfl rfl (hE_in (n := 8000) (ob174 ((z9).toInt) ((z7).toInt) (((1 : Int32)).toInt) ((g 25).toInt) (((0 : Int32)).toInt) (((2000 : Int32)).toInt) xz9 xz7 (hE_nlt cc5) (hE_nle cc6) (hE_rng (z9)) (hE_rng (z7)) (by decide) (hE_rng (g 25)) (by decide) (by decide))) dX4_addStep_42 rfl (fun H locs a10 h_a10 hw => ?_)
      refine lv_aload_n hx hb dX4_addStep_43 rfl (lv_at hl 1 rfl) ?_
      refine hk_get (ci := 7) (C := RX4) (T := TX4) (N := 4) (v := .ref (ad 16)) hx hb hts (fun _ h => List.mem_cons_of_mem _ (wwXc_wsX40 _ h)) hown hw 15 rfl rfl 0 (by decide) (hq _ wX_342) rfl dX4_addStep_44 ?_
      refine lv_iload hx hb dX4_addStep_47 (lv_at hl 0 rfl) ?_
      refine lv_iconst (v := 2) hx hb dX4_addStep_49 (by decide) ?_
      refine lv_iadd hx hb dX4_addStep_50 (jx_nm fun z11 hz11 => ?_)
      have xz11 : (z11).toInt = (z7).toInt + ((2 : Int32)).toInt := (hE_imp (hE_add hz11) (ob175 ((z7).toInt) (((2 : Int32)).toInt) ((g 25).toInt) ((z9).toInt) (((1 : Int32)).toInt) (((0 : Int32)).toInt) (((2000 : Int32)).toInt) xz7 xz9 (hE_nlt cc5) (hE_nle cc6) (hE_rng (z7)) (by decide) (hE_rng (g 25)) (hE_rng (z9)) (by decide) (by decide) (by decide)))
      refine lv_iload_n hx hb dX4_addStep_51 rfl (lv_at hl 4 rfl) ?_
      refine jx_iast xw (g := g) (lg := lg) (ar := a10) (bk := bk) 6 hx hb hw 16 0 rfl rfl (hE_in (n := 8000) (ob176 ((z11).toInt) ((z7).toInt) (((2 : Int32)).toInt) ((g 25).toInt) ((z9).toInt) (((1 : Int32)).toInt) (((0 : Int32)).toInt) (((2000 : Int32)).toInt) xz11 xz7 xz9 (hE_nlt cc5) (hE_nle cc6) (hE_rng (z11)) (hE_rng (z7)) (by decide) (hE_rng (g 25)) (hE_rng (z9)) (by decide) (by decide) (by decide))) dX4_addStep_52 rfl (fun H locs a12 h_a12 hw => ?_)
      refine lv_aload_n hx hb dX4_addStep_53 rfl (lv_at hl 1 rfl) ?_
      refine hk_get (ci := 7) (C := RX4) (T := TX4) (N := 4) (v := .ref (ad 16)) hx hb hts (fun _ h => List.mem_cons_of_mem _ (wwXc_wsX40 _ h)) hown hw 15 rfl rfl 0 (by decide) (hq _ wX_342) rfl dX4_addStep_54 ?_
      refine lv_iload hx hb dX4_addStep_57 (lv_at hl 0 rfl) ?_
      refine lv_iconst (v := 3) hx hb dX4_addStep_59 (by decide) ?_
      refine lv_iadd hx hb dX4_addStep_60 (jx_nm fun z13 hz13 => ?_)
      have xz13 : (z13).toInt = (z7).toInt + ((3 : Int32)).toInt := (hE_imp (hE_add hz13) (ob177 ((z7).toInt) (((3 : Int32)).toInt) ((g 25).toInt) ((z9).toInt) (((1 : Int32)).toInt) ((z11).toInt) (((2 : Int32)).toInt) (((0 : Int32)).toInt) (((2000 : Int32)).toInt) xz7 xz9 xz11 (hE_nlt cc5) (hE_nle cc6) (hE_rng (z7)) (by decide) (hE_rng (g 25)) (hE_rng (z9)) (by decide) (hE_rng (z11)) (by decide) (by decide) (by decide)))
      refine lv_iload hx hb dX4_addStep_61 (lv_at hl 5 rfl) ?_
      refine jx_iast xw (g := g) (lg := lg) (ar := a12) (bk := bk) 6 hx hb hw 16 0 rfl rfl (hE_in (n := 8000) (ob178 ((z13).toInt) ((z7).toInt) (((3 : Int32)).toInt) ((g 25).toInt) ((z9).toInt) (((1 : Int32)).toInt) ((z11).toInt) (((2 : Int32)).toInt) (((0 : Int32)).toInt) (((2000 : Int32)).toInt) xz13 xz7 xz9 xz11 (hE_nlt cc5) (hE_nle cc6) (hE_rng (z13)) (hE_rng (z7)) (by decide) (hE_rng (g 25)) (hE_rng (z9)) (by decide) (hE_rng (z11)) (by decide) (by decide) (by decide))) dX4_addStep_63 rfl (fun H locs a14 h_a14 hw => ?_)
      exact B1 a14 ls _ _ (hk_frA (hk_frA (hk_frA (hk_frA hk_fr0 (by decide) h_a8) (by decide) h_a10) (by decide) h_a12) (by decide) h_a14) hw (lv_sub hl [1] rfl)

set_option maxHeartbeats 4000000 in
set_option maxRecDepth 100000 in
/-- X4_stepPart on (15,) -/
theorem jx_X4_stepPart (l : Launch) (hlt : l.stackTraces = false) (D : va_G) (t3 : Nat × Nat × Nat) (cI cJ : ClassId) (ad : Nat → Nat) (g : Nat → Int32) (lg : Nat → Int64) (ar : Nat → Nat → Int32) (bk : Nat → Int64) (sz : Nat) (y1 : Int32) (y2 : Int32) : JMi l yX4_stepPart (Cond.code yX4_stepPart cX4_stepPart 3 (some .int) :: wwX) { frames := 0, cells := 1, slots := 6, locals := 0 } t3 D xw cI cJ ad [.ref (ad 15), .int y1, .int y2] (xw cI cJ ad g lg ar bk) sz 1 6 (fun (r : Int32) g' lg' ar' bk' => g = g' ∧ lg = lg' ∧ ar = ar' ∧ bk = bk') (fun g' lg' ar' bk' => False) := by
  refine jx_meti (cc := cX4_stepPart) (maxL := 3) (ret := (some .int)) rfl (by decide) rfl (Nat.le_of_ble_eq_true rfl) ?_
  intro p e s m args below meth c ls Q A hx hb hml hown hts hA hZ hw hl hQ kr kt
  have hq : ∀ w ∈ wwX, w.before args s = true := fun w h => hts w (List.mem_cons_of_mem _ h)
  have hl : lv_has ls 3 [(0, .ref (ad 15)), (1, .int y1), (2, .int y2)] := hl
  refine lv_iload_n hx hb dX4_stepPart_0 rfl (lv_at hl 1 rfl) ?_
  refine lv_if_lt (tgt := 28) hx hb dX4_stepPart_1 (by decide) (fun cc1 => ?_) (fun cc1 => ?_)
  · refine lv_iconst (v := (-1)) hx hb dX4_stepPart_28 (by decide) ?_
    exact kr (-1) g lg ar bk _ _ _ _ ⟨rfl, rfl, rfl, rfl⟩ hw dX4_stepPart_29
  · refine lv_iload_n hx hb dX4_stepPart_4 rfl (lv_at hl 1 rfl) ?_
    refine lv_aload_n hx hb dX4_stepPart_5 rfl (lv_at hl 0 rfl) ?_
    refine hk_get (ci := 7) (C := RX4) (T := TX4) (N := 4) (v := .int (g 25)) hx hb hts (fun _ h => List.mem_cons_of_mem _ (wwXc_wsX40 _ h)) hown hw 15 rfl rfl 2 (by decide) (hq _ wX_341) rfl dX4_stepPart_6 ?_
    refine lv_icmp_ge (tgt := 28) hx hb dX4_stepPart_9 (by decide) (fun cc2 => ?_) (fun cc2 => ?_)
    · refine lv_iconst (v := (-1)) hx hb dX4_stepPart_28 (by decide) ?_
      exact kr (-1) g lg ar bk _ _ _ _ ⟨rfl, rfl, rfl, rfl⟩ hw dX4_stepPart_29
    · refine lv_iload_n hx hb dX4_stepPart_12 rfl (lv_at hl 1 rfl) ?_
      refine lv_sipush (v := 2000) hx hb dX4_stepPart_13 (by decide) ?_
      refine lv_icmp_ge (tgt := 28) hx hb dX4_stepPart_16 (by decide) (fun cc3 => ?_) (fun cc3 => ?_)
      · refine lv_iconst (v := (-1)) hx hb dX4_stepPart_28 (by decide) ?_
        exact kr (-1) g lg ar bk _ _ _ _ ⟨rfl, rfl, rfl, rfl⟩ hw dX4_stepPart_29
      · refine lv_iload_n hx hb dX4_stepPart_19 rfl (lv_at hl 2 rfl) ?_
        refine lv_if_lt (tgt := 28) hx hb dX4_stepPart_20 (by decide) (fun cc4 => ?_) (fun cc4 => ?_)
        · refine lv_iconst (v := (-1)) hx hb dX4_stepPart_28 (by decide) ?_
          exact kr (-1) g lg ar bk _ _ _ _ ⟨rfl, rfl, rfl, rfl⟩ hw dX4_stepPart_29
        · refine lv_iload_n hx hb dX4_stepPart_23 rfl (lv_at hl 2 rfl) ?_
          refine lv_iconst (v := 3) hx hb dX4_stepPart_24 (by decide) ?_
          refine lv_icmp_le (tgt := 30) hx hb dX4_stepPart_25 (by decide) (fun cc5 => ?_) (fun cc5 => ?_)
          · refine lv_aload_n hx hb dX4_stepPart_30 rfl (lv_at hl 0 rfl) ?_
            refine hk_get (ci := 7) (C := RX4) (T := TX4) (N := 4) (v := .ref (ad 16)) hx hb hts (fun _ h => List.mem_cons_of_mem _ (wwXc_wsX40 _ h)) hown hw 15 rfl rfl 0 (by decide) (hq _ wX_342) rfl dX4_stepPart_31 ?_
            refine lv_iconst (v := 4) hx hb dX4_stepPart_34 (by decide) ?_
            refine lv_iload_n hx hb dX4_stepPart_35 rfl (lv_at hl 1 rfl) ?_
            refine lv_imul hx hb dX4_stepPart_36 (jx_nm fun z6 hz6 => ?_)
            have xz6 : (z6).toInt = (y1).toInt * 4 := (hE_imp (hE_mul' 4 hz6 (by decide)) (ob179 ((y1).toInt) (((0 : Int32)).toInt) ((g 25).toInt) (((2000 : Int32)).toInt) ((y2).toInt) (((3 : Int32)).toInt) (hE_nlt cc1) (hE_nle cc2) (hE_nle cc3) (hE_nlt cc4) (hE_le cc5) (hE_rng (y1)) (by decide) (hE_rng (g 25)) (by decide) (hE_rng (y2)) (by decide)))
            refine lv_iload_n hx hb dX4_stepPart_37 rfl (lv_at hl 2 rfl) ?_
            refine lv_iadd hx hb dX4_stepPart_38 (jx_nm fun z7 hz7 => ?_)
            have xz7 : (z7).toInt = (z6).toInt + (y2).toInt := (hE_imp (hE_add hz7) (ob180 ((z6).toInt) ((y2).toInt) (((0 : Int32)).toInt) (((3 : Int32)).toInt) ((y1).toInt) ((g 25).toInt) (((2000 : Int32)).toInt) (hE_nlt cc4) (hE_le cc5) xz6 (hE_nlt cc1) (hE_nle cc2) (hE_nle cc3) (hE_rng (z6)) (hE_rng (y2)) (by decide) (by decide) (hE_rng (y1)) (hE_rng (g 25)) (by decide)))
            refine jx_iald hx hb hw 16 0 rfl rfl (hE_in (n := 8000) (ob181 ((z7).toInt) ((z6).toInt) ((y2).toInt) (((0 : Int32)).toInt) (((3 : Int32)).toInt) ((y1).toInt) ((g 25).toInt) (((2000 : Int32)).toInt) xz7 (hE_nlt cc4) (hE_le cc5) xz6 (hE_nlt cc1) (hE_nle cc2) (hE_nle cc3) (hE_rng (z7)) (hE_rng (z6)) (hE_rng (y2)) (by decide) (by decide) (hE_rng (y1)) (hE_rng (g 25)) (by decide))) dX4_stepPart_39 (fun z8 hz8 => ?_)
            exact kr z8 g lg ar bk _ _ _ _ ⟨rfl, rfl, rfl, rfl⟩ hw dX4_stepPart_40
          · refine lv_iconst (v := (-1)) hx hb dX4_stepPart_28 (by decide) ?_
            exact kr (-1) g lg ar bk _ _ _ _ ⟨rfl, rfl, rfl, rfl⟩ hw dX4_stepPart_29

set_option maxHeartbeats 4000000 in
set_option maxRecDepth 100000 in
/-- X4_addBlock on (15,) -/
theorem jx_X4_addBlock (l : Launch) (hlt : l.stackTraces = false) (D : va_G) (t3 : Nat × Nat × Nat) (cI cJ : ClassId) (ad : Nat → Nat) (g : Nat → Int32) (lg : Nat → Int64) (ar : Nat → Nat → Int32) (bk : Nat → Int64) (sz : Nat) (y1 : Int32) (y2 : Int32) (y3 : Int32) (y4 : Int32) (y5 : Int32) (hr0 : -3000 ≤ (y4).toInt ∧ (y4).toInt ≤ 3000) (hi_g26 : 0 ≤ (g 26).toInt ∧ (g 26).toInt ≤ 200) (hi_a7rm : hk_rm 5 3 (-3000) 3000 (ar 7)) : JMv l yX4_addBlock (Cond.code yX4_addBlock cX4_addBlock 7 none :: wwX) { frames := 0, cells := 1, slots := 6, locals := 0 } t3 D xw cI cJ ad [.ref (ad 15), .int y1, .int y2, .int y3, .int y4, .int y5] (xw cI cJ ad g lg ar bk) sz 1 6 (fun g' lg' ar' bk' => hk_fr [26] g g' ∧ lg = lg' ∧ hk_fr [7] ar ar' ∧ bk = bk' ∧ (0 ≤ (g' 26).toInt ∧ (g' 26).toInt ≤ 200) ∧ hk_rm 5 3 (-3000) 3000 (ar' 7)) (fun g' lg' ar' bk' => False) := by
  refine jx_metv (cc := cX4_addBlock) (maxL := 7) (ret := none) rfl (by decide) rfl (Nat.le_of_ble_eq_true rfl) ?_
  intro p e s m args below meth c ls Q A hx hb hml hown hts hA hZ hw hl hQ kr kt
  have hq : ∀ w ∈ wwX, w.before args s = true := fun w h => hts w (List.mem_cons_of_mem _ h)
  have hl : lv_has ls 7 [(0, .ref (ad 15)), (1, .int y1), (2, .int y2), (3, .int y3), (4, .int y4), (5, .int y5)] := hl
  refine lv_aload_n hx hb dX4_addBlock_0 rfl (lv_at hl 0 rfl) ?_
  refine hk_get (ci := 7) (C := RX4) (T := TX4) (N := 4) (v := .int (g 26)) hx hb hts (fun _ h => List.mem_cons_of_mem _ (wwXc_wsX40 _ h)) hown hw 15 rfl rfl 3 (by decide) (hq _ wX_339) rfl dX4_addBlock_1 ?_
  refine lv_if_lt (tgt := 85) hx hb dX4_addBlock_4 (by decide) (fun cc1 => ?_) (fun cc1 => ?_)
  · exact kr g lg ar bk _ _ _ _ ⟨hk_fr0, rfl, hk_fr0, rfl, (ob182 ((g 26).toInt) (((0 : Int32)).toInt) hi_g26 (hE_lt cc1) (hE_rng (g 26)) (by decide)), hi_a7rm⟩ hw dX4_addBlock_85
  · refine lv_aload_n hx hb dX4_addBlock_7 rfl (lv_at hl 0 rfl) ?_
    refine hk_get (ci := 7) (C := RX4) (T := TX4) (N := 4) (v := .int (g 26)) hx hb hts (fun _ h => List.mem_cons_of_mem _ (wwXc_wsX40 _ h)) hown hw 15 rfl rfl 3 (by decide) (hq _ wX_339) rfl dX4_addBlock_8 ?_
    refine lv_sipush (v := 200) hx hb dX4_addBlock_11 (by decide) ?_
    refine lv_icmp_ge (tgt := 85) hx hb dX4_addBlock_14 (by decide) (fun cc2 => ?_) (fun cc2 => ?_)
    · exact kr g lg ar bk _ _ _ _ ⟨hk_fr0, rfl, hk_fr0, rfl, (ob183 ((g 26).toInt) (((0 : Int32)).toInt) (((200 : Int32)).toInt) hi_g26 (hE_nlt cc1) (hE_le cc2) (hE_rng (g 26)) (by decide) (by decide)), hi_a7rm⟩ hw dX4_addBlock_85
    · refine lv_iconst (v := 5) hx hb dX4_addBlock_17 (by decide) ?_
      refine lv_aload_n hx hb dX4_addBlock_18 rfl (lv_at hl 0 rfl) ?_
      refine hk_get (ci := 7) (C := RX4) (T := TX4) (N := 4) (v := .int (g 26)) hx hb hts (fun _ h => List.mem_cons_of_mem _ (wwXc_wsX40 _ h)) hown hw 15 rfl rfl 3 (by decide) (hq _ wX_339) rfl dX4_addBlock_19 ?_
      refine lv_imul hx hb dX4_addBlock_22 (jx_nm fun z3 hz3 => ?_)
      have xz3 : (z3).toInt = (g 26).toInt * 5 := (hE_imp (hE_mul' 5 hz3 (by decide)) (ob184 ((g 26).toInt) (((0 : Int32)).toInt) (((200 : Int32)).toInt) hi_g26 (hE_nlt cc1) (hE_nle cc2) (hE_rng (g 26)) (by decide) (by decide)))
      refine lv_istore (lv' := [(6, .int z3), (0, .ref (ad 15)), (1, .int y1), (2, .int y2), (3, .int y3), (4, .int y4), (5, .int y5)]) hx hb dX4_addBlock_23 hl (by decide) rfl (fun ls hl => ?_)
      refine lv_aload_n hx hb dX4_addBlock_25 rfl (lv_at hl 1 rfl) ?_
      refine hk_get (ci := 7) (C := RX4) (T := TX4) (N := 4) (v := .ref (ad 17)) hx hb hts (fun _ h => List.mem_cons_of_mem _ (wwXc_wsX40 _ h)) hown hw 15 rfl rfl 1 (by decide) (hq _ wX_340) rfl dX4_addBlock_26 ?_
      refine lv_iload hx hb dX4_addBlock_29 (lv_at hl 0 rfl) ?_
      refine lv_iload_n hx hb dX4_addBlock_31 rfl (lv_at hl 2 rfl) ?_
      refine jx_iast xw (g := g) (lg := lg) (ar := ar) (bk := bk) 7 hx hb hw 17 0 rfl rfl (hE_in (n := 1000) (ob185 ((z3).toInt) ((g 26).toInt) (((0 : Int32)).toInt) (((200 : Int32)).toInt) xz3 hi_g26 (hE_nlt cc1) (hE_nle cc2) (hE_rng (z3)) (hE_rng (g 26)) (by decide) (by decide))) dX4_addBlock_32 rfl (fun H locs a4 h_a4 hw => ?_)
      have hr5 : hk_rm 5 3 (-3000) 3000 (a4 7) := (hk_rmS h_a4 hi_a7rm (ob186 ((z3).toInt) ((y1).toInt) ((g 26).toInt) (((0 : Int32)).toInt) (((200 : Int32)).toInt) xz3 hi_g26 (hE_nlt cc1) (hE_nle cc2) (hE_rng (z3)) (hE_rng (y1)) (hE_rng (g 26)) (by decide) (by decide)))
      refine lv_aload_n hx hb dX4_addBlock_33 rfl (lv_at hl 1 rfl) ?_
      refine hk_get (ci := 7) (C := RX4) (T := TX4) (N := 4) (v := .ref (ad 17)) hx hb hts (fun _ h => List.mem_cons_of_mem _ (wwXc_wsX40 _ h)) hown hw 15 rfl rfl 1 (by decide) (hq _ wX_340) rfl dX4_addBlock_34 ?_
      refine lv_iload hx hb dX4_addBlock_37 (lv_at hl 0 rfl) ?_
      refine lv_iconst (v := 1) hx hb dX4_addBlock_39 (by decide) ?_
      refine lv_iadd hx hb dX4_addBlock_40 (jx_nm fun z6 hz6 => ?_)
      have xz6 : (z6).toInt = (z3).toInt + ((1 : Int32)).toInt := (hE_imp (hE_add hz6) (ob187 ((z3).toInt) (((1 : Int32)).toInt) ((g 26).toInt) (((0 : Int32)).toInt) (((200 : Int32)).toInt) xz3 hi_g26 (hE_nlt cc1) (hE_nle cc2) (hE_rng (z3)) (by decide) (hE_rng (g 26)) (by decide) (by decide)))
      refine lv_iload_n hx hb dX4_addBlock_41 rfl (lv_at hl 3 rfl) ?_
      refine jx_iast xw (g := g) (lg := lg) (ar := a4) (bk := bk) 7 hx hb hw 17 0 rfl rfl (hE_in (n := 1000) (ob188 ((z6).toInt) ((z3).toInt) (((1 : Int32)).toInt) ((g 26).toInt) (((0 : Int32)).toInt) (((200 : Int32)).toInt) xz6 xz3 hi_g26 (hE_nlt cc1) (hE_nle cc2) (hE_rng (z6)) (hE_rng (z3)) (by decide) (hE_rng (g 26)) (by decide) (by decide))) dX4_addBlock_42 rfl (fun H locs a7 h_a7 hw => ?_)
      have hr8 : hk_rm 5 3 (-3000) 3000 (a7 7) := (hk_rmS h_a7 hr5 (ob189 ((z6).toInt) ((y2).toInt) ((z3).toInt) (((1 : Int32)).toInt) ((g 26).toInt) (((0 : Int32)).toInt) (((200 : Int32)).toInt) xz6 xz3 hi_g26 (hE_nlt cc1) (hE_nle cc2) (hE_rng (z6)) (hE_rng (y2)) (hE_rng (z3)) (by decide) (hE_rng (g 26)) (by decide) (by decide)))
      refine lv_aload_n hx hb dX4_addBlock_43 rfl (lv_at hl 1 rfl) ?_
      refine hk_get (ci := 7) (C := RX4) (T := TX4) (N := 4) (v := .ref (ad 17)) hx hb hts (fun _ h => List.mem_cons_of_mem _ (wwXc_wsX40 _ h)) hown hw 15 rfl rfl 1 (by decide) (hq _ wX_340) rfl dX4_addBlock_44 ?_
      refine lv_iload hx hb dX4_addBlock_47 (lv_at hl 0 rfl) ?_
      refine lv_iconst (v := 2) hx hb dX4_addBlock_49 (by decide) ?_
      refine lv_iadd hx hb dX4_addBlock_50 (jx_nm fun z9 hz9 => ?_)
      have xz9 : (z9).toInt = (z3).toInt + ((2 : Int32)).toInt := (hE_imp (hE_add hz9) (ob190 ((z3).toInt) (((2 : Int32)).toInt) ((g 26).toInt) ((z6).toInt) (((1 : Int32)).toInt) (((0 : Int32)).toInt) (((200 : Int32)).toInt) xz3 xz6 hi_g26 (hE_nlt cc1) (hE_nle cc2) (hE_rng (z3)) (by decide) (hE_rng (g 26)) (hE_rng (z6)) (by decide) (by decide) (by decide)))
      refine lv_iload_n hx hb dX4_addBlock_51 rfl (lv_at hl 4 rfl) ?_
      refine jx_iast xw (g := g) (lg := lg) (ar := a7) (bk := bk) 7 hx hb hw 17 0 rfl rfl (hE_in (n := 1000) (ob191 ((z9).toInt) ((z3).toInt) (((2 : Int32)).toInt) ((g 26).toInt) ((z6).toInt) (((1 : Int32)).toInt) (((0 : Int32)).toInt) (((200 : Int32)).toInt) xz9 xz3 xz6 hi_g26 (hE_nlt cc1) (hE_nle cc2) (hE_rng (z9)) (hE_rng (z3)) (by decide) (hE_rng (g 26)) (hE_rng (z6)) (by decide) (by decide) (by decide))) dX4_addBlock_52 rfl (fun H locs a10 h_a10 hw => ?_)
      have hr11 : hk_rm 5 3 (-3000) 3000 (a10 7) := (hk_rmS h_a10 hr8 (ob192 ((z9).toInt) ((y3).toInt) ((z3).toInt) (((2 : Int32)).toInt) ((g 26).toInt) ((z6).toInt) (((1 : Int32)).toInt) (((0 : Int32)).toInt) (((200 : Int32)).toInt) xz9 xz3 xz6 hi_g26 (hE_nlt cc1) (hE_nle cc2) (hE_rng (z9)) (hE_rng (y3)) (hE_rng (z3)) (by decide) (hE_rng (g 26)) (hE_rng (z6)) (by decide) (by decide) (by decide)))
      refine lv_aload_n hx hb dX4_addBlock_53 rfl (lv_at hl 1 rfl) ?_
      refine hk_get (ci := 7) (C := RX4) (T := TX4) (N := 4) (v := .ref (ad 17)) hx hb hts (fun _ h => List.mem_cons_of_mem _ (wwXc_wsX40 _ h)) hown hw 15 rfl rfl 1 (by decide) (hq _ wX_340) rfl dX4_addBlock_54 ?_
      refine lv_iload hx hb dX4_addBlock_57 (lv_at hl 0 rfl) ?_
      refine lv_iconst (v := 3) hx hb dX4_addBlock_59 (by decide) ?_
      refine lv_iadd hx hb dX4_addBlock_60 (jx_nm fun z12 hz12 => ?_)
      have xz12 : (z12).toInt = (z3).toInt + ((3 : Int32)).toInt := (hE_imp (hE_add hz12) (ob193 ((z3).toInt) (((3 : Int32)).toInt) ((g 26).toInt) ((z6).toInt) (((1 : Int32)).toInt) ((z9).toInt) (((2 : Int32)).toInt) (((0 : Int32)).toInt) (((200 : Int32)).toInt) xz3 xz6 xz9 hi_g26 (hE_nlt cc1) (hE_nle cc2) (hE_rng (z3)) (by decide) (hE_rng (g 26)) (hE_rng (z6)) (by decide) (hE_rng (z9)) (by decide) (by decide) (by decide)))
      refine lv_iload hx hb dX4_addBlock_61 (lv_at hl 5 rfl) ?_
      refine jx_iast xw (g := g) (lg := lg) (ar := a10) (bk := bk) 7 hx hb hw 17 0 rfl rfl (hE_in (n := 1000) (ob194 ((z12).toInt) ((z3).toInt) (((3 : Int32)).toInt) ((g 26).toInt) ((z6).toInt) (((1 : Int32)).toInt) ((z9).toInt) (((2 : Int32)).toInt) (((0 : Int32)).toInt) (((200 : Int32)).toInt) xz12 xz3 xz6 xz9 hi_g26 (hE_nlt cc1) (hE_nle cc2) (hE_rng (z12)) (hE_rng (z3)) (by decide) (hE_rng (g 26)) (hE_rng (z6)) (by decide) (hE_rng (z9)) (by decide) (by decide) (by decide))) dX4_addBlock_63 rfl (fun H locs a13 h_a13 hw => ?_)
      have hr14 : hk_rm 5 3 (-3000) 3000 (a13 7) := (hk_rmS h_a13 hr11 (ob195 ((z12).toInt) ((y4).toInt) ((z3).toInt) (((3 : Int32)).toInt) ((g 26).toInt) ((z6).toInt) (((1 : Int32)).toInt) ((z9).toInt) (((2 : Int32)).toInt) (((0 : Int32)).toInt) (((200 : Int32)).toInt) hr0 xz12 xz3 xz6 xz9 hi_g26 (hE_nlt cc1) (hE_nle cc2) (hE_rng (z12)) (hE_rng (y4)) (hE_rng (z3)) (by decide) (hE_rng (g 26)) (hE_rng (z6)) (by decide) (hE_rng (z9)) (by decide) (by decide) (by decide)))
      refine lv_aload_n hx hb dX4_addBlock_64 rfl (lv_at hl 1 rfl) ?_
      refine hk_get (ci := 7) (C := RX4) (T := TX4) (N := 4) (v := .ref (ad 17)) hx hb hts (fun _ h => List.mem_cons_of_mem _ (wwXc_wsX40 _ h)) hown hw 15 rfl rfl 1 (by decide) (hq _ wX_340) rfl dX4_addBlock_65 ?_
      refine lv_iload hx hb dX4_addBlock_68 (lv_at hl 0 rfl) ?_
      refine lv_iconst (v := 4) hx hb dX4_addBlock_70 (by decide) ?_
      refine lv_iadd hx hb dX4_addBlock_71 (jx_nm fun z15 hz15 => ?_)
      have xz15 : (z15).toInt = (z3).toInt + ((4 : Int32)).toInt := (hE_imp (hE_add hz15) (ob196 ((z3).toInt) (((4 : Int32)).toInt) ((g 26).toInt) ((z6).toInt) (((1 : Int32)).toInt) ((z9).toInt) (((2 : Int32)).toInt) ((z12).toInt) (((3 : Int32)).toInt) (((0 : Int32)).toInt) (((200 : Int32)).toInt) xz3 xz6 xz9 xz12 hi_g26 (hE_nlt cc1) (hE_nle cc2) (hE_rng (z3)) (by decide) (hE_rng (g 26)) (hE_rng (z6)) (by decide) (hE_rng (z9)) (by decide) (hE_rng (z12)) (by decide) (by decide) (by decide)))
      refine lv_iload hx hb dX4_addBlock_72 (lv_at hl 6 rfl) ?_
      refine jx_iast xw (g := g) (lg := lg) (ar := a13) (bk := bk) 7 hx hb hw 17 0 rfl rfl (hE_in (n := 1000) (ob197 ((z15).toInt) ((z3).toInt) (((4 : Int32)).toInt) ((g 26).toInt) ((z6).toInt) (((1 : Int32)).toInt) ((z9).toInt) (((2 : Int32)).toInt) ((z12).toInt) (((3 : Int32)).toInt) (((0 : Int32)).toInt) (((200 : Int32)).toInt) xz15 xz3 xz6 xz9 xz12 hi_g26 (hE_nlt cc1) (hE_nle cc2) (hE_rng (z15)) (hE_rng (z3)) (by decide) (hE_rng (g 26)) (hE_rng (z6)) (by decide) (hE_rng (z9)) (by decide) (hE_rng (z12)) (by decide) (by decide) (by decide))) dX4_addBlock_74 rfl (fun H locs a16 h_a16 hw => ?_)
      have hr17 : hk_rm 5 3 (-3000) 3000 (a16 7) := (hk_rmS h_a16 hr14 (ob198 ((z15).toInt) ((y5).toInt) ((z3).toInt) (((4 : Int32)).toInt) ((g 26).toInt) ((z6).toInt) (((1 : Int32)).toInt) ((z9).toInt) (((2 : Int32)).toInt) ((z12).toInt) (((3 : Int32)).toInt) (((0 : Int32)).toInt) (((200 : Int32)).toInt) xz15 xz3 xz6 xz9 xz12 hi_g26 (hE_nlt cc1) (hE_nle cc2) (hE_rng (z15)) (hE_rng (y5)) (hE_rng (z3)) (by decide) (hE_rng (g 26)) (hE_rng (z6)) (by decide) (hE_rng (z9)) (by decide) (hE_rng (z12)) (by decide) (by decide) (by decide)))
      refine lv_aload_n hx hb dX4_addBlock_75 rfl (lv_at hl 1 rfl) ?_
      refine lv_dup hx hb dX4_addBlock_76 rfl ?_
      refine hk_get (ci := 7) (C := RX4) (T := TX4) (N := 4) (v := .int (g 26)) hx hb hts (fun _ h => List.mem_cons_of_mem _ (wwXc_wsX40 _ h)) hown hw 15 rfl rfl 3 (by decide) (hq _ wX_339) rfl dX4_addBlock_77 ?_
      refine lv_iconst (v := 1) hx hb dX4_addBlock_80 (by decide) ?_
      refine lv_iadd hx hb dX4_addBlock_81 (jx_nm fun z18 hz18 => ?_)
      have xz18 : (z18).toInt = (g 26).toInt + ((1 : Int32)).toInt := (hE_imp (hE_add hz18) (ob199 ((g 26).toInt) (((1 : Int32)).toInt) (((0 : Int32)).toInt) (((200 : Int32)).toInt) ((z3).toInt) ((z6).toInt) ((z9).toInt) (((2 : Int32)).toInt) ((z12).toInt) (((3 : Int32)).toInt) ((z15).toInt) (((4 : Int32)).toInt) hi_g26 (hE_nlt cc1) (hE_nle cc2) xz3 xz6 xz9 xz12 xz15 (hE_rng (g 26)) (by decide) (by decide) (by decide) (hE_rng (z3)) (hE_rng (z6)) (hE_rng (z9)) (by decide) (hE_rng (z12)) (by decide) (hE_rng (z15)) (by decide)))
      refine jx_putg xw (g := g) (lg := lg) (ar := a16) (bk := bk) (x := z18) 26 (ci := 7) (C := RX4) (T := TX4) (N := 4) (ty := .int) hx hb hts (fun _ h => List.mem_cons_of_mem _ (wwXc_wsX40 _ h)) tyX4 tyX4_ok nmX4 hown hw 15 rfl rfl 3 (by decide) (hq _ wX_339) rfl (by decide +kernel) rfl rfl (Nat.le_of_ble_eq_true rfl) dX4_addBlock_82 rfl (fun H locs g19 h_g19 hw => ?_)
      have e_g19_26 : g19 26 = z18 := (hk_upgS h_g19)
      exact kr g19 lg a16 bk _ _ _ _ ⟨(hk_frG hk_fr0 (by decide) h_g19), rfl, (hk_frA (hk_frA (hk_frA (hk_frA (hk_frA hk_fr0 (by decide) h_a4) (by decide) h_a7) (by decide) h_a10) (by decide) h_a13) (by decide) h_a16), rfl, (ob200 ((g19 26).toInt) ((z18).toInt) ((g 26).toInt) (((1 : Int32)).toInt) (((0 : Int32)).toInt) (((200 : Int32)).toInt) ((z3).toInt) ((z6).toInt) ((z9).toInt) (((2 : Int32)).toInt) ((z12).toInt) (((3 : Int32)).toInt) ((z15).toInt) (((4 : Int32)).toInt) (congrArg Int32.toInt e_g19_26) xz18 hi_g26 (hE_nlt cc1) (hE_nle cc2) xz3 xz6 xz9 xz12 xz15 (hE_rng (g19 26)) (hE_rng (z18)) (hE_rng (g 26)) (by decide) (by decide) (by decide) (hE_rng (z3)) (hE_rng (z6)) (hE_rng (z9)) (by decide) (hE_rng (z12)) (by decide) (hE_rng (z15)) (by decide)), hr17⟩ hw dX4_addBlock_85

set_option maxHeartbeats 4000000 in
set_option maxRecDepth 100000 in
/-- X4_blockPart on (15,) -/
theorem jx_X4_blockPart (l : Launch) (hlt : l.stackTraces = false) (D : va_G) (t3 : Nat × Nat × Nat) (cI cJ : ClassId) (ad : Nat → Nat) (g : Nat → Int32) (lg : Nat → Int64) (ar : Nat → Nat → Int32) (bk : Nat → Int64) (sz : Nat) (y1 : Int32) (y2 : Int32) (hi_a7rm : hk_rm 5 3 (-3000) 3000 (ar 7)) : JMi l yX4_blockPart (Cond.code yX4_blockPart cX4_blockPart 3 (some .int) :: wwX) { frames := 0, cells := 1, slots := 6, locals := 0 } t3 D xw cI cJ ad [.ref (ad 15), .int y1, .int y2] (xw cI cJ ad g lg ar bk) sz 1 6 (fun (r : Int32) g' lg' ar' bk' => g = g' ∧ lg = lg' ∧ ar = ar' ∧ bk = bk' ∧ ((y2).toInt = 3 → -3000 ≤ (r).toInt ∧ (r).toInt ≤ 3000)) (fun g' lg' ar' bk' => False) := by
  refine jx_meti (cc := cX4_blockPart) (maxL := 3) (ret := (some .int)) rfl (by decide) rfl (Nat.le_of_ble_eq_true rfl) ?_
  intro p e s m args below meth c ls Q A hx hb hml hown hts hA hZ hw hl hQ kr kt
  have hq : ∀ w ∈ wwX, w.before args s = true := fun w h => hts w (List.mem_cons_of_mem _ h)
  have hl : lv_has ls 3 [(0, .ref (ad 15)), (1, .int y1), (2, .int y2)] := hl
  refine lv_iload_n hx hb dX4_blockPart_0 rfl (lv_at hl 1 rfl) ?_
  refine lv_if_lt (tgt := 28) hx hb dX4_blockPart_1 (by decide) (fun cc1 => ?_) (fun cc1 => ?_)
  · refine lv_iconst (v := (-1)) hx hb dX4_blockPart_28 (by decide) ?_
    exact kr (-1) g lg ar bk _ _ _ _ ⟨rfl, rfl, rfl, rfl, (ob201 ((y2).toInt) ((((-1) : Int32)).toInt) (hE_rng (y2)) (by decide))⟩ hw dX4_blockPart_29
  · refine lv_iload_n hx hb dX4_blockPart_4 rfl (lv_at hl 1 rfl) ?_
    refine lv_aload_n hx hb dX4_blockPart_5 rfl (lv_at hl 0 rfl) ?_
    refine hk_get (ci := 7) (C := RX4) (T := TX4) (N := 4) (v := .int (g 26)) hx hb hts (fun _ h => List.mem_cons_of_mem _ (wwXc_wsX40 _ h)) hown hw 15 rfl rfl 3 (by decide) (hq _ wX_339) rfl dX4_blockPart_6 ?_
    refine lv_icmp_ge (tgt := 28) hx hb dX4_blockPart_9 (by decide) (fun cc2 => ?_) (fun cc2 => ?_)
    · refine lv_iconst (v := (-1)) hx hb dX4_blockPart_28 (by decide) ?_
      exact kr (-1) g lg ar bk _ _ _ _ ⟨rfl, rfl, rfl, rfl, (ob201 ((y2).toInt) ((((-1) : Int32)).toInt) (hE_rng (y2)) (by decide))⟩ hw dX4_blockPart_29
    · refine lv_iload_n hx hb dX4_blockPart_12 rfl (lv_at hl 1 rfl) ?_
      refine lv_sipush (v := 200) hx hb dX4_blockPart_13 (by decide) ?_
      refine lv_icmp_ge (tgt := 28) hx hb dX4_blockPart_16 (by decide) (fun cc3 => ?_) (fun cc3 => ?_)
      · refine lv_iconst (v := (-1)) hx hb dX4_blockPart_28 (by decide) ?_
        exact kr (-1) g lg ar bk _ _ _ _ ⟨rfl, rfl, rfl, rfl, (ob201 ((y2).toInt) ((((-1) : Int32)).toInt) (hE_rng (y2)) (by decide))⟩ hw dX4_blockPart_29
      · refine lv_iload_n hx hb dX4_blockPart_19 rfl (lv_at hl 2 rfl) ?_
        refine lv_if_lt (tgt := 28) hx hb dX4_blockPart_20 (by decide) (fun cc4 => ?_) (fun cc4 => ?_)
        · refine lv_iconst (v := (-1)) hx hb dX4_blockPart_28 (by decide) ?_
          exact kr (-1) g lg ar bk _ _ _ _ ⟨rfl, rfl, rfl, rfl, (ob202 ((y2).toInt) ((((-1) : Int32)).toInt) (((0 : Int32)).toInt) ((y1).toInt) ((g 26).toInt) (((200 : Int32)).toInt) (hE_lt cc4) (hE_nlt cc1) (hE_nle cc2) (hE_nle cc3) (hE_rng (y2)) (by decide) (by decide) (hE_rng (y1)) (hE_rng (g 26)) (by decide))⟩ hw dX4_blockPart_29
        · refine lv_iload_n hx hb dX4_blockPart_23 rfl (lv_at hl 2 rfl) ?_
          refine lv_iconst (v := 4) hx hb dX4_blockPart_24 (by decide) ?_
          refine lv_icmp_le (tgt := 30) hx hb dX4_blockPart_25 (by decide) (fun cc5 => ?_) (fun cc5 => ?_)
          · refine lv_aload_n hx hb dX4_blockPart_30 rfl (lv_at hl 0 rfl) ?_
            refine hk_get (ci := 7) (C := RX4) (T := TX4) (N := 4) (v := .ref (ad 17)) hx hb hts (fun _ h => List.mem_cons_of_mem _ (wwXc_wsX40 _ h)) hown hw 15 rfl rfl 1 (by decide) (hq _ wX_340) rfl dX4_blockPart_31 ?_
            refine lv_iconst (v := 5) hx hb dX4_blockPart_34 (by decide) ?_
            refine lv_iload_n hx hb dX4_blockPart_35 rfl (lv_at hl 1 rfl) ?_
            refine lv_imul hx hb dX4_blockPart_36 (jx_nm fun z6 hz6 => ?_)
            have xz6 : (z6).toInt = (y1).toInt * 5 := (hE_imp (hE_mul' 5 hz6 (by decide)) (ob203 ((y1).toInt) (((0 : Int32)).toInt) ((g 26).toInt) (((200 : Int32)).toInt) ((y2).toInt) (((4 : Int32)).toInt) (hE_nlt cc1) (hE_nle cc2) (hE_nle cc3) (hE_nlt cc4) (hE_le cc5) (hE_rng (y1)) (by decide) (hE_rng (g 26)) (by decide) (hE_rng (y2)) (by decide)))
            refine lv_iload_n hx hb dX4_blockPart_37 rfl (lv_at hl 2 rfl) ?_
            refine lv_iadd hx hb dX4_blockPart_38 (jx_nm fun z7 hz7 => ?_)
            have xz7 : (z7).toInt = (z6).toInt + (y2).toInt := (hE_imp (hE_add hz7) (ob204 ((z6).toInt) ((y2).toInt) (((0 : Int32)).toInt) (((4 : Int32)).toInt) ((y1).toInt) ((g 26).toInt) (((200 : Int32)).toInt) (hE_nlt cc4) (hE_le cc5) xz6 (hE_nlt cc1) (hE_nle cc2) (hE_nle cc3) (hE_rng (z6)) (hE_rng (y2)) (by decide) (by decide) (hE_rng (y1)) (hE_rng (g 26)) (by decide)))
            refine jx_iald hx hb hw 17 0 rfl rfl (hE_in (n := 1000) (ob205 ((z7).toInt) ((z6).toInt) ((y2).toInt) (((0 : Int32)).toInt) (((4 : Int32)).toInt) ((y1).toInt) ((g 26).toInt) (((200 : Int32)).toInt) xz7 (hE_nlt cc4) (hE_le cc5) xz6 (hE_nlt cc1) (hE_nle cc2) (hE_nle cc3) (hE_rng (z7)) (hE_rng (z6)) (hE_rng (y2)) (by decide) (by decide) (hE_rng (y1)) (hE_rng (g 26)) (by decide))) dX4_blockPart_39 (fun z8 hz8 => ?_)
            exact kr z8 g lg ar bk _ _ _ _ ⟨rfl, rfl, rfl, rfl, (ob207 ((y2).toInt) ((z8).toInt) (((0 : Int32)).toInt) (((4 : Int32)).toInt) ((z7).toInt) ((z6).toInt) ((y1).toInt) ((g 26).toInt) (((200 : Int32)).toInt) (hE_nlt cc4) (hE_le cc5) xz7 (hk_rmV hi_a7rm hz8 (ob206 ((z7).toInt) ((z6).toInt) ((y2).toInt) (((0 : Int32)).toInt) (((4 : Int32)).toInt) ((y1).toInt) ((g 26).toInt) (((200 : Int32)).toInt) xz7 (hE_nlt cc4) (hE_le cc5) xz6 (hE_nlt cc1) (hE_nle cc2) (hE_nle cc3) (hE_rng (z7)) (hE_rng (z6)) (hE_rng (y2)) (by decide) (by decide) (hE_rng (y1)) (hE_rng (g 26)) (by decide))) (hE_nlt cc1) xz6 (hE_nle cc2) (hE_nle cc3) (hE_rng (y2)) (hE_rng (z8)) (by decide) (by decide) (hE_rng (z7)) (hE_rng (z6)) (hE_rng (y1)) (hE_rng (g 26)) (by decide))⟩ hw dX4_blockPart_40
          · refine lv_iconst (v := (-1)) hx hb dX4_blockPart_28 (by decide) ?_
            exact kr (-1) g lg ar bk _ _ _ _ ⟨rfl, rfl, rfl, rfl, (ob208 ((y2).toInt) ((((-1) : Int32)).toInt) (((0 : Int32)).toInt) (((4 : Int32)).toInt) ((y1).toInt) ((g 26).toInt) (((200 : Int32)).toInt) (hE_nlt cc4) (hE_nle cc5) (hE_nlt cc1) (hE_nle cc2) (hE_nle cc3) (hE_rng (y2)) (by decide) (by decide) (by decide) (hE_rng (y1)) (hE_rng (g 26)) (by decide))⟩ hw dX4_blockPart_29

set_option maxHeartbeats 4000000 in
set_option maxRecDepth 100000 in
/-- X4_bytesOfBlocks on (15,) -/
theorem jx_X4_bytesOfBlocks (l : Launch) (hlt : l.stackTraces = false) (D : va_G) (t3 : Nat × Nat × Nat) (cI cJ : ClassId) (ad : Nat → Nat) (g : Nat → Int32) (lg : Nat → Int64) (ar : Nat → Nat → Int32) (bk : Nat → Int64) (sz : Nat) (hi_g26 : 0 ≤ (g 26).toInt ∧ (g 26).toInt ≤ 200) (hi_a7rm : hk_rm 5 3 (-3000) 3000 (ar 7)) : JMi l yX4_bytesOfBlocks (Cond.code yX4_bytesOfBlocks cX4_bytesOfBlocks 3 (some .int) :: wwX) { frames := 1, cells := 1, slots := 6, locals := 22 } t3 D xw cI cJ ad [.ref (ad 15)] (xw cI cJ ad g lg ar bk) sz 1 6 (fun (r : Int32) g' lg' ar' bk' => g = g' ∧ lg = lg' ∧ ar = ar' ∧ bk = bk' ∧ (-600000 ≤ (r).toInt ∧ (r).toInt ≤ 600000)) (fun g' lg' ar' bk' => False) := by
  refine jx_meti (cc := cX4_bytesOfBlocks) (maxL := 3) (ret := (some .int)) rfl (by decide) rfl (Nat.le_of_ble_eq_true rfl) ?_
  intro p e s m args below meth c ls Q A hx hb hml hown hts hA hZ hw hl hQ kr kt
  have hq : ∀ w ∈ wwX, w.before args s = true := fun w h => hts w (List.mem_cons_of_mem _ h)
  have hl : lv_has ls 3 [(0, .ref (ad 15))] := hl
  refine lv_iconst (v := 0) hx hb dX4_bytesOfBlocks_0 (by decide) ?_
  refine lv_istore_n (lv' := [(1, .int 0), (0, .ref (ad 15))]) hx hb dX4_bytesOfBlocks_1 rfl hl (by decide) rfl (fun ls hl => ?_)
  refine lv_iconst (v := 0) hx hb dX4_bytesOfBlocks_2 (by decide) ?_
  refine lv_istore_n (lv' := [(2, .int 0), (1, .int 0), (0, .ref (ad 15))]) hx hb dX4_bytesOfBlocks_3 rfl hl (by decide) rfl (fun ls hl => ?_)
  have B1 : ∀ (k4 : Nat) (x2 : Int32) (x3 : Int32) (ls : Array Slot) (H : Heap) (locs : List Loc), (2147483648 - (x3).toInt ≤ (k4 : Int)) → ((x3).toInt ≤ 200) → (-3000 * (x3).toInt ≤ (x2).toInt ∧ (x2).toInt ≤ 3000 * (x3).toInt) → (0 ≤ (x3).toInt) → hk_W D (jT cI cJ) A s H locs (xw cI cJ ad g lg ar bk) → lv_has ls 3 [(0, .ref (ad 15)), (1, .int x2), (2, .int x3)] → W p l e { frames := 1, cells := 1, slots := 6, locals := 22 } s m args below meth c H locs 0 0 Q (F0 m 4 ls []) := by
    intro k4
    induction k4 with
    | zero =>
      intro x2 x3 ls H locs hrk_B1 hf_B1_0 hf_B1_1 hf_B1_2 hw hl
      exact False.elim (hk_no0 (0 * (x3).toInt) (ob209 ((x3).toInt) ((x2).toInt) hf_B1_0 hf_B1_1 hf_B1_2 hrk_B1 (hE_rng (x3)) (hE_rng (x2))) (by simp))
    | succ k4 ih_B1 =>
      intro x2 x3 ls H locs hrk_B1 hf_B1_0 hf_B1_1 hf_B1_2 hw hl
      have hrk_B1 := hk_rk hrk_B1
      refine lv_iload_n hx hb dX4_bytesOfBlocks_4 rfl (lv_at hl 2 rfl) ?_
      refine lv_aload_n hx hb dX4_bytesOfBlocks_5 rfl (lv_at hl 0 rfl) ?_
      refine hk_get (ci := 7) (C := RX4) (T := TX4) (N := 4) (v := .int (g 26)) hx hb hts (fun _ h => List.mem_cons_of_mem _ (wwXc_wsX40 _ h)) hown hw 15 rfl rfl 3 (by decide) (hq _ wX_339) rfl dX4_bytesOfBlocks_6 ?_
      refine lv_icmp_ge (tgt := 27) hx hb dX4_bytesOfBlocks_9 (by decide) (fun cc5 => ?_) (fun cc5 => ?_)
      · refine lv_iload_n hx hb dX4_bytesOfBlocks_27 rfl (lv_at hl 1 rfl) ?_
        exact kr x2 g lg ar bk _ _ _ _ ⟨rfl, rfl, rfl, rfl, (ob210 ((x2).toInt) ((x3).toInt) (k4 : Int) ((g 26).toInt) hf_B1_1 hf_B1_0 hf_B1_2 hrk_B1 (hE_le cc5) hi_g26 (hE_rng (x2)) (hE_rng (x3)) (hE_rng (g 26)))⟩ hw dX4_bytesOfBlocks_28
      · refine lv_iload_n hx hb dX4_bytesOfBlocks_12 rfl (lv_at hl 1 rfl) ?_
        refine lv_aload_n hx hb dX4_bytesOfBlocks_13 rfl (lv_at hl 0 rfl) ?_
        refine lv_iload_n hx hb dX4_bytesOfBlocks_14 rfl (lv_at hl 2 rfl) ?_
        refine lv_iconst (v := 3) hx hb dX4_bytesOfBlocks_15 (by decide) ?_
        refine jx_Vi (As := [.int x3, .int 3]) (rest := [.int x2]) ⟨hx, hb, hml, hown, hts⟩ hZ hw hA (jx_X4_blockPart l hlt D t3 cI cJ ad g lg ar bk _ x3 3 hi_a7rm) (cwV 2 hts (jx_gV wwX_good wX_343 wX_67 wX_68 wX_69 wX_70) rfl rfl rfl (by decide +kernel) ⟨Nat.le_of_ble_eq_true rfl, Nat.le_of_ble_eq_true rfl⟩) 15 (ci := 7) (T := TX4) (N := 4) rfl rfl rfl hl.1 rfl (Nat.le_of_ble_eq_true rfl) dX4_bytesOfBlocks_16 ⟨Nat.le_of_ble_eq_true rfl, Nat.le_of_ble_eq_true rfl⟩ (fun _ _ _ _ _ _ _ _ hp _ _ _ _ => hp.elim) (fun r10 g11 l12 a13 b14 H locs hp15 hw => ?_)
        obtain ⟨rfl, rfl, rfl, rfl, h20⟩ := hp15
        refine lv_iadd hx hb dX4_bytesOfBlocks_19 (jx_nm fun z21 hz21 => ?_)
        refine lv_istore_n (lv' := [(1, .int z21), (0, .ref (ad 15)), (2, .int x3)]) hx hb dX4_bytesOfBlocks_20 rfl hl (by decide) rfl (fun ls hl => ?_)
        obtain ⟨z22, hz22⟩ : ∃ z : Int32, x3 + 1 = z := ⟨_, rfl⟩
        refine lv_iinc (v := z22) (lv' := [(2, .int z22), (1, .int z21), (0, .ref (ad 15))]) hx hb dX4_bytesOfBlocks_21 hl (k := 2) rfl hz22 (by decide) rfl (fun ls hl => ?_)
        have xz22 : (z22).toInt = (x3).toInt + ((1 : Int32)).toInt := (hE_imp (hE_add hz22) (ob211 ((x3).toInt) (((1 : Int32)).toInt) ((x2).toInt) (k4 : Int) ((g 26).toInt) ((z21).toInt) ((r10).toInt) (((3 : Int32)).toInt) hf_B1_0 hf_B1_1 hf_B1_2 hrk_B1 (hE_nle cc5) hi_g26 (hE_add hz21) h20 (hE_rng (x3)) (by decide) (hE_rng (x2)) (hE_rng (g 26)) (hE_rng (z21)) (hE_rng (r10)) (by decide)))
        refine lv_goto (tgt := 4) hx hb dX4_bytesOfBlocks_24 (by decide) ?_
        exact ih_B1 z21 z22 ls _ _ (ob212 ((z22).toInt) (k4 : Int) ((x3).toInt) (((1 : Int32)).toInt) ((x2).toInt) ((g 26).toInt) ((z21).toInt) ((r10).toInt) (((3 : Int32)).toInt) hrk_B1 xz22 hf_B1_0 hf_B1_1 hf_B1_2 (hE_nle cc5) hi_g26 (hE_add hz21) h20 (hE_rng (z22)) (hE_rng (x3)) (by decide) (hE_rng (x2)) (hE_rng (g 26)) (hE_rng (z21)) (hE_rng (r10)) (by decide)) (ob213 ((z22).toInt) ((x3).toInt) (((1 : Int32)).toInt) ((x2).toInt) (k4 : Int) ((g 26).toInt) ((z21).toInt) ((r10).toInt) (((3 : Int32)).toInt) xz22 hf_B1_0 hf_B1_1 hf_B1_2 hrk_B1 (hE_nle cc5) hi_g26 (hE_add hz21) h20 (hE_rng (z22)) (hE_rng (x3)) (by decide) (hE_rng (x2)) (hE_rng (g 26)) (hE_rng (z21)) (hE_rng (r10)) (by decide)) (ob214 ((z22).toInt) ((z21).toInt) ((x2).toInt) ((r10).toInt) ((x3).toInt) (((1 : Int32)).toInt) (k4 : Int) ((g 26).toInt) (((3 : Int32)).toInt) (hE_add hz21) xz22 hf_B1_0 hf_B1_1 hf_B1_2 hrk_B1 (hE_nle cc5) h20 hi_g26 (hE_rng (z22)) (hE_rng (z21)) (hE_rng (x2)) (hE_rng (r10)) (hE_rng (x3)) (by decide) (hE_rng (g 26)) (by decide)) (ob215 ((z22).toInt) ((x3).toInt) (((1 : Int32)).toInt) ((x2).toInt) (k4 : Int) ((g 26).toInt) ((z21).toInt) ((r10).toInt) (((3 : Int32)).toInt) xz22 hf_B1_0 hf_B1_1 hf_B1_2 hrk_B1 (hE_nle cc5) hi_g26 (hE_add hz21) h20 (hE_rng (z22)) (hE_rng (x3)) (by decide) (hE_rng (x2)) (hE_rng (g 26)) (hE_rng (z21)) (hE_rng (r10)) (by decide)) hw (lv_sub hl [2, 1, 0] rfl)
  exact B1 (2147483648 - ((0 : Int32)).toInt).toNat 0 0 ls _ _ (Int.self_le_toNat _) (ob216 (((0 : Int32)).toInt) (by decide)) (ob217 (((0 : Int32)).toInt) (by decide)) (ob9 (((0 : Int32)).toInt) (by decide)) hw (lv_sub hl [2, 1, 0] rfl)
