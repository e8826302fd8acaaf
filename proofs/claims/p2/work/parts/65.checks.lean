/-! 65.checks -/
theorem ob218 (v0 : Int) (v1 : Int) (v2 : Int) (h0 : v0 = v1 % 8) (h1 : v1 = v2 / 4) (h2 : -2147483648 ≤ v0 ∧ v0 ≤ 2147483647) (h3 : -2147483648 ≤ v1 ∧ v1 ≤ 2147483647) (h4 : -2147483648 ≤ v2 ∧ v2 ≤ 2147483647) : 0 ≤ v0 ∧ v0 < (8 : Nat) := by omega
theorem ob219 (v0 : Int) (v1 : Int) (v2 : Int) (v3 : Int) (h0 : v0 = v1 % 4) (h1 : v2 = v1 / 4) (h2 : v3 = v2 % 8) (h3 : -2147483648 ≤ v0 ∧ v0 ≤ 2147483647) (h4 : -2147483648 ≤ v1 ∧ v1 ≤ 2147483647) (h5 : -2147483648 ≤ v2 ∧ v2 ≤ 2147483647) (h6 : -2147483648 ≤ v3 ∧ v3 ≤ 2147483647) : -2147483648 ≤ v0 * 8 ∧ v0 * 8 ≤ 2147483647 := by omega
theorem ob220 (v0 : Int) (v1 : Int) (v2 : Int) (v3 : Int) (v4 : Int) (h0 : v1 = v2 % 4) (h1 : v3 = v2 / 4) (h2 : v4 = v3 % 8) (h3 : v0 = 3) (h4 : -2147483648 ≤ v1 ∧ v1 ≤ 2147483647) (h5 : -2147483648 ≤ v2 ∧ v2 ≤ 2147483647) (h6 : -2147483648 ≤ v3 ∧ v3 ≤ 2147483647) (h7 : -2147483648 ≤ v4 ∧ v4 ≤ 2147483647) : -2147483648 ≤ v0 - v1 ∧ v0 - v1 ≤ 2147483647 := by omega
theorem ob221 (v0 : Int) (v1 : Int) (v2 : Int) (v3 : Int) (v4 : Int) (v5 : Int) (h0 : v0 = v1 - v2) (h1 : v2 = v3 % 4) (h2 : v4 = v3 / 4) (h3 : v5 = v4 % 8) (h4 : -2147483648 ≤ v0 ∧ v0 ≤ 2147483647) (h5 : v1 = 3) (h6 : -2147483648 ≤ v2 ∧ v2 ≤ 2147483647) (h7 : -2147483648 ≤ v3 ∧ v3 ≤ 2147483647) (h8 : -2147483648 ≤ v4 ∧ v4 ≤ 2147483647) (h9 : -2147483648 ≤ v5 ∧ v5 ≤ 2147483647) : -2147483648 ≤ v0 * 8 ∧ v0 * 8 ≤ 2147483647 := by omega
theorem ob222 (v0 : Int) (v1 : Int) (v2 : Int) (v3 : Int) (h0 : v0 ≤ 7) (h1 : v0 + 2147483649 ≤ v2 + 1) (h2 : v3 < v0) (h3 : -2147483648 ≤ v0 ∧ v0 ≤ 2147483647) (h4 : v1 = 1) (h5 : v3 = 0) : -2147483648 ≤ v0 - v1 ∧ v0 - v1 ≤ 2147483647 := by omega
theorem ob223 (v0 : Int) (v1 : Int) (v2 : Int) (v3 : Int) (v4 : Int) (h0 : v0 = v1 - v2) (h1 : v1 ≤ 7) (h2 : v1 + 2147483649 ≤ v3 + 1) (h3 : v4 < v1) (h4 : -2147483648 ≤ v0 ∧ v0 ≤ 2147483647) (h5 : -2147483648 ≤ v1 ∧ v1 ≤ 2147483647) (h6 : v2 = 1) (h7 : v4 = 0) : 0 ≤ v0 ∧ v0 < (8 : Nat) := by omega
theorem ob224 (v0 : Int) (v1 : Int) (v2 : Int) (v3 : Int) (v4 : Int) (h0 : v0 ≤ 7) (h1 : v0 + 2147483649 ≤ v1 + 1) (h2 : v2 < v0) (h3 : v3 = v0 - v4) (h4 : -2147483648 ≤ v0 ∧ v0 ≤ 2147483647) (h5 : v2 = 0) (h6 : -2147483648 ≤ v3 ∧ v3 ≤ 2147483647) (h7 : v4 = 1) : 0 ≤ v0 ∧ v0 < (8 : Nat) := by omega
theorem ob225 (v0 : Int) (v1 : Int) (v2 : Int) (v3 : Int) (v4 : Int) (v5 : Int) (h0 : v0 ≤ 7) (h1 : v0 + 2147483649 ≤ v2 + 1) (h2 : v3 < v0) (h3 : v4 = v0 - v5) (h4 : -2147483648 ≤ v0 ∧ v0 ≤ 2147483647) (h5 : v1 = (-1)) (h6 : v3 = 0) (h7 : -2147483648 ≤ v4 ∧ v4 ≤ 2147483647) (h8 : v5 = 1) : -2147483648 ≤ v0 + v1 ∧ v0 + v1 ≤ 2147483647 := by omega
theorem ob226 (v0 : Int) (v1 : Int) (v2 : Int) (v3 : Int) (v4 : Int) (v5 : Int) (v6 : Int) (h0 : v2 + 2147483649 ≤ v1 + 1) (h1 : v0 = v2 + v3) (h2 : v2 ≤ 7) (h3 : v4 < v2) (h4 : v5 = v2 - v6) (h5 : -2147483648 ≤ v0 ∧ v0 ≤ 2147483647) (h6 : -2147483648 ≤ v2 ∧ v2 ≤ 2147483647) (h7 : v3 = (-1)) (h8 : v4 = 0) (h9 : -2147483648 ≤ v5 ∧ v5 ≤ 2147483647) (h10 : v6 = 1) : v0 + 2147483649 ≤ v1 := by omega
theorem ob227 (v0 : Int) (v1 : Int) (v2 : Int) (v3 : Int) (v4 : Int) (v5 : Int) (v6 : Int) (h0 : v0 = v1 + v2) (h1 : v1 ≤ 7) (h2 : v1 + 2147483649 ≤ v3 + 1) (h3 : v4 < v1) (h4 : v5 = v1 - v6) (h5 : -2147483648 ≤ v0 ∧ v0 ≤ 2147483647) (h6 : -2147483648 ≤ v1 ∧ v1 ≤ 2147483647) (h7 : v2 = (-1)) (h8 : v4 = 0) (h9 : -2147483648 ≤ v5 ∧ v5 ≤ 2147483647) (h10 : v6 = 1) : v0 ≤ 7 := by omega
theorem ob228 (v0 : Int) (h0 : 16 ≤ v0) (h1 : 2147483648 - v0 ≤ 0) (h2 : -2147483648 ≤ v0 ∧ v0 ≤ 2147483647) : (0 * v0) ≤ -1 := by omega
theorem ob229 (v0 : Int) (v1 : Int) (v2 : Int) (h0 : 0 ≤ v0) (h1 : 2147483648 - v0 ≤ v1 + 1) (h2 : v0 < v2) (h3 : -2147483648 ≤ v0 ∧ v0 ≤ 2147483647) (h4 : v2 = 8) : 0 ≤ v0 ∧ v0 < (8 : Nat) := by omega
theorem ob230 (v0 : Int) (v1 : Int) (v2 : Int) (v3 : Int) (h0 : 0 ≤ v0) (h1 : 2147483648 - v0 ≤ v2 + 1) (h2 : v0 < v3) (h3 : -2147483648 ≤ v0 ∧ v0 ≤ 2147483647) (h4 : v1 = 1) (h5 : v3 = 8) : -2147483648 ≤ v0 + v1 ∧ v0 + v1 ≤ 2147483647 := by omega
theorem ob231 (v0 : Int) (v1 : Int) (v2 : Int) (v3 : Int) (v4 : Int) (h0 : 2147483648 - v2 ≤ v1 + 1) (h1 : v0 = v2 + v3) (h2 : 0 ≤ v2) (h3 : v2 < v4) (h4 : -2147483648 ≤ v0 ∧ v0 ≤ 2147483647) (h5 : -2147483648 ≤ v2 ∧ v2 ≤ 2147483647) (h6 : v3 = 1) (h7 : v4 = 8) : 2147483648 - v0 ≤ v1 := by omega
theorem ob232 (v0 : Int) (v1 : Int) (v2 : Int) (v3 : Int) (v4 : Int) (h0 : v0 = v1 + v2) (h1 : 0 ≤ v1) (h2 : 2147483648 - v1 ≤ v3 + 1) (h3 : v1 < v4) (h4 : -2147483648 ≤ v0 ∧ v0 ≤ 2147483647) (h5 : -2147483648 ≤ v1 ∧ v1 ≤ 2147483647) (h6 : v2 = 1) (h7 : v4 = 8) : 0 ≤ v0 := by omega
theorem ob233 (v0 : Int) (v1 : Int) (v2 : Int) (v3 : Int) (v4 : Int) (h0 : 0 ≤ v0) (h1 : 2147483648 - v0 ≤ v1 + 1) (h2 : v0 < v2) (h3 : v2 ≤ v3) (h4 : 16 ≤ v3) (h5 : 2147483648 - v3 ≤ v4 + 1) (h6 : -2147483648 ≤ v0 ∧ v0 ≤ 2147483647) (h7 : v2 = 64) (h8 : -2147483648 ≤ v3 ∧ v3 ≤ 2147483647) : 0 ≤ v0 ∧ v0 < (64 : Nat) := by omega
theorem ob234 (v0 : Int) (v1 : Int) (v2 : Int) (v3 : Int) (v4 : Int) (v5 : Int) (h0 : 0 ≤ v0) (h1 : 2147483648 - v0 ≤ v2 + 1) (h2 : v0 < v3) (h3 : v3 ≤ v4) (h4 : 16 ≤ v4) (h5 : 2147483648 - v4 ≤ v5 + 1) (h6 : -2147483648 ≤ v0 ∧ v0 ≤ 2147483647) (h7 : v1 = 1) (h8 : v3 = 64) (h9 : -2147483648 ≤ v4 ∧ v4 ≤ 2147483647) : -2147483648 ≤ v0 + v1 ∧ v0 + v1 ≤ 2147483647 := by omega
theorem ob235 (v0 : Int) (v1 : Int) (v2 : Int) (v3 : Int) (v4 : Int) (v5 : Int) (v6 : Int) (h0 : 2147483648 - v2 ≤ v1 + 1) (h1 : v0 = v2 + v3) (h2 : 0 ≤ v2) (h3 : v2 < v4) (h4 : v4 ≤ v5) (h5 : 16 ≤ v5) (h6 : 2147483648 - v5 ≤ v6 + 1) (h7 : -2147483648 ≤ v0 ∧ v0 ≤ 2147483647) (h8 : -2147483648 ≤ v2 ∧ v2 ≤ 2147483647) (h9 : v3 = 1) (h10 : v4 = 64) (h11 : -2147483648 ≤ v5 ∧ v5 ≤ 2147483647) : 2147483648 - v0 ≤ v1 := by omega
theorem ob236 (v0 : Int) (v1 : Int) (v2 : Int) (v3 : Int) (v4 : Int) (v5 : Int) (v6 : Int) (h0 : v0 = v1 + v2) (h1 : 0 ≤ v1) (h2 : 2147483648 - v1 ≤ v3 + 1) (h3 : v1 < v4) (h4 : v4 ≤ v5) (h5 : 16 ≤ v5) (h6 : 2147483648 - v5 ≤ v6 + 1) (h7 : -2147483648 ≤ v0 ∧ v0 ≤ 2147483647) (h8 : -2147483648 ≤ v1 ∧ v1 ≤ 2147483647) (h9 : v2 = 1) (h10 : v4 = 64) (h11 : -2147483648 ≤ v5 ∧ v5 ≤ 2147483647) : 0 ≤ v0 := by omega
theorem ob237 (v0 : Int) (v1 : Int) (v2 : Int) (v3 : Int) (h0 : 16 ≤ v0) (h1 : 2147483648 - v0 ≤ v2 + 1) (h2 : v0 < v3) (h3 : -2147483648 ≤ v0 ∧ v0 ≤ 2147483647) (h4 : v1 = 15) (h5 : v3 = 64) : -2147483648 ≤ v0 - v1 ∧ v0 - v1 ≤ 2147483647 := by omega
theorem ob238 (v0 : Int) (v1 : Int) (v2 : Int) (v3 : Int) (v4 : Int) (h0 : v0 = v1 - v2) (h1 : 16 ≤ v1) (h2 : 2147483648 - v1 ≤ v3 + 1) (h3 : v1 < v4) (h4 : -2147483648 ≤ v0 ∧ v0 ≤ 2147483647) (h5 : -2147483648 ≤ v1 ∧ v1 ≤ 2147483647) (h6 : v2 = 15) (h7 : v4 = 64) : 0 ≤ v0 ∧ v0 < (64 : Nat) := by omega
theorem ob239 (v0 : Int) (v1 : Int) (v2 : Int) (v3 : Int) (v4 : Int) (v5 : Int) (h0 : 16 ≤ v0) (h1 : 2147483648 - v0 ≤ v2 + 1) (h2 : v0 < v3) (h3 : v4 = v0 - v5) (h4 : -2147483648 ≤ v0 ∧ v0 ≤ 2147483647) (h5 : v1 = 2) (h6 : v3 = 64) (h7 : -2147483648 ≤ v4 ∧ v4 ≤ 2147483647) (h8 : v5 = 15) : -2147483648 ≤ v0 - v1 ∧ v0 - v1 ≤ 2147483647 := by omega
theorem ob240 (v0 : Int) (v1 : Int) (v2 : Int) (v3 : Int) (v4 : Int) (v5 : Int) (v6 : Int) (h0 : v0 = v1 - v2) (h1 : 16 ≤ v1) (h2 : 2147483648 - v1 ≤ v3 + 1) (h3 : v1 < v4) (h4 : v5 = v1 - v6) (h5 : -2147483648 ≤ v0 ∧ v0 ≤ 2147483647) (h6 : -2147483648 ≤ v1 ∧ v1 ≤ 2147483647) (h7 : v2 = 2) (h8 : v4 = 64) (h9 : -2147483648 ≤ v5 ∧ v5 ≤ 2147483647) (h10 : v6 = 15) : 0 ≤ v0 ∧ v0 < (64 : Nat) := by omega
theorem ob241 (v0 : Int) (v1 : Int) (v2 : Int) (v3 : Int) (v4 : Int) (v5 : Int) (v6 : Int) (v7 : Int) (h0 : 16 ≤ v0) (h1 : 2147483648 - v0 ≤ v2 + 1) (h2 : v0 < v3) (h3 : v4 = v0 - v5) (h4 : v6 = v0 - v7) (h5 : -2147483648 ≤ v0 ∧ v0 ≤ 2147483647) (h6 : v1 = 16) (h7 : v3 = 64) (h8 : -2147483648 ≤ v4 ∧ v4 ≤ 2147483647) (h9 : v5 = 15) (h10 : -2147483648 ≤ v6 ∧ v6 ≤ 2147483647) (h11 : v7 = 2) : -2147483648 ≤ v0 - v1 ∧ v0 - v1 ≤ 2147483647 := by omega
theorem ob242 (v0 : Int) (v1 : Int) (v2 : Int) (v3 : Int) (v4 : Int) (v5 : Int) (v6 : Int) (v7 : Int) (v8 : Int) (h0 : v0 = v1 - v2) (h1 : 16 ≤ v1) (h2 : 2147483648 - v1 ≤ v3 + 1) (h3 : v1 < v4) (h4 : v5 = v1 - v6) (h5 : v7 = v1 - v8) (h6 : -2147483648 ≤ v0 ∧ v0 ≤ 2147483647) (h7 : -2147483648 ≤ v1 ∧ v1 ≤ 2147483647) (h8 : v2 = 16) (h9 : v4 = 64) (h10 : -2147483648 ≤ v5 ∧ v5 ≤ 2147483647) (h11 : v6 = 15) (h12 : -2147483648 ≤ v7 ∧ v7 ≤ 2147483647) (h13 : v8 = 2) : 0 ≤ v0 ∧ v0 < (64 : Nat) := by omega
theorem ob243 (v0 : Int) (v1 : Int) (v2 : Int) (v3 : Int) (v4 : Int) (v5 : Int) (v6 : Int) (v7 : Int) (v8 : Int) (v9 : Int) (h0 : 16 ≤ v0) (h1 : 2147483648 - v0 ≤ v2 + 1) (h2 : v0 < v3) (h3 : v4 = v0 - v5) (h4 : v6 = v0 - v7) (h5 : v8 = v0 - v9) (h6 : -2147483648 ≤ v0 ∧ v0 ≤ 2147483647) (h7 : v1 = 7) (h8 : v3 = 64) (h9 : -2147483648 ≤ v4 ∧ v4 ≤ 2147483647) (h10 : v5 = 15) (h11 : -2147483648 ≤ v6 ∧ v6 ≤ 2147483647) (h12 : v7 = 2) (h13 : -2147483648 ≤ v8 ∧ v8 ≤ 2147483647) (h14 : v9 = 16) : -2147483648 ≤ v0 - v1 ∧ v0 - v1 ≤ 2147483647 := by omega
theorem ob244 (v0 : Int) (v1 : Int) (v2 : Int) (v3 : Int) (v4 : Int) (v5 : Int) (v6 : Int) (v7 : Int) (v8 : Int) (v9 : Int) (v10 : Int) (h0 : v0 = v1 - v2) (h1 : 16 ≤ v1) (h2 : 2147483648 - v1 ≤ v3 + 1) (h3 : v1 < v4) (h4 : v5 = v1 - v6) (h5 : v7 = v1 - v8) (h6 : v9 = v1 - v10) (h7 : -2147483648 ≤ v0 ∧ v0 ≤ 2147483647) (h8 : -2147483648 ≤ v1 ∧ v1 ≤ 2147483647) (h9 : v2 = 7) (h10 : v4 = 64) (h11 : -2147483648 ≤ v5 ∧ v5 ≤ 2147483647) (h12 : v6 = 15) (h13 : -2147483648 ≤ v7 ∧ v7 ≤ 2147483647) (h14 : v8 = 2) (h15 : -2147483648 ≤ v9 ∧ v9 ≤ 2147483647) (h16 : v10 = 16) : 0 ≤ v0 ∧ v0 < (64 : Nat) := by omega
theorem ob245 (v0 : Int) (v1 : Int) (v2 : Int) (v3 : Int) (v4 : Int) (v5 : Int) (v6 : Int) (v7 : Int) (v8 : Int) (v9 : Int) (v10 : Int) (h0 : 16 ≤ v0) (h1 : 2147483648 - v0 ≤ v1 + 1) (h2 : v0 < v2) (h3 : v3 = v0 - v4) (h4 : v5 = v0 - v6) (h5 : v7 = v0 - v8) (h6 : v9 = v0 - v10) (h7 : -2147483648 ≤ v0 ∧ v0 ≤ 2147483647) (h8 : v2 = 64) (h9 : -2147483648 ≤ v3 ∧ v3 ≤ 2147483647) (h10 : v4 = 15) (h11 : -2147483648 ≤ v5 ∧ v5 ≤ 2147483647) (h12 : v6 = 2) (h13 : -2147483648 ≤ v7 ∧ v7 ≤ 2147483647) (h14 : v8 = 16) (h15 : -2147483648 ≤ v9 ∧ v9 ≤ 2147483647) (h16 : v10 = 7) : 0 ≤ v0 ∧ v0 < (64 : Nat) := by omega
theorem ob246 (v0 : Int) (v1 : Int) (v2 : Int) (v3 : Int) (v4 : Int) (v5 : Int) (v6 : Int) (v7 : Int) (v8 : Int) (v9 : Int) (v10 : Int) (v11 : Int) (h0 : 16 ≤ v0) (h1 : 2147483648 - v0 ≤ v2 + 1) (h2 : v0 < v3) (h3 : v4 = v0 - v5) (h4 : v6 = v0 - v7) (h5 : v8 = v0 - v9) (h6 : v10 = v0 - v11) (h7 : -2147483648 ≤ v0 ∧ v0 ≤ 2147483647) (h8 : v1 = 1) (h9 : v3 = 64) (h10 : -2147483648 ≤ v4 ∧ v4 ≤ 2147483647) (h11 : v5 = 15) (h12 : -2147483648 ≤ v6 ∧ v6 ≤ 2147483647) (h13 : v7 = 2) (h14 : -2147483648 ≤ v8 ∧ v8 ≤ 2147483647) (h15 : v9 = 16) (h16 : -2147483648 ≤ v10 ∧ v10 ≤ 2147483647) (h17 : v11 = 7) : -2147483648 ≤ v0 + v1 ∧ v0 + v1 ≤ 2147483647 := by omega
theorem ob247 (v0 : Int) (v1 : Int) (v2 : Int) (v3 : Int) (v4 : Int) (v5 : Int) (v6 : Int) (v7 : Int) (v8 : Int) (v9 : Int) (v10 : Int) (v11 : Int) (v12 : Int) (h0 : 2147483648 - v2 ≤ v1 + 1) (h1 : v0 = v2 + v3) (h2 : 16 ≤ v2) (h3 : v2 < v4) (h4 : v5 = v2 - v6) (h5 : v7 = v2 - v8) (h6 : v9 = v2 - v10) (h7 : v11 = v2 - v12) (h8 : -2147483648 ≤ v0 ∧ v0 ≤ 2147483647) (h9 : -2147483648 ≤ v2 ∧ v2 ≤ 2147483647) (h10 : v3 = 1) (h11 : v4 = 64) (h12 : -2147483648 ≤ v5 ∧ v5 ≤ 2147483647) (h13 : v6 = 15) (h14 : -2147483648 ≤ v7 ∧ v7 ≤ 2147483647) (h15 : v8 = 2) (h16 : -2147483648 ≤ v9 ∧ v9 ≤ 2147483647) (h17 : v10 = 16) (h18 : -2147483648 ≤ v11 ∧ v11 ≤ 2147483647) (h19 : v12 = 7) : 2147483648 - v0 ≤ v1 := by omega
theorem ob248 (v0 : Int) (v1 : Int) (v2 : Int) (v3 : Int) (v4 : Int) (v5 : Int) (v6 : Int) (v7 : Int) (v8 : Int) (v9 : Int) (v10 : Int) (v11 : Int) (v12 : Int) (h0 : v0 = v1 + v2) (h1 : 16 ≤ v1) (h2 : 2147483648 - v1 ≤ v3 + 1) (h3 : v1 < v4) (h4 : v5 = v1 - v6) (h5 : v7 = v1 - v8) (h6 : v9 = v1 - v10) (h7 : v11 = v1 - v12) (h8 : -2147483648 ≤ v0 ∧ v0 ≤ 2147483647) (h9 : -2147483648 ≤ v1 ∧ v1 ≤ 2147483647) (h10 : v2 = 1) (h11 : v4 = 64) (h12 : -2147483648 ≤ v5 ∧ v5 ≤ 2147483647) (h13 : v6 = 15) (h14 : -2147483648 ≤ v7 ∧ v7 ≤ 2147483647) (h15 : v8 = 2) (h16 : -2147483648 ≤ v9 ∧ v9 ≤ 2147483647) (h17 : v10 = 16) (h18 : -2147483648 ≤ v11 ∧ v11 ≤ 2147483647) (h19 : v12 = 7) : 16 ≤ v0 := by omega
theorem ob249 (v0 : Int) (h0 : v0 = 16) : 16 ≤ v0 := by omega
set_option maxHeartbeats 4000000 in
set_option maxRecDepth 100000 in
/-- X0_byteOf on (11,) -/
theorem jx_X0_byteOf (l : Launch) (hlt : l.stackTraces = false) (D : va_G) (t3 : Nat × Nat × Nat) (cI cJ : ClassId) (ad : Nat → Nat) (g : Nat → Int32) (lg : Nat → Int64) (ar : Nat → Nat → Int32) (bk : Nat → Int64) (sz : Nat) (y1 : Int32) (y2 : Int32) : JMi l yX0_byteOf (Cond.code yX0_byteOf cX0_byteOf 5 (some .int) :: wwX) { frames := 0, cells := 1, slots := 6, locals := 0 } t3 D xw cI cJ ad [.ref (ad 11), .int y1, .int y2] (xw cI cJ ad g lg ar bk) sz 1 6 (fun (r : Int32) g' lg' ar' bk' => g = g' ∧ lg = lg' ∧ ar = ar' ∧ bk = bk') (fun g' lg' ar' bk' => False) := by
  refine jx_meti (cc := cX0_byteOf) (maxL := 5) (ret := (some .int)) rfl (by decide) rfl (Nat.le_of_ble_eq_true rfl) ?_
  intro p e s m args below meth c ls Q A hx hb hml hown hts hA hZ hw hl hQ kr kt
  have hq : ∀ w ∈ wwX, w.before args s = true := fun w h => hts w (List.mem_cons_of_mem _ h)
  have hl : lv_has ls 5 [(0, .ref (ad 11)), (1, .int y1), (2, .int y2)] := hl
  refine lv_aload_n hx hb dX0_byteOf_0 rfl (lv_at hl 0 rfl) ?_
  refine hk_get (ci := 3) (C := RX0) (T := TX0) (N := 3) (v := .ref (ad 12)) hx hb hts (fun _ h => List.mem_cons_of_mem _ (wwXc_wsX00 _ h)) hown hw 11 rfl rfl 0 (by decide) (hq _ wX_9) rfl dX0_byteOf_1 ?_
  refine lv_iload_n hx hb dX0_byteOf_4 rfl (lv_at hl 2 rfl) ?_
  refine lv_iconst (v := 2) hx hb dX0_byteOf_5 (by decide) ?_
  refine lv_ishr hx hb dX0_byteOf_6 (jx_nm fun z1 hz1 => ?_)
  refine lv_bipush (v := 7) hx hb dX0_byteOf_7 (by decide) ?_
  refine lv_iand hx hb dX0_byteOf_9 (jx_nm fun z2 hz2 => ?_)
  refine jx_iald hx hb hw 12 0 rfl rfl (hE_in (n := 8) (ob218 ((z2).toInt) ((z1).toInt) ((y2).toInt) (hE_and 3 8 hz2 (by decide) (by decide) (by decide)) (hE_shr 2 4 hz1 (by decide) (by decide) (by decide)) (hE_rng (z2)) (hE_rng (z1)) (hE_rng (y2)))) dX0_byteOf_10 (fun z3 hz3 => ?_)
  refine lv_istore_n (lv' := [(3, .int z3), (0, .ref (ad 11)), (1, .int y1), (2, .int y2)]) hx hb dX0_byteOf_11 rfl hl (by decide) rfl (fun ls hl => ?_)
  refine lv_iload_n hx hb dX0_byteOf_12 rfl (lv_at hl 3 rfl) ?_
  refine lv_iconst (v := 3) hx hb dX0_byteOf_13 (by decide) ?_
  refine lv_iand hx hb dX0_byteOf_14 (jx_nm fun z4 hz4 => ?_)
  refine lv_istore (lv' := [(4, .int z4), (3, .int z3), (0, .ref (ad 11)), (1, .int y1), (2, .int y2)]) hx hb dX0_byteOf_15 hl (by decide) rfl (fun ls hl => ?_)
  refine lv_iload_n hx hb dX0_byteOf_17 rfl (lv_at hl 1 rfl) ?_
  refine lv_bipush (v := 8) hx hb dX0_byteOf_18 (by decide) ?_
  refine lv_iload_n hx hb dX0_byteOf_20 rfl (lv_at hl 3 rfl) ?_
  refine lv_bipush (v := 10) hx hb dX0_byteOf_21 (by decide) ?_
  refine lv_icmp_ne (tgt := 33) hx hb dX0_byteOf_23 (by decide) (fun cc5 => ?_) (fun cc5 => ?_)
  · refine lv_iload hx hb dX0_byteOf_33 (lv_at hl 0 rfl) ?_
    refine lv_imul hx hb dX0_byteOf_35 (jx_nm fun z6 hz6 => ?_)
    have xz6 : (z6).toInt = (z4).toInt * 8 := (hE_imp (hE_mul' 8 hz6 (by decide)) (ob219 ((z4).toInt) ((y2).toInt) ((z1).toInt) ((z2).toInt) (hE_and 2 4 hz4 (by decide) (by decide) (by decide)) (hE_shr 2 4 hz1 (by decide) (by decide) (by decide)) (hE_and 3 8 hz2 (by decide) (by decide) (by decide)) (hE_rng (z4)) (hE_rng (y2)) (hE_rng (z1)) (hE_rng (z2))))
    refine lv_iushr hx hb dX0_byteOf_36 rfl (jx_nm fun z7 hz7 => ?_)
    refine lv_sipush (v := 255) hx hb dX0_byteOf_37 (by decide) ?_
    refine lv_iand hx hb dX0_byteOf_40 (jx_nm fun z8 hz8 => ?_)
    exact kr z8 g lg ar bk _ _ _ _ ⟨rfl, rfl, rfl, rfl⟩ hw dX0_byteOf_41
  · refine lv_iconst (v := 3) hx hb dX0_byteOf_26 (by decide) ?_
    refine lv_iload hx hb dX0_byteOf_27 (lv_at hl 0 rfl) ?_
    refine lv_isub hx hb dX0_byteOf_29 (jx_nm fun z9 hz9 => ?_)
    have xz9 : (z9).toInt = ((3 : Int32)).toInt - (z4).toInt := (hE_imp (hE_sub hz9) (ob220 (((3 : Int32)).toInt) ((z4).toInt) ((y2).toInt) ((z1).toInt) ((z2).toInt) (hE_and 2 4 hz4 (by decide) (by decide) (by decide)) (hE_shr 2 4 hz1 (by decide) (by decide) (by decide)) (hE_and 3 8 hz2 (by decide) (by decide) (by decide)) (by decide) (hE_rng (z4)) (hE_rng (y2)) (hE_rng (z1)) (hE_rng (z2))))
    refine lv_goto (tgt := 35) hx hb dX0_byteOf_30 (by decide) ?_
    refine lv_imul hx hb dX0_byteOf_35 (jx_nm fun z10 hz10 => ?_)
    have xz10 : (z10).toInt = (z9).toInt * 8 := (hE_imp (hE_mul' 8 hz10 (by decide)) (ob221 ((z9).toInt) (((3 : Int32)).toInt) ((z4).toInt) ((y2).toInt) ((z1).toInt) ((z2).toInt) xz9 (hE_and 2 4 hz4 (by decide) (by decide) (by decide)) (hE_shr 2 4 hz1 (by decide) (by decide) (by decide)) (hE_and 3 8 hz2 (by decide) (by decide) (by decide)) (hE_rng (z9)) (by decide) (hE_rng (z4)) (hE_rng (y2)) (hE_rng (z1)) (hE_rng (z2))))
    refine lv_iushr hx hb dX0_byteOf_36 rfl (jx_nm fun z11 hz11 => ?_)
    refine lv_sipush (v := 255) hx hb dX0_byteOf_37 (by decide) ?_
    refine lv_iand hx hb dX0_byteOf_40 (jx_nm fun z12 hz12 => ?_)
    exact kr z12 g lg ar bk _ _ _ _ ⟨rfl, rfl, rfl, rfl⟩ hw dX0_byteOf_41

set_option maxHeartbeats 4000000 in
set_option maxRecDepth 100000 in
/-- J6_rotateRight_7cf53 -/
theorem jx_J6_rotateRight_7cf53 (l : Launch) (hlt : l.stackTraces = false) (D : va_G) (t3 : Nat × Nat × Nat) (cI cJ : ClassId) (ad : Nat → Nat) (g : Nat → Int32) (lg : Nat → Int64) (ar : Nat → Nat → Int32) (bk : Nat → Int64) (sz : Nat) (y0 : Int32) (y1 : Int32) : JMi l yJ6_rotateRight_7cf53 (Cond.code yJ6_rotateRight_7cf53 cJ6_rotateRight_7cf53 2 (some .int) :: wwX) { frames := 0, cells := 1, slots := 6, locals := 0 } t3 D xw cI cJ ad [.int y0, .int y1] (xw cI cJ ad g lg ar bk) sz 1 6 (fun (r : Int32) g' lg' ar' bk' => g = g' ∧ lg = lg' ∧ ar = ar' ∧ bk = bk') (fun g' lg' ar' bk' => False) := by
  refine jx_meti (cc := cJ6_rotateRight_7cf53) (maxL := 2) (ret := (some .int)) rfl (by decide) rfl (Nat.le_of_ble_eq_true rfl) ?_
  intro p e s m args below meth c ls Q A hx hb hml hown hts hA hZ hw hl hQ kr kt
  have hq : ∀ w ∈ wwX, w.before args s = true := fun w h => hts w (List.mem_cons_of_mem _ h)
  have hl : lv_has ls 2 [(0, .int y0), (1, .int y1)] := hl
  refine lv_iload_n hx hb dJ6_rotateRight_7cf53_0 rfl (lv_at hl 0 rfl) ?_
  refine lv_iload_n hx hb dJ6_rotateRight_7cf53_1 rfl (lv_at hl 1 rfl) ?_
  refine lv_iushr hx hb dJ6_rotateRight_7cf53_2 rfl (jx_nm fun z1 hz1 => ?_)
  refine lv_iload_n hx hb dJ6_rotateRight_7cf53_3 rfl (lv_at hl 0 rfl) ?_
  refine lv_iload_n hx hb dJ6_rotateRight_7cf53_4 rfl (lv_at hl 1 rfl) ?_
  refine lv_ineg hx hb dJ6_rotateRight_7cf53_5 (jx_nm fun z2 hz2 => ?_)
  refine lv_ishl hx hb dJ6_rotateRight_7cf53_6 (jx_nm fun z3 hz3 => ?_)
  refine lv_ior hx hb dJ6_rotateRight_7cf53_7 (jx_nm fun z4 hz4 => ?_)
  exact kr z4 g lg ar bk _ _ _ _ ⟨rfl, rfl, rfl, rfl⟩ hw dJ6_rotateRight_7cf53_8

set_option maxHeartbeats 4000000 in
set_option maxRecDepth 100000 in
/-- X0_mixRound on (11,) -/
theorem jx_X0_mixRound (l : Launch) (hlt : l.stackTraces = false) (D : va_G) (t3 : Nat × Nat × Nat) (cI cJ : ClassId) (ad : Nat → Nat) (g : Nat → Int32) (lg : Nat → Int64) (ar : Nat → Nat → Int32) (bk : Nat → Int64) (sz : Nat) (y1 : Int32) : JMv l yX0_mixRound (Cond.code yX0_mixRound cX0_mixRound 10 none :: wwX) { frames := 1, cells := 1, slots := 6, locals := 21 } t3 D xw cI cJ ad [.ref (ad 11), .int y1] (xw cI cJ ad g lg ar bk) sz 1 6 (fun g' lg' ar' bk' => g = g' ∧ lg = lg' ∧ hk_fr [4] ar ar' ∧ bk = bk') (fun g' lg' ar' bk' => False) := by
  refine jx_metv (cc := cX0_mixRound) (maxL := 10) (ret := none) rfl (by decide) rfl (Nat.le_of_ble_eq_true rfl) ?_
  intro p e s m args below meth c ls Q A hx hb hml hown hts hA hZ hw hl hQ kr kt
  have hq : ∀ w ∈ wwX, w.before args s = true := fun w h => hts w (List.mem_cons_of_mem _ h)
  have hl : lv_has ls 10 [(0, .ref (ad 11)), (1, .int y1)] := hl
  refine lv_aload_n hx hb dX0_mixRound_0 rfl (lv_at hl 0 rfl) ?_
  refine hk_get (ci := 3) (C := RX0) (T := TX0) (N := 3) (v := .ref (ad 13)) hx hb hts (fun _ h => List.mem_cons_of_mem _ (wwXc_wsX00 _ h)) hown hw 11 rfl rfl 1 (by decide) (hq _ wX_33) rfl dX0_mixRound_1 ?_
  refine lv_iconst (v := 0) hx hb dX0_mixRound_4 (by decide) ?_
  refine jx_iald hx hb hw 13 0 rfl rfl (show ¬ (_ ∨ _) by decide) dX0_mixRound_5 (fun z1 hz1 => ?_)
  refine lv_istore_n (lv' := [(2, .int z1), (0, .ref (ad 11)), (1, .int y1)]) hx hb dX0_mixRound_6 rfl hl (by decide) rfl (fun ls hl => ?_)
  refine lv_aload_n hx hb dX0_mixRound_7 rfl (lv_at hl 1 rfl) ?_
  refine hk_get (ci := 3) (C := RX0) (T := TX0) (N := 3) (v := .ref (ad 13)) hx hb hts (fun _ h => List.mem_cons_of_mem _ (wwXc_wsX00 _ h)) hown hw 11 rfl rfl 1 (by decide) (hq _ wX_33) rfl dX0_mixRound_8 ?_
  refine lv_iconst (v := 4) hx hb dX0_mixRound_11 (by decide) ?_
  refine jx_iald hx hb hw 13 0 rfl rfl (show ¬ (_ ∨ _) by decide) dX0_mixRound_12 (fun z2 hz2 => ?_)
  refine lv_istore_n (lv' := [(3, .int z2), (2, .int z1), (0, .ref (ad 11)), (1, .int y1)]) hx hb dX0_mixRound_13 rfl hl (by decide) rfl (fun ls hl => ?_)
  refine lv_iload_n hx hb dX0_mixRound_14 rfl (lv_at hl 0 rfl) ?_
  refine lv_bipush (v := 6) hx hb dX0_mixRound_15 (by decide) ?_
  refine jx_Si (As := [.int z2, .int 6]) (rest := []) ⟨hx, hb, hml, hown, hts⟩ hZ hw hA (jx_J6_rotateRight_7cf53 l hlt D t3 cI cJ ad g lg ar bk _ z2 6) (va_cwS 2 hts (jx_gS wwX_good wX_30 wX_31 wX_2 wX_32) rfl rfl rfl (by decide +kernel) ⟨Nat.le_of_ble_eq_true rfl, Nat.le_of_ble_eq_true rfl⟩) rfl hl.1 rfl (Nat.le_of_ble_eq_true rfl) dX0_mixRound_17 ⟨Nat.le_of_ble_eq_true rfl, Nat.le_of_ble_eq_true rfl⟩ (fun _ _ _ _ _ _ _ _ hp _ _ _ _ => hp.elim) (fun r7 g8 l9 a10 b11 H locs hp12 hw => ?_)
  obtain ⟨rfl, rfl, rfl, rfl⟩ := hp12
  refine lv_iload_n hx hb dX0_mixRound_20 rfl (lv_at hl 0 rfl) ?_
  refine lv_bipush (v := 11) hx hb dX0_mixRound_21 (by decide) ?_
  refine jx_Si (As := [.int z2, .int 11]) (rest := [.int r7]) ⟨hx, hb, hml, hown, hts⟩ hZ hw hA (jx_J6_rotateRight_7cf53 l hlt D t3 cI cJ ad g lg ar bk _ z2 11) (va_cwS 2 hts (jx_gS wwX_good wX_30 wX_31 wX_2 wX_32) rfl rfl rfl (by decide +kernel) ⟨Nat.le_of_ble_eq_true rfl, Nat.le_of_ble_eq_true rfl⟩) rfl hl.1 rfl (Nat.le_of_ble_eq_true rfl) dX0_mixRound_23 ⟨Nat.le_of_ble_eq_true rfl, Nat.le_of_ble_eq_true rfl⟩ (fun _ _ _ _ _ _ _ _ hp _ _ _ _ => hp.elim) (fun r21 g22 l23 a24 b25 H locs hp26 hw => ?_)
  obtain ⟨rfl, rfl, rfl, rfl⟩ := hp26
  refine lv_ixor hx hb dX0_mixRound_26 (jx_nm fun z31 hz31 => ?_)
  refine lv_iload_n hx hb dX0_mixRound_27 rfl (lv_at hl 0 rfl) ?_
  refine lv_bipush (v := 25) hx hb dX0_mixRound_28 (by decide) ?_
  refine jx_Si (As := [.int z2, .int 25]) (rest := [.int z31]) ⟨hx, hb, hml, hown, hts⟩ hZ hw hA (jx_J6_rotateRight_7cf53 l hlt D t3 cI cJ ad g lg ar bk _ z2 25) (va_cwS 2 hts (jx_gS wwX_good wX_30 wX_31 wX_2 wX_32) rfl rfl rfl (by decide +kernel) ⟨Nat.le_of_ble_eq_true rfl, Nat.le_of_ble_eq_true rfl⟩) rfl hl.1 rfl (Nat.le_of_ble_eq_true rfl) dX0_mixRound_30 ⟨Nat.le_of_ble_eq_true rfl, Nat.le_of_ble_eq_true rfl⟩ (fun _ _ _ _ _ _ _ _ hp _ _ _ _ => hp.elim) (fun r36 g37 l38 a39 b40 H locs hp41 hw => ?_)
  obtain ⟨rfl, rfl, rfl, rfl⟩ := hp41
  refine lv_ixor hx hb dX0_mixRound_33 (jx_nm fun z46 hz46 => ?_)
  refine lv_istore (lv' := [(4, .int z46), (3, .int z2), (2, .int z1), (0, .ref (ad 11)), (1, .int y1)]) hx hb dX0_mixRound_34 hl (by decide) rfl (fun ls hl => ?_)
  refine lv_iload_n hx hb dX0_mixRound_36 rfl (lv_at hl 2 rfl) ?_
  refine lv_iconst (v := 2) hx hb dX0_mixRound_37 (by decide) ?_
  refine jx_Si (As := [.int z1, .int 2]) (rest := []) ⟨hx, hb, hml, hown, hts⟩ hZ hw hA (jx_J6_rotateRight_7cf53 l hlt D t3 cI cJ ad g lg ar bk _ z1 2) (va_cwS 2 hts (jx_gS wwX_good wX_30 wX_31 wX_2 wX_32) rfl rfl rfl (by decide +kernel) ⟨Nat.le_of_ble_eq_true rfl, Nat.le_of_ble_eq_true rfl⟩) rfl hl.1 rfl (Nat.le_of_ble_eq_true rfl) dX0_mixRound_38 ⟨Nat.le_of_ble_eq_true rfl, Nat.le_of_ble_eq_true rfl⟩ (fun _ _ _ _ _ _ _ _ hp _ _ _ _ => hp.elim) (fun r51 g52 l53 a54 b55 H locs hp56 hw => ?_)
  obtain ⟨rfl, rfl, rfl, rfl⟩ := hp56
  refine lv_iload_n hx hb dX0_mixRound_41 rfl (lv_at hl 2 rfl) ?_
  refine lv_bipush (v := 13) hx hb dX0_mixRound_42 (by decide) ?_
  refine jx_Si (As := [.int z1, .int 13]) (rest := [.int r51]) ⟨hx, hb, hml, hown, hts⟩ hZ hw hA (jx_J6_rotateRight_7cf53 l hlt D t3 cI cJ ad g lg ar bk _ z1 13) (va_cwS 2 hts (jx_gS wwX_good wX_30 wX_31 wX_2 wX_32) rfl rfl rfl (by decide +kernel) ⟨Nat.le_of_ble_eq_true rfl, Nat.le_of_ble_eq_true rfl⟩) rfl hl.1 rfl (Nat.le_of_ble_eq_true rfl) dX0_mixRound_44 ⟨Nat.le_of_ble_eq_true rfl, Nat.le_of_ble_eq_true rfl⟩ (fun _ _ _ _ _ _ _ _ hp _ _ _ _ => hp.elim) (fun r65 g66 l67 a68 b69 H locs hp70 hw => ?_)
  obtain ⟨rfl, rfl, rfl, rfl⟩ := hp70
  refine lv_ixor hx hb dX0_mixRound_47 (jx_nm fun z75 hz75 => ?_)
  refine lv_iload_n hx hb dX0_mixRound_48 rfl (lv_at hl 2 rfl) ?_
  refine lv_bipush (v := 22) hx hb dX0_mixRound_49 (by decide) ?_
  refine jx_Si (As := [.int z1, .int 22]) (rest := [.int z75]) ⟨hx, hb, hml, hown, hts⟩ hZ hw hA (jx_J6_rotateRight_7cf53 l hlt D t3 cI cJ ad g lg ar bk _ z1 22) (va_cwS 2 hts (jx_gS wwX_good wX_30 wX_31 wX_2 wX_32) rfl rfl rfl (by decide +kernel) ⟨Nat.le_of_ble_eq_true rfl, Nat.le_of_ble_eq_true rfl⟩) rfl hl.1 rfl (Nat.le_of_ble_eq_true rfl) dX0_mixRound_51 ⟨Nat.le_of_ble_eq_true rfl, Nat.le_of_ble_eq_true rfl⟩ (fun _ _ _ _ _ _ _ _ hp _ _ _ _ => hp.elim) (fun r80 g81 l82 a83 b84 H locs hp85 hw => ?_)
  obtain ⟨rfl, rfl, rfl, rfl⟩ := hp85
  refine lv_ixor hx hb dX0_mixRound_54 (jx_nm fun z90 hz90 => ?_)
  refine lv_istore (lv' := [(5, .int z90), (4, .int z46), (3, .int z2), (2, .int z1), (0, .ref (ad 11)), (1, .int y1)]) hx hb dX0_mixRound_55 hl (by decide) rfl (fun ls hl => ?_)
  refine lv_iload_n hx hb dX0_mixRound_57 rfl (lv_at hl 2 rfl) ?_
  refine lv_aload_n hx hb dX0_mixRound_58 rfl (lv_at hl 4 rfl) ?_
  refine hk_get (ci := 3) (C := RX0) (T := TX0) (N := 3) (v := .ref (ad 13)) hx hb hts (fun _ h => List.mem_cons_of_mem _ (wwXc_wsX00 _ h)) hown hw 11 rfl rfl 1 (by decide) (hq _ wX_33) rfl dX0_mixRound_59 ?_
  refine lv_iconst (v := 5) hx hb dX0_mixRound_62 (by decide) ?_
  refine jx_iald hx hb hw 13 0 rfl rfl (show ¬ (_ ∨ _) by decide) dX0_mixRound_63 (fun z91 hz91 => ?_)
  refine lv_iand hx hb dX0_mixRound_64 (jx_nm fun z92 hz92 => ?_)
  refine lv_iload_n hx hb dX0_mixRound_65 rfl (lv_at hl 2 rfl) ?_
  refine lv_iconst (v := (-1)) hx hb dX0_mixRound_66 (by decide) ?_
  refine lv_ixor hx hb dX0_mixRound_67 (jx_nm fun z93 hz93 => ?_)
  refine lv_aload_n hx hb dX0_mixRound_68 rfl (lv_at hl 4 rfl) ?_
  refine hk_get (ci := 3) (C := RX0) (T := TX0) (N := 3) (v := .ref (ad 13)) hx hb hts (fun _ h => List.mem_cons_of_mem _ (wwXc_wsX00 _ h)) hown hw 11 rfl rfl 1 (by decide) (hq _ wX_33) rfl dX0_mixRound_69 ?_
  refine lv_bipush (v := 6) hx hb dX0_mixRound_72 (by decide) ?_
  refine jx_iald hx hb hw 13 0 rfl rfl (show ¬ (_ ∨ _) by decide) dX0_mixRound_74 (fun z94 hz94 => ?_)
  refine lv_iand hx hb dX0_mixRound_75 (jx_nm fun z95 hz95 => ?_)
  refine lv_ixor hx hb dX0_mixRound_76 (jx_nm fun z96 hz96 => ?_)
  refine lv_istore (lv' := [(6, .int z96), (5, .int z90), (4, .int z46), (3, .int z2), (2, .int z1), (0, .ref (ad 11)), (1, .int y1)]) hx hb dX0_mixRound_77 hl (by decide) rfl (fun ls hl => ?_)
  refine lv_iload_n hx hb dX0_mixRound_79 rfl (lv_at hl 4 rfl) ?_
  refine lv_aload_n hx hb dX0_mixRound_80 rfl (lv_at hl 5 rfl) ?_
  refine hk_get (ci := 3) (C := RX0) (T := TX0) (N := 3) (v := .ref (ad 13)) hx hb hts (fun _ h => List.mem_cons_of_mem _ (wwXc_wsX00 _ h)) hown hw 11 rfl rfl 1 (by decide) (hq _ wX_33) rfl dX0_mixRound_81 ?_
  refine lv_iconst (v := 1) hx hb dX0_mixRound_84 (by decide) ?_
  refine jx_iald hx hb hw 13 0 rfl rfl (show ¬ (_ ∨ _) by decide) dX0_mixRound_85 (fun z97 hz97 => ?_)
  refine lv_iand hx hb dX0_mixRound_86 (jx_nm fun z98 hz98 => ?_)
  refine lv_iload_n hx hb dX0_mixRound_87 rfl (lv_at hl 4 rfl) ?_
  refine lv_aload_n hx hb dX0_mixRound_88 rfl (lv_at hl 5 rfl) ?_
  refine hk_get (ci := 3) (C := RX0) (T := TX0) (N := 3) (v := .ref (ad 13)) hx hb hts (fun _ h => List.mem_cons_of_mem _ (wwXc_wsX00 _ h)) hown hw 11 rfl rfl 1 (by decide) (hq _ wX_33) rfl dX0_mixRound_89 ?_
  refine lv_iconst (v := 2) hx hb dX0_mixRound_92 (by decide) ?_
  refine jx_iald hx hb hw 13 0 rfl rfl (show ¬ (_ ∨ _) by decide) dX0_mixRound_93 (fun z99 hz99 => ?_)
  refine lv_iand hx hb dX0_mixRound_94 (jx_nm fun z100 hz100 => ?_)
  refine lv_ixor hx hb dX0_mixRound_95 (jx_nm fun z101 hz101 => ?_)
  refine lv_aload_n hx hb dX0_mixRound_96 rfl (lv_at hl 5 rfl) ?_
  refine hk_get (ci := 3) (C := RX0) (T := TX0) (N := 3) (v := .ref (ad 13)) hx hb hts (fun _ h => List.mem_cons_of_mem _ (wwXc_wsX00 _ h)) hown hw 11 rfl rfl 1 (by decide) (hq _ wX_33) rfl dX0_mixRound_97 ?_
  refine lv_iconst (v := 1) hx hb dX0_mixRound_100 (by decide) ?_
  refine hk_iald (v := z97) hx hb hw 13 0 rfl rfl (show ¬ (_ ∨ _) by decide) dX0_mixRound_101 hz97 ?_
  refine lv_aload_n hx hb dX0_mixRound_102 rfl (lv_at hl 5 rfl) ?_
  refine hk_get (ci := 3) (C := RX0) (T := TX0) (N := 3) (v := .ref (ad 13)) hx hb hts (fun _ h => List.mem_cons_of_mem _ (wwXc_wsX00 _ h)) hown hw 11 rfl rfl 1 (by decide) (hq _ wX_33) rfl dX0_mixRound_103 ?_
  refine lv_iconst (v := 2) hx hb dX0_mixRound_106 (by decide) ?_
  refine hk_iald (v := z99) hx hb hw 13 0 rfl rfl (show ¬ (_ ∨ _) by decide) dX0_mixRound_107 hz99 ?_
  refine lv_iand hx hb dX0_mixRound_108 (jx_nm fun z104 hz104 => ?_)
  refine lv_ixor hx hb dX0_mixRound_109 (jx_nm fun z105 hz105 => ?_)
  refine lv_istore (lv' := [(7, .int z105), (6, .int z96), (5, .int z90), (4, .int z46), (3, .int z2), (2, .int z1), (0, .ref (ad 11)), (1, .int y1)]) hx hb dX0_mixRound_110 hl (by decide) rfl (fun ls hl => ?_)
  refine lv_aload_n hx hb dX0_mixRound_112 rfl (lv_at hl 6 rfl) ?_
  refine hk_get (ci := 3) (C := RX0) (T := TX0) (N := 3) (v := .ref (ad 13)) hx hb hts (fun _ h => List.mem_cons_of_mem _ (wwXc_wsX00 _ h)) hown hw 11 rfl rfl 1 (by decide) (hq _ wX_33) rfl dX0_mixRound_113 ?_
  refine lv_bipush (v := 7) hx hb dX0_mixRound_116 (by decide) ?_
  refine jx_iald hx hb hw 13 0 rfl rfl (show ¬ (_ ∨ _) by decide) dX0_mixRound_118 (fun z106 hz106 => ?_)
  refine lv_iload hx hb dX0_mixRound_119 (lv_at hl 3 rfl) ?_
  refine lv_iadd hx hb dX0_mixRound_121 (jx_nm fun z107 hz107 => ?_)
  refine lv_iload hx hb dX0_mixRound_122 (lv_at hl 1 rfl) ?_
  refine lv_iadd hx hb dX0_mixRound_124 (jx_nm fun z108 hz108 => ?_)
  refine lv_iload_n hx hb dX0_mixRound_125 rfl (lv_at hl 7 rfl) ?_
  refine lv_iadd hx hb dX0_mixRound_126 (jx_nm fun z109 hz109 => ?_)
  refine lv_istore (lv' := [(8, .int z109), (7, .int z105), (6, .int z96), (5, .int z90), (4, .int z46), (3, .int z2), (2, .int z1), (0, .ref (ad 11)), (1, .int y1)]) hx hb dX0_mixRound_127 hl (by decide) rfl (fun ls hl => ?_)
  refine lv_bipush (v := 7) hx hb dX0_mixRound_129 (by decide) ?_
  refine lv_istore (lv' := [(9, .int 7), (8, .int z109), (7, .int z105), (6, .int z96), (5, .int z90), (4, .int z46), (3, .int z2), (2, .int z1), (0, .ref (ad 11)), (1, .int y1)]) hx hb dX0_mixRound_131 hl (by decide) rfl (fun ls hl => ?_)
  have B110 : ∀ (k113 : Nat) (x111 : Int32) (a112 : Nat → Nat → Int32) (ls : Array Slot) (H : Heap) (locs : List Loc), ((x111).toInt + 2147483649 ≤ (k113 : Int)) → ((x111).toInt ≤ 7) → (hk_fr [4] ar a112) → hk_W D (jT cI cJ) A s H locs (xw cI cJ ad g lg a112 bk) → lv_has ls 10 [(0, .ref (ad 11)), (5, .int z90), (7, .int z105), (8, .int z109), (9, .int x111)] → W p l e { frames := 1, cells := 1, slots := 6, locals := 21 } s m args below meth c H locs 0 0 Q (F0 m 133 ls []) := by
    intro k113
    induction k113 with
    | zero =>
      intro x111 a112 ls H locs hrk_B110 hf_B110_0 hfr_a112 hw hl
      exact False.elim (hk_no0 (0 * (x111).toInt) (ob126 ((x111).toInt) hf_B110_0 hrk_B110 (hE_rng (x111))) (by simp))
    | succ k113 ih_B110 =>
      intro x111 a112 ls H locs hrk_B110 hf_B110_0 hfr_a112 hw hl
      have hrk_B110 := hk_rk hrk_B110
      refine lv_iload hx hb dX0_mixRound_133 (lv_at hl 4 rfl) ?_
      refine lv_if_le (tgt := 160) hx hb dX0_mixRound_135 (by decide) (fun cc114 => ?_) (fun cc114 => ?_)
      · refine lv_aload_n hx hb dX0_mixRound_160 rfl (lv_at hl 0 rfl) ?_
        refine hk_get (ci := 3) (C := RX0) (T := TX0) (N := 3) (v := .ref (ad 13)) hx hb hts (fun _ h => List.mem_cons_of_mem _ (wwXc_wsX00 _ h)) hown hw 11 rfl rfl 1 (by decide) (hq _ wX_33) rfl dX0_mixRound_161 ?_
        refine lv_iconst (v := 4) hx hb dX0_mixRound_164 (by decide) ?_
        refine lv_dup2_11 hx hb dX0_mixRound_165 rfl rfl ?_
        refine jx_iald hx hb hw 13 0 rfl rfl (show ¬ (_ ∨ _) by decide) dX0_mixRound_166 (fun z115 hz115 => ?_)
        refine lv_iload hx hb dX0_mixRound_167 (lv_at hl 3 rfl) ?_
        refine lv_iadd hx hb dX0_mixRound_169 (jx_nm fun z116 hz116 => ?_)
        refine jx_iast xw (g := g) (lg := lg) (ar := a112) (bk := bk) 4 hx hb hw 13 0 rfl rfl (show ¬ (_ ∨ _) by decide) dX0_mixRound_170 rfl (fun H locs a117 h_a117 hw => ?_)
        refine lv_aload_n hx hb dX0_mixRound_171 rfl (lv_at hl 0 rfl) ?_
        refine hk_get (ci := 3) (C := RX0) (T := TX0) (N := 3) (v := .ref (ad 13)) hx hb hts (fun _ h => List.mem_cons_of_mem _ (wwXc_wsX00 _ h)) hown hw 11 rfl rfl 1 (by decide) (hq _ wX_33) rfl dX0_mixRound_172 ?_
        refine lv_iconst (v := 0) hx hb dX0_mixRound_175 (by decide) ?_
        refine lv_iload hx hb dX0_mixRound_176 (lv_at hl 3 rfl) ?_
        refine lv_iload hx hb dX0_mixRound_178 (lv_at hl 1 rfl) ?_
        refine lv_iadd hx hb dX0_mixRound_180 (jx_nm fun z118 hz118 => ?_)
        refine lv_iload hx hb dX0_mixRound_181 (lv_at hl 2 rfl) ?_
        refine lv_iadd hx hb dX0_mixRound_183 (jx_nm fun z119 hz119 => ?_)
        refine jx_iast xw (g := g) (lg := lg) (ar := a117) (bk := bk) 4 hx hb hw 13 0 rfl rfl (show ¬ (_ ∨ _) by decide) dX0_mixRound_184 rfl (fun H locs a120 h_a120 hw => ?_)
        exact kr g lg a120 bk _ _ _ _ ⟨rfl, rfl, (hk_frA (hk_frA hfr_a112 (by decide) h_a117) (by decide) h_a120), rfl⟩ hw dX0_mixRound_185
      · refine lv_aload_n hx hb dX0_mixRound_138 rfl (lv_at hl 0 rfl) ?_
        refine hk_get (ci := 3) (C := RX0) (T := TX0) (N := 3) (v := .ref (ad 13)) hx hb hts (fun _ h => List.mem_cons_of_mem _ (wwXc_wsX00 _ h)) hown hw 11 rfl rfl 1 (by decide) (hq _ wX_33) rfl dX0_mixRound_139 ?_
        refine lv_iload hx hb dX0_mixRound_142 (lv_at hl 4 rfl) ?_
        refine lv_aload_n hx hb dX0_mixRound_144 rfl (lv_at hl 0 rfl) ?_
        refine hk_get (ci := 3) (C := RX0) (T := TX0) (N := 3) (v := .ref (ad 13)) hx hb hts (fun _ h => List.mem_cons_of_mem _ (wwXc_wsX00 _ h)) hown hw 11 rfl rfl 1 (by decide) (hq _ wX_33) rfl dX0_mixRound_145 ?_
        refine lv_iload hx hb dX0_mixRound_148 (lv_at hl 4 rfl) ?_
        refine lv_iconst (v := 1) hx hb dX0_mixRound_150 (by decide) ?_
        refine lv_isub hx hb dX0_mixRound_151 (jx_nm fun z121 hz121 => ?_)
        have xz121 : (z121).toInt = (x111).toInt - ((1 : Int32)).toInt := (hE_imp (hE_sub hz121) (ob222 ((x111).toInt) (((1 : Int32)).toInt) (k113 : Int) (((0 : Int32)).toInt) hf_B110_0 hrk_B110 (hE_nle cc114) (hE_rng (x111)) (by decide) (by decide)))
        refine jx_iald hx hb hw 13 0 rfl rfl (hE_in (n := 8) (ob223 ((z121).toInt) ((x111).toInt) (((1 : Int32)).toInt) (k113 : Int) (((0 : Int32)).toInt) xz121 hf_B110_0 hrk_B110 (hE_nle cc114) (hE_rng (z121)) (hE_rng (x111)) (by decide) (by decide))) dX0_mixRound_152 (fun z122 hz122 => ?_)
        refine jx_iast xw (g := g) (lg := lg) (ar := a112) (bk := bk) 4 hx hb hw 13 0 rfl rfl (hE_in (n := 8) (ob224 ((x111).toInt) (k113 : Int) (((0 : Int32)).toInt) ((z121).toInt) (((1 : Int32)).toInt) hf_B110_0 hrk_B110 (hE_nle cc114) xz121 (hE_rng (x111)) (by decide) (hE_rng (z121)) (by decide))) dX0_mixRound_153 rfl (fun H locs a123 h_a123 hw => ?_)
        obtain ⟨z124, hz124⟩ : ∃ z : Int32, x111 + (-1) = z := ⟨_, rfl⟩
        refine lv_iinc (v := z124) (lv' := [(9, .int z124), (0, .ref (ad 11)), (5, .int z90), (7, .int z105), (8, .int z109)]) hx hb dX0_mixRound_154 hl (k := 4) rfl hz124 (by decide) rfl (fun ls hl => ?_)
        have xz124 : (z124).toInt = (x111).toInt + (((-1) : Int32)).toInt := (hE_imp (hE_add hz124) (ob225 ((x111).toInt) ((((-1) : Int32)).toInt) (k113 : Int) (((0 : Int32)).toInt) ((z121).toInt) (((1 : Int32)).toInt) hf_B110_0 hrk_B110 (hE_nle cc114) xz121 (hE_rng (x111)) (by decide) (by decide) (hE_rng (z121)) (by decide)))
        refine lv_goto (tgt := 133) hx hb dX0_mixRound_157 (by decide) ?_
        exact ih_B110 z124 a123 ls _ _ (ob226 ((z124).toInt) (k113 : Int) ((x111).toInt) ((((-1) : Int32)).toInt) (((0 : Int32)).toInt) ((z121).toInt) (((1 : Int32)).toInt) hrk_B110 xz124 hf_B110_0 (hE_nle cc114) xz121 (hE_rng (z124)) (hE_rng (x111)) (by decide) (by decide) (hE_rng (z121)) (by decide)) (ob227 ((z124).toInt) ((x111).toInt) ((((-1) : Int32)).toInt) (k113 : Int) (((0 : Int32)).toInt) ((z121).toInt) (((1 : Int32)).toInt) xz124 hf_B110_0 hrk_B110 (hE_nle cc114) xz121 (hE_rng (z124)) (hE_rng (x111)) (by decide) (by decide) (hE_rng (z121)) (by decide)) (hk_frA hfr_a112 (by decide) h_a123) hw (lv_sub hl [1, 2, 3, 4, 0] rfl)
  exact B110 (((7 : Int32)).toInt + 2147483649).toNat 7 ar ls _ _ (Int.self_le_toNat _) (ob133 (((7 : Int32)).toInt) (by decide)) hk_fr0 hw (lv_sub hl [8, 4, 2, 1, 0] rfl)

set_option maxHeartbeats 4000000 in
set_option maxRecDepth 100000 in
/-- X0_mixBlock on (11,) -/
theorem jx_X0_mixBlock (l : Launch) (hlt : l.stackTraces = false) (D : va_G) (t3 : Nat × Nat × Nat) (cI cJ : ClassId) (ad : Nat → Nat) (g : Nat → Int32) (lg : Nat → Int64) (ar : Nat → Nat → Int32) (bk : Nat → Int64) (sz : Nat) : JMv l yX0_mixBlock (Cond.code yX0_mixBlock cX0_mixBlock 6 none :: wwX) { frames := 2, cells := 1, slots := 6, locals := 50 } t3 D xw cI cJ ad [.ref (ad 11)] (xw cI cJ ad g lg ar bk) sz 1 6 (fun g' lg' ar' bk' => g = g' ∧ lg = lg' ∧ hk_fr [3, 4, 5] ar ar' ∧ bk = bk') (fun g' lg' ar' bk' => False) := by
  refine jx_metv (cc := cX0_mixBlock) (maxL := 6) (ret := none) rfl (by decide) rfl (Nat.le_of_ble_eq_true rfl) ?_
  intro p e s m args below meth c ls Q A hx hb hml hown hts hA hZ hw hl hQ kr kt
  have hq : ∀ w ∈ wwX, w.before args s = true := fun w h => hts w (List.mem_cons_of_mem _ h)
  have hl : lv_has ls 6 [(0, .ref (ad 11))] := hl
  refine lv_bipush (v := 16) hx hb dX0_mixBlock_0 (by decide) ?_
  refine lv_istore_n (lv' := [(1, .int 16), (0, .ref (ad 11))]) hx hb dX0_mixBlock_2 rfl hl (by decide) rfl (fun ls hl => ?_)
  have B1 : ∀ (k4 : Nat) (x2 : Int32) (a3 : Nat → Nat → Int32) (ls : Array Slot) (H : Heap) (locs : List Loc), (2147483648 - (x2).toInt ≤ (k4 : Int)) → (16 ≤ (x2).toInt) → (hk_fr [5] ar a3) → hk_W D (jT cI cJ) A s H locs (xw cI cJ ad g lg a3 bk) → lv_has ls 6 [(0, .ref (ad 11)), (1, .int x2)] → W p l e { frames := 2, cells := 1, slots := 6, locals := 50 } s m args below meth c H locs 0 0 Q (F0 m 3 ls []) := by
    intro k4
    induction k4 with
    | zero =>
      intro x2 a3 ls H locs hrk_B1 hf_B1_0 hfr_a3 hw hl
      exact False.elim (hk_no0 (0 * (x2).toInt) (ob228 ((x2).toInt) hf_B1_0 hrk_B1 (hE_rng (x2))) (by simp))
    | succ k4 ih_B1 =>
      intro x2 a3 ls H locs hrk_B1 hf_B1_0 hfr_a3 hw hl
      have hrk_B1 := hk_rk hrk_B1
      refine lv_iload_n hx hb dX0_mixBlock_3 rfl (lv_at hl 1 rfl) ?_
      refine lv_bipush (v := 64) hx hb dX0_mixBlock_4 (by decide) ?_
      refine lv_icmp_ge (tgt := 104) hx hb dX0_mixBlock_6 (by decide) (fun cc5 => ?_) (fun cc5 => ?_)
      · refine lv_aload_n hx hb dX0_mixBlock_104 rfl (lv_at hl 0 rfl) ?_
        refine hk_get (ci := 3) (C := RX0) (T := TX0) (N := 3) (v := .ref (ad 12)) hx hb hts (fun _ h => List.mem_cons_of_mem _ (wwXc_wsX00 _ h)) hown hw 11 rfl rfl 0 (by decide) (hq _ wX_9) rfl dX0_mixBlock_105 ?_
        refine lv_iconst (v := 0) hx hb dX0_mixBlock_108 (by decide) ?_
        refine lv_aload_n hx hb dX0_mixBlock_109 rfl (lv_at hl 0 rfl) ?_
        refine hk_get (ci := 3) (C := RX0) (T := TX0) (N := 3) (v := .ref (ad 13)) hx hb hts (fun _ h => List.mem_cons_of_mem _ (wwXc_wsX00 _ h)) hown hw 11 rfl rfl 1 (by decide) (hq _ wX_33) rfl dX0_mixBlock_110 ?_
        refine lv_iconst (v := 0) hx hb dX0_mixBlock_113 (by decide) ?_
        refine lv_bipush (v := 8) hx hb dX0_mixBlock_114 (by decide) ?_
        refine hk_copyi hx hb (by rw [hml]; exact hl.1.symm) hown (hq _ wX_34) (hq _ wX_35) (hq _ wX_36) (hq _ wX_37) hw 12 13 0 rfl rfl rfl (by decide) (by decide) (by decide) (by decide +kernel) (by decide +kernel) (Nat.le_of_ble_eq_true rfl) (by decide +kernel) dX0_mixBlock_116 rfl (fun H locs hw => ?_)
        obtain ⟨a6, h_a6, hw⟩ := jx_nar xw (g := g) (lg := lg) (ar := a3) (bk := bk) 4 hw rfl
        refine lv_iconst (v := 0) hx hb dX0_mixBlock_119 (by decide) ?_
        refine lv_istore_n (lv' := [(1, .int 0), (0, .ref (ad 11))]) hx hb dX0_mixBlock_120 rfl hl (by decide) rfl (fun ls hl => ?_)
        have B7 : ∀ (k10 : Nat) (x8 : Int32) (a9 : Nat → Nat → Int32) (ls : Array Slot) (H : Heap) (locs : List Loc), (2147483648 - (x8).toInt ≤ (k10 : Int)) → (0 ≤ (x8).toInt) → (hk_fr [4] a6 a9) → hk_W D (jT cI cJ) A s H locs (xw cI cJ ad g lg a9 bk) → lv_has ls 6 [(0, .ref (ad 11)), (1, .int x8)] → W p l e { frames := 2, cells := 1, slots := 6, locals := 50 } s m args below meth c H locs 0 0 Q (F0 m 121 ls []) := by
          intro k10
          induction k10 with
          | zero =>
            intro x8 a9 ls H locs hrk_B7 hf_B7_0 hfr_a9 hw hl
            exact False.elim (hk_no0 (0 * (x8).toInt) (ob5 ((x8).toInt) hf_B7_0 hrk_B7 (hE_rng (x8))) (by simp))
          | succ k10 ih_B7 =>
            intro x8 a9 ls H locs hrk_B7 hf_B7_0 hfr_a9 hw hl
            have hrk_B7 := hk_rk hrk_B7
            refine lv_iload_n hx hb dX0_mixBlock_121 rfl (lv_at hl 1 rfl) ?_
            refine lv_bipush (v := 64) hx hb dX0_mixBlock_122 (by decide) ?_
            refine lv_icmp_ge (tgt := 149) hx hb dX0_mixBlock_124 (by decide) (fun cc11 => ?_) (fun cc11 => ?_)
            · refine lv_iconst (v := 0) hx hb dX0_mixBlock_149 (by decide) ?_
              refine lv_istore_n (lv' := [(1, .int 0), (0, .ref (ad 11))]) hx hb dX0_mixBlock_150 rfl hl (by decide) rfl (fun ls hl => ?_)
              have B12 : ∀ (k15 : Nat) (x13 : Int32) (a14 : Nat → Nat → Int32) (ls : Array Slot) (H : Heap) (locs : List Loc), (2147483648 - (x13).toInt ≤ (k15 : Int)) → (0 ≤ (x13).toInt) → (hk_fr [3] a9 a14) → hk_W D (jT cI cJ) A s H locs (xw cI cJ ad g lg a14 bk) → lv_has ls 6 [(0, .ref (ad 11)), (1, .int x13)] → W p l e { frames := 2, cells := 1, slots := 6, locals := 50 } s m args below meth c H locs 0 0 Q (F0 m 151 ls []) := by
                intro k15
                induction k15 with
                | zero =>
                  intro x13 a14 ls H locs hrk_B12 hf_B12_0 hfr_a14 hw hl
                  exact False.elim (hk_no0 (0 * (x13).toInt) (ob5 ((x13).toInt) hf_B12_0 hrk_B12 (hE_rng (x13))) (by simp))
                | succ k15 ih_B12 =>
                  intro x13 a14 ls H locs hrk_B12 hf_B12_0 hfr_a14 hw hl
                  have hrk_B12 := hk_rk hrk_B12
                  refine lv_iload_n hx hb dX0_mixBlock_151 rfl (lv_at hl 1 rfl) ?_
                  refine lv_bipush (v := 8) hx hb dX0_mixBlock_152 (by decide) ?_
                  refine lv_icmp_ge (tgt := 178) hx hb dX0_mixBlock_154 (by decide) (fun cc16 => ?_) (fun cc16 => ?_)
                  · exact kr g lg a14 bk _ _ _ _ ⟨rfl, rfl, (hk_frT (hk_frT (hk_frA (hk_frT hk_fr0 (by decide) hfr_a3) (by decide) h_a6) (by decide) hfr_a9) (by decide) hfr_a14), rfl⟩ hw dX0_mixBlock_178
                  · refine lv_aload_n hx hb dX0_mixBlock_157 rfl (lv_at hl 0 rfl) ?_
                    refine hk_get (ci := 3) (C := RX0) (T := TX0) (N := 3) (v := .ref (ad 12)) hx hb hts (fun _ h => List.mem_cons_of_mem _ (wwXc_wsX00 _ h)) hown hw 11 rfl rfl 0 (by decide) (hq _ wX_9) rfl dX0_mixBlock_158 ?_
                    refine lv_iload_n hx hb dX0_mixBlock_161 rfl (lv_at hl 1 rfl) ?_
                    refine lv_dup2_11 hx hb dX0_mixBlock_162 rfl rfl ?_
                    refine jx_iald hx hb hw 12 0 rfl rfl (hE_in (n := 8) (ob229 ((x13).toInt) (k15 : Int) (((8 : Int32)).toInt) hf_B12_0 hrk_B12 (hE_nle cc16) (hE_rng (x13)) (by decide))) dX0_mixBlock_163 (fun z17 hz17 => ?_)
                    refine lv_aload_n hx hb dX0_mixBlock_164 rfl (lv_at hl 0 rfl) ?_
                    refine hk_get (ci := 3) (C := RX0) (T := TX0) (N := 3) (v := .ref (ad 13)) hx hb hts (fun _ h => List.mem_cons_of_mem _ (wwXc_wsX00 _ h)) hown hw 11 rfl rfl 1 (by decide) (hq _ wX_33) rfl dX0_mixBlock_165 ?_
                    refine lv_iload_n hx hb dX0_mixBlock_168 rfl (lv_at hl 1 rfl) ?_
                    refine jx_iald hx hb hw 13 0 rfl rfl (hE_in (n := 8) (ob229 ((x13).toInt) (k15 : Int) (((8 : Int32)).toInt) hf_B12_0 hrk_B12 (hE_nle cc16) (hE_rng (x13)) (by decide))) dX0_mixBlock_169 (fun z18 hz18 => ?_)
                    refine lv_iadd hx hb dX0_mixBlock_170 (jx_nm fun z19 hz19 => ?_)
                    refine jx_iast xw (g := g) (lg := lg) (ar := a14) (bk := bk) 3 hx hb hw 12 0 rfl rfl (hE_in (n := 8) (ob229 ((x13).toInt) (k15 : Int) (((8 : Int32)).toInt) hf_B12_0 hrk_B12 (hE_nle cc16) (hE_rng (x13)) (by decide))) dX0_mixBlock_171 rfl (fun H locs a20 h_a20 hw => ?_)
                    obtain ⟨z21, hz21⟩ : ∃ z : Int32, x13 + 1 = z := ⟨_, rfl⟩
                    refine lv_iinc (v := z21) (lv' := [(1, .int z21), (0, .ref (ad 11))]) hx hb dX0_mixBlock_172 hl (k := 1) rfl hz21 (by decide) rfl (fun ls hl => ?_)
                    have xz21 : (z21).toInt = (x13).toInt + ((1 : Int32)).toInt := (hE_imp (hE_add hz21) (ob230 ((x13).toInt) (((1 : Int32)).toInt) (k15 : Int) (((8 : Int32)).toInt) hf_B12_0 hrk_B12 (hE_nle cc16) (hE_rng (x13)) (by decide) (by decide)))
                    refine lv_goto (tgt := 151) hx hb dX0_mixBlock_175 (by decide) ?_
                    exact ih_B12 z21 a20 ls _ _ (ob231 ((z21).toInt) (k15 : Int) ((x13).toInt) (((1 : Int32)).toInt) (((8 : Int32)).toInt) hrk_B12 xz21 hf_B12_0 (hE_nle cc16) (hE_rng (z21)) (hE_rng (x13)) (by decide) (by decide)) (ob232 ((z21).toInt) ((x13).toInt) (((1 : Int32)).toInt) (k15 : Int) (((8 : Int32)).toInt) xz21 hf_B12_0 hrk_B12 (hE_nle cc16) (hE_rng (z21)) (hE_rng (x13)) (by decide) (by decide)) (hk_frA hfr_a14 (by decide) h_a20) hw (lv_sub hl [1, 0] rfl)
              exact B12 (2147483648 - ((0 : Int32)).toInt).toNat 0 a9 ls _ _ (Int.self_le_toNat _) (ob9 (((0 : Int32)).toInt) (by decide)) hk_fr0 hw (lv_sub hl [1, 0] rfl)
            · refine lv_aload_n hx hb dX0_mixBlock_127 rfl (lv_at hl 0 rfl) ?_
              refine hk_gets hx hb hZ.2.2.1 hw hown (hq _ wX_38) dX0_mixBlock_128 ?_
              refine lv_iload_n hx hb dX0_mixBlock_131 rfl (lv_at hl 1 rfl) ?_
              refine jx_ti hx hb hZ.2.2.1 hw (hE_in (n := 64) (ob233 ((x8).toInt) (k10 : Int) (((64 : Int32)).toInt) ((x2).toInt) (k4 : Int) hf_B7_0 hrk_B7 (hE_nle cc11) (hE_le cc5) hf_B1_0 hrk_B1 (hE_rng (x8)) (by decide) (hE_rng (x2)))) dX0_mixBlock_132 (fun z22 hz22 => ?_)
              refine lv_aload_n hx hb dX0_mixBlock_133 rfl (lv_at hl 0 rfl) ?_
              refine hk_get (ci := 3) (C := RX0) (T := TX0) (N := 3) (v := .ref (ad 14)) hx hb hts (fun _ h => List.mem_cons_of_mem _ (wwXc_wsX00 _ h)) hown hw 11 rfl rfl 2 (by decide) (hq _ wX_29) rfl dX0_mixBlock_134 ?_
              refine lv_iload_n hx hb dX0_mixBlock_137 rfl (lv_at hl 1 rfl) ?_
              refine jx_iald hx hb hw 14 0 rfl rfl (hE_in (n := 64) (ob233 ((x8).toInt) (k10 : Int) (((64 : Int32)).toInt) ((x2).toInt) (k4 : Int) hf_B7_0 hrk_B7 (hE_nle cc11) (hE_le cc5) hf_B1_0 hrk_B1 (hE_rng (x8)) (by decide) (hE_rng (x2)))) dX0_mixBlock_138 (fun z23 hz23 => ?_)
              refine lv_iadd hx hb dX0_mixBlock_139 (jx_nm fun z24 hz24 => ?_)
              refine jx_Vv (As := [.int z24]) (rest := []) ⟨hx, hb, hml, hown, hts⟩ hZ hw hA (jx_X0_mixRound l hlt D t3 cI cJ ad g lg a9 bk _ z24) (cwV 1 hts (jx_gV wwX_good wX_39 wX_40 wX_41 wX_12 wX_42) rfl rfl rfl (by decide +kernel) ⟨Nat.le_of_ble_eq_true rfl, Nat.le_of_ble_eq_true rfl⟩) 11 (ci := 3) (T := TX0) (N := 3) rfl rfl rfl hl.1 rfl (Nat.le_of_ble_eq_true rfl) dX0_mixBlock_140 ⟨Nat.le_of_ble_eq_true rfl, Nat.le_of_ble_eq_true rfl⟩ (fun _ _ _ _ _ _ _ _ hp _ _ _ _ => hp.elim) (fun g30 l31 a32 b33 H locs hp34 hw => ?_)
              obtain ⟨rfl, rfl, h37, rfl⟩ := hp34
              obtain ⟨z39, hz39⟩ : ∃ z : Int32, x8 + 1 = z := ⟨_, rfl⟩
              refine lv_iinc (v := z39) (lv' := [(1, .int z39), (0, .ref (ad 11))]) hx hb dX0_mixBlock_143 hl (k := 1) rfl hz39 (by decide) rfl (fun ls hl => ?_)
              have xz39 : (z39).toInt = (x8).toInt + ((1 : Int32)).toInt := (hE_imp (hE_add hz39) (ob234 ((x8).toInt) (((1 : Int32)).toInt) (k10 : Int) (((64 : Int32)).toInt) ((x2).toInt) (k4 : Int) hf_B7_0 hrk_B7 (hE_nle cc11) (hE_le cc5) hf_B1_0 hrk_B1 (hE_rng (x8)) (by decide) (by decide) (hE_rng (x2))))
              refine lv_goto (tgt := 121) hx hb dX0_mixBlock_146 (by decide) ?_
              exact ih_B7 z39 a32 ls _ _ (ob235 ((z39).toInt) (k10 : Int) ((x8).toInt) (((1 : Int32)).toInt) (((64 : Int32)).toInt) ((x2).toInt) (k4 : Int) hrk_B7 xz39 hf_B7_0 (hE_nle cc11) (hE_le cc5) hf_B1_0 hrk_B1 (hE_rng (z39)) (hE_rng (x8)) (by decide) (by decide) (hE_rng (x2))) (ob236 ((z39).toInt) ((x8).toInt) (((1 : Int32)).toInt) (k10 : Int) (((64 : Int32)).toInt) ((x2).toInt) (k4 : Int) xz39 hf_B7_0 hrk_B7 (hE_nle cc11) (hE_le cc5) hf_B1_0 hrk_B1 (hE_rng (z39)) (hE_rng (x8)) (by decide) (by decide) (hE_rng (x2))) (hk_frT hfr_a9 (by decide) h37) hw (lv_sub hl [1, 0] rfl)
        exact B7 (2147483648 - ((0 : Int32)).toInt).toNat 0 a6 ls _ _ (Int.self_le_toNat _) (ob9 (((0 : Int32)).toInt) (by decide)) hk_fr0 hw (lv_sub hl [1, 0] rfl)
      · refine lv_aload_n hx hb dX0_mixBlock_9 rfl (lv_at hl 0 rfl) ?_
        refine hk_get (ci := 3) (C := RX0) (T := TX0) (N := 3) (v := .ref (ad 14)) hx hb hts (fun _ h => List.mem_cons_of_mem _ (wwXc_wsX00 _ h)) hown hw 11 rfl rfl 2 (by decide) (hq _ wX_29) rfl dX0_mixBlock_10 ?_
        refine lv_iload_n hx hb dX0_mixBlock_13 rfl (lv_at hl 1 rfl) ?_
        refine lv_bipush (v := 15) hx hb dX0_mixBlock_14 (by decide) ?_
        refine lv_isub hx hb dX0_mixBlock_16 (jx_nm fun z40 hz40 => ?_)
        have xz40 : (z40).toInt = (x2).toInt - ((15 : Int32)).toInt := (hE_imp (hE_sub hz40) (ob237 ((x2).toInt) (((15 : Int32)).toInt) (k4 : Int) (((64 : Int32)).toInt) hf_B1_0 hrk_B1 (hE_nle cc5) (hE_rng (x2)) (by decide) (by decide)))
        refine jx_iald hx hb hw 14 0 rfl rfl (hE_in (n := 64) (ob238 ((z40).toInt) ((x2).toInt) (((15 : Int32)).toInt) (k4 : Int) (((64 : Int32)).toInt) xz40 hf_B1_0 hrk_B1 (hE_nle cc5) (hE_rng (z40)) (hE_rng (x2)) (by decide) (by decide))) dX0_mixBlock_17 (fun z41 hz41 => ?_)
        refine lv_istore_n (lv' := [(2, .int z41), (0, .ref (ad 11)), (1, .int x2)]) hx hb dX0_mixBlock_18 rfl hl (by decide) rfl (fun ls hl => ?_)
        refine lv_aload_n hx hb dX0_mixBlock_19 rfl (lv_at hl 1 rfl) ?_
        refine hk_get (ci := 3) (C := RX0) (T := TX0) (N := 3) (v := .ref (ad 14)) hx hb hts (fun _ h => List.mem_cons_of_mem _ (wwXc_wsX00 _ h)) hown hw 11 rfl rfl 2 (by decide) (hq _ wX_29) rfl dX0_mixBlock_20 ?_
        refine lv_iload_n hx hb dX0_mixBlock_23 rfl (lv_at hl 2 rfl) ?_
        refine lv_iconst (v := 2) hx hb dX0_mixBlock_24 (by decide) ?_
        refine lv_isub hx hb dX0_mixBlock_25 (jx_nm fun z42 hz42 => ?_)
        have xz42 : (z42).toInt = (x2).toInt - ((2 : Int32)).toInt := (hE_imp (hE_sub hz42) (ob239 ((x2).toInt) (((2 : Int32)).toInt) (k4 : Int) (((64 : Int32)).toInt) ((z40).toInt) (((15 : Int32)).toInt) hf_B1_0 hrk_B1 (hE_nle cc5) xz40 (hE_rng (x2)) (by decide) (by decide) (hE_rng (z40)) (by decide)))
        refine jx_iald hx hb hw 14 0 rfl rfl (hE_in (n := 64) (ob240 ((z42).toInt) ((x2).toInt) (((2 : Int32)).toInt) (k4 : Int) (((64 : Int32)).toInt) ((z40).toInt) (((15 : Int32)).toInt) xz42 hf_B1_0 hrk_B1 (hE_nle cc5) xz40 (hE_rng (z42)) (hE_rng (x2)) (by decide) (by decide) (hE_rng (z40)) (by decide))) dX0_mixBlock_26 (fun z43 hz43 => ?_)
        refine lv_istore_n (lv' := [(3, .int z43), (2, .int z41), (0, .ref (ad 11)), (1, .int x2)]) hx hb dX0_mixBlock_27 rfl hl (by decide) rfl (fun ls hl => ?_)
        refine lv_iload_n hx hb dX0_mixBlock_28 rfl (lv_at hl 1 rfl) ?_
        refine lv_bipush (v := 7) hx hb dX0_mixBlock_29 (by decide) ?_
        refine jx_Si (As := [.int z41, .int 7]) (rest := []) ⟨hx, hb, hml, hown, hts⟩ hZ hw hA (jx_J6_rotateRight_7cf53 l hlt D t3 cI cJ ad g lg a3 bk _ z41 7) (va_cwS 2 hts (jx_gS wwX_good wX_30 wX_31 wX_2 wX_32) rfl rfl rfl (by decide +kernel) ⟨Nat.le_of_ble_eq_true rfl, Nat.le_of_ble_eq_true rfl⟩) rfl hl.1 rfl (Nat.le_of_ble_eq_true rfl) dX0_mixBlock_31 ⟨Nat.le_of_ble_eq_true rfl, Nat.le_of_ble_eq_true rfl⟩ (fun _ _ _ _ _ _ _ _ hp _ _ _ _ => hp.elim) (fun r48 g49 l50 a51 b52 H locs hp53 hw => ?_)
        obtain ⟨rfl, rfl, rfl, rfl⟩ := hp53
        refine lv_iload_n hx hb dX0_mixBlock_34 rfl (lv_at hl 1 rfl) ?_
        refine lv_bipush (v := 18) hx hb dX0_mixBlock_35 (by decide) ?_
        refine jx_Si (As := [.int z41, .int 18]) (rest := [.int r48]) ⟨hx, hb, hml, hown, hts⟩ hZ hw hA (jx_J6_rotateRight_7cf53 l hlt D t3 cI cJ ad g lg a3 bk _ z41 18) (va_cwS 2 hts (jx_gS wwX_good wX_30 wX_31 wX_2 wX_32) rfl rfl rfl (by decide +kernel) ⟨Nat.le_of_ble_eq_true rfl, Nat.le_of_ble_eq_true rfl⟩) rfl hl.1 rfl (Nat.le_of_ble_eq_true rfl) dX0_mixBlock_37 ⟨Nat.le_of_ble_eq_true rfl, Nat.le_of_ble_eq_true rfl⟩ (fun _ _ _ _ _ _ _ _ hp _ _ _ _ => hp.elim) (fun r62 g63 l64 a65 b66 H locs hp67 hw => ?_)
        obtain ⟨rfl, rfl, rfl, rfl⟩ := hp67
        refine lv_ixor hx hb dX0_mixBlock_40 (jx_nm fun z72 hz72 => ?_)
        refine lv_iload_n hx hb dX0_mixBlock_41 rfl (lv_at hl 1 rfl) ?_
        refine lv_iconst (v := 3) hx hb dX0_mixBlock_42 (by decide) ?_
        refine lv_iushr hx hb dX0_mixBlock_43 rfl (jx_nm fun z73 hz73 => ?_)
        refine lv_ixor hx hb dX0_mixBlock_44 (jx_nm fun z74 hz74 => ?_)
        refine lv_istore (lv' := [(4, .int z74), (3, .int z43), (2, .int z41), (0, .ref (ad 11)), (1, .int x2)]) hx hb dX0_mixBlock_45 hl (by decide) rfl (fun ls hl => ?_)
        refine lv_iload_n hx hb dX0_mixBlock_47 rfl (lv_at hl 1 rfl) ?_
        refine lv_bipush (v := 17) hx hb dX0_mixBlock_48 (by decide) ?_
        refine jx_Si (As := [.int z43, .int 17]) (rest := []) ⟨hx, hb, hml, hown, hts⟩ hZ hw hA (jx_J6_rotateRight_7cf53 l hlt D t3 cI cJ ad g lg a3 bk _ z43 17) (va_cwS 2 hts (jx_gS wwX_good wX_30 wX_31 wX_2 wX_32) rfl rfl rfl (by decide +kernel) ⟨Nat.le_of_ble_eq_true rfl, Nat.le_of_ble_eq_true rfl⟩) rfl hl.1 rfl (Nat.le_of_ble_eq_true rfl) dX0_mixBlock_50 ⟨Nat.le_of_ble_eq_true rfl, Nat.le_of_ble_eq_true rfl⟩ (fun _ _ _ _ _ _ _ _ hp _ _ _ _ => hp.elim) (fun r79 g80 l81 a82 b83 H locs hp84 hw => ?_)
        obtain ⟨rfl, rfl, rfl, rfl⟩ := hp84
        refine lv_iload_n hx hb dX0_mixBlock_53 rfl (lv_at hl 1 rfl) ?_
        refine lv_bipush (v := 19) hx hb dX0_mixBlock_54 (by decide) ?_
        refine jx_Si (As := [.int z43, .int 19]) (rest := [.int r79]) ⟨hx, hb, hml, hown, hts⟩ hZ hw hA (jx_J6_rotateRight_7cf53 l hlt D t3 cI cJ ad g lg a3 bk _ z43 19) (va_cwS 2 hts (jx_gS wwX_good wX_30 wX_31 wX_2 wX_32) rfl rfl rfl (by decide +kernel) ⟨Nat.le_of_ble_eq_true rfl, Nat.le_of_ble_eq_true rfl⟩) rfl hl.1 rfl (Nat.le_of_ble_eq_true rfl) dX0_mixBlock_56 ⟨Nat.le_of_ble_eq_true rfl, Nat.le_of_ble_eq_true rfl⟩ (fun _ _ _ _ _ _ _ _ hp _ _ _ _ => hp.elim) (fun r93 g94 l95 a96 b97 H locs hp98 hw => ?_)
        obtain ⟨rfl, rfl, rfl, rfl⟩ := hp98
        refine lv_ixor hx hb dX0_mixBlock_59 (jx_nm fun z103 hz103 => ?_)
        refine lv_iload_n hx hb dX0_mixBlock_60 rfl (lv_at hl 1 rfl) ?_
        refine lv_bipush (v := 10) hx hb dX0_mixBlock_61 (by decide) ?_
        refine lv_iushr hx hb dX0_mixBlock_63 rfl (jx_nm fun z104 hz104 => ?_)
        refine lv_ixor hx hb dX0_mixBlock_64 (jx_nm fun z105 hz105 => ?_)
        refine lv_istore (lv' := [(5, .int z105), (4, .int z74), (3, .int z43), (2, .int z41), (0, .ref (ad 11)), (1, .int x2)]) hx hb dX0_mixBlock_65 hl (by decide) rfl (fun ls hl => ?_)
        refine lv_aload_n hx hb dX0_mixBlock_67 rfl (lv_at hl 4 rfl) ?_
        refine hk_get (ci := 3) (C := RX0) (T := TX0) (N := 3) (v := .ref (ad 14)) hx hb hts (fun _ h => List.mem_cons_of_mem _ (wwXc_wsX00 _ h)) hown hw 11 rfl rfl 2 (by decide) (hq _ wX_29) rfl dX0_mixBlock_68 ?_
        refine lv_iload_n hx hb dX0_mixBlock_71 rfl (lv_at hl 5 rfl) ?_
        refine lv_aload_n hx hb dX0_mixBlock_72 rfl (lv_at hl 4 rfl) ?_
        refine hk_get (ci := 3) (C := RX0) (T := TX0) (N := 3) (v := .ref (ad 14)) hx hb hts (fun _ h => List.mem_cons_of_mem _ (wwXc_wsX00 _ h)) hown hw 11 rfl rfl 2 (by decide) (hq _ wX_29) rfl dX0_mixBlock_73 ?_
        refine lv_iload_n hx hb dX0_mixBlock_76 rfl (lv_at hl 5 rfl) ?_
        refine lv_bipush (v := 16) hx hb dX0_mixBlock_77 (by decide) ?_
        refine lv_isub hx hb dX0_mixBlock_79 (jx_nm fun z106 hz106 => ?_)
        have xz106 : (z106).toInt = (x2).toInt - ((16 : Int32)).toInt := (hE_imp (hE_sub hz106) (ob241 ((x2).toInt) (((16 : Int32)).toInt) (k4 : Int) (((64 : Int32)).toInt) ((z40).toInt) (((15 : Int32)).toInt) ((z42).toInt) (((2 : Int32)).toInt) hf_B1_0 hrk_B1 (hE_nle cc5) xz40 xz42 (hE_rng (x2)) (by decide) (by decide) (hE_rng (z40)) (by decide) (hE_rng (z42)) (by decide)))
        refine jx_iald hx hb hw 14 0 rfl rfl (hE_in (n := 64) (ob242 ((z106).toInt) ((x2).toInt) (((16 : Int32)).toInt) (k4 : Int) (((64 : Int32)).toInt) ((z40).toInt) (((15 : Int32)).toInt) ((z42).toInt) (((2 : Int32)).toInt) xz106 hf_B1_0 hrk_B1 (hE_nle cc5) xz40 xz42 (hE_rng (z106)) (hE_rng (x2)) (by decide) (by decide) (hE_rng (z40)) (by decide) (hE_rng (z42)) (by decide))) dX0_mixBlock_80 (fun z107 hz107 => ?_)
        refine lv_iload hx hb dX0_mixBlock_81 (lv_at hl 1 rfl) ?_
        refine lv_iadd hx hb dX0_mixBlock_83 (jx_nm fun z108 hz108 => ?_)
        refine lv_aload_n hx hb dX0_mixBlock_84 rfl (lv_at hl 4 rfl) ?_
        refine hk_get (ci := 3) (C := RX0) (T := TX0) (N := 3) (v := .ref (ad 14)) hx hb hts (fun _ h => List.mem_cons_of_mem _ (wwXc_wsX00 _ h)) hown hw 11 rfl rfl 2 (by decide) (hq _ wX_29) rfl dX0_mixBlock_85 ?_
        refine lv_iload_n hx hb dX0_mixBlock_88 rfl (lv_at hl 5 rfl) ?_
        refine lv_bipush (v := 7) hx hb dX0_mixBlock_89 (by decide) ?_
        refine lv_isub hx hb dX0_mixBlock_91 (jx_nm fun z109 hz109 => ?_)
        have xz109 : (z109).toInt = (x2).toInt - ((7 : Int32)).toInt := (hE_imp (hE_sub hz109) (ob243 ((x2).toInt) (((7 : Int32)).toInt) (k4 : Int) (((64 : Int32)).toInt) ((z40).toInt) (((15 : Int32)).toInt) ((z42).toInt) (((2 : Int32)).toInt) ((z106).toInt) (((16 : Int32)).toInt) hf_B1_0 hrk_B1 (hE_nle cc5) xz40 xz42 xz106 (hE_rng (x2)) (by decide) (by decide) (hE_rng (z40)) (by decide) (hE_rng (z42)) (by decide) (hE_rng (z106)) (by decide)))
        refine jx_iald hx hb hw 14 0 rfl rfl (hE_in (n := 64) (ob244 ((z109).toInt) ((x2).toInt) (((7 : Int32)).toInt) (k4 : Int) (((64 : Int32)).toInt) ((z40).toInt) (((15 : Int32)).toInt) ((z42).toInt) (((2 : Int32)).toInt) ((z106).toInt) (((16 : Int32)).toInt) xz109 hf_B1_0 hrk_B1 (hE_nle cc5) xz40 xz42 xz106 (hE_rng (z109)) (hE_rng (x2)) (by decide) (by decide) (hE_rng (z40)) (by decide) (hE_rng (z42)) (by decide) (hE_rng (z106)) (by decide))) dX0_mixBlock_92 (fun z110 hz110 => ?_)
        refine lv_iadd hx hb dX0_mixBlock_93 (jx_nm fun z111 hz111 => ?_)
        refine lv_iload hx hb dX0_mixBlock_94 (lv_at hl 0 rfl) ?_
        refine lv_iadd hx hb dX0_mixBlock_96 (jx_nm fun z112 hz112 => ?_)
        refine jx_iast xw (g := g) (lg := lg) (ar := a3) (bk := bk) 5 hx hb hw 14 0 rfl rfl (hE_in (n := 64) (ob245 ((x2).toInt) (k4 : Int) (((64 : Int32)).toInt) ((z40).toInt) (((15 : Int32)).toInt) ((z42).toInt) (((2 : Int32)).toInt) ((z106).toInt) (((16 : Int32)).toInt) ((z109).toInt) (((7 : Int32)).toInt) hf_B1_0 hrk_B1 (hE_nle cc5) xz40 xz42 xz106 xz109 (hE_rng (x2)) (by decide) (hE_rng (z40)) (by decide) (hE_rng (z42)) (by decide) (hE_rng (z106)) (by decide) (hE_rng (z109)) (by decide))) dX0_mixBlock_97 rfl (fun H locs a113 h_a113 hw => ?_)
        obtain ⟨z114, hz114⟩ : ∃ z : Int32, x2 + 1 = z := ⟨_, rfl⟩
        refine lv_iinc (v := z114) (lv' := [(1, .int z114), (5, .int z105), (4, .int z74), (3, .int z43), (2, .int z41), (0, .ref (ad 11))]) hx hb dX0_mixBlock_98 hl (k := 5) rfl hz114 (by decide) rfl (fun ls hl => ?_)
        have xz114 : (z114).toInt = (x2).toInt + ((1 : Int32)).toInt := (hE_imp (hE_add hz114) (ob246 ((x2).toInt) (((1 : Int32)).toInt) (k4 : Int) (((64 : Int32)).toInt) ((z40).toInt) (((15 : Int32)).toInt) ((z42).toInt) (((2 : Int32)).toInt) ((z106).toInt) (((16 : Int32)).toInt) ((z109).toInt) (((7 : Int32)).toInt) hf_B1_0 hrk_B1 (hE_nle cc5) xz40 xz42 xz106 xz109 (hE_rng (x2)) (by decide) (by decide) (hE_rng (z40)) (by decide) (hE_rng (z42)) (by decide) (hE_rng (z106)) (by decide) (hE_rng (z109)) (by decide)))
        refine lv_goto (tgt := 3) hx hb dX0_mixBlock_101 (by decide) ?_
        exact ih_B1 z114 a113 ls _ _ (ob247 ((z114).toInt) (k4 : Int) ((x2).toInt) (((1 : Int32)).toInt) (((64 : Int32)).toInt) ((z40).toInt) (((15 : Int32)).toInt) ((z42).toInt) (((2 : Int32)).toInt) ((z106).toInt) (((16 : Int32)).toInt) ((z109).toInt) (((7 : Int32)).toInt) hrk_B1 xz114 hf_B1_0 (hE_nle cc5) xz40 xz42 xz106 xz109 (hE_rng (z114)) (hE_rng (x2)) (by decide) (by decide) (hE_rng (z40)) (by decide) (hE_rng (z42)) (by decide) (hE_rng (z106)) (by decide) (hE_rng (z109)) (by decide)) (ob248 ((z114).toInt) ((x2).toInt) (((1 : Int32)).toInt) (k4 : Int) (((64 : Int32)).toInt) ((z40).toInt) (((15 : Int32)).toInt) ((z42).toInt) (((2 : Int32)).toInt) ((z106).toInt) (((16 : Int32)).toInt) ((z109).toInt) (((7 : Int32)).toInt) xz114 hf_B1_0 hrk_B1 (hE_nle cc5) xz40 xz42 xz106 xz109 (hE_rng (z114)) (hE_rng (x2)) (by decide) (by decide) (hE_rng (z40)) (by decide) (hE_rng (z42)) (by decide) (hE_rng (z106)) (by decide) (hE_rng (z109)) (by decide)) (hk_frA hfr_a3 (by decide) h_a113) hw (lv_sub hl [5, 0] rfl)
  exact B1 (2147483648 - ((16 : Int32)).toInt).toNat 16 ar ls _ _ (Int.self_le_toNat _) (ob249 (((16 : Int32)).toInt) (by decide)) hk_fr0 hw (lv_sub hl [1, 0] rfl)
