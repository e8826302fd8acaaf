/-! 67.pack -/
theorem ob254 (v0 : Int) (v1 : Int) (h0 : v0 = v1) (h1 : 0 ≤ v1 ∧ v1 ≤ 200) (h2 : -2147483648 ≤ v0 ∧ v0 ≤ 2147483647) (h3 : -2147483648 ≤ v1 ∧ v1 ≤ 2147483647) : 0 ≤ v0 ∧ v0 ≤ 200 := by omega
theorem ob255 (v0 : Int) (v1 : Int) (h0 : 0 ≤ v0 ∧ v0 ≤ 4) (h1 : v1 = v0) (h2 : -2147483648 ≤ v0 ∧ v0 ≤ 2147483647) (h3 : -2147483648 ≤ v1 ∧ v1 ≤ 2147483647) : 0 ≤ v0 ∧ v0 ≤ 4 := by omega
theorem ob256 (v0 : Int) (h0 : 0 ≤ v0 ∧ v0 ≤ 4) (h1 : -2147483648 ≤ v0 ∧ v0 ≤ 2147483647) : 0 ≤ v0 ∧ v0 ≤ 4 := by omega
theorem ob257 (v0 : Int) (h0 : v0 = 0) (h1 : v0 ≠ 0) (h2 : -2147483648 ≤ v0 ∧ v0 ≤ 2147483647) : (0 * v0) ≤ -1 := by omega
theorem ob258 (v0 : Int) (h0 : v0 ≠ 0) (h1 : -2147483648 ≤ v0 ∧ v0 ≤ 2147483647) : (0 * v0) ≤ -1 := by omega
theorem ob259 (v0 : Int) (v1 : Int) (v2 : Int) (h0 : 0 ≤ v0 ∧ v0 ≤ v1 ∧ v1 ≤ v2 ∧ v2 ≤ 1500) (h1 : -2147483648 ≤ v0 ∧ v0 ≤ 2147483647) (h2 : -2147483648 ≤ v1 ∧ v1 ≤ 2147483647) (h3 : -2147483648 ≤ v2 ∧ v2 ≤ 2147483647) : 0 ≤ v0 ∧ v0 ≤ v1 ∧ v1 ≤ v2 ∧ v2 ≤ 1500 := by omega
theorem ob260 (v0 : Int) (v1 : Int) (v2 : Int) (v3 : Int) (v4 : Int) (v5 : Int) (v6 : Int) (h0 : v1 ≤ v0) (h1 : 2147483648 - v0 ≤ 0) (h2 : 0 ≤ v2 ∧ v2 ≤ v1 ∧ v1 ≤ v3 ∧ v3 ≤ 1500) (h3 : v4 = v2 ∧ v5 = v1 ∧ v6 = v3) (h4 : -2147483648 ≤ v0 ∧ v0 ≤ 2147483647) (h5 : -2147483648 ≤ v1 ∧ v1 ≤ 2147483647) (h6 : -2147483648 ≤ v2 ∧ v2 ≤ 2147483647) (h7 : -2147483648 ≤ v3 ∧ v3 ≤ 2147483647) (h8 : -2147483648 ≤ v4 ∧ v4 ≤ 2147483647) (h9 : -2147483648 ≤ v5 ∧ v5 ≤ 2147483647) (h10 : -2147483648 ≤ v6 ∧ v6 ≤ 2147483647) : (0 * v0) ≤ -1 := by omega
theorem ob261 (v0 : Int) (v1 : Int) (h0 : v0 = v1) (h1 : -2147483648 ≤ v0 ∧ v0 ≤ 2147483647) (h2 : -2147483648 ≤ v1 ∧ v1 ≤ 2147483647) : v0 = 0 := by omega
theorem ob262 (v0 : Int) (v1 : Int) (v2 : Int) (v3 : Int) (v4 : Int) (v5 : Int) (v6 : Int) (v7 : Int) (v8 : Int) (h0 : v0 = v1) (h1 : v2 = v3 ∧ v1 = v4 ∧ v5 = v6) (h2 : 0 ≤ v3 ∧ v3 ≤ v4 ∧ v4 ≤ v6 ∧ v6 ≤ 1500) (h3 : v4 ≤ v7) (h4 : v7 < v6) (h5 : 2147483648 - v7 ≤ v8 + 1) (h6 : -2147483648 ≤ v0 ∧ v0 ≤ 2147483647) (h7 : -2147483648 ≤ v1 ∧ v1 ≤ 2147483647) (h8 : -2147483648 ≤ v2 ∧ v2 ≤ 2147483647) (h9 : -2147483648 ≤ v3 ∧ v3 ≤ 2147483647) (h10 : -2147483648 ≤ v4 ∧ v4 ≤ 2147483647) (h11 : -2147483648 ≤ v5 ∧ v5 ≤ 2147483647) (h12 : -2147483648 ≤ v6 ∧ v6 ≤ 2147483647) (h13 : -2147483648 ≤ v7 ∧ v7 ≤ 2147483647) : 0 ≤ v0 := by omega
theorem ob263 (v0 : Int) (v1 : Int) (v2 : Int) (v3 : Int) (v4 : Int) (v5 : Int) (v6 : Int) (v7 : Int) (v8 : Int) (v9 : Int) (h0 : v0 = v1) (h1 : v2 = v3 ∧ v4 = v5 ∧ v1 = v6) (h2 : 0 ≤ v3 ∧ v3 ≤ v5 ∧ v5 ≤ v6 ∧ v6 ≤ 1500) (h3 : v5 ≤ v7) (h4 : v7 < v6) (h5 : v8 = v4) (h6 : 2147483648 - v7 ≤ v9 + 1) (h7 : -2147483648 ≤ v0 ∧ v0 ≤ 2147483647) (h8 : -2147483648 ≤ v1 ∧ v1 ≤ 2147483647) (h9 : -2147483648 ≤ v2 ∧ v2 ≤ 2147483647) (h10 : -2147483648 ≤ v3 ∧ v3 ≤ 2147483647) (h11 : -2147483648 ≤ v4 ∧ v4 ≤ 2147483647) (h12 : -2147483648 ≤ v5 ∧ v5 ≤ 2147483647) (h13 : -2147483648 ≤ v6 ∧ v6 ≤ 2147483647) (h14 : -2147483648 ≤ v7 ∧ v7 ≤ 2147483647) (h15 : -2147483648 ≤ v8 ∧ v8 ≤ 2147483647) : v0 ≤ 1500 := by omega
theorem ob264 (v0 : Int) (v1 : Int) (v2 : Int) (v3 : Int) (v4 : Int) (v5 : Int) (v6 : Int) (v7 : Int) (v8 : Int) (v9 : Int) (v10 : Int) (v11 : Int) (v12 : Int) (v13 : Int) (v14 : Int) (h0 : 2147483648 - v2 ≤ v1 + 1) (h1 : v0 = (v2 + v3 + 2147483648) % 4294967296 - 2147483648) (h2 : v4 ≤ v2) (h3 : v2 < v5) (h4 : v6 ≤ v3 ∧ v7 ≤ v3 ∧ (v3 = v6 ∨ v3 = v7)) (h5 : 0 ≤ v8 ∧ v8 ≤ v4 ∧ v4 ≤ v5 ∧ v5 ≤ 1500) (h6 : v9 = v8 ∧ v10 = v4 ∧ v11 = v5) (h7 : -2147483648 ≤ v7 ∧ v7 ≤ 1501) (h8 : v12 = v7) (h9 : v13 = v10) (h10 : v14 = v11) (h11 : -2147483648 ≤ v0 ∧ v0 ≤ 2147483647) (h12 : -2147483648 ≤ v2 ∧ v2 ≤ 2147483647) (h13 : -2147483648 ≤ v3 ∧ v3 ≤ 2147483647) (h14 : -2147483648 ≤ v4 ∧ v4 ≤ 2147483647) (h15 : -2147483648 ≤ v5 ∧ v5 ≤ 2147483647) (h16 : v6 = 1) (h17 : -2147483648 ≤ v7 ∧ v7 ≤ 2147483647) (h18 : -2147483648 ≤ v8 ∧ v8 ≤ 2147483647) (h19 : -2147483648 ≤ v9 ∧ v9 ≤ 2147483647) (h20 : -2147483648 ≤ v10 ∧ v10 ≤ 2147483647) (h21 : -2147483648 ≤ v11 ∧ v11 ≤ 2147483647) (h22 : -2147483648 ≤ v12 ∧ v12 ≤ 2147483647) (h23 : -2147483648 ≤ v13 ∧ v13 ≤ 2147483647) (h24 : -2147483648 ≤ v14 ∧ v14 ≤ 2147483647) : 2147483648 - v0 ≤ v1 := by omega
theorem ob265 (v0 : Int) (v1 : Int) (v2 : Int) (v3 : Int) (v4 : Int) (v5 : Int) (v6 : Int) (v7 : Int) (v8 : Int) (v9 : Int) (v10 : Int) (v11 : Int) (v12 : Int) (v13 : Int) (v14 : Int) (h0 : 0 ≤ v2 ∧ v2 ≤ v0 ∧ v0 ≤ v3 ∧ v3 ≤ 1500) (h1 : v4 = v2 ∧ v5 = v0 ∧ v6 = v3) (h2 : v0 ≤ v7) (h3 : v1 = (v7 + v8 + 2147483648) % 4294967296 - 2147483648) (h4 : 2147483648 - v7 ≤ v9 + 1) (h5 : v7 < v3) (h6 : v10 = v5) (h7 : v11 = v6) (h8 : v12 ≤ v8 ∧ v13 ≤ v8 ∧ (v8 = v12 ∨ v8 = v13)) (h9 : -2147483648 ≤ v13 ∧ v13 ≤ 1501) (h10 : v14 = v13) (h11 : -2147483648 ≤ v0 ∧ v0 ≤ 2147483647) (h12 : -2147483648 ≤ v1 ∧ v1 ≤ 2147483647) (h13 : -2147483648 ≤ v2 ∧ v2 ≤ 2147483647) (h14 : -2147483648 ≤ v3 ∧ v3 ≤ 2147483647) (h15 : -2147483648 ≤ v4 ∧ v4 ≤ 2147483647) (h16 : -2147483648 ≤ v5 ∧ v5 ≤ 2147483647) (h17 : -2147483648 ≤ v6 ∧ v6 ≤ 2147483647) (h18 : -2147483648 ≤ v7 ∧ v7 ≤ 2147483647) (h19 : -2147483648 ≤ v8 ∧ v8 ≤ 2147483647) (h20 : -2147483648 ≤ v10 ∧ v10 ≤ 2147483647) (h21 : -2147483648 ≤ v11 ∧ v11 ≤ 2147483647) (h22 : v12 = 1) (h23 : -2147483648 ≤ v13 ∧ v13 ≤ 2147483647) (h24 : -2147483648 ≤ v14 ∧ v14 ≤ 2147483647) : v0 ≤ v1 := by omega
theorem ob266 (v0 : Int) (v1 : Int) (v2 : Int) (v3 : Int) (v4 : Int) (v5 : Int) (v6 : Int) (v7 : Int) (v8 : Int) (v9 : Int) (v10 : Int) (v11 : Int) (v12 : Int) (v13 : Int) (h0 : v0 = v1) (h1 : -2147483648 ≤ v1 ∧ v1 ≤ 1501) (h2 : v2 = v1) (h3 : v3 ≤ v4 ∧ v1 ≤ v4 ∧ (v4 = v3 ∨ v4 = v1)) (h4 : v5 = (v6 + v4 + 2147483648) % 4294967296 - 2147483648) (h5 : v7 ≤ v6) (h6 : 2147483648 - v6 ≤ v8 + 1) (h7 : v6 < v9) (h8 : 0 ≤ v10 ∧ v10 ≤ v7 ∧ v7 ≤ v9 ∧ v9 ≤ 1500) (h9 : v11 = v10 ∧ v12 = v7 ∧ v13 = v9) (h10 : -2147483648 ≤ v0 ∧ v0 ≤ 2147483647) (h11 : -2147483648 ≤ v1 ∧ v1 ≤ 2147483647) (h12 : -2147483648 ≤ v2 ∧ v2 ≤ 2147483647) (h13 : v3 = 1) (h14 : -2147483648 ≤ v4 ∧ v4 ≤ 2147483647) (h15 : -2147483648 ≤ v5 ∧ v5 ≤ 2147483647) (h16 : -2147483648 ≤ v6 ∧ v6 ≤ 2147483647) (h17 : -2147483648 ≤ v7 ∧ v7 ≤ 2147483647) (h18 : -2147483648 ≤ v9 ∧ v9 ≤ 2147483647) (h19 : -2147483648 ≤ v10 ∧ v10 ≤ 2147483647) (h20 : -2147483648 ≤ v11 ∧ v11 ≤ 2147483647) (h21 : -2147483648 ≤ v12 ∧ v12 ≤ 2147483647) (h22 : -2147483648 ≤ v13 ∧ v13 ≤ 2147483647) : -2147483648 ≤ v0 ∧ v0 ≤ 1501 := by omega
theorem ob267 (v0 : Int) (v1 : Int) (v2 : Int) (v3 : Int) (v4 : Int) (v5 : Int) (h0 : 0 ≤ v1 ∧ v1 ≤ v0 ∧ v0 ≤ v2 ∧ v2 ≤ 1500) (h1 : v3 = v1 ∧ v4 = v0 ∧ v5 = v2) (h2 : -2147483648 ≤ v0 ∧ v0 ≤ 2147483647) (h3 : -2147483648 ≤ v1 ∧ v1 ≤ 2147483647) (h4 : -2147483648 ≤ v2 ∧ v2 ≤ 2147483647) (h5 : -2147483648 ≤ v3 ∧ v3 ≤ 2147483647) (h6 : -2147483648 ≤ v4 ∧ v4 ≤ 2147483647) (h7 : -2147483648 ≤ v5 ∧ v5 ≤ 2147483647) : v0 ≤ v0 := by omega
theorem ob268 (v0 : Int) (v1 : Int) (v2 : Int) (h0 : 0 ≤ v1 ∧ v1 ≤ 1500) (h1 : v2 = v1) (h2 : v0 = 0) (h3 : -2147483648 ≤ v1 ∧ v1 ≤ 2147483647) (h4 : -2147483648 ≤ v2 ∧ v2 ≤ 2147483647) : 0 ≤ v0 ∧ v0 ≤ v0 ∧ v0 ≤ v1 ∧ v1 ≤ 1500 := by omega
theorem ob269 (v0 : Int) (v1 : Int) (h0 : v1 = v0) (h1 : v0 = 1) (h2 : -2147483648 ≤ v1 ∧ v1 ≤ 2147483647) : 0 ≤ v0 ∧ v0 ≤ 1 := by omega
theorem ob270 (v0 : Int) (h0 : 5 ≤ v0 ∧ v0 ≤ 6) (h1 : -2147483648 ≤ v0 ∧ v0 ≤ 2147483647) : 0 ≤ v0 ∧ v0 ≤ 8 := by omega
theorem ob271 (v0 : Int) (h0 : v0 = 5) : 5 ≤ v0 ∧ v0 ≤ 6 := by omega
theorem ob272 (v0 : Int) (h0 : v0 = 6) : 5 ≤ v0 ∧ v0 ≤ 6 := by omega
theorem ob273 (v0 : Int) (h0 : v0 = 2) : 0 ≤ v0 ∧ v0 ≤ 8 := by omega
theorem ob274 (v0 : Int) (h0 : 2147483648 - v0 ≤ 0) (h1 : -2147483648 ≤ v0 ∧ v0 ≤ 2147483647) : (0 * v0) ≤ -1 := by omega
theorem ob275 (v0 : Int) (v1 : Int) (v2 : Int) (v3 : Int) (v4 : Int) (v5 : Int) (v6 : Int) (v7 : Int) (v8 : Int) (h0 : 2147483648 - v2 ≤ v1 + 1) (h1 : v0 = (v2 + v3 + 2147483648) % 4294967296 - 2147483648) (h2 : v4 = (v5 - v3 + 2147483648) % 4294967296 - 2147483648) (h3 : v2 < v6) (h4 : v5 = (v6 - v7 + 2147483648) % 4294967296 - 2147483648) (h5 : v8 = v4) (h6 : -2147483648 ≤ v0 ∧ v0 ≤ 2147483647) (h7 : -2147483648 ≤ v2 ∧ v2 ≤ 2147483647) (h8 : v3 = 1) (h9 : -2147483648 ≤ v4 ∧ v4 ≤ 2147483647) (h10 : -2147483648 ≤ v5 ∧ v5 ≤ 2147483647) (h11 : -2147483648 ≤ v6 ∧ v6 ≤ 2147483647) (h12 : -2147483648 ≤ v7 ∧ v7 ≤ 2147483647) (h13 : -9223372036854775808 ≤ v8 ∧ v8 ≤ 9223372036854775807) : 2147483648 - v0 ≤ v1 := by omega
theorem ob276 (v0 : Int) (v1 : Int) (h0 : v1 ≤ v0) (h1 : 2147483648 - v0 ≤ 0) (h2 : 0 ≤ v1) (h3 : -2147483648 ≤ v0 ∧ v0 ≤ 2147483647) (h4 : -2147483648 ≤ v1 ∧ v1 ≤ 2147483647) : (0 * v0) ≤ -1 := by omega
theorem ob277 (v0 : Int) (v1 : Int) (v2 : Int) (v3 : Int) (v4 : Int) (v5 : Int) (v6 : Int) (v7 : Int) (v8 : Int) (v9 : Int) (v10 : Int) (v11 : Int) (v12 : Int) (v13 : Int) (v14 : Int) (h0 : 2147483648 - v2 ≤ v1 + 1) (h1 : v0 = (v2 + v3 + 2147483648) % 4294967296 - 2147483648) (h2 : v4 ≤ v3 ∧ v5 ≤ v3 ∧ (v3 = v4 ∨ v3 = v5)) (h3 : v6 ≤ v2) (h4 : v2 < v7) (h5 : v8 = (v2 + v3 + 2147483648) % 4294967296 - 2147483648) (h6 : v9 = (v10 - v2 + 2147483648) % 4294967296 - 2147483648) (h7 : 0 ≤ v6) (h8 : v7 ≤ 1500) (h9 : 1 ≤ v5 ∧ v5 ≤ 1500) (h10 : v11 = v5) (h11 : v10 ≤ v8 ∧ v10 ≤ v7 ∧ (v10 = v8 ∨ v10 = v7)) (h12 : v12 = (v13 + v4 + 2147483648) % 4294967296 - 2147483648) (h13 : v14 = v13) (h14 : -2147483648 ≤ v0 ∧ v0 ≤ 2147483647) (h15 : -2147483648 ≤ v2 ∧ v2 ≤ 2147483647) (h16 : -2147483648 ≤ v3 ∧ v3 ≤ 2147483647) (h17 : v4 = 1) (h18 : -2147483648 ≤ v5 ∧ v5 ≤ 2147483647) (h19 : -2147483648 ≤ v6 ∧ v6 ≤ 2147483647) (h20 : -2147483648 ≤ v7 ∧ v7 ≤ 2147483647) (h21 : -2147483648 ≤ v8 ∧ v8 ≤ 2147483647) (h22 : -2147483648 ≤ v9 ∧ v9 ≤ 2147483647) (h23 : -2147483648 ≤ v10 ∧ v10 ≤ 2147483647) (h24 : -2147483648 ≤ v11 ∧ v11 ≤ 2147483647) (h25 : -2147483648 ≤ v12 ∧ v12 ≤ 2147483647) (h26 : -2147483648 ≤ v13 ∧ v13 ≤ 2147483647) (h27 : -2147483648 ≤ v14 ∧ v14 ≤ 2147483647) : 2147483648 - v0 ≤ v1 := by omega
theorem ob278 (v0 : Int) (v1 : Int) (v2 : Int) (v3 : Int) (v4 : Int) (v5 : Int) (v6 : Int) (v7 : Int) (v8 : Int) (v9 : Int) (v10 : Int) (v11 : Int) (v12 : Int) (v13 : Int) (v14 : Int) (h0 : 0 ≤ v0) (h1 : v0 ≤ v2) (h2 : v1 = (v2 + v3 + 2147483648) % 4294967296 - 2147483648) (h3 : v4 ≤ v3 ∧ v5 ≤ v3 ∧ (v3 = v4 ∨ v3 = v5)) (h4 : 2147483648 - v2 ≤ v6 + 1) (h5 : v2 < v7) (h6 : v8 = (v2 + v3 + 2147483648) % 4294967296 - 2147483648) (h7 : v9 = (v10 - v2 + 2147483648) % 4294967296 - 2147483648) (h8 : v7 ≤ 1500) (h9 : 1 ≤ v5 ∧ v5 ≤ 1500) (h10 : v11 = v5) (h11 : v10 ≤ v8 ∧ v10 ≤ v7 ∧ (v10 = v8 ∨ v10 = v7)) (h12 : v12 = (v13 + v4 + 2147483648) % 4294967296 - 2147483648) (h13 : v14 = v13) (h14 : -2147483648 ≤ v0 ∧ v0 ≤ 2147483647) (h15 : -2147483648 ≤ v1 ∧ v1 ≤ 2147483647) (h16 : -2147483648 ≤ v2 ∧ v2 ≤ 2147483647) (h17 : -2147483648 ≤ v3 ∧ v3 ≤ 2147483647) (h18 : v4 = 1) (h19 : -2147483648 ≤ v5 ∧ v5 ≤ 2147483647) (h20 : -2147483648 ≤ v7 ∧ v7 ≤ 2147483647) (h21 : -2147483648 ≤ v8 ∧ v8 ≤ 2147483647) (h22 : -2147483648 ≤ v9 ∧ v9 ≤ 2147483647) (h23 : -2147483648 ≤ v10 ∧ v10 ≤ 2147483647) (h24 : -2147483648 ≤ v11 ∧ v11 ≤ 2147483647) (h25 : -2147483648 ≤ v12 ∧ v12 ≤ 2147483647) (h26 : -2147483648 ≤ v13 ∧ v13 ≤ 2147483647) (h27 : -2147483648 ≤ v14 ∧ v14 ≤ 2147483647) : v0 ≤ v1 := by omega
theorem ob279 (v0 : Int) (v1 : Int) (v2 : Int) (v3 : Int) (v4 : Int) (v5 : Int) (v6 : Int) (v7 : Int) (v8 : Int) (v9 : Int) (v10 : Int) (h0 : v0 ≤ v1 ∧ v2 ≤ v1 ∧ (v1 = v0 ∨ v1 = v2)) (h1 : 1 ≤ v2 ∧ v2 ≤ 1500) (h2 : v3 = v2) (h3 : v4 = (v5 + v1 + 2147483648) % 4294967296 - 2147483648) (h4 : v6 ≤ v5) (h5 : 2147483648 - v5 ≤ v7 + 1) (h6 : v5 < v8) (h7 : v9 ≤ v4 ∧ v9 ≤ v8 ∧ (v9 = v4 ∨ v9 = v8)) (h8 : v10 = (v9 - v5 + 2147483648) % 4294967296 - 2147483648) (h9 : 0 ≤ v6) (h10 : v8 ≤ 1500) (h11 : v0 = 1) (h12 : -2147483648 ≤ v1 ∧ v1 ≤ 2147483647) (h13 : -2147483648 ≤ v2 ∧ v2 ≤ 2147483647) (h14 : -2147483648 ≤ v3 ∧ v3 ≤ 2147483647) (h15 : -2147483648 ≤ v4 ∧ v4 ≤ 2147483647) (h16 : -2147483648 ≤ v5 ∧ v5 ≤ 2147483647) (h17 : -2147483648 ≤ v6 ∧ v6 ≤ 2147483647) (h18 : -2147483648 ≤ v8 ∧ v8 ≤ 2147483647) (h19 : -2147483648 ≤ v9 ∧ v9 ≤ 2147483647) (h20 : -2147483648 ≤ v10 ∧ v10 ≤ 2147483647) : -1 ≤ v0 ∧ v0 ≤ 1 := by omega
theorem ob280 (v0 : Int) (h0 : v0 = (-1)) : -1 ≤ v0 ∧ v0 ≤ 1 := by omega
theorem ob281 (v0 : Int) (h0 : v0 = 2) : 1 ≤ v0 ∧ v0 ≤ 2 := by omega
theorem ob282 (v0 : Int) (v1 : Int) (v2 : Int) (v3 : Int) (v4 : Int) (v5 : Int) (v6 : Int) (v7 : Int) (v8 : Int) (v9 : Int) (v10 : Int) (h0 : v0 ≤ v1 ∧ v2 ≤ v1 ∧ (v1 = v0 ∨ v1 = v2)) (h1 : 1 ≤ v2 ∧ v2 ≤ 1500) (h2 : v3 = v2) (h3 : v4 = (v5 + v1 + 2147483648) % 4294967296 - 2147483648) (h4 : v6 ≤ v5) (h5 : 2147483648 - v5 ≤ v7 + 1) (h6 : v5 < v8) (h7 : v9 ≤ v4 ∧ v9 ≤ v8 ∧ (v9 = v4 ∨ v9 = v8)) (h8 : v10 = (v9 - v5 + 2147483648) % 4294967296 - 2147483648) (h9 : v5 = v6) (h10 : 0 ≤ v6) (h11 : v8 ≤ 1500) (h12 : v0 = 1) (h13 : -2147483648 ≤ v1 ∧ v1 ≤ 2147483647) (h14 : -2147483648 ≤ v2 ∧ v2 ≤ 2147483647) (h15 : -2147483648 ≤ v3 ∧ v3 ≤ 2147483647) (h16 : -2147483648 ≤ v4 ∧ v4 ≤ 2147483647) (h17 : -2147483648 ≤ v5 ∧ v5 ≤ 2147483647) (h18 : -2147483648 ≤ v6 ∧ v6 ≤ 2147483647) (h19 : -2147483648 ≤ v8 ∧ v8 ≤ 2147483647) (h20 : -2147483648 ≤ v9 ∧ v9 ≤ 2147483647) (h21 : -2147483648 ≤ v10 ∧ v10 ≤ 2147483647) : 1 ≤ v0 ∧ v0 ≤ 2 := by omega
theorem ob283 (v0 : Int) (v1 : Int) (v2 : Int) (h0 : v0 = v1) (h1 : 0 ≤ v1 ∧ v1 ≤ 4) (h2 : v2 = v1) (h3 : -2147483648 ≤ v0 ∧ v0 ≤ 2147483647) (h4 : -2147483648 ≤ v1 ∧ v1 ≤ 2147483647) (h5 : -2147483648 ≤ v2 ∧ v2 ≤ 2147483647) : 0 ≤ v0 ∧ v0 ≤ 4 := by omega
theorem ob284 (v0 : Int) (v1 : Int) (v2 : Int) (v3 : Int) (v4 : Int) (v5 : Int) (v6 : Int) (v7 : Int) (v8 : Int) (v9 : Int) (v10 : Int) (v11 : Int) (h0 : 0 ≤ v0) (h1 : v0 ≤ v1) (h2 : 2147483648 - v1 ≤ v3 + 1) (h3 : v1 < v4) (h4 : v5 = (v1 + v6 + 2147483648) % 4294967296 - 2147483648) (h5 : v2 ≤ v5 ∧ v2 ≤ v4 ∧ (v2 = v5 ∨ v2 = v4)) (h6 : v7 = (v2 - v1 + 2147483648) % 4294967296 - 2147483648) (h7 : v4 ≤ 1500) (h8 : v8 ≤ v6 ∧ v9 ≤ v6 ∧ (v6 = v8 ∨ v6 = v9)) (h9 : v10 < v7) (h10 : 1 ≤ v9 ∧ v9 ≤ 1500) (h11 : v11 = v9) (h12 : -2147483648 ≤ v0 ∧ v0 ≤ 2147483647) (h13 : -2147483648 ≤ v1 ∧ v1 ≤ 2147483647) (h14 : -2147483648 ≤ v2 ∧ v2 ≤ 2147483647) (h15 : -2147483648 ≤ v4 ∧ v4 ≤ 2147483647) (h16 : -2147483648 ≤ v5 ∧ v5 ≤ 2147483647) (h17 : -2147483648 ≤ v6 ∧ v6 ≤ 2147483647) (h18 : -2147483648 ≤ v7 ∧ v7 ≤ 2147483647) (h19 : v8 = 1) (h20 : -2147483648 ≤ v9 ∧ v9 ≤ 2147483647) (h21 : v10 = 5) (h22 : -2147483648 ≤ v11 ∧ v11 ≤ 2147483647) : 0 ≤ v0 ∧ v0 ≤ v1 ∧ v1 ≤ v2 ∧ v2 ≤ 1500 := by omega
theorem ob285 (v0 : Int) (v1 : Int) (h0 : v0 ≤ v1) (h1 : v1 ≤ v0) (h2 : v0 = 0) (h3 : -2147483648 ≤ v1 ∧ v1 ≤ 2147483647) : 0 ≤ v0 ∧ v0 ≤ 3 := by omega
theorem ob286 (v0 : Int) (v1 : Int) (v2 : Int) (v3 : Int) (v4 : Int) (v5 : Int) (v6 : Int) (v7 : Int) (v8 : Int) (v9 : Int) (h0 : v0 ≤ v1 ∧ v2 ≤ v1 ∧ (v1 = v0 ∨ v1 = v2)) (h1 : 1 ≤ v2 ∧ v2 ≤ 1500) (h2 : v3 = v2) (h3 : v4 = (v5 + v1 + 2147483648) % 4294967296 - 2147483648) (h4 : v6 ≤ v5) (h5 : 2147483648 - v5 ≤ v7 + 1) (h6 : v5 < v8) (h7 : v9 ≤ v4 ∧ v9 ≤ v8 ∧ (v9 = v4 ∨ v9 = v8)) (h8 : v5 ≠ v6) (h9 : 0 ≤ v6) (h10 : v8 ≤ 1500) (h11 : v0 = 1) (h12 : -2147483648 ≤ v1 ∧ v1 ≤ 2147483647) (h13 : -2147483648 ≤ v2 ∧ v2 ≤ 2147483647) (h14 : -2147483648 ≤ v3 ∧ v3 ≤ 2147483647) (h15 : -2147483648 ≤ v4 ∧ v4 ≤ 2147483647) (h16 : -2147483648 ≤ v5 ∧ v5 ≤ 2147483647) (h17 : -2147483648 ≤ v6 ∧ v6 ≤ 2147483647) (h18 : -2147483648 ≤ v8 ∧ v8 ≤ 2147483647) (h19 : -2147483648 ≤ v9 ∧ v9 ≤ 2147483647) : 0 ≤ v0 ∧ v0 ≤ 3 := by omega
theorem ob287 (v0 : Int) (h0 : v0 = 2) : 0 ≤ v0 ∧ v0 ≤ 3 := by omega
theorem ob288 (v0 : Int) (h0 : 0 ≤ v0) (h1 : -2147483648 ≤ v0 ∧ v0 ≤ 2147483647) : v0 ≤ v0 := by omega
theorem ob289 (v0 : Int) (h0 : 0 ≤ v0 ∧ v0 ≤ 1500) (h1 : -2147483648 ≤ v0 ∧ v0 ≤ 2147483647) : -3000 ≤ v0 ∧ v0 ≤ 3000 := by omega
theorem ob290 (v0 : Int) (h0 : 0 ≤ v0 ∧ v0 ≤ 200) (h1 : -2147483648 ≤ v0 ∧ v0 ≤ 2147483647) : 0 ≤ v0 ∧ v0 ≤ 200 := by omega
theorem ob291 (v0 : Int) (v1 : Int) (v2 : Int) (v3 : Int) (v4 : Int) (h0 : 2147483648 - v2 ≤ v1 + 1) (h1 : v0 = (v2 + v3 + 2147483648) % 4294967296 - 2147483648) (h2 : v2 < v4) (h3 : -2147483648 ≤ v0 ∧ v0 ≤ 2147483647) (h4 : -2147483648 ≤ v2 ∧ v2 ≤ 2147483647) (h5 : v3 = 1) (h6 : -2147483648 ≤ v4 ∧ v4 ≤ 2147483647) : 2147483648 - v0 ≤ v1 := by omega
theorem ob292 (v0 : Int) (h0 : v0 % 64 = 0) (h1 : 0 ≤ v0) (h2 : 2147483648 - v0 ≤ 0) (h3 : -2147483648 ≤ v0 ∧ v0 ≤ 2147483647) : (0 * v0) ≤ -1 := by omega
theorem ob293 (v0 : Int) (v1 : Int) (v2 : Int) (v3 : Int) (v4 : Int) (v5 : Int) (v6 : Int) (v7 : Int) (v8 : Int) (v9 : Int) (v10 : Int) (h0 : 2147483648 - v2 ≤ v1 + 1) (h1 : v0 = (v2 + v3 + 2147483648) % 4294967296 - 2147483648) (h2 : v2 % 64 = 0) (h3 : 0 ≤ v2) (h4 : v2 < v4) (h5 : v5 = (v2 + v3 + 2147483648) % 4294967296 - 2147483648) (h6 : v4 = v6 - v6 % 64) (h7 : v6 = (v7 + v8 + 2147483648) % 4294967296 - 2147483648) (h8 : v7 = (v9 - v10 + 2147483648) % 4294967296 - 2147483648) (h9 : -2147483648 ≤ v0 ∧ v0 ≤ 2147483647) (h10 : -2147483648 ≤ v2 ∧ v2 ≤ 2147483647) (h11 : v3 = 64) (h12 : -2147483648 ≤ v4 ∧ v4 ≤ 2147483647) (h13 : -2147483648 ≤ v5 ∧ v5 ≤ 2147483647) (h14 : -2147483648 ≤ v6 ∧ v6 ≤ 2147483647) (h15 : -2147483648 ≤ v7 ∧ v7 ≤ 2147483647) (h16 : v8 = 72) (h17 : -2147483648 ≤ v9 ∧ v9 ≤ 2147483647) (h18 : -2147483648 ≤ v10 ∧ v10 ≤ 2147483647) : 2147483648 - v0 ≤ v1 := by omega
theorem ob294 (v0 : Int) (v1 : Int) (v2 : Int) (v3 : Int) (v4 : Int) (v5 : Int) (v6 : Int) (v7 : Int) (v8 : Int) (v9 : Int) (v10 : Int) (h0 : v0 = (v1 + v2 + 2147483648) % 4294967296 - 2147483648) (h1 : v1 % 64 = 0) (h2 : 0 ≤ v1) (h3 : 2147483648 - v1 ≤ v3 + 1) (h4 : v1 < v4) (h5 : v5 = (v1 + v2 + 2147483648) % 4294967296 - 2147483648) (h6 : v4 = v6 - v6 % 64) (h7 : v6 = (v7 + v8 + 2147483648) % 4294967296 - 2147483648) (h8 : v7 = (v9 - v10 + 2147483648) % 4294967296 - 2147483648) (h9 : -2147483648 ≤ v0 ∧ v0 ≤ 2147483647) (h10 : -2147483648 ≤ v1 ∧ v1 ≤ 2147483647) (h11 : v2 = 64) (h12 : -2147483648 ≤ v4 ∧ v4 ≤ 2147483647) (h13 : -2147483648 ≤ v5 ∧ v5 ≤ 2147483647) (h14 : -2147483648 ≤ v6 ∧ v6 ≤ 2147483647) (h15 : -2147483648 ≤ v7 ∧ v7 ≤ 2147483647) (h16 : v8 = 72) (h17 : -2147483648 ≤ v9 ∧ v9 ≤ 2147483647) (h18 : -2147483648 ≤ v10 ∧ v10 ≤ 2147483647) : v0 % 64 = 0 := by omega
theorem ob295 (v0 : Int) (v1 : Int) (v2 : Int) (v3 : Int) (v4 : Int) (v5 : Int) (v6 : Int) (v7 : Int) (v8 : Int) (v9 : Int) (v10 : Int) (h0 : v0 = (v1 + v2 + 2147483648) % 4294967296 - 2147483648) (h1 : v1 % 64 = 0) (h2 : 0 ≤ v1) (h3 : 2147483648 - v1 ≤ v3 + 1) (h4 : v1 < v4) (h5 : v5 = (v1 + v2 + 2147483648) % 4294967296 - 2147483648) (h6 : v4 = v6 - v6 % 64) (h7 : v6 = (v7 + v8 + 2147483648) % 4294967296 - 2147483648) (h8 : v7 = (v9 - v10 + 2147483648) % 4294967296 - 2147483648) (h9 : -2147483648 ≤ v0 ∧ v0 ≤ 2147483647) (h10 : -2147483648 ≤ v1 ∧ v1 ≤ 2147483647) (h11 : v2 = 64) (h12 : -2147483648 ≤ v4 ∧ v4 ≤ 2147483647) (h13 : -2147483648 ≤ v5 ∧ v5 ≤ 2147483647) (h14 : -2147483648 ≤ v6 ∧ v6 ≤ 2147483647) (h15 : -2147483648 ≤ v7 ∧ v7 ≤ 2147483647) (h16 : v8 = 72) (h17 : -2147483648 ≤ v9 ∧ v9 ≤ 2147483647) (h18 : -2147483648 ≤ v10 ∧ v10 ≤ 2147483647) : 0 ≤ v0 := by omega
theorem ob296 (v0 : Int) (v1 : Int) (v2 : Int) (h0 : 0 ≤ v0) (h1 : 2147483648 - v0 ≤ v1 + 1) (h2 : v0 < v2) (h3 : -2147483648 ≤ v0 ∧ v0 ≤ 2147483647) (h4 : v2 = 16) : 0 ≤ v0 ∧ v0 < (64 : Nat) := by omega
theorem ob297 (v0 : Int) (v1 : Int) (v2 : Int) (v3 : Int) (v4 : Int) (h0 : 2147483648 - v2 ≤ v1 + 1) (h1 : v0 = (v2 + v3 + 2147483648) % 4294967296 - 2147483648) (h2 : 0 ≤ v2) (h3 : v2 < v4) (h4 : -2147483648 ≤ v0 ∧ v0 ≤ 2147483647) (h5 : -2147483648 ≤ v2 ∧ v2 ≤ 2147483647) (h6 : v3 = 1) (h7 : v4 = 16) : 2147483648 - v0 ≤ v1 := by omega
theorem ob298 (v0 : Int) (v1 : Int) (v2 : Int) (v3 : Int) (v4 : Int) (h0 : v0 = (v1 + v2 + 2147483648) % 4294967296 - 2147483648) (h1 : 0 ≤ v1) (h2 : 2147483648 - v1 ≤ v3 + 1) (h3 : v1 < v4) (h4 : -2147483648 ≤ v0 ∧ v0 ≤ 2147483647) (h5 : -2147483648 ≤ v1 ∧ v1 ≤ 2147483647) (h6 : v2 = 1) (h7 : v4 = 16) : 0 ≤ v0 := by omega
theorem ob299 (v0 : Int) (v1 : Int) (v2 : Int) (v3 : Int) (v4 : Int) (v5 : Int) (v6 : Int) (v7 : Int) (v8 : Int) (v9 : Int) (v10 : Int) (v11 : Int) (v12 : Int) (v13 : Int) (v14 : Int) (h0 : 2147483648 - v2 ≤ v1 + 1) (h1 : v0 = (v2 + v3 + 2147483648) % 4294967296 - 2147483648) (h2 : 0 ≤ v2) (h3 : v2 < v4) (h4 : v5 = (v6 + v2 + 2147483648) % 4294967296 - 2147483648) (h5 : v6 = (v7 + v8 + 2147483648) % 4294967296 - 2147483648) (h6 : v7 % 64 = 0) (h7 : 0 ≤ v7) (h8 : 2147483648 - v7 ≤ v9 + 1) (h9 : v7 < v10) (h10 : v8 = (v11 * 4 + 2147483648) % 4294967296 - 2147483648) (h11 : v10 = v12 - v12 % 64) (h12 : 0 ≤ v11) (h13 : 2147483648 - v11 ≤ v13 + 1) (h14 : v11 < v14) (h15 : -2147483648 ≤ v0 ∧ v0 ≤ 2147483647) (h16 : -2147483648 ≤ v2 ∧ v2 ≤ 2147483647) (h17 : v3 = 1) (h18 : v4 = 4) (h19 : -2147483648 ≤ v5 ∧ v5 ≤ 2147483647) (h20 : -2147483648 ≤ v6 ∧ v6 ≤ 2147483647) (h21 : -2147483648 ≤ v7 ∧ v7 ≤ 2147483647) (h22 : -2147483648 ≤ v8 ∧ v8 ≤ 2147483647) (h23 : -2147483648 ≤ v10 ∧ v10 ≤ 2147483647) (h24 : -2147483648 ≤ v11 ∧ v11 ≤ 2147483647) (h25 : -2147483648 ≤ v12 ∧ v12 ≤ 2147483647) (h26 : v14 = 16) : 2147483648 - v0 ≤ v1 := by omega
theorem ob300 (v0 : Int) (v1 : Int) (v2 : Int) (v3 : Int) (v4 : Int) (v5 : Int) (v6 : Int) (v7 : Int) (v8 : Int) (v9 : Int) (v10 : Int) (v11 : Int) (v12 : Int) (v13 : Int) (v14 : Int) (h0 : v0 = (v1 + v2 + 2147483648) % 4294967296 - 2147483648) (h1 : 0 ≤ v1) (h2 : 2147483648 - v1 ≤ v3 + 1) (h3 : v1 < v4) (h4 : v5 = (v6 + v1 + 2147483648) % 4294967296 - 2147483648) (h5 : v6 = (v7 + v8 + 2147483648) % 4294967296 - 2147483648) (h6 : v7 % 64 = 0) (h7 : 0 ≤ v7) (h8 : 2147483648 - v7 ≤ v9 + 1) (h9 : v7 < v10) (h10 : v8 = (v11 * 4 + 2147483648) % 4294967296 - 2147483648) (h11 : v10 = v12 - v12 % 64) (h12 : 0 ≤ v11) (h13 : 2147483648 - v11 ≤ v13 + 1) (h14 : v11 < v14) (h15 : -2147483648 ≤ v0 ∧ v0 ≤ 2147483647) (h16 : -2147483648 ≤ v1 ∧ v1 ≤ 2147483647) (h17 : v2 = 1) (h18 : v4 = 4) (h19 : -2147483648 ≤ v5 ∧ v5 ≤ 2147483647) (h20 : -2147483648 ≤ v6 ∧ v6 ≤ 2147483647) (h21 : -2147483648 ≤ v7 ∧ v7 ≤ 2147483647) (h22 : -2147483648 ≤ v8 ∧ v8 ≤ 2147483647) (h23 : -2147483648 ≤ v10 ∧ v10 ≤ 2147483647) (h24 : -2147483648 ≤ v11 ∧ v11 ≤ 2147483647) (h25 : -2147483648 ≤ v12 ∧ v12 ≤ 2147483647) (h26 : v14 = 16) : 0 ≤ v0 := by omega
theorem ob301 (v0 : Int) (h0 : v0 = 0) : v0 % 64 = 0 := by omega
theorem ob302 (v0 : Int) (h0 : 0 ≤ v0 ∧ v0 ≤ 1500) (h1 : -2147483648 ≤ v0 ∧ v0 ≤ 2147483647) : -1000000000 ≤ v0 ∧ v0 ≤ 1000000000 := by omega
theorem ob303 (v0 : Int) (h0 : 0 ≤ v0 ∧ v0 ≤ 1500) (h1 : -2147483648 ≤ v0 ∧ v0 ≤ 2147483647) : v0 ≤ 1000000000 := by omega
theorem ob304 (v0 : Int) (v1 : Int) (v2 : Int) (h0 : v1 ≤ v0) (h1 : v2 = v1) (h2 : v0 = 0) (h3 : -2147483648 ≤ v1 ∧ v1 ≤ 2147483647) (h4 : -2147483648 ≤ v2 ∧ v2 ≤ 2147483647) : 0 ≤ v0 ∧ v0 ≤ 3 := by omega
theorem ob305 (v0 : Int) (v1 : Int) (v2 : Int) (h0 : v1 ≤ v0) (h1 : v2 = v1) (h2 : v0 = 0) (h3 : -2147483648 ≤ v1 ∧ v1 ≤ 2147483647) (h4 : -2147483648 ≤ v2 ∧ v2 ≤ 2147483647) : 0 ≤ v0 ∧ v0 ≤ 1 := by omega
theorem ob306 (v0 : Int) (h0 : v0 = 0) : 0 ≤ v0 ∧ v0 ≤ 32 := by omega
theorem ob307 (v0 : Int) (h0 : v0 = 32) : 0 ≤ v0 ∧ v0 ≤ 32 := by omega
theorem ob308 (v0 : Int) (h0 : v0 = 8) : 0 ≤ v0 ∧ v0 ≤ 32 := by omega
theorem ob309 (v0 : Int) (h0 : v0 = 4) : 0 ≤ v0 ∧ v0 ≤ 32 := by omega
theorem ob310 (v0 : Int) (v1 : Int) (v2 : Int) (h0 : v0 = (v1 - v2 + 2147483648) % 4294967296 - 2147483648) (h1 : 0 ≤ v2 ∧ v2 ≤ 1500) (h2 : 0 ≤ v1 ∧ v1 ≤ 1500) (h3 : -2147483648 ≤ v0 ∧ v0 ≤ 2147483647) (h4 : -2147483648 ≤ v1 ∧ v1 ≤ 2147483647) (h5 : -2147483648 ≤ v2 ∧ v2 ≤ 2147483647) : -3000 ≤ v0 ∧ v0 ≤ 3000 := by omega
theorem ob311 (v0 : Int) (v1 : Int) (v2 : Int) (v3 : Int) (v4 : Int) (h0 : 2147483648 - v2 ≤ v1 + 1) (h1 : v0 = (v2 + v3 + 2147483648) % 4294967296 - 2147483648) (h2 : 0 ≤ v2) (h3 : v2 < v4) (h4 : 0 ≤ v4 ∧ v4 ≤ 32) (h5 : -2147483648 ≤ v0 ∧ v0 ≤ 2147483647) (h6 : -2147483648 ≤ v2 ∧ v2 ≤ 2147483647) (h7 : v3 = 1) (h8 : -2147483648 ≤ v4 ∧ v4 ≤ 2147483647) : 2147483648 - v0 ≤ v1 := by omega
theorem ob312 (v0 : Int) (v1 : Int) (v2 : Int) (v3 : Int) (v4 : Int) (h0 : v0 = (v1 + v2 + 2147483648) % 4294967296 - 2147483648) (h1 : 0 ≤ v1) (h2 : 2147483648 - v1 ≤ v3 + 1) (h3 : v1 < v4) (h4 : 0 ≤ v4 ∧ v4 ≤ 32) (h5 : -2147483648 ≤ v0 ∧ v0 ≤ 2147483647) (h6 : -2147483648 ≤ v1 ∧ v1 ≤ 2147483647) (h7 : v2 = 1) (h8 : -2147483648 ≤ v4 ∧ v4 ≤ 2147483647) : 0 ≤ v0 := by omega
theorem ob313 (v0 : Int) (v1 : Int) (v2 : Int) (v3 : Int) (v4 : Int) (v5 : Int) (v6 : Int) (v7 : Int) (v8 : Int) (v9 : Int) (v10 : Int) (v11 : Int) (v12 : Int) (h0 : 2147483648 - v2 ≤ v1 + 1) (h1 : v0 = (v2 + v3 + 2147483648) % 4294967296 - 2147483648) (h2 : 0 ≤ v2) (h3 : v2 < v4) (h4 : v3 = 3 → -3000 ≤ v5 ∧ v5 ≤ 3000) (h5 : v6 = v4) (h6 : v7 = v4) (h7 : v8 = (v5 + v9 + 2147483648) % 4294967296 - 2147483648) (h8 : v10 = 3 → -3000 ≤ v9 ∧ v9 ≤ 3000) (h9 : v11 = (v8 + v12 + 2147483648) % 4294967296 - 2147483648) (h10 : -2147483648 ≤ v0 ∧ v0 ≤ 2147483647) (h11 : -2147483648 ≤ v2 ∧ v2 ≤ 2147483647) (h12 : v3 = 1) (h13 : -2147483648 ≤ v4 ∧ v4 ≤ 2147483647) (h14 : -2147483648 ≤ v5 ∧ v5 ≤ 2147483647) (h15 : -2147483648 ≤ v6 ∧ v6 ≤ 2147483647) (h16 : -2147483648 ≤ v7 ∧ v7 ≤ 2147483647) (h17 : -2147483648 ≤ v8 ∧ v8 ≤ 2147483647) (h18 : -2147483648 ≤ v9 ∧ v9 ≤ 2147483647) (h19 : v10 = 2) (h20 : -2147483648 ≤ v11 ∧ v11 ≤ 2147483647) (h21 : -2147483648 ≤ v12 ∧ v12 ≤ 2147483647) : 2147483648 - v0 ≤ v1 := by omega
theorem ob314 (v0 : Int) (v1 : Int) (v2 : Int) (v3 : Int) (v4 : Int) (v5 : Int) (v6 : Int) (v7 : Int) (v8 : Int) (v9 : Int) (v10 : Int) (v11 : Int) (v12 : Int) (h0 : v0 = (v1 + v2 + 2147483648) % 4294967296 - 2147483648) (h1 : 0 ≤ v1) (h2 : 2147483648 - v1 ≤ v3 + 1) (h3 : v1 < v4) (h4 : v2 = 3 → -3000 ≤ v5 ∧ v5 ≤ 3000) (h5 : v6 = v4) (h6 : v7 = v4) (h7 : v8 = (v5 + v9 + 2147483648) % 4294967296 - 2147483648) (h8 : v10 = 3 → -3000 ≤ v9 ∧ v9 ≤ 3000) (h9 : v11 = (v8 + v12 + 2147483648) % 4294967296 - 2147483648) (h10 : -2147483648 ≤ v0 ∧ v0 ≤ 2147483647) (h11 : -2147483648 ≤ v1 ∧ v1 ≤ 2147483647) (h12 : v2 = 1) (h13 : -2147483648 ≤ v4 ∧ v4 ≤ 2147483647) (h14 : -2147483648 ≤ v5 ∧ v5 ≤ 2147483647) (h15 : -2147483648 ≤ v6 ∧ v6 ≤ 2147483647) (h16 : -2147483648 ≤ v7 ∧ v7 ≤ 2147483647) (h17 : -2147483648 ≤ v8 ∧ v8 ≤ 2147483647) (h18 : -2147483648 ≤ v9 ∧ v9 ≤ 2147483647) (h19 : v10 = 2) (h20 : -2147483648 ≤ v11 ∧ v11 ≤ 2147483647) (h21 : -2147483648 ≤ v12 ∧ v12 ≤ 2147483647) : 0 ≤ v0 := by omega
theorem ob315 (v0 : Int) (v1 : Int) (v2 : Int) (v3 : Int) (v4 : Int) (v5 : Int) (v6 : Int) (v7 : Int) (v8 : Int) (v9 : Int) (v10 : Int) (v11 : Int) (v12 : Int) (v13 : Int) (v14 : Int) (v15 : Int) (v16 : Int) (h0 : 2147483648 - v2 ≤ v1 + 1) (h1 : v0 = (v2 + v3 + 2147483648) % 4294967296 - 2147483648) (h2 : v4 = (v5 - v3 + 2147483648) % 4294967296 - 2147483648) (h3 : 0 ≤ v2) (h4 : v2 < v6) (h5 : v7 = (v8 + v2 + 2147483648) % 4294967296 - 2147483648) (h6 : v9 = (v2 * 8 + 2147483648) % 4294967296 - 2147483648) (h7 : v10 = (v8 - v11 + 2147483648) % 4294967296 - 2147483648) (h8 : (0 ≤ v10 → v5 = v10 / 4) ∧ (v10 ≤ 0 → v5 = -(-v10 / 4))) (h9 : v12 = v4) (h10 : v13 = (v8 + v6 + 2147483648) % 4294967296 - 2147483648) (h11 : v14 = (v8 + v15 + 2147483648) % 4294967296 - 2147483648) (h12 : v16 = v11) (h13 : -2147483648 ≤ v0 ∧ v0 ≤ 2147483647) (h14 : -2147483648 ≤ v2 ∧ v2 ≤ 2147483647) (h15 : v3 = 1) (h16 : -2147483648 ≤ v4 ∧ v4 ≤ 2147483647) (h17 : -2147483648 ≤ v5 ∧ v5 ≤ 2147483647) (h18 : v6 = 4) (h19 : -2147483648 ≤ v7 ∧ v7 ≤ 2147483647) (h20 : -2147483648 ≤ v8 ∧ v8 ≤ 2147483647) (h21 : -2147483648 ≤ v9 ∧ v9 ≤ 2147483647) (h22 : -2147483648 ≤ v10 ∧ v10 ≤ 2147483647) (h23 : -2147483648 ≤ v11 ∧ v11 ≤ 2147483647) (h24 : -9223372036854775808 ≤ v12 ∧ v12 ≤ 9223372036854775807) (h25 : -2147483648 ≤ v13 ∧ v13 ≤ 2147483647) (h26 : -2147483648 ≤ v14 ∧ v14 ≤ 2147483647) (h27 : v15 = 10) (h28 : -2147483648 ≤ v16 ∧ v16 ≤ 2147483647) : 2147483648 - v0 ≤ v1 := by omega
theorem ob316 (v0 : Int) (v1 : Int) (v2 : Int) (v3 : Int) (v4 : Int) (v5 : Int) (v6 : Int) (v7 : Int) (v8 : Int) (v9 : Int) (v10 : Int) (v11 : Int) (v12 : Int) (v13 : Int) (v14 : Int) (v15 : Int) (v16 : Int) (h0 : v0 = (v1 + v2 + 2147483648) % 4294967296 - 2147483648) (h1 : v3 = (v4 - v2 + 2147483648) % 4294967296 - 2147483648) (h2 : 0 ≤ v1) (h3 : 2147483648 - v1 ≤ v5 + 1) (h4 : v1 < v6) (h5 : v7 = (v8 + v1 + 2147483648) % 4294967296 - 2147483648) (h6 : v9 = (v1 * 8 + 2147483648) % 4294967296 - 2147483648) (h7 : v10 = (v8 - v11 + 2147483648) % 4294967296 - 2147483648) (h8 : (0 ≤ v10 → v4 = v10 / 4) ∧ (v10 ≤ 0 → v4 = -(-v10 / 4))) (h9 : v12 = v3) (h10 : v13 = (v8 + v6 + 2147483648) % 4294967296 - 2147483648) (h11 : v14 = (v8 + v15 + 2147483648) % 4294967296 - 2147483648) (h12 : v16 = v11) (h13 : -2147483648 ≤ v0 ∧ v0 ≤ 2147483647) (h14 : -2147483648 ≤ v1 ∧ v1 ≤ 2147483647) (h15 : v2 = 1) (h16 : -2147483648 ≤ v3 ∧ v3 ≤ 2147483647) (h17 : -2147483648 ≤ v4 ∧ v4 ≤ 2147483647) (h18 : v6 = 4) (h19 : -2147483648 ≤ v7 ∧ v7 ≤ 2147483647) (h20 : -2147483648 ≤ v8 ∧ v8 ≤ 2147483647) (h21 : -2147483648 ≤ v9 ∧ v9 ≤ 2147483647) (h22 : -2147483648 ≤ v10 ∧ v10 ≤ 2147483647) (h23 : -2147483648 ≤ v11 ∧ v11 ≤ 2147483647) (h24 : -9223372036854775808 ≤ v12 ∧ v12 ≤ 9223372036854775807) (h25 : -2147483648 ≤ v13 ∧ v13 ≤ 2147483647) (h26 : -2147483648 ≤ v14 ∧ v14 ≤ 2147483647) (h27 : v15 = 10) (h28 : -2147483648 ≤ v16 ∧ v16 ≤ 2147483647) : 0 ≤ v0 := by omega
set_option maxHeartbeats 4000000 in
set_option maxRecDepth 100000 in
/-- X7_begin on (18,) -/
theorem jx_X7_begin (l : Launch) (hlt : l.stackTraces = false) (D : va_G) (t3 : Nat × Nat × Nat) (cI cJ : ClassId) (ad : Nat → Nat) (g : Nat → Int32) (lg : Nat → Int64) (ar : Nat → Nat → Int32) (bk : Nat → Int64) (sz : Nat) (y1 : Int32) (hi_g3 : 0 ≤ (g 3).toInt ∧ (g 3).toInt ≤ 4) (hi_g4 : 0 ≤ (g 4).toInt ∧ (g 4).toInt ≤ 4) (hi_g26 : 0 ≤ (g 26).toInt ∧ (g 26).toInt ≤ 200) (hi_g21 : 0 ≤ (g 21).toInt ∧ (g 21).toInt ≤ 4) (hi_g22 : 0 ≤ (g 22).toInt ∧ (g 22).toInt ≤ 4) : JMv l yX7_begin (Cond.code yX7_begin cX7_begin 2 none :: wwX) { frames := 3, cells := 1, slots := 6, locals := 67 } t3 D xw cI cJ ad [.ref (ad 18), .int y1] (xw cI cJ ad g lg ar bk) sz 1 6 (fun g' lg' ar' bk' => hk_fr [14, 21, 22, 23, 24, 25, 26, 27] g g' ∧ hk_fr [] lg lg' ∧ hk_fr [2] ar ar' ∧ (0 ≤ (g' 26).toInt ∧ (g' 26).toInt ≤ 200) ∧ (0 ≤ (g' 21).toInt ∧ (g' 21).toInt ≤ 4) ∧ (0 ≤ (g' 22).toInt ∧ (g' 22).toInt ≤ 4)) (fun g' lg' ar' bk' => False) := by
  refine jx_metv (cc := cX7_begin) (maxL := 2) (ret := none) rfl (by decide) rfl (Nat.le_of_ble_eq_true rfl) ?_
  intro p e s m args below meth c ls Q A hx hb hml hown hts hA hZ hw hl hQ kr kt
  have hq : ∀ w ∈ wwX, w.before args s = true := fun w h => hts w (List.mem_cons_of_mem _ h)
  have hl : lv_has ls 2 [(0, .ref (ad 18)), (1, .int y1)] := hl
  refine lv_aload_n hx hb dX7_begin_0 rfl (lv_at hl 0 rfl) ?_
  refine lv_iload_n hx hb dX7_begin_1 rfl (lv_at hl 1 rfl) ?_
  refine jx_putg xw (g := g) (lg := lg) (ar := ar) (bk := bk) (x := y1) 27 (ci := 10) (C := RX7) (T := TX7) (N := 17) (ty := .int) hx hb hts (fun _ h => List.mem_cons_of_mem _ (wwXc_wsX70 _ h)) tyX7 tyX7_ok nmX7 hown hw 18 rfl rfl 7 (by decide) (hq _ wX_568) rfl (by decide +kernel) rfl rfl (Nat.le_of_ble_eq_true rfl) dX7_begin_2 rfl (fun H locs g1 h_g1 hw => ?_)
  refine lv_aload_n hx hb dX7_begin_5 rfl (lv_at hl 0 rfl) ?_
  refine hk_get (ci := 10) (C := RX7) (T := TX7) (N := 17) (v := .ref (ad 4)) hx hb hts (fun _ h => List.mem_cons_of_mem _ (wwXc_wsX70 _ h)) hown hw 18 rfl rfl 2 (by decide) (hq _ wX_569) rfl dX7_begin_6 ?_
  refine lv_iconst (v := 0) hx hb dX7_begin_9 (by decide) ?_
  refine jx_putg xw (g := g1) (lg := lg) (ar := ar) (bk := bk) (x := 0) 14 (ci := 12) (C := RX9) (T := TX9) (N := 2) (ty := .int) hx hb hts (fun _ h => List.mem_cons_of_mem _ (wwXc_wsX90 _ h)) tyX9 tyX9_ok nmX9 hown hw 4 rfl rfl 1 (by decide) (hq _ wX_570) rfl (by decide +kernel) rfl rfl (Nat.le_of_ble_eq_true rfl) dX7_begin_10 rfl (fun H locs g2 h_g2 hw => ?_)
  refine lv_aload_n hx hb dX7_begin_13 rfl (lv_at hl 0 rfl) ?_
  refine hk_get (ci := 10) (C := RX7) (T := TX7) (N := 17) (v := .ref (ad 15)) hx hb hts (fun _ h => List.mem_cons_of_mem _ (wwXc_wsX70 _ h)) hown hw 18 rfl rfl 5 (by decide) (hq _ wX_571) rfl dX7_begin_14 ?_
  have e_g2_26 : g2 26 = (g 26) := ((hk_upgN h_g2 26 rfl)).trans (hk_upgN h_g1 26 rfl)
  refine jx_Vv (As := []) (rest := []) ⟨hx, hb, hml, hown, hts⟩ hZ hw hA (jx_X4_clear l hlt D t3 cI cJ ad g2 lg ar bk _ (ob254 ((g2 26).toInt) ((g 26).toInt) (congrArg Int32.toInt e_g2_26) hi_g26 (hE_rng (g2 26)) (hE_rng (g 26)))) (cwV 0 hts (jx_gV wwX_good wX_572 wX_108 wX_109 wX_69 wX_110) rfl rfl rfl (by decide +kernel) ⟨Nat.le_of_ble_eq_true rfl, Nat.le_of_ble_eq_true rfl⟩) 15 (ci := 7) (T := TX4) (N := 4) rfl rfl rfl hl.1 rfl (Nat.le_of_ble_eq_true rfl) dX7_begin_17 ⟨Nat.le_of_ble_eq_true rfl, Nat.le_of_ble_eq_true rfl⟩ (fun _ _ _ _ _ _ _ _ hp _ _ _ _ => hp.elim) (fun g8 l9 a10 b11 H locs hp12 hw => ?_)
  obtain ⟨h13, h14, h15, h16⟩ := hp12
  refine lv_aload_n hx hb dX7_begin_20 rfl (lv_at hl 0 rfl) ?_
  refine hk_get (ci := 10) (C := RX7) (T := TX7) (N := 17) (v := .ref (ad 9)) hx hb hts (fun _ h => List.mem_cons_of_mem _ (wwXc_wsX70 _ h)) hown hw 18 rfl rfl 3 (by decide) (hq _ wX_573) rfl dX7_begin_21 ?_
  refine lv_aload_n hx hb dX7_begin_24 rfl (lv_at hl 0 rfl) ?_
  refine hk_get (ci := 10) (C := RX7) (T := TX7) (N := 17) (v := .ref (ad 1)) hx hb hts (fun _ h => List.mem_cons_of_mem _ (wwXc_wsX70 _ h)) hown hw 18 rfl rfl 0 (by decide) (hq _ wX_574) rfl dX7_begin_25 ?_
  have e_g8_3 : g8 3 = (g 3) := ((h13 3 rfl)).trans (((hk_upgN h_g2 3 rfl)).trans (hk_upgN h_g1 3 rfl))
  refine hk_get (ci := 13) (C := RX10) (T := TX10) (N := 10) (v := .int (g 3)) hx hb hts (fun _ h => List.mem_cons_of_mem _ (wwXc_wsX100 _ h)) hown hw 1 rfl rfl 0 (by decide) (hq _ wX_575) (congrArg (fun z => some (Value.int z)) e_g8_3) dX7_begin_28 ?_
  refine lv_aload_n hx hb dX7_begin_31 rfl (lv_at hl 0 rfl) ?_
  refine hk_get (ci := 10) (C := RX7) (T := TX7) (N := 17) (v := .ref (ad 1)) hx hb hts (fun _ h => List.mem_cons_of_mem _ (wwXc_wsX70 _ h)) hown hw 18 rfl rfl 0 (by decide) (hq _ wX_574) rfl dX7_begin_32 ?_
  have e_g8_4 : g8 4 = (g 4) := ((h13 4 rfl)).trans (((hk_upgN h_g2 4 rfl)).trans (hk_upgN h_g1 4 rfl))
  refine hk_get (ci := 13) (C := RX10) (T := TX10) (N := 10) (v := .int (g 4)) hx hb hts (fun _ h => List.mem_cons_of_mem _ (wwXc_wsX100 _ h)) hown hw 1 rfl rfl 1 (by decide) (hq _ wX_576) (congrArg (fun z => some (Value.int z)) e_g8_4) dX7_begin_35 ?_
  refine lv_aload_n hx hb dX7_begin_38 rfl (lv_at hl 0 rfl) ?_
  refine hk_get (ci := 10) (C := RX7) (T := TX7) (N := 17) (v := .ref (ad 1)) hx hb hts (fun _ h => List.mem_cons_of_mem _ (wwXc_wsX70 _ h)) hown hw 18 rfl rfl 0 (by decide) (hq _ wX_574) rfl dX7_begin_39 ?_
  have e_g8_5 : g8 5 = (g 5) := ((h13 5 rfl)).trans (((hk_upgN h_g2 5 rfl)).trans (hk_upgN h_g1 5 rfl))
  refine hk_get (ci := 13) (C := RX10) (T := TX10) (N := 10) (v := .int (g 5)) hx hb hts (fun _ h => List.mem_cons_of_mem _ (wwXc_wsX100 _ h)) hown hw 1 rfl rfl 2 (by decide) (hq _ wX_577) (congrArg (fun z => some (Value.int z)) e_g8_5) dX7_begin_42 ?_
  have e_g8_21 : g8 21 = (g 21) := ((h13 21 rfl)).trans (((hk_upgN h_g2 21 rfl)).trans (hk_upgN h_g1 21 rfl))
  have e_g8_22 : g8 22 = (g 22) := ((h13 22 rfl)).trans (((hk_upgN h_g2 22 rfl)).trans (hk_upgN h_g1 22 rfl))
  refine jx_Vv (As := [.int (g 3), .int (g 4), .int (g 5)]) (rest := []) ⟨hx, hb, hml, hown, hts⟩ hZ hw hA (jx_X5_use l hlt D t3 cI cJ ad g8 l9 a10 b11 _ (g 3) (g 4) (g 5) (ob255 ((g 3).toInt) ((g8 3).toInt) hi_g3 (congrArg Int32.toInt e_g8_3) (hE_rng (g 3)) (hE_rng (g8 3))) (ob255 ((g 4).toInt) ((g8 4).toInt) hi_g4 (congrArg Int32.toInt e_g8_4) (hE_rng (g 4)) (hE_rng (g8 4))) (ob61 ((g8 21).toInt) ((g 21).toInt) (congrArg Int32.toInt e_g8_21) hi_g21 (hE_rng (g8 21)) (hE_rng (g 21))) (ob61 ((g8 22).toInt) ((g 22).toInt) (congrArg Int32.toInt e_g8_22) hi_g22 (hE_rng (g8 22)) (hE_rng (g 22)))) (cwV 3 hts (jx_gV wwX_good wX_578 wX_415 wX_416 wX_215 wX_417) rfl rfl rfl (by decide +kernel) ⟨Nat.le_of_ble_eq_true rfl, Nat.le_of_ble_eq_true rfl⟩) 9 (ci := 8) (T := TX5) (N := 6) rfl rfl rfl hl.1 rfl (Nat.le_of_ble_eq_true rfl) dX7_begin_45 ⟨Nat.le_of_ble_eq_true rfl, Nat.le_of_ble_eq_true rfl⟩ (fun _ _ _ _ _ _ _ _ hp _ _ _ _ => hp.elim) (fun g22 l23 a24 b25 H locs hp26 hw => ?_)
  obtain ⟨h27, h28, h29, h30, h31⟩ := hp26
  refine lv_aload_n hx hb dX7_begin_48 rfl (lv_at hl 0 rfl) ?_
  refine hk_get (ci := 10) (C := RX7) (T := TX7) (N := 17) (v := .ref (ad 9)) hx hb hts (fun _ h => List.mem_cons_of_mem _ (wwXc_wsX70 _ h)) hown hw 18 rfl rfl 3 (by decide) (hq _ wX_573) rfl dX7_begin_49 ?_
  refine jx_Vv (As := []) (rest := []) ⟨hx, hb, hml, hown, hts⟩ hZ hw hA (jx_X5_reset l hlt D t3 cI cJ ad g22 l23 a24 b25 _ (ob256 ((g22 21).toInt) h30 (hE_rng (g22 21))) (ob256 ((g22 22).toInt) h31 (hE_rng (g22 22)))) (cwV 0 hts (jx_gV wwX_good wX_579 wX_419 wX_420 wX_215 wX_421) rfl rfl rfl (by decide +kernel) ⟨Nat.le_of_ble_eq_true rfl, Nat.le_of_ble_eq_true rfl⟩) 9 (ci := 8) (T := TX5) (N := 6) rfl rfl rfl hl.1 rfl (Nat.le_of_ble_eq_true rfl) dX7_begin_52 ⟨Nat.le_of_ble_eq_true rfl, Nat.le_of_ble_eq_true rfl⟩ (fun _ _ _ _ _ _ _ _ hp _ _ _ _ => hp.elim) (fun g37 l38 a39 b40 H locs hp41 hw => ?_)
  obtain ⟨h42, h43, h44⟩ := hp41
  have e_g37_26 : g37 26 = (g8 26) := ((h42 26 rfl)).trans (h27 26 rfl)
  have e_g37_21 : g37 21 = (g22 21) := (h42 21 rfl)
  have e_g37_22 : g37 22 = (g22 22) := (h42 22 rfl)
  exact kr g37 l38 a39 b40 _ _ _ _ ⟨(hk_frT (hk_frT (hk_frT (hk_frG (hk_frG hk_fr0 (by decide) h_g1) (by decide) h_g2) (by decide) h13) (by decide) h27) (by decide) h42), (hk_frT (hk_frT h14 (by decide) h28) (by decide) h43), (hk_frT (hk_frT (hk_frT hk_fr0 (by decide) h15) (by decide) h29) (by decide) h44), (ob254 ((g37 26).toInt) ((g8 26).toInt) (congrArg Int32.toInt e_g37_26) h16 (hE_rng (g37 26)) (hE_rng (g8 26))), (ob61 ((g37 21).toInt) ((g22 21).toInt) (congrArg Int32.toInt e_g37_21) h30 (hE_rng (g37 21)) (hE_rng (g22 21))), (ob61 ((g37 22).toInt) ((g22 22).toInt) (congrArg Int32.toInt e_g37_22) h31 (hE_rng (g37 22)) (hE_rng (g22 22)))⟩ hw dX7_begin_55

set_option maxHeartbeats 4000000 in
set_option maxRecDepth 100000 in
/-- X7_writeChoice on (18,) -/
theorem jx_X7_writeChoice (l : Launch) (hlt : l.stackTraces = false) (D : va_G) (t3 : Nat × Nat × Nat) (cI cJ : ClassId) (ad : Nat → Nat) (g : Nat → Int32) (lg : Nat → Int64) (ar : Nat → Nat → Int32) (bk : Nat → Int64) (sz : Nat) (y1 : Int32) (y2 : Int32) (hr0 : (g 18).toInt = 0) (hi_a0rg : hk_rg 0 255 (ar 0)) : JMv l yX7_writeChoice (Cond.code yX7_writeChoice cX7_writeChoice 8 none :: wwX) { frames := 10, cells := 1, slots := 6, locals := 187 } t3 D xw cI cJ ad [.ref (ad 18), .int y1, .int y2] (xw cI cJ ad g lg ar bk) sz 1 6 (fun g' lg' ar' bk' => hk_fr [14, 15, 17, 19, 20, 24, 25] g g' ∧ hk_fr [0, 1, 2] lg lg' ∧ hk_fr [1, 2, 6] ar ar') (fun g' lg' ar' bk' => False) := by
  refine jx_metv (cc := cX7_writeChoice) (maxL := 8) (ret := none) rfl (by decide) rfl (Nat.le_of_ble_eq_true rfl) ?_
  intro p e s m args below meth c ls Q A hx hb hml hown hts hA hZ hw hl hQ kr kt
  have hq : ∀ w ∈ wwX, w.before args s = true := fun w h => hts w (List.mem_cons_of_mem _ h)
  have hl : lv_has ls 8 [(0, .ref (ad 18)), (1, .int y1), (2, .int y2)] := hl
  refine lv_iload_n hx hb dX7_writeChoice_0 rfl (lv_at hl 2 rfl) ?_
  refine lv_iload_n hx hb dX7_writeChoice_1 rfl (lv_at hl 1 rfl) ?_
  refine lv_isub hx hb dX7_writeChoice_2 (jx_nm fun z1 hz1 => ?_)
  refine lv_istore_n (lv' := [(3, .int z1), (0, .ref (ad 18)), (1, .int y1), (2, .int y2)]) hx hb dX7_writeChoice_3 rfl hl (by decide) rfl (fun ls hl => ?_)
  refine lv_aload_n hx hb dX7_writeChoice_4 rfl (lv_at hl 1 rfl) ?_
  refine hk_get (ci := 10) (C := RX7) (T := TX7) (N := 17) (v := .ref (ad 19)) hx hb hts (fun _ h => List.mem_cons_of_mem _ (wwXc_wsX70 _ h)) hown hw 18 rfl rfl 6 (by decide) (hq _ wX_610) rfl dX7_writeChoice_5 ?_
  refine hk_get (ci := 4) (C := RX1) (T := TX1) (N := 13) (v := .int (g 40)) hx hb hts (fun _ h => List.mem_cons_of_mem _ (wwXc_wsX10 _ h)) hown hw 19 rfl rfl 10 (by decide) (hq _ wX_638) rfl dX7_writeChoice_8 ?_
  refine lv_istore (lv' := [(4, .int (g 40)), (3, .int z1), (0, .ref (ad 18)), (1, .int y1), (2, .int y2)]) hx hb dX7_writeChoice_11 hl (by decide) rfl (fun ls hl => ?_)
  refine lv_aload_n hx hb dX7_writeChoice_13 rfl (lv_at hl 2 rfl) ?_
  refine hk_get (ci := 10) (C := RX7) (T := TX7) (N := 17) (v := .ref (ad 19)) hx hb hts (fun _ h => List.mem_cons_of_mem _ (wwXc_wsX70 _ h)) hown hw 18 rfl rfl 6 (by decide) (hq _ wX_610) rfl dX7_writeChoice_14 ?_
  refine hk_get (ci := 4) (C := RX1) (T := TX1) (N := 13) (v := .int (g 41)) hx hb hts (fun _ h => List.mem_cons_of_mem _ (wwXc_wsX10 _ h)) hown hw 19 rfl rfl 11 (by decide) (hq _ wX_628) rfl dX7_writeChoice_17 ?_
  refine lv_istore (lv' := [(5, .int (g 41)), (4, .int (g 40)), (3, .int z1), (0, .ref (ad 18)), (1, .int y1), (2, .int y2)]) hx hb dX7_writeChoice_20 hl (by decide) rfl (fun ls hl => ?_)
  refine lv_aload_n hx hb dX7_writeChoice_22 rfl (lv_at hl 3 rfl) ?_
  refine hk_get (ci := 10) (C := RX7) (T := TX7) (N := 17) (v := .ref (ad 19)) hx hb hts (fun _ h => List.mem_cons_of_mem _ (wwXc_wsX70 _ h)) hown hw 18 rfl rfl 6 (by decide) (hq _ wX_610) rfl dX7_writeChoice_23 ?_
  refine hk_get (ci := 4) (C := RX1) (T := TX1) (N := 13) (v := .int (g 42)) hx hb hts (fun _ h => List.mem_cons_of_mem _ (wwXc_wsX10 _ h)) hown hw 19 rfl rfl 12 (by decide) (hq _ wX_639) rfl dX7_writeChoice_26 ?_
  refine lv_istore (lv' := [(6, .int (g 42)), (5, .int (g 41)), (4, .int (g 40)), (3, .int z1), (0, .ref (ad 18)), (1, .int y1), (2, .int y2)]) hx hb dX7_writeChoice_29 hl (by decide) rfl (fun ls hl => ?_)
  refine lv_aload_n hx hb dX7_writeChoice_31 rfl (lv_at hl 4 rfl) ?_
  refine hk_get (ci := 10) (C := RX7) (T := TX7) (N := 17) (v := .ref (ad 9)) hx hb hts (fun _ h => List.mem_cons_of_mem _ (wwXc_wsX70 _ h)) hown hw 18 rfl rfl 3 (by decide) (hq _ wX_573) rfl dX7_writeChoice_32 ?_
  refine lv_iload hx hb dX7_writeChoice_35 (lv_at hl 2 rfl) ?_
  refine lv_iload_n hx hb dX7_writeChoice_37 rfl (lv_at hl 3 rfl) ?_
  refine jx_Vi (As := [.int (g 40), .int z1]) (rest := []) ⟨hx, hb, hml, hown, hts⟩ hZ hw hA (jx_X5_codeKind l hlt D t3 cI cJ ad g lg ar bk _ (g 40) z1 hi_a0rg) (cwV 2 hts (jx_gV wwX_good wX_640 wX_467 wX_468 wX_215 wX_469) rfl rfl rfl (by decide +kernel) ⟨Nat.le_of_ble_eq_true rfl, Nat.le_of_ble_eq_true rfl⟩) 9 (ci := 8) (T := TX5) (N := 6) rfl rfl rfl hl.1 rfl (Nat.le_of_ble_eq_true rfl) dX7_writeChoice_38 ⟨Nat.le_of_ble_eq_true rfl, Nat.le_of_ble_eq_true rfl⟩ (fun u2 u3 u4 u5 H locs ce q hp hw h1 h2 h3 => by obtain ⟨ht0, ht1, ht2, ht3⟩ := hp; exact False.elim (hk_no0 (0 * (g 18).toInt) (ob257 ((g 18).toInt) hr0 ht3 (hE_rng (g 18))) (by simp))) (fun r6 g7 l8 a9 b10 H locs hp11 hw => ?_)
  obtain ⟨h12, h13, h14⟩ := hp11
  refine lv_pop hx hb dX7_writeChoice_41 rfl ?_
  refine lv_iload hx hb dX7_writeChoice_42 (lv_at hl 2 rfl) ?_
  have B15 : ∀  (g16 : Nat → Int32) (l17 : Nat → Int64) (a18 : Nat → Nat → Int32) (ls : Array Slot) (H : Heap) (locs : List Loc), hk_fr [14, 15, 17, 19, 20] g7 g16 → hk_fr [0, 1, 2] l8 l17 → hk_fr [1, 2] a9 a18 → hk_W D (jT cI cJ) A s H locs (xw cI cJ ad g16 l17 a18 b10) → lv_has ls 8 [(0, .ref (ad 18)), (2, .int y2), (4, .int (g 40)), (5, .int (g 41)), (6, .int (g 42))] → W p l e { frames := 10, cells := 1, slots := 6, locals := 187 } s m args below meth c H locs 0 0 Q (F0 m 164 ls []) := by
    intro g16 l17 a18 ls H locs hfr_g16 hfr_l17 hfr_a18 hw hl
    refine lv_aload_n hx hb dX7_writeChoice_164 rfl (lv_at hl 0 rfl) ?_
    refine hk_get (ci := 10) (C := RX7) (T := TX7) (N := 17) (v := .ref (ad 9)) hx hb hts (fun _ h => List.mem_cons_of_mem _ (wwXc_wsX70 _ h)) hown hw 18 rfl rfl 3 (by decide) (hq _ wX_573) rfl dX7_writeChoice_165 ?_
    refine lv_iload hx hb dX7_writeChoice_168 (lv_at hl 2 rfl) ?_
    refine lv_iload hx hb dX7_writeChoice_170 (lv_at hl 4 rfl) ?_
    refine lv_i2l hx hb dX7_writeChoice_172 rfl (jx_nl fun z19 hz19 => ?_)
    refine jx_Vv (As := [.int (g 40), .long z19]) (rest := []) ⟨hx, hb, hml, hown, hts⟩ hZ hw hA (jx_X5_follow l hlt D t3 cI cJ ad g16 l17 a18 b10 _ (g 40) z19) (cwV 2 hts (jx_gV wwX_good wX_646 wX_484 wX_485 wX_215 wX_486) rfl rfl rfl (by decide +kernel) ⟨Nat.le_of_ble_eq_true rfl, Nat.le_of_ble_eq_true rfl⟩) 9 (ci := 8) (T := TX5) (N := 6) rfl rfl rfl hl.1 rfl (Nat.le_of_ble_eq_true rfl) dX7_writeChoice_173 ⟨Nat.le_of_ble_eq_true rfl, Nat.le_of_ble_eq_true rfl⟩ (fun _ _ _ _ _ _ _ _ hp _ _ _ _ => hp.elim) (fun g25 l26 a27 b28 H locs hp29 hw => ?_)
    obtain ⟨h30, h31, h32⟩ := hp29
    have hr33 : hk_rg 0 255 (a27 0) := (hk_pE (P := hk_rg 0 255) (hk_pE (P := hk_rg 0 255) (hk_pE (P := hk_rg 0 255) hi_a0rg (h14 0 rfl)) (hfr_a18 0 rfl)) (h32 0 rfl))
    refine lv_aload_n hx hb dX7_writeChoice_176 rfl (lv_at hl 0 rfl) ?_
    refine hk_get (ci := 10) (C := RX7) (T := TX7) (N := 17) (v := .ref (ad 15)) hx hb hts (fun _ h => List.mem_cons_of_mem _ (wwXc_wsX70 _ h)) hown hw 18 rfl rfl 5 (by decide) (hq _ wX_571) rfl dX7_writeChoice_177 ?_
    refine lv_iload hx hb dX7_writeChoice_180 (lv_at hl 2 rfl) ?_
    refine lv_iload_n hx hb dX7_writeChoice_182 rfl (lv_at hl 1 rfl) ?_
    refine lv_iload hx hb dX7_writeChoice_183 (lv_at hl 3 rfl) ?_
    refine lv_iload hx hb dX7_writeChoice_185 (lv_at hl 4 rfl) ?_
    refine jx_Vv (As := [.int (g 40), .int y2, .int (g 41), .int (g 42)]) (rest := []) ⟨hx, hb, hml, hown, hts⟩ hZ hw hA (jx_X4_addStep l hlt D t3 cI cJ ad g25 l26 a27 b28 _ (g 40) y2 (g 41) (g 42)) (cwV 4 hts (jx_gV wwX_good wX_647 wX_497 wX_498 wX_69 wX_499) rfl rfl rfl (by decide +kernel) ⟨Nat.le_of_ble_eq_true rfl, Nat.le_of_ble_eq_true rfl⟩) 15 (ci := 7) (T := TX4) (N := 4) rfl rfl rfl hl.1 rfl (Nat.le_of_ble_eq_true rfl) dX7_writeChoice_187 ⟨Nat.le_of_ble_eq_true rfl, Nat.le_of_ble_eq_true rfl⟩ (fun _ _ _ _ _ _ _ _ hp _ _ _ _ => hp.elim) (fun g39 l40 a41 b42 H locs hp43 hw => ?_)
    obtain ⟨h44, h45, h46⟩ := hp43
    exact kr g39 l40 a41 b42 _ _ _ _ ⟨(hk_frT (hk_frT (hk_frT (hk_frT hk_fr0 (by decide) h12) (by decide) hfr_g16) (by decide) h30) (by decide) h44), (hk_frT (hk_frT (hk_frT h13 (by decide) hfr_l17) (by decide) h31) (by decide) h45), (hk_frT (hk_frT (hk_frT (hk_frT hk_fr0 (by decide) h14) (by decide) hfr_a18) (by decide) h32) (by decide) h46)⟩ hw dX7_writeChoice_190
  refine lv_if_ne (tgt := 107) hx hb dX7_writeChoice_44 (by decide) (fun cc47 => ?_) (fun cc47 => ?_)
  · refine lv_iload hx hb dX7_writeChoice_107 (lv_at hl 2 rfl) ?_
    refine lv_iconst (v := 1) hx hb dX7_writeChoice_109 (by decide) ?_
    refine lv_icmp_ne (tgt := 143) hx hb dX7_writeChoice_110 (by decide) (fun cc48 => ?_) (fun cc48 => ?_)
    · refine lv_iload hx hb dX7_writeChoice_143 (lv_at hl 2 rfl) ?_
      refine lv_bipush (v := 6) hx hb dX7_writeChoice_145 (by decide) ?_
      refine lv_icmp_eq (tgt := 164) hx hb dX7_writeChoice_147 (by decide) (fun cc49 => ?_) (fun cc49 => ?_)
      · exact B15 g7 l8 a9 ls _ _ hk_fr0 hk_fr0 hk_fr0 hw (lv_sub hl [4, 6, 2, 1, 0] rfl)
      · refine lv_aload_n hx hb dX7_writeChoice_150 rfl (lv_at hl 4 rfl) ?_
        refine hk_get (ci := 10) (C := RX7) (T := TX7) (N := 17) (v := .ref (ad 9)) hx hb hts (fun _ h => List.mem_cons_of_mem _ (wwXc_wsX70 _ h)) hown hw 18 rfl rfl 3 (by decide) (hq _ wX_573) rfl dX7_writeChoice_151 ?_
        refine lv_sipush (v := 1538) hx hb dX7_writeChoice_154 (by decide) ?_
        refine lv_iload hx hb dX7_writeChoice_157 (lv_at hl 1 rfl) ?_
        refine lv_iload_n hx hb dX7_writeChoice_159 rfl (lv_at hl 3 rfl) ?_
        refine jx_Vi (As := [.int 1538, .int (g 41), .int z1]) (rest := []) ⟨hx, hb, hml, hown, hts⟩ hZ hw hA (jx_X5_codeLength l hlt D t3 cI cJ ad g7 l8 a9 b10 _ 1538 (g 41) z1 (hk_pE (P := hk_rg 0 255) hi_a0rg (h14 0 rfl))) (cwV 3 hts (jx_gV wwX_good wX_644 wX_476 wX_477 wX_215 wX_478) rfl rfl rfl (by decide +kernel) ⟨Nat.le_of_ble_eq_true rfl, Nat.le_of_ble_eq_true rfl⟩) 9 (ci := 8) (T := TX5) (N := 6) rfl rfl rfl hl.1 rfl (Nat.le_of_ble_eq_true rfl) dX7_writeChoice_160 ⟨Nat.le_of_ble_eq_true rfl, Nat.le_of_ble_eq_true rfl⟩ (fun u50 u51 u52 u53 H locs ce q hp hw h1 h2 h3 => by obtain ⟨ht0, ht1, ht2, ht3⟩ := hp; have e_g7_18 : g7 18 = (g 18) := (h12 18 rfl); exact False.elim (hk_no0 (0 * (g7 18).toInt) (ob258 ((g7 18).toInt) ht3 (hE_rng (g7 18))) (by simp))) (fun r54 g55 l56 a57 b58 H locs hp59 hw => ?_)
        obtain ⟨h60, h61, h62, h63⟩ := hp59
        have hr64 : hk_rg 0 255 (a57 0) := (hk_pE (P := hk_rg 0 255) (hk_pE (P := hk_rg 0 255) hi_a0rg (h14 0 rfl)) (h62 0 rfl))
        refine lv_pop hx hb dX7_writeChoice_163 rfl ?_
        exact B15 g55 l56 a57 ls _ _ h60 h61 h62 hw (lv_sub hl [4, 6, 2, 1, 0] rfl)
    · refine lv_aload_n hx hb dX7_writeChoice_113 rfl (lv_at hl 4 rfl) ?_
      refine hk_get (ci := 10) (C := RX7) (T := TX7) (N := 17) (v := .ref (ad 9)) hx hb hts (fun _ h => List.mem_cons_of_mem _ (wwXc_wsX70 _ h)) hown hw 18 rfl rfl 3 (by decide) (hq _ wX_573) rfl dX7_writeChoice_114 ?_
      refine lv_sipush (v := 1024) hx hb dX7_writeChoice_117 (by decide) ?_
      refine lv_iload hx hb dX7_writeChoice_120 (lv_at hl 1 rfl) ?_
      refine lv_iload_n hx hb dX7_writeChoice_122 rfl (lv_at hl 3 rfl) ?_
      refine jx_Vi (As := [.int 1024, .int (g 41), .int z1]) (rest := []) ⟨hx, hb, hml, hown, hts⟩ hZ hw hA (jx_X5_codeLength l hlt D t3 cI cJ ad g7 l8 a9 b10 _ 1024 (g 41) z1 (hk_pE (P := hk_rg 0 255) hi_a0rg (h14 0 rfl))) (cwV 3 hts (jx_gV wwX_good wX_644 wX_476 wX_477 wX_215 wX_478) rfl rfl rfl (by decide +kernel) ⟨Nat.le_of_ble_eq_true rfl, Nat.le_of_ble_eq_true rfl⟩) 9 (ci := 8) (T := TX5) (N := 6) rfl rfl rfl hl.1 rfl (Nat.le_of_ble_eq_true rfl) dX7_writeChoice_123 ⟨Nat.le_of_ble_eq_true rfl, Nat.le_of_ble_eq_true rfl⟩ (fun u65 u66 u67 u68 H locs ce q hp hw h1 h2 h3 => by obtain ⟨ht0, ht1, ht2, ht3⟩ := hp; have e_g7_18 : g7 18 = (g 18) := (h12 18 rfl); exact False.elim (hk_no0 (0 * (g7 18).toInt) (ob258 ((g7 18).toInt) ht3 (hE_rng (g7 18))) (by simp))) (fun r69 g70 l71 a72 b73 H locs hp74 hw => ?_)
      obtain ⟨h75, h76, h77, h78⟩ := hp74
      have hr79 : hk_rg 0 255 (a72 0) := (hk_pE (P := hk_rg 0 255) (hk_pE (P := hk_rg 0 255) hi_a0rg (h14 0 rfl)) (h77 0 rfl))
      refine lv_pop hx hb dX7_writeChoice_126 rfl ?_
      refine lv_aload_n hx hb dX7_writeChoice_127 rfl (lv_at hl 4 rfl) ?_
      refine hk_get (ci := 10) (C := RX7) (T := TX7) (N := 17) (v := .ref (ad 9)) hx hb hts (fun _ h => List.mem_cons_of_mem _ (wwXc_wsX70 _ h)) hown hw 18 rfl rfl 3 (by decide) (hq _ wX_573) rfl dX7_writeChoice_128 ?_
      refine lv_iload hx hb dX7_writeChoice_131 (lv_at hl 0 rfl) ?_
      refine lv_i2l hx hb dX7_writeChoice_133 rfl (jx_nl fun z80 hz80 => ?_)
      refine lv_iload hx hb dX7_writeChoice_134 (lv_at hl 1 rfl) ?_
      refine jx_Vl (As := [.long z80, .int (g 41)]) (rest := []) ⟨hx, hb, hml, hown, hts⟩ hZ hw hA (jx_X5_codeFar l hlt D t3 cI cJ ad g70 l71 a72 b73 _ z80 (g 41) hr79) (cwV 2 hts (jx_gV wwX_good wX_645 wX_480 wX_481 wX_215 wX_482) rfl rfl rfl (by decide +kernel) ⟨Nat.le_of_ble_eq_true rfl, Nat.le_of_ble_eq_true rfl⟩) 9 (ci := 8) (T := TX5) (N := 6) rfl rfl rfl hl.1 rfl (Nat.le_of_ble_eq_true rfl) dX7_writeChoice_136 ⟨Nat.le_of_ble_eq_true rfl, Nat.le_of_ble_eq_true rfl⟩ (fun u81 u82 u83 u84 H locs ce q hp hw h1 h2 h3 => by obtain ⟨ht0, ht1, ht2, ht3⟩ := hp; have e_g70_18 : g70 18 = (g 18) := ((h75 18 rfl)).trans e_g7_18; exact False.elim (hk_no0 (0 * (g70 18).toInt) (ob258 ((g70 18).toInt) ht3 (hE_rng (g70 18))) (by simp))) (fun r85 g86 l87 a88 b89 H locs hp90 hw => ?_)
      obtain ⟨h91, h92, h93⟩ := hp90
      refine lv_pop2 hx hb dX7_writeChoice_139 rfl ?_
      refine lv_goto (tgt := 164) hx hb dX7_writeChoice_140 (by decide) ?_
      exact B15 g86 l87 a88 ls _ _ (hk_frT h75 (by decide) h91) (hk_frT h76 (by decide) h92) (hk_frT h77 (by decide) h93) hw (lv_sub hl [4, 6, 2, 1, 0] rfl)
  · refine lv_iload_n hx hb dX7_writeChoice_47 rfl (lv_at hl 3 rfl) ?_
    have B94 : ∀  (x95 : Int32) (ls : Array Slot) (H : Heap) (locs : List Loc), hk_W D (jT cI cJ) A s H locs (xw cI cJ ad g7 l8 a9 b10) → lv_has ls 8 [(0, .ref (ad 18)), (2, .int y2), (3, .int z1), (4, .int (g 40)), (5, .int (g 41)), (6, .int (g 42))] → W p l e { frames := 10, cells := 1, slots := 6, locals := 187 } s m args below meth c H locs 0 0 Q (F0 m 65 ls [.int x95]) := by
      intro x95 ls H locs hw hl
      refine lv_istore (lv' := [(7, .int x95), (0, .ref (ad 18)), (2, .int y2), (3, .int z1), (4, .int (g 40)), (5, .int (g 41)), (6, .int (g 42))]) hx hb dX7_writeChoice_65 hl (by decide) rfl (fun ls hl => ?_)
      refine lv_aload_n hx hb dX7_writeChoice_67 rfl (lv_at hl 1 rfl) ?_
      refine hk_get (ci := 10) (C := RX7) (T := TX7) (N := 17) (v := .ref (ad 9)) hx hb hts (fun _ h => List.mem_cons_of_mem _ (wwXc_wsX70 _ h)) hown hw 18 rfl rfl 3 (by decide) (hq _ wX_573) rfl dX7_writeChoice_68 ?_
      refine lv_aload_n hx hb dX7_writeChoice_71 rfl (lv_at hl 1 rfl) ?_
      refine hk_get (ci := 10) (C := RX7) (T := TX7) (N := 17) (v := .ref (ad 2)) hx hb hts (fun _ h => List.mem_cons_of_mem _ (wwXc_wsX70 _ h)) hown hw 18 rfl rfl 1 (by decide) (hq _ wX_594) rfl dX7_writeChoice_72 ?_
      refine lv_iload_n hx hb dX7_writeChoice_75 rfl (lv_at hl 2 rfl) ?_
      refine jx_Vi (As := [.int y2]) (rest := [.ref (ad 9)]) ⟨hx, hb, hml, hown, hts⟩ hZ hw hA (jx_X9_get_2 l hlt D t3 cI cJ ad g7 l8 a9 b10 _ y2) (cwV 1 hts (jx_gV wwX_good wX_641 wX_22 wX_23 wX_24 wX_25) rfl rfl rfl (by decide +kernel) ⟨Nat.le_of_ble_eq_true rfl, Nat.le_of_ble_eq_true rfl⟩) 2 (ci := 12) (T := TX9) (N := 2) rfl rfl rfl hl.1 rfl (Nat.le_of_ble_eq_true rfl) dX7_writeChoice_76 ⟨Nat.le_of_ble_eq_true rfl, Nat.le_of_ble_eq_true rfl⟩ (fun _ _ _ _ _ _ _ _ hp _ _ _ _ => hp.elim) (fun r100 g101 l102 a103 b104 H locs hp105 hw => ?_)
      obtain ⟨h106, h107, h108⟩ := hp105
      have hr109 : hk_rg 0 255 (a103 0) := (hk_pE (P := hk_rg 0 255) (hk_pE (P := hk_rg 0 255) hi_a0rg (h14 0 rfl)) (h108 0 rfl))
      refine lv_iload_n hx hb dX7_writeChoice_79 rfl (lv_at hl 3 rfl) ?_
      refine lv_iload hx hb dX7_writeChoice_80 (lv_at hl 0 rfl) ?_
      refine lv_aload_n hx hb dX7_writeChoice_82 rfl (lv_at hl 1 rfl) ?_
      refine hk_get (ci := 10) (C := RX7) (T := TX7) (N := 17) (v := .ref (ad 2)) hx hb hts (fun _ h => List.mem_cons_of_mem _ (wwXc_wsX70 _ h)) hown hw 18 rfl rfl 1 (by decide) (hq _ wX_594) rfl dX7_writeChoice_83 ?_
      refine lv_iload_n hx hb dX7_writeChoice_86 rfl (lv_at hl 2 rfl) ?_
      refine lv_aload_n hx hb dX7_writeChoice_87 rfl (lv_at hl 1 rfl) ?_
      refine hk_get (ci := 10) (C := RX7) (T := TX7) (N := 17) (v := .ref (ad 9)) hx hb hts (fun _ h => List.mem_cons_of_mem _ (wwXc_wsX70 _ h)) hown hw 18 rfl rfl 3 (by decide) (hq _ wX_573) rfl dX7_writeChoice_88 ?_
      refine lv_iconst (v := 0) hx hb dX7_writeChoice_91 (by decide) ?_
      refine jx_Vl (As := [.int 0]) (rest := [.int y2, .ref (ad 2), .int x95, .int z1, .int r100, .ref (ad 9)]) ⟨hx, hb, hml, hown, hts⟩ hZ hw hA (jx_X5_back l hlt D t3 cI cJ ad g101 l102 a103 b104 _ 0) (cwV 1 hts (jx_gV wwX_good wX_642 wX_213 wX_214 wX_215 wX_216) rfl rfl rfl (by decide +kernel) ⟨Nat.le_of_ble_eq_true rfl, Nat.le_of_ble_eq_true rfl⟩) 9 (ci := 8) (T := TX5) (N := 6) rfl rfl rfl hl.1 rfl (Nat.le_of_ble_eq_true rfl) dX7_writeChoice_92 ⟨Nat.le_of_ble_eq_true rfl, Nat.le_of_ble_eq_true rfl⟩ (fun _ _ _ _ _ _ _ _ hp _ _ _ _ => hp.elim) (fun r114 g115 l116 a117 b118 H locs hp119 hw => ?_)
      obtain ⟨h120, h121, h122⟩ := hp119
      refine lv_l2i hx hb dX7_writeChoice_95 rfl (jx_nm fun z123 hz123 => ?_)
      refine lv_isub hx hb dX7_writeChoice_96 (jx_nm fun z124 hz124 => ?_)
      refine jx_Vi (As := [.int z124]) (rest := [.int x95, .int z1, .int r100, .ref (ad 9)]) ⟨hx, hb, hml, hown, hts⟩ hZ hw hA (jx_X9_get_2 l hlt D t3 cI cJ ad g115 l116 a117 b118 _ z124) (cwV 1 hts (jx_gV wwX_good wX_641 wX_22 wX_23 wX_24 wX_25) rfl rfl rfl (by decide +kernel) ⟨Nat.le_of_ble_eq_true rfl, Nat.le_of_ble_eq_true rfl⟩) 2 (ci := 12) (T := TX9) (N := 2) rfl rfl rfl hl.1 rfl (Nat.le_of_ble_eq_true rfl) dX7_writeChoice_97 ⟨Nat.le_of_ble_eq_true rfl, Nat.le_of_ble_eq_true rfl⟩ (fun _ _ _ _ _ _ _ _ hp _ _ _ _ => hp.elim) (fun r129 g130 l131 a132 b133 H locs hp134 hw => ?_)
      obtain ⟨h135, h136, h137⟩ := hp134
      have hr138 : hk_rg 0 255 (a132 0) := (hk_pE (P := hk_rg 0 255) (hk_pE (P := hk_rg 0 255) hr109 (h122 0 rfl)) (h137 0 rfl))
      refine jx_Vi (As := [.int r100, .int z1, .int x95, .int r129]) (rest := []) ⟨hx, hb, hml, hown, hts⟩ hZ hw hA (jx_X5_codeLiteral l hlt D t3 cI cJ ad g130 l131 a132 b133 _ r100 z1 x95 r129 hr138) (cwV 4 hts (jx_gV wwX_good wX_643 wX_552 wX_553 wX_215 wX_554) rfl rfl rfl (by decide +kernel) ⟨Nat.le_of_ble_eq_true rfl, Nat.le_of_ble_eq_true rfl⟩) 9 (ci := 8) (T := TX5) (N := 6) rfl rfl rfl hl.1 rfl (Nat.le_of_ble_eq_true rfl) dX7_writeChoice_100 ⟨Nat.le_of_ble_eq_true rfl, Nat.le_of_ble_eq_true rfl⟩ (fun u139 u140 u141 u142 H locs ce q hp hw h1 h2 h3 => by obtain ⟨ht0, ht1, ht2, ht3⟩ := hp; have e_g130_18 : g130 18 = (g 18) := ((h135 18 rfl)).trans (((h120 18 rfl)).trans (((h106 18 rfl)).trans (h12 18 rfl))); exact False.elim (hk_no0 (0 * (g130 18).toInt) (ob258 ((g130 18).toInt) ht3 (hE_rng (g130 18))) (by simp))) (fun r143 g144 l145 a146 b147 H locs hp148 hw => ?_)
      obtain ⟨h149, h150, h151⟩ := hp148
      refine lv_pop hx hb dX7_writeChoice_103 rfl ?_
      refine lv_goto (tgt := 164) hx hb dX7_writeChoice_104 (by decide) ?_
      exact B15 g144 l145 a146 ls _ _ (hk_frT (hk_frT (hk_frT (hk_frT hk_fr0 (by decide) h106) (by decide) h120) (by decide) h135) (by decide) h149) (hk_frT (hk_frT (hk_frT (hk_frT hk_fr0 (by decide) h107) (by decide) h121) (by decide) h136) (by decide) h150) (hk_frT (hk_frT (hk_frT (hk_frT hk_fr0 (by decide) h108) (by decide) h122) (by decide) h137) (by decide) h151) hw (lv_sub hl [1, 2, 4, 5, 6] rfl)
    refine lv_if_le (tgt := 64) hx hb dX7_writeChoice_48 (by decide) (fun cc152 => ?_) (fun cc152 => ?_)
    · refine lv_iconst (v := 0) hx hb dX7_writeChoice_64 (by decide) ?_
      exact B94 0 ls _ _ hw (lv_sub hl [4, 6, 3, 2, 1, 0] rfl)
    · refine lv_aload_n hx hb dX7_writeChoice_51 rfl (lv_at hl 4 rfl) ?_
      refine hk_get (ci := 10) (C := RX7) (T := TX7) (N := 17) (v := .ref (ad 2)) hx hb hts (fun _ h => List.mem_cons_of_mem _ (wwXc_wsX70 _ h)) hown hw 18 rfl rfl 1 (by decide) (hq _ wX_594) rfl dX7_writeChoice_52 ?_
      refine lv_iload_n hx hb dX7_writeChoice_55 rfl (lv_at hl 6 rfl) ?_
      refine lv_iconst (v := 1) hx hb dX7_writeChoice_56 (by decide) ?_
      refine lv_isub hx hb dX7_writeChoice_57 (jx_nm fun z153 hz153 => ?_)
      refine jx_Vi (As := [.int z153]) (rest := []) ⟨hx, hb, hml, hown, hts⟩ hZ hw hA (jx_X9_get_2 l hlt D t3 cI cJ ad g7 l8 a9 b10 _ z153) (cwV 1 hts (jx_gV wwX_good wX_641 wX_22 wX_23 wX_24 wX_25) rfl rfl rfl (by decide +kernel) ⟨Nat.le_of_ble_eq_true rfl, Nat.le_of_ble_eq_true rfl⟩) 2 (ci := 12) (T := TX9) (N := 2) rfl rfl rfl hl.1 rfl (Nat.le_of_ble_eq_true rfl) dX7_writeChoice_58 ⟨Nat.le_of_ble_eq_true rfl, Nat.le_of_ble_eq_true rfl⟩ (fun _ _ _ _ _ _ _ _ hp _ _ _ _ => hp.elim) (fun r158 g159 l160 a161 b162 H locs hp163 hw => ?_)
      obtain ⟨h164, h165, h166⟩ := hp163
      have hr167 : hk_rg 0 255 (a161 0) := (hk_pE (P := hk_rg 0 255) (hk_pE (P := hk_rg 0 255) hi_a0rg (h14 0 rfl)) (h166 0 rfl))
      refine lv_goto (tgt := 65) hx hb dX7_writeChoice_61 (by decide) ?_
      exact B94 r158 ls _ _ hw (lv_sub hl [4, 6, 3, 2, 1, 0] rfl)

set_option maxHeartbeats 4000000 in
set_option maxRecDepth 100000 in
/-- X7_writeMark on (18,) -/
theorem jx_X7_writeMark (l : Launch) (hlt : l.stackTraces = false) (D : va_G) (t3 : Nat × Nat × Nat) (cI cJ : ClassId) (ad : Nat → Nat) (g : Nat → Int32) (lg : Nat → Int64) (ar : Nat → Nat → Int32) (bk : Nat → Int64) (sz : Nat) (y1 : Int32) (hr0 : (g 18).toInt = 0) (hi_a0rg : hk_rg 0 255 (ar 0)) : JMv l yX7_writeMark (Cond.code yX7_writeMark cX7_writeMark 2 none :: wwX) { frames := 10, cells := 1, slots := 6, locals := 187 } t3 D xw cI cJ ad [.ref (ad 18), .int y1] (xw cI cJ ad g lg ar bk) sz 1 6 (fun g' lg' ar' bk' => hk_fr [14, 15, 17, 19, 20, 24, 25] g g' ∧ hk_fr [0, 1, 2] lg lg' ∧ hk_fr [1, 2, 6] ar ar') (fun g' lg' ar' bk' => False) := by
  refine jx_metv (cc := cX7_writeMark) (maxL := 2) (ret := none) rfl (by decide) rfl (Nat.le_of_ble_eq_true rfl) ?_
  intro p e s m args below meth c ls Q A hx hb hml hown hts hA hZ hw hl hQ kr kt
  have hq : ∀ w ∈ wwX, w.before args s = true := fun w h => hts w (List.mem_cons_of_mem _ h)
  have hl : lv_has ls 2 [(0, .ref (ad 18)), (1, .int y1)] := hl
  refine lv_aload_n hx hb dX7_writeMark_0 rfl (lv_at hl 0 rfl) ?_
  refine hk_get (ci := 10) (C := RX7) (T := TX7) (N := 17) (v := .ref (ad 9)) hx hb hts (fun _ h => List.mem_cons_of_mem _ (wwXc_wsX70 _ h)) hown hw 18 rfl rfl 3 (by decide) (hq _ wX_573) rfl dX7_writeMark_1 ?_
  refine lv_bipush (v := 7) hx hb dX7_writeMark_4 (by decide) ?_
  refine lv_iload_n hx hb dX7_writeMark_6 rfl (lv_at hl 1 rfl) ?_
  refine jx_Vi (As := [.int 7, .int y1]) (rest := []) ⟨hx, hb, hml, hown, hts⟩ hZ hw hA (jx_X5_codeKind l hlt D t3 cI cJ ad g lg ar bk _ 7 y1 hi_a0rg) (cwV 2 hts (jx_gV wwX_good wX_640 wX_467 wX_468 wX_215 wX_469) rfl rfl rfl (by decide +kernel) ⟨Nat.le_of_ble_eq_true rfl, Nat.le_of_ble_eq_true rfl⟩) 9 (ci := 8) (T := TX5) (N := 6) rfl rfl rfl hl.1 rfl (Nat.le_of_ble_eq_true rfl) dX7_writeMark_7 ⟨Nat.le_of_ble_eq_true rfl, Nat.le_of_ble_eq_true rfl⟩ (fun u1 u2 u3 u4 H locs ce q hp hw h1 h2 h3 => by obtain ⟨ht0, ht1, ht2, ht3⟩ := hp; exact False.elim (hk_no0 (0 * (g 18).toInt) (ob257 ((g 18).toInt) hr0 ht3 (hE_rng (g 18))) (by simp))) (fun r5 g6 l7 a8 b9 H locs hp10 hw => ?_)
  obtain ⟨h11, h12, h13⟩ := hp10
  refine lv_pop hx hb dX7_writeMark_10 rfl ?_
  refine lv_aload_n hx hb dX7_writeMark_11 rfl (lv_at hl 0 rfl) ?_
  refine hk_get (ci := 10) (C := RX7) (T := TX7) (N := 17) (v := .ref (ad 9)) hx hb hts (fun _ h => List.mem_cons_of_mem _ (wwXc_wsX70 _ h)) hown hw 18 rfl rfl 3 (by decide) (hq _ wX_573) rfl dX7_writeMark_12 ?_
  refine lv_sipush (v := 1024) hx hb dX7_writeMark_15 (by decide) ?_
  refine lv_iconst (v := 2) hx hb dX7_writeMark_18 (by decide) ?_
  refine lv_iload_n hx hb dX7_writeMark_19 rfl (lv_at hl 1 rfl) ?_
  refine jx_Vi (As := [.int 1024, .int 2, .int y1]) (rest := []) ⟨hx, hb, hml, hown, hts⟩ hZ hw hA (jx_X5_codeLength l hlt D t3 cI cJ ad g6 l7 a8 b9 _ 1024 2 y1 (hk_pE (P := hk_rg 0 255) hi_a0rg (h13 0 rfl))) (cwV 3 hts (jx_gV wwX_good wX_644 wX_476 wX_477 wX_215 wX_478) rfl rfl rfl (by decide +kernel) ⟨Nat.le_of_ble_eq_true rfl, Nat.le_of_ble_eq_true rfl⟩) 9 (ci := 8) (T := TX5) (N := 6) rfl rfl rfl hl.1 rfl (Nat.le_of_ble_eq_true rfl) dX7_writeMark_20 ⟨Nat.le_of_ble_eq_true rfl, Nat.le_of_ble_eq_true rfl⟩ (fun u14 u15 u16 u17 H locs ce q hp hw h1 h2 h3 => by obtain ⟨ht0, ht1, ht2, ht3⟩ := hp; have e_g6_18 : g6 18 = (g 18) := (h11 18 rfl); exact False.elim (hk_no0 (0 * (g6 18).toInt) (ob258 ((g6 18).toInt) ht3 (hE_rng (g6 18))) (by simp))) (fun r18 g19 l20 a21 b22 H locs hp23 hw => ?_)
  obtain ⟨h24, h25, h26, h27⟩ := hp23
  have hr28 : hk_rg 0 255 (a21 0) := (hk_pE (P := hk_rg 0 255) (hk_pE (P := hk_rg 0 255) hi_a0rg (h13 0 rfl)) (h26 0 rfl))
  refine lv_pop hx hb dX7_writeMark_23 rfl ?_
  refine lv_aload_n hx hb dX7_writeMark_24 rfl (lv_at hl 0 rfl) ?_
  refine hk_get (ci := 10) (C := RX7) (T := TX7) (N := 17) (v := .ref (ad 9)) hx hb hts (fun _ h => List.mem_cons_of_mem _ (wwXc_wsX70 _ h)) hown hw 18 rfl rfl 3 (by decide) (hq _ wX_573) rfl dX7_writeMark_25 ?_
  refine lv_ldc2 (v := 4294967296) hx hb hown (hq _ wX_686) dX7_writeMark_28 ?_
  refine lv_iconst (v := 2) hx hb dX7_writeMark_31 (by decide) ?_
  refine jx_Vl (As := [.long 4294967296, .int 2]) (rest := []) ⟨hx, hb, hml, hown, hts⟩ hZ hw hA (jx_X5_codeFar l hlt D t3 cI cJ ad g19 l20 a21 b22 _ 4294967296 2 hr28) (cwV 2 hts (jx_gV wwX_good wX_645 wX_480 wX_481 wX_215 wX_482) rfl rfl rfl (by decide +kernel) ⟨Nat.le_of_ble_eq_true rfl, Nat.le_of_ble_eq_true rfl⟩) 9 (ci := 8) (T := TX5) (N := 6) rfl rfl rfl hl.1 rfl (Nat.le_of_ble_eq_true rfl) dX7_writeMark_32 ⟨Nat.le_of_ble_eq_true rfl, Nat.le_of_ble_eq_true rfl⟩ (fun u29 u30 u31 u32 H locs ce q hp hw h1 h2 h3 => by obtain ⟨ht0, ht1, ht2, ht3⟩ := hp; have e_g19_18 : g19 18 = (g 18) := ((h24 18 rfl)).trans e_g6_18; exact False.elim (hk_no0 (0 * (g19 18).toInt) (ob258 ((g19 18).toInt) ht3 (hE_rng (g19 18))) (by simp))) (fun r33 g34 l35 a36 b37 H locs hp38 hw => ?_)
  obtain ⟨h39, h40, h41⟩ := hp38
  refine lv_pop2 hx hb dX7_writeMark_35 rfl ?_
  refine lv_aload_n hx hb dX7_writeMark_36 rfl (lv_at hl 0 rfl) ?_
  refine hk_get (ci := 10) (C := RX7) (T := TX7) (N := 17) (v := .ref (ad 9)) hx hb hts (fun _ h => List.mem_cons_of_mem _ (wwXc_wsX70 _ h)) hown hw 18 rfl rfl 3 (by decide) (hq _ wX_573) rfl dX7_writeMark_37 ?_
  refine lv_bipush (v := 7) hx hb dX7_writeMark_40 (by decide) ?_
  refine lv_ldc2 (v := 4294967296) hx hb hown (hq _ wX_686) dX7_writeMark_42 ?_
  refine jx_Vv (As := [.int 7, .long 4294967296]) (rest := []) ⟨hx, hb, hml, hown, hts⟩ hZ hw hA (jx_X5_follow l hlt D t3 cI cJ ad g34 l35 a36 b37 _ 7 4294967296) (cwV 2 hts (jx_gV wwX_good wX_646 wX_484 wX_485 wX_215 wX_486) rfl rfl rfl (by decide +kernel) ⟨Nat.le_of_ble_eq_true rfl, Nat.le_of_ble_eq_true rfl⟩) 9 (ci := 8) (T := TX5) (N := 6) rfl rfl rfl hl.1 rfl (Nat.le_of_ble_eq_true rfl) dX7_writeMark_45 ⟨Nat.le_of_ble_eq_true rfl, Nat.le_of_ble_eq_true rfl⟩ (fun _ _ _ _ _ _ _ _ hp _ _ _ _ => hp.elim) (fun g47 l48 a49 b50 H locs hp51 hw => ?_)
  obtain ⟨h52, h53, h54⟩ := hp51
  have hr55 : hk_rg 0 255 (a49 0) := (hk_pE (P := hk_rg 0 255) (hk_pE (P := hk_rg 0 255) hr28 (h41 0 rfl)) (h54 0 rfl))
  refine lv_aload_n hx hb dX7_writeMark_48 rfl (lv_at hl 0 rfl) ?_
  refine hk_get (ci := 10) (C := RX7) (T := TX7) (N := 17) (v := .ref (ad 15)) hx hb hts (fun _ h => List.mem_cons_of_mem _ (wwXc_wsX70 _ h)) hown hw 18 rfl rfl 5 (by decide) (hq _ wX_571) rfl dX7_writeMark_49 ?_
  refine lv_bipush (v := 7) hx hb dX7_writeMark_52 (by decide) ?_
  refine lv_iload_n hx hb dX7_writeMark_54 rfl (lv_at hl 1 rfl) ?_
  refine lv_iconst (v := 0) hx hb dX7_writeMark_55 (by decide) ?_
  refine lv_iconst (v := 0) hx hb dX7_writeMark_56 (by decide) ?_
  refine jx_Vv (As := [.int 7, .int y1, .int 0, .int 0]) (rest := []) ⟨hx, hb, hml, hown, hts⟩ hZ hw hA (jx_X4_addStep l hlt D t3 cI cJ ad g47 l48 a49 b50 _ 7 y1 0 0) (cwV 4 hts (jx_gV wwX_good wX_647 wX_497 wX_498 wX_69 wX_499) rfl rfl rfl (by decide +kernel) ⟨Nat.le_of_ble_eq_true rfl, Nat.le_of_ble_eq_true rfl⟩) 15 (ci := 7) (T := TX4) (N := 4) rfl rfl rfl hl.1 rfl (Nat.le_of_ble_eq_true rfl) dX7_writeMark_57 ⟨Nat.le_of_ble_eq_true rfl, Nat.le_of_ble_eq_true rfl⟩ (fun _ _ _ _ _ _ _ _ hp _ _ _ _ => hp.elim) (fun g61 l62 a63 b64 H locs hp65 hw => ?_)
  obtain ⟨h66, h67, h68⟩ := hp65
  exact kr g61 l62 a63 b64 _ _ _ _ ⟨(hk_frT (hk_frT (hk_frT (hk_frT (hk_frT hk_fr0 (by decide) h11) (by decide) h24) (by decide) h39) (by decide) h52) (by decide) h66), (hk_frT (hk_frT (hk_frT (hk_frT h12 (by decide) h25) (by decide) h40) (by decide) h53) (by decide) h67), (hk_frT (hk_frT (hk_frT (hk_frT (hk_frT hk_fr0 (by decide) h13) (by decide) h26) (by decide) h41) (by decide) h54) (by decide) h68)⟩ hw dX7_writeMark_60

set_option maxHeartbeats 4000000 in
set_option maxRecDepth 100000 in
/-- X7_writeBits on (18,) -/
theorem jx_X7_writeBits (l : Launch) (hlt : l.stackTraces = false) (D : va_G) (t3 : Nat × Nat × Nat) (cI cJ : ClassId) (ad : Nat → Nat) (g : Nat → Int32) (lg : Nat → Int64) (ar : Nat → Nat → Int32) (bk : Nat → Int64) (sz : Nat) (y1 : Int32) (y2 : Int32) (y3 : Int32) (y4 : Int32) (hr0 : 0 ≤ (y1).toInt ∧ (y1).toInt ≤ (y2).toInt ∧ (y2).toInt ≤ (y3).toInt ∧ (y3).toInt ≤ 1500) (hi_a8rg : hk_rg (-2147483648) 273 (ar 8)) (hi_a12rg : hk_rg (-2147483648) 1501 (ar 12)) (hi_g41 : -2147483648 ≤ (g 41).toInt ∧ (g 41).toInt ≤ 1501) (hi_a0rg : hk_rg 0 255 (ar 0)) : JMv l yX7_writeBits (Cond.code yX7_writeBits cX7_writeBits 6 none :: wwX) { frames := 11, cells := 1, slots := 6, locals := 214 } t3 D xw cI cJ ad [.ref (ad 18), .int y1, .int y2, .int y3, .int y4] (xw cI cJ ad g lg ar bk) sz 1 6 (fun g' lg' ar' bk' => hk_fr [14, 15, 17, 18, 19, 20, 24, 25, 37, 38, 39, 40, 41, 42] g g' ∧ hk_fr [0, 1, 2] lg lg' ∧ hk_fr [1, 2, 6, 8, 9, 10, 11, 12] ar ar' ∧ hk_rg (-2147483648) 273 (ar' 8) ∧ hk_rg (-2147483648) 1501 (ar' 12) ∧ (-2147483648 ≤ (g' 41).toInt ∧ (g' 41).toInt ≤ 1501)) (fun g' lg' ar' bk' => False) := by
  refine jx_metv (cc := cX7_writeBits) (maxL := 6) (ret := none) rfl (by decide) rfl (Nat.le_of_ble_eq_true rfl) ?_
  intro p e s m args below meth c ls Q A hx hb hml hown hts hA hZ hw hl hQ kr kt
  have hq : ∀ w ∈ wwX, w.before args s = true := fun w h => hts w (List.mem_cons_of_mem _ h)
  have hl : lv_has ls 6 [(0, .ref (ad 18)), (1, .int y1), (2, .int y2), (3, .int y3), (4, .int y4)] := hl
  refine lv_aload_n hx hb dX7_writeBits_0 rfl (lv_at hl 0 rfl) ?_
  refine hk_get (ci := 10) (C := RX7) (T := TX7) (N := 17) (v := .ref (ad 19)) hx hb hts (fun _ h => List.mem_cons_of_mem _ (wwXc_wsX70 _ h)) hown hw 18 rfl rfl 6 (by decide) (hq _ wX_610) rfl dX7_writeBits_1 ?_
  refine lv_iload_n hx hb dX7_writeBits_4 rfl (lv_at hl 1 rfl) ?_
  refine lv_iload_n hx hb dX7_writeBits_5 rfl (lv_at hl 2 rfl) ?_
  refine lv_iload_n hx hb dX7_writeBits_6 rfl (lv_at hl 3 rfl) ?_
  refine lv_aload_n hx hb dX7_writeBits_7 rfl (lv_at hl 0 rfl) ?_
  refine hk_get (ci := 10) (C := RX7) (T := TX7) (N := 17) (v := .ref (ad 1)) hx hb hts (fun _ h => List.mem_cons_of_mem _ (wwXc_wsX70 _ h)) hown hw 18 rfl rfl 0 (by decide) (hq _ wX_574) rfl dX7_writeBits_8 ?_
  refine hk_get (ci := 13) (C := RX10) (T := TX10) (N := 10) (v := .int (g 6)) hx hb hts (fun _ h => List.mem_cons_of_mem _ (wwXc_wsX100 _ h)) hown hw 1 rfl rfl 3 (by decide) (hq _ wX_600) rfl dX7_writeBits_11 ?_
  refine lv_aload_n hx hb dX7_writeBits_14 rfl (lv_at hl 0 rfl) ?_
  refine hk_get (ci := 10) (C := RX7) (T := TX7) (N := 17) (v := .int (g 27)) hx hb hts (fun _ h => List.mem_cons_of_mem _ (wwXc_wsX70 _ h)) hown hw 18 rfl rfl 7 (by decide) (hq _ wX_568) rfl dX7_writeBits_15 ?_
  refine jx_Vv (As := [.int y1, .int y2, .int y3, .int (g 6), .int (g 27)]) (rest := []) ⟨hx, hb, hml, hown, hts⟩ hZ hw hA (jx_X1_prepare l hlt D t3 cI cJ ad g lg ar bk _ y1 y2 y3 (g 6) (g 27) (ob259 ((y1).toInt) ((y2).toInt) ((y3).toInt) hr0 (hE_rng (y1)) (hE_rng (y2)) (hE_rng (y3))) hi_a8rg hi_a12rg) (cwV 5 hts (jx_gV wwX_good wX_611 wX_612 wX_613 wX_195 wX_614) rfl rfl rfl (by decide +kernel) ⟨Nat.le_of_ble_eq_true rfl, Nat.le_of_ble_eq_true rfl⟩) 19 (ci := 4) (T := TX1) (N := 13) rfl rfl rfl hl.1 rfl (Nat.le_of_ble_eq_true rfl) dX7_writeBits_18 ⟨Nat.le_of_ble_eq_true rfl, Nat.le_of_ble_eq_true rfl⟩ (fun _ _ _ _ _ _ _ _ hp _ _ _ _ => hp.elim) (fun g6 l7 a8 b9 H locs hp10 hw => ?_)
  obtain ⟨h11, h12, h13, h14, h15, h16⟩ := hp10
  refine lv_aload_n hx hb dX7_writeBits_21 rfl (lv_at hl 0 rfl) ?_
  refine hk_get (ci := 10) (C := RX7) (T := TX7) (N := 17) (v := .ref (ad 9)) hx hb hts (fun _ h => List.mem_cons_of_mem _ (wwXc_wsX70 _ h)) hown hw 18 rfl rfl 3 (by decide) (hq _ wX_573) rfl dX7_writeBits_22 ?_
  refine hk_get (ci := 8) (C := RX5) (T := TX5) (N := 6) (v := .ref (ad 7)) hx hb hts (fun _ h => List.mem_cons_of_mem _ (wwXc_wsX50 _ h)) hown hw 9 rfl rfl 0 (by decide) (hq _ wX_615) rfl dX7_writeBits_25 ?_
  refine jx_Vv (As := []) (rest := []) ⟨hx, hb, hml, hown, hts⟩ hZ hw hA (jx_X2_beginPacking l hlt D t3 cI cJ ad g6 l7 a8 b9 _) (cwV 0 hts (jx_gV wwX_good wX_616 wX_617 wX_618 wX_270 wX_619) rfl rfl rfl (by decide +kernel) ⟨Nat.le_of_ble_eq_true rfl, Nat.le_of_ble_eq_true rfl⟩) 7 (ci := 5) (T := TX2) (N := 9) rfl rfl rfl hl.1 rfl (Nat.le_of_ble_eq_true rfl) dX7_writeBits_28 ⟨Nat.le_of_ble_eq_true rfl, Nat.le_of_ble_eq_true rfl⟩ (fun _ _ _ _ _ _ _ _ hp _ _ _ _ => hp.elim) (fun g22 l23 a24 b25 H locs hp26 hw => ?_)
  obtain ⟨h27, h28, h29⟩ := hp26
  have hr30 : hk_rg 0 255 (a24 0) := (hk_pE (P := hk_rg 0 255) (hk_pE (P := hk_rg 0 255) hi_a0rg (h13 0 rfl)) (h29 0 rfl))
  refine lv_iload_n hx hb dX7_writeBits_31 rfl (lv_at hl 2 rfl) ?_
  refine lv_istore (lv' := [(5, .int y2), (0, .ref (ad 18)), (1, .int y1), (2, .int y2), (3, .int y3), (4, .int y4)]) hx hb dX7_writeBits_32 hl (by decide) rfl (fun ls hl => ?_)
  have B31 : ∀ (k37 : Nat) (x32 : Int32) (g33 : Nat → Int32) (l34 : Nat → Int64) (a35 : Nat → Nat → Int32) (b36 : Nat → Int64) (ls : Array Slot) (H : Heap) (locs : List Loc), 2147483648 - (x32).toInt ≤ (k37 : Int) → (y2).toInt ≤ (x32).toInt → -2147483648 ≤ (g33 41).toInt ∧ (g33 41).toInt ≤ 1501 → hk_fr [14, 15, 17, 19, 20, 24, 25, 40, 41, 42] g22 g33 → hk_fr [0, 1, 2] l23 l34 → hk_fr [1, 2, 6] a24 a35 → hk_W D (jT cI cJ) A s H locs (xw cI cJ ad g33 l34 a35 b36) → lv_has ls 6 [(0, .ref (ad 18)), (1, .int y1), (3, .int y3), (4, .int y4), (5, .int x32)] → W p l e { frames := 11, cells := 1, slots := 6, locals := 214 } s m args below meth c H locs 0 0 Q (F0 m 34 ls []) := by
    intro k37
    induction k37 with
    | zero =>
      intro x32 g33 l34 a35 b36 ls H locs hrk_B31 hf_B31_0 hf_B31_1 hfr_g33 hfr_l34 hfr_a35 hw hl
      exact False.elim (hk_no0 (0 * (x32).toInt) (ob260 ((x32).toInt) ((y2).toInt) ((y1).toInt) ((y3).toInt) ((g6 37).toInt) ((g6 38).toInt) ((g6 39).toInt) hf_B31_0 hrk_B31 hr0 h14 (hE_rng (x32)) (hE_rng (y2)) (hE_rng (y1)) (hE_rng (y3)) (hE_rng (g6 37)) (hE_rng (g6 38)) (hE_rng (g6 39))) (by simp))
    | succ k37 ih_B31 =>
      intro x32 g33 l34 a35 b36 ls H locs hrk_B31 hf_B31_0 hf_B31_1 hfr_g33 hfr_l34 hfr_a35 hw hl
      have hrk_B31 := hk_rk hrk_B31
      refine lv_iload hx hb dX7_writeBits_34 (lv_at hl 4 rfl) ?_
      refine lv_iload_n hx hb dX7_writeBits_36 rfl (lv_at hl 2 rfl) ?_
      refine lv_icmp_ge (tgt := 79) hx hb dX7_writeBits_37 (by decide) (fun cc38 => ?_) (fun cc38 => ?_)
      · refine lv_iload hx hb dX7_writeBits_79 (lv_at hl 3 rfl) ?_
        have B39 : ∀  (g40 : Nat → Int32) (l41 : Nat → Int64) (a42 : Nat → Nat → Int32) (b43 : Nat → Int64) (ls : Array Slot) (H : Heap) (locs : List Loc), hk_fr [14, 15, 17, 19, 20, 24, 25] g33 g40 → hk_fr [0, 1, 2] l34 l41 → hk_fr [1, 2, 6] a35 a42 → hk_W D (jT cI cJ) A s H locs (xw cI cJ ad g40 l41 a42 b43) → lv_has ls 6 [(0, .ref (ad 18))] → W p l e { frames := 11, cells := 1, slots := 6, locals := 214 } s m args below meth c H locs 0 0 Q (F0 m 89 ls []) := by
          intro g40 l41 a42 b43 ls H locs hfr_g40 hfr_l41 hfr_a42 hw hl
          refine lv_aload_n hx hb dX7_writeBits_89 rfl (lv_at hl 0 rfl) ?_
          refine hk_get (ci := 10) (C := RX7) (T := TX7) (N := 17) (v := .ref (ad 9)) hx hb hts (fun _ h => List.mem_cons_of_mem _ (wwXc_wsX70 _ h)) hown hw 18 rfl rfl 3 (by decide) (hq _ wX_573) rfl dX7_writeBits_90 ?_
          refine hk_get (ci := 8) (C := RX5) (T := TX5) (N := 6) (v := .ref (ad 7)) hx hb hts (fun _ h => List.mem_cons_of_mem _ (wwXc_wsX50 _ h)) hown hw 9 rfl rfl 0 (by decide) (hq _ wX_615) rfl dX7_writeBits_93 ?_
          refine jx_Vv (As := []) (rest := []) ⟨hx, hb, hml, hown, hts⟩ hZ hw hA (jx_X2_flush l hlt D t3 cI cJ ad g40 l41 a42 b43 _) (cwV 0 hts (jx_gV wwX_good wX_634 wX_635 wX_636 wX_270 wX_637) rfl rfl rfl (by decide +kernel) ⟨Nat.le_of_ble_eq_true rfl, Nat.le_of_ble_eq_true rfl⟩) 7 (ci := 5) (T := TX2) (N := 9) rfl rfl rfl hl.1 rfl (Nat.le_of_ble_eq_true rfl) dX7_writeBits_96 ⟨Nat.le_of_ble_eq_true rfl, Nat.le_of_ble_eq_true rfl⟩ (fun _ _ _ _ _ _ _ _ hp _ _ _ _ => hp.elim) (fun g49 l50 a51 b52 H locs hp53 hw => ?_)
          obtain ⟨h54, h55, h56⟩ := hp53
          have hr57 : hk_rg 0 255 (a51 0) := (hk_pE (P := hk_rg 0 255) (hk_pE (P := hk_rg 0 255) (hk_pE (P := hk_rg 0 255) hr30 (hfr_a35 0 rfl)) (hfr_a42 0 rfl)) (h56 0 rfl))
          have hr58 : hk_rg (-2147483648) 273 (a51 8) := (hk_pE (P := hk_rg (-2147483648) 273) (hk_pE (P := hk_rg (-2147483648) 273) (hk_pE (P := hk_rg (-2147483648) 273) (hk_pE (P := hk_rg (-2147483648) 273) h15 (h29 8 rfl)) (hfr_a35 8 rfl)) (hfr_a42 8 rfl)) (h56 8 rfl))
          have hr59 : hk_rg (-2147483648) 1501 (a51 12) := (hk_pE (P := hk_rg (-2147483648) 1501) (hk_pE (P := hk_rg (-2147483648) 1501) (hk_pE (P := hk_rg (-2147483648) 1501) (hk_pE (P := hk_rg (-2147483648) 1501) h16 (h29 12 rfl)) (hfr_a35 12 rfl)) (hfr_a42 12 rfl)) (h56 12 rfl))
          have e_g49_41 : g49 41 = (g33 41) := ((h54 41 rfl)).trans (hfr_g40 41 rfl)
          exact kr g49 l50 a51 b52 _ _ _ _ ⟨(hk_frT (hk_frT (hk_frT (hk_frT (hk_frT hk_fr0 (by decide) h11) (by decide) h27) (by decide) hfr_g33) (by decide) hfr_g40) (by decide) h54), (hk_frT (hk_frT (hk_frT (hk_frT (hk_frT hk_fr0 (by decide) h12) (by decide) h28) (by decide) hfr_l34) (by decide) hfr_l41) (by decide) h55), (hk_frT (hk_frT (hk_frT (hk_frT (hk_frT hk_fr0 (by decide) h13) (by decide) h29) (by decide) hfr_a35) (by decide) hfr_a42) (by decide) h56), hr58, hr59, (ob229 ((g49 41).toInt) ((g33 41).toInt) (congrArg Int32.toInt e_g49_41) hf_B31_1 (hE_rng (g49 41)) (hE_rng (g33 41)))⟩ hw dX7_writeBits_99
        refine lv_if_eq (tgt := 89) hx hb dX7_writeBits_81 (by decide) (fun cc60 => ?_) (fun cc60 => ?_)
        · exact B39 g33 l34 a35 b36 ls _ _ hk_fr0 hk_fr0 hk_fr0 hw (lv_sub hl [0] rfl)
        · refine lv_aload_n hx hb dX7_writeBits_84 rfl (lv_at hl 0 rfl) ?_
          refine lv_iload_n hx hb dX7_writeBits_85 rfl (lv_at hl 2 rfl) ?_
          have e_g33_18 : g33 18 = (g22 18) := (hfr_g33 18 rfl)
          refine jx_Vv (As := [.int y3]) (rest := []) ⟨hx, hb, hml, hown, hts⟩ hZ hw hA (jx_X7_writeMark l hlt D t3 cI cJ ad g33 l34 a35 b36 _ y3 (ob261 ((g33 18).toInt) ((g22 18).toInt) (congrArg Int32.toInt e_g33_18) (hE_rng (g33 18)) (hE_rng (g22 18))) (hk_pE (P := hk_rg 0 255) hr30 (hfr_a35 0 rfl))) (cwV 1 hts (jx_gV wwX_good wX_630 wX_631 wX_632 wX_122 wX_633) rfl rfl rfl (by decide +kernel) ⟨Nat.le_of_ble_eq_true rfl, Nat.le_of_ble_eq_true rfl⟩) 18 (ci := 10) (T := TX7) (N := 17) rfl rfl rfl hl.1 rfl (Nat.le_of_ble_eq_true rfl) dX7_writeBits_86 ⟨Nat.le_of_ble_eq_true rfl, Nat.le_of_ble_eq_true rfl⟩ (fun _ _ _ _ _ _ _ _ hp _ _ _ _ => hp.elim) (fun g66 l67 a68 b69 H locs hp70 hw => ?_)
          obtain ⟨h71, h72, h73⟩ := hp70
          have hr74 : hk_rg 0 255 (a68 0) := (hk_pE (P := hk_rg 0 255) (hk_pE (P := hk_rg 0 255) hr30 (hfr_a35 0 rfl)) (h73 0 rfl))
          have hr75 : hk_rg (-2147483648) 273 (a68 8) := (hk_pE (P := hk_rg (-2147483648) 273) (hk_pE (P := hk_rg (-2147483648) 273) (hk_pE (P := hk_rg (-2147483648) 273) h15 (h29 8 rfl)) (hfr_a35 8 rfl)) (h73 8 rfl))
          have hr76 : hk_rg (-2147483648) 1501 (a68 12) := (hk_pE (P := hk_rg (-2147483648) 1501) (hk_pE (P := hk_rg (-2147483648) 1501) (hk_pE (P := hk_rg (-2147483648) 1501) h16 (h29 12 rfl)) (hfr_a35 12 rfl)) (h73 12 rfl))
          exact B39 g66 l67 a68 b69 ls _ _ h71 h72 h73 hw (lv_sub hl [0] rfl)
      · refine lv_aload_n hx hb dX7_writeBits_40 rfl (lv_at hl 0 rfl) ?_
        refine hk_get (ci := 10) (C := RX7) (T := TX7) (N := 17) (v := .ref (ad 19)) hx hb hts (fun _ h => List.mem_cons_of_mem _ (wwXc_wsX70 _ h)) hown hw 18 rfl rfl 6 (by decide) (hq _ wX_610) rfl dX7_writeBits_41 ?_
        refine lv_aload_n hx hb dX7_writeBits_44 rfl (lv_at hl 0 rfl) ?_
        have e_g33_27 : g33 27 = (g 27) := ((hfr_g33 27 rfl)).trans (((h27 27 rfl)).trans (h11 27 rfl))
        refine hk_get (ci := 10) (C := RX7) (T := TX7) (N := 17) (v := .int (g 27)) hx hb hts (fun _ h => List.mem_cons_of_mem _ (wwXc_wsX70 _ h)) hown hw 18 rfl rfl 7 (by decide) (hq _ wX_568) (congrArg (fun z => some (Value.int z)) e_g33_27) dX7_writeBits_45 ?_
        refine lv_iload hx hb dX7_writeBits_48 (lv_at hl 4 rfl) ?_
        have e_g33_38 : g33 38 = (g6 38) := ((hfr_g33 38 rfl)).trans (h27 38 rfl)
        have e_g33_39 : g33 39 = (g6 39) := ((hfr_g33 39 rfl)).trans (h27 39 rfl)
        refine jx_Vv (As := [.int (g 27), .int x32]) (rest := []) ⟨hx, hb, hml, hown, hts⟩ hZ hw hA (jx_X1_choose l hlt D t3 cI cJ ad g33 l34 a35 b36 _ (g 27) x32 (ob262 ((g33 38).toInt) ((g6 38).toInt) ((g6 37).toInt) ((y1).toInt) ((y2).toInt) ((g6 39).toInt) ((y3).toInt) ((x32).toInt) (k37 : Int) (congrArg Int32.toInt e_g33_38) h14 hr0 hf_B31_0 (hE_nle cc38) hrk_B31 (hE_rng (g33 38)) (hE_rng (g6 38)) (hE_rng (g6 37)) (hE_rng (y1)) (hE_rng (y2)) (hE_rng (g6 39)) (hE_rng (y3)) (hE_rng (x32))) (ob263 ((g33 39).toInt) ((g6 39).toInt) ((g6 37).toInt) ((y1).toInt) ((g6 38).toInt) ((y2).toInt) ((y3).toInt) ((x32).toInt) ((g33 38).toInt) (k37 : Int) (congrArg Int32.toInt e_g33_39) h14 hr0 hf_B31_0 (hE_nle cc38) (congrArg Int32.toInt e_g33_38) hrk_B31 (hE_rng (g33 39)) (hE_rng (g6 39)) (hE_rng (g6 37)) (hE_rng (y1)) (hE_rng (g6 38)) (hE_rng (y2)) (hE_rng (y3)) (hE_rng (x32)) (hE_rng (g33 38))) (ob227 ((g33 41).toInt) hf_B31_1 (hE_rng (g33 41))) (hk_pE (P := hk_rg (-2147483648) 1501) (hk_pE (P := hk_rg (-2147483648) 1501) h16 (h29 12 rfl)) (hfr_a35 12 rfl)) (hk_pE (P := hk_rg (-2147483648) 273) (hk_pE (P := hk_rg (-2147483648) 273) h15 (h29 8 rfl)) (hfr_a35 8 rfl))) (cwV 2 hts (jx_gV wwX_good wX_620 wX_621 wX_622 wX_195 wX_623) rfl rfl rfl (by decide +kernel) ⟨Nat.le_of_ble_eq_true rfl, Nat.le_of_ble_eq_true rfl⟩) 19 (ci := 4) (T := TX1) (N := 13) rfl rfl rfl hl.1 rfl (Nat.le_of_ble_eq_true rfl) dX7_writeBits_50 ⟨Nat.le_of_ble_eq_true rfl, Nat.le_of_ble_eq_true rfl⟩ (fun _ _ _ _ _ _ _ _ hp _ _ _ _ => hp.elim) (fun g82 l83 a84 b85 H locs hp86 hw => ?_)
        obtain ⟨h87, h88, h89, h90⟩ := hp86
        have hr91 : hk_rg 0 255 (a84 0) := (hk_pE (P := hk_rg 0 255) (hk_pE (P := hk_rg 0 255) hr30 (hfr_a35 0 rfl)) (h89 0 rfl))
        have hr92 : hk_rg (-2147483648) 273 (a84 8) := (hk_pE (P := hk_rg (-2147483648) 273) (hk_pE (P := hk_rg (-2147483648) 273) (hk_pE (P := hk_rg (-2147483648) 273) h15 (h29 8 rfl)) (hfr_a35 8 rfl)) (h89 8 rfl))
        have hr93 : hk_rg (-2147483648) 1501 (a84 12) := (hk_pE (P := hk_rg (-2147483648) 1501) (hk_pE (P := hk_rg (-2147483648) 1501) (hk_pE (P := hk_rg (-2147483648) 1501) h16 (h29 12 rfl)) (hfr_a35 12 rfl)) (h89 12 rfl))
        refine lv_aload_n hx hb dX7_writeBits_53 rfl (lv_at hl 0 rfl) ?_
        refine lv_iload_n hx hb dX7_writeBits_54 rfl (lv_at hl 1 rfl) ?_
        refine lv_iload hx hb dX7_writeBits_55 (lv_at hl 4 rfl) ?_
        have e_g82_18 : g82 18 = (g22 18) := ((h87 18 rfl)).trans (hfr_g33 18 rfl)
        refine jx_Vv (As := [.int y1, .int x32]) (rest := []) ⟨hx, hb, hml, hown, hts⟩ hZ hw hA (jx_X7_writeChoice l hlt D t3 cI cJ ad g82 l83 a84 b85 _ y1 x32 (ob261 ((g82 18).toInt) ((g22 18).toInt) (congrArg Int32.toInt e_g82_18) (hE_rng (g82 18)) (hE_rng (g22 18))) hr91) (cwV 2 hts (jx_gV wwX_good wX_624 wX_625 wX_626 wX_122 wX_627) rfl rfl rfl (by decide +kernel) ⟨Nat.le_of_ble_eq_true rfl, Nat.le_of_ble_eq_true rfl⟩) 18 (ci := 10) (T := TX7) (N := 17) rfl rfl rfl hl.1 rfl (Nat.le_of_ble_eq_true rfl) dX7_writeBits_57 ⟨Nat.le_of_ble_eq_true rfl, Nat.le_of_ble_eq_true rfl⟩ (fun _ _ _ _ _ _ _ _ hp _ _ _ _ => hp.elim) (fun g99 l100 a101 b102 H locs hp103 hw => ?_)
        obtain ⟨h104, h105, h106⟩ := hp103
        refine lv_iload hx hb dX7_writeBits_60 (lv_at hl 4 rfl) ?_
        refine lv_iconst (v := 1) hx hb dX7_writeBits_62 (by decide) ?_
        refine lv_aload_n hx hb dX7_writeBits_63 rfl (lv_at hl 0 rfl) ?_
        refine hk_get (ci := 10) (C := RX7) (T := TX7) (N := 17) (v := .ref (ad 19)) hx hb hts (fun _ h => List.mem_cons_of_mem _ (wwXc_wsX70 _ h)) hown hw 18 rfl rfl 6 (by decide) (hq _ wX_610) rfl dX7_writeBits_64 ?_
        have e_g99_41 : g99 41 = (g82 41) := (h104 41 rfl)
        refine hk_get (ci := 4) (C := RX1) (T := TX1) (N := 13) (v := .int (g82 41)) hx hb hts (fun _ h => List.mem_cons_of_mem _ (wwXc_wsX10 _ h)) hown hw 19 rfl rfl 11 (by decide) (hq _ wX_628) (congrArg (fun z => some (Value.int z)) e_g99_41) dX7_writeBits_67 ?_
        refine jx_Si (As := [.int 1, .int (g82 41)]) (rest := [.int x32]) ⟨hx, hb, hml, hown, hts⟩ hZ hw hA (jx_J9_max_7cf53 l hlt D t3 cI cJ ad g99 l100 a101 b102 _ 1 (g82 41)) (va_cwS 2 hts (jx_gS wwX_good wX_629 wX_142 wX_143 wX_144) rfl rfl rfl (by decide +kernel) ⟨Nat.le_of_ble_eq_true rfl, Nat.le_of_ble_eq_true rfl⟩) rfl hl.1 rfl (Nat.le_of_ble_eq_true rfl) dX7_writeBits_70 ⟨Nat.le_of_ble_eq_true rfl, Nat.le_of_ble_eq_true rfl⟩ (fun _ _ _ _ _ _ _ _ hp _ _ _ _ => hp.elim) (fun r111 g112 l113 a114 b115 H locs hp116 hw => ?_)
        obtain ⟨h117, h118, h119, h120⟩ := hp116
        have hr121 : hk_rg 0 255 (a114 0) := (hk_pE (P := hk_rg 0 255) (hk_pE (P := hk_rg 0 255) hr91 (h106 0 rfl)) (h119 0 rfl))
        have hr122 : hk_rg (-2147483648) 273 (a114 8) := (hk_pE (P := hk_rg (-2147483648) 273) (hk_pE (P := hk_rg (-2147483648) 273) hr92 (h106 8 rfl)) (h119 8 rfl))
        have hr123 : hk_rg (-2147483648) 1501 (a114 12) := (hk_pE (P := hk_rg (-2147483648) 1501) (hk_pE (P := hk_rg (-2147483648) 1501) hr93 (h106 12 rfl)) (h119 12 rfl))
        refine lv_iadd hx hb dX7_writeBits_73 (jx_nm fun z124 hz124 => ?_)
        refine lv_istore (lv' := [(5, .int z124), (0, .ref (ad 18)), (1, .int y1), (3, .int y3), (4, .int y4)]) hx hb dX7_writeBits_74 hl (by decide) rfl (fun ls hl => ?_)
        refine lv_goto (tgt := 34) hx hb dX7_writeBits_76 (by decide) ?_
        have e_g112_41 : g112 41 = (g82 41) := ((h117 41 rfl)).trans e_g99_41
        exact ih_B31 z124 g112 l113 a114 b115 ls _ _ (ob264 ((z124).toInt) (k37 : Int) ((x32).toInt) ((r111).toInt) ((y2).toInt) ((y3).toInt) (((1 : Int32)).toInt) ((g82 41).toInt) ((y1).toInt) ((g6 37).toInt) ((g6 38).toInt) ((g6 39).toInt) ((g99 41).toInt) ((g33 38).toInt) ((g33 39).toInt) hrk_B31 (hE_add hz124) hf_B31_0 (hE_nle cc38) h120 hr0 h14 h90 (congrArg Int32.toInt e_g99_41) (congrArg Int32.toInt e_g33_38) (congrArg Int32.toInt e_g33_39) (hE_rng (z124)) (hE_rng (x32)) (hE_rng (r111)) (hE_rng (y2)) (hE_rng (y3)) (by decide) (hE_rng (g82 41)) (hE_rng (y1)) (hE_rng (g6 37)) (hE_rng (g6 38)) (hE_rng (g6 39)) (hE_rng (g99 41)) (hE_rng (g33 38)) (hE_rng (g33 39))) (ob265 ((y2).toInt) ((z124).toInt) ((y1).toInt) ((y3).toInt) ((g6 37).toInt) ((g6 38).toInt) ((g6 39).toInt) ((x32).toInt) ((r111).toInt) (k37 : Int) ((g33 38).toInt) ((g33 39).toInt) (((1 : Int32)).toInt) ((g82 41).toInt) ((g99 41).toInt) hr0 h14 hf_B31_0 (hE_add hz124) hrk_B31 (hE_nle cc38) (congrArg Int32.toInt e_g33_38) (congrArg Int32.toInt e_g33_39) h120 h90 (congrArg Int32.toInt e_g99_41) (hE_rng (y2)) (hE_rng (z124)) (hE_rng (y1)) (hE_rng (y3)) (hE_rng (g6 37)) (hE_rng (g6 38)) (hE_rng (g6 39)) (hE_rng (x32)) (hE_rng (r111)) (hE_rng (g33 38)) (hE_rng (g33 39)) (by decide) (hE_rng (g82 41)) (hE_rng (g99 41))) (ob266 ((g112 41).toInt) ((g82 41).toInt) ((g99 41).toInt) (((1 : Int32)).toInt) ((r111).toInt) ((z124).toInt) ((x32).toInt) ((y2).toInt) (k37 : Int) ((y3).toInt) ((y1).toInt) ((g6 37).toInt) ((g6 38).toInt) ((g6 39).toInt) (congrArg Int32.toInt e_g112_41) h90 (congrArg Int32.toInt e_g99_41) h120 (hE_add hz124) hf_B31_0 hrk_B31 (hE_nle cc38) hr0 h14 (hE_rng (g112 41)) (hE_rng (g82 41)) (hE_rng (g99 41)) (by decide) (hE_rng (r111)) (hE_rng (z124)) (hE_rng (x32)) (hE_rng (y2)) (hE_rng (y3)) (hE_rng (y1)) (hE_rng (g6 37)) (hE_rng (g6 38)) (hE_rng (g6 39))) (hk_frT (hk_frT (hk_frT hfr_g33 (by decide) h87) (by decide) h104) (by decide) h117) (hk_frT (hk_frT (hk_frT hfr_l34 (by decide) h88) (by decide) h105) (by decide) h118) (hk_frT (hk_frT (hk_frT hfr_a35 (by decide) h89) (by decide) h106) (by decide) h119) hw (lv_sub hl [1, 2, 3, 4, 0] rfl)
  have e_g22_41 : g22 41 = (g 41) := ((h27 41 rfl)).trans (h11 41 rfl)
  exact B31 (2147483648 - (y2).toInt).toNat y2 g22 l23 a24 b25 ls _ _ (Int.self_le_toNat _) (ob267 ((y2).toInt) ((y1).toInt) ((y3).toInt) ((g6 37).toInt) ((g6 38).toInt) ((g6 39).toInt) hr0 h14 (hE_rng (y2)) (hE_rng (y1)) (hE_rng (y3)) (hE_rng (g6 37)) (hE_rng (g6 38)) (hE_rng (g6 39))) (ob229 ((g22 41).toInt) ((g 41).toInt) (congrArg Int32.toInt e_g22_41) hi_g41 (hE_rng (g22 41)) (hE_rng (g 41))) hk_fr0 hk_fr0 hk_fr0 hw (lv_sub hl [1, 2, 4, 5, 0] rfl)

set_option maxHeartbeats 4000000 in
set_option maxRecDepth 100000 in
/-- X7_writeAlone on (18,) -/
theorem jx_X7_writeAlone (l : Launch) (hlt : l.stackTraces = false) (D : va_G) (t3 : Nat × Nat × Nat) (cI cJ : ClassId) (ad : Nat → Nat) (g : Nat → Int32) (lg : Nat → Int64) (ar : Nat → Nat → Int32) (bk : Nat → Int64) (sz : Nat) (hi_g13 : 0 ≤ (g 13).toInt ∧ (g 13).toInt ≤ 1500) (hi_a8rg : hk_rg (-2147483648) 273 (ar 8)) (hi_a12rg : hk_rg (-2147483648) 1501 (ar 12)) (hi_g41 : -2147483648 ≤ (g 41).toInt ∧ (g 41).toInt ≤ 1501) (hi_a0rg : hk_rg 0 255 (ar 0)) : JMv l yX7_writeAlone (Cond.code yX7_writeAlone cX7_writeAlone 2 none :: wwX) { frames := 12, cells := 1, slots := 6, locals := 239 } t3 D xw cI cJ ad [.ref (ad 18)] (xw cI cJ ad g lg ar bk) sz 1 6 (fun g' lg' ar' bk' => hk_fr [14, 15, 17, 18, 19, 20, 24, 25, 37, 38, 39, 40, 41, 42] g g' ∧ hk_fr [0, 1, 2] lg lg' ∧ hk_fr [1, 2, 6, 8, 9, 10, 11, 12] ar ar' ∧ hk_rg (-2147483648) 273 (ar' 8) ∧ hk_rg (-2147483648) 1501 (ar' 12) ∧ (-2147483648 ≤ (g' 41).toInt ∧ (g' 41).toInt ≤ 1501)) (fun g' lg' ar' bk' => False) := by
  refine jx_metv (cc := cX7_writeAlone) (maxL := 2) (ret := none) rfl (by decide) rfl (Nat.le_of_ble_eq_true rfl) ?_
  intro p e s m args below meth c ls Q A hx hb hml hown hts hA hZ hw hl hQ kr kt
  have hq : ∀ w ∈ wwX, w.before args s = true := fun w h => hts w (List.mem_cons_of_mem _ h)
  have hl : lv_has ls 2 [(0, .ref (ad 18))] := hl
  refine lv_aload_n hx hb dX7_writeAlone_0 rfl (lv_at hl 0 rfl) ?_
  refine hk_get (ci := 10) (C := RX7) (T := TX7) (N := 17) (v := .ref (ad 1)) hx hb hts (fun _ h => List.mem_cons_of_mem _ (wwXc_wsX70 _ h)) hown hw 18 rfl rfl 0 (by decide) (hq _ wX_574) rfl dX7_writeAlone_1 ?_
  refine hk_get (ci := 13) (C := RX10) (T := TX10) (N := 10) (v := .int (g 10)) hx hb hts (fun _ h => List.mem_cons_of_mem _ (wwXc_wsX100 _ h)) hown hw 1 rfl rfl 7 (by decide) (hq _ wX_598) rfl dX7_writeAlone_4 ?_
  refine lv_iconst (v := 1) hx hb dX7_writeAlone_7 (by decide) ?_
  have B1 : ∀  (x2 : Int32) (ls : Array Slot) (H : Heap) (locs : List Loc), 0 ≤ (x2).toInt ∧ (x2).toInt ≤ 1 → hk_W D (jT cI cJ) A s H locs (xw cI cJ ad g lg ar bk) → lv_has ls 2 [(0, .ref (ad 18))] → W p l e { frames := 12, cells := 1, slots := 6, locals := 239 } s m args below meth c H locs 0 0 Q (F0 m 16 ls [.int x2]) := by
    intro x2 ls H locs hf_B1_0 hw hl
    refine lv_istore_n (lv' := [(1, .int x2), (0, .ref (ad 18))]) hx hb dX7_writeAlone_16 rfl hl (by decide) rfl (fun ls hl => ?_)
    refine lv_aload_n hx hb dX7_writeAlone_17 rfl (lv_at hl 1 rfl) ?_
    refine hk_get (ci := 10) (C := RX7) (T := TX7) (N := 17) (v := .ref (ad 4)) hx hb hts (fun _ h => List.mem_cons_of_mem _ (wwXc_wsX70 _ h)) hown hw 18 rfl rfl 2 (by decide) (hq _ wX_569) rfl dX7_writeAlone_18 ?_
    refine lv_aload_n hx hb dX7_writeAlone_21 rfl (lv_at hl 1 rfl) ?_
    refine hk_get (ci := 10) (C := RX7) (T := TX7) (N := 17) (v := .ref (ad 1)) hx hb hts (fun _ h => List.mem_cons_of_mem _ (wwXc_wsX70 _ h)) hown hw 18 rfl rfl 0 (by decide) (hq _ wX_574) rfl dX7_writeAlone_22 ?_
    refine jx_Vi (As := []) (rest := [.ref (ad 4)]) ⟨hx, hb, hml, hown, hts⟩ hZ hw hA (jx_X10_propertyByte l hlt D t3 cI cJ ad g lg ar bk _) (cwV 0 hts (jx_gV wwX_good wX_590 wX_591 wX_592 wX_92 wX_593) rfl rfl rfl (by decide +kernel) ⟨Nat.le_of_ble_eq_true rfl, Nat.le_of_ble_eq_true rfl⟩) 1 (ci := 13) (T := TX10) (N := 10) rfl rfl rfl hl.1 rfl (Nat.le_of_ble_eq_true rfl) dX7_writeAlone_25 ⟨Nat.le_of_ble_eq_true rfl, Nat.le_of_ble_eq_true rfl⟩ (fun _ _ _ _ _ _ _ _ hp _ _ _ _ => hp.elim) (fun r7 g8 l9 a10 b11 H locs hp12 hw => ?_)
    obtain ⟨h13, h14, h15⟩ := hp12
    refine jx_Vv (As := [.int r7]) (rest := []) ⟨hx, hb, hml, hown, hts⟩ hZ hw hA (jx_X9_put_4 l hlt D t3 cI cJ ad g8 l9 a10 b11 _ r7) (cwV 1 hts (jx_gV wwX_good wX_599 wX_112 wX_113 wX_24 wX_114) rfl rfl rfl (by decide +kernel) ⟨Nat.le_of_ble_eq_true rfl, Nat.le_of_ble_eq_true rfl⟩) 4 (ci := 12) (T := TX9) (N := 2) rfl rfl rfl hl.1 rfl (Nat.le_of_ble_eq_true rfl) dX7_writeAlone_28 ⟨Nat.le_of_ble_eq_true rfl, Nat.le_of_ble_eq_true rfl⟩ (fun _ _ _ _ _ _ _ _ hp _ _ _ _ => hp.elim) (fun g21 l22 a23 b24 H locs hp25 hw => ?_)
    obtain ⟨h26, h27, h28, h29⟩ := hp25
    have e_g8_14 : g8 14 = (g 14) := (h13 14 rfl)
    have hr30 : hk_rg (-2147483648) 273 (a23 8) := (hk_pE (P := hk_rg (-2147483648) 273) (hk_pE (P := hk_rg (-2147483648) 273) hi_a8rg (h15 8 rfl)) (h28 8 rfl))
    have hr31 : hk_rg (-2147483648) 1501 (a23 12) := (hk_pE (P := hk_rg (-2147483648) 1501) (hk_pE (P := hk_rg (-2147483648) 1501) hi_a12rg (h15 12 rfl)) (h28 12 rfl))
    have hr32 : hk_rg 0 255 (a23 0) := (hk_pE (P := hk_rg 0 255) (hk_pE (P := hk_rg 0 255) hi_a0rg (h15 0 rfl)) (h28 0 rfl))
    refine lv_aload_n hx hb dX7_writeAlone_31 rfl (lv_at hl 1 rfl) ?_
    refine hk_get (ci := 10) (C := RX7) (T := TX7) (N := 17) (v := .ref (ad 4)) hx hb hts (fun _ h => List.mem_cons_of_mem _ (wwXc_wsX70 _ h)) hown hw 18 rfl rfl 2 (by decide) (hq _ wX_569) rfl dX7_writeAlone_32 ?_
    refine lv_aload_n hx hb dX7_writeAlone_35 rfl (lv_at hl 1 rfl) ?_
    refine hk_get (ci := 10) (C := RX7) (T := TX7) (N := 17) (v := .ref (ad 1)) hx hb hts (fun _ h => List.mem_cons_of_mem _ (wwXc_wsX70 _ h)) hown hw 18 rfl rfl 0 (by decide) (hq _ wX_574) rfl dX7_writeAlone_36 ?_
    have e_g21_6 : g21 6 = (g 6) := ((h26 6 rfl)).trans (h13 6 rfl)
    refine hk_get (ci := 13) (C := RX10) (T := TX10) (N := 10) (v := .int (g 6)) hx hb hts (fun _ h => List.mem_cons_of_mem _ (wwXc_wsX100 _ h)) hown hw 1 rfl rfl 3 (by decide) (hq _ wX_600) (congrArg (fun z => some (Value.int z)) e_g21_6) dX7_writeAlone_39 ?_
    refine lv_i2l hx hb dX7_writeAlone_42 rfl (jx_nl fun z33 hz33 => ?_)
    refine lv_iconst (v := 4) hx hb dX7_writeAlone_43 (by decide) ?_
    refine jx_Vv (As := [.long z33, .int 4]) (rest := []) ⟨hx, hb, hml, hown, hts⟩ hZ hw hA (jx_X9_putLow_4 l hlt D t3 cI cJ ad g21 l22 a23 b24 _ z33 4) (cwV 2 hts (jx_gV wwX_good wX_601 wX_602 wX_603 wX_24 wX_604) rfl rfl rfl (by decide +kernel) ⟨Nat.le_of_ble_eq_true rfl, Nat.le_of_ble_eq_true rfl⟩) 4 (ci := 12) (T := TX9) (N := 2) rfl rfl rfl hl.1 rfl (Nat.le_of_ble_eq_true rfl) dX7_writeAlone_44 ⟨Nat.le_of_ble_eq_true rfl, Nat.le_of_ble_eq_true rfl⟩ (fun _ _ _ _ _ _ _ _ hp _ _ _ _ => hp.elim) (fun g39 l40 a41 b42 H locs hp43 hw => ?_)
    obtain ⟨h44, h45, h46⟩ := hp43
    refine lv_aload_n hx hb dX7_writeAlone_47 rfl (lv_at hl 1 rfl) ?_
    refine hk_get (ci := 10) (C := RX7) (T := TX7) (N := 17) (v := .ref (ad 4)) hx hb hts (fun _ h => List.mem_cons_of_mem _ (wwXc_wsX70 _ h)) hown hw 18 rfl rfl 2 (by decide) (hq _ wX_569) rfl dX7_writeAlone_48 ?_
    refine lv_iload_n hx hb dX7_writeAlone_51 rfl (lv_at hl 0 rfl) ?_
    have B47 : ∀  (x48 : Int64) (ls : Array Slot) (H : Heap) (locs : List Loc), hk_W D (jT cI cJ) A s H locs (xw cI cJ ad g39 l40 a41 b42) → lv_has ls 2 [(0, .ref (ad 18)), (1, .int x2)] → W p l e { frames := 12, cells := 1, slots := 6, locals := 239 } s m args below meth c H locs 0 0 Q (F0 m 69 ls [.long x48, .ref (ad 4)]) := by
      intro x48 ls H locs hw hl
      refine lv_bipush (v := 8) hx hb dX7_writeAlone_69 (by decide) ?_
      refine jx_Vv (As := [.long x48, .int 8]) (rest := []) ⟨hx, hb, hml, hown, hts⟩ hZ hw hA (jx_X9_putLow_4 l hlt D t3 cI cJ ad g39 l40 a41 b42 _ x48 8) (cwV 2 hts (jx_gV wwX_good wX_601 wX_602 wX_603 wX_24 wX_604) rfl rfl rfl (by decide +kernel) ⟨Nat.le_of_ble_eq_true rfl, Nat.le_of_ble_eq_true rfl⟩) 4 (ci := 12) (T := TX9) (N := 2) rfl rfl rfl hl.1 rfl (Nat.le_of_ble_eq_true rfl) dX7_writeAlone_71 ⟨Nat.le_of_ble_eq_true rfl, Nat.le_of_ble_eq_true rfl⟩ (fun _ _ _ _ _ _ _ _ hp _ _ _ _ => hp.elim) (fun g54 l55 a56 b57 H locs hp58 hw => ?_)
      obtain ⟨h59, h60, h61⟩ := hp58
      have hr62 : hk_rg (-2147483648) 273 (a56 8) := (hk_pE (P := hk_rg (-2147483648) 273) (hk_pE (P := hk_rg (-2147483648) 273) hr30 (h46 8 rfl)) (h61 8 rfl))
      have hr63 : hk_rg (-2147483648) 1501 (a56 12) := (hk_pE (P := hk_rg (-2147483648) 1501) (hk_pE (P := hk_rg (-2147483648) 1501) hr31 (h46 12 rfl)) (h61 12 rfl))
      have hr64 : hk_rg 0 255 (a56 0) := (hk_pE (P := hk_rg 0 255) (hk_pE (P := hk_rg 0 255) hr32 (h46 0 rfl)) (h61 0 rfl))
      refine lv_aload_n hx hb dX7_writeAlone_74 rfl (lv_at hl 0 rfl) ?_
      refine lv_iconst (v := 0) hx hb dX7_writeAlone_75 (by decide) ?_
      refine lv_iconst (v := 0) hx hb dX7_writeAlone_76 (by decide) ?_
      refine lv_aload_n hx hb dX7_writeAlone_77 rfl (lv_at hl 0 rfl) ?_
      refine hk_get (ci := 10) (C := RX7) (T := TX7) (N := 17) (v := .ref (ad 2)) hx hb hts (fun _ h => List.mem_cons_of_mem _ (wwXc_wsX70 _ h)) hown hw 18 rfl rfl 1 (by decide) (hq _ wX_594) rfl dX7_writeAlone_78 ?_
      have e_g54_13 : g54 13 = (g 13) := ((h59 13 rfl)).trans (((h44 13 rfl)).trans (((h26 13 rfl)).trans (h13 13 rfl)))
      refine hk_get (ci := 12) (C := RX9) (T := TX9) (N := 2) (v := .int (g 13)) hx hb hts (fun _ h => List.mem_cons_of_mem _ (wwXc_wsX90 _ h)) hown hw 2 rfl rfl 1 (by decide) (hq _ wX_570) (congrArg (fun z => some (Value.int z)) e_g54_13) dX7_writeAlone_81 ?_
      refine lv_iload_n hx hb dX7_writeAlone_84 rfl (lv_at hl 1 rfl) ?_
      have e_g54_41 : g54 41 = (g 41) := ((h59 41 rfl)).trans (((h44 41 rfl)).trans (((h26 41 rfl)).trans (h13 41 rfl)))
      refine jx_Vv (As := [.int 0, .int 0, .int (g 13), .int x2]) (rest := []) ⟨hx, hb, hml, hown, hts⟩ hZ hw hA (jx_X7_writeBits l hlt D t3 cI cJ ad g54 l55 a56 b57 _ 0 0 (g 13) x2 (ob268 (((0 : Int32)).toInt) ((g 13).toInt) ((g54 13).toInt) hi_g13 (congrArg Int32.toInt e_g54_13) (by decide) (hE_rng (g 13)) (hE_rng (g54 13))) hr62 hr63 (ob229 ((g54 41).toInt) ((g 41).toInt) (congrArg Int32.toInt e_g54_41) hi_g41 (hE_rng (g54 41)) (hE_rng (g 41))) hr64) (cwV 4 hts (jx_gV wwX_good wX_606 wX_607 wX_608 wX_122 wX_609) rfl rfl rfl (by decide +kernel) ⟨Nat.le_of_ble_eq_true rfl, Nat.le_of_ble_eq_true rfl⟩) 18 (ci := 10) (T := TX7) (N := 17) rfl rfl rfl hl.1 rfl (Nat.le_of_ble_eq_true rfl) dX7_writeAlone_85 ⟨Nat.le_of_ble_eq_true rfl, Nat.le_of_ble_eq_true rfl⟩ (fun _ _ _ _ _ _ _ _ hp _ _ _ _ => hp.elim) (fun g70 l71 a72 b73 H locs hp74 hw => ?_)
      obtain ⟨h75, h76, h77, h78, h79, h80⟩ := hp74
      exact kr g70 l71 a72 b73 _ _ _ _ ⟨(hk_frT (hk_frT (hk_frT (hk_frT (hk_frT hk_fr0 (by decide) h13) (by decide) h26) (by decide) h44) (by decide) h59) (by decide) h75), (hk_frT (hk_frT (hk_frT (hk_frT (hk_frT hk_fr0 (by decide) h14) (by decide) h27) (by decide) h45) (by decide) h60) (by decide) h76), (hk_frT (hk_frT (hk_frT (hk_frT (hk_frT hk_fr0 (by decide) h15) (by decide) h28) (by decide) h46) (by decide) h61) (by decide) h77), h78, h79, (ob227 ((g70 41).toInt) h80 (hE_rng (g70 41)))⟩ hw dX7_writeAlone_88
    refine lv_if_eq (tgt := 61) hx hb dX7_writeAlone_52 (by decide) (fun cc81 => ?_) (fun cc81 => ?_)
    · refine lv_aload_n hx hb dX7_writeAlone_61 rfl (lv_at hl 1 rfl) ?_
      refine hk_get (ci := 10) (C := RX7) (T := TX7) (N := 17) (v := .ref (ad 2)) hx hb hts (fun _ h => List.mem_cons_of_mem _ (wwXc_wsX70 _ h)) hown hw 18 rfl rfl 1 (by decide) (hq _ wX_594) rfl dX7_writeAlone_62 ?_
      have e_g39_13 : g39 13 = (g 13) := ((h44 13 rfl)).trans (((h26 13 rfl)).trans (h13 13 rfl))
      refine hk_get (ci := 12) (C := RX9) (T := TX9) (N := 2) (v := .int (g 13)) hx hb hts (fun _ h => List.mem_cons_of_mem _ (wwXc_wsX90 _ h)) hown hw 2 rfl rfl 1 (by decide) (hq _ wX_570) (congrArg (fun z => some (Value.int z)) e_g39_13) dX7_writeAlone_65 ?_
      refine lv_i2l hx hb dX7_writeAlone_68 rfl (jx_nl fun z82 hz82 => ?_)
      exact B47 z82 ls _ _ hw (lv_sub hl [1, 0] rfl)
    · refine lv_ldc2 (v := (-1)) hx hb hown (hq _ wX_605) dX7_writeAlone_55 ?_
      refine lv_goto (tgt := 69) hx hb dX7_writeAlone_58 (by decide) ?_
      exact B47 (-1) ls _ _ hw (lv_sub hl [1, 0] rfl)
  refine lv_icmp_ne (tgt := 15) hx hb dX7_writeAlone_8 (by decide) (fun cc83 => ?_) (fun cc83 => ?_)
  · refine lv_iconst (v := 0) hx hb dX7_writeAlone_15 (by decide) ?_
    exact B1 0 ls _ _ (ob36 (((0 : Int32)).toInt) (by decide)) hw (lv_sub hl [0] rfl)
  · refine lv_iconst (v := 1) hx hb dX7_writeAlone_11 (by decide) ?_
    refine lv_goto (tgt := 16) hx hb dX7_writeAlone_12 (by decide) ?_
    exact B1 1 ls _ _ (ob269 (((1 : Int32)).toInt) ((g 10).toInt) (hE_eq cc83) (by decide) (hE_rng (g 10))) hw (lv_sub hl [0] rfl)

set_option maxHeartbeats 4000000 in
set_option maxRecDepth 100000 in
/-- X7_startPart on (18,) -/
theorem jx_X7_startPart (l : Launch) (hlt : l.stackTraces = false) (D : va_G) (t3 : Nat × Nat × Nat) (cI cJ : ClassId) (ad : Nat → Nat) (g : Nat → Int32) (lg : Nat → Int64) (ar : Nat → Nat → Int32) (bk : Nat → Int64) (sz : Nat) (y1 : Int32) (hi_g21 : 0 ≤ (g 21).toInt ∧ (g 21).toInt ≤ 4) (hi_g22 : 0 ≤ (g 22).toInt ∧ (g 22).toInt ≤ 4) : JMv l yX7_startPart (Cond.code yX7_startPart cX7_startPart 2 none :: wwX) { frames := 3, cells := 1, slots := 6, locals := 67 } t3 D xw cI cJ ad [.ref (ad 18), .int y1] (xw cI cJ ad g lg ar bk) sz 1 6 (fun g' lg' ar' bk' => hk_fr [14, 24, 33, 34, 35, 36] g g' ∧ hk_fr [] lg lg' ∧ hk_fr [1, 2] ar ar') (fun g' lg' ar' bk' => False) := by
  refine jx_metv (cc := cX7_startPart) (maxL := 2) (ret := none) rfl (by decide) rfl (Nat.le_of_ble_eq_true rfl) ?_
  intro p e s m args below meth c ls Q A hx hb hml hown hts hA hZ hw hl hQ kr kt
  have hq : ∀ w ∈ wwX, w.before args s = true := fun w h => hts w (List.mem_cons_of_mem _ h)
  have hl : lv_has ls 2 [(0, .ref (ad 18)), (1, .int y1)] := hl
  refine lv_aload_n hx hb dX7_startPart_0 rfl (lv_at hl 0 rfl) ?_
  refine lv_aload_n hx hb dX7_startPart_1 rfl (lv_at hl 0 rfl) ?_
  refine hk_get (ci := 10) (C := RX7) (T := TX7) (N := 17) (v := .ref (ad 4)) hx hb hts (fun _ h => List.mem_cons_of_mem _ (wwXc_wsX70 _ h)) hown hw 18 rfl rfl 2 (by decide) (hq _ wX_569) rfl dX7_startPart_2 ?_
  refine hk_get (ci := 12) (C := RX9) (T := TX9) (N := 2) (v := .int (g 14)) hx hb hts (fun _ h => List.mem_cons_of_mem _ (wwXc_wsX90 _ h)) hown hw 4 rfl rfl 1 (by decide) (hq _ wX_570) rfl dX7_startPart_5 ?_
  refine jx_putg xw (g := g) (lg := lg) (ar := ar) (bk := bk) (x := (g 14)) 33 (ci := 10) (C := RX7) (T := TX7) (N := 17) (ty := .int) hx hb hts (fun _ h => List.mem_cons_of_mem _ (wwXc_wsX70 _ h)) tyX7 tyX7_ok nmX7 hown hw 18 rfl rfl 13 (by decide) (hq _ wX_581) rfl (by decide +kernel) rfl rfl (Nat.le_of_ble_eq_true rfl) dX7_startPart_8 rfl (fun H locs g1 h_g1 hw => ?_)
  refine lv_aload_n hx hb dX7_startPart_11 rfl (lv_at hl 0 rfl) ?_
  refine lv_aload_n hx hb dX7_startPart_12 rfl (lv_at hl 0 rfl) ?_
  refine hk_get (ci := 10) (C := RX7) (T := TX7) (N := 17) (v := .ref (ad 15)) hx hb hts (fun _ h => List.mem_cons_of_mem _ (wwXc_wsX70 _ h)) hown hw 18 rfl rfl 5 (by decide) (hq _ wX_571) rfl dX7_startPart_13 ?_
  have e_g1_25 : g1 25 = (g 25) := (hk_upgN h_g1 25 rfl)
  refine hk_get (ci := 7) (C := RX4) (T := TX4) (N := 4) (v := .int (g 25)) hx hb hts (fun _ h => List.mem_cons_of_mem _ (wwXc_wsX40 _ h)) hown hw 15 rfl rfl 2 (by decide) (hq _ wX_583) (congrArg (fun z => some (Value.int z)) e_g1_25) dX7_startPart_16 ?_
  refine jx_putg xw (g := g1) (lg := lg) (ar := ar) (bk := bk) (x := (g 25)) 35 (ci := 10) (C := RX7) (T := TX7) (N := 17) (ty := .int) hx hb hts (fun _ h => List.mem_cons_of_mem _ (wwXc_wsX70 _ h)) tyX7 tyX7_ok nmX7 hown hw 18 rfl rfl 15 (by decide) (hq _ wX_582) rfl (by decide +kernel) rfl rfl (Nat.le_of_ble_eq_true rfl) dX7_startPart_19 rfl (fun H locs g2 h_g2 hw => ?_)
  refine lv_aload_n hx hb dX7_startPart_22 rfl (lv_at hl 0 rfl) ?_
  refine lv_aload_n hx hb dX7_startPart_23 rfl (lv_at hl 0 rfl) ?_
  refine hk_get (ci := 10) (C := RX7) (T := TX7) (N := 17) (v := .ref (ad 9)) hx hb hts (fun _ h => List.mem_cons_of_mem _ (wwXc_wsX70 _ h)) hown hw 18 rfl rfl 3 (by decide) (hq _ wX_573) rfl dX7_startPart_24 ?_
  have e_g2_24 : g2 24 = (g 24) := ((hk_upgN h_g2 24 rfl)).trans (hk_upgN h_g1 24 rfl)
  refine hk_get (ci := 8) (C := RX5) (T := TX5) (N := 6) (v := .int (g 24)) hx hb hts (fun _ h => List.mem_cons_of_mem _ (wwXc_wsX50 _ h)) hown hw 9 rfl rfl 5 (by decide) (hq _ wX_585) (congrArg (fun z => some (Value.int z)) e_g2_24) dX7_startPart_27 ?_
  refine jx_putg xw (g := g2) (lg := lg) (ar := ar) (bk := bk) (x := (g 24)) 36 (ci := 10) (C := RX7) (T := TX7) (N := 17) (ty := .int) hx hb hts (fun _ h => List.mem_cons_of_mem _ (wwXc_wsX70 _ h)) tyX7 tyX7_ok nmX7 hown hw 18 rfl rfl 16 (by decide) (hq _ wX_584) rfl (by decide +kernel) rfl rfl (Nat.le_of_ble_eq_true rfl) dX7_startPart_30 rfl (fun H locs g3 h_g3 hw => ?_)
  refine lv_iload_n hx hb dX7_startPart_33 rfl (lv_at hl 1 rfl) ?_
  have B4 : ∀  (g5 : Nat → Int32) (a6 : Nat → Nat → Int32) (b7 : Nat → Int64) (ls : Array Slot) (H : Heap) (locs : List Loc), hk_fr [24] g3 g5 → hk_fr [2] ar a6 → hk_W D (jT cI cJ) A s H locs (xw cI cJ ad g5 lg a6 b7) → lv_has ls 2 [(0, .ref (ad 18)), (1, .int y1)] → W p l e { frames := 3, cells := 1, slots := 6, locals := 67 } s m args below meth c H locs 0 0 Q (F0 m 44 ls []) := by
    intro g5 a6 b7 ls H locs hfr_g5 hfr_a6 hw hl
    refine lv_aload_n hx hb dX7_startPart_44 rfl (lv_at hl 0 rfl) ?_
    refine hk_get (ci := 10) (C := RX7) (T := TX7) (N := 17) (v := .ref (ad 4)) hx hb hts (fun _ h => List.mem_cons_of_mem _ (wwXc_wsX70 _ h)) hown hw 18 rfl rfl 2 (by decide) (hq _ wX_569) rfl dX7_startPart_45 ?_
    refine lv_lconst (v := 0) hx hb dX7_startPart_48 (by decide) ?_
    refine lv_iload_n hx hb dX7_startPart_49 rfl (lv_at hl 1 rfl) ?_
    refine lv_iconst (v := 1) hx hb dX7_startPart_50 (by decide) ?_
    have B8 : ∀  (x9 : Int32) (ls : Array Slot) (H : Heap) (locs : List Loc), 5 ≤ (x9).toInt ∧ (x9).toInt ≤ 6 → hk_W D (jT cI cJ) A s H locs (xw cI cJ ad g5 lg a6 b7) → lv_has ls 2 [(0, .ref (ad 18))] → W p l e { frames := 3, cells := 1, slots := 6, locals := 67 } s m args below meth c H locs 0 0 Q (F0 m 60 ls [.int x9, .long 0, .ref (ad 4)]) := by
      intro x9 ls H locs hf_B8_0 hw hl
      refine jx_Vv (As := [.long 0, .int x9]) (rest := []) ⟨hx, hb, hml, hown, hts⟩ hZ hw hA (jx_X9_putHigh_4 l hlt D t3 cI cJ ad g5 lg a6 b7 _ 0 x9 (ob270 ((x9).toInt) hf_B8_0 (hE_rng (x9)))) (cwV 2 hts (jx_gV wwX_good wX_597 wX_85 wX_86 wX_24 wX_87) rfl rfl rfl (by decide +kernel) ⟨Nat.le_of_ble_eq_true rfl, Nat.le_of_ble_eq_true rfl⟩) 4 (ci := 12) (T := TX9) (N := 2) rfl rfl rfl hl.1 rfl (Nat.le_of_ble_eq_true rfl) dX7_startPart_60 ⟨Nat.le_of_ble_eq_true rfl, Nat.le_of_ble_eq_true rfl⟩ (fun _ _ _ _ _ _ _ _ hp _ _ _ _ => hp.elim) (fun g15 l16 a17 b18 H locs hp19 hw => ?_)
      obtain ⟨h20, h21, h22, h23⟩ := hp19
      have e_g5_14 : g5 14 = (g 14) := ((hfr_g5 14 rfl)).trans (((hk_upgN h_g3 14 rfl)).trans (((hk_upgN h_g2 14 rfl)).trans (hk_upgN h_g1 14 rfl)))
      refine lv_aload_n hx hb dX7_startPart_63 rfl (lv_at hl 0 rfl) ?_
      refine lv_aload_n hx hb dX7_startPart_64 rfl (lv_at hl 0 rfl) ?_
      refine hk_get (ci := 10) (C := RX7) (T := TX7) (N := 17) (v := .ref (ad 4)) hx hb hts (fun _ h => List.mem_cons_of_mem _ (wwXc_wsX70 _ h)) hown hw 18 rfl rfl 2 (by decide) (hq _ wX_569) rfl dX7_startPart_65 ?_
      refine hk_get (ci := 12) (C := RX9) (T := TX9) (N := 2) (v := .int (g15 14)) hx hb hts (fun _ h => List.mem_cons_of_mem _ (wwXc_wsX90 _ h)) hown hw 4 rfl rfl 1 (by decide) (hq _ wX_570) rfl dX7_startPart_68 ?_
      refine jx_putg xw (g := g15) (lg := l16) (ar := a17) (bk := b18) (x := (g15 14)) 34 (ci := 10) (C := RX7) (T := TX7) (N := 17) (ty := .int) hx hb hts (fun _ h => List.mem_cons_of_mem _ (wwXc_wsX70 _ h)) tyX7 tyX7_ok nmX7 hown hw 18 rfl rfl 14 (by decide) (hq _ wX_580) rfl (by decide +kernel) rfl rfl (Nat.le_of_ble_eq_true rfl) dX7_startPart_71 rfl (fun H locs g24 h_g24 hw => ?_)
      exact kr g24 l16 a17 b18 _ _ _ _ ⟨(hk_frG (hk_frT (hk_frT (hk_frG (hk_frG (hk_frG hk_fr0 (by decide) h_g1) (by decide) h_g2) (by decide) h_g3) (by decide) hfr_g5) (by decide) h20) (by decide) h_g24), h21, (hk_frT (hk_frT hk_fr0 (by decide) hfr_a6) (by decide) h22)⟩ hw dX7_startPart_74
    refine lv_icmp_le (tgt := 59) hx hb dX7_startPart_51 (by decide) (fun cc25 => ?_) (fun cc25 => ?_)
    · refine lv_iconst (v := 5) hx hb dX7_startPart_59 (by decide) ?_
      exact B8 5 ls _ _ (ob271 (((5 : Int32)).toInt) (by decide)) hw (lv_sub hl [0] rfl)
    · refine lv_bipush (v := 6) hx hb dX7_startPart_54 (by decide) ?_
      refine lv_goto (tgt := 60) hx hb dX7_startPart_56 (by decide) ?_
      exact B8 6 ls _ _ (ob272 (((6 : Int32)).toInt) (by decide)) hw (lv_sub hl [0] rfl)
  refine lv_if_le (tgt := 44) hx hb dX7_startPart_34 (by decide) (fun cc26 => ?_) (fun cc26 => ?_)
  · exact B4 g3 ar bk ls _ _ hk_fr0 hk_fr0 hw (lv_sub hl [0, 1] rfl)
  · refine lv_aload_n hx hb dX7_startPart_37 rfl (lv_at hl 0 rfl) ?_
    refine hk_get (ci := 10) (C := RX7) (T := TX7) (N := 17) (v := .ref (ad 9)) hx hb hts (fun _ h => List.mem_cons_of_mem _ (wwXc_wsX70 _ h)) hown hw 18 rfl rfl 3 (by decide) (hq _ wX_573) rfl dX7_startPart_38 ?_
    have e_g3_21 : g3 21 = (g 21) := ((hk_upgN h_g3 21 rfl)).trans (((hk_upgN h_g2 21 rfl)).trans (hk_upgN h_g1 21 rfl))
    have e_g3_22 : g3 22 = (g 22) := ((hk_upgN h_g3 22 rfl)).trans (((hk_upgN h_g2 22 rfl)).trans (hk_upgN h_g1 22 rfl))
    refine jx_Vv (As := []) (rest := []) ⟨hx, hb, hml, hown, hts⟩ hZ hw hA (jx_X5_reset l hlt D t3 cI cJ ad g3 lg ar bk _ (ob61 ((g3 21).toInt) ((g 21).toInt) (congrArg Int32.toInt e_g3_21) hi_g21 (hE_rng (g3 21)) (hE_rng (g 21))) (ob61 ((g3 22).toInt) ((g 22).toInt) (congrArg Int32.toInt e_g3_22) hi_g22 (hE_rng (g3 22)) (hE_rng (g 22)))) (cwV 0 hts (jx_gV wwX_good wX_579 wX_419 wX_420 wX_215 wX_421) rfl rfl rfl (by decide +kernel) ⟨Nat.le_of_ble_eq_true rfl, Nat.le_of_ble_eq_true rfl⟩) 9 (ci := 8) (T := TX5) (N := 6) rfl rfl rfl hl.1 rfl (Nat.le_of_ble_eq_true rfl) dX7_startPart_41 ⟨Nat.le_of_ble_eq_true rfl, Nat.le_of_ble_eq_true rfl⟩ (fun _ _ _ _ _ _ _ _ hp _ _ _ _ => hp.elim) (fun g32 l33 a34 b35 H locs hp36 hw => ?_)
    obtain ⟨h37, h38, h39⟩ := hp36
    exact B4 g32 a34 b35 ls _ _ h37 h39 hw (lv_sub hl [0, 1] rfl)

set_option maxHeartbeats 4000000 in
set_option maxRecDepth 100000 in
/-- X7_endPart on (18,) -/
theorem jx_X7_endPart (l : Launch) (hlt : l.stackTraces = false) (D : va_G) (t3 : Nat × Nat × Nat) (cI cJ : ClassId) (ad : Nat → Nat) (g : Nat → Int32) (lg : Nat → Int64) (ar : Nat → Nat → Int32) (bk : Nat → Int64) (sz : Nat) (y1 : Int32) (y2 : Int32) : JMi l yX7_endPart (Cond.code yX7_endPart cX7_endPart 4 (some .boolean) :: wwX) { frames := 1, cells := 1, slots := 6, locals := 22 } t3 D xw cI cJ ad [.ref (ad 18), .int y1, .int y2] (xw cI cJ ad g lg ar bk) sz 1 6 (fun (r : Int32) g' lg' ar' bk' => hk_fr [14, 24, 25] g g' ∧ hk_fr [] lg lg' ∧ hk_fr [1] ar ar') (fun g' lg' ar' bk' => False) := by
  refine jx_metz (cc := cX7_endPart) (maxL := 4) (ret := (some .boolean)) rfl (by decide) rfl (Nat.le_of_ble_eq_true rfl) ?_
  intro p e s m args below meth c ls Q A hx hb hml hown hts hA hZ hw hl hQ kr kt
  have hq : ∀ w ∈ wwX, w.before args s = true := fun w h => hts w (List.mem_cons_of_mem _ h)
  have hl : lv_has ls 4 [(0, .ref (ad 18)), (1, .int y1), (2, .int y2)] := hl
  refine lv_aload_n hx hb dX7_endPart_0 rfl (lv_at hl 0 rfl) ?_
  refine hk_get (ci := 10) (C := RX7) (T := TX7) (N := 17) (v := .ref (ad 4)) hx hb hts (fun _ h => List.mem_cons_of_mem _ (wwXc_wsX70 _ h)) hown hw 18 rfl rfl 2 (by decide) (hq _ wX_569) rfl dX7_endPart_1 ?_
  refine hk_get (ci := 12) (C := RX9) (T := TX9) (N := 2) (v := .int (g 14)) hx hb hts (fun _ h => List.mem_cons_of_mem _ (wwXc_wsX90 _ h)) hown hw 4 rfl rfl 1 (by decide) (hq _ wX_570) rfl dX7_endPart_4 ?_
  refine lv_aload_n hx hb dX7_endPart_7 rfl (lv_at hl 0 rfl) ?_
  refine hk_get (ci := 10) (C := RX7) (T := TX7) (N := 17) (v := .int (g 34)) hx hb hts (fun _ h => List.mem_cons_of_mem _ (wwXc_wsX70 _ h)) hown hw 18 rfl rfl 14 (by decide) (hq _ wX_580) rfl dX7_endPart_8 ?_
  refine lv_isub hx hb dX7_endPart_11 (jx_nm fun z1 hz1 => ?_)
  refine lv_istore_n (lv' := [(3, .int z1), (0, .ref (ad 18)), (1, .int y1), (2, .int y2)]) hx hb dX7_endPart_12 rfl hl (by decide) rfl (fun ls hl => ?_)
  refine lv_iload_n hx hb dX7_endPart_13 rfl (lv_at hl 0 rfl) ?_
  refine lv_iload_n hx hb dX7_endPart_14 rfl (lv_at hl 3 rfl) ?_
  refine lv_icmp_lt (tgt := 53) hx hb dX7_endPart_15 (by decide) (fun cc2 => ?_) (fun cc2 => ?_)
  · refine lv_aload_n hx hb dX7_endPart_53 rfl (lv_at hl 1 rfl) ?_
    refine hk_get (ci := 10) (C := RX7) (T := TX7) (N := 17) (v := .ref (ad 4)) hx hb hts (fun _ h => List.mem_cons_of_mem _ (wwXc_wsX70 _ h)) hown hw 18 rfl rfl 2 (by decide) (hq _ wX_569) rfl dX7_endPart_54 ?_
    refine lv_aload_n hx hb dX7_endPart_57 rfl (lv_at hl 1 rfl) ?_
    refine hk_get (ci := 10) (C := RX7) (T := TX7) (N := 17) (v := .int (g 33)) hx hb hts (fun _ h => List.mem_cons_of_mem _ (wwXc_wsX70 _ h)) hown hw 18 rfl rfl 13 (by decide) (hq _ wX_581) rfl dX7_endPart_58 ?_
    refine lv_sipush (v := 128) hx hb dX7_endPart_61 (by decide) ?_
    refine lv_iload_n hx hb dX7_endPart_64 rfl (lv_at hl 2 rfl) ?_
    refine lv_iconst (v := 5) hx hb dX7_endPart_65 (by decide) ?_
    refine lv_ishl hx hb dX7_endPart_66 (jx_nm fun z3 hz3 => ?_)
    refine lv_ior hx hb dX7_endPart_67 (jx_nm fun z4 hz4 => ?_)
    refine lv_iload_n hx hb dX7_endPart_68 rfl (lv_at hl 3 rfl) ?_
    refine lv_iconst (v := 1) hx hb dX7_endPart_69 (by decide) ?_
    refine lv_isub hx hb dX7_endPart_70 (jx_nm fun z5 hz5 => ?_)
    refine lv_bipush (v := 16) hx hb dX7_endPart_71 (by decide) ?_
    refine lv_ishr hx hb dX7_endPart_73 (jx_nm fun z6 hz6 => ?_)
    refine lv_ior hx hb dX7_endPart_74 (jx_nm fun z7 hz7 => ?_)
    refine jx_Vv (As := [.int (g 33), .int z7]) (rest := []) ⟨hx, hb, hml, hown, hts⟩ hZ hw hA (jx_X9_set_4 l hlt D t3 cI cJ ad g lg ar bk _ (g 33) z7) (cwV 2 hts (jx_gV wwX_good wX_586 wX_587 wX_588 wX_24 wX_589) rfl rfl rfl (by decide +kernel) ⟨Nat.le_of_ble_eq_true rfl, Nat.le_of_ble_eq_true rfl⟩) 4 (ci := 12) (T := TX9) (N := 2) rfl rfl rfl hl.1 rfl (Nat.le_of_ble_eq_true rfl) dX7_endPart_75 ⟨Nat.le_of_ble_eq_true rfl, Nat.le_of_ble_eq_true rfl⟩ (fun _ _ _ _ _ _ _ _ hp _ _ _ _ => hp.elim) (fun g13 l14 a15 b16 H locs hp17 hw => ?_)
    obtain ⟨h18, h19, h20⟩ := hp17
    refine lv_aload_n hx hb dX7_endPart_78 rfl (lv_at hl 1 rfl) ?_
    refine hk_get (ci := 10) (C := RX7) (T := TX7) (N := 17) (v := .ref (ad 4)) hx hb hts (fun _ h => List.mem_cons_of_mem _ (wwXc_wsX70 _ h)) hown hw 18 rfl rfl 2 (by decide) (hq _ wX_569) rfl dX7_endPart_79 ?_
    refine lv_aload_n hx hb dX7_endPart_82 rfl (lv_at hl 1 rfl) ?_
    have e_g13_33 : g13 33 = (g 33) := (h18 33 rfl)
    refine hk_get (ci := 10) (C := RX7) (T := TX7) (N := 17) (v := .int (g 33)) hx hb hts (fun _ h => List.mem_cons_of_mem _ (wwXc_wsX70 _ h)) hown hw 18 rfl rfl 13 (by decide) (hq _ wX_581) (congrArg (fun z => some (Value.int z)) e_g13_33) dX7_endPart_83 ?_
    refine lv_iconst (v := 1) hx hb dX7_endPart_86 (by decide) ?_
    refine lv_iadd hx hb dX7_endPart_87 (jx_nm fun z21 hz21 => ?_)
    refine lv_iload_n hx hb dX7_endPart_88 rfl (lv_at hl 3 rfl) ?_
    refine lv_iconst (v := 1) hx hb dX7_endPart_89 (by decide) ?_
    refine lv_isub hx hb dX7_endPart_90 (jx_nm fun z22 hz22 => ?_)
    refine lv_bipush (v := 8) hx hb dX7_endPart_91 (by decide) ?_
    refine lv_ishr hx hb dX7_endPart_93 (jx_nm fun z23 hz23 => ?_)
    refine jx_Vv (As := [.int z21, .int z23]) (rest := []) ⟨hx, hb, hml, hown, hts⟩ hZ hw hA (jx_X9_set_4 l hlt D t3 cI cJ ad g13 l14 a15 b16 _ z21 z23) (cwV 2 hts (jx_gV wwX_good wX_586 wX_587 wX_588 wX_24 wX_589) rfl rfl rfl (by decide +kernel) ⟨Nat.le_of_ble_eq_true rfl, Nat.le_of_ble_eq_true rfl⟩) 4 (ci := 12) (T := TX9) (N := 2) rfl rfl rfl hl.1 rfl (Nat.le_of_ble_eq_true rfl) dX7_endPart_94 ⟨Nat.le_of_ble_eq_true rfl, Nat.le_of_ble_eq_true rfl⟩ (fun _ _ _ _ _ _ _ _ hp _ _ _ _ => hp.elim) (fun g29 l30 a31 b32 H locs hp33 hw => ?_)
    obtain ⟨h34, h35, h36⟩ := hp33
    refine lv_aload_n hx hb dX7_endPart_97 rfl (lv_at hl 1 rfl) ?_
    refine hk_get (ci := 10) (C := RX7) (T := TX7) (N := 17) (v := .ref (ad 4)) hx hb hts (fun _ h => List.mem_cons_of_mem _ (wwXc_wsX70 _ h)) hown hw 18 rfl rfl 2 (by decide) (hq _ wX_569) rfl dX7_endPart_98 ?_
    refine lv_aload_n hx hb dX7_endPart_101 rfl (lv_at hl 1 rfl) ?_
    have e_g29_33 : g29 33 = (g 33) := ((h34 33 rfl)).trans e_g13_33
    refine hk_get (ci := 10) (C := RX7) (T := TX7) (N := 17) (v := .int (g 33)) hx hb hts (fun _ h => List.mem_cons_of_mem _ (wwXc_wsX70 _ h)) hown hw 18 rfl rfl 13 (by decide) (hq _ wX_581) (congrArg (fun z => some (Value.int z)) e_g29_33) dX7_endPart_102 ?_
    refine lv_iconst (v := 2) hx hb dX7_endPart_105 (by decide) ?_
    refine lv_iadd hx hb dX7_endPart_106 (jx_nm fun z37 hz37 => ?_)
    refine lv_iload_n hx hb dX7_endPart_107 rfl (lv_at hl 3 rfl) ?_
    refine lv_iconst (v := 1) hx hb dX7_endPart_108 (by decide) ?_
    refine lv_isub hx hb dX7_endPart_109 (jx_nm fun z38 hz38 => ?_)
    refine jx_Vv (As := [.int z37, .int z38]) (rest := []) ⟨hx, hb, hml, hown, hts⟩ hZ hw hA (jx_X9_set_4 l hlt D t3 cI cJ ad g29 l30 a31 b32 _ z37 z38) (cwV 2 hts (jx_gV wwX_good wX_586 wX_587 wX_588 wX_24 wX_589) rfl rfl rfl (by decide +kernel) ⟨Nat.le_of_ble_eq_true rfl, Nat.le_of_ble_eq_true rfl⟩) 4 (ci := 12) (T := TX9) (N := 2) rfl rfl rfl hl.1 rfl (Nat.le_of_ble_eq_true rfl) dX7_endPart_110 ⟨Nat.le_of_ble_eq_true rfl, Nat.le_of_ble_eq_true rfl⟩ (fun _ _ _ _ _ _ _ _ hp _ _ _ _ => hp.elim) (fun g44 l45 a46 b47 H locs hp48 hw => ?_)
    obtain ⟨h49, h50, h51⟩ := hp48
    refine lv_aload_n hx hb dX7_endPart_113 rfl (lv_at hl 1 rfl) ?_
    refine hk_get (ci := 10) (C := RX7) (T := TX7) (N := 17) (v := .ref (ad 4)) hx hb hts (fun _ h => List.mem_cons_of_mem _ (wwXc_wsX70 _ h)) hown hw 18 rfl rfl 2 (by decide) (hq _ wX_569) rfl dX7_endPart_114 ?_
    refine lv_aload_n hx hb dX7_endPart_117 rfl (lv_at hl 1 rfl) ?_
    have e_g44_33 : g44 33 = (g 33) := ((h49 33 rfl)).trans e_g29_33
    refine hk_get (ci := 10) (C := RX7) (T := TX7) (N := 17) (v := .int (g 33)) hx hb hts (fun _ h => List.mem_cons_of_mem _ (wwXc_wsX70 _ h)) hown hw 18 rfl rfl 13 (by decide) (hq _ wX_581) (congrArg (fun z => some (Value.int z)) e_g44_33) dX7_endPart_118 ?_
    refine lv_iconst (v := 3) hx hb dX7_endPart_121 (by decide) ?_
    refine lv_iadd hx hb dX7_endPart_122 (jx_nm fun z52 hz52 => ?_)
    refine lv_iload_n hx hb dX7_endPart_123 rfl (lv_at hl 0 rfl) ?_
    refine lv_iconst (v := 1) hx hb dX7_endPart_124 (by decide) ?_
    refine lv_isub hx hb dX7_endPart_125 (jx_nm fun z53 hz53 => ?_)
    refine lv_bipush (v := 8) hx hb dX7_endPart_126 (by decide) ?_
    refine lv_ishr hx hb dX7_endPart_128 (jx_nm fun z54 hz54 => ?_)
    refine jx_Vv (As := [.int z52, .int z54]) (rest := []) ⟨hx, hb, hml, hown, hts⟩ hZ hw hA (jx_X9_set_4 l hlt D t3 cI cJ ad g44 l45 a46 b47 _ z52 z54) (cwV 2 hts (jx_gV wwX_good wX_586 wX_587 wX_588 wX_24 wX_589) rfl rfl rfl (by decide +kernel) ⟨Nat.le_of_ble_eq_true rfl, Nat.le_of_ble_eq_true rfl⟩) 4 (ci := 12) (T := TX9) (N := 2) rfl rfl rfl hl.1 rfl (Nat.le_of_ble_eq_true rfl) dX7_endPart_129 ⟨Nat.le_of_ble_eq_true rfl, Nat.le_of_ble_eq_true rfl⟩ (fun _ _ _ _ _ _ _ _ hp _ _ _ _ => hp.elim) (fun g60 l61 a62 b63 H locs hp64 hw => ?_)
    obtain ⟨h65, h66, h67⟩ := hp64
    refine lv_aload_n hx hb dX7_endPart_132 rfl (lv_at hl 1 rfl) ?_
    refine hk_get (ci := 10) (C := RX7) (T := TX7) (N := 17) (v := .ref (ad 4)) hx hb hts (fun _ h => List.mem_cons_of_mem _ (wwXc_wsX70 _ h)) hown hw 18 rfl rfl 2 (by decide) (hq _ wX_569) rfl dX7_endPart_133 ?_
    refine lv_aload_n hx hb dX7_endPart_136 rfl (lv_at hl 1 rfl) ?_
    have e_g60_33 : g60 33 = (g 33) := ((h65 33 rfl)).trans e_g44_33
    refine hk_get (ci := 10) (C := RX7) (T := TX7) (N := 17) (v := .int (g 33)) hx hb hts (fun _ h => List.mem_cons_of_mem _ (wwXc_wsX70 _ h)) hown hw 18 rfl rfl 13 (by decide) (hq _ wX_581) (congrArg (fun z => some (Value.int z)) e_g60_33) dX7_endPart_137 ?_
    refine lv_iconst (v := 4) hx hb dX7_endPart_140 (by decide) ?_
    refine lv_iadd hx hb dX7_endPart_141 (jx_nm fun z68 hz68 => ?_)
    refine lv_iload_n hx hb dX7_endPart_142 rfl (lv_at hl 0 rfl) ?_
    refine lv_iconst (v := 1) hx hb dX7_endPart_143 (by decide) ?_
    refine lv_isub hx hb dX7_endPart_144 (jx_nm fun z69 hz69 => ?_)
    refine jx_Vv (As := [.int z68, .int z69]) (rest := []) ⟨hx, hb, hml, hown, hts⟩ hZ hw hA (jx_X9_set_4 l hlt D t3 cI cJ ad g60 l61 a62 b63 _ z68 z69) (cwV 2 hts (jx_gV wwX_good wX_586 wX_587 wX_588 wX_24 wX_589) rfl rfl rfl (by decide +kernel) ⟨Nat.le_of_ble_eq_true rfl, Nat.le_of_ble_eq_true rfl⟩) 4 (ci := 12) (T := TX9) (N := 2) rfl rfl rfl hl.1 rfl (Nat.le_of_ble_eq_true rfl) dX7_endPart_145 ⟨Nat.le_of_ble_eq_true rfl, Nat.le_of_ble_eq_true rfl⟩ (fun _ _ _ _ _ _ _ _ hp _ _ _ _ => hp.elim) (fun g75 l76 a77 b78 H locs hp79 hw => ?_)
    obtain ⟨h80, h81, h82⟩ := hp79
    refine lv_iload_n hx hb dX7_endPart_148 rfl (lv_at hl 2 rfl) ?_
    refine lv_iconst (v := 1) hx hb dX7_endPart_149 (by decide) ?_
    refine lv_icmp_le (tgt := 173) hx hb dX7_endPart_150 (by decide) (fun cc83 => ?_) (fun cc83 => ?_)
    · refine lv_iconst (v := 1) hx hb dX7_endPart_173 (by decide) ?_
      exact kr 1 g75 l76 a77 b78 _ _ _ _ rfl ⟨(hk_frT (hk_frT (hk_frT (hk_frT (hk_frT hk_fr0 (by decide) h18) (by decide) h34) (by decide) h49) (by decide) h65) (by decide) h80), (hk_frT (hk_frT (hk_frT (hk_frT h19 (by decide) h35) (by decide) h50) (by decide) h66) (by decide) h81), (hk_frT (hk_frT (hk_frT (hk_frT h20 (by decide) h36) (by decide) h51) (by decide) h67) (by decide) h82)⟩ hw dX7_endPart_174
    · refine lv_aload_n hx hb dX7_endPart_153 rfl (lv_at hl 1 rfl) ?_
      refine hk_get (ci := 10) (C := RX7) (T := TX7) (N := 17) (v := .ref (ad 4)) hx hb hts (fun _ h => List.mem_cons_of_mem _ (wwXc_wsX70 _ h)) hown hw 18 rfl rfl 2 (by decide) (hq _ wX_569) rfl dX7_endPart_154 ?_
      refine lv_aload_n hx hb dX7_endPart_157 rfl (lv_at hl 1 rfl) ?_
      have e_g75_33 : g75 33 = (g 33) := ((h80 33 rfl)).trans e_g60_33
      refine hk_get (ci := 10) (C := RX7) (T := TX7) (N := 17) (v := .int (g 33)) hx hb hts (fun _ h => List.mem_cons_of_mem _ (wwXc_wsX70 _ h)) hown hw 18 rfl rfl 13 (by decide) (hq _ wX_581) (congrArg (fun z => some (Value.int z)) e_g75_33) dX7_endPart_158 ?_
      refine lv_iconst (v := 5) hx hb dX7_endPart_161 (by decide) ?_
      refine lv_iadd hx hb dX7_endPart_162 (jx_nm fun z84 hz84 => ?_)
      refine lv_aload_n hx hb dX7_endPart_163 rfl (lv_at hl 1 rfl) ?_
      refine hk_get (ci := 10) (C := RX7) (T := TX7) (N := 17) (v := .ref (ad 1)) hx hb hts (fun _ h => List.mem_cons_of_mem _ (wwXc_wsX70 _ h)) hown hw 18 rfl rfl 0 (by decide) (hq _ wX_574) rfl dX7_endPart_164 ?_
      refine jx_Vi (As := []) (rest := [.int z84, .ref (ad 4)]) ⟨hx, hb, hml, hown, hts⟩ hZ hw hA (jx_X10_propertyByte l hlt D t3 cI cJ ad g75 l76 a77 b78 _) (cwV 0 hts (jx_gV wwX_good wX_590 wX_591 wX_592 wX_92 wX_593) rfl rfl rfl (by decide +kernel) ⟨Nat.le_of_ble_eq_true rfl, Nat.le_of_ble_eq_true rfl⟩) 1 (ci := 13) (T := TX10) (N := 10) rfl rfl rfl hl.1 rfl (Nat.le_of_ble_eq_true rfl) dX7_endPart_167 ⟨Nat.le_of_ble_eq_true rfl, Nat.le_of_ble_eq_true rfl⟩ (fun _ _ _ _ _ _ _ _ hp _ _ _ _ => hp.elim) (fun r89 g90 l91 a92 b93 H locs hp94 hw => ?_)
      obtain ⟨h95, h96, h97⟩ := hp94
      refine jx_Vv (As := [.int z84, .int r89]) (rest := []) ⟨hx, hb, hml, hown, hts⟩ hZ hw hA (jx_X9_set_4 l hlt D t3 cI cJ ad g90 l91 a92 b93 _ z84 r89) (cwV 2 hts (jx_gV wwX_good wX_586 wX_587 wX_588 wX_24 wX_589) rfl rfl rfl (by decide +kernel) ⟨Nat.le_of_ble_eq_true rfl, Nat.le_of_ble_eq_true rfl⟩) 4 (ci := 12) (T := TX9) (N := 2) rfl rfl rfl hl.1 rfl (Nat.le_of_ble_eq_true rfl) dX7_endPart_170 ⟨Nat.le_of_ble_eq_true rfl, Nat.le_of_ble_eq_true rfl⟩ (fun _ _ _ _ _ _ _ _ hp _ _ _ _ => hp.elim) (fun g103 l104 a105 b106 H locs hp107 hw => ?_)
      obtain ⟨h108, h109, h110⟩ := hp107
      refine lv_iconst (v := 1) hx hb dX7_endPart_173 (by decide) ?_
      exact kr 1 g103 l104 a105 b106 _ _ _ _ rfl ⟨(hk_frT (hk_frT (hk_frT (hk_frT (hk_frT (hk_frT (hk_frT hk_fr0 (by decide) h18) (by decide) h34) (by decide) h49) (by decide) h65) (by decide) h80) (by decide) h95) (by decide) h108), (hk_frT (hk_frT (hk_frT (hk_frT (hk_frT (hk_frT h19 (by decide) h35) (by decide) h50) (by decide) h66) (by decide) h81) (by decide) h96) (by decide) h109), (hk_frT (hk_frT (hk_frT (hk_frT (hk_frT (hk_frT h20 (by decide) h36) (by decide) h51) (by decide) h67) (by decide) h82) (by decide) h97) (by decide) h110)⟩ hw dX7_endPart_174
  · refine lv_aload_n hx hb dX7_endPart_18 rfl (lv_at hl 1 rfl) ?_
    refine hk_get (ci := 10) (C := RX7) (T := TX7) (N := 17) (v := .ref (ad 4)) hx hb hts (fun _ h => List.mem_cons_of_mem _ (wwXc_wsX70 _ h)) hown hw 18 rfl rfl 2 (by decide) (hq _ wX_569) rfl dX7_endPart_19 ?_
    refine lv_aload_n hx hb dX7_endPart_22 rfl (lv_at hl 1 rfl) ?_
    refine hk_get (ci := 10) (C := RX7) (T := TX7) (N := 17) (v := .int (g 33)) hx hb hts (fun _ h => List.mem_cons_of_mem _ (wwXc_wsX70 _ h)) hown hw 18 rfl rfl 13 (by decide) (hq _ wX_581) rfl dX7_endPart_23 ?_
    refine jx_putg xw (g := g) (lg := lg) (ar := ar) (bk := bk) (x := (g 33)) 14 (ci := 12) (C := RX9) (T := TX9) (N := 2) (ty := .int) hx hb hts (fun _ h => List.mem_cons_of_mem _ (wwXc_wsX90 _ h)) tyX9 tyX9_ok nmX9 hown hw 4 rfl rfl 1 (by decide) (hq _ wX_570) rfl (by decide +kernel) rfl rfl (Nat.le_of_ble_eq_true rfl) dX7_endPart_26 rfl (fun H locs g111 h_g111 hw => ?_)
    refine lv_aload_n hx hb dX7_endPart_29 rfl (lv_at hl 1 rfl) ?_
    refine hk_get (ci := 10) (C := RX7) (T := TX7) (N := 17) (v := .ref (ad 15)) hx hb hts (fun _ h => List.mem_cons_of_mem _ (wwXc_wsX70 _ h)) hown hw 18 rfl rfl 5 (by decide) (hq _ wX_571) rfl dX7_endPart_30 ?_
    refine lv_aload_n hx hb dX7_endPart_33 rfl (lv_at hl 1 rfl) ?_
    have e_g111_35 : g111 35 = (g 35) := (hk_upgN h_g111 35 rfl)
    refine hk_get (ci := 10) (C := RX7) (T := TX7) (N := 17) (v := .int (g 35)) hx hb hts (fun _ h => List.mem_cons_of_mem _ (wwXc_wsX70 _ h)) hown hw 18 rfl rfl 15 (by decide) (hq _ wX_582) (congrArg (fun z => some (Value.int z)) e_g111_35) dX7_endPart_34 ?_
    refine jx_putg xw (g := g111) (lg := lg) (ar := ar) (bk := bk) (x := (g 35)) 25 (ci := 7) (C := RX4) (T := TX4) (N := 4) (ty := .int) hx hb hts (fun _ h => List.mem_cons_of_mem _ (wwXc_wsX40 _ h)) tyX4 tyX4_ok nmX4 hown hw 15 rfl rfl 2 (by decide) (hq _ wX_583) rfl (by decide +kernel) rfl rfl (Nat.le_of_ble_eq_true rfl) dX7_endPart_37 rfl (fun H locs g112 h_g112 hw => ?_)
    refine lv_aload_n hx hb dX7_endPart_40 rfl (lv_at hl 1 rfl) ?_
    refine hk_get (ci := 10) (C := RX7) (T := TX7) (N := 17) (v := .ref (ad 9)) hx hb hts (fun _ h => List.mem_cons_of_mem _ (wwXc_wsX70 _ h)) hown hw 18 rfl rfl 3 (by decide) (hq _ wX_573) rfl dX7_endPart_41 ?_
    refine lv_aload_n hx hb dX7_endPart_44 rfl (lv_at hl 1 rfl) ?_
    have e_g112_36 : g112 36 = (g 36) := ((hk_upgN h_g112 36 rfl)).trans (hk_upgN h_g111 36 rfl)
    refine hk_get (ci := 10) (C := RX7) (T := TX7) (N := 17) (v := .int (g 36)) hx hb hts (fun _ h => List.mem_cons_of_mem _ (wwXc_wsX70 _ h)) hown hw 18 rfl rfl 16 (by decide) (hq _ wX_584) (congrArg (fun z => some (Value.int z)) e_g112_36) dX7_endPart_45 ?_
    refine jx_putg xw (g := g112) (lg := lg) (ar := ar) (bk := bk) (x := (g 36)) 24 (ci := 8) (C := RX5) (T := TX5) (N := 6) (ty := .int) hx hb hts (fun _ h => List.mem_cons_of_mem _ (wwXc_wsX50 _ h)) tyX5 tyX5_ok nmX5 hown hw 9 rfl rfl 5 (by decide) (hq _ wX_585) rfl (by decide +kernel) rfl rfl (Nat.le_of_ble_eq_true rfl) dX7_endPart_48 rfl (fun H locs g113 h_g113 hw => ?_)
    refine lv_iconst (v := 0) hx hb dX7_endPart_51 (by decide) ?_
    exact kr 0 g113 lg ar bk _ _ _ _ rfl ⟨(hk_frG (hk_frG (hk_frG hk_fr0 (by decide) h_g111) (by decide) h_g112) (by decide) h_g113), hk_fr0, hk_fr0⟩ hw dX7_endPart_52

set_option maxHeartbeats 4000000 in
set_option maxRecDepth 100000 in
/-- X7_writePlain on (18,) -/
theorem jx_X7_writePlain (l : Launch) (hlt : l.stackTraces = false) (D : va_G) (t3 : Nat × Nat × Nat) (cI cJ : ClassId) (ad : Nat → Nat) (g : Nat → Int32) (lg : Nat → Int64) (ar : Nat → Nat → Int32) (bk : Nat → Int64) (sz : Nat) (y1 : Int32) (y2 : Int32) (y3 : Int32) : JMv l yX7_writePlain (Cond.code yX7_writePlain cX7_writePlain 5 none :: wwX) { frames := 3, cells := 1, slots := 6, locals := 67 } t3 D xw cI cJ ad [.ref (ad 18), .int y1, .int y2, .int y3] (xw cI cJ ad g lg ar bk) sz 1 6 (fun g' lg' ar' bk' => hk_fr [14] g g' ∧ hk_fr [] lg lg' ∧ hk_fr [1] ar ar') (fun g' lg' ar' bk' => False) := by
  refine jx_metv (cc := cX7_writePlain) (maxL := 5) (ret := none) rfl (by decide) rfl (Nat.le_of_ble_eq_true rfl) ?_
  intro p e s m args below meth c ls Q A hx hb hml hown hts hA hZ hw hl hQ kr kt
  have hq : ∀ w ∈ wwX, w.before args s = true := fun w h => hts w (List.mem_cons_of_mem _ h)
  have hl : lv_has ls 5 [(0, .ref (ad 18)), (1, .int y1), (2, .int y2), (3, .int y3)] := hl
  refine lv_aload_n hx hb dX7_writePlain_0 rfl (lv_at hl 0 rfl) ?_
  refine hk_get (ci := 10) (C := RX7) (T := TX7) (N := 17) (v := .ref (ad 4)) hx hb hts (fun _ h => List.mem_cons_of_mem _ (wwXc_wsX70 _ h)) hown hw 18 rfl rfl 2 (by decide) (hq _ wX_569) rfl dX7_writePlain_1 ?_
  refine lv_iload_n hx hb dX7_writePlain_4 rfl (lv_at hl 1 rfl) ?_
  refine jx_Vv (As := [.int y1]) (rest := []) ⟨hx, hb, hml, hown, hts⟩ hZ hw hA (jx_X9_put_4 l hlt D t3 cI cJ ad g lg ar bk _ y1) (cwV 1 hts (jx_gV wwX_good wX_599 wX_112 wX_113 wX_24 wX_114) rfl rfl rfl (by decide +kernel) ⟨Nat.le_of_ble_eq_true rfl, Nat.le_of_ble_eq_true rfl⟩) 4 (ci := 12) (T := TX9) (N := 2) rfl rfl rfl hl.1 rfl (Nat.le_of_ble_eq_true rfl) dX7_writePlain_5 ⟨Nat.le_of_ble_eq_true rfl, Nat.le_of_ble_eq_true rfl⟩ (fun _ _ _ _ _ _ _ _ hp _ _ _ _ => hp.elim) (fun g6 l7 a8 b9 H locs hp10 hw => ?_)
  obtain ⟨h11, h12, h13, h14⟩ := hp10
  refine lv_aload_n hx hb dX7_writePlain_8 rfl (lv_at hl 0 rfl) ?_
  refine hk_get (ci := 10) (C := RX7) (T := TX7) (N := 17) (v := .ref (ad 4)) hx hb hts (fun _ h => List.mem_cons_of_mem _ (wwXc_wsX70 _ h)) hown hw 18 rfl rfl 2 (by decide) (hq _ wX_569) rfl dX7_writePlain_9 ?_
  refine lv_iload_n hx hb dX7_writePlain_12 rfl (lv_at hl 3 rfl) ?_
  refine lv_iload_n hx hb dX7_writePlain_13 rfl (lv_at hl 2 rfl) ?_
  refine lv_isub hx hb dX7_writePlain_14 (jx_nm fun z15 hz15 => ?_)
  refine lv_iconst (v := 1) hx hb dX7_writePlain_15 (by decide) ?_
  refine lv_isub hx hb dX7_writePlain_16 (jx_nm fun z16 hz16 => ?_)
  refine lv_i2l hx hb dX7_writePlain_17 rfl (jx_nl fun z17 hz17 => ?_)
  refine lv_iconst (v := 2) hx hb dX7_writePlain_18 (by decide) ?_
  refine jx_Vv (As := [.long z17, .int 2]) (rest := []) ⟨hx, hb, hml, hown, hts⟩ hZ hw hA (jx_X9_putHigh_4 l hlt D t3 cI cJ ad g6 l7 a8 b9 _ z17 2 (ob273 (((2 : Int32)).toInt) (by decide))) (cwV 2 hts (jx_gV wwX_good wX_597 wX_85 wX_86 wX_24 wX_87) rfl rfl rfl (by decide +kernel) ⟨Nat.le_of_ble_eq_true rfl, Nat.le_of_ble_eq_true rfl⟩) 4 (ci := 12) (T := TX9) (N := 2) rfl rfl rfl hl.1 rfl (Nat.le_of_ble_eq_true rfl) dX7_writePlain_19 ⟨Nat.le_of_ble_eq_true rfl, Nat.le_of_ble_eq_true rfl⟩ (fun _ _ _ _ _ _ _ _ hp _ _ _ _ => hp.elim) (fun g23 l24 a25 b26 H locs hp27 hw => ?_)
  obtain ⟨h28, h29, h30, h31⟩ := hp27
  refine lv_iload_n hx hb dX7_writePlain_22 rfl (lv_at hl 2 rfl) ?_
  refine lv_istore (lv' := [(4, .int y2), (0, .ref (ad 18)), (1, .int y1), (2, .int y2), (3, .int y3)]) hx hb dX7_writePlain_23 hl (by decide) rfl (fun ls hl => ?_)
  have B32 : ∀ (k36 : Nat) (x33 : Int32) (g34 : Nat → Int32) (a35 : Nat → Nat → Int32) (ls : Array Slot) (H : Heap) (locs : List Loc), 2147483648 - (x33).toInt ≤ (k36 : Int) → hk_fr [14] g23 g34 → hk_fr [1] a25 a35 → hk_W D (jT cI cJ) A s H locs (xw cI cJ ad g34 l24 a35 b26) → lv_has ls 5 [(0, .ref (ad 18)), (3, .int y3), (4, .int x33)] → W p l e { frames := 3, cells := 1, slots := 6, locals := 67 } s m args below meth c H locs 0 0 Q (F0 m 25 ls []) := by
    intro k36
    induction k36 with
    | zero =>
      intro x33 g34 a35 ls H locs hrk_B32 hfr_g34 hfr_a35 hw hl
      exact False.elim (hk_no0 (0 * (x33).toInt) (ob274 ((x33).toInt) hrk_B32 (hE_rng (x33))) (by simp))
    | succ k36 ih_B32 =>
      intro x33 g34 a35 ls H locs hrk_B32 hfr_g34 hfr_a35 hw hl
      have hrk_B32 := hk_rk hrk_B32
      refine lv_iload hx hb dX7_writePlain_25 (lv_at hl 2 rfl) ?_
      refine lv_iload_n hx hb dX7_writePlain_27 rfl (lv_at hl 1 rfl) ?_
      refine lv_icmp_ge (tgt := 53) hx hb dX7_writePlain_28 (by decide) (fun cc37 => ?_) (fun cc37 => ?_)
      · exact kr g34 l24 a35 b26 _ _ _ _ ⟨(hk_frT (hk_frT h11 (by decide) h28) (by decide) hfr_g34), (hk_frT h12 (by decide) h29), (hk_frT (hk_frT h13 (by decide) h30) (by decide) hfr_a35)⟩ hw dX7_writePlain_53
      · refine lv_aload_n hx hb dX7_writePlain_31 rfl (lv_at hl 0 rfl) ?_
        refine hk_get (ci := 10) (C := RX7) (T := TX7) (N := 17) (v := .ref (ad 4)) hx hb hts (fun _ h => List.mem_cons_of_mem _ (wwXc_wsX70 _ h)) hown hw 18 rfl rfl 2 (by decide) (hq _ wX_569) rfl dX7_writePlain_32 ?_
        refine lv_aload_n hx hb dX7_writePlain_35 rfl (lv_at hl 0 rfl) ?_
        refine hk_get (ci := 10) (C := RX7) (T := TX7) (N := 17) (v := .ref (ad 2)) hx hb hts (fun _ h => List.mem_cons_of_mem _ (wwXc_wsX70 _ h)) hown hw 18 rfl rfl 1 (by decide) (hq _ wX_594) rfl dX7_writePlain_36 ?_
        refine lv_iload hx hb dX7_writePlain_39 (lv_at hl 2 rfl) ?_
        refine jx_Vi (As := [.int x33]) (rest := [.ref (ad 4)]) ⟨hx, hb, hml, hown, hts⟩ hZ hw hA (jx_X9_get_2 l hlt D t3 cI cJ ad g34 l24 a35 b26 _ x33) (cwV 1 hts (jx_gV wwX_good wX_641 wX_22 wX_23 wX_24 wX_25) rfl rfl rfl (by decide +kernel) ⟨Nat.le_of_ble_eq_true rfl, Nat.le_of_ble_eq_true rfl⟩) 2 (ci := 12) (T := TX9) (N := 2) rfl rfl rfl hl.1 rfl (Nat.le_of_ble_eq_true rfl) dX7_writePlain_41 ⟨Nat.le_of_ble_eq_true rfl, Nat.le_of_ble_eq_true rfl⟩ (fun _ _ _ _ _ _ _ _ hp _ _ _ _ => hp.elim) (fun r42 g43 l44 a45 b46 H locs hp47 hw => ?_)
        obtain ⟨h48, h49, h50⟩ := hp47
        refine jx_Vv (As := [.int r42]) (rest := []) ⟨hx, hb, hml, hown, hts⟩ hZ hw hA (jx_X9_put_4 l hlt D t3 cI cJ ad g43 l44 a45 b46 _ r42) (cwV 1 hts (jx_gV wwX_good wX_599 wX_112 wX_113 wX_24 wX_114) rfl rfl rfl (by decide +kernel) ⟨Nat.le_of_ble_eq_true rfl, Nat.le_of_ble_eq_true rfl⟩) 4 (ci := 12) (T := TX9) (N := 2) rfl rfl rfl hl.1 rfl (Nat.le_of_ble_eq_true rfl) dX7_writePlain_44 ⟨Nat.le_of_ble_eq_true rfl, Nat.le_of_ble_eq_true rfl⟩ (fun _ _ _ _ _ _ _ _ hp _ _ _ _ => hp.elim) (fun g56 l57 a58 b59 H locs hp60 hw => ?_)
        obtain ⟨h61, h62, h63, h64⟩ := hp60
        have e_g43_14 : g43 14 = (g34 14) := (h48 14 rfl)
        obtain ⟨z65, hz65⟩ : ∃ z : Int32, x33 + 1 = z := ⟨_, rfl⟩
        refine lv_iinc (v := z65) (lv' := [(4, .int z65), (0, .ref (ad 18)), (3, .int y3)]) hx hb dX7_writePlain_47 hl (k := 2) rfl hz65 (by decide) rfl (fun ls hl => ?_)
        refine lv_goto (tgt := 25) hx hb dX7_writePlain_50 (by decide) ?_
        exact ih_B32 z65 g56 a58 ls _ _ (ob275 ((z65).toInt) (k36 : Int) ((x33).toInt) (((1 : Int32)).toInt) ((z16).toInt) ((z15).toInt) ((y3).toInt) ((y2).toInt) ((z17).toInt) hrk_B32 (hE_add hz65) (hE_sub hz16) (hE_nle cc37) (hE_sub hz15) (hE_i2l hz17) (hE_rng (z65)) (hE_rng (x33)) (by decide) (hE_rng (z16)) (hE_rng (z15)) (hE_rng (y3)) (hE_rng (y2)) (hE_rngL (z17))) (hk_frT (hk_frT hfr_g34 (by decide) h48) (by decide) h61) (hk_frT (hk_frT hfr_a35 (by decide) h50) (by decide) h63) hw (lv_sub hl [1, 2, 0] rfl)
  exact B32 (2147483648 - (y2).toInt).toNat y2 g23 a25 ls _ _ (Int.self_le_toNat _) hk_fr0 hk_fr0 hw (lv_sub hl [1, 4, 0] rfl)

set_option maxHeartbeats 4000000 in
set_option maxRecDepth 100000 in
/-- X7_writeChunks on (18,) -/
theorem jx_X7_writeChunks (l : Launch) (hlt : l.stackTraces = false) (D : va_G) (t3 : Nat × Nat × Nat) (cI cJ : ClassId) (ad : Nat → Nat) (g : Nat → Int32) (lg : Nat → Int64) (ar : Nat → Nat → Int32) (bk : Nat → Int64) (sz : Nat) (y1 : Int32) (y2 : Int32) (hr0 : 0 ≤ (y1).toInt) (hr1 : (y2).toInt ≤ 1500) (hi_g7 : 1 ≤ (g 7).toInt ∧ (g 7).toInt ≤ 1500) (hi_g21 : 0 ≤ (g 21).toInt ∧ (g 21).toInt ≤ 4) (hi_g22 : 0 ≤ (g 22).toInt ∧ (g 22).toInt ≤ 4) (hi_a8rg : hk_rg (-2147483648) 273 (ar 8)) (hi_a12rg : hk_rg (-2147483648) 1501 (ar 12)) (hi_g41 : -2147483648 ≤ (g 41).toInt ∧ (g 41).toInt ≤ 1501) (hi_a0rg : hk_rg 0 255 (ar 0)) : JMv l yX7_writeChunks (Cond.code yX7_writeChunks cX7_writeChunks 9 none :: wwX) { frames := 12, cells := 1, slots := 6, locals := 239 } t3 D xw cI cJ ad [.ref (ad 18), .int y1, .int y2] (xw cI cJ ad g lg ar bk) sz 1 6 (fun g' lg' ar' bk' => hk_fr [14, 15, 17, 18, 19, 20, 24, 25, 30, 31, 33, 34, 35, 36, 37, 38, 39, 40, 41, 42] g g' ∧ hk_fr [0, 1, 2] lg lg' ∧ hk_fr [1, 2, 6, 8, 9, 10, 11, 12] ar ar' ∧ hk_rg (-2147483648) 273 (ar' 8) ∧ hk_rg (-2147483648) 1501 (ar' 12) ∧ (-2147483648 ≤ (g' 41).toInt ∧ (g' 41).toInt ≤ 1501)) (fun g' lg' ar' bk' => False) := by
  refine jx_metv (cc := cX7_writeChunks) (maxL := 9) (ret := none) rfl (by decide) rfl (Nat.le_of_ble_eq_true rfl) ?_
  intro p e s m args below meth c ls Q A hx hb hml hown hts hA hZ hw hl hQ kr kt
  have hq : ∀ w ∈ wwX, w.before args s = true := fun w h => hts w (List.mem_cons_of_mem _ h)
  have hl : lv_has ls 9 [(0, .ref (ad 18)), (1, .int y1), (2, .int y2)] := hl
  refine lv_aload_n hx hb dX7_writeChunks_0 rfl (lv_at hl 0 rfl) ?_
  refine lv_aload_n hx hb dX7_writeChunks_1 rfl (lv_at hl 0 rfl) ?_
  refine hk_get (ci := 10) (C := RX7) (T := TX7) (N := 17) (v := .ref (ad 4)) hx hb hts (fun _ h => List.mem_cons_of_mem _ (wwXc_wsX70 _ h)) hown hw 18 rfl rfl 2 (by decide) (hq _ wX_569) rfl dX7_writeChunks_2 ?_
  refine hk_get (ci := 12) (C := RX9) (T := TX9) (N := 2) (v := .int (g 14)) hx hb hts (fun _ h => List.mem_cons_of_mem _ (wwXc_wsX90 _ h)) hown hw 4 rfl rfl 1 (by decide) (hq _ wX_570) rfl dX7_writeChunks_5 ?_
  refine jx_putg xw (g := g) (lg := lg) (ar := ar) (bk := bk) (x := (g 14)) 30 (ci := 10) (C := RX7) (T := TX7) (N := 17) (ty := .int) hx hb hts (fun _ h => List.mem_cons_of_mem _ (wwXc_wsX70 _ h)) tyX7 tyX7_ok nmX7 hown hw 18 rfl rfl 10 (by decide) (hq _ wX_648) rfl (by decide +kernel) rfl rfl (Nat.le_of_ble_eq_true rfl) dX7_writeChunks_8 rfl (fun H locs g1 h_g1 hw => ?_)
  refine lv_aload_n hx hb dX7_writeChunks_11 rfl (lv_at hl 0 rfl) ?_
  refine lv_iconst (v := 0) hx hb dX7_writeChunks_12 (by decide) ?_
  refine jx_putg xw (g := g1) (lg := lg) (ar := ar) (bk := bk) (x := 0) 31 (ci := 10) (C := RX7) (T := TX7) (N := 17) (ty := .int) hx hb hts (fun _ h => List.mem_cons_of_mem _ (wwXc_wsX70 _ h)) tyX7 tyX7_ok nmX7 hown hw 18 rfl rfl 11 (by decide) (hq _ wX_595) rfl (by decide +kernel) rfl rfl (Nat.le_of_ble_eq_true rfl) dX7_writeChunks_13 rfl (fun H locs g2 h_g2 hw => ?_)
  refine lv_aload_n hx hb dX7_writeChunks_16 rfl (lv_at hl 0 rfl) ?_
  refine hk_get (ci := 10) (C := RX7) (T := TX7) (N := 17) (v := .ref (ad 9)) hx hb hts (fun _ h => List.mem_cons_of_mem _ (wwXc_wsX70 _ h)) hown hw 18 rfl rfl 3 (by decide) (hq _ wX_573) rfl dX7_writeChunks_17 ?_
  have e_g2_21 : g2 21 = (g 21) := ((hk_upgN h_g2 21 rfl)).trans (hk_upgN h_g1 21 rfl)
  have e_g2_22 : g2 22 = (g 22) := ((hk_upgN h_g2 22 rfl)).trans (hk_upgN h_g1 22 rfl)
  refine jx_Vv (As := []) (rest := []) ⟨hx, hb, hml, hown, hts⟩ hZ hw hA (jx_X5_reset l hlt D t3 cI cJ ad g2 lg ar bk _ (ob61 ((g2 21).toInt) ((g 21).toInt) (congrArg Int32.toInt e_g2_21) hi_g21 (hE_rng (g2 21)) (hE_rng (g 21))) (ob61 ((g2 22).toInt) ((g 22).toInt) (congrArg Int32.toInt e_g2_22) hi_g22 (hE_rng (g2 22)) (hE_rng (g 22)))) (cwV 0 hts (jx_gV wwX_good wX_579 wX_419 wX_420 wX_215 wX_421) rfl rfl rfl (by decide +kernel) ⟨Nat.le_of_ble_eq_true rfl, Nat.le_of_ble_eq_true rfl⟩) 9 (ci := 8) (T := TX5) (N := 6) rfl rfl rfl hl.1 rfl (Nat.le_of_ble_eq_true rfl) dX7_writeChunks_20 ⟨Nat.le_of_ble_eq_true rfl, Nat.le_of_ble_eq_true rfl⟩ (fun _ _ _ _ _ _ _ _ hp _ _ _ _ => hp.elim) (fun g8 l9 a10 b11 H locs hp12 hw => ?_)
  obtain ⟨h13, h14, h15⟩ := hp12
  refine lv_iconst (v := (-1)) hx hb dX7_writeChunks_23 (by decide) ?_
  refine lv_istore_n (lv' := [(3, .int (-1)), (0, .ref (ad 18)), (1, .int y1), (2, .int y2)]) hx hb dX7_writeChunks_24 rfl hl (by decide) rfl (fun ls hl => ?_)
  refine lv_iconst (v := 1) hx hb dX7_writeChunks_25 (by decide) ?_
  refine lv_aload_n hx hb dX7_writeChunks_26 rfl (lv_at hl 1 rfl) ?_
  refine hk_get (ci := 10) (C := RX7) (T := TX7) (N := 17) (v := .ref (ad 1)) hx hb hts (fun _ h => List.mem_cons_of_mem _ (wwXc_wsX70 _ h)) hown hw 18 rfl rfl 0 (by decide) (hq _ wX_574) rfl dX7_writeChunks_27 ?_
  have e_g8_7 : g8 7 = (g 7) := ((h13 7 rfl)).trans (((hk_upgN h_g2 7 rfl)).trans (hk_upgN h_g1 7 rfl))
  refine hk_get (ci := 13) (C := RX10) (T := TX10) (N := 10) (v := .int (g 7)) hx hb hts (fun _ h => List.mem_cons_of_mem _ (wwXc_wsX100 _ h)) hown hw 1 rfl rfl 4 (by decide) (hq _ wX_649) (congrArg (fun z => some (Value.int z)) e_g8_7) dX7_writeChunks_30 ?_
  refine jx_Si (As := [.int 1, .int (g 7)]) (rest := []) ⟨hx, hb, hml, hown, hts⟩ hZ hw hA (jx_J9_max_7cf53 l hlt D t3 cI cJ ad g8 l9 a10 b11 _ 1 (g 7)) (va_cwS 2 hts (jx_gS wwX_good wX_629 wX_142 wX_143 wX_144) rfl rfl rfl (by decide +kernel) ⟨Nat.le_of_ble_eq_true rfl, Nat.le_of_ble_eq_true rfl⟩) rfl hl.1 rfl (Nat.le_of_ble_eq_true rfl) dX7_writeChunks_33 ⟨Nat.le_of_ble_eq_true rfl, Nat.le_of_ble_eq_true rfl⟩ (fun _ _ _ _ _ _ _ _ hp _ _ _ _ => hp.elim) (fun r20 g21 l22 a23 b24 H locs hp25 hw => ?_)
  obtain ⟨h26, h27, h28, h29⟩ := hp25
  have hr30 : hk_rg (-2147483648) 273 (a23 8) := (hk_pE (P := hk_rg (-2147483648) 273) (hk_pE (P := hk_rg (-2147483648) 273) hi_a8rg (h15 8 rfl)) (h28 8 rfl))
  have hr31 : hk_rg (-2147483648) 1501 (a23 12) := (hk_pE (P := hk_rg (-2147483648) 1501) (hk_pE (P := hk_rg (-2147483648) 1501) hi_a12rg (h15 12 rfl)) (h28 12 rfl))
  have hr32 : hk_rg 0 255 (a23 0) := (hk_pE (P := hk_rg 0 255) (hk_pE (P := hk_rg 0 255) hi_a0rg (h15 0 rfl)) (h28 0 rfl))
  refine lv_istore (lv' := [(4, .int r20), (3, .int (-1)), (0, .ref (ad 18)), (1, .int y1), (2, .int y2)]) hx hb dX7_writeChunks_36 hl (by decide) rfl (fun ls hl => ?_)
  refine lv_iload_n hx hb dX7_writeChunks_38 rfl (lv_at hl 3 rfl) ?_
  refine lv_istore (lv' := [(5, .int y1), (4, .int r20), (3, .int (-1)), (0, .ref (ad 18)), (1, .int y1), (2, .int y2)]) hx hb dX7_writeChunks_39 hl (by decide) rfl (fun ls hl => ?_)
  have B33 : ∀ (k40 : Nat) (x34 : Int32) (x35 : Int32) (g36 : Nat → Int32) (l37 : Nat → Int64) (a38 : Nat → Nat → Int32) (b39 : Nat → Int64) (ls : Array Slot) (H : Heap) (locs : List Loc), 2147483648 - (x35).toInt ≤ (k40 : Int) → (y1).toInt ≤ (x35).toInt → -2147483648 ≤ (g36 41).toInt ∧ (g36 41).toInt ≤ 1501 → hk_fr [14, 15, 17, 18, 19, 20, 24, 25, 31, 33, 34, 35, 36, 37, 38, 39, 40, 41, 42] g21 g36 → hk_fr [0, 1, 2] l22 l37 → hk_fr [1, 2, 6, 8, 9, 10, 11, 12] a23 a38 → hk_rg (-2147483648) 273 (a38 8) → hk_rg (-2147483648) 1501 (a38 12) → hk_W D (jT cI cJ) A s H locs (xw cI cJ ad g36 l37 a38 b39) → lv_has ls 9 [(0, .ref (ad 18)), (1, .int y1), (2, .int y2), (3, .int x34), (4, .int r20), (5, .int x35)] → W p l e { frames := 12, cells := 1, slots := 6, locals := 239 } s m args below meth c H locs 0 0 Q (F0 m 41 ls []) := by
    intro k40
    induction k40 with
    | zero =>
      intro x34 x35 g36 l37 a38 b39 ls H locs hrk_B33 hf_B33_0 hf_B33_1 hfr_g36 hfr_l37 hfr_a38 ha38_r8rg ha38_r12rg hw hl
      exact False.elim (hk_no0 (0 * (x35).toInt) (ob276 ((x35).toInt) ((y1).toInt) hf_B33_0 hrk_B33 hr0 (hE_rng (x35)) (hE_rng (y1))) (by simp))
    | succ k40 ih_B33 =>
      intro x34 x35 g36 l37 a38 b39 ls H locs hrk_B33 hf_B33_0 hf_B33_1 hfr_g36 hfr_l37 hfr_a38 ha38_r8rg ha38_r12rg hw hl
      have hrk_B33 := hk_rk hrk_B33
      refine lv_iload hx hb dX7_writeChunks_41 (lv_at hl 5 rfl) ?_
      refine lv_iload_n hx hb dX7_writeChunks_43 rfl (lv_at hl 2 rfl) ?_
      have B41 : ∀  (ls : Array Slot) (H : Heap) (locs : List Loc), hk_W D (jT cI cJ) A s H locs (xw cI cJ ad g36 l37 a38 b39) → lv_has ls 9 [(0, .ref (ad 18))] → W p l e { frames := 12, cells := 1, slots := 6, locals := 239 } s m args below meth c H locs 0 0 Q (F0 m 200 ls []) := by
        intro ls H locs hw hl
        refine lv_aload_n hx hb dX7_writeChunks_200 rfl (lv_at hl 0 rfl) ?_
        refine hk_get (ci := 10) (C := RX7) (T := TX7) (N := 17) (v := .ref (ad 4)) hx hb hts (fun _ h => List.mem_cons_of_mem _ (wwXc_wsX70 _ h)) hown hw 18 rfl rfl 2 (by decide) (hq _ wX_569) rfl dX7_writeChunks_201 ?_
        refine lv_iconst (v := 0) hx hb dX7_writeChunks_204 (by decide) ?_
        refine jx_Vv (As := [.int 0]) (rest := []) ⟨hx, hb, hml, hown, hts⟩ hZ hw hA (jx_X9_put_4 l hlt D t3 cI cJ ad g36 l37 a38 b39 _ 0) (cwV 1 hts (jx_gV wwX_good wX_599 wX_112 wX_113 wX_24 wX_114) rfl rfl rfl (by decide +kernel) ⟨Nat.le_of_ble_eq_true rfl, Nat.le_of_ble_eq_true rfl⟩) 4 (ci := 12) (T := TX9) (N := 2) rfl rfl rfl hl.1 rfl (Nat.le_of_ble_eq_true rfl) dX7_writeChunks_205 ⟨Nat.le_of_ble_eq_true rfl, Nat.le_of_ble_eq_true rfl⟩ (fun _ _ _ _ _ _ _ _ hp _ _ _ _ => hp.elim) (fun g47 l48 a49 b50 H locs hp51 hw => ?_)
        obtain ⟨h52, h53, h54, h55⟩ := hp51
        have hr56 : hk_rg 0 255 (a49 0) := (hk_pE (P := hk_rg 0 255) (hk_pE (P := hk_rg 0 255) hr32 (hfr_a38 0 rfl)) (h54 0 rfl))
        have e_g47_41 : g47 41 = (g36 41) := (h52 41 rfl)
        exact kr g47 l48 a49 b50 _ _ _ _ ⟨(hk_frT (hk_frT (hk_frT (hk_frT (hk_frG (hk_frG hk_fr0 (by decide) h_g1) (by decide) h_g2) (by decide) h13) (by decide) h26) (by decide) hfr_g36) (by decide) h52), (hk_frT (hk_frT (hk_frT (hk_frT hk_fr0 (by decide) h14) (by decide) h27) (by decide) hfr_l37) (by decide) h53), (hk_frT (hk_frT (hk_frT (hk_frT hk_fr0 (by decide) h15) (by decide) h28) (by decide) hfr_a38) (by decide) h54), (hk_pE (P := hk_rg (-2147483648) 273) ha38_r8rg (h54 8 rfl)), (hk_pE (P := hk_rg (-2147483648) 1501) ha38_r12rg (h54 12 rfl)), (ob229 ((g47 41).toInt) ((g36 41).toInt) (congrArg Int32.toInt e_g47_41) hf_B33_1 (hE_rng (g47 41)) (hE_rng (g36 41)))⟩ hw dX7_writeChunks_208
      refine lv_icmp_ge (tgt := 200) hx hb dX7_writeChunks_44 (by decide) (fun cc57 => ?_) (fun cc57 => ?_)
      · exact B41 ls _ _ hw (lv_sub hl [0] rfl)
      · refine lv_aload_n hx hb dX7_writeChunks_47 rfl (lv_at hl 0 rfl) ?_
        refine hk_get (ci := 10) (C := RX7) (T := TX7) (N := 17) (v := .ref (ad 4)) hx hb hts (fun _ h => List.mem_cons_of_mem _ (wwXc_wsX70 _ h)) hown hw 18 rfl rfl 2 (by decide) (hq _ wX_569) rfl dX7_writeChunks_48 ?_
        refine hk_get (ci := 12) (C := RX9) (T := TX9) (N := 2) (v := .int (g36 14)) hx hb hts (fun _ h => List.mem_cons_of_mem _ (wwXc_wsX90 _ h)) hown hw 4 rfl rfl 1 (by decide) (hq _ wX_570) rfl dX7_writeChunks_51 ?_
        refine lv_sipush (v := 3000) hx hb dX7_writeChunks_54 (by decide) ?_
        refine lv_icmp_gt (tgt := 200) hx hb dX7_writeChunks_57 (by decide) (fun cc58 => ?_) (fun cc58 => ?_)
        · exact B41 ls _ _ hw (lv_sub hl [0] rfl)
        · refine lv_iload hx hb dX7_writeChunks_60 (lv_at hl 5 rfl) ?_
          refine lv_iload hx hb dX7_writeChunks_62 (lv_at hl 4 rfl) ?_
          refine lv_iadd hx hb dX7_writeChunks_64 (jx_nm fun z59 hz59 => ?_)
          refine lv_iload_n hx hb dX7_writeChunks_65 rfl (lv_at hl 2 rfl) ?_
          refine jx_Si (As := [.int z59, .int y2]) (rest := []) ⟨hx, hb, hml, hown, hts⟩ hZ hw hA (jx_J9_min_7cf53 l hlt D t3 cI cJ ad g36 l37 a38 b39 _ z59 y2) (va_cwS 2 hts (jx_gS wwX_good wX_650 wX_146 wX_143 wX_147) rfl rfl rfl (by decide +kernel) ⟨Nat.le_of_ble_eq_true rfl, Nat.le_of_ble_eq_true rfl⟩) rfl hl.1 rfl (Nat.le_of_ble_eq_true rfl) dX7_writeChunks_66 ⟨Nat.le_of_ble_eq_true rfl, Nat.le_of_ble_eq_true rfl⟩ (fun _ _ _ _ _ _ _ _ hp _ _ _ _ => hp.elim) (fun r64 g65 l66 a67 b68 H locs hp69 hw => ?_)
          obtain ⟨h70, h71, h72, h73⟩ := hp69
          have hr74 : hk_rg 0 255 (a67 0) := (hk_pE (P := hk_rg 0 255) (hk_pE (P := hk_rg 0 255) hr32 (hfr_a38 0 rfl)) (h72 0 rfl))
          refine lv_istore (lv' := [(6, .int r64), (0, .ref (ad 18)), (1, .int y1), (2, .int y2), (3, .int x34), (4, .int r20), (5, .int x35)]) hx hb dX7_writeChunks_69 hl (by decide) rfl (fun ls hl => ?_)
          refine lv_iload hx hb dX7_writeChunks_71 (lv_at hl 6 rfl) ?_
          refine lv_iload_n hx hb dX7_writeChunks_73 rfl (lv_at hl 2 rfl) ?_
          have B75 : ∀  (x76 : Int32) (ls : Array Slot) (H : Heap) (locs : List Loc), 0 ≤ (x76).toInt ∧ (x76).toInt ≤ 3 → hk_W D (jT cI cJ) A s H locs (xw cI cJ ad g65 l66 a67 b68) → lv_has ls 9 [(0, .ref (ad 18)), (1, .int y1), (2, .int y2), (3, .int x34), (4, .int r20), (5, .int x35), (6, .int r64)] → W p l e { frames := 12, cells := 1, slots := 6, locals := 239 } s m args below meth c H locs 0 0 Q (F0 m 98 ls [.int x76]) := by
            intro x76 ls H locs hf_B75_0 hw hl
            refine lv_istore (lv' := [(7, .int x76), (0, .ref (ad 18)), (1, .int y1), (2, .int y2), (3, .int x34), (4, .int r20), (5, .int x35), (6, .int r64)]) hx hb dX7_writeChunks_98 hl (by decide) rfl (fun ls hl => ?_)
            refine lv_iconst (v := 0) hx hb dX7_writeChunks_100 (by decide) ?_
            refine lv_istore (lv' := [(8, .int 0), (7, .int x76), (0, .ref (ad 18)), (1, .int y1), (2, .int y2), (3, .int x34), (4, .int r20), (5, .int x35), (6, .int r64)]) hx hb dX7_writeChunks_101 hl (by decide) rfl (fun ls hl => ?_)
            refine lv_iload hx hb dX7_writeChunks_103 (lv_at hl 8 rfl) ?_
            refine lv_iload hx hb dX7_writeChunks_105 (lv_at hl 7 rfl) ?_
            refine lv_isub hx hb dX7_writeChunks_107 (jx_nm fun z77 hz77 => ?_)
            refine lv_iconst (v := 5) hx hb dX7_writeChunks_108 (by decide) ?_
            have B78 : ∀  (x79 : Int32) (g80 : Nat → Int32) (l81 : Nat → Int64) (a82 : Nat → Nat → Int32) (b83 : Nat → Int64) (ls : Array Slot) (H : Heap) (locs : List Loc), -2147483648 ≤ (g80 41).toInt ∧ (g80 41).toInt ≤ 1501 → hk_fr [14, 15, 17, 18, 19, 20, 24, 25, 33, 34, 35, 36, 37, 38, 39, 40, 41, 42] g65 g80 → hk_fr [0, 1, 2] l66 l81 → hk_fr [1, 2, 6, 8, 9, 10, 11, 12] a67 a82 → hk_rg (-2147483648) 273 (a82 8) → hk_rg (-2147483648) 1501 (a82 12) → hk_W D (jT cI cJ) A s H locs (xw cI cJ ad g80 l81 a82 b83) → lv_has ls 9 [(0, .ref (ad 18)), (1, .int y1), (2, .int y2), (3, .int x34), (4, .int r20), (5, .int x35), (6, .int r64), (8, .int x79)] → W p l e { frames := 12, cells := 1, slots := 6, locals := 239 } s m args below meth c H locs 0 0 Q (F0 m 141 ls []) := by
              intro x79 g80 l81 a82 b83 ls H locs hf_B78_0 hfr_g80 hfr_l81 hfr_a82 ha82_r8rg ha82_r12rg hw hl
              refine lv_iload hx hb dX7_writeChunks_141 (lv_at hl 7 rfl) ?_
              have B84 : ∀  (x85 : Int32) (g86 : Nat → Int32) (a87 : Nat → Nat → Int32) (ls : Array Slot) (H : Heap) (locs : List Loc), hk_fr [14] g80 g86 → hk_fr [1] a82 a87 → hk_W D (jT cI cJ) A s H locs (xw cI cJ ad g86 l81 a87 b83) → lv_has ls 9 [(0, .ref (ad 18)), (1, .int y1), (2, .int y2), (3, .int x85), (4, .int r20), (5, .int x35)] → W p l e { frames := 12, cells := 1, slots := 6, locals := 239 } s m args below meth c H locs 0 0 Q (F0 m 180 ls []) := by
                intro x85 g86 a87 ls H locs hfr_g86 hfr_a87 hw hl
                refine lv_aload_n hx hb dX7_writeChunks_180 rfl (lv_at hl 0 rfl) ?_
                refine lv_dup hx hb dX7_writeChunks_181 rfl ?_
                have e_g86_31 : g86 31 = (g36 31) := ((hfr_g86 31 rfl)).trans (((hfr_g80 31 rfl)).trans (h70 31 rfl))
                refine hk_get (ci := 10) (C := RX7) (T := TX7) (N := 17) (v := .int (g36 31)) hx hb hts (fun _ h => List.mem_cons_of_mem _ (wwXc_wsX70 _ h)) hown hw 18 rfl rfl 11 (by decide) (hq _ wX_595) (congrArg (fun z => some (Value.int z)) e_g86_31) dX7_writeChunks_182 ?_
                refine lv_iconst (v := 1) hx hb dX7_writeChunks_185 (by decide) ?_
                refine lv_iadd hx hb dX7_writeChunks_186 (jx_nm fun z88 hz88 => ?_)
                refine jx_putg xw (g := g86) (lg := l81) (ar := a87) (bk := b83) (x := z88) 31 (ci := 10) (C := RX7) (T := TX7) (N := 17) (ty := .int) hx hb hts (fun _ h => List.mem_cons_of_mem _ (wwXc_wsX70 _ h)) tyX7 tyX7_ok nmX7 hown hw 18 rfl rfl 11 (by decide) (hq _ wX_595) rfl (by decide +kernel) rfl rfl (Nat.le_of_ble_eq_true rfl) dX7_writeChunks_187 rfl (fun H locs g89 h_g89 hw => ?_)
                refine lv_iload hx hb dX7_writeChunks_190 (lv_at hl 5 rfl) ?_
                refine lv_iload hx hb dX7_writeChunks_192 (lv_at hl 4 rfl) ?_
                refine lv_iadd hx hb dX7_writeChunks_194 (jx_nm fun z90 hz90 => ?_)
                refine lv_istore (lv' := [(5, .int z90), (0, .ref (ad 18)), (1, .int y1), (2, .int y2), (3, .int x85), (4, .int r20)]) hx hb dX7_writeChunks_195 hl (by decide) rfl (fun ls hl => ?_)
                refine lv_goto (tgt := 41) hx hb dX7_writeChunks_197 (by decide) ?_
                have e_g89_41 : g89 41 = (g80 41) := ((hk_upgN h_g89 41 rfl)).trans (hfr_g86 41 rfl)
                exact ih_B33 x85 z90 g89 l81 a87 b83 ls _ _ (ob277 ((z90).toInt) (k40 : Int) ((x35).toInt) ((r20).toInt) (((1 : Int32)).toInt) ((g 7).toInt) ((y1).toInt) ((y2).toInt) ((z59).toInt) ((z77).toInt) ((r64).toInt) ((g8 7).toInt) ((z88).toInt) ((g36 31).toInt) ((g86 31).toInt) hrk_B33 (hE_add hz90) h29 hf_B33_0 (hE_nle cc57) (hE_add hz59) (hE_sub hz77) hr0 hr1 hi_g7 (congrArg Int32.toInt e_g8_7) h73 (hE_add hz88) (congrArg Int32.toInt e_g86_31) (hE_rng (z90)) (hE_rng (x35)) (hE_rng (r20)) (by decide) (hE_rng (g 7)) (hE_rng (y1)) (hE_rng (y2)) (hE_rng (z59)) (hE_rng (z77)) (hE_rng (r64)) (hE_rng (g8 7)) (hE_rng (z88)) (hE_rng (g36 31)) (hE_rng (g86 31))) (ob278 ((y1).toInt) ((z90).toInt) ((x35).toInt) ((r20).toInt) (((1 : Int32)).toInt) ((g 7).toInt) (k40 : Int) ((y2).toInt) ((z59).toInt) ((z77).toInt) ((r64).toInt) ((g8 7).toInt) ((z88).toInt) ((g36 31).toInt) ((g86 31).toInt) hr0 hf_B33_0 (hE_add hz90) h29 hrk_B33 (hE_nle cc57) (hE_add hz59) (hE_sub hz77) hr1 hi_g7 (congrArg Int32.toInt e_g8_7) h73 (hE_add hz88) (congrArg Int32.toInt e_g86_31) (hE_rng (y1)) (hE_rng (z90)) (hE_rng (x35)) (hE_rng (r20)) (by decide) (hE_rng (g 7)) (hE_rng (y2)) (hE_rng (z59)) (hE_rng (z77)) (hE_rng (r64)) (hE_rng (g8 7)) (hE_rng (z88)) (hE_rng (g36 31)) (hE_rng (g86 31))) (ob229 ((g89 41).toInt) ((g80 41).toInt) (congrArg Int32.toInt e_g89_41) hf_B78_0 (hE_rng (g89 41)) (hE_rng (g80 41))) (hk_frG (hk_frT (hk_frT (hk_frT hfr_g36 (by decide) h70) (by decide) hfr_g80) (by decide) hfr_g86) (by decide) h_g89) (hk_frT (hk_frT hfr_l37 (by decide) h71) (by decide) hfr_l81) (hk_frT (hk_frT (hk_frT hfr_a38 (by decide) h72) (by decide) hfr_a82) (by decide) hfr_a87) (hk_pE (P := hk_rg (-2147483648) 273) ha82_r8rg (hfr_a87 8 rfl)) (hk_pE (P := hk_rg (-2147483648) 1501) ha82_r12rg (hfr_a87 12 rfl)) hw (lv_sub hl [1, 2, 3, 4, 5, 0] rfl)
              refine lv_if_eq (tgt := 151) hx hb dX7_writeChunks_143 (by decide) (fun cc91 => ?_) (fun cc91 => ?_)
              · refine lv_aload_n hx hb dX7_writeChunks_151 rfl (lv_at hl 0 rfl) ?_
                refine lv_iload hx hb dX7_writeChunks_152 (lv_at hl 5 rfl) ?_
                refine lv_iload_n hx hb dX7_writeChunks_154 rfl (lv_at hl 1 rfl) ?_
                have B92 : ∀  (x93 : Int32) (ls : Array Slot) (H : Heap) (locs : List Loc), 1 ≤ (x93).toInt ∧ (x93).toInt ≤ 2 → hk_W D (jT cI cJ) A s H locs (xw cI cJ ad g80 l81 a82 b83) → lv_has ls 9 [(0, .ref (ad 18)), (1, .int y1), (2, .int y2), (3, .int x34), (4, .int r20), (5, .int x35), (6, .int r64)] → W p l e { frames := 12, cells := 1, slots := 6, locals := 239 } s m args below meth c H locs 0 0 Q (F0 m 163 ls [.int x93, .ref (ad 18)]) := by
                  intro x93 ls H locs hf_B92_0 hw hl
                  refine lv_iload hx hb dX7_writeChunks_163 (lv_at hl 5 rfl) ?_
                  refine lv_iload hx hb dX7_writeChunks_165 (lv_at hl 6 rfl) ?_
                  refine jx_Vv (As := [.int x93, .int x35, .int r64]) (rest := []) ⟨hx, hb, hml, hown, hts⟩ hZ hw hA (jx_X7_writePlain l hlt D t3 cI cJ ad g80 l81 a82 b83 _ x93 x35 r64) (cwV 3 hts (jx_gV wwX_good wX_659 wX_660 wX_661 wX_122 wX_662) rfl rfl rfl (by decide +kernel) ⟨Nat.le_of_ble_eq_true rfl, Nat.le_of_ble_eq_true rfl⟩) 18 (ci := 10) (T := TX7) (N := 17) rfl rfl rfl hl.1 rfl (Nat.le_of_ble_eq_true rfl) dX7_writeChunks_167 ⟨Nat.le_of_ble_eq_true rfl, Nat.le_of_ble_eq_true rfl⟩ (fun _ _ _ _ _ _ _ _ hp _ _ _ _ => hp.elim) (fun g99 l100 a101 b102 H locs hp103 hw => ?_)
                  obtain ⟨h104, h105, h106⟩ := hp103
                  have hr107 : hk_rg 0 255 (a101 0) := (hk_pE (P := hk_rg 0 255) (hk_pE (P := hk_rg 0 255) hr74 (hfr_a82 0 rfl)) (h106 0 rfl))
                  refine lv_iload_n hx hb dX7_writeChunks_170 rfl (lv_at hl 3 rfl) ?_
                  have B108 : ∀  (x109 : Int32) (ls : Array Slot) (H : Heap) (locs : List Loc), -1 ≤ (x109).toInt ∧ (x109).toInt ≤ 1 → hk_W D (jT cI cJ) A s H locs (xw cI cJ ad g99 l100 a101 b102) → lv_has ls 9 [(0, .ref (ad 18)), (1, .int y1), (2, .int y2), (4, .int r20), (5, .int x35)] → W p l e { frames := 12, cells := 1, slots := 6, locals := 239 } s m args below meth c H locs 0 0 Q (F0 m 179 ls [.int x109]) := by
                    intro x109 ls H locs hf_B108_0 hw hl
                    refine lv_istore_n (lv' := [(3, .int x109), (0, .ref (ad 18)), (1, .int y1), (2, .int y2), (4, .int r20), (5, .int x35)]) hx hb dX7_writeChunks_179 rfl hl (by decide) rfl (fun ls hl => ?_)
                    exact B84 x109 g99 a101 ls _ _ h104 h106 hw (lv_sub hl [1, 2, 3, 0, 4, 5] rfl)
                  refine lv_if_ge (tgt := 178) hx hb dX7_writeChunks_171 (by decide) (fun cc110 => ?_) (fun cc110 => ?_)
                  · refine lv_iconst (v := 1) hx hb dX7_writeChunks_178 (by decide) ?_
                    exact B108 1 ls _ _ (ob279 (((1 : Int32)).toInt) ((r20).toInt) ((g 7).toInt) ((g8 7).toInt) ((z59).toInt) ((x35).toInt) ((y1).toInt) (k40 : Int) ((y2).toInt) ((r64).toInt) ((z77).toInt) h29 hi_g7 (congrArg Int32.toInt e_g8_7) (hE_add hz59) hf_B33_0 hrk_B33 (hE_nle cc57) h73 (hE_sub hz77) hr0 hr1 (by decide) (hE_rng (r20)) (hE_rng (g 7)) (hE_rng (g8 7)) (hE_rng (z59)) (hE_rng (x35)) (hE_rng (y1)) (hE_rng (y2)) (hE_rng (r64)) (hE_rng (z77))) hw (lv_sub hl [0, 1, 2, 4, 5] rfl)
                  · refine lv_iconst (v := (-1)) hx hb dX7_writeChunks_174 (by decide) ?_
                    refine lv_goto (tgt := 179) hx hb dX7_writeChunks_175 (by decide) ?_
                    exact B108 (-1) ls _ _ (ob280 ((((-1) : Int32)).toInt) (by decide)) hw (lv_sub hl [0, 1, 2, 4, 5] rfl)
                refine lv_icmp_ne (tgt := 162) hx hb dX7_writeChunks_155 (by decide) (fun cc111 => ?_) (fun cc111 => ?_)
                · refine lv_iconst (v := 2) hx hb dX7_writeChunks_162 (by decide) ?_
                  exact B92 2 ls _ _ (ob281 (((2 : Int32)).toInt) (by decide)) hw (lv_sub hl [0, 1, 2, 3, 4, 5, 6] rfl)
                · refine lv_iconst (v := 1) hx hb dX7_writeChunks_158 (by decide) ?_
                  refine lv_goto (tgt := 163) hx hb dX7_writeChunks_159 (by decide) ?_
                  exact B92 1 ls _ _ (ob282 (((1 : Int32)).toInt) ((r20).toInt) ((g 7).toInt) ((g8 7).toInt) ((z59).toInt) ((x35).toInt) ((y1).toInt) (k40 : Int) ((y2).toInt) ((r64).toInt) ((z77).toInt) h29 hi_g7 (congrArg Int32.toInt e_g8_7) (hE_add hz59) hf_B33_0 hrk_B33 (hE_nle cc57) h73 (hE_sub hz77) (hE_eq cc111) hr0 hr1 (by decide) (hE_rng (r20)) (hE_rng (g 7)) (hE_rng (g8 7)) (hE_rng (z59)) (hE_rng (x35)) (hE_rng (y1)) (hE_rng (y2)) (hE_rng (r64)) (hE_rng (z77))) hw (lv_sub hl [0, 1, 2, 3, 4, 5, 6] rfl)
              · refine lv_iconst (v := 0) hx hb dX7_writeChunks_146 (by decide) ?_
                refine lv_istore_n (lv' := [(3, .int 0), (0, .ref (ad 18)), (1, .int y1), (2, .int y2), (4, .int r20), (5, .int x35), (6, .int r64), (8, .int x79)]) hx hb dX7_writeChunks_147 rfl hl (by decide) rfl (fun ls hl => ?_)
                refine lv_goto (tgt := 180) hx hb dX7_writeChunks_148 (by decide) ?_
                exact B84 0 g80 a82 ls _ _ hk_fr0 hk_fr0 hw (lv_sub hl [1, 2, 3, 0, 4, 5] rfl)
            refine lv_icmp_le (tgt := 141) hx hb dX7_writeChunks_109 (by decide) (fun cc112 => ?_) (fun cc112 => ?_)
            · have e_g65_41 : g65 41 = (g36 41) := (h70 41 rfl)
              exact B78 0 g65 l66 a67 b68 ls _ _ (ob229 ((g65 41).toInt) ((g36 41).toInt) (congrArg Int32.toInt e_g65_41) hf_B33_1 (hE_rng (g65 41)) (hE_rng (g36 41))) hk_fr0 hk_fr0 hk_fr0 (hk_pE (P := hk_rg (-2147483648) 273) ha38_r8rg (h72 8 rfl)) (hk_pE (P := hk_rg (-2147483648) 1501) ha38_r12rg (h72 12 rfl)) hw (lv_sub hl [2, 3, 4, 5, 6, 7, 8, 0] rfl)
            · refine lv_aload_n hx hb dX7_writeChunks_112 rfl (lv_at hl 2 rfl) ?_
              refine lv_iload hx hb dX7_writeChunks_113 (lv_at hl 1 rfl) ?_
              have e_g65_21 : g65 21 = (g 21) := ((h70 21 rfl)).trans (((hfr_g36 21 rfl)).trans (((h26 21 rfl)).trans (((h13 21 rfl)).trans e_g2_21)))
              have e_g65_22 : g65 22 = (g 22) := ((h70 22 rfl)).trans (((hfr_g36 22 rfl)).trans (((h26 22 rfl)).trans (((h13 22 rfl)).trans e_g2_22)))
              refine jx_Vv (As := [.int x76]) (rest := []) ⟨hx, hb, hml, hown, hts⟩ hZ hw hA (jx_X7_startPart l hlt D t3 cI cJ ad g65 l66 a67 b68 _ x76 (ob283 ((g65 21).toInt) ((g 21).toInt) ((g2 21).toInt) (congrArg Int32.toInt e_g65_21) hi_g21 (congrArg Int32.toInt e_g2_21) (hE_rng (g65 21)) (hE_rng (g 21)) (hE_rng (g2 21))) (ob283 ((g65 22).toInt) ((g 22).toInt) ((g2 22).toInt) (congrArg Int32.toInt e_g65_22) hi_g22 (congrArg Int32.toInt e_g2_22) (hE_rng (g65 22)) (hE_rng (g 22)) (hE_rng (g2 22)))) (cwV 1 hts (jx_gV wwX_good wX_651 wX_652 wX_653 wX_122 wX_654) rfl rfl rfl (by decide +kernel) ⟨Nat.le_of_ble_eq_true rfl, Nat.le_of_ble_eq_true rfl⟩) 18 (ci := 10) (T := TX7) (N := 17) rfl rfl rfl hl.1 rfl (Nat.le_of_ble_eq_true rfl) dX7_writeChunks_115 ⟨Nat.le_of_ble_eq_true rfl, Nat.le_of_ble_eq_true rfl⟩ (fun _ _ _ _ _ _ _ _ hp _ _ _ _ => hp.elim) (fun g118 l119 a120 b121 H locs hp122 hw => ?_)
              obtain ⟨h123, h124, h125⟩ := hp122
              have hr126 : hk_rg (-2147483648) 273 (a120 8) := (hk_pE (P := hk_rg (-2147483648) 273) (hk_pE (P := hk_rg (-2147483648) 273) ha38_r8rg (h72 8 rfl)) (h125 8 rfl))
              have hr127 : hk_rg (-2147483648) 1501 (a120 12) := (hk_pE (P := hk_rg (-2147483648) 1501) (hk_pE (P := hk_rg (-2147483648) 1501) ha38_r12rg (h72 12 rfl)) (h125 12 rfl))
              refine lv_aload_n hx hb dX7_writeChunks_118 rfl (lv_at hl 2 rfl) ?_
              refine lv_iload_n hx hb dX7_writeChunks_119 rfl (lv_at hl 3 rfl) ?_
              refine lv_iload hx hb dX7_writeChunks_120 (lv_at hl 7 rfl) ?_
              refine lv_iload hx hb dX7_writeChunks_122 (lv_at hl 8 rfl) ?_
              refine lv_iconst (v := 0) hx hb dX7_writeChunks_124 (by decide) ?_
              have e_g118_41 : g118 41 = (g36 41) := ((h123 41 rfl)).trans (h70 41 rfl)
              refine jx_Vv (As := [.int y1, .int x35, .int r64, .int 0]) (rest := []) ⟨hx, hb, hml, hown, hts⟩ hZ hw hA (jx_X7_writeBits l hlt D t3 cI cJ ad g118 l119 a120 b121 _ y1 x35 r64 0 (ob284 ((y1).toInt) ((x35).toInt) ((r64).toInt) (k40 : Int) ((y2).toInt) ((z59).toInt) ((r20).toInt) ((z77).toInt) (((1 : Int32)).toInt) ((g 7).toInt) (((5 : Int32)).toInt) ((g8 7).toInt) hr0 hf_B33_0 hrk_B33 (hE_nle cc57) (hE_add hz59) h73 (hE_sub hz77) hr1 h29 (hE_nle cc112) hi_g7 (congrArg Int32.toInt e_g8_7) (hE_rng (y1)) (hE_rng (x35)) (hE_rng (r64)) (hE_rng (y2)) (hE_rng (z59)) (hE_rng (r20)) (hE_rng (z77)) (by decide) (hE_rng (g 7)) (by decide) (hE_rng (g8 7))) hr126 hr127 (ob229 ((g118 41).toInt) ((g36 41).toInt) (congrArg Int32.toInt e_g118_41) hf_B33_1 (hE_rng (g118 41)) (hE_rng (g36 41))) (hk_pE (P := hk_rg 0 255) hr74 (h125 0 rfl))) (cwV 4 hts (jx_gV wwX_good wX_606 wX_607 wX_608 wX_122 wX_609) rfl rfl rfl (by decide +kernel) ⟨Nat.le_of_ble_eq_true rfl, Nat.le_of_ble_eq_true rfl⟩) 18 (ci := 10) (T := TX7) (N := 17) rfl rfl rfl hl.1 rfl (Nat.le_of_ble_eq_true rfl) dX7_writeChunks_125 ⟨Nat.le_of_ble_eq_true rfl, Nat.le_of_ble_eq_true rfl⟩ (fun _ _ _ _ _ _ _ _ hp _ _ _ _ => hp.elim) (fun g133 l134 a135 b136 H locs hp137 hw => ?_)
              obtain ⟨h138, h139, h140, h141, h142, h143⟩ := hp137
              have hr144 : hk_rg 0 255 (a135 0) := (hk_pE (P := hk_rg 0 255) (hk_pE (P := hk_rg 0 255) hr74 (h125 0 rfl)) (h140 0 rfl))
              refine lv_aload_n hx hb dX7_writeChunks_128 rfl (lv_at hl 2 rfl) ?_
              refine lv_iload hx hb dX7_writeChunks_129 (lv_at hl 1 rfl) ?_
              refine lv_iload hx hb dX7_writeChunks_131 (lv_at hl 8 rfl) ?_
              refine lv_iload hx hb dX7_writeChunks_133 (lv_at hl 7 rfl) ?_
              refine lv_isub hx hb dX7_writeChunks_135 (jx_nm fun z145 hz145 => ?_)
              refine jx_Vi (As := [.int x76, .int z145]) (rest := []) ⟨hx, hb, hml, hown, hts⟩ hZ hw hA (jx_X7_endPart l hlt D t3 cI cJ ad g133 l134 a135 b136 _ x76 z145) (cwV 2 hts (jx_gV wwX_good wX_655 wX_656 wX_657 wX_122 wX_658) rfl rfl rfl (by decide +kernel) ⟨Nat.le_of_ble_eq_true rfl, Nat.le_of_ble_eq_true rfl⟩) 18 (ci := 10) (T := TX7) (N := 17) rfl rfl rfl hl.1 rfl (Nat.le_of_ble_eq_true rfl) dX7_writeChunks_136 ⟨Nat.le_of_ble_eq_true rfl, Nat.le_of_ble_eq_true rfl⟩ (fun _ _ _ _ _ _ _ _ hp _ _ _ _ => hp.elim) (fun r150 g151 l152 a153 b154 H locs hp155 hw => ?_)
              obtain ⟨h156, h157, h158⟩ := hp155
              refine lv_istore (lv' := [(8, .int r150), (7, .int x76), (0, .ref (ad 18)), (1, .int y1), (2, .int y2), (3, .int x34), (4, .int r20), (5, .int x35), (6, .int r64)]) hx hb dX7_writeChunks_139 hl (by decide) rfl (fun ls hl => ?_)
              have e_g151_41 : g151 41 = (g133 41) := (h156 41 rfl)
              exact B78 r150 g151 l152 a153 b154 ls _ _ (ob229 ((g151 41).toInt) ((g133 41).toInt) (congrArg Int32.toInt e_g151_41) h143 (hE_rng (g151 41)) (hE_rng (g133 41))) (hk_frT (hk_frT (hk_frT hk_fr0 (by decide) h123) (by decide) h138) (by decide) h156) (hk_frT (hk_frT (hk_frT hk_fr0 (by decide) h124) (by decide) h139) (by decide) h157) (hk_frT (hk_frT (hk_frT hk_fr0 (by decide) h125) (by decide) h140) (by decide) h158) (hk_pE (P := hk_rg (-2147483648) 273) h141 (h158 8 rfl)) (hk_pE (P := hk_rg (-2147483648) 1501) h142 (h158 12 rfl)) hw (lv_sub hl [2, 3, 4, 5, 6, 7, 8, 0] rfl)
          refine lv_icmp_ne (tgt := 81) hx hb dX7_writeChunks_74 (by decide) (fun cc159 => ?_) (fun cc159 => ?_)
          · refine lv_iload_n hx hb dX7_writeChunks_81 rfl (lv_at hl 4 rfl) ?_
            refine lv_if_ge (tgt := 89) hx hb dX7_writeChunks_82 (by decide) (fun cc160 => ?_) (fun cc160 => ?_)
            · refine lv_iload_n hx hb dX7_writeChunks_89 rfl (lv_at hl 4 rfl) ?_
              refine lv_if_le (tgt := 97) hx hb dX7_writeChunks_90 (by decide) (fun cc161 => ?_) (fun cc161 => ?_)
              · refine lv_iconst (v := 0) hx hb dX7_writeChunks_97 (by decide) ?_
                exact B75 0 ls _ _ (ob285 (((0 : Int32)).toInt) ((x34).toInt) (hE_le cc160) (hE_le cc161) (by decide) (hE_rng (x34))) hw (lv_sub hl [1, 2, 3, 4, 5, 6, 0] rfl)
              · refine lv_iconst (v := 1) hx hb dX7_writeChunks_93 (by decide) ?_
                refine lv_goto (tgt := 98) hx hb dX7_writeChunks_94 (by decide) ?_
                exact B75 1 ls _ _ (ob286 (((1 : Int32)).toInt) ((r20).toInt) ((g 7).toInt) ((g8 7).toInt) ((z59).toInt) ((x35).toInt) ((y1).toInt) (k40 : Int) ((y2).toInt) ((r64).toInt) h29 hi_g7 (congrArg Int32.toInt e_g8_7) (hE_add hz59) hf_B33_0 hrk_B33 (hE_nle cc57) h73 (hE_ne cc159) hr0 hr1 (by decide) (hE_rng (r20)) (hE_rng (g 7)) (hE_rng (g8 7)) (hE_rng (z59)) (hE_rng (x35)) (hE_rng (y1)) (hE_rng (y2)) (hE_rng (r64))) hw (lv_sub hl [1, 2, 3, 4, 5, 6, 0] rfl)
            · refine lv_iconst (v := 2) hx hb dX7_writeChunks_85 (by decide) ?_
              refine lv_goto (tgt := 98) hx hb dX7_writeChunks_86 (by decide) ?_
              exact B75 2 ls _ _ (ob287 (((2 : Int32)).toInt) (by decide)) hw (lv_sub hl [1, 2, 3, 4, 5, 6, 0] rfl)
          · refine lv_iconst (v := 3) hx hb dX7_writeChunks_77 (by decide) ?_
            refine lv_goto (tgt := 98) hx hb dX7_writeChunks_78 (by decide) ?_
            exact B75 3 ls _ _ (ob213 (((3 : Int32)).toInt) (by decide)) hw (lv_sub hl [1, 2, 3, 4, 5, 6, 0] rfl)
  have e_g21_41 : g21 41 = (g 41) := ((h26 41 rfl)).trans (((h13 41 rfl)).trans (((hk_upgN h_g2 41 rfl)).trans (hk_upgN h_g1 41 rfl)))
  exact B33 (2147483648 - (y1).toInt).toNat (-1) y1 g21 l22 a23 b24 ls _ _ (Int.self_le_toNat _) (ob288 ((y1).toInt) hr0 (hE_rng (y1))) (ob229 ((g21 41).toInt) ((g 41).toInt) (congrArg Int32.toInt e_g21_41) hi_g41 (hE_rng (g21 41)) (hE_rng (g 41))) hk_fr0 hk_fr0 hk_fr0 hr30 hr31 hw (lv_sub hl [3, 4, 5, 2, 1, 0] rfl)

set_option maxHeartbeats 4000000 in
set_option maxRecDepth 100000 in
/-- X7_noteChunks on (18,) -/
theorem jx_X7_noteChunks (l : Launch) (hlt : l.stackTraces = false) (D : va_G) (t3 : Nat × Nat × Nat) (cI cJ : ClassId) (ad : Nat → Nat) (g : Nat → Int32) (lg : Nat → Int64) (ar : Nat → Nat → Int32) (bk : Nat → Int64) (sz : Nat) (hi_g13 : 0 ≤ (g 13).toInt ∧ (g 13).toInt ≤ 1500) (hi_g26 : 0 ≤ (g 26).toInt ∧ (g 26).toInt ≤ 200) (hi_a7rm : hk_rm 5 3 (-3000) 3000 (ar 7)) : JMv l yX7_noteChunks (Cond.code yX7_noteChunks cX7_noteChunks 1 none :: wwX) { frames := 1, cells := 1, slots := 6, locals := 26 } t3 D xw cI cJ ad [.ref (ad 18)] (xw cI cJ ad g lg ar bk) sz 1 6 (fun g' lg' ar' bk' => hk_fr [26] g g' ∧ hk_fr [] lg lg' ∧ hk_fr [7] ar ar' ∧ (0 ≤ (g' 26).toInt ∧ (g' 26).toInt ≤ 200) ∧ hk_rm 5 3 (-3000) 3000 (ar' 7)) (fun g' lg' ar' bk' => False) := by
  refine jx_metv (cc := cX7_noteChunks) (maxL := 1) (ret := none) rfl (by decide) rfl (Nat.le_of_ble_eq_true rfl) ?_
  intro p e s m args below meth c ls Q A hx hb hml hown hts hA hZ hw hl hQ kr kt
  have hq : ∀ w ∈ wwX, w.before args s = true := fun w h => hts w (List.mem_cons_of_mem _ h)
  have hl : lv_has ls 1 [(0, .ref (ad 18))] := hl
  refine lv_aload_n hx hb dX7_noteChunks_0 rfl (lv_at hl 0 rfl) ?_
  refine hk_get (ci := 10) (C := RX7) (T := TX7) (N := 17) (v := .ref (ad 15)) hx hb hts (fun _ h => List.mem_cons_of_mem _ (wwXc_wsX70 _ h)) hown hw 18 rfl rfl 5 (by decide) (hq _ wX_571) rfl dX7_noteChunks_1 ?_
  refine lv_iconst (v := 0) hx hb dX7_noteChunks_4 (by decide) ?_
  refine lv_iconst (v := 0) hx hb dX7_noteChunks_5 (by decide) ?_
  refine lv_aload_n hx hb dX7_noteChunks_6 rfl (lv_at hl 0 rfl) ?_
  refine hk_get (ci := 10) (C := RX7) (T := TX7) (N := 17) (v := .ref (ad 4)) hx hb hts (fun _ h => List.mem_cons_of_mem _ (wwXc_wsX70 _ h)) hown hw 18 rfl rfl 2 (by decide) (hq _ wX_569) rfl dX7_noteChunks_7 ?_
  refine hk_get (ci := 12) (C := RX9) (T := TX9) (N := 2) (v := .int (g 14)) hx hb hts (fun _ h => List.mem_cons_of_mem _ (wwXc_wsX90 _ h)) hown hw 4 rfl rfl 1 (by decide) (hq _ wX_570) rfl dX7_noteChunks_10 ?_
  refine lv_aload_n hx hb dX7_noteChunks_13 rfl (lv_at hl 0 rfl) ?_
  refine hk_get (ci := 10) (C := RX7) (T := TX7) (N := 17) (v := .ref (ad 2)) hx hb hts (fun _ h => List.mem_cons_of_mem _ (wwXc_wsX70 _ h)) hown hw 18 rfl rfl 1 (by decide) (hq _ wX_594) rfl dX7_noteChunks_14 ?_
  refine hk_get (ci := 12) (C := RX9) (T := TX9) (N := 2) (v := .int (g 13)) hx hb hts (fun _ h => List.mem_cons_of_mem _ (wwXc_wsX90 _ h)) hown hw 2 rfl rfl 1 (by decide) (hq _ wX_570) rfl dX7_noteChunks_17 ?_
  refine lv_aload_n hx hb dX7_noteChunks_20 rfl (lv_at hl 0 rfl) ?_
  refine hk_get (ci := 10) (C := RX7) (T := TX7) (N := 17) (v := .int (g 31)) hx hb hts (fun _ h => List.mem_cons_of_mem _ (wwXc_wsX70 _ h)) hown hw 18 rfl rfl 11 (by decide) (hq _ wX_595) rfl dX7_noteChunks_21 ?_
  refine jx_Vv (As := [.int 0, .int 0, .int (g 14), .int (g 13), .int (g 31)]) (rest := []) ⟨hx, hb, hml, hown, hts⟩ hZ hw hA (jx_X4_addBlock l hlt D t3 cI cJ ad g lg ar bk _ 0 0 (g 14) (g 13) (g 31) (ob289 ((g 13).toInt) hi_g13 (hE_rng (g 13))) (ob290 ((g 26).toInt) hi_g26 (hE_rng (g 26))) hi_a7rm) (cwV 5 hts (jx_gV wwX_good wX_596 wX_435 wX_436 wX_69 wX_437) rfl rfl rfl (by decide +kernel) ⟨Nat.le_of_ble_eq_true rfl, Nat.le_of_ble_eq_true rfl⟩) 15 (ci := 7) (T := TX4) (N := 4) rfl rfl rfl hl.1 rfl (Nat.le_of_ble_eq_true rfl) dX7_noteChunks_24 ⟨Nat.le_of_ble_eq_true rfl, Nat.le_of_ble_eq_true rfl⟩ (fun _ _ _ _ _ _ _ _ hp _ _ _ _ => hp.elim) (fun g6 l7 a8 b9 H locs hp10 hw => ?_)
  obtain ⟨h11, h12, h13, h14, h15⟩ := hp10
  exact kr g6 l7 a8 b9 _ _ _ _ ⟨h11, h12, h13, (ob290 ((g6 26).toInt) h14 (hE_rng (g6 26))), h15⟩ hw dX7_noteChunks_27

set_option maxHeartbeats 4000000 in
set_option maxRecDepth 100000 in
/-- X7_writeFlags on (18,) -/
theorem jx_X7_writeFlags (l : Launch) (hlt : l.stackTraces = false) (D : va_G) (t3 : Nat × Nat × Nat) (cI cJ : ClassId) (ad : Nat → Nat) (g : Nat → Int32) (lg : Nat → Int64) (ar : Nat → Nat → Int32) (bk : Nat → Int64) (sz : Nat) : JMv l yX7_writeFlags (Cond.code yX7_writeFlags cX7_writeFlags 1 none :: wwX) { frames := 2, cells := 1, slots := 6, locals := 43 } t3 D xw cI cJ ad [.ref (ad 18)] (xw cI cJ ad g lg ar bk) sz 1 6 (fun g' lg' ar' bk' => hk_fr [14] g g' ∧ hk_fr [] lg lg' ∧ hk_fr [1] ar ar') (fun g' lg' ar' bk' => False) := by
  refine jx_metv (cc := cX7_writeFlags) (maxL := 1) (ret := none) rfl (by decide) rfl (Nat.le_of_ble_eq_true rfl) ?_
  intro p e s m args below meth c ls Q A hx hb hml hown hts hA hZ hw hl hQ kr kt
  have hq : ∀ w ∈ wwX, w.before args s = true := fun w h => hts w (List.mem_cons_of_mem _ h)
  have hl : lv_has ls 1 [(0, .ref (ad 18))] := hl
  refine lv_aload_n hx hb dX7_writeFlags_0 rfl (lv_at hl 0 rfl) ?_
  refine hk_get (ci := 10) (C := RX7) (T := TX7) (N := 17) (v := .ref (ad 4)) hx hb hts (fun _ h => List.mem_cons_of_mem _ (wwXc_wsX70 _ h)) hown hw 18 rfl rfl 2 (by decide) (hq _ wX_569) rfl dX7_writeFlags_1 ?_
  refine lv_iconst (v := 0) hx hb dX7_writeFlags_4 (by decide) ?_
  refine jx_Vv (As := [.int 0]) (rest := []) ⟨hx, hb, hml, hown, hts⟩ hZ hw hA (jx_X9_put_4 l hlt D t3 cI cJ ad g lg ar bk _ 0) (cwV 1 hts (jx_gV wwX_good wX_599 wX_112 wX_113 wX_24 wX_114) rfl rfl rfl (by decide +kernel) ⟨Nat.le_of_ble_eq_true rfl, Nat.le_of_ble_eq_true rfl⟩) 4 (ci := 12) (T := TX9) (N := 2) rfl rfl rfl hl.1 rfl (Nat.le_of_ble_eq_true rfl) dX7_writeFlags_5 ⟨Nat.le_of_ble_eq_true rfl, Nat.le_of_ble_eq_true rfl⟩ (fun _ _ _ _ _ _ _ _ hp _ _ _ _ => hp.elim) (fun g6 l7 a8 b9 H locs hp10 hw => ?_)
  obtain ⟨h11, h12, h13, h14⟩ := hp10
  refine lv_aload_n hx hb dX7_writeFlags_8 rfl (lv_at hl 0 rfl) ?_
  refine hk_get (ci := 10) (C := RX7) (T := TX7) (N := 17) (v := .ref (ad 4)) hx hb hts (fun _ h => List.mem_cons_of_mem _ (wwXc_wsX70 _ h)) hown hw 18 rfl rfl 2 (by decide) (hq _ wX_569) rfl dX7_writeFlags_9 ?_
  refine lv_aload_n hx hb dX7_writeFlags_12 rfl (lv_at hl 0 rfl) ?_
  refine hk_get (ci := 10) (C := RX7) (T := TX7) (N := 17) (v := .ref (ad 1)) hx hb hts (fun _ h => List.mem_cons_of_mem _ (wwXc_wsX70 _ h)) hown hw 18 rfl rfl 0 (by decide) (hq _ wX_574) rfl dX7_writeFlags_13 ?_
  have e_g6_9 : g6 9 = (g 9) := (h11 9 rfl)
  refine hk_get (ci := 13) (C := RX10) (T := TX10) (N := 10) (v := .int (g 9)) hx hb hts (fun _ h => List.mem_cons_of_mem _ (wwXc_wsX100 _ h)) hown hw 1 rfl rfl 6 (by decide) (hq _ wX_664) (congrArg (fun z => some (Value.int z)) e_g6_9) dX7_writeFlags_16 ?_
  refine jx_Vv (As := [.int (g 9)]) (rest := []) ⟨hx, hb, hml, hown, hts⟩ hZ hw hA (jx_X9_put_4 l hlt D t3 cI cJ ad g6 l7 a8 b9 _ (g 9)) (cwV 1 hts (jx_gV wwX_good wX_599 wX_112 wX_113 wX_24 wX_114) rfl rfl rfl (by decide +kernel) ⟨Nat.le_of_ble_eq_true rfl, Nat.le_of_ble_eq_true rfl⟩) 4 (ci := 12) (T := TX9) (N := 2) rfl rfl rfl hl.1 rfl (Nat.le_of_ble_eq_true rfl) dX7_writeFlags_19 ⟨Nat.le_of_ble_eq_true rfl, Nat.le_of_ble_eq_true rfl⟩ (fun _ _ _ _ _ _ _ _ hp _ _ _ _ => hp.elim) (fun g20 l21 a22 b23 H locs hp24 hw => ?_)
  obtain ⟨h25, h26, h27, h28⟩ := hp24
  exact kr g20 l21 a22 b23 _ _ _ _ ⟨(hk_frT h11 (by decide) h25), (hk_frT h12 (by decide) h26), (hk_frT h13 (by decide) h27)⟩ hw dX7_writeFlags_22

set_option maxHeartbeats 4000000 in
set_option maxRecDepth 100000 in
/-- X0_crc32 on (4,) -/
theorem jx_X0_crc32_4 (l : Launch) (hlt : l.stackTraces = false) (D : va_G) (t3 : Nat × Nat × Nat) (cI cJ : ClassId) (ad : Nat → Nat) (g : Nat → Int32) (lg : Nat → Int64) (ar : Nat → Nat → Int32) (bk : Nat → Int64) (sz : Nat) (y1 : Int32) (y2 : Int32) : JMi l yX0_crc32 (Cond.code yX0_crc32 cX0_crc32 6 (some .int) :: wwX) { frames := 1, cells := 1, slots := 6, locals := 21 } t3 D xw cI cJ ad [.ref (ad 4), .int y1, .int y2] (xw cI cJ ad g lg ar bk) sz 1 6 (fun (r : Int32) g' lg' ar' bk' => hk_fr [] g g' ∧ hk_fr [] lg lg' ∧ hk_fr [] ar ar') (fun g' lg' ar' bk' => False) := by
  refine jx_meti (cc := cX0_crc32) (maxL := 6) (ret := (some .int)) rfl (by decide) rfl (Nat.le_of_ble_eq_true rfl) ?_
  intro p e s m args below meth c ls Q A hx hb hml hown hts hA hZ hw hl hQ kr kt
  have hq : ∀ w ∈ wwX, w.before args s = true := fun w h => hts w (List.mem_cons_of_mem _ h)
  have hl : lv_has ls 6 [(0, .ref (ad 4)), (1, .int y1), (2, .int y2)] := hl
  refine lv_iconst (v := (-1)) hx hb dX0_crc32_0 (by decide) ?_
  refine lv_istore_n (lv' := [(3, .int (-1)), (0, .ref (ad 4)), (1, .int y1), (2, .int y2)]) hx hb dX0_crc32_1 rfl hl (by decide) rfl (fun ls hl => ?_)
  refine lv_iload_n hx hb dX0_crc32_2 rfl (lv_at hl 2 rfl) ?_
  refine lv_istore (lv' := [(4, .int y1), (3, .int (-1)), (0, .ref (ad 4)), (1, .int y1), (2, .int y2)]) hx hb dX0_crc32_3 hl (by decide) rfl (fun ls hl => ?_)
  have B1 : ∀ (k4 : Nat) (x2 : Int32) (x3 : Int32) (ls : Array Slot) (H : Heap) (locs : List Loc), 2147483648 - (x3).toInt ≤ (k4 : Int) → hk_W D (jT cI cJ) A s H locs (xw cI cJ ad g lg ar bk) → lv_has ls 6 [(0, .ref (ad 4)), (2, .int y2), (3, .int x2), (4, .int x3)] → W p l e { frames := 1, cells := 1, slots := 6, locals := 21 } s m args below meth c H locs 0 0 Q (F0 m 5 ls []) := by
    intro k4
    induction k4 with
    | zero =>
      intro x2 x3 ls H locs hrk_B1 hw hl
      exact False.elim (hk_no0 (0 * (x3).toInt) (ob274 ((x3).toInt) hrk_B1 (hE_rng (x3))) (by simp))
    | succ k4 ih_B1 =>
      intro x2 x3 ls H locs hrk_B1 hw hl
      have hrk_B1 := hk_rk hrk_B1
      refine lv_iload hx hb dX0_crc32_5 (lv_at hl 3 rfl) ?_
      refine lv_iload_n hx hb dX0_crc32_7 rfl (lv_at hl 1 rfl) ?_
      refine lv_icmp_ge (tgt := 54) hx hb dX0_crc32_8 (by decide) (fun cc5 => ?_) (fun cc5 => ?_)
      · refine lv_iload_n hx hb dX0_crc32_54 rfl (lv_at hl 2 rfl) ?_
        refine lv_iconst (v := (-1)) hx hb dX0_crc32_55 (by decide) ?_
        refine lv_ixor hx hb dX0_crc32_56 (jx_nm fun z6 hz6 => ?_)
        exact kr z6 g lg ar bk _ _ _ _ ⟨hk_fr0, hk_fr0, hk_fr0⟩ hw dX0_crc32_57
      · refine lv_iload_n hx hb dX0_crc32_11 rfl (lv_at hl 2 rfl) ?_
        refine lv_aload_n hx hb dX0_crc32_12 rfl (lv_at hl 0 rfl) ?_
        refine lv_iload hx hb dX0_crc32_13 (lv_at hl 3 rfl) ?_
        refine jx_Vi (As := [.int x3]) (rest := [.int x2]) ⟨hx, hb, hml, hown, hts⟩ hZ hw hA (jx_X9_get_4 l hlt D t3 cI cJ ad g lg ar bk _ x3) (cwV 1 hts (jx_gV wwX_good wX_21 wX_22 wX_23 wX_24 wX_25) rfl rfl rfl (by decide +kernel) ⟨Nat.le_of_ble_eq_true rfl, Nat.le_of_ble_eq_true rfl⟩) 4 (ci := 12) (T := TX9) (N := 2) rfl rfl rfl hl.1 rfl (Nat.le_of_ble_eq_true rfl) dX0_crc32_15 ⟨Nat.le_of_ble_eq_true rfl, Nat.le_of_ble_eq_true rfl⟩ (fun _ _ _ _ _ _ _ _ hp _ _ _ _ => hp.elim) (fun r11 g12 l13 a14 b15 H locs hp16 hw => ?_)
        obtain ⟨h17, h18, h19⟩ := hp16
        refine lv_ixor hx hb dX0_crc32_18 (jx_nm fun z20 hz20 => ?_)
        refine lv_istore_n (lv' := [(3, .int z20), (0, .ref (ad 4)), (2, .int y2), (4, .int x3)]) hx hb dX0_crc32_19 rfl hl (by decide) rfl (fun ls hl => ?_)
        refine lv_iconst (v := 0) hx hb dX0_crc32_20 (by decide) ?_
        refine lv_istore (lv' := [(5, .int 0), (3, .int z20), (0, .ref (ad 4)), (2, .int y2), (4, .int x3)]) hx hb dX0_crc32_21 hl (by decide) rfl (fun ls hl => ?_)
        have B21 : ∀ (k24 : Nat) (x22 : Int32) (x23 : Int32) (ls : Array Slot) (H : Heap) (locs : List Loc), 2147483648 - (x23).toInt ≤ (k24 : Int) → 0 ≤ (x23).toInt → hk_W D (jT cI cJ) A s H locs (xw cI cJ ad g12 l13 a14 b15) → lv_has ls 6 [(0, .ref (ad 4)), (2, .int y2), (3, .int x22), (4, .int x3), (5, .int x23)] → W p l e { frames := 1, cells := 1, slots := 6, locals := 21 } s m args below meth c H locs 0 0 Q (F0 m 23 ls []) := by
          intro k24
          induction k24 with
          | zero =>
            intro x22 x23 ls H locs hrk_B21 hf_B21_0 hw hl
            exact False.elim (hk_no0 (0 * (x23).toInt) (ob5 ((x23).toInt) hf_B21_0 hrk_B21 (hE_rng (x23))) (by simp))
          | succ k24 ih_B21 =>
            intro x22 x23 ls H locs hrk_B21 hf_B21_0 hw hl
            have hrk_B21 := hk_rk hrk_B21
            refine lv_iload hx hb dX0_crc32_23 (lv_at hl 4 rfl) ?_
            refine lv_bipush (v := 8) hx hb dX0_crc32_25 (by decide) ?_
            refine lv_icmp_ge (tgt := 48) hx hb dX0_crc32_27 (by decide) (fun cc25 => ?_) (fun cc25 => ?_)
            · obtain ⟨z26, hz26⟩ : ∃ z : Int32, x3 + 1 = z := ⟨_, rfl⟩
              refine lv_iinc (v := z26) (lv' := [(4, .int z26), (0, .ref (ad 4)), (2, .int y2), (3, .int x22), (5, .int x23)]) hx hb dX0_crc32_48 hl (k := 3) rfl hz26 (by decide) rfl (fun ls hl => ?_)
              refine lv_goto (tgt := 5) hx hb dX0_crc32_51 (by decide) ?_
              exact ih_B1 x22 z26 ls _ _ (ob291 ((z26).toInt) (k4 : Int) ((x3).toInt) (((1 : Int32)).toInt) ((y2).toInt) hrk_B1 (hE_add hz26) (hE_nle cc5) (hE_rng (z26)) (hE_rng (x3)) (by decide) (hE_rng (y2))) hw (lv_sub hl [1, 2, 3, 0] rfl)
            · refine lv_iload_n hx hb dX0_crc32_30 rfl (lv_at hl 2 rfl) ?_
              refine lv_iconst (v := 1) hx hb dX0_crc32_31 (by decide) ?_
              refine lv_iushr hx hb dX0_crc32_32 rfl (jx_nm fun z27 hz27 => ?_)
              refine lv_ldc (v := (-306674912)) hx hb hown (hq _ wX_26) dX0_crc32_33 ?_
              refine lv_iload_n hx hb dX0_crc32_35 rfl (lv_at hl 2 rfl) ?_
              refine lv_iconst (v := 1) hx hb dX0_crc32_36 (by decide) ?_
              refine lv_iand hx hb dX0_crc32_37 (jx_nm fun z28 hz28 => ?_)
              refine lv_ineg hx hb dX0_crc32_38 (jx_nm fun z29 hz29 => ?_)
              refine lv_iand hx hb dX0_crc32_39 (jx_nm fun z30 hz30 => ?_)
              refine lv_ixor hx hb dX0_crc32_40 (jx_nm fun z31 hz31 => ?_)
              refine lv_istore_n (lv' := [(3, .int z31), (0, .ref (ad 4)), (2, .int y2), (4, .int x3), (5, .int x23)]) hx hb dX0_crc32_41 rfl hl (by decide) rfl (fun ls hl => ?_)
              obtain ⟨z32, hz32⟩ : ∃ z : Int32, x23 + 1 = z := ⟨_, rfl⟩
              refine lv_iinc (v := z32) (lv' := [(5, .int z32), (3, .int z31), (0, .ref (ad 4)), (2, .int y2), (4, .int x3)]) hx hb dX0_crc32_42 hl (k := 4) rfl hz32 (by decide) rfl (fun ls hl => ?_)
              refine lv_goto (tgt := 23) hx hb dX0_crc32_45 (by decide) ?_
              exact ih_B21 z31 z32 ls _ _ (ob154 ((z32).toInt) (k24 : Int) ((x23).toInt) (((1 : Int32)).toInt) (((8 : Int32)).toInt) hrk_B21 (hE_add hz32) hf_B21_0 (hE_nle cc25) (hE_rng (z32)) (hE_rng (x23)) (by decide) (by decide)) (ob155 ((z32).toInt) ((x23).toInt) (((1 : Int32)).toInt) (k24 : Int) (((8 : Int32)).toInt) (hE_add hz32) hf_B21_0 hrk_B21 (hE_nle cc25) (hE_rng (z32)) (hE_rng (x23)) (by decide) (by decide)) hw (lv_sub hl [2, 3, 1, 4, 0] rfl)
        exact B21 (2147483648 - ((0 : Int32)).toInt).toNat z20 0 ls _ _ (Int.self_le_toNat _) (ob10 (((0 : Int32)).toInt) (by decide)) hw (lv_sub hl [2, 3, 1, 4, 0] rfl)
  exact B1 (2147483648 - (y1).toInt).toNat (-1) y1 ls _ _ (Int.self_le_toNat _) hw (lv_sub hl [2, 4, 1, 0] rfl)

set_option maxHeartbeats 4000000 in
set_option maxRecDepth 100000 in
/-- X7_writeStart on (18,) -/
theorem jx_X7_writeStart (l : Launch) (hlt : l.stackTraces = false) (D : va_G) (t3 : Nat × Nat × Nat) (cI cJ : ClassId) (ad : Nat → Nat) (g : Nat → Int32) (lg : Nat → Int64) (ar : Nat → Nat → Int32) (bk : Nat → Int64) (sz : Nat) : JMv l yX7_writeStart (Cond.code yX7_writeStart cX7_writeStart 1 none :: wwX) { frames := 3, cells := 1, slots := 6, locals := 67 } t3 D xw cI cJ ad [.ref (ad 18)] (xw cI cJ ad g lg ar bk) sz 1 6 (fun g' lg' ar' bk' => hk_fr [14] g g' ∧ hk_fr [] lg lg' ∧ hk_fr [1] ar ar') (fun g' lg' ar' bk' => False) := by
  refine jx_metv (cc := cX7_writeStart) (maxL := 1) (ret := none) rfl (by decide) rfl (Nat.le_of_ble_eq_true rfl) ?_
  intro p e s m args below meth c ls Q A hx hb hml hown hts hA hZ hw hl hQ kr kt
  have hq : ∀ w ∈ wwX, w.before args s = true := fun w h => hts w (List.mem_cons_of_mem _ h)
  have hl : lv_has ls 1 [(0, .ref (ad 18))] := hl
  refine lv_aload_n hx hb dX7_writeStart_0 rfl (lv_at hl 0 rfl) ?_
  refine hk_get (ci := 10) (C := RX7) (T := TX7) (N := 17) (v := .ref (ad 4)) hx hb hts (fun _ h => List.mem_cons_of_mem _ (wwXc_wsX70 _ h)) hown hw 18 rfl rfl 2 (by decide) (hq _ wX_569) rfl dX7_writeStart_1 ?_
  refine lv_sipush (v := 253) hx hb dX7_writeStart_4 (by decide) ?_
  refine jx_Vv (As := [.int 253]) (rest := []) ⟨hx, hb, hml, hown, hts⟩ hZ hw hA (jx_X9_put_4 l hlt D t3 cI cJ ad g lg ar bk _ 253) (cwV 1 hts (jx_gV wwX_good wX_599 wX_112 wX_113 wX_24 wX_114) rfl rfl rfl (by decide +kernel) ⟨Nat.le_of_ble_eq_true rfl, Nat.le_of_ble_eq_true rfl⟩) 4 (ci := 12) (T := TX9) (N := 2) rfl rfl rfl hl.1 rfl (Nat.le_of_ble_eq_true rfl) dX7_writeStart_7 ⟨Nat.le_of_ble_eq_true rfl, Nat.le_of_ble_eq_true rfl⟩ (fun _ _ _ _ _ _ _ _ hp _ _ _ _ => hp.elim) (fun g6 l7 a8 b9 H locs hp10 hw => ?_)
  obtain ⟨h11, h12, h13, h14⟩ := hp10
  refine lv_aload_n hx hb dX7_writeStart_10 rfl (lv_at hl 0 rfl) ?_
  refine hk_get (ci := 10) (C := RX7) (T := TX7) (N := 17) (v := .ref (ad 4)) hx hb hts (fun _ h => List.mem_cons_of_mem _ (wwXc_wsX70 _ h)) hown hw 18 rfl rfl 2 (by decide) (hq _ wX_569) rfl dX7_writeStart_11 ?_
  refine lv_bipush (v := 55) hx hb dX7_writeStart_14 (by decide) ?_
  refine jx_Vv (As := [.int 55]) (rest := []) ⟨hx, hb, hml, hown, hts⟩ hZ hw hA (jx_X9_put_4 l hlt D t3 cI cJ ad g6 l7 a8 b9 _ 55) (cwV 1 hts (jx_gV wwX_good wX_599 wX_112 wX_113 wX_24 wX_114) rfl rfl rfl (by decide +kernel) ⟨Nat.le_of_ble_eq_true rfl, Nat.le_of_ble_eq_true rfl⟩) 4 (ci := 12) (T := TX9) (N := 2) rfl rfl rfl hl.1 rfl (Nat.le_of_ble_eq_true rfl) dX7_writeStart_16 ⟨Nat.le_of_ble_eq_true rfl, Nat.le_of_ble_eq_true rfl⟩ (fun _ _ _ _ _ _ _ _ hp _ _ _ _ => hp.elim) (fun g20 l21 a22 b23 H locs hp24 hw => ?_)
  obtain ⟨h25, h26, h27, h28⟩ := hp24
  refine lv_aload_n hx hb dX7_writeStart_19 rfl (lv_at hl 0 rfl) ?_
  refine hk_get (ci := 10) (C := RX7) (T := TX7) (N := 17) (v := .ref (ad 4)) hx hb hts (fun _ h => List.mem_cons_of_mem _ (wwXc_wsX70 _ h)) hown hw 18 rfl rfl 2 (by decide) (hq _ wX_569) rfl dX7_writeStart_20 ?_
  refine lv_bipush (v := 122) hx hb dX7_writeStart_23 (by decide) ?_
  refine jx_Vv (As := [.int 122]) (rest := []) ⟨hx, hb, hml, hown, hts⟩ hZ hw hA (jx_X9_put_4 l hlt D t3 cI cJ ad g20 l21 a22 b23 _ 122) (cwV 1 hts (jx_gV wwX_good wX_599 wX_112 wX_113 wX_24 wX_114) rfl rfl rfl (by decide +kernel) ⟨Nat.le_of_ble_eq_true rfl, Nat.le_of_ble_eq_true rfl⟩) 4 (ci := 12) (T := TX9) (N := 2) rfl rfl rfl hl.1 rfl (Nat.le_of_ble_eq_true rfl) dX7_writeStart_25 ⟨Nat.le_of_ble_eq_true rfl, Nat.le_of_ble_eq_true rfl⟩ (fun _ _ _ _ _ _ _ _ hp _ _ _ _ => hp.elim) (fun g34 l35 a36 b37 H locs hp38 hw => ?_)
  obtain ⟨h39, h40, h41, h42⟩ := hp38
  refine lv_aload_n hx hb dX7_writeStart_28 rfl (lv_at hl 0 rfl) ?_
  refine hk_get (ci := 10) (C := RX7) (T := TX7) (N := 17) (v := .ref (ad 4)) hx hb hts (fun _ h => List.mem_cons_of_mem _ (wwXc_wsX70 _ h)) hown hw 18 rfl rfl 2 (by decide) (hq _ wX_569) rfl dX7_writeStart_29 ?_
  refine lv_bipush (v := 88) hx hb dX7_writeStart_32 (by decide) ?_
  refine jx_Vv (As := [.int 88]) (rest := []) ⟨hx, hb, hml, hown, hts⟩ hZ hw hA (jx_X9_put_4 l hlt D t3 cI cJ ad g34 l35 a36 b37 _ 88) (cwV 1 hts (jx_gV wwX_good wX_599 wX_112 wX_113 wX_24 wX_114) rfl rfl rfl (by decide +kernel) ⟨Nat.le_of_ble_eq_true rfl, Nat.le_of_ble_eq_true rfl⟩) 4 (ci := 12) (T := TX9) (N := 2) rfl rfl rfl hl.1 rfl (Nat.le_of_ble_eq_true rfl) dX7_writeStart_34 ⟨Nat.le_of_ble_eq_true rfl, Nat.le_of_ble_eq_true rfl⟩ (fun _ _ _ _ _ _ _ _ hp _ _ _ _ => hp.elim) (fun g48 l49 a50 b51 H locs hp52 hw => ?_)
  obtain ⟨h53, h54, h55, h56⟩ := hp52
  refine lv_aload_n hx hb dX7_writeStart_37 rfl (lv_at hl 0 rfl) ?_
  refine hk_get (ci := 10) (C := RX7) (T := TX7) (N := 17) (v := .ref (ad 4)) hx hb hts (fun _ h => List.mem_cons_of_mem _ (wwXc_wsX70 _ h)) hown hw 18 rfl rfl 2 (by decide) (hq _ wX_569) rfl dX7_writeStart_38 ?_
  refine lv_bipush (v := 90) hx hb dX7_writeStart_41 (by decide) ?_
  refine jx_Vv (As := [.int 90]) (rest := []) ⟨hx, hb, hml, hown, hts⟩ hZ hw hA (jx_X9_put_4 l hlt D t3 cI cJ ad g48 l49 a50 b51 _ 90) (cwV 1 hts (jx_gV wwX_good wX_599 wX_112 wX_113 wX_24 wX_114) rfl rfl rfl (by decide +kernel) ⟨Nat.le_of_ble_eq_true rfl, Nat.le_of_ble_eq_true rfl⟩) 4 (ci := 12) (T := TX9) (N := 2) rfl rfl rfl hl.1 rfl (Nat.le_of_ble_eq_true rfl) dX7_writeStart_43 ⟨Nat.le_of_ble_eq_true rfl, Nat.le_of_ble_eq_true rfl⟩ (fun _ _ _ _ _ _ _ _ hp _ _ _ _ => hp.elim) (fun g62 l63 a64 b65 H locs hp66 hw => ?_)
  obtain ⟨h67, h68, h69, h70⟩ := hp66
  refine lv_aload_n hx hb dX7_writeStart_46 rfl (lv_at hl 0 rfl) ?_
  refine hk_get (ci := 10) (C := RX7) (T := TX7) (N := 17) (v := .ref (ad 4)) hx hb hts (fun _ h => List.mem_cons_of_mem _ (wwXc_wsX70 _ h)) hown hw 18 rfl rfl 2 (by decide) (hq _ wX_569) rfl dX7_writeStart_47 ?_
  refine lv_iconst (v := 0) hx hb dX7_writeStart_50 (by decide) ?_
  refine jx_Vv (As := [.int 0]) (rest := []) ⟨hx, hb, hml, hown, hts⟩ hZ hw hA (jx_X9_put_4 l hlt D t3 cI cJ ad g62 l63 a64 b65 _ 0) (cwV 1 hts (jx_gV wwX_good wX_599 wX_112 wX_113 wX_24 wX_114) rfl rfl rfl (by decide +kernel) ⟨Nat.le_of_ble_eq_true rfl, Nat.le_of_ble_eq_true rfl⟩) 4 (ci := 12) (T := TX9) (N := 2) rfl rfl rfl hl.1 rfl (Nat.le_of_ble_eq_true rfl) dX7_writeStart_51 ⟨Nat.le_of_ble_eq_true rfl, Nat.le_of_ble_eq_true rfl⟩ (fun _ _ _ _ _ _ _ _ hp _ _ _ _ => hp.elim) (fun g76 l77 a78 b79 H locs hp80 hw => ?_)
  obtain ⟨h81, h82, h83, h84⟩ := hp80
  refine lv_aload_n hx hb dX7_writeStart_54 rfl (lv_at hl 0 rfl) ?_
  refine jx_Vv (As := []) (rest := []) ⟨hx, hb, hml, hown, hts⟩ hZ hw hA (jx_X7_writeFlags l hlt D t3 cI cJ ad g76 l77 a78 b79 _) (cwV 0 hts (jx_gV wwX_good wX_666 wX_667 wX_668 wX_122 wX_669) rfl rfl rfl (by decide +kernel) ⟨Nat.le_of_ble_eq_true rfl, Nat.le_of_ble_eq_true rfl⟩) 18 (ci := 10) (T := TX7) (N := 17) rfl rfl rfl hl.1 rfl (Nat.le_of_ble_eq_true rfl) dX7_writeStart_55 ⟨Nat.le_of_ble_eq_true rfl, Nat.le_of_ble_eq_true rfl⟩ (fun _ _ _ _ _ _ _ _ hp _ _ _ _ => hp.elim) (fun g90 l91 a92 b93 H locs hp94 hw => ?_)
  obtain ⟨h95, h96, h97⟩ := hp94
  refine lv_aload_n hx hb dX7_writeStart_58 rfl (lv_at hl 0 rfl) ?_
  refine hk_get (ci := 10) (C := RX7) (T := TX7) (N := 17) (v := .ref (ad 4)) hx hb hts (fun _ h => List.mem_cons_of_mem _ (wwXc_wsX70 _ h)) hown hw 18 rfl rfl 2 (by decide) (hq _ wX_569) rfl dX7_writeStart_59 ?_
  refine lv_aload_n hx hb dX7_writeStart_62 rfl (lv_at hl 0 rfl) ?_
  refine hk_get (ci := 10) (C := RX7) (T := TX7) (N := 17) (v := .ref (ad 4)) hx hb hts (fun _ h => List.mem_cons_of_mem _ (wwXc_wsX70 _ h)) hown hw 18 rfl rfl 2 (by decide) (hq _ wX_569) rfl dX7_writeStart_63 ?_
  refine lv_bipush (v := 6) hx hb dX7_writeStart_66 (by decide) ?_
  refine lv_bipush (v := 8) hx hb dX7_writeStart_68 (by decide) ?_
  refine jx_Si (As := [.ref (ad 4), .int 6, .int 8]) (rest := [.ref (ad 4)]) ⟨hx, hb, hml, hown, hts⟩ hZ hw hA (jx_X0_crc32_4 l hlt D t3 cI cJ ad g90 l91 a92 b93 _ 6 8) (va_cwS 3 hts (jx_gS wwX_good wX_670 wX_11 wX_12 wX_13) rfl rfl rfl (by decide +kernel) ⟨Nat.le_of_ble_eq_true rfl, Nat.le_of_ble_eq_true rfl⟩) rfl hl.1 rfl (Nat.le_of_ble_eq_true rfl) dX7_writeStart_70 ⟨Nat.le_of_ble_eq_true rfl, Nat.le_of_ble_eq_true rfl⟩ (fun _ _ _ _ _ _ _ _ hp _ _ _ _ => hp.elim) (fun r102 g103 l104 a105 b106 H locs hp107 hw => ?_)
  obtain ⟨h108, h109, h110⟩ := hp107
  refine lv_i2l hx hb dX7_writeStart_73 rfl (jx_nl fun z111 hz111 => ?_)
  refine lv_iconst (v := 4) hx hb dX7_writeStart_74 (by decide) ?_
  refine jx_Vv (As := [.long z111, .int 4]) (rest := []) ⟨hx, hb, hml, hown, hts⟩ hZ hw hA (jx_X9_putLow_4 l hlt D t3 cI cJ ad g103 l104 a105 b106 _ z111 4) (cwV 2 hts (jx_gV wwX_good wX_601 wX_602 wX_603 wX_24 wX_604) rfl rfl rfl (by decide +kernel) ⟨Nat.le_of_ble_eq_true rfl, Nat.le_of_ble_eq_true rfl⟩) 4 (ci := 12) (T := TX9) (N := 2) rfl rfl rfl hl.1 rfl (Nat.le_of_ble_eq_true rfl) dX7_writeStart_75 ⟨Nat.le_of_ble_eq_true rfl, Nat.le_of_ble_eq_true rfl⟩ (fun _ _ _ _ _ _ _ _ hp _ _ _ _ => hp.elim) (fun g117 l118 a119 b120 H locs hp121 hw => ?_)
  obtain ⟨h122, h123, h124⟩ := hp121
  exact kr g117 l118 a119 b120 _ _ _ _ ⟨(hk_frT (hk_frT (hk_frT (hk_frT (hk_frT (hk_frT (hk_frT (hk_frT h11 (by decide) h25) (by decide) h39) (by decide) h53) (by decide) h67) (by decide) h81) (by decide) h95) (by decide) h108) (by decide) h122), (hk_frT (hk_frT (hk_frT (hk_frT (hk_frT (hk_frT (hk_frT (hk_frT h12 (by decide) h26) (by decide) h40) (by decide) h54) (by decide) h68) (by decide) h82) (by decide) h96) (by decide) h109) (by decide) h123), (hk_frT (hk_frT (hk_frT (hk_frT (hk_frT (hk_frT (hk_frT (hk_frT h13 (by decide) h27) (by decide) h41) (by decide) h55) (by decide) h69) (by decide) h83) (by decide) h97) (by decide) h110) (by decide) h124)⟩ hw dX7_writeStart_78

set_option maxHeartbeats 4000000 in
set_option maxRecDepth 100000 in
/-- X7_writeFilter on (18,) -/
theorem jx_X7_writeFilter (l : Launch) (hlt : l.stackTraces = false) (D : va_G) (t3 : Nat × Nat × Nat) (cI cJ : ClassId) (ad : Nat → Nat) (g : Nat → Int32) (lg : Nat → Int64) (ar : Nat → Nat → Int32) (bk : Nat → Int64) (sz : Nat) (y1 : Int32) (y2 : Int32) (y3 : Int32) : JMv l yX7_writeFilter (Cond.code yX7_writeFilter cX7_writeFilter 4 none :: wwX) { frames := 3, cells := 1, slots := 6, locals := 66 } t3 D xw cI cJ ad [.ref (ad 18), .int y1, .int y2, .int y3] (xw cI cJ ad g lg ar bk) sz 1 6 (fun g' lg' ar' bk' => hk_fr [14] g g' ∧ hk_fr [] lg lg' ∧ hk_fr [1] ar ar') (fun g' lg' ar' bk' => False) := by
  refine jx_metv (cc := cX7_writeFilter) (maxL := 4) (ret := none) rfl (by decide) rfl (Nat.le_of_ble_eq_true rfl) ?_
  intro p e s m args below meth c ls Q A hx hb hml hown hts hA hZ hw hl hQ kr kt
  have hq : ∀ w ∈ wwX, w.before args s = true := fun w h => hts w (List.mem_cons_of_mem _ h)
  have hl : lv_has ls 4 [(0, .ref (ad 18)), (1, .int y1), (2, .int y2), (3, .int y3)] := hl
  refine lv_aload_n hx hb dX7_writeFilter_0 rfl (lv_at hl 0 rfl) ?_
  refine hk_get (ci := 10) (C := RX7) (T := TX7) (N := 17) (v := .ref (ad 4)) hx hb hts (fun _ h => List.mem_cons_of_mem _ (wwXc_wsX70 _ h)) hown hw 18 rfl rfl 2 (by decide) (hq _ wX_569) rfl dX7_writeFilter_1 ?_
  refine lv_iload_n hx hb dX7_writeFilter_4 rfl (lv_at hl 1 rfl) ?_
  refine jx_Vv (As := [.int y1]) (rest := []) ⟨hx, hb, hml, hown, hts⟩ hZ hw hA (jx_X9_putNumber_4 l hlt D t3 cI cJ ad g lg ar bk _ y1) (cwV 1 hts (jx_gV wwX_good wX_663 wX_347 wX_348 wX_24 wX_349) rfl rfl rfl (by decide +kernel) ⟨Nat.le_of_ble_eq_true rfl, Nat.le_of_ble_eq_true rfl⟩) 4 (ci := 12) (T := TX9) (N := 2) rfl rfl rfl hl.1 rfl (Nat.le_of_ble_eq_true rfl) dX7_writeFilter_5 ⟨Nat.le_of_ble_eq_true rfl, Nat.le_of_ble_eq_true rfl⟩ (fun _ _ _ _ _ _ _ _ hp _ _ _ _ => hp.elim) (fun g6 l7 a8 b9 H locs hp10 hw => ?_)
  obtain ⟨h11, h12, h13⟩ := hp10
  refine lv_aload_n hx hb dX7_writeFilter_8 rfl (lv_at hl 0 rfl) ?_
  refine hk_get (ci := 10) (C := RX7) (T := TX7) (N := 17) (v := .ref (ad 4)) hx hb hts (fun _ h => List.mem_cons_of_mem _ (wwXc_wsX70 _ h)) hown hw 18 rfl rfl 2 (by decide) (hq _ wX_569) rfl dX7_writeFilter_9 ?_
  refine lv_iload_n hx hb dX7_writeFilter_12 rfl (lv_at hl 2 rfl) ?_
  refine jx_Vv (As := [.int y2]) (rest := []) ⟨hx, hb, hml, hown, hts⟩ hZ hw hA (jx_X9_putNumber_4 l hlt D t3 cI cJ ad g6 l7 a8 b9 _ y2) (cwV 1 hts (jx_gV wwX_good wX_663 wX_347 wX_348 wX_24 wX_349) rfl rfl rfl (by decide +kernel) ⟨Nat.le_of_ble_eq_true rfl, Nat.le_of_ble_eq_true rfl⟩) 4 (ci := 12) (T := TX9) (N := 2) rfl rfl rfl hl.1 rfl (Nat.le_of_ble_eq_true rfl) dX7_writeFilter_13 ⟨Nat.le_of_ble_eq_true rfl, Nat.le_of_ble_eq_true rfl⟩ (fun _ _ _ _ _ _ _ _ hp _ _ _ _ => hp.elim) (fun g19 l20 a21 b22 H locs hp23 hw => ?_)
  obtain ⟨h24, h25, h26⟩ := hp23
  refine lv_iload_n hx hb dX7_writeFilter_16 rfl (lv_at hl 2 rfl) ?_
  refine lv_if_le (tgt := 28) hx hb dX7_writeFilter_17 (by decide) (fun cc27 => ?_) (fun cc27 => ?_)
  · exact kr g19 l20 a21 b22 _ _ _ _ ⟨(hk_frT h11 (by decide) h24), (hk_frT h12 (by decide) h25), (hk_frT h13 (by decide) h26)⟩ hw dX7_writeFilter_28
  · refine lv_aload_n hx hb dX7_writeFilter_20 rfl (lv_at hl 0 rfl) ?_
    refine hk_get (ci := 10) (C := RX7) (T := TX7) (N := 17) (v := .ref (ad 4)) hx hb hts (fun _ h => List.mem_cons_of_mem _ (wwXc_wsX70 _ h)) hown hw 18 rfl rfl 2 (by decide) (hq _ wX_569) rfl dX7_writeFilter_21 ?_
    refine lv_iload_n hx hb dX7_writeFilter_24 rfl (lv_at hl 3 rfl) ?_
    refine jx_Vv (As := [.int y3]) (rest := []) ⟨hx, hb, hml, hown, hts⟩ hZ hw hA (jx_X9_put_4 l hlt D t3 cI cJ ad g19 l20 a21 b22 _ y3) (cwV 1 hts (jx_gV wwX_good wX_599 wX_112 wX_113 wX_24 wX_114) rfl rfl rfl (by decide +kernel) ⟨Nat.le_of_ble_eq_true rfl, Nat.le_of_ble_eq_true rfl⟩) 4 (ci := 12) (T := TX9) (N := 2) rfl rfl rfl hl.1 rfl (Nat.le_of_ble_eq_true rfl) dX7_writeFilter_25 ⟨Nat.le_of_ble_eq_true rfl, Nat.le_of_ble_eq_true rfl⟩ (fun _ _ _ _ _ _ _ _ hp _ _ _ _ => hp.elim) (fun g33 l34 a35 b36 H locs hp37 hw => ?_)
    obtain ⟨h38, h39, h40, h41⟩ := hp37
    exact kr g33 l34 a35 b36 _ _ _ _ ⟨(hk_frT (hk_frT h11 (by decide) h24) (by decide) h38), (hk_frT (hk_frT h12 (by decide) h25) (by decide) h39), (hk_frT (hk_frT h13 (by decide) h26) (by decide) h40)⟩ hw dX7_writeFilter_28

set_option maxHeartbeats 4000000 in
set_option maxRecDepth 100000 in
/-- X0_crc32 on (2,) -/
theorem jx_X0_crc32_2 (l : Launch) (hlt : l.stackTraces = false) (D : va_G) (t3 : Nat × Nat × Nat) (cI cJ : ClassId) (ad : Nat → Nat) (g : Nat → Int32) (lg : Nat → Int64) (ar : Nat → Nat → Int32) (bk : Nat → Int64) (sz : Nat) (y1 : Int32) (y2 : Int32) : JMi l yX0_crc32 (Cond.code yX0_crc32 cX0_crc32 6 (some .int) :: wwX) { frames := 1, cells := 1, slots := 6, locals := 21 } t3 D xw cI cJ ad [.ref (ad 2), .int y1, .int y2] (xw cI cJ ad g lg ar bk) sz 1 6 (fun (r : Int32) g' lg' ar' bk' => hk_fr [] g g' ∧ hk_fr [] lg lg' ∧ hk_fr [] ar ar') (fun g' lg' ar' bk' => False) := by
  refine jx_meti (cc := cX0_crc32) (maxL := 6) (ret := (some .int)) rfl (by decide) rfl (Nat.le_of_ble_eq_true rfl) ?_
  intro p e s m args below meth c ls Q A hx hb hml hown hts hA hZ hw hl hQ kr kt
  have hq : ∀ w ∈ wwX, w.before args s = true := fun w h => hts w (List.mem_cons_of_mem _ h)
  have hl : lv_has ls 6 [(0, .ref (ad 2)), (1, .int y1), (2, .int y2)] := hl
  refine lv_iconst (v := (-1)) hx hb dX0_crc32_0 (by decide) ?_
  refine lv_istore_n (lv' := [(3, .int (-1)), (0, .ref (ad 2)), (1, .int y1), (2, .int y2)]) hx hb dX0_crc32_1 rfl hl (by decide) rfl (fun ls hl => ?_)
  refine lv_iload_n hx hb dX0_crc32_2 rfl (lv_at hl 2 rfl) ?_
  refine lv_istore (lv' := [(4, .int y1), (3, .int (-1)), (0, .ref (ad 2)), (1, .int y1), (2, .int y2)]) hx hb dX0_crc32_3 hl (by decide) rfl (fun ls hl => ?_)
  have B1 : ∀ (k4 : Nat) (x2 : Int32) (x3 : Int32) (ls : Array Slot) (H : Heap) (locs : List Loc), 2147483648 - (x3).toInt ≤ (k4 : Int) → hk_W D (jT cI cJ) A s H locs (xw cI cJ ad g lg ar bk) → lv_has ls 6 [(0, .ref (ad 2)), (2, .int y2), (3, .int x2), (4, .int x3)] → W p l e { frames := 1, cells := 1, slots := 6, locals := 21 } s m args below meth c H locs 0 0 Q (F0 m 5 ls []) := by
    intro k4
    induction k4 with
    | zero =>
      intro x2 x3 ls H locs hrk_B1 hw hl
      exact False.elim (hk_no0 (0 * (x3).toInt) (ob274 ((x3).toInt) hrk_B1 (hE_rng (x3))) (by simp))
    | succ k4 ih_B1 =>
      intro x2 x3 ls H locs hrk_B1 hw hl
      have hrk_B1 := hk_rk hrk_B1
      refine lv_iload hx hb dX0_crc32_5 (lv_at hl 3 rfl) ?_
      refine lv_iload_n hx hb dX0_crc32_7 rfl (lv_at hl 1 rfl) ?_
      refine lv_icmp_ge (tgt := 54) hx hb dX0_crc32_8 (by decide) (fun cc5 => ?_) (fun cc5 => ?_)
      · refine lv_iload_n hx hb dX0_crc32_54 rfl (lv_at hl 2 rfl) ?_
        refine lv_iconst (v := (-1)) hx hb dX0_crc32_55 (by decide) ?_
        refine lv_ixor hx hb dX0_crc32_56 (jx_nm fun z6 hz6 => ?_)
        exact kr z6 g lg ar bk _ _ _ _ ⟨hk_fr0, hk_fr0, hk_fr0⟩ hw dX0_crc32_57
      · refine lv_iload_n hx hb dX0_crc32_11 rfl (lv_at hl 2 rfl) ?_
        refine lv_aload_n hx hb dX0_crc32_12 rfl (lv_at hl 0 rfl) ?_
        refine lv_iload hx hb dX0_crc32_13 (lv_at hl 3 rfl) ?_
        refine jx_Vi (As := [.int x3]) (rest := [.int x2]) ⟨hx, hb, hml, hown, hts⟩ hZ hw hA (jx_X9_get_2 l hlt D t3 cI cJ ad g lg ar bk _ x3) (cwV 1 hts (jx_gV wwX_good wX_21 wX_22 wX_23 wX_24 wX_25) rfl rfl rfl (by decide +kernel) ⟨Nat.le_of_ble_eq_true rfl, Nat.le_of_ble_eq_true rfl⟩) 2 (ci := 12) (T := TX9) (N := 2) rfl rfl rfl hl.1 rfl (Nat.le_of_ble_eq_true rfl) dX0_crc32_15 ⟨Nat.le_of_ble_eq_true rfl, Nat.le_of_ble_eq_true rfl⟩ (fun _ _ _ _ _ _ _ _ hp _ _ _ _ => hp.elim) (fun r11 g12 l13 a14 b15 H locs hp16 hw => ?_)
        obtain ⟨h17, h18, h19⟩ := hp16
        refine lv_ixor hx hb dX0_crc32_18 (jx_nm fun z20 hz20 => ?_)
        refine lv_istore_n (lv' := [(3, .int z20), (0, .ref (ad 2)), (2, .int y2), (4, .int x3)]) hx hb dX0_crc32_19 rfl hl (by decide) rfl (fun ls hl => ?_)
        refine lv_iconst (v := 0) hx hb dX0_crc32_20 (by decide) ?_
        refine lv_istore (lv' := [(5, .int 0), (3, .int z20), (0, .ref (ad 2)), (2, .int y2), (4, .int x3)]) hx hb dX0_crc32_21 hl (by decide) rfl (fun ls hl => ?_)
        have B21 : ∀ (k24 : Nat) (x22 : Int32) (x23 : Int32) (ls : Array Slot) (H : Heap) (locs : List Loc), 2147483648 - (x23).toInt ≤ (k24 : Int) → 0 ≤ (x23).toInt → hk_W D (jT cI cJ) A s H locs (xw cI cJ ad g12 l13 a14 b15) → lv_has ls 6 [(0, .ref (ad 2)), (2, .int y2), (3, .int x22), (4, .int x3), (5, .int x23)] → W p l e { frames := 1, cells := 1, slots := 6, locals := 21 } s m args below meth c H locs 0 0 Q (F0 m 23 ls []) := by
          intro k24
          induction k24 with
          | zero =>
            intro x22 x23 ls H locs hrk_B21 hf_B21_0 hw hl
            exact False.elim (hk_no0 (0 * (x23).toInt) (ob5 ((x23).toInt) hf_B21_0 hrk_B21 (hE_rng (x23))) (by simp))
          | succ k24 ih_B21 =>
            intro x22 x23 ls H locs hrk_B21 hf_B21_0 hw hl
            have hrk_B21 := hk_rk hrk_B21
            refine lv_iload hx hb dX0_crc32_23 (lv_at hl 4 rfl) ?_
            refine lv_bipush (v := 8) hx hb dX0_crc32_25 (by decide) ?_
            refine lv_icmp_ge (tgt := 48) hx hb dX0_crc32_27 (by decide) (fun cc25 => ?_) (fun cc25 => ?_)
            · obtain ⟨z26, hz26⟩ : ∃ z : Int32, x3 + 1 = z := ⟨_, rfl⟩
              refine lv_iinc (v := z26) (lv' := [(4, .int z26), (0, .ref (ad 2)), (2, .int y2), (3, .int x22), (5, .int x23)]) hx hb dX0_crc32_48 hl (k := 3) rfl hz26 (by decide) rfl (fun ls hl => ?_)
              refine lv_goto (tgt := 5) hx hb dX0_crc32_51 (by decide) ?_
              exact ih_B1 x22 z26 ls _ _ (ob291 ((z26).toInt) (k4 : Int) ((x3).toInt) (((1 : Int32)).toInt) ((y2).toInt) hrk_B1 (hE_add hz26) (hE_nle cc5) (hE_rng (z26)) (hE_rng (x3)) (by decide) (hE_rng (y2))) hw (lv_sub hl [1, 2, 3, 0] rfl)
            · refine lv_iload_n hx hb dX0_crc32_30 rfl (lv_at hl 2 rfl) ?_
              refine lv_iconst (v := 1) hx hb dX0_crc32_31 (by decide) ?_
              refine lv_iushr hx hb dX0_crc32_32 rfl (jx_nm fun z27 hz27 => ?_)
              refine lv_ldc (v := (-306674912)) hx hb hown (hq _ wX_26) dX0_crc32_33 ?_
              refine lv_iload_n hx hb dX0_crc32_35 rfl (lv_at hl 2 rfl) ?_
              refine lv_iconst (v := 1) hx hb dX0_crc32_36 (by decide) ?_
              refine lv_iand hx hb dX0_crc32_37 (jx_nm fun z28 hz28 => ?_)
              refine lv_ineg hx hb dX0_crc32_38 (jx_nm fun z29 hz29 => ?_)
              refine lv_iand hx hb dX0_crc32_39 (jx_nm fun z30 hz30 => ?_)
              refine lv_ixor hx hb dX0_crc32_40 (jx_nm fun z31 hz31 => ?_)
              refine lv_istore_n (lv' := [(3, .int z31), (0, .ref (ad 2)), (2, .int y2), (4, .int x3), (5, .int x23)]) hx hb dX0_crc32_41 rfl hl (by decide) rfl (fun ls hl => ?_)
              obtain ⟨z32, hz32⟩ : ∃ z : Int32, x23 + 1 = z := ⟨_, rfl⟩
              refine lv_iinc (v := z32) (lv' := [(5, .int z32), (3, .int z31), (0, .ref (ad 2)), (2, .int y2), (4, .int x3)]) hx hb dX0_crc32_42 hl (k := 4) rfl hz32 (by decide) rfl (fun ls hl => ?_)
              refine lv_goto (tgt := 23) hx hb dX0_crc32_45 (by decide) ?_
              exact ih_B21 z31 z32 ls _ _ (ob154 ((z32).toInt) (k24 : Int) ((x23).toInt) (((1 : Int32)).toInt) (((8 : Int32)).toInt) hrk_B21 (hE_add hz32) hf_B21_0 (hE_nle cc25) (hE_rng (z32)) (hE_rng (x23)) (by decide) (by decide)) (ob155 ((z32).toInt) ((x23).toInt) (((1 : Int32)).toInt) (k24 : Int) (((8 : Int32)).toInt) (hE_add hz32) hf_B21_0 hrk_B21 (hE_nle cc25) (hE_rng (z32)) (hE_rng (x23)) (by decide) (by decide)) hw (lv_sub hl [2, 3, 1, 4, 0] rfl)
        exact B21 (2147483648 - ((0 : Int32)).toInt).toNat z20 0 ls _ _ (Int.self_le_toNat _) (ob10 (((0 : Int32)).toInt) (by decide)) hw (lv_sub hl [2, 3, 1, 4, 0] rfl)
  exact B1 (2147483648 - (y1).toInt).toNat (-1) y1 ls _ _ (Int.self_le_toNat _) hw (lv_sub hl [2, 4, 1, 0] rfl)

set_option maxHeartbeats 4000000 in
set_option maxRecDepth 100000 in
/-- X0_crc64 on (2,) -/
theorem jx_X0_crc64_2 (l : Launch) (hlt : l.stackTraces = false) (D : va_G) (t3 : Nat × Nat × Nat) (cI cJ : ClassId) (ad : Nat → Nat) (g : Nat → Int32) (lg : Nat → Int64) (ar : Nat → Nat → Int32) (bk : Nat → Int64) (sz : Nat) (y1 : Int32) (y2 : Int32) : JMl l yX0_crc64 (Cond.code yX0_crc64 cX0_crc64 7 (some .long) :: wwX) { frames := 1, cells := 1, slots := 6, locals := 21 } t3 D xw cI cJ ad [.ref (ad 2), .int y1, .int y2] (xw cI cJ ad g lg ar bk) sz 1 6 (fun (r : Int64) g' lg' ar' bk' => hk_fr [] g g' ∧ hk_fr [] lg lg' ∧ hk_fr [] ar ar') (fun g' lg' ar' bk' => False) := by
  refine jx_metl (cc := cX0_crc64) (maxL := 7) (ret := (some .long)) rfl (by decide) rfl (Nat.le_of_ble_eq_true rfl) ?_
  intro p e s m args below meth c ls Q A hx hb hml hown hts hA hZ hw hl hQ kr kt
  have hq : ∀ w ∈ wwX, w.before args s = true := fun w h => hts w (List.mem_cons_of_mem _ h)
  have hl : lv_has ls 7 [(0, .ref (ad 2)), (1, .int y1), (2, .int y2)] := hl
  refine lv_ldc2 (v := (-1)) hx hb hown (hq _ wX_27) dX0_crc64_0 ?_
  refine lv_lstore_n (lv' := [(3, .long (-1)), (0, .ref (ad 2)), (1, .int y1), (2, .int y2)]) hx hb dX0_crc64_3 rfl hl (by decide) rfl (fun ls hl => ?_)
  refine lv_iload_n hx hb dX0_crc64_4 rfl (lv_at hl 2 rfl) ?_
  refine lv_istore (lv' := [(5, .int y1), (3, .long (-1)), (0, .ref (ad 2)), (1, .int y1), (2, .int y2)]) hx hb dX0_crc64_5 hl (by decide) rfl (fun ls hl => ?_)
  have B1 : ∀ (k4 : Nat) (x2 : Int64) (x3 : Int32) (ls : Array Slot) (H : Heap) (locs : List Loc), 2147483648 - (x3).toInt ≤ (k4 : Int) → hk_W D (jT cI cJ) A s H locs (xw cI cJ ad g lg ar bk) → lv_has ls 7 [(0, .ref (ad 2)), (2, .int y2), (3, .long x2), (5, .int x3)] → W p l e { frames := 1, cells := 1, slots := 6, locals := 21 } s m args below meth c H locs 0 0 Q (F0 m 7 ls []) := by
    intro k4
    induction k4 with
    | zero =>
      intro x2 x3 ls H locs hrk_B1 hw hl
      exact False.elim (hk_no0 (0 * (x3).toInt) (ob274 ((x3).toInt) hrk_B1 (hE_rng (x3))) (by simp))
    | succ k4 ih_B1 =>
      intro x2 x3 ls H locs hrk_B1 hw hl
      have hrk_B1 := hk_rk hrk_B1
      refine lv_iload hx hb dX0_crc64_7 (lv_at hl 3 rfl) ?_
      refine lv_iload_n hx hb dX0_crc64_9 rfl (lv_at hl 1 rfl) ?_
      refine lv_icmp_ge (tgt := 58) hx hb dX0_crc64_10 (by decide) (fun cc5 => ?_) (fun cc5 => ?_)
      · refine lv_lload_n hx hb dX0_crc64_58 rfl (lv_at hl 2 rfl) ?_
        refine lv_ldc2 (v := (-1)) hx hb hown (hq _ wX_27) dX0_crc64_59 ?_
        refine lv_lxor hx hb dX0_crc64_62 (jx_nl fun z6 hz6 => ?_)
        exact kr z6 g lg ar bk _ _ _ _ ⟨hk_fr0, hk_fr0, hk_fr0⟩ hw dX0_crc64_63
      · refine lv_lload_n hx hb dX0_crc64_13 rfl (lv_at hl 2 rfl) ?_
        refine lv_aload_n hx hb dX0_crc64_14 rfl (lv_at hl 0 rfl) ?_
        refine lv_iload hx hb dX0_crc64_15 (lv_at hl 3 rfl) ?_
        refine jx_Vi (As := [.int x3]) (rest := [.long x2]) ⟨hx, hb, hml, hown, hts⟩ hZ hw hA (jx_X9_get_2 l hlt D t3 cI cJ ad g lg ar bk _ x3) (cwV 1 hts (jx_gV wwX_good wX_21 wX_22 wX_23 wX_24 wX_25) rfl rfl rfl (by decide +kernel) ⟨Nat.le_of_ble_eq_true rfl, Nat.le_of_ble_eq_true rfl⟩) 2 (ci := 12) (T := TX9) (N := 2) rfl rfl rfl hl.1 rfl (Nat.le_of_ble_eq_true rfl) dX0_crc64_17 ⟨Nat.le_of_ble_eq_true rfl, Nat.le_of_ble_eq_true rfl⟩ (fun _ _ _ _ _ _ _ _ hp _ _ _ _ => hp.elim) (fun r11 g12 l13 a14 b15 H locs hp16 hw => ?_)
        obtain ⟨h17, h18, h19⟩ := hp16
        refine lv_i2l hx hb dX0_crc64_20 rfl (jx_nl fun z20 hz20 => ?_)
        refine lv_lxor hx hb dX0_crc64_21 (jx_nl fun z21 hz21 => ?_)
        refine lv_lstore_n (lv' := [(3, .long z21), (0, .ref (ad 2)), (2, .int y2), (5, .int x3)]) hx hb dX0_crc64_22 rfl hl (by decide) rfl (fun ls hl => ?_)
        refine lv_iconst (v := 0) hx hb dX0_crc64_23 (by decide) ?_
        refine lv_istore (lv' := [(6, .int 0), (3, .long z21), (0, .ref (ad 2)), (2, .int y2), (5, .int x3)]) hx hb dX0_crc64_24 hl (by decide) rfl (fun ls hl => ?_)
        have B22 : ∀ (k25 : Nat) (x23 : Int64) (x24 : Int32) (ls : Array Slot) (H : Heap) (locs : List Loc), 2147483648 - (x24).toInt ≤ (k25 : Int) → 0 ≤ (x24).toInt → hk_W D (jT cI cJ) A s H locs (xw cI cJ ad g12 l13 a14 b15) → lv_has ls 7 [(0, .ref (ad 2)), (2, .int y2), (3, .long x23), (5, .int x3), (6, .int x24)] → W p l e { frames := 1, cells := 1, slots := 6, locals := 21 } s m args below meth c H locs 0 0 Q (F0 m 26 ls []) := by
          intro k25
          induction k25 with
          | zero =>
            intro x23 x24 ls H locs hrk_B22 hf_B22_0 hw hl
            exact False.elim (hk_no0 (0 * (x24).toInt) (ob5 ((x24).toInt) hf_B22_0 hrk_B22 (hE_rng (x24))) (by simp))
          | succ k25 ih_B22 =>
            intro x23 x24 ls H locs hrk_B22 hf_B22_0 hw hl
            have hrk_B22 := hk_rk hrk_B22
            refine lv_iload hx hb dX0_crc64_26 (lv_at hl 4 rfl) ?_
            refine lv_bipush (v := 8) hx hb dX0_crc64_28 (by decide) ?_
            refine lv_icmp_ge (tgt := 52) hx hb dX0_crc64_30 (by decide) (fun cc26 => ?_) (fun cc26 => ?_)
            · obtain ⟨z27, hz27⟩ : ∃ z : Int32, x3 + 1 = z := ⟨_, rfl⟩
              refine lv_iinc (v := z27) (lv' := [(5, .int z27), (0, .ref (ad 2)), (2, .int y2), (3, .long x23), (6, .int x24)]) hx hb dX0_crc64_52 hl (k := 3) rfl hz27 (by decide) rfl (fun ls hl => ?_)
              refine lv_goto (tgt := 7) hx hb dX0_crc64_55 (by decide) ?_
              exact ih_B1 x23 z27 ls _ _ (ob291 ((z27).toInt) (k4 : Int) ((x3).toInt) (((1 : Int32)).toInt) ((y2).toInt) hrk_B1 (hE_add hz27) (hE_nle cc5) (hE_rng (z27)) (hE_rng (x3)) (by decide) (hE_rng (y2))) hw (lv_sub hl [1, 2, 3, 0] rfl)
            · refine lv_lload_n hx hb dX0_crc64_33 rfl (lv_at hl 2 rfl) ?_
              refine lv_iconst (v := 1) hx hb dX0_crc64_34 (by decide) ?_
              refine lv_lushr hx hb dX0_crc64_35 rfl (jx_nl fun z28 hz28 => ?_)
              refine lv_ldc2 (v := (-3932672073523589310)) hx hb hown (hq _ wX_28) dX0_crc64_36 ?_
              refine lv_lload_n hx hb dX0_crc64_39 rfl (lv_at hl 2 rfl) ?_
              refine lv_lconst (v := 1) hx hb dX0_crc64_40 (by decide) ?_
              refine lv_land hx hb dX0_crc64_41 (jx_nl fun z29 hz29 => ?_)
              refine lv_lneg hx hb dX0_crc64_42 (jx_nl fun z30 hz30 => ?_)
              refine lv_land hx hb dX0_crc64_43 (jx_nl fun z31 hz31 => ?_)
              refine lv_lxor hx hb dX0_crc64_44 (jx_nl fun z32 hz32 => ?_)
              refine lv_lstore_n (lv' := [(3, .long z32), (0, .ref (ad 2)), (2, .int y2), (5, .int x3), (6, .int x24)]) hx hb dX0_crc64_45 rfl hl (by decide) rfl (fun ls hl => ?_)
              obtain ⟨z33, hz33⟩ : ∃ z : Int32, x24 + 1 = z := ⟨_, rfl⟩
              refine lv_iinc (v := z33) (lv' := [(6, .int z33), (3, .long z32), (0, .ref (ad 2)), (2, .int y2), (5, .int x3)]) hx hb dX0_crc64_46 hl (k := 4) rfl hz33 (by decide) rfl (fun ls hl => ?_)
              refine lv_goto (tgt := 26) hx hb dX0_crc64_49 (by decide) ?_
              exact ih_B22 z32 z33 ls _ _ (ob154 ((z33).toInt) (k25 : Int) ((x24).toInt) (((1 : Int32)).toInt) (((8 : Int32)).toInt) hrk_B22 (hE_add hz33) hf_B22_0 (hE_nle cc26) (hE_rng (z33)) (hE_rng (x24)) (by decide) (by decide)) (ob155 ((z33).toInt) ((x24).toInt) (((1 : Int32)).toInt) (k25 : Int) (((8 : Int32)).toInt) (hE_add hz33) hf_B22_0 hrk_B22 (hE_nle cc26) (hE_rng (z33)) (hE_rng (x24)) (by decide) (by decide)) hw (lv_sub hl [2, 3, 1, 4, 0] rfl)
        exact B22 (2147483648 - ((0 : Int32)).toInt).toNat z21 0 ls _ _ (Int.self_le_toNat _) (ob10 (((0 : Int32)).toInt) (by decide)) hw (lv_sub hl [2, 3, 1, 4, 0] rfl)
  exact B1 (2147483648 - (y1).toInt).toNat (-1) y1 ls _ _ (Int.self_le_toNat _) hw (lv_sub hl [2, 4, 1, 0] rfl)

set_option maxHeartbeats 4000000 in
set_option maxRecDepth 100000 in
/-- X0_shaByte on (2,) -/
theorem jx_X0_shaByte_2 (l : Launch) (hlt : l.stackTraces = false) (D : va_G) (t3 : Nat × Nat × Nat) (cI cJ : ClassId) (ad : Nat → Nat) (g : Nat → Int32) (lg : Nat → Int64) (ar : Nat → Nat → Int32) (bk : Nat → Int64) (sz : Nat) (y1 : Int32) (y2 : Int32) (y3 : Int32) : JMi l yX0_shaByte (Cond.code yX0_shaByte cX0_shaByte 4 (some .int) :: wwX) { frames := 1, cells := 1, slots := 6, locals := 21 } t3 D xw cI cJ ad [.ref (ad 2), .int y1, .int y2, .int y3] (xw cI cJ ad g lg ar bk) sz 1 6 (fun (r : Int32) g' lg' ar' bk' => hk_fr [] g g' ∧ hk_fr [] lg lg' ∧ hk_fr [] ar ar') (fun g' lg' ar' bk' => False) := by
  refine jx_meti (cc := cX0_shaByte) (maxL := 4) (ret := (some .int)) rfl (by decide) rfl (Nat.le_of_ble_eq_true rfl) ?_
  intro p e s m args below meth c ls Q A hx hb hml hown hts hA hZ hw hl hQ kr kt
  have hq : ∀ w ∈ wwX, w.before args s = true := fun w h => hts w (List.mem_cons_of_mem _ h)
  have hl : lv_has ls 4 [(0, .ref (ad 2)), (1, .int y1), (2, .int y2), (3, .int y3)] := hl
  refine lv_iload_n hx hb dX0_shaByte_0 rfl (lv_at hl 3 rfl) ?_
  refine lv_iload_n hx hb dX0_shaByte_1 rfl (lv_at hl 2 rfl) ?_
  refine lv_icmp_ge (tgt := 15) hx hb dX0_shaByte_2 (by decide) (fun cc1 => ?_) (fun cc1 => ?_)
  · refine lv_iload_n hx hb dX0_shaByte_15 rfl (lv_at hl 3 rfl) ?_
    refine lv_iload_n hx hb dX0_shaByte_16 rfl (lv_at hl 2 rfl) ?_
    refine lv_icmp_ne (tgt := 26) hx hb dX0_shaByte_17 (by decide) (fun cc2 => ?_) (fun cc2 => ?_)
    · refine lv_iconst (v := 0) hx hb dX0_shaByte_26 (by decide) ?_
      exact kr 0 g lg ar bk _ _ _ _ ⟨hk_fr0, hk_fr0, hk_fr0⟩ hw dX0_shaByte_27
    · refine lv_sipush (v := 128) hx hb dX0_shaByte_20 (by decide) ?_
      refine lv_goto (tgt := 27) hx hb dX0_shaByte_23 (by decide) ?_
      exact kr 128 g lg ar bk _ _ _ _ ⟨hk_fr0, hk_fr0, hk_fr0⟩ hw dX0_shaByte_27
  · refine lv_aload_n hx hb dX0_shaByte_5 rfl (lv_at hl 0 rfl) ?_
    refine lv_iload_n hx hb dX0_shaByte_6 rfl (lv_at hl 1 rfl) ?_
    refine lv_iload_n hx hb dX0_shaByte_7 rfl (lv_at hl 3 rfl) ?_
    refine lv_iadd hx hb dX0_shaByte_8 (jx_nm fun z3 hz3 => ?_)
    refine jx_Vi (As := [.int z3]) (rest := []) ⟨hx, hb, hml, hown, hts⟩ hZ hw hA (jx_X9_get_2 l hlt D t3 cI cJ ad g lg ar bk _ z3) (cwV 1 hts (jx_gV wwX_good wX_21 wX_22 wX_23 wX_24 wX_25) rfl rfl rfl (by decide +kernel) ⟨Nat.le_of_ble_eq_true rfl, Nat.le_of_ble_eq_true rfl⟩) 2 (ci := 12) (T := TX9) (N := 2) rfl rfl rfl hl.1 rfl (Nat.le_of_ble_eq_true rfl) dX0_shaByte_9 ⟨Nat.le_of_ble_eq_true rfl, Nat.le_of_ble_eq_true rfl⟩ (fun _ _ _ _ _ _ _ _ hp _ _ _ _ => hp.elim) (fun r8 g9 l10 a11 b12 H locs hp13 hw => ?_)
    obtain ⟨h14, h15, h16⟩ := hp13
    refine lv_goto (tgt := 27) hx hb dX0_shaByte_12 (by decide) ?_
    exact kr r8 g9 l10 a11 b12 _ _ _ _ ⟨h14, h15, h16⟩ hw dX0_shaByte_27

set_option maxHeartbeats 4000000 in
set_option maxRecDepth 100000 in
/-- X0_sha256 on (11, 2) -/
theorem jx_X0_sha256_2 (l : Launch) (hlt : l.stackTraces = false) (D : va_G) (t3 : Nat × Nat × Nat) (cI cJ : ClassId) (ad : Nat → Nat) (g : Nat → Int32) (lg : Nat → Int64) (ar : Nat → Nat → Int32) (bk : Nat → Int64) (sz : Nat) (y2 : Int32) (y3 : Int32) : JMv l yX0_sha256 (Cond.code yX0_sha256 cX0_sha256 10 none :: wwX) { frames := 3, cells := 1, slots := 6, locals := 75 } t3 D xw cI cJ ad [.ref (ad 11), .ref (ad 2), .int y2, .int y3] (xw cI cJ ad g lg ar bk) sz 1 6 (fun g' lg' ar' bk' => hk_fr [] g g' ∧ hk_fr [] lg lg' ∧ hk_fr [3, 4, 5] ar ar') (fun g' lg' ar' bk' => False) := by
  refine jx_metv (cc := cX0_sha256) (maxL := 10) (ret := none) rfl (by decide) rfl (Nat.le_of_ble_eq_true rfl) ?_
  intro p e s m args below meth c ls Q A hx hb hml hown hts hA hZ hw hl hQ kr kt
  have hq : ∀ w ∈ wwX, w.before args s = true := fun w h => hts w (List.mem_cons_of_mem _ h)
  have hl : lv_has ls 10 [(0, .ref (ad 11)), (1, .ref (ad 2)), (2, .int y2), (3, .int y3)] := hl
  refine hk_gets hx hb hZ.2.2.2.1 hw hown (hq _ wX_43) dX0_sha256_0 ?_
  refine lv_iconst (v := 0) hx hb dX0_sha256_3 (by decide) ?_
  refine lv_aload_n hx hb dX0_sha256_4 rfl (lv_at hl 0 rfl) ?_
  refine hk_get (ci := 3) (C := RX0) (T := TX0) (N := 3) (v := .ref (ad 12)) hx hb hts (fun _ h => List.mem_cons_of_mem _ (wwXc_wsX00 _ h)) hown hw 11 rfl rfl 0 (by decide) (hq _ wX_9) rfl dX0_sha256_5 ?_
  refine lv_iconst (v := 0) hx hb dX0_sha256_8 (by decide) ?_
  refine lv_bipush (v := 8) hx hb dX0_sha256_9 (by decide) ?_
  refine hk_copyT hx hb (by rw [hml]; exact hl.1.symm) hown (hq _ wX_34) (hq _ wX_35) (hq _ wX_36) (hq _ wX_37) hw hZ.2.2.2.1 12 0 rfl rfl (by decide) (by decide) (by decide) (by decide +kernel) (by decide +kernel) (Nat.le_of_ble_eq_true rfl) (by decide +kernel) dX0_sha256_11 rfl (fun H locs hw => ?_)
  obtain ⟨a1, h_a1, hw⟩ := jx_nar xw (g := g) (lg := lg) (ar := ar) (bk := bk) 3 hw rfl
  refine lv_iload_n hx hb dX0_sha256_14 rfl (lv_at hl 3 rfl) ?_
  refine lv_iload_n hx hb dX0_sha256_15 rfl (lv_at hl 2 rfl) ?_
  refine lv_isub hx hb dX0_sha256_16 (jx_nm fun z2 hz2 => ?_)
  refine lv_istore (lv' := [(4, .int z2), (0, .ref (ad 11)), (1, .ref (ad 2)), (2, .int y2), (3, .int y3)]) hx hb dX0_sha256_17 hl (by decide) rfl (fun ls hl => ?_)
  refine lv_iload hx hb dX0_sha256_19 (lv_at hl 0 rfl) ?_
  refine lv_bipush (v := 72) hx hb dX0_sha256_21 (by decide) ?_
  refine lv_iadd hx hb dX0_sha256_23 (jx_nm fun z3 hz3 => ?_)
  refine lv_bipush (v := (-64)) hx hb dX0_sha256_24 (by decide) ?_
  refine lv_iand hx hb dX0_sha256_26 (jx_nm fun z4 hz4 => ?_)
  refine lv_istore (lv' := [(5, .int z4), (4, .int z2), (0, .ref (ad 11)), (1, .ref (ad 2)), (2, .int y2), (3, .int y3)]) hx hb dX0_sha256_27 hl (by decide) rfl (fun ls hl => ?_)
  refine lv_iconst (v := 0) hx hb dX0_sha256_29 (by decide) ?_
  refine lv_istore (lv' := [(6, .int 0), (5, .int z4), (4, .int z2), (0, .ref (ad 11)), (1, .ref (ad 2)), (2, .int y2), (3, .int y3)]) hx hb dX0_sha256_30 hl (by decide) rfl (fun ls hl => ?_)
  have B5 : ∀ (k8 : Nat) (x6 : Int32) (a7 : Nat → Nat → Int32) (ls : Array Slot) (H : Heap) (locs : List Loc), 2147483648 - (x6).toInt ≤ (k8 : Int) → (x6).toInt % 64 = 0 → 0 ≤ (x6).toInt → hk_fr [3, 4, 5] a1 a7 → hk_W D (jT cI cJ) A s H locs (xw cI cJ ad g lg a7 bk) → lv_has ls 10 [(0, .ref (ad 11)), (1, .ref (ad 2)), (2, .int y2), (4, .int z2), (5, .int z4), (6, .int x6)] → W p l e { frames := 3, cells := 1, slots := 6, locals := 75 } s m args below meth c H locs 0 0 Q (F0 m 32 ls []) := by
    intro k8
    induction k8 with
    | zero =>
      intro x6 a7 ls H locs hrk_B5 hf_B5_0 hf_B5_1 hfr_a7 hw hl
      exact False.elim (hk_no0 (0 * (x6).toInt) (ob292 ((x6).toInt) hf_B5_0 hf_B5_1 hrk_B5 (hE_rng (x6))) (by simp))
    | succ k8 ih_B5 =>
      intro x6 a7 ls H locs hrk_B5 hf_B5_0 hf_B5_1 hfr_a7 hw hl
      have hrk_B5 := hk_rk hrk_B5
      refine lv_iload hx hb dX0_sha256_32 (lv_at hl 5 rfl) ?_
      refine lv_iload hx hb dX0_sha256_34 (lv_at hl 4 rfl) ?_
      refine lv_icmp_ge (tgt := 139) hx hb dX0_sha256_36 (by decide) (fun cc9 => ?_) (fun cc9 => ?_)
      · exact kr g lg a7 bk _ _ _ _ ⟨hk_fr0, hk_fr0, (hk_frT (hk_frA hk_fr0 (by decide) h_a1) (by decide) hfr_a7)⟩ hw dX0_sha256_139
      · refine lv_iconst (v := 0) hx hb dX0_sha256_39 (by decide) ?_
        refine lv_istore (lv' := [(7, .int 0), (0, .ref (ad 11)), (1, .ref (ad 2)), (2, .int y2), (4, .int z2), (5, .int z4), (6, .int x6)]) hx hb dX0_sha256_40 hl (by decide) rfl (fun ls hl => ?_)
        have B10 : ∀ (k13 : Nat) (x11 : Int32) (a12 : Nat → Nat → Int32) (ls : Array Slot) (H : Heap) (locs : List Loc), 2147483648 - (x11).toInt ≤ (k13 : Int) → 0 ≤ (x11).toInt → hk_fr [5] a7 a12 → hk_W D (jT cI cJ) A s H locs (xw cI cJ ad g lg a12 bk) → lv_has ls 10 [(0, .ref (ad 11)), (1, .ref (ad 2)), (2, .int y2), (4, .int z2), (5, .int z4), (6, .int x6), (7, .int x11)] → W p l e { frames := 3, cells := 1, slots := 6, locals := 75 } s m args below meth c H locs 0 0 Q (F0 m 42 ls []) := by
          intro k13
          induction k13 with
          | zero =>
            intro x11 a12 ls H locs hrk_B10 hf_B10_0 hfr_a12 hw hl
            exact False.elim (hk_no0 (0 * (x11).toInt) (ob5 ((x11).toInt) hf_B10_0 hrk_B10 (hE_rng (x11))) (by simp))
          | succ k13 ih_B10 =>
            intro x11 a12 ls H locs hrk_B10 hf_B10_0 hfr_a12 hw hl
            have hrk_B10 := hk_rk hrk_B10
            refine lv_iload hx hb dX0_sha256_42 (lv_at hl 6 rfl) ?_
            refine lv_bipush (v := 16) hx hb dX0_sha256_44 (by decide) ?_
            refine lv_icmp_ge (tgt := 107) hx hb dX0_sha256_46 (by decide) (fun cc14 => ?_) (fun cc14 => ?_)
            · refine lv_iload hx hb dX0_sha256_107 (lv_at hl 5 rfl) ?_
              refine lv_bipush (v := 64) hx hb dX0_sha256_109 (by decide) ?_
              refine lv_iadd hx hb dX0_sha256_111 (jx_nm fun z15 hz15 => ?_)
              refine lv_iload hx hb dX0_sha256_112 (lv_at hl 4 rfl) ?_
              have B16 : ∀  (a17 : Nat → Nat → Int32) (ls : Array Slot) (H : Heap) (locs : List Loc), hk_fr [5] a12 a17 → hk_W D (jT cI cJ) A s H locs (xw cI cJ ad g lg a17 bk) → lv_has ls 10 [(0, .ref (ad 11)), (1, .ref (ad 2)), (2, .int y2), (4, .int z2), (5, .int z4), (6, .int x6)] → W p l e { frames := 3, cells := 1, slots := 6, locals := 75 } s m args below meth c H locs 0 0 Q (F0 m 129 ls []) := by
                intro a17 ls H locs hfr_a17 hw hl
                refine lv_aload_n hx hb dX0_sha256_129 rfl (lv_at hl 0 rfl) ?_
                refine jx_Vv (As := []) (rest := []) ⟨hx, hb, hml, hown, hts⟩ hZ hw hA (jx_X0_mixBlock l hlt D t3 cI cJ ad g lg a17 bk _) (cwV 0 hts (jx_gV wwX_good wX_47 wX_48 wX_49 wX_12 wX_50) rfl rfl rfl (by decide +kernel) ⟨Nat.le_of_ble_eq_true rfl, Nat.le_of_ble_eq_true rfl⟩) 11 (ci := 3) (T := TX0) (N := 3) rfl rfl rfl hl.1 rfl (Nat.le_of_ble_eq_true rfl) dX0_sha256_130 ⟨Nat.le_of_ble_eq_true rfl, Nat.le_of_ble_eq_true rfl⟩ (fun _ _ _ _ _ _ _ _ hp _ _ _ _ => hp.elim) (fun g23 l24 a25 b26 H locs hp27 hw => ?_)
                obtain ⟨h28, h29, h30⟩ := hp27
                obtain ⟨z31, hz31⟩ : ∃ z : Int32, x6 + 64 = z := ⟨_, rfl⟩
                refine lv_iinc (v := z31) (lv' := [(6, .int z31), (0, .ref (ad 11)), (1, .ref (ad 2)), (2, .int y2), (4, .int z2), (5, .int z4)]) hx hb dX0_sha256_133 hl (k := 5) rfl hz31 (by decide) rfl (fun ls hl => ?_)
                refine lv_goto (tgt := 32) hx hb dX0_sha256_136 (by decide) ?_
                exact ih_B5 z31 a25 ls _ _ (ob293 ((z31).toInt) (k8 : Int) ((x6).toInt) (((64 : Int32)).toInt) ((z4).toInt) ((z15).toInt) ((z3).toInt) ((z2).toInt) (((72 : Int32)).toInt) ((y3).toInt) ((y2).toInt) hrk_B5 (hE_add hz31) hf_B5_0 hf_B5_1 (hE_nle cc9) (hE_add hz15) (hE_andN 6 64 hz4 (by decide) (by decide) (by decide)) (hE_add hz3) (hE_sub hz2) (hE_rng (z31)) (hE_rng (x6)) (by decide) (hE_rng (z4)) (hE_rng (z15)) (hE_rng (z3)) (hE_rng (z2)) (by decide) (hE_rng (y3)) (hE_rng (y2))) (ob294 ((z31).toInt) ((x6).toInt) (((64 : Int32)).toInt) (k8 : Int) ((z4).toInt) ((z15).toInt) ((z3).toInt) ((z2).toInt) (((72 : Int32)).toInt) ((y3).toInt) ((y2).toInt) (hE_add hz31) hf_B5_0 hf_B5_1 hrk_B5 (hE_nle cc9) (hE_add hz15) (hE_andN 6 64 hz4 (by decide) (by decide) (by decide)) (hE_add hz3) (hE_sub hz2) (hE_rng (z31)) (hE_rng (x6)) (by decide) (hE_rng (z4)) (hE_rng (z15)) (hE_rng (z3)) (hE_rng (z2)) (by decide) (hE_rng (y3)) (hE_rng (y2))) (ob295 ((z31).toInt) ((x6).toInt) (((64 : Int32)).toInt) (k8 : Int) ((z4).toInt) ((z15).toInt) ((z3).toInt) ((z2).toInt) (((72 : Int32)).toInt) ((y3).toInt) ((y2).toInt) (hE_add hz31) hf_B5_0 hf_B5_1 hrk_B5 (hE_nle cc9) (hE_add hz15) (hE_andN 6 64 hz4 (by decide) (by decide) (by decide)) (hE_add hz3) (hE_sub hz2) (hE_rng (z31)) (hE_rng (x6)) (by decide) (hE_rng (z4)) (hE_rng (z15)) (hE_rng (z3)) (hE_rng (z2)) (by decide) (hE_rng (y3)) (hE_rng (y2))) (hk_frT (hk_frT (hk_frT hfr_a7 (by decide) hfr_a12) (by decide) hfr_a17) (by decide) h30) hw (lv_sub hl [1, 2, 3, 4, 5, 0] rfl)
              refine lv_icmp_ne (tgt := 129) hx hb dX0_sha256_114 (by decide) (fun cc32 => ?_) (fun cc32 => ?_)
              · exact B16 a12 ls _ _ hk_fr0 hw (lv_sub hl [0, 1, 2, 3, 4, 5] rfl)
              · refine lv_aload_n hx hb dX0_sha256_117 rfl (lv_at hl 0 rfl) ?_
                refine hk_get (ci := 3) (C := RX0) (T := TX0) (N := 3) (v := .ref (ad 14)) hx hb hts (fun _ h => List.mem_cons_of_mem _ (wwXc_wsX00 _ h)) hown hw 11 rfl rfl 2 (by decide) (hq _ wX_29) rfl dX0_sha256_118 ?_
                refine lv_bipush (v := 15) hx hb dX0_sha256_121 (by decide) ?_
                refine lv_iload hx hb dX0_sha256_123 (lv_at hl 3 rfl) ?_
                refine lv_bipush (v := 8) hx hb dX0_sha256_125 (by decide) ?_
                refine lv_imul hx hb dX0_sha256_127 (jx_nm fun z33 hz33 => ?_)
                refine jx_iast xw (g := g) (lg := lg) (ar := a12) (bk := bk) 5 hx hb hw 14 0 rfl rfl (show ¬ (_ ∨ _) by decide) dX0_sha256_128 rfl (fun H locs a34 h_a34 hw => ?_)
                exact B16 a34 ls _ _ (hk_frA hk_fr0 (by decide) h_a34) hw (lv_sub hl [0, 1, 2, 3, 4, 5] rfl)
            · refine lv_iconst (v := 0) hx hb dX0_sha256_49 (by decide) ?_
              refine lv_istore (lv' := [(8, .int 0), (0, .ref (ad 11)), (1, .ref (ad 2)), (2, .int y2), (4, .int z2), (5, .int z4), (6, .int x6), (7, .int x11)]) hx hb dX0_sha256_50 hl (by decide) rfl (fun ls hl => ?_)
              refine lv_iconst (v := 0) hx hb dX0_sha256_52 (by decide) ?_
              refine lv_istore (lv' := [(9, .int 0), (8, .int 0), (0, .ref (ad 11)), (1, .ref (ad 2)), (2, .int y2), (4, .int z2), (5, .int z4), (6, .int x6), (7, .int x11)]) hx hb dX0_sha256_53 hl (by decide) rfl (fun ls hl => ?_)
              have B35 : ∀ (k38 : Nat) (x36 : Int32) (x37 : Int32) (ls : Array Slot) (H : Heap) (locs : List Loc), 2147483648 - (x37).toInt ≤ (k38 : Int) → 0 ≤ (x37).toInt → hk_W D (jT cI cJ) A s H locs (xw cI cJ ad g lg a12 bk) → lv_has ls 10 [(0, .ref (ad 11)), (1, .ref (ad 2)), (2, .int y2), (4, .int z2), (5, .int z4), (6, .int x6), (7, .int x11), (8, .int x36), (9, .int x37)] → W p l e { frames := 3, cells := 1, slots := 6, locals := 75 } s m args below meth c H locs 0 0 Q (F0 m 55 ls []) := by
                intro k38
                induction k38 with
                | zero =>
                  intro x36 x37 ls H locs hrk_B35 hf_B35_0 hw hl
                  exact False.elim (hk_no0 (0 * (x37).toInt) (ob5 ((x37).toInt) hf_B35_0 hrk_B35 (hE_rng (x37))) (by simp))
                | succ k38 ih_B35 =>
                  intro x36 x37 ls H locs hrk_B35 hf_B35_0 hw hl
                  have hrk_B35 := hk_rk hrk_B35
                  refine lv_iload hx hb dX0_sha256_55 (lv_at hl 8 rfl) ?_
                  refine lv_iconst (v := 4) hx hb dX0_sha256_57 (by decide) ?_
                  refine lv_icmp_ge (tgt := 92) hx hb dX0_sha256_58 (by decide) (fun cc39 => ?_) (fun cc39 => ?_)
                  · refine lv_aload_n hx hb dX0_sha256_92 rfl (lv_at hl 0 rfl) ?_
                    refine hk_get (ci := 3) (C := RX0) (T := TX0) (N := 3) (v := .ref (ad 14)) hx hb hts (fun _ h => List.mem_cons_of_mem _ (wwXc_wsX00 _ h)) hown hw 11 rfl rfl 2 (by decide) (hq _ wX_29) rfl dX0_sha256_93 ?_
                    refine lv_iload hx hb dX0_sha256_96 (lv_at hl 6 rfl) ?_
                    refine lv_iload hx hb dX0_sha256_98 (lv_at hl 7 rfl) ?_
                    refine jx_iast xw (g := g) (lg := lg) (ar := a12) (bk := bk) 5 hx hb hw 14 0 rfl rfl (hE_in (n := 64) (ob296 ((x11).toInt) (k13 : Int) (((16 : Int32)).toInt) hf_B10_0 hrk_B10 (hE_nle cc14) (hE_rng (x11)) (by decide))) dX0_sha256_100 rfl (fun H locs a40 h_a40 hw => ?_)
                    obtain ⟨z41, hz41⟩ : ∃ z : Int32, x11 + 1 = z := ⟨_, rfl⟩
                    refine lv_iinc (v := z41) (lv' := [(7, .int z41), (0, .ref (ad 11)), (1, .ref (ad 2)), (2, .int y2), (4, .int z2), (5, .int z4), (6, .int x6), (8, .int x36), (9, .int x37)]) hx hb dX0_sha256_101 hl (k := 6) rfl hz41 (by decide) rfl (fun ls hl => ?_)
                    refine lv_goto (tgt := 42) hx hb dX0_sha256_104 (by decide) ?_
                    exact ih_B10 z41 a40 ls _ _ (ob297 ((z41).toInt) (k13 : Int) ((x11).toInt) (((1 : Int32)).toInt) (((16 : Int32)).toInt) hrk_B10 (hE_add hz41) hf_B10_0 (hE_nle cc14) (hE_rng (z41)) (hE_rng (x11)) (by decide) (by decide)) (ob298 ((z41).toInt) ((x11).toInt) (((1 : Int32)).toInt) (k13 : Int) (((16 : Int32)).toInt) (hE_add hz41) hf_B10_0 hrk_B10 (hE_nle cc14) (hE_rng (z41)) (hE_rng (x11)) (by decide) (by decide)) (hk_frA hfr_a12 (by decide) h_a40) hw (lv_sub hl [1, 2, 3, 4, 5, 6, 0] rfl)
                  · refine lv_iload hx hb dX0_sha256_61 (lv_at hl 7 rfl) ?_
                    refine lv_bipush (v := 8) hx hb dX0_sha256_63 (by decide) ?_
                    refine lv_ishl hx hb dX0_sha256_65 (jx_nm fun z42 hz42 => ?_)
                    refine lv_aload_n hx hb dX0_sha256_66 rfl (lv_at hl 1 rfl) ?_
                    refine lv_iload_n hx hb dX0_sha256_67 rfl (lv_at hl 2 rfl) ?_
                    refine lv_iload hx hb dX0_sha256_68 (lv_at hl 3 rfl) ?_
                    refine lv_iload hx hb dX0_sha256_70 (lv_at hl 5 rfl) ?_
                    refine lv_iconst (v := 4) hx hb dX0_sha256_72 (by decide) ?_
                    refine lv_iload hx hb dX0_sha256_73 (lv_at hl 6 rfl) ?_
                    refine lv_imul hx hb dX0_sha256_75 (jx_nm fun z43 hz43 => ?_)
                    refine lv_iadd hx hb dX0_sha256_76 (jx_nm fun z44 hz44 => ?_)
                    refine lv_iload hx hb dX0_sha256_77 (lv_at hl 8 rfl) ?_
                    refine lv_iadd hx hb dX0_sha256_79 (jx_nm fun z45 hz45 => ?_)
                    refine jx_Si (As := [.ref (ad 2), .int y2, .int z2, .int z45]) (rest := [.int z42]) ⟨hx, hb, hml, hown, hts⟩ hZ hw hA (jx_X0_shaByte_2 l hlt D t3 cI cJ ad g lg a12 bk _ y2 z2 z45) (va_cwS 4 hts (jx_gS wwX_good wX_44 wX_45 wX_12 wX_46) rfl rfl rfl (by decide +kernel) ⟨Nat.le_of_ble_eq_true rfl, Nat.le_of_ble_eq_true rfl⟩) rfl hl.1 rfl (Nat.le_of_ble_eq_true rfl) dX0_sha256_80 ⟨Nat.le_of_ble_eq_true rfl, Nat.le_of_ble_eq_true rfl⟩ (fun _ _ _ _ _ _ _ _ hp _ _ _ _ => hp.elim) (fun r50 g51 l52 a53 b54 H locs hp55 hw => ?_)
                    obtain ⟨h56, h57, h58⟩ := hp55
                    refine lv_ior hx hb dX0_sha256_83 (jx_nm fun z59 hz59 => ?_)
                    refine lv_istore (lv' := [(8, .int z59), (0, .ref (ad 11)), (1, .ref (ad 2)), (2, .int y2), (4, .int z2), (5, .int z4), (6, .int x6), (7, .int x11), (9, .int x37)]) hx hb dX0_sha256_84 hl (by decide) rfl (fun ls hl => ?_)
                    obtain ⟨z60, hz60⟩ : ∃ z : Int32, x37 + 1 = z := ⟨_, rfl⟩
                    refine lv_iinc (v := z60) (lv' := [(9, .int z60), (8, .int z59), (0, .ref (ad 11)), (1, .ref (ad 2)), (2, .int y2), (4, .int z2), (5, .int z4), (6, .int x6), (7, .int x11)]) hx hb dX0_sha256_86 hl (k := 8) rfl hz60 (by decide) rfl (fun ls hl => ?_)
                    refine lv_goto (tgt := 55) hx hb dX0_sha256_89 (by decide) ?_
                    exact ih_B35 z59 z60 ls _ _ (ob299 ((z60).toInt) (k38 : Int) ((x37).toInt) (((1 : Int32)).toInt) (((4 : Int32)).toInt) ((z45).toInt) ((z44).toInt) ((x6).toInt) ((z43).toInt) (k8 : Int) ((z4).toInt) ((x11).toInt) ((z3).toInt) (k13 : Int) (((16 : Int32)).toInt) hrk_B35 (hE_add hz60) hf_B35_0 (hE_nle cc39) (hE_add hz45) (hE_add hz44) hf_B5_0 hf_B5_1 hrk_B5 (hE_nle cc9) (hE_mul' 4 hz43 (by decide)) (hE_andN 6 64 hz4 (by decide) (by decide) (by decide)) hf_B10_0 hrk_B10 (hE_nle cc14) (hE_rng (z60)) (hE_rng (x37)) (by decide) (by decide) (hE_rng (z45)) (hE_rng (z44)) (hE_rng (x6)) (hE_rng (z43)) (hE_rng (z4)) (hE_rng (x11)) (hE_rng (z3)) (by decide)) (ob300 ((z60).toInt) ((x37).toInt) (((1 : Int32)).toInt) (k38 : Int) (((4 : Int32)).toInt) ((z45).toInt) ((z44).toInt) ((x6).toInt) ((z43).toInt) (k8 : Int) ((z4).toInt) ((x11).toInt) ((z3).toInt) (k13 : Int) (((16 : Int32)).toInt) (hE_add hz60) hf_B35_0 hrk_B35 (hE_nle cc39) (hE_add hz45) (hE_add hz44) hf_B5_0 hf_B5_1 hrk_B5 (hE_nle cc9) (hE_mul' 4 hz43 (by decide)) (hE_andN 6 64 hz4 (by decide) (by decide) (by decide)) hf_B10_0 hrk_B10 (hE_nle cc14) (hE_rng (z60)) (hE_rng (x37)) (by decide) (by decide) (hE_rng (z45)) (hE_rng (z44)) (hE_rng (x6)) (hE_rng (z43)) (hE_rng (z4)) (hE_rng (x11)) (hE_rng (z3)) (by decide)) hw (lv_sub hl [2, 3, 4, 5, 6, 7, 8, 1, 0] rfl)
              exact B35 (2147483648 - ((0 : Int32)).toInt).toNat 0 0 ls _ _ (Int.self_le_toNat _) (ob10 (((0 : Int32)).toInt) (by decide)) hw (lv_sub hl [2, 3, 4, 5, 6, 7, 8, 1, 0] rfl)
        exact B10 (2147483648 - ((0 : Int32)).toInt).toNat 0 a7 ls _ _ (Int.self_le_toNat _) (ob10 (((0 : Int32)).toInt) (by decide)) hk_fr0 hw (lv_sub hl [1, 2, 3, 4, 5, 6, 0] rfl)
  exact B5 (2147483648 - ((0 : Int32)).toInt).toNat 0 a1 ls _ _ (Int.self_le_toNat _) (ob301 (((0 : Int32)).toInt) (by decide)) (ob10 (((0 : Int32)).toInt) (by decide)) hk_fr0 hw (lv_sub hl [3, 4, 5, 2, 1, 0] rfl)

set_option maxHeartbeats 4000000 in
set_option maxRecDepth 100000 in
/-- X0_compute on (11, 2) -/
theorem jx_X0_compute_2 (l : Launch) (hlt : l.stackTraces = false) (D : va_G) (t3 : Nat × Nat × Nat) (cI cJ : ClassId) (ad : Nat → Nat) (g : Nat → Int32) (lg : Nat → Int64) (ar : Nat → Nat → Int32) (bk : Nat → Int64) (sz : Nat) (y1 : Int32) (y3 : Int32) (y4 : Int32) : JMv l yX0_compute (Cond.code yX0_compute cX0_compute 7 none :: wwX) { frames := 4, cells := 1, slots := 6, locals := 104 } t3 D xw cI cJ ad [.ref (ad 11), .int y1, .ref (ad 2), .int y3, .int y4] (xw cI cJ ad g lg ar bk) sz 1 6 (fun g' lg' ar' bk' => hk_fr [] g g' ∧ hk_fr [] lg lg' ∧ hk_fr [3, 4, 5] ar ar') (fun g' lg' ar' bk' => False) := by
  refine jx_metv (cc := cX0_compute) (maxL := 7) (ret := none) rfl (by decide) rfl (Nat.le_of_ble_eq_true rfl) ?_
  intro p e s m args below meth c ls Q A hx hb hml hown hts hA hZ hw hl hQ kr kt
  have hq : ∀ w ∈ wwX, w.before args s = true := fun w h => hts w (List.mem_cons_of_mem _ h)
  have hl : lv_has ls 7 [(0, .ref (ad 11)), (1, .int y1), (2, .ref (ad 2)), (3, .int y3), (4, .int y4)] := hl
  refine lv_iload_n hx hb dX0_compute_0 rfl (lv_at hl 1 rfl) ?_
  refine lv_iconst (v := 1) hx hb dX0_compute_1 (by decide) ?_
  refine lv_icmp_ne (tgt := 21) hx hb dX0_compute_2 (by decide) (fun cc1 => ?_) (fun cc1 => ?_)
  · refine lv_iload_n hx hb dX0_compute_21 rfl (lv_at hl 1 rfl) ?_
    refine lv_iconst (v := 4) hx hb dX0_compute_22 (by decide) ?_
    refine lv_icmp_ne (tgt := 59) hx hb dX0_compute_23 (by decide) (fun cc2 => ?_) (fun cc2 => ?_)
    · refine lv_iload_n hx hb dX0_compute_59 rfl (lv_at hl 1 rfl) ?_
      refine lv_bipush (v := 10) hx hb dX0_compute_60 (by decide) ?_
      refine lv_icmp_ne (tgt := 73) hx hb dX0_compute_62 (by decide) (fun cc3 => ?_) (fun cc3 => ?_)
      · exact kr g lg ar bk _ _ _ _ ⟨hk_fr0, hk_fr0, hk_fr0⟩ hw dX0_compute_73
      · refine lv_aload_n hx hb dX0_compute_65 rfl (lv_at hl 0 rfl) ?_
        refine lv_aload_n hx hb dX0_compute_66 rfl (lv_at hl 2 rfl) ?_
        refine lv_iload_n hx hb dX0_compute_67 rfl (lv_at hl 3 rfl) ?_
        refine lv_iload hx hb dX0_compute_68 (lv_at hl 4 rfl) ?_
        refine jx_Vv (As := [.ref (ad 2), .int y3, .int y4]) (rest := []) ⟨hx, hb, hml, hown, hts⟩ hZ hw hA (jx_X0_sha256_2 l hlt D t3 cI cJ ad g lg ar bk _ y3 y4) (cwV 3 hts (jx_gV wwX_good wX_17 wX_18 wX_19 wX_12 wX_20) rfl rfl rfl (by decide +kernel) ⟨Nat.le_of_ble_eq_true rfl, Nat.le_of_ble_eq_true rfl⟩) 11 (ci := 3) (T := TX0) (N := 3) rfl rfl rfl hl.1 rfl (Nat.le_of_ble_eq_true rfl) dX0_compute_70 ⟨Nat.le_of_ble_eq_true rfl, Nat.le_of_ble_eq_true rfl⟩ (fun _ _ _ _ _ _ _ _ hp _ _ _ _ => hp.elim) (fun g9 l10 a11 b12 H locs hp13 hw => ?_)
        obtain ⟨h14, h15, h16⟩ := hp13
        exact kr g9 l10 a11 b12 _ _ _ _ ⟨h14, h15, h16⟩ hw dX0_compute_73
    · refine lv_aload_n hx hb dX0_compute_26 rfl (lv_at hl 2 rfl) ?_
      refine lv_iload_n hx hb dX0_compute_27 rfl (lv_at hl 3 rfl) ?_
      refine lv_iload hx hb dX0_compute_28 (lv_at hl 4 rfl) ?_
      refine jx_Sl (As := [.ref (ad 2), .int y3, .int y4]) (rest := []) ⟨hx, hb, hml, hown, hts⟩ hZ hw hA (jx_X0_crc64_2 l hlt D t3 cI cJ ad g lg ar bk _ y3 y4) (va_cwS 3 hts (jx_gS wwX_good wX_14 wX_15 wX_12 wX_16) rfl rfl rfl (by decide +kernel) ⟨Nat.le_of_ble_eq_true rfl, Nat.le_of_ble_eq_true rfl⟩) rfl hl.1 rfl (Nat.le_of_ble_eq_true rfl) dX0_compute_30 ⟨Nat.le_of_ble_eq_true rfl, Nat.le_of_ble_eq_true rfl⟩ (fun _ _ _ _ _ _ _ _ hp _ _ _ _ => hp.elim) (fun r21 g22 l23 a24 b25 H locs hp26 hw => ?_)
      obtain ⟨h27, h28, h29⟩ := hp26
      refine lv_lstore (lv' := [(5, .long r21), (0, .ref (ad 11)), (1, .int y1), (2, .ref (ad 2)), (3, .int y3), (4, .int y4)]) hx hb dX0_compute_33 hl (by decide) rfl (fun ls hl => ?_)
      refine lv_aload_n hx hb dX0_compute_35 rfl (lv_at hl 1 rfl) ?_
      refine hk_get (ci := 3) (C := RX0) (T := TX0) (N := 3) (v := .ref (ad 12)) hx hb hts (fun _ h => List.mem_cons_of_mem _ (wwXc_wsX00 _ h)) hown hw 11 rfl rfl 0 (by decide) (hq _ wX_9) rfl dX0_compute_36 ?_
      refine lv_iconst (v := 0) hx hb dX0_compute_39 (by decide) ?_
      refine lv_lload hx hb dX0_compute_40 (lv_at hl 0 rfl) ?_
      refine lv_l2i hx hb dX0_compute_42 rfl (jx_nm fun z30 hz30 => ?_)
      refine jx_iast xw (g := g22) (lg := l23) (ar := a24) (bk := b25) 3 hx hb hw 12 0 rfl rfl (show ¬ (_ ∨ _) by decide) dX0_compute_43 rfl (fun H locs a31 h_a31 hw => ?_)
      refine lv_aload_n hx hb dX0_compute_44 rfl (lv_at hl 1 rfl) ?_
      refine hk_get (ci := 3) (C := RX0) (T := TX0) (N := 3) (v := .ref (ad 12)) hx hb hts (fun _ h => List.mem_cons_of_mem _ (wwXc_wsX00 _ h)) hown hw 11 rfl rfl 0 (by decide) (hq _ wX_9) rfl dX0_compute_45 ?_
      refine lv_iconst (v := 1) hx hb dX0_compute_48 (by decide) ?_
      refine lv_lload hx hb dX0_compute_49 (lv_at hl 0 rfl) ?_
      refine lv_bipush (v := 32) hx hb dX0_compute_51 (by decide) ?_
      refine lv_lushr hx hb dX0_compute_53 rfl (jx_nl fun z32 hz32 => ?_)
      refine lv_l2i hx hb dX0_compute_54 rfl (jx_nm fun z33 hz33 => ?_)
      refine jx_iast xw (g := g22) (lg := l23) (ar := a31) (bk := b25) 3 hx hb hw 12 0 rfl rfl (show ¬ (_ ∨ _) by decide) dX0_compute_55 rfl (fun H locs a34 h_a34 hw => ?_)
      refine lv_goto (tgt := 73) hx hb dX0_compute_56 (by decide) ?_
      exact kr g22 l23 a34 b25 _ _ _ _ ⟨h27, h28, (hk_frA (hk_frA (hk_frT hk_fr0 (by decide) h29) (by decide) h_a31) (by decide) h_a34)⟩ hw dX0_compute_73
  · refine lv_aload_n hx hb dX0_compute_5 rfl (lv_at hl 0 rfl) ?_
    refine hk_get (ci := 3) (C := RX0) (T := TX0) (N := 3) (v := .ref (ad 12)) hx hb hts (fun _ h => List.mem_cons_of_mem _ (wwXc_wsX00 _ h)) hown hw 11 rfl rfl 0 (by decide) (hq _ wX_9) rfl dX0_compute_6 ?_
    refine lv_iconst (v := 0) hx hb dX0_compute_9 (by decide) ?_
    refine lv_aload_n hx hb dX0_compute_10 rfl (lv_at hl 2 rfl) ?_
    refine lv_iload_n hx hb dX0_compute_11 rfl (lv_at hl 3 rfl) ?_
    refine lv_iload hx hb dX0_compute_12 (lv_at hl 4 rfl) ?_
    refine jx_Si (As := [.ref (ad 2), .int y3, .int y4]) (rest := [.int 0, .ref (ad 12)]) ⟨hx, hb, hml, hown, hts⟩ hZ hw hA (jx_X0_crc32_2 l hlt D t3 cI cJ ad g lg ar bk _ y3 y4) (va_cwS 3 hts (jx_gS wwX_good wX_10 wX_11 wX_12 wX_13) rfl rfl rfl (by decide +kernel) ⟨Nat.le_of_ble_eq_true rfl, Nat.le_of_ble_eq_true rfl⟩) rfl hl.1 rfl (Nat.le_of_ble_eq_true rfl) dX0_compute_14 ⟨Nat.le_of_ble_eq_true rfl, Nat.le_of_ble_eq_true rfl⟩ (fun _ _ _ _ _ _ _ _ hp _ _ _ _ => hp.elim) (fun r39 g40 l41 a42 b43 H locs hp44 hw => ?_)
    obtain ⟨h45, h46, h47⟩ := hp44
    refine jx_iast xw (g := g40) (lg := l41) (ar := a42) (bk := b43) 3 hx hb hw 12 0 rfl rfl (show ¬ (_ ∨ _) by decide) dX0_compute_17 rfl (fun H locs a48 h_a48 hw => ?_)
    refine lv_goto (tgt := 73) hx hb dX0_compute_18 (by decide) ?_
    exact kr g40 l41 a48 b43 _ _ _ _ ⟨h45, h46, (hk_frA (hk_frT hk_fr0 (by decide) h47) (by decide) h_a48)⟩ hw dX0_compute_73

set_option maxHeartbeats 4000000 in
set_option maxRecDepth 100000 in
/-- X7_writeHead on (18,) -/
theorem jx_X7_writeHead (l : Launch) (hlt : l.stackTraces = false) (D : va_G) (t3 : Nat × Nat × Nat) (cI cJ : ClassId) (ad : Nat → Nat) (g : Nat → Int32) (lg : Nat → Int64) (ar : Nat → Nat → Int32) (bk : Nat → Int64) (sz : Nat) (y1 : Int32) (y2 : Int32) (hr0 : 0 ≤ (y1).toInt ∧ (y1).toInt ≤ 1500) (hr1 : 0 ≤ (y2).toInt ∧ (y2).toInt ≤ 1500) (hi_a0rg : hk_rg 0 255 (ar 0)) : JMv l yX7_writeHead (Cond.code yX7_writeHead cX7_writeHead 5 none :: wwX) { frames := 5, cells := 1, slots := 6, locals := 130 } t3 D xw cI cJ ad [.ref (ad 18), .int y1, .int y2] (xw cI cJ ad g lg ar bk) sz 1 6 (fun g' lg' ar' bk' => hk_fr [14, 28, 29] g g' ∧ hk_fr [] lg lg' ∧ hk_fr [0, 1, 3, 4, 5] ar ar' ∧ hk_rg 0 255 (ar' 0)) (fun g' lg' ar' bk' => False) := by
  refine jx_metv (cc := cX7_writeHead) (maxL := 5) (ret := none) rfl (by decide) rfl (Nat.le_of_ble_eq_true rfl) ?_
  intro p e s m args below meth c ls Q A hx hb hml hown hts hA hZ hw hl hQ kr kt
  have hq : ∀ w ∈ wwX, w.before args s = true := fun w h => hts w (List.mem_cons_of_mem _ h)
  have hl : lv_has ls 5 [(0, .ref (ad 18)), (1, .int y1), (2, .int y2)] := hl
  refine lv_aload_n hx hb dX7_writeHead_0 rfl (lv_at hl 0 rfl) ?_
  refine hk_get (ci := 10) (C := RX7) (T := TX7) (N := 17) (v := .ref (ad 11)) hx hb hts (fun _ h => List.mem_cons_of_mem _ (wwXc_wsX70 _ h)) hown hw 18 rfl rfl 4 (by decide) (hq _ wX_671) rfl dX7_writeHead_1 ?_
  refine lv_aload_n hx hb dX7_writeHead_4 rfl (lv_at hl 0 rfl) ?_
  refine hk_get (ci := 10) (C := RX7) (T := TX7) (N := 17) (v := .ref (ad 1)) hx hb hts (fun _ h => List.mem_cons_of_mem _ (wwXc_wsX70 _ h)) hown hw 18 rfl rfl 0 (by decide) (hq _ wX_574) rfl dX7_writeHead_5 ?_
  refine hk_get (ci := 13) (C := RX10) (T := TX10) (N := 10) (v := .int (g 9)) hx hb hts (fun _ h => List.mem_cons_of_mem _ (wwXc_wsX100 _ h)) hown hw 1 rfl rfl 6 (by decide) (hq _ wX_664) rfl dX7_writeHead_8 ?_
  refine lv_aload_n hx hb dX7_writeHead_11 rfl (lv_at hl 0 rfl) ?_
  refine hk_get (ci := 10) (C := RX7) (T := TX7) (N := 17) (v := .ref (ad 2)) hx hb hts (fun _ h => List.mem_cons_of_mem _ (wwXc_wsX70 _ h)) hown hw 18 rfl rfl 1 (by decide) (hq _ wX_594) rfl dX7_writeHead_12 ?_
  refine lv_iload_n hx hb dX7_writeHead_15 rfl (lv_at hl 1 rfl) ?_
  refine lv_iload_n hx hb dX7_writeHead_16 rfl (lv_at hl 2 rfl) ?_
  refine jx_Vv (As := [.int (g 9), .ref (ad 2), .int y1, .int y2]) (rest := []) ⟨hx, hb, hml, hown, hts⟩ hZ hw hA (jx_X0_compute_2 l hlt D t3 cI cJ ad g lg ar bk _ (g 9) y1 y2) (cwV 4 hts (jx_gV wwX_good wX_672 wX_79 wX_80 wX_12 wX_81) rfl rfl rfl (by decide +kernel) ⟨Nat.le_of_ble_eq_true rfl, Nat.le_of_ble_eq_true rfl⟩) 11 (ci := 3) (T := TX0) (N := 3) rfl rfl rfl hl.1 rfl (Nat.le_of_ble_eq_true rfl) dX7_writeHead_17 ⟨Nat.le_of_ble_eq_true rfl, Nat.le_of_ble_eq_true rfl⟩ (fun _ _ _ _ _ _ _ _ hp _ _ _ _ => hp.elim) (fun g6 l7 a8 b9 H locs hp10 hw => ?_)
  obtain ⟨h11, h12, h13⟩ := hp10
  refine lv_aload_n hx hb dX7_writeHead_20 rfl (lv_at hl 0 rfl) ?_
  refine lv_aload_n hx hb dX7_writeHead_21 rfl (lv_at hl 0 rfl) ?_
  refine hk_get (ci := 10) (C := RX7) (T := TX7) (N := 17) (v := .ref (ad 4)) hx hb hts (fun _ h => List.mem_cons_of_mem _ (wwXc_wsX70 _ h)) hown hw 18 rfl rfl 2 (by decide) (hq _ wX_569) rfl dX7_writeHead_22 ?_
  have e_g6_14 : g6 14 = (g 14) := (h11 14 rfl)
  refine hk_get (ci := 12) (C := RX9) (T := TX9) (N := 2) (v := .int (g 14)) hx hb hts (fun _ h => List.mem_cons_of_mem _ (wwXc_wsX90 _ h)) hown hw 4 rfl rfl 1 (by decide) (hq _ wX_570) (congrArg (fun z => some (Value.int z)) e_g6_14) dX7_writeHead_25 ?_
  refine jx_putg xw (g := g6) (lg := l7) (ar := a8) (bk := b9) (x := (g 14)) 28 (ci := 10) (C := RX7) (T := TX7) (N := 17) (ty := .int) hx hb hts (fun _ h => List.mem_cons_of_mem _ (wwXc_wsX70 _ h)) tyX7 tyX7_ok nmX7 hown hw 18 rfl rfl 8 (by decide) (hq _ wX_673) rfl (by decide +kernel) rfl rfl (Nat.le_of_ble_eq_true rfl) dX7_writeHead_28 rfl (fun H locs g14 h_g14 hw => ?_)
  refine lv_aload_n hx hb dX7_writeHead_31 rfl (lv_at hl 0 rfl) ?_
  refine hk_get (ci := 10) (C := RX7) (T := TX7) (N := 17) (v := .ref (ad 1)) hx hb hts (fun _ h => List.mem_cons_of_mem _ (wwXc_wsX70 _ h)) hown hw 18 rfl rfl 0 (by decide) (hq _ wX_574) rfl dX7_writeHead_32 ?_
  have e_g14_11 : g14 11 = (g 11) := ((hk_upgN h_g14 11 rfl)).trans (h11 11 rfl)
  refine hk_get (ci := 13) (C := RX10) (T := TX10) (N := 10) (v := .int (g 11)) hx hb hts (fun _ h => List.mem_cons_of_mem _ (wwXc_wsX100 _ h)) hown hw 1 rfl rfl 8 (by decide) (hq _ wX_674) (congrArg (fun z => some (Value.int z)) e_g14_11) dX7_writeHead_35 ?_
  have B15 : ∀  (x16 : Int32) (ls : Array Slot) (H : Heap) (locs : List Loc), 0 ≤ (x16).toInt ∧ (x16).toInt ≤ 1 → hk_W D (jT cI cJ) A s H locs (xw cI cJ ad g14 l7 a8 b9) → lv_has ls 5 [(0, .ref (ad 18)), (1, .int y1), (2, .int y2)] → W p l e { frames := 5, cells := 1, slots := 6, locals := 130 } s m args below meth c H locs 0 0 Q (F0 m 46 ls [.int x16]) := by
    intro x16 ls H locs hf_B15_0 hw hl
    refine lv_aload_n hx hb dX7_writeHead_46 rfl (lv_at hl 0 rfl) ?_
    refine hk_get (ci := 10) (C := RX7) (T := TX7) (N := 17) (v := .ref (ad 1)) hx hb hts (fun _ h => List.mem_cons_of_mem _ (wwXc_wsX70 _ h)) hown hw 18 rfl rfl 0 (by decide) (hq _ wX_574) rfl dX7_writeHead_47 ?_
    have e_g14_12 : g14 12 = (g 12) := ((hk_upgN h_g14 12 rfl)).trans (h11 12 rfl)
    refine hk_get (ci := 13) (C := RX10) (T := TX10) (N := 10) (v := .int (g 12)) hx hb hts (fun _ h => List.mem_cons_of_mem _ (wwXc_wsX100 _ h)) hown hw 1 rfl rfl 9 (by decide) (hq _ wX_675) (congrArg (fun z => some (Value.int z)) e_g14_12) dX7_writeHead_50 ?_
    refine lv_iadd hx hb dX7_writeHead_53 (jx_nm fun z17 hz17 => ?_)
    refine lv_iconst (v := 1) hx hb dX7_writeHead_54 (by decide) ?_
    refine lv_iadd hx hb dX7_writeHead_55 (jx_nm fun z18 hz18 => ?_)
    refine lv_istore_n (lv' := [(3, .int z18), (0, .ref (ad 18)), (1, .int y1), (2, .int y2)]) hx hb dX7_writeHead_56 rfl hl (by decide) rfl (fun ls hl => ?_)
    refine lv_iconst (v := 5) hx hb dX7_writeHead_57 (by decide) ?_
    refine lv_aload_n hx hb dX7_writeHead_58 rfl (lv_at hl 1 rfl) ?_
    refine hk_get (ci := 10) (C := RX7) (T := TX7) (N := 17) (v := .ref (ad 1)) hx hb hts (fun _ h => List.mem_cons_of_mem _ (wwXc_wsX70 _ h)) hown hw 18 rfl rfl 0 (by decide) (hq _ wX_574) rfl dX7_writeHead_59 ?_
    refine hk_get (ci := 13) (C := RX10) (T := TX10) (N := 10) (v := .int (g 11)) hx hb hts (fun _ h => List.mem_cons_of_mem _ (wwXc_wsX100 _ h)) hown hw 1 rfl rfl 8 (by decide) (hq _ wX_674) (congrArg (fun z => some (Value.int z)) e_g14_11) dX7_writeHead_62 ?_
    have B19 : ∀  (x20 : Int32) (ls : Array Slot) (H : Heap) (locs : List Loc), 0 ≤ (x20).toInt ∧ (x20).toInt ≤ 3 → hk_W D (jT cI cJ) A s H locs (xw cI cJ ad g14 l7 a8 b9) → lv_has ls 5 [(0, .ref (ad 18)), (1, .int y1), (2, .int y2), (3, .int z18)] → W p l e { frames := 5, cells := 1, slots := 6, locals := 130 } s m args below meth c H locs 0 0 Q (F0 m 73 ls [.int x20, .int 5]) := by
      intro x20 ls H locs hf_B19_0 hw hl
      refine lv_iadd hx hb dX7_writeHead_73 (jx_nm fun z21 hz21 => ?_)
      refine lv_iconst (v := 2) hx hb dX7_writeHead_74 (by decide) ?_
      refine lv_aload_n hx hb dX7_writeHead_75 rfl (lv_at hl 0 rfl) ?_
      refine hk_get (ci := 10) (C := RX7) (T := TX7) (N := 17) (v := .ref (ad 1)) hx hb hts (fun _ h => List.mem_cons_of_mem _ (wwXc_wsX70 _ h)) hown hw 18 rfl rfl 0 (by decide) (hq _ wX_574) rfl dX7_writeHead_76 ?_
      refine hk_get (ci := 13) (C := RX10) (T := TX10) (N := 10) (v := .int (g 12)) hx hb hts (fun _ h => List.mem_cons_of_mem _ (wwXc_wsX100 _ h)) hown hw 1 rfl rfl 9 (by decide) (hq _ wX_675) (congrArg (fun z => some (Value.int z)) e_g14_12) dX7_writeHead_79 ?_
      refine lv_imul hx hb dX7_writeHead_82 (jx_nm fun z22 hz22 => ?_)
      refine lv_iadd hx hb dX7_writeHead_83 (jx_nm fun z23 hz23 => ?_)
      refine lv_istore (lv' := [(4, .int z23), (0, .ref (ad 18)), (1, .int y1), (2, .int y2), (3, .int z18)]) hx hb dX7_writeHead_84 hl (by decide) rfl (fun ls hl => ?_)
      refine lv_aload_n hx hb dX7_writeHead_86 rfl (lv_at hl 1 rfl) ?_
      refine lv_iload hx hb dX7_writeHead_87 (lv_at hl 0 rfl) ?_
      refine lv_iconst (v := 3) hx hb dX7_writeHead_89 (by decide) ?_
      refine lv_iadd hx hb dX7_writeHead_90 (jx_nm fun z24 hz24 => ?_)
      refine lv_bipush (v := (-4)) hx hb dX7_writeHead_91 (by decide) ?_
      refine lv_iand hx hb dX7_writeHead_93 (jx_nm fun z25 hz25 => ?_)
      refine lv_iconst (v := 4) hx hb dX7_writeHead_94 (by decide) ?_
      refine lv_iadd hx hb dX7_writeHead_95 (jx_nm fun z26 hz26 => ?_)
      refine jx_putg xw (g := g14) (lg := l7) (ar := a8) (bk := b9) (x := z26) 29 (ci := 10) (C := RX7) (T := TX7) (N := 17) (ty := .int) hx hb hts (fun _ h => List.mem_cons_of_mem _ (wwXc_wsX70 _ h)) tyX7 tyX7_ok nmX7 hown hw 18 rfl rfl 9 (by decide) (hq _ wX_676) rfl (by decide +kernel) rfl rfl (Nat.le_of_ble_eq_true rfl) dX7_writeHead_96 rfl (fun H locs g27 h_g27 hw => ?_)
      refine lv_aload_n hx hb dX7_writeHead_99 rfl (lv_at hl 1 rfl) ?_
      refine hk_get (ci := 10) (C := RX7) (T := TX7) (N := 17) (v := .ref (ad 4)) hx hb hts (fun _ h => List.mem_cons_of_mem _ (wwXc_wsX70 _ h)) hown hw 18 rfl rfl 2 (by decide) (hq _ wX_569) rfl dX7_writeHead_100 ?_
      refine lv_aload_n hx hb dX7_writeHead_103 rfl (lv_at hl 1 rfl) ?_
      have e_g27_29 : g27 29 = z26 := (hk_upgS h_g27)
      refine hk_get (ci := 10) (C := RX7) (T := TX7) (N := 17) (v := .int z26) hx hb hts (fun _ h => List.mem_cons_of_mem _ (wwXc_wsX70 _ h)) hown hw 18 rfl rfl 9 (by decide) (hq _ wX_676) (congrArg (fun z => some (Value.int z)) e_g27_29) dX7_writeHead_104 ?_
      refine lv_iconst (v := 4) hx hb dX7_writeHead_107 (by decide) ?_
      refine lv_idiv hx hb dX7_writeHead_108 (by decide) (jx_nm fun z28 hz28 => ?_)
      refine lv_iconst (v := 1) hx hb dX7_writeHead_109 (by decide) ?_
      refine lv_isub hx hb dX7_writeHead_110 (jx_nm fun z29 hz29 => ?_)
      refine jx_Vv (As := [.int z29]) (rest := []) ⟨hx, hb, hml, hown, hts⟩ hZ hw hA (jx_X9_put_4 l hlt D t3 cI cJ ad g27 l7 a8 b9 _ z29) (cwV 1 hts (jx_gV wwX_good wX_599 wX_112 wX_113 wX_24 wX_114) rfl rfl rfl (by decide +kernel) ⟨Nat.le_of_ble_eq_true rfl, Nat.le_of_ble_eq_true rfl⟩) 4 (ci := 12) (T := TX9) (N := 2) rfl rfl rfl hl.1 rfl (Nat.le_of_ble_eq_true rfl) dX7_writeHead_111 ⟨Nat.le_of_ble_eq_true rfl, Nat.le_of_ble_eq_true rfl⟩ (fun _ _ _ _ _ _ _ _ hp _ _ _ _ => hp.elim) (fun g35 l36 a37 b38 H locs hp39 hw => ?_)
      obtain ⟨h40, h41, h42, h43⟩ := hp39
      have e_g27_14 : g27 14 = (g 14) := ((hk_upgN h_g27 14 rfl)).trans (((hk_upgN h_g14 14 rfl)).trans e_g6_14)
      have hr44 : hk_rg 0 255 (a37 0) := (hk_pE (P := hk_rg 0 255) (hk_pE (P := hk_rg 0 255) hi_a0rg (h13 0 rfl)) (h42 0 rfl))
      refine lv_aload_n hx hb dX7_writeHead_114 rfl (lv_at hl 1 rfl) ?_
      refine hk_get (ci := 10) (C := RX7) (T := TX7) (N := 17) (v := .ref (ad 4)) hx hb hts (fun _ h => List.mem_cons_of_mem _ (wwXc_wsX70 _ h)) hown hw 18 rfl rfl 2 (by decide) (hq _ wX_569) rfl dX7_writeHead_115 ?_
      refine lv_iload_n hx hb dX7_writeHead_118 rfl (lv_at hl 4 rfl) ?_
      refine lv_iconst (v := 1) hx hb dX7_writeHead_119 (by decide) ?_
      refine lv_isub hx hb dX7_writeHead_120 (jx_nm fun z45 hz45 => ?_)
      refine jx_Vv (As := [.int z45]) (rest := []) ⟨hx, hb, hml, hown, hts⟩ hZ hw hA (jx_X9_put_4 l hlt D t3 cI cJ ad g35 l36 a37 b38 _ z45) (cwV 1 hts (jx_gV wwX_good wX_599 wX_112 wX_113 wX_24 wX_114) rfl rfl rfl (by decide +kernel) ⟨Nat.le_of_ble_eq_true rfl, Nat.le_of_ble_eq_true rfl⟩) 4 (ci := 12) (T := TX9) (N := 2) rfl rfl rfl hl.1 rfl (Nat.le_of_ble_eq_true rfl) dX7_writeHead_121 ⟨Nat.le_of_ble_eq_true rfl, Nat.le_of_ble_eq_true rfl⟩ (fun _ _ _ _ _ _ _ _ hp _ _ _ _ => hp.elim) (fun g51 l52 a53 b54 H locs hp55 hw => ?_)
      obtain ⟨h56, h57, h58, h59⟩ := hp55
      refine lv_aload_n hx hb dX7_writeHead_124 rfl (lv_at hl 1 rfl) ?_
      refine hk_get (ci := 10) (C := RX7) (T := TX7) (N := 17) (v := .ref (ad 1)) hx hb hts (fun _ h => List.mem_cons_of_mem _ (wwXc_wsX70 _ h)) hown hw 18 rfl rfl 0 (by decide) (hq _ wX_574) rfl dX7_writeHead_125 ?_
      have e_g51_11 : g51 11 = (g 11) := ((h56 11 rfl)).trans (((h40 11 rfl)).trans (((hk_upgN h_g27 11 rfl)).trans e_g14_11))
      refine hk_get (ci := 13) (C := RX10) (T := TX10) (N := 10) (v := .int (g 11)) hx hb hts (fun _ h => List.mem_cons_of_mem _ (wwXc_wsX100 _ h)) hown hw 1 rfl rfl 8 (by decide) (hq _ wX_674) (congrArg (fun z => some (Value.int z)) e_g51_11) dX7_writeHead_128 ?_
      have B60 : ∀  (g61 : Nat → Int32) (a62 : Nat → Nat → Int32) (ls : Array Slot) (H : Heap) (locs : List Loc), hk_fr [14] g51 g61 → hk_fr [0, 1] a53 a62 → hk_rg 0 255 (a62 0) → hk_W D (jT cI cJ) A s H locs (xw cI cJ ad g61 l52 a62 b54) → lv_has ls 5 [(0, .ref (ad 18)), (1, .int y1), (2, .int y2)] → W p l e { frames := 5, cells := 1, slots := 6, locals := 130 } s m args below meth c H locs 0 0 Q (F0 m 166 ls []) := by
        intro g61 a62 ls H locs hfr_g61 hfr_a62 ha62_r0rg hw hl
        refine lv_aload_n hx hb dX7_writeHead_166 rfl (lv_at hl 0 rfl) ?_
        refine hk_get (ci := 10) (C := RX7) (T := TX7) (N := 17) (v := .ref (ad 1)) hx hb hts (fun _ h => List.mem_cons_of_mem _ (wwXc_wsX70 _ h)) hown hw 18 rfl rfl 0 (by decide) (hq _ wX_574) rfl dX7_writeHead_167 ?_
        have e_g61_12 : g61 12 = (g 12) := ((hfr_g61 12 rfl)).trans (((h56 12 rfl)).trans (((h40 12 rfl)).trans (((hk_upgN h_g27 12 rfl)).trans e_g14_12)))
        refine hk_get (ci := 13) (C := RX10) (T := TX10) (N := 10) (v := .int (g 12)) hx hb hts (fun _ h => List.mem_cons_of_mem _ (wwXc_wsX100 _ h)) hown hw 1 rfl rfl 9 (by decide) (hq _ wX_675) (congrArg (fun z => some (Value.int z)) e_g61_12) dX7_writeHead_170 ?_
        have B63 : ∀  (g64 : Nat → Int32) (a65 : Nat → Nat → Int32) (ls : Array Slot) (H : Heap) (locs : List Loc), hk_fr [14] g61 g64 → hk_fr [0, 1] a62 a65 → hk_rg 0 255 (a65 0) → hk_W D (jT cI cJ) A s H locs (xw cI cJ ad g64 l52 a65 b54) → lv_has ls 5 [(0, .ref (ad 18))] → W p l e { frames := 5, cells := 1, slots := 6, locals := 130 } s m args below meth c H locs 0 0 Q (F0 m 194 ls []) := by
          intro g64 a65 ls H locs hfr_g64 hfr_a65 ha65_r0rg hw hl
          refine lv_aload_n hx hb dX7_writeHead_194 rfl (lv_at hl 0 rfl) ?_
          refine lv_bipush (v := 33) hx hb dX7_writeHead_195 (by decide) ?_
          refine lv_iconst (v := 1) hx hb dX7_writeHead_197 (by decide) ?_
          refine lv_iconst (v := 0) hx hb dX7_writeHead_198 (by decide) ?_
          refine jx_Vv (As := [.int 33, .int 1, .int 0]) (rest := []) ⟨hx, hb, hml, hown, hts⟩ hZ hw hA (jx_X7_writeFilter l hlt D t3 cI cJ ad g64 l52 a65 b54 _ 33 1 0) (cwV 3 hts (jx_gV wwX_good wX_678 wX_679 wX_680 wX_122 wX_681) rfl rfl rfl (by decide +kernel) ⟨Nat.le_of_ble_eq_true rfl, Nat.le_of_ble_eq_true rfl⟩) 18 (ci := 10) (T := TX7) (N := 17) rfl rfl rfl hl.1 rfl (Nat.le_of_ble_eq_true rfl) dX7_writeHead_199 ⟨Nat.le_of_ble_eq_true rfl, Nat.le_of_ble_eq_true rfl⟩ (fun _ _ _ _ _ _ _ _ hp _ _ _ _ => hp.elim) (fun g71 l72 a73 b74 H locs hp75 hw => ?_)
          obtain ⟨h76, h77, h78⟩ := hp75
          refine lv_aload_n hx hb dX7_writeHead_202 rfl (lv_at hl 0 rfl) ?_
          refine hk_get (ci := 10) (C := RX7) (T := TX7) (N := 17) (v := .ref (ad 4)) hx hb hts (fun _ h => List.mem_cons_of_mem _ (wwXc_wsX70 _ h)) hown hw 18 rfl rfl 2 (by decide) (hq _ wX_569) rfl dX7_writeHead_203 ?_
          refine lv_aload_n hx hb dX7_writeHead_206 rfl (lv_at hl 0 rfl) ?_
          have e_g71_28 : g71 28 = (g 14) := ((h76 28 rfl)).trans (((hfr_g64 28 rfl)).trans (((hfr_g61 28 rfl)).trans (((h56 28 rfl)).trans (((h40 28 rfl)).trans (((hk_upgN h_g27 28 rfl)).trans (hk_upgS h_g14))))))
          refine hk_get (ci := 10) (C := RX7) (T := TX7) (N := 17) (v := .int (g 14)) hx hb hts (fun _ h => List.mem_cons_of_mem _ (wwXc_wsX70 _ h)) hown hw 18 rfl rfl 8 (by decide) (hq _ wX_673) (congrArg (fun z => some (Value.int z)) e_g71_28) dX7_writeHead_207 ?_
          refine jx_Vv (As := [.int (g 14)]) (rest := []) ⟨hx, hb, hml, hown, hts⟩ hZ hw hA (jx_X9_putZeros_4 l hlt D t3 cI cJ ad g71 l72 a73 b74 _ (g 14)) (cwV 1 hts (jx_gV wwX_good wX_683 wX_351 wX_352 wX_24 wX_353) rfl rfl rfl (by decide +kernel) ⟨Nat.le_of_ble_eq_true rfl, Nat.le_of_ble_eq_true rfl⟩) 4 (ci := 12) (T := TX9) (N := 2) rfl rfl rfl hl.1 rfl (Nat.le_of_ble_eq_true rfl) dX7_writeHead_210 ⟨Nat.le_of_ble_eq_true rfl, Nat.le_of_ble_eq_true rfl⟩ (fun _ _ _ _ _ _ _ _ hp _ _ _ _ => hp.elim) (fun g84 l85 a86 b87 H locs hp88 hw => ?_)
          obtain ⟨h89, h90, h91⟩ := hp88
          have hr92 : hk_rg 0 255 (a86 0) := (hk_pE (P := hk_rg 0 255) (hk_pE (P := hk_rg 0 255) ha65_r0rg (h78 0 rfl)) (h91 0 rfl))
          refine lv_aload_n hx hb dX7_writeHead_213 rfl (lv_at hl 0 rfl) ?_
          refine hk_get (ci := 10) (C := RX7) (T := TX7) (N := 17) (v := .ref (ad 4)) hx hb hts (fun _ h => List.mem_cons_of_mem _ (wwXc_wsX70 _ h)) hown hw 18 rfl rfl 2 (by decide) (hq _ wX_569) rfl dX7_writeHead_214 ?_
          refine lv_aload_n hx hb dX7_writeHead_217 rfl (lv_at hl 0 rfl) ?_
          refine hk_get (ci := 10) (C := RX7) (T := TX7) (N := 17) (v := .ref (ad 4)) hx hb hts (fun _ h => List.mem_cons_of_mem _ (wwXc_wsX70 _ h)) hown hw 18 rfl rfl 2 (by decide) (hq _ wX_569) rfl dX7_writeHead_218 ?_
          refine lv_aload_n hx hb dX7_writeHead_221 rfl (lv_at hl 0 rfl) ?_
          have e_g84_28 : g84 28 = (g 14) := ((h89 28 rfl)).trans e_g71_28
          refine hk_get (ci := 10) (C := RX7) (T := TX7) (N := 17) (v := .int (g 14)) hx hb hts (fun _ h => List.mem_cons_of_mem _ (wwXc_wsX70 _ h)) hown hw 18 rfl rfl 8 (by decide) (hq _ wX_673) (congrArg (fun z => some (Value.int z)) e_g84_28) dX7_writeHead_222 ?_
          refine lv_aload_n hx hb dX7_writeHead_225 rfl (lv_at hl 0 rfl) ?_
          refine hk_get (ci := 10) (C := RX7) (T := TX7) (N := 17) (v := .ref (ad 4)) hx hb hts (fun _ h => List.mem_cons_of_mem _ (wwXc_wsX70 _ h)) hown hw 18 rfl rfl 2 (by decide) (hq _ wX_569) rfl dX7_writeHead_226 ?_
          refine hk_get (ci := 12) (C := RX9) (T := TX9) (N := 2) (v := .int (g84 14)) hx hb hts (fun _ h => List.mem_cons_of_mem _ (wwXc_wsX90 _ h)) hown hw 4 rfl rfl 1 (by decide) (hq _ wX_570) rfl dX7_writeHead_229 ?_
          refine jx_Si (As := [.ref (ad 4), .int (g 14), .int (g84 14)]) (rest := [.ref (ad 4)]) ⟨hx, hb, hml, hown, hts⟩ hZ hw hA (jx_X0_crc32_4 l hlt D t3 cI cJ ad g84 l85 a86 b87 _ (g 14) (g84 14)) (va_cwS 3 hts (jx_gS wwX_good wX_670 wX_11 wX_12 wX_13) rfl rfl rfl (by decide +kernel) ⟨Nat.le_of_ble_eq_true rfl, Nat.le_of_ble_eq_true rfl⟩) rfl hl.1 rfl (Nat.le_of_ble_eq_true rfl) dX7_writeHead_232 ⟨Nat.le_of_ble_eq_true rfl, Nat.le_of_ble_eq_true rfl⟩ (fun _ _ _ _ _ _ _ _ hp _ _ _ _ => hp.elim) (fun r97 g98 l99 a100 b101 H locs hp102 hw => ?_)
          obtain ⟨h103, h104, h105⟩ := hp102
          refine lv_i2l hx hb dX7_writeHead_235 rfl (jx_nl fun z106 hz106 => ?_)
          refine lv_iconst (v := 4) hx hb dX7_writeHead_236 (by decide) ?_
          refine jx_Vv (As := [.long z106, .int 4]) (rest := []) ⟨hx, hb, hml, hown, hts⟩ hZ hw hA (jx_X9_putLow_4 l hlt D t3 cI cJ ad g98 l99 a100 b101 _ z106 4) (cwV 2 hts (jx_gV wwX_good wX_601 wX_602 wX_603 wX_24 wX_604) rfl rfl rfl (by decide +kernel) ⟨Nat.le_of_ble_eq_true rfl, Nat.le_of_ble_eq_true rfl⟩) 4 (ci := 12) (T := TX9) (N := 2) rfl rfl rfl hl.1 rfl (Nat.le_of_ble_eq_true rfl) dX7_writeHead_237 ⟨Nat.le_of_ble_eq_true rfl, Nat.le_of_ble_eq_true rfl⟩ (fun _ _ _ _ _ _ _ _ hp _ _ _ _ => hp.elim) (fun g112 l113 a114 b115 H locs hp116 hw => ?_)
          obtain ⟨h117, h118, h119⟩ := hp116
          have hr120 : hk_rg 0 255 (a114 0) := (hk_pE (P := hk_rg 0 255) (hk_pE (P := hk_rg 0 255) hr92 (h105 0 rfl)) (h119 0 rfl))
          exact kr g112 l113 a114 b115 _ _ _ _ ⟨(hk_frT (hk_frT (hk_frT (hk_frT (hk_frT (hk_frT (hk_frT (hk_frT (hk_frG (hk_frG (hk_frT hk_fr0 (by decide) h11) (by decide) h_g14) (by decide) h_g27) (by decide) h40) (by decide) h56) (by decide) hfr_g61) (by decide) hfr_g64) (by decide) h76) (by decide) h89) (by decide) h103) (by decide) h117), (hk_frT (hk_frT (hk_frT (hk_frT (hk_frT (hk_frT h12 (by decide) h41) (by decide) h57) (by decide) h77) (by decide) h90) (by decide) h104) (by decide) h118), (hk_frT (hk_frT (hk_frT (hk_frT (hk_frT (hk_frT (hk_frT (hk_frT (hk_frT hk_fr0 (by decide) h13) (by decide) h42) (by decide) h58) (by decide) hfr_a62) (by decide) hfr_a65) (by decide) h78) (by decide) h91) (by decide) h105) (by decide) h119), hr120⟩ hw dX7_writeHead_240
        refine lv_if_le (tgt := 194) hx hb dX7_writeHead_173 (by decide) (fun cc121 => ?_) (fun cc121 => ?_)
        · exact B63 g61 a62 ls _ _ hk_fr0 hk_fr0 ha62_r0rg hw (lv_sub hl [0] rfl)
        · refine lv_aload_n hx hb dX7_writeHead_176 rfl (lv_at hl 0 rfl) ?_
          refine hk_get (ci := 10) (C := RX7) (T := TX7) (N := 17) (v := .ref (ad 2)) hx hb hts (fun _ h => List.mem_cons_of_mem _ (wwXc_wsX70 _ h)) hown hw 18 rfl rfl 1 (by decide) (hq _ wX_594) rfl dX7_writeHead_177 ?_
          refine lv_iload_n hx hb dX7_writeHead_180 rfl (lv_at hl 1 rfl) ?_
          refine lv_iload_n hx hb dX7_writeHead_181 rfl (lv_at hl 2 rfl) ?_
          refine lv_iconst (v := 0) hx hb dX7_writeHead_182 (by decide) ?_
          refine jx_Vv (As := [.int y1, .int y2, .int 0]) (rest := []) ⟨hx, hb, hml, hown, hts⟩ hZ hw hA (jx_X9_branch_2 l hlt D t3 cI cJ ad g61 l52 a62 b54 _ y1 y2 0 (ob302 ((y1).toInt) hr0 (hE_rng (y1))) (ob303 ((y2).toInt) hr1 (hE_rng (y2))) ha62_r0rg) (cwV 3 hts (jx_gV wwX_good wX_682 wX_187 wX_188 wX_24 wX_189) rfl rfl rfl (by decide +kernel) ⟨Nat.le_of_ble_eq_true rfl, Nat.le_of_ble_eq_true rfl⟩) 2 (ci := 12) (T := TX9) (N := 2) rfl rfl rfl hl.1 rfl (Nat.le_of_ble_eq_true rfl) dX7_writeHead_183 ⟨Nat.le_of_ble_eq_true rfl, Nat.le_of_ble_eq_true rfl⟩ (fun _ _ _ _ _ _ _ _ hp _ _ _ _ => hp.elim) (fun g127 l128 a129 b130 H locs hp131 hw => ?_)
          obtain ⟨h132, h133, h134, h135⟩ := hp131
          refine lv_aload_n hx hb dX7_writeHead_186 rfl (lv_at hl 0 rfl) ?_
          refine lv_bipush (v := 7) hx hb dX7_writeHead_187 (by decide) ?_
          refine lv_iconst (v := 0) hx hb dX7_writeHead_189 (by decide) ?_
          refine lv_iconst (v := 0) hx hb dX7_writeHead_190 (by decide) ?_
          refine jx_Vv (As := [.int 7, .int 0, .int 0]) (rest := []) ⟨hx, hb, hml, hown, hts⟩ hZ hw hA (jx_X7_writeFilter l hlt D t3 cI cJ ad g127 l128 a129 b130 _ 7 0 0) (cwV 3 hts (jx_gV wwX_good wX_678 wX_679 wX_680 wX_122 wX_681) rfl rfl rfl (by decide +kernel) ⟨Nat.le_of_ble_eq_true rfl, Nat.le_of_ble_eq_true rfl⟩) 18 (ci := 10) (T := TX7) (N := 17) rfl rfl rfl hl.1 rfl (Nat.le_of_ble_eq_true rfl) dX7_writeHead_191 ⟨Nat.le_of_ble_eq_true rfl, Nat.le_of_ble_eq_true rfl⟩ (fun _ _ _ _ _ _ _ _ hp _ _ _ _ => hp.elim) (fun g141 l142 a143 b144 H locs hp145 hw => ?_)
          obtain ⟨h146, h147, h148⟩ := hp145
          exact B63 g141 a143 ls _ _ (hk_frT (hk_frT hk_fr0 (by decide) h132) (by decide) h146) (hk_frT (hk_frT hk_fr0 (by decide) h134) (by decide) h148) (hk_pE (P := hk_rg 0 255) h135 (h148 0 rfl)) hw (lv_sub hl [0] rfl)
      refine lv_if_le (tgt := 166) hx hb dX7_writeHead_131 (by decide) (fun cc149 => ?_) (fun cc149 => ?_)
      · exact B60 g51 a53 ls _ _ hk_fr0 hk_fr0 (hk_pE (P := hk_rg 0 255) hr44 (h58 0 rfl)) hw (lv_sub hl [1, 2, 3] rfl)
      · refine lv_aload_n hx hb dX7_writeHead_134 rfl (lv_at hl 1 rfl) ?_
        refine hk_get (ci := 10) (C := RX7) (T := TX7) (N := 17) (v := .ref (ad 2)) hx hb hts (fun _ h => List.mem_cons_of_mem _ (wwXc_wsX70 _ h)) hown hw 18 rfl rfl 1 (by decide) (hq _ wX_594) rfl dX7_writeHead_135 ?_
        refine lv_iload_n hx hb dX7_writeHead_138 rfl (lv_at hl 2 rfl) ?_
        refine lv_iload_n hx hb dX7_writeHead_139 rfl (lv_at hl 3 rfl) ?_
        refine lv_aload_n hx hb dX7_writeHead_140 rfl (lv_at hl 1 rfl) ?_
        refine hk_get (ci := 10) (C := RX7) (T := TX7) (N := 17) (v := .ref (ad 1)) hx hb hts (fun _ h => List.mem_cons_of_mem _ (wwXc_wsX70 _ h)) hown hw 18 rfl rfl 0 (by decide) (hq _ wX_574) rfl dX7_writeHead_141 ?_
        refine hk_get (ci := 13) (C := RX10) (T := TX10) (N := 10) (v := .int (g 11)) hx hb hts (fun _ h => List.mem_cons_of_mem _ (wwXc_wsX100 _ h)) hown hw 1 rfl rfl 8 (by decide) (hq _ wX_674) (congrArg (fun z => some (Value.int z)) e_g51_11) dX7_writeHead_144 ?_
        refine lv_iconst (v := 0) hx hb dX7_writeHead_147 (by decide) ?_
        refine jx_Vv (As := [.int y1, .int y2, .int (g 11), .int 0]) (rest := []) ⟨hx, hb, hml, hown, hts⟩ hZ hw hA (jx_X9_delta_2 l hlt D t3 cI cJ ad g51 l52 a53 b54 _ y1 y2 (g 11) 0 (hk_pE (P := hk_rg 0 255) hr44 (h58 0 rfl))) (cwV 4 hts (jx_gV wwX_good wX_677 wX_183 wX_184 wX_24 wX_185) rfl rfl rfl (by decide +kernel) ⟨Nat.le_of_ble_eq_true rfl, Nat.le_of_ble_eq_true rfl⟩) 2 (ci := 12) (T := TX9) (N := 2) rfl rfl rfl hl.1 rfl (Nat.le_of_ble_eq_true rfl) dX7_writeHead_148 ⟨Nat.le_of_ble_eq_true rfl, Nat.le_of_ble_eq_true rfl⟩ (fun _ _ _ _ _ _ _ _ hp _ _ _ _ => hp.elim) (fun g155 l156 a157 b158 H locs hp159 hw => ?_)
        obtain ⟨h160, h161, h162, h163⟩ := hp159
        refine lv_aload_n hx hb dX7_writeHead_151 rfl (lv_at hl 1 rfl) ?_
        refine lv_iconst (v := 3) hx hb dX7_writeHead_152 (by decide) ?_
        refine lv_iconst (v := 1) hx hb dX7_writeHead_153 (by decide) ?_
        refine lv_aload_n hx hb dX7_writeHead_154 rfl (lv_at hl 1 rfl) ?_
        refine hk_get (ci := 10) (C := RX7) (T := TX7) (N := 17) (v := .ref (ad 1)) hx hb hts (fun _ h => List.mem_cons_of_mem _ (wwXc_wsX70 _ h)) hown hw 18 rfl rfl 0 (by decide) (hq _ wX_574) rfl dX7_writeHead_155 ?_
        have e_g155_11 : g155 11 = (g 11) := ((h160 11 rfl)).trans e_g51_11
        refine hk_get (ci := 13) (C := RX10) (T := TX10) (N := 10) (v := .int (g 11)) hx hb hts (fun _ h => List.mem_cons_of_mem _ (wwXc_wsX100 _ h)) hown hw 1 rfl rfl 8 (by decide) (hq _ wX_674) (congrArg (fun z => some (Value.int z)) e_g155_11) dX7_writeHead_158 ?_
        refine lv_iconst (v := 1) hx hb dX7_writeHead_161 (by decide) ?_
        refine lv_isub hx hb dX7_writeHead_162 (jx_nm fun z164 hz164 => ?_)
        refine jx_Vv (As := [.int 3, .int 1, .int z164]) (rest := []) ⟨hx, hb, hml, hown, hts⟩ hZ hw hA (jx_X7_writeFilter l hlt D t3 cI cJ ad g155 l156 a157 b158 _ 3 1 z164) (cwV 3 hts (jx_gV wwX_good wX_678 wX_679 wX_680 wX_122 wX_681) rfl rfl rfl (by decide +kernel) ⟨Nat.le_of_ble_eq_true rfl, Nat.le_of_ble_eq_true rfl⟩) 18 (ci := 10) (T := TX7) (N := 17) rfl rfl rfl hl.1 rfl (Nat.le_of_ble_eq_true rfl) dX7_writeHead_163 ⟨Nat.le_of_ble_eq_true rfl, Nat.le_of_ble_eq_true rfl⟩ (fun _ _ _ _ _ _ _ _ hp _ _ _ _ => hp.elim) (fun g170 l171 a172 b173 H locs hp174 hw => ?_)
        obtain ⟨h175, h176, h177⟩ := hp174
        exact B60 g170 a172 ls _ _ (hk_frT (hk_frT hk_fr0 (by decide) h160) (by decide) h175) (hk_frT (hk_frT hk_fr0 (by decide) h162) (by decide) h177) (hk_pE (P := hk_rg 0 255) h163 (h177 0 rfl)) hw (lv_sub hl [1, 2, 3] rfl)
    refine lv_if_le (tgt := 72) hx hb dX7_writeHead_65 (by decide) (fun cc178 => ?_) (fun cc178 => ?_)
    · refine lv_iconst (v := 0) hx hb dX7_writeHead_72 (by decide) ?_
      exact B19 0 ls _ _ (ob304 (((0 : Int32)).toInt) ((g 11).toInt) ((g14 11).toInt) (hE_le cc178) (congrArg Int32.toInt e_g14_11) (by decide) (hE_rng (g 11)) (hE_rng (g14 11))) hw (lv_sub hl [1, 2, 3, 0] rfl)
    · refine lv_iconst (v := 3) hx hb dX7_writeHead_68 (by decide) ?_
      refine lv_goto (tgt := 73) hx hb dX7_writeHead_69 (by decide) ?_
      exact B19 3 ls _ _ (ob213 (((3 : Int32)).toInt) (by decide)) hw (lv_sub hl [1, 2, 3, 0] rfl)
  refine lv_if_le (tgt := 45) hx hb dX7_writeHead_38 (by decide) (fun cc179 => ?_) (fun cc179 => ?_)
  · refine lv_iconst (v := 0) hx hb dX7_writeHead_45 (by decide) ?_
    exact B15 0 ls _ _ (ob305 (((0 : Int32)).toInt) ((g 11).toInt) ((g14 11).toInt) (hE_le cc179) (congrArg Int32.toInt e_g14_11) (by decide) (hE_rng (g 11)) (hE_rng (g14 11))) hw (lv_sub hl [0, 1, 2] rfl)
  · refine lv_iconst (v := 1) hx hb dX7_writeHead_41 (by decide) ?_
    refine lv_goto (tgt := 46) hx hb dX7_writeHead_42 (by decide) ?_
    exact B15 1 ls _ _ (ob37 (((1 : Int32)).toInt) (by decide)) hw (lv_sub hl [0, 1, 2] rfl)

set_option maxHeartbeats 4000000 in
set_option maxRecDepth 100000 in
/-- X0_bytesOf -/
theorem jx_X0_bytesOf (l : Launch) (hlt : l.stackTraces = false) (D : va_G) (t3 : Nat × Nat × Nat) (cI cJ : ClassId) (ad : Nat → Nat) (g : Nat → Int32) (lg : Nat → Int64) (ar : Nat → Nat → Int32) (bk : Nat → Int64) (sz : Nat) (y0 : Int32) : JMi l yX0_bytesOf (Cond.code yX0_bytesOf cX0_bytesOf 1 (some .int) :: wwX) { frames := 0, cells := 1, slots := 6, locals := 0 } t3 D xw cI cJ ad [.int y0] (xw cI cJ ad g lg ar bk) sz 1 6 (fun (r : Int32) g' lg' ar' bk' => hk_fr [] g g' ∧ hk_fr [] lg lg' ∧ hk_fr [] ar ar' ∧ (0 ≤ (r).toInt ∧ (r).toInt ≤ 32)) (fun g' lg' ar' bk' => False) := by
  refine jx_meti (cc := cX0_bytesOf) (maxL := 1) (ret := (some .int)) rfl (by decide) rfl (Nat.le_of_ble_eq_true rfl) ?_
  intro p e s m args below meth c ls Q A hx hb hml hown hts hA hZ hw hl hQ kr kt
  have hq : ∀ w ∈ wwX, w.before args s = true := fun w h => hts w (List.mem_cons_of_mem _ h)
  have hl : lv_has ls 1 [(0, .int y0)] := hl
  refine lv_iload_n hx hb dX0_bytesOf_0 rfl (lv_at hl 0 rfl) ?_
  refine lv_iconst (v := 1) hx hb dX0_bytesOf_1 (by decide) ?_
  refine lv_icmp_ne (tgt := 9) hx hb dX0_bytesOf_2 (by decide) (fun cc1 => ?_) (fun cc1 => ?_)
  · refine lv_iload_n hx hb dX0_bytesOf_9 rfl (lv_at hl 0 rfl) ?_
    refine lv_iconst (v := 4) hx hb dX0_bytesOf_10 (by decide) ?_
    refine lv_icmp_ne (tgt := 19) hx hb dX0_bytesOf_11 (by decide) (fun cc2 => ?_) (fun cc2 => ?_)
    · refine lv_iload_n hx hb dX0_bytesOf_19 rfl (lv_at hl 0 rfl) ?_
      refine lv_bipush (v := 10) hx hb dX0_bytesOf_20 (by decide) ?_
      refine lv_icmp_ne (tgt := 30) hx hb dX0_bytesOf_22 (by decide) (fun cc3 => ?_) (fun cc3 => ?_)
      · refine lv_iconst (v := 0) hx hb dX0_bytesOf_30 (by decide) ?_
        exact kr 0 g lg ar bk _ _ _ _ ⟨hk_fr0, hk_fr0, hk_fr0, (ob306 (((0 : Int32)).toInt) (by decide))⟩ hw dX0_bytesOf_31
      · refine lv_bipush (v := 32) hx hb dX0_bytesOf_25 (by decide) ?_
        refine lv_goto (tgt := 31) hx hb dX0_bytesOf_27 (by decide) ?_
        exact kr 32 g lg ar bk _ _ _ _ ⟨hk_fr0, hk_fr0, hk_fr0, (ob307 (((32 : Int32)).toInt) (by decide))⟩ hw dX0_bytesOf_31
    · refine lv_bipush (v := 8) hx hb dX0_bytesOf_14 (by decide) ?_
      refine lv_goto (tgt := 31) hx hb dX0_bytesOf_16 (by decide) ?_
      exact kr 8 g lg ar bk _ _ _ _ ⟨hk_fr0, hk_fr0, hk_fr0, (ob308 (((8 : Int32)).toInt) (by decide))⟩ hw dX0_bytesOf_31
  · refine lv_iconst (v := 4) hx hb dX0_bytesOf_5 (by decide) ?_
    refine lv_goto (tgt := 31) hx hb dX0_bytesOf_6 (by decide) ?_
    exact kr 4 g lg ar bk _ _ _ _ ⟨hk_fr0, hk_fr0, hk_fr0, (ob309 (((4 : Int32)).toInt) (by decide))⟩ hw dX0_bytesOf_31

set_option maxHeartbeats 4000000 in
set_option maxRecDepth 100000 in
/-- X7_writeTail on (18,) -/
theorem jx_X7_writeTail (l : Launch) (hlt : l.stackTraces = false) (D : va_G) (t3 : Nat × Nat × Nat) (cI cJ : ClassId) (ad : Nat → Nat) (g : Nat → Int32) (lg : Nat → Int64) (ar : Nat → Nat → Int32) (bk : Nat → Int64) (sz : Nat) (y1 : Int32) (y2 : Int32) (hr0 : 0 ≤ (y1).toInt ∧ (y1).toInt ≤ 1500) (hr1 : 0 ≤ (y2).toInt ∧ (y2).toInt ≤ 1500) (hi_g26 : 0 ≤ (g 26).toInt ∧ (g 26).toInt ≤ 200) (hi_a7rm : hk_rm 5 3 (-3000) 3000 (ar 7)) : JMv l yX7_writeTail (Cond.code yX7_writeTail cX7_writeTail 4 none :: wwX) { frames := 3, cells := 1, slots := 6, locals := 65 } t3 D xw cI cJ ad [.ref (ad 18), .int y1, .int y2] (xw cI cJ ad g lg ar bk) sz 1 6 (fun g' lg' ar' bk' => hk_fr [14, 26] g g' ∧ hk_fr [] lg lg' ∧ hk_fr [1, 7] ar ar' ∧ (0 ≤ (g' 26).toInt ∧ (g' 26).toInt ≤ 200) ∧ hk_rm 5 3 (-3000) 3000 (ar' 7)) (fun g' lg' ar' bk' => False) := by
  refine jx_metv (cc := cX7_writeTail) (maxL := 4) (ret := none) rfl (by decide) rfl (Nat.le_of_ble_eq_true rfl) ?_
  intro p e s m args below meth c ls Q A hx hb hml hown hts hA hZ hw hl hQ kr kt
  have hq : ∀ w ∈ wwX, w.before args s = true := fun w h => hts w (List.mem_cons_of_mem _ h)
  have hl : lv_has ls 4 [(0, .ref (ad 18)), (1, .int y1), (2, .int y2)] := hl
  refine lv_aload_n hx hb dX7_writeTail_0 rfl (lv_at hl 0 rfl) ?_
  refine hk_get (ci := 10) (C := RX7) (T := TX7) (N := 17) (v := .ref (ad 15)) hx hb hts (fun _ h => List.mem_cons_of_mem _ (wwXc_wsX70 _ h)) hown hw 18 rfl rfl 5 (by decide) (hq _ wX_571) rfl dX7_writeTail_1 ?_
  refine lv_aload_n hx hb dX7_writeTail_4 rfl (lv_at hl 0 rfl) ?_
  refine hk_get (ci := 10) (C := RX7) (T := TX7) (N := 17) (v := .int (g 28)) hx hb hts (fun _ h => List.mem_cons_of_mem _ (wwXc_wsX70 _ h)) hown hw 18 rfl rfl 8 (by decide) (hq _ wX_673) rfl dX7_writeTail_5 ?_
  refine lv_aload_n hx hb dX7_writeTail_8 rfl (lv_at hl 0 rfl) ?_
  refine hk_get (ci := 10) (C := RX7) (T := TX7) (N := 17) (v := .int (g 29)) hx hb hts (fun _ h => List.mem_cons_of_mem _ (wwXc_wsX70 _ h)) hown hw 18 rfl rfl 9 (by decide) (hq _ wX_676) rfl dX7_writeTail_9 ?_
  refine lv_aload_n hx hb dX7_writeTail_12 rfl (lv_at hl 0 rfl) ?_
  refine hk_get (ci := 10) (C := RX7) (T := TX7) (N := 17) (v := .ref (ad 4)) hx hb hts (fun _ h => List.mem_cons_of_mem _ (wwXc_wsX70 _ h)) hown hw 18 rfl rfl 2 (by decide) (hq _ wX_569) rfl dX7_writeTail_13 ?_
  refine hk_get (ci := 12) (C := RX9) (T := TX9) (N := 2) (v := .int (g 14)) hx hb hts (fun _ h => List.mem_cons_of_mem _ (wwXc_wsX90 _ h)) hown hw 4 rfl rfl 1 (by decide) (hq _ wX_570) rfl dX7_writeTail_16 ?_
  refine lv_aload_n hx hb dX7_writeTail_19 rfl (lv_at hl 0 rfl) ?_
  refine hk_get (ci := 10) (C := RX7) (T := TX7) (N := 17) (v := .int (g 30)) hx hb hts (fun _ h => List.mem_cons_of_mem _ (wwXc_wsX70 _ h)) hown hw 18 rfl rfl 10 (by decide) (hq _ wX_648) rfl dX7_writeTail_20 ?_
  refine lv_isub hx hb dX7_writeTail_23 (jx_nm fun z1 hz1 => ?_)
  refine lv_iload_n hx hb dX7_writeTail_24 rfl (lv_at hl 2 rfl) ?_
  refine lv_iload_n hx hb dX7_writeTail_25 rfl (lv_at hl 1 rfl) ?_
  refine lv_isub hx hb dX7_writeTail_26 (jx_nm fun z2 hz2 => ?_)
  refine lv_aload_n hx hb dX7_writeTail_27 rfl (lv_at hl 0 rfl) ?_
  refine hk_get (ci := 10) (C := RX7) (T := TX7) (N := 17) (v := .int (g 31)) hx hb hts (fun _ h => List.mem_cons_of_mem _ (wwXc_wsX70 _ h)) hown hw 18 rfl rfl 11 (by decide) (hq _ wX_595) rfl dX7_writeTail_28 ?_
  refine jx_Vv (As := [.int (g 28), .int (g 29), .int z1, .int z2, .int (g 31)]) (rest := []) ⟨hx, hb, hml, hown, hts⟩ hZ hw hA (jx_X4_addBlock l hlt D t3 cI cJ ad g lg ar bk _ (g 28) (g 29) z1 z2 (g 31) (ob310 ((z2).toInt) ((y2).toInt) ((y1).toInt) (hE_sub hz2) hr0 hr1 (hE_rng (z2)) (hE_rng (y2)) (hE_rng (y1))) (ob290 ((g 26).toInt) hi_g26 (hE_rng (g 26))) hi_a7rm) (cwV 5 hts (jx_gV wwX_good wX_596 wX_435 wX_436 wX_69 wX_437) rfl rfl rfl (by decide +kernel) ⟨Nat.le_of_ble_eq_true rfl, Nat.le_of_ble_eq_true rfl⟩) 15 (ci := 7) (T := TX4) (N := 4) rfl rfl rfl hl.1 rfl (Nat.le_of_ble_eq_true rfl) dX7_writeTail_31 ⟨Nat.le_of_ble_eq_true rfl, Nat.le_of_ble_eq_true rfl⟩ (fun _ _ _ _ _ _ _ _ hp _ _ _ _ => hp.elim) (fun g8 l9 a10 b11 H locs hp12 hw => ?_)
  obtain ⟨h13, h14, h15, h16, h17⟩ := hp12
  refine lv_aload_n hx hb dX7_writeTail_34 rfl (lv_at hl 0 rfl) ?_
  refine hk_get (ci := 10) (C := RX7) (T := TX7) (N := 17) (v := .ref (ad 4)) hx hb hts (fun _ h => List.mem_cons_of_mem _ (wwXc_wsX70 _ h)) hown hw 18 rfl rfl 2 (by decide) (hq _ wX_569) rfl dX7_writeTail_35 ?_
  refine lv_aload_n hx hb dX7_writeTail_38 rfl (lv_at hl 0 rfl) ?_
  have e_g8_28 : g8 28 = (g 28) := (h13 28 rfl)
  refine hk_get (ci := 10) (C := RX7) (T := TX7) (N := 17) (v := .int (g 28)) hx hb hts (fun _ h => List.mem_cons_of_mem _ (wwXc_wsX70 _ h)) hown hw 18 rfl rfl 8 (by decide) (hq _ wX_673) (congrArg (fun z => some (Value.int z)) e_g8_28) dX7_writeTail_39 ?_
  refine jx_Vv (As := [.int (g 28)]) (rest := []) ⟨hx, hb, hml, hown, hts⟩ hZ hw hA (jx_X9_putZeros_4 l hlt D t3 cI cJ ad g8 l9 a10 b11 _ (g 28)) (cwV 1 hts (jx_gV wwX_good wX_683 wX_351 wX_352 wX_24 wX_353) rfl rfl rfl (by decide +kernel) ⟨Nat.le_of_ble_eq_true rfl, Nat.le_of_ble_eq_true rfl⟩) 4 (ci := 12) (T := TX9) (N := 2) rfl rfl rfl hl.1 rfl (Nat.le_of_ble_eq_true rfl) dX7_writeTail_42 ⟨Nat.le_of_ble_eq_true rfl, Nat.le_of_ble_eq_true rfl⟩ (fun _ _ _ _ _ _ _ _ hp _ _ _ _ => hp.elim) (fun g23 l24 a25 b26 H locs hp27 hw => ?_)
  obtain ⟨h28, h29, h30⟩ := hp27
  refine lv_iconst (v := 0) hx hb dX7_writeTail_45 (by decide) ?_
  refine lv_istore_n (lv' := [(3, .int 0), (0, .ref (ad 18)), (1, .int y1), (2, .int y2)]) hx hb dX7_writeTail_46 rfl hl (by decide) rfl (fun ls hl => ?_)
  have B31 : ∀ (k35 : Nat) (x32 : Int32) (g33 : Nat → Int32) (a34 : Nat → Nat → Int32) (ls : Array Slot) (H : Heap) (locs : List Loc), 2147483648 - (x32).toInt ≤ (k35 : Int) → 0 ≤ (x32).toInt → hk_fr [14] g23 g33 → hk_fr [1] a25 a34 → hk_W D (jT cI cJ) A s H locs (xw cI cJ ad g33 l24 a34 b26) → lv_has ls 4 [(0, .ref (ad 18)), (3, .int x32)] → W p l e { frames := 3, cells := 1, slots := 6, locals := 65 } s m args below meth c H locs 0 0 Q (F0 m 47 ls []) := by
    intro k35
    induction k35 with
    | zero =>
      intro x32 g33 a34 ls H locs hrk_B31 hf_B31_0 hfr_g33 hfr_a34 hw hl
      exact False.elim (hk_no0 (0 * (x32).toInt) (ob5 ((x32).toInt) hf_B31_0 hrk_B31 (hE_rng (x32))) (by simp))
    | succ k35 ih_B31 =>
      intro x32 g33 a34 ls H locs hrk_B31 hf_B31_0 hfr_g33 hfr_a34 hw hl
      have hrk_B31 := hk_rk hrk_B31
      refine lv_iload_n hx hb dX7_writeTail_47 rfl (lv_at hl 1 rfl) ?_
      refine lv_aload_n hx hb dX7_writeTail_48 rfl (lv_at hl 0 rfl) ?_
      refine hk_get (ci := 10) (C := RX7) (T := TX7) (N := 17) (v := .ref (ad 1)) hx hb hts (fun _ h => List.mem_cons_of_mem _ (wwXc_wsX70 _ h)) hown hw 18 rfl rfl 0 (by decide) (hq _ wX_574) rfl dX7_writeTail_49 ?_
      have e_g33_9 : g33 9 = (g 9) := ((hfr_g33 9 rfl)).trans (((h28 9 rfl)).trans (h13 9 rfl))
      refine hk_get (ci := 13) (C := RX10) (T := TX10) (N := 10) (v := .int (g 9)) hx hb hts (fun _ h => List.mem_cons_of_mem _ (wwXc_wsX100 _ h)) hown hw 1 rfl rfl 6 (by decide) (hq _ wX_664) (congrArg (fun z => some (Value.int z)) e_g33_9) dX7_writeTail_52 ?_
      refine jx_Si (As := [.int (g 9)]) (rest := [.int x32]) ⟨hx, hb, hml, hown, hts⟩ hZ hw hA (jx_X0_bytesOf l hlt D t3 cI cJ ad g33 l24 a34 b26 _ (g 9)) (va_cwS 1 hts (jx_gS wwX_good wX_684 wX_73 wX_12 wX_74) rfl rfl rfl (by decide +kernel) ⟨Nat.le_of_ble_eq_true rfl, Nat.le_of_ble_eq_true rfl⟩) rfl hl.1 rfl (Nat.le_of_ble_eq_true rfl) dX7_writeTail_55 ⟨Nat.le_of_ble_eq_true rfl, Nat.le_of_ble_eq_true rfl⟩ (fun _ _ _ _ _ _ _ _ hp _ _ _ _ => hp.elim) (fun r40 g41 l42 a43 b44 H locs hp45 hw => ?_)
      obtain ⟨h46, h47, h48, h49⟩ := hp45
      have hr50 : hk_rm 5 3 (-3000) 3000 (a43 7) := (hk_pE (P := hk_rm 5 3 (-3000) 3000) (hk_pE (P := hk_rm 5 3 (-3000) 3000) (hk_pE (P := hk_rm 5 3 (-3000) 3000) h17 (h30 7 rfl)) (hfr_a34 7 rfl)) (h48 7 rfl))
      refine lv_icmp_ge (tgt := 89) hx hb dX7_writeTail_58 (by decide) (fun cc51 => ?_) (fun cc51 => ?_)
      · have e_g41_26 : g41 26 = (g8 26) := ((h46 26 rfl)).trans (((hfr_g33 26 rfl)).trans (h28 26 rfl))
        exact kr g41 l42 a43 b44 _ _ _ _ ⟨(hk_frT (hk_frT (hk_frT (hk_frT hk_fr0 (by decide) h13) (by decide) h28) (by decide) hfr_g33) (by decide) h46), (hk_frT (hk_frT h14 (by decide) h29) (by decide) h47), (hk_frT (hk_frT (hk_frT (hk_frT hk_fr0 (by decide) h15) (by decide) h30) (by decide) hfr_a34) (by decide) h48), (ob254 ((g41 26).toInt) ((g8 26).toInt) (congrArg Int32.toInt e_g41_26) h16 (hE_rng (g41 26)) (hE_rng (g8 26))), hr50⟩ hw dX7_writeTail_89
      · refine lv_aload_n hx hb dX7_writeTail_61 rfl (lv_at hl 0 rfl) ?_
        refine hk_get (ci := 10) (C := RX7) (T := TX7) (N := 17) (v := .ref (ad 4)) hx hb hts (fun _ h => List.mem_cons_of_mem _ (wwXc_wsX70 _ h)) hown hw 18 rfl rfl 2 (by decide) (hq _ wX_569) rfl dX7_writeTail_62 ?_
        refine lv_aload_n hx hb dX7_writeTail_65 rfl (lv_at hl 0 rfl) ?_
        refine hk_get (ci := 10) (C := RX7) (T := TX7) (N := 17) (v := .ref (ad 11)) hx hb hts (fun _ h => List.mem_cons_of_mem _ (wwXc_wsX70 _ h)) hown hw 18 rfl rfl 4 (by decide) (hq _ wX_671) rfl dX7_writeTail_66 ?_
        refine lv_aload_n hx hb dX7_writeTail_69 rfl (lv_at hl 0 rfl) ?_
        refine hk_get (ci := 10) (C := RX7) (T := TX7) (N := 17) (v := .ref (ad 1)) hx hb hts (fun _ h => List.mem_cons_of_mem _ (wwXc_wsX70 _ h)) hown hw 18 rfl rfl 0 (by decide) (hq _ wX_574) rfl dX7_writeTail_70 ?_
        have e_g41_9 : g41 9 = (g 9) := ((h46 9 rfl)).trans e_g33_9
        refine hk_get (ci := 13) (C := RX10) (T := TX10) (N := 10) (v := .int (g 9)) hx hb hts (fun _ h => List.mem_cons_of_mem _ (wwXc_wsX100 _ h)) hown hw 1 rfl rfl 6 (by decide) (hq _ wX_664) (congrArg (fun z => some (Value.int z)) e_g41_9) dX7_writeTail_73 ?_
        refine lv_iload_n hx hb dX7_writeTail_76 rfl (lv_at hl 1 rfl) ?_
        refine jx_Vi (As := [.int (g 9), .int x32]) (rest := [.ref (ad 4)]) ⟨hx, hb, hml, hown, hts⟩ hZ hw hA (jx_X0_byteOf l hlt D t3 cI cJ ad g41 l42 a43 b44 _ (g 9) x32) (cwV 2 hts (jx_gV wwX_good wX_687 wX_565 wX_566 wX_12 wX_567) rfl rfl rfl (by decide +kernel) ⟨Nat.le_of_ble_eq_true rfl, Nat.le_of_ble_eq_true rfl⟩) 11 (ci := 3) (T := TX0) (N := 3) rfl rfl rfl hl.1 rfl (Nat.le_of_ble_eq_true rfl) dX7_writeTail_77 ⟨Nat.le_of_ble_eq_true rfl, Nat.le_of_ble_eq_true rfl⟩ (fun _ _ _ _ _ _ _ _ hp _ _ _ _ => hp.elim) (fun r56 g57 l58 a59 b60 H locs hp61 hw => ?_)
        obtain ⟨h62, h63, h64⟩ := hp61
        refine jx_Vv (As := [.int r56]) (rest := []) ⟨hx, hb, hml, hown, hts⟩ hZ hw hA (jx_X9_put_4 l hlt D t3 cI cJ ad g57 l58 a59 b60 _ r56) (cwV 1 hts (jx_gV wwX_good wX_599 wX_112 wX_113 wX_24 wX_114) rfl rfl rfl (by decide +kernel) ⟨Nat.le_of_ble_eq_true rfl, Nat.le_of_ble_eq_true rfl⟩) 4 (ci := 12) (T := TX9) (N := 2) rfl rfl rfl hl.1 rfl (Nat.le_of_ble_eq_true rfl) dX7_writeTail_80 ⟨Nat.le_of_ble_eq_true rfl, Nat.le_of_ble_eq_true rfl⟩ (fun _ _ _ _ _ _ _ _ hp _ _ _ _ => hp.elim) (fun g70 l71 a72 b73 H locs hp74 hw => ?_)
        obtain ⟨h75, h76, h77, h78⟩ := hp74
        have e_g57_14 : g57 14 = (g33 14) := ((h62 14 rfl)).trans (h46 14 rfl)
        have hr79 : hk_rm 5 3 (-3000) 3000 (a72 7) := (hk_pE (P := hk_rm 5 3 (-3000) 3000) (hk_pE (P := hk_rm 5 3 (-3000) 3000) hr50 (h64 7 rfl)) (h77 7 rfl))
        obtain ⟨z80, hz80⟩ : ∃ z : Int32, x32 + 1 = z := ⟨_, rfl⟩
        refine lv_iinc (v := z80) (lv' := [(3, .int z80), (0, .ref (ad 18))]) hx hb dX7_writeTail_83 hl (k := 1) rfl hz80 (by decide) rfl (fun ls hl => ?_)
        refine lv_goto (tgt := 47) hx hb dX7_writeTail_86 (by decide) ?_
        exact ih_B31 z80 g70 a72 ls _ _ (ob311 ((z80).toInt) (k35 : Int) ((x32).toInt) (((1 : Int32)).toInt) ((r40).toInt) hrk_B31 (hE_add hz80) hf_B31_0 (hE_nle cc51) h49 (hE_rng (z80)) (hE_rng (x32)) (by decide) (hE_rng (r40))) (ob312 ((z80).toInt) ((x32).toInt) (((1 : Int32)).toInt) (k35 : Int) ((r40).toInt) (hE_add hz80) hf_B31_0 hrk_B31 (hE_nle cc51) h49 (hE_rng (z80)) (hE_rng (x32)) (by decide) (hE_rng (r40))) (hk_frT (hk_frT (hk_frT hfr_g33 (by decide) h46) (by decide) h62) (by decide) h75) (hk_frT (hk_frT (hk_frT hfr_a34 (by decide) h48) (by decide) h64) (by decide) h77) hw (lv_sub hl [1, 0] rfl)
  exact B31 (2147483648 - ((0 : Int32)).toInt).toNat 0 g23 a25 ls _ _ (Int.self_le_toNat _) (ob10 (((0 : Int32)).toInt) (by decide)) hk_fr0 hk_fr0 hw (lv_sub hl [1, 0] rfl)

set_option maxHeartbeats 4000000 in
set_option maxRecDepth 100000 in
/-- X4_putIndex on (15, 4) -/
theorem jx_X4_putIndex_4 (l : Launch) (hlt : l.stackTraces = false) (D : va_G) (t3 : Nat × Nat × Nat) (cI cJ : ClassId) (ad : Nat → Nat) (g : Nat → Int32) (lg : Nat → Int64) (ar : Nat → Nat → Int32) (bk : Nat → Int64) (sz : Nat) (y2 : Int32) (hi_a7rm : hk_rm 5 3 (-3000) 3000 (ar 7)) : JMv l yX4_putIndex (Cond.code yX4_putIndex cX4_putIndex 5 none :: wwX) { frames := 3, cells := 1, slots := 6, locals := 66 } t3 D xw cI cJ ad [.ref (ad 15), .ref (ad 4), .int y2] (xw cI cJ ad g lg ar bk) sz 1 6 (fun g' lg' ar' bk' => hk_fr [14] g g' ∧ hk_fr [] lg lg' ∧ hk_fr [1] ar ar') (fun g' lg' ar' bk' => False) := by
  refine jx_metv (cc := cX4_putIndex) (maxL := 5) (ret := none) rfl (by decide) rfl (Nat.le_of_ble_eq_true rfl) ?_
  intro p e s m args below meth c ls Q A hx hb hml hown hts hA hZ hw hl hQ kr kt
  have hq : ∀ w ∈ wwX, w.before args s = true := fun w h => hts w (List.mem_cons_of_mem _ h)
  have hl : lv_has ls 5 [(0, .ref (ad 15)), (1, .ref (ad 4)), (2, .int y2)] := hl
  refine lv_aload_n hx hb dX4_putIndex_0 rfl (lv_at hl 1 rfl) ?_
  refine hk_get (ci := 12) (C := RX9) (T := TX9) (N := 2) (v := .int (g 14)) hx hb hts (fun _ h => List.mem_cons_of_mem _ (wwXc_wsX90 _ h)) hown hw 4 rfl rfl 1 (by decide) (hq _ wX_344) rfl dX4_putIndex_1 ?_
  refine lv_istore_n (lv' := [(3, .int (g 14)), (0, .ref (ad 15)), (1, .ref (ad 4)), (2, .int y2)]) hx hb dX4_putIndex_4 rfl hl (by decide) rfl (fun ls hl => ?_)
  refine lv_aload_n hx hb dX4_putIndex_5 rfl (lv_at hl 2 rfl) ?_
  refine lv_iconst (v := 0) hx hb dX4_putIndex_6 (by decide) ?_
  refine jx_Vv (As := [.int 0]) (rest := []) ⟨hx, hb, hml, hown, hts⟩ hZ hw hA (jx_X9_put_4 l hlt D t3 cI cJ ad g lg ar bk _ 0) (cwV 1 hts (jx_gV wwX_good wX_345 wX_112 wX_113 wX_24 wX_114) rfl rfl rfl (by decide +kernel) ⟨Nat.le_of_ble_eq_true rfl, Nat.le_of_ble_eq_true rfl⟩) 4 (ci := 12) (T := TX9) (N := 2) rfl rfl rfl hl.1 rfl (Nat.le_of_ble_eq_true rfl) dX4_putIndex_7 ⟨Nat.le_of_ble_eq_true rfl, Nat.le_of_ble_eq_true rfl⟩ (fun _ _ _ _ _ _ _ _ hp _ _ _ _ => hp.elim) (fun g6 l7 a8 b9 H locs hp10 hw => ?_)
  obtain ⟨h11, h12, h13, h14⟩ := hp10
  refine lv_aload_n hx hb dX4_putIndex_10 rfl (lv_at hl 2 rfl) ?_
  refine lv_aload_n hx hb dX4_putIndex_11 rfl (lv_at hl 1 rfl) ?_
  have e_g6_26 : g6 26 = (g 26) := (h11 26 rfl)
  refine hk_get (ci := 7) (C := RX4) (T := TX4) (N := 4) (v := .int (g 26)) hx hb hts (fun _ h => List.mem_cons_of_mem _ (wwXc_wsX40 _ h)) hown hw 15 rfl rfl 3 (by decide) (hq _ wX_339) (congrArg (fun z => some (Value.int z)) e_g6_26) dX4_putIndex_12 ?_
  refine jx_Vv (As := [.int (g 26)]) (rest := []) ⟨hx, hb, hml, hown, hts⟩ hZ hw hA (jx_X9_putNumber_4 l hlt D t3 cI cJ ad g6 l7 a8 b9 _ (g 26)) (cwV 1 hts (jx_gV wwX_good wX_346 wX_347 wX_348 wX_24 wX_349) rfl rfl rfl (by decide +kernel) ⟨Nat.le_of_ble_eq_true rfl, Nat.le_of_ble_eq_true rfl⟩) 4 (ci := 12) (T := TX9) (N := 2) rfl rfl rfl hl.1 rfl (Nat.le_of_ble_eq_true rfl) dX4_putIndex_15 ⟨Nat.le_of_ble_eq_true rfl, Nat.le_of_ble_eq_true rfl⟩ (fun _ _ _ _ _ _ _ _ hp _ _ _ _ => hp.elim) (fun g20 l21 a22 b23 H locs hp24 hw => ?_)
  obtain ⟨h25, h26, h27⟩ := hp24
  have hr28 : hk_rm 5 3 (-3000) 3000 (a22 7) := (hk_pE (P := hk_rm 5 3 (-3000) 3000) (hk_pE (P := hk_rm 5 3 (-3000) 3000) hi_a7rm (h13 7 rfl)) (h27 7 rfl))
  refine lv_iconst (v := 0) hx hb dX4_putIndex_18 (by decide) ?_
  refine lv_istore (lv' := [(4, .int 0), (3, .int (g 14)), (0, .ref (ad 15)), (1, .ref (ad 4)), (2, .int y2)]) hx hb dX4_putIndex_19 hl (by decide) rfl (fun ls hl => ?_)
  have B29 : ∀ (k33 : Nat) (x30 : Int32) (g31 : Nat → Int32) (a32 : Nat → Nat → Int32) (ls : Array Slot) (H : Heap) (locs : List Loc), 2147483648 - (x30).toInt ≤ (k33 : Int) → 0 ≤ (x30).toInt → hk_fr [14] g20 g31 → hk_fr [1] a22 a32 → hk_W D (jT cI cJ) A s H locs (xw cI cJ ad g31 l21 a32 b23) → lv_has ls 5 [(0, .ref (ad 15)), (1, .ref (ad 4)), (2, .int y2), (3, .int (g 14)), (4, .int x30)] → W p l e { frames := 3, cells := 1, slots := 6, locals := 66 } s m args below meth c H locs 0 0 Q (F0 m 21 ls []) := by
    intro k33
    induction k33 with
    | zero =>
      intro x30 g31 a32 ls H locs hrk_B29 hf_B29_0 hfr_g31 hfr_a32 hw hl
      exact False.elim (hk_no0 (0 * (x30).toInt) (ob5 ((x30).toInt) hf_B29_0 hrk_B29 (hE_rng (x30))) (by simp))
    | succ k33 ih_B29 =>
      intro x30 g31 a32 ls H locs hrk_B29 hf_B29_0 hfr_g31 hfr_a32 hw hl
      have hrk_B29 := hk_rk hrk_B29
      refine lv_iload hx hb dX4_putIndex_21 (lv_at hl 4 rfl) ?_
      refine lv_aload_n hx hb dX4_putIndex_23 rfl (lv_at hl 0 rfl) ?_
      have e_g31_26 : g31 26 = (g 26) := ((hfr_g31 26 rfl)).trans (((h25 26 rfl)).trans e_g6_26)
      refine hk_get (ci := 7) (C := RX4) (T := TX4) (N := 4) (v := .int (g 26)) hx hb hts (fun _ h => List.mem_cons_of_mem _ (wwXc_wsX40 _ h)) hown hw 15 rfl rfl 3 (by decide) (hq _ wX_339) (congrArg (fun z => some (Value.int z)) e_g31_26) dX4_putIndex_24 ?_
      refine lv_icmp_ge (tgt := 68) hx hb dX4_putIndex_27 (by decide) (fun cc34 => ?_) (fun cc34 => ?_)
      · refine lv_aload_n hx hb dX4_putIndex_68 rfl (lv_at hl 1 rfl) ?_
        refine lv_iload_n hx hb dX4_putIndex_69 rfl (lv_at hl 3 rfl) ?_
        refine jx_Vv (As := [.int (g 14)]) (rest := []) ⟨hx, hb, hml, hown, hts⟩ hZ hw hA (jx_X9_putZeros_4 l hlt D t3 cI cJ ad g31 l21 a32 b23 _ (g 14)) (cwV 1 hts (jx_gV wwX_good wX_350 wX_351 wX_352 wX_24 wX_353) rfl rfl rfl (by decide +kernel) ⟨Nat.le_of_ble_eq_true rfl, Nat.le_of_ble_eq_true rfl⟩) 4 (ci := 12) (T := TX9) (N := 2) rfl rfl rfl hl.1 rfl (Nat.le_of_ble_eq_true rfl) dX4_putIndex_70 ⟨Nat.le_of_ble_eq_true rfl, Nat.le_of_ble_eq_true rfl⟩ (fun _ _ _ _ _ _ _ _ hp _ _ _ _ => hp.elim) (fun g40 l41 a42 b43 H locs hp44 hw => ?_)
        obtain ⟨h45, h46, h47⟩ := hp44
        have hr48 : hk_rm 5 3 (-3000) 3000 (a42 7) := (hk_pE (P := hk_rm 5 3 (-3000) 3000) (hk_pE (P := hk_rm 5 3 (-3000) 3000) hr28 (hfr_a32 7 rfl)) (h47 7 rfl))
        exact kr g40 l41 a42 b43 _ _ _ _ ⟨(hk_frT (hk_frT (hk_frT h11 (by decide) h25) (by decide) hfr_g31) (by decide) h45), (hk_frT (hk_frT h12 (by decide) h26) (by decide) h46), (hk_frT (hk_frT (hk_frT h13 (by decide) h27) (by decide) hfr_a32) (by decide) h47)⟩ hw dX4_putIndex_73
      · refine lv_aload_n hx hb dX4_putIndex_30 rfl (lv_at hl 1 rfl) ?_
        refine lv_aload_n hx hb dX4_putIndex_31 rfl (lv_at hl 0 rfl) ?_
        refine lv_iload hx hb dX4_putIndex_32 (lv_at hl 4 rfl) ?_
        refine lv_iconst (v := 1) hx hb dX4_putIndex_34 (by decide) ?_
        refine jx_Vi (As := [.int x30, .int 1]) (rest := [.ref (ad 4)]) ⟨hx, hb, hml, hown, hts⟩ hZ hw hA (jx_X4_blockPart l hlt D t3 cI cJ ad g31 l21 a32 b23 _ x30 1 (hk_pE (P := hk_rm 5 3 (-3000) 3000) hr28 (hfr_a32 7 rfl))) (cwV 2 hts (jx_gV wwX_good wX_343 wX_67 wX_68 wX_69 wX_70) rfl rfl rfl (by decide +kernel) ⟨Nat.le_of_ble_eq_true rfl, Nat.le_of_ble_eq_true rfl⟩) 15 (ci := 7) (T := TX4) (N := 4) rfl rfl rfl hl.1 rfl (Nat.le_of_ble_eq_true rfl) dX4_putIndex_35 ⟨Nat.le_of_ble_eq_true rfl, Nat.le_of_ble_eq_true rfl⟩ (fun _ _ _ _ _ _ _ _ hp _ _ _ _ => hp.elim) (fun r53 g54 l55 a56 b57 H locs hp58 hw => ?_)
        obtain ⟨h59, h60, h61, h62⟩ := hp58
        have hr63 : hk_rm 5 3 (-3000) 3000 (a56 7) := (hk_pE (P := hk_rm 5 3 (-3000) 3000) (hk_pE (P := hk_rm 5 3 (-3000) 3000) hr28 (hfr_a32 7 rfl)) (h61 7 rfl))
        refine lv_aload_n hx hb dX4_putIndex_38 rfl (lv_at hl 0 rfl) ?_
        refine lv_iload hx hb dX4_putIndex_39 (lv_at hl 4 rfl) ?_
        refine lv_iconst (v := 2) hx hb dX4_putIndex_41 (by decide) ?_
        refine jx_Vi (As := [.int x30, .int 2]) (rest := [.int r53, .ref (ad 4)]) ⟨hx, hb, hml, hown, hts⟩ hZ hw hA (jx_X4_blockPart l hlt D t3 cI cJ ad g54 l55 a56 b57 _ x30 2 hr63) (cwV 2 hts (jx_gV wwX_good wX_343 wX_67 wX_68 wX_69 wX_70) rfl rfl rfl (by decide +kernel) ⟨Nat.le_of_ble_eq_true rfl, Nat.le_of_ble_eq_true rfl⟩) 15 (ci := 7) (T := TX4) (N := 4) rfl rfl rfl hl.1 rfl (Nat.le_of_ble_eq_true rfl) dX4_putIndex_42 ⟨Nat.le_of_ble_eq_true rfl, Nat.le_of_ble_eq_true rfl⟩ (fun _ _ _ _ _ _ _ _ hp _ _ _ _ => hp.elim) (fun r68 g69 l70 a71 b72 H locs hp73 hw => ?_)
        obtain ⟨h74, h75, h76, h77⟩ := hp73
        refine lv_iadd hx hb dX4_putIndex_45 (jx_nm fun z78 hz78 => ?_)
        refine lv_iload_n hx hb dX4_putIndex_46 rfl (lv_at hl 2 rfl) ?_
        refine lv_iadd hx hb dX4_putIndex_47 (jx_nm fun z79 hz79 => ?_)
        refine jx_Vv (As := [.int z79]) (rest := []) ⟨hx, hb, hml, hown, hts⟩ hZ hw hA (jx_X9_putNumber_4 l hlt D t3 cI cJ ad g69 l70 a71 b72 _ z79) (cwV 1 hts (jx_gV wwX_good wX_346 wX_347 wX_348 wX_24 wX_349) rfl rfl rfl (by decide +kernel) ⟨Nat.le_of_ble_eq_true rfl, Nat.le_of_ble_eq_true rfl⟩) 4 (ci := 12) (T := TX9) (N := 2) rfl rfl rfl hl.1 rfl (Nat.le_of_ble_eq_true rfl) dX4_putIndex_48 ⟨Nat.le_of_ble_eq_true rfl, Nat.le_of_ble_eq_true rfl⟩ (fun _ _ _ _ _ _ _ _ hp _ _ _ _ => hp.elim) (fun g85 l86 a87 b88 H locs hp89 hw => ?_)
        obtain ⟨h90, h91, h92⟩ := hp89
        have hr93 : hk_rm 5 3 (-3000) 3000 (a87 7) := (hk_pE (P := hk_rm 5 3 (-3000) 3000) (hk_pE (P := hk_rm 5 3 (-3000) 3000) hr63 (h76 7 rfl)) (h92 7 rfl))
        refine lv_aload_n hx hb dX4_putIndex_51 rfl (lv_at hl 1 rfl) ?_
        refine lv_aload_n hx hb dX4_putIndex_52 rfl (lv_at hl 0 rfl) ?_
        refine lv_iload hx hb dX4_putIndex_53 (lv_at hl 4 rfl) ?_
        refine lv_iconst (v := 3) hx hb dX4_putIndex_55 (by decide) ?_
        refine jx_Vi (As := [.int x30, .int 3]) (rest := [.ref (ad 4)]) ⟨hx, hb, hml, hown, hts⟩ hZ hw hA (jx_X4_blockPart l hlt D t3 cI cJ ad g85 l86 a87 b88 _ x30 3 hr93) (cwV 2 hts (jx_gV wwX_good wX_343 wX_67 wX_68 wX_69 wX_70) rfl rfl rfl (by decide +kernel) ⟨Nat.le_of_ble_eq_true rfl, Nat.le_of_ble_eq_true rfl⟩) 15 (ci := 7) (T := TX4) (N := 4) rfl rfl rfl hl.1 rfl (Nat.le_of_ble_eq_true rfl) dX4_putIndex_56 ⟨Nat.le_of_ble_eq_true rfl, Nat.le_of_ble_eq_true rfl⟩ (fun _ _ _ _ _ _ _ _ hp _ _ _ _ => hp.elim) (fun r98 g99 l100 a101 b102 H locs hp103 hw => ?_)
        obtain ⟨h104, h105, h106, h107⟩ := hp103
        refine jx_Vv (As := [.int r98]) (rest := []) ⟨hx, hb, hml, hown, hts⟩ hZ hw hA (jx_X9_putNumber_4 l hlt D t3 cI cJ ad g99 l100 a101 b102 _ r98) (cwV 1 hts (jx_gV wwX_good wX_346 wX_347 wX_348 wX_24 wX_349) rfl rfl rfl (by decide +kernel) ⟨Nat.le_of_ble_eq_true rfl, Nat.le_of_ble_eq_true rfl⟩) 4 (ci := 12) (T := TX9) (N := 2) rfl rfl rfl hl.1 rfl (Nat.le_of_ble_eq_true rfl) dX4_putIndex_59 ⟨Nat.le_of_ble_eq_true rfl, Nat.le_of_ble_eq_true rfl⟩ (fun _ _ _ _ _ _ _ _ hp _ _ _ _ => hp.elim) (fun g113 l114 a115 b116 H locs hp117 hw => ?_)
        obtain ⟨h118, h119, h120⟩ := hp117
        have hr121 : hk_rm 5 3 (-3000) 3000 (a115 7) := (hk_pE (P := hk_rm 5 3 (-3000) 3000) (hk_pE (P := hk_rm 5 3 (-3000) 3000) hr93 (h106 7 rfl)) (h120 7 rfl))
        obtain ⟨z122, hz122⟩ : ∃ z : Int32, x30 + 1 = z := ⟨_, rfl⟩
        refine lv_iinc (v := z122) (lv' := [(4, .int z122), (0, .ref (ad 15)), (1, .ref (ad 4)), (2, .int y2), (3, .int (g 14))]) hx hb dX4_putIndex_62 hl (k := 4) rfl hz122 (by decide) rfl (fun ls hl => ?_)
        refine lv_goto (tgt := 21) hx hb dX4_putIndex_65 (by decide) ?_
        exact ih_B29 z122 g113 a115 ls _ _ (ob313 ((z122).toInt) (k33 : Int) ((x30).toInt) (((1 : Int32)).toInt) ((g 26).toInt) ((r53).toInt) ((g6 26).toInt) ((g31 26).toInt) ((z78).toInt) ((r68).toInt) (((2 : Int32)).toInt) ((z79).toInt) ((y2).toInt) hrk_B29 (hE_add hz122) hf_B29_0 (hE_nle cc34) h62 (congrArg Int32.toInt e_g6_26) (congrArg Int32.toInt e_g31_26) (hE_add hz78) h77 (hE_add hz79) (hE_rng (z122)) (hE_rng (x30)) (by decide) (hE_rng (g 26)) (hE_rng (r53)) (hE_rng (g6 26)) (hE_rng (g31 26)) (hE_rng (z78)) (hE_rng (r68)) (by decide) (hE_rng (z79)) (hE_rng (y2))) (ob314 ((z122).toInt) ((x30).toInt) (((1 : Int32)).toInt) (k33 : Int) ((g 26).toInt) ((r53).toInt) ((g6 26).toInt) ((g31 26).toInt) ((z78).toInt) ((r68).toInt) (((2 : Int32)).toInt) ((z79).toInt) ((y2).toInt) (hE_add hz122) hf_B29_0 hrk_B29 (hE_nle cc34) h62 (congrArg Int32.toInt e_g6_26) (congrArg Int32.toInt e_g31_26) (hE_add hz78) h77 (hE_add hz79) (hE_rng (z122)) (hE_rng (x30)) (by decide) (hE_rng (g 26)) (hE_rng (r53)) (hE_rng (g6 26)) (hE_rng (g31 26)) (hE_rng (z78)) (hE_rng (r68)) (by decide) (hE_rng (z79)) (hE_rng (y2))) (hk_frT (hk_frT (hk_frT (hk_frT (hk_frT hfr_g31 (by decide) h59) (by decide) h74) (by decide) h90) (by decide) h104) (by decide) h118) (hk_frT (hk_frT (hk_frT (hk_frT (hk_frT hfr_a32 (by decide) h61) (by decide) h76) (by decide) h92) (by decide) h106) (by decide) h120) hw (lv_sub hl [1, 2, 3, 4, 0] rfl)
  exact B29 (2147483648 - ((0 : Int32)).toInt).toNat 0 g20 a22 ls _ _ (Int.self_le_toNat _) (ob10 (((0 : Int32)).toInt) (by decide)) hk_fr0 hk_fr0 hw (lv_sub hl [2, 3, 4, 1, 0] rfl)

set_option maxHeartbeats 4000000 in
set_option maxRecDepth 100000 in
/-- X7_writeIndex on (18,) -/
theorem jx_X7_writeIndex (l : Launch) (hlt : l.stackTraces = false) (D : va_G) (t3 : Nat × Nat × Nat) (cI cJ : ClassId) (ad : Nat → Nat) (g : Nat → Int32) (lg : Nat → Int64) (ar : Nat → Nat → Int32) (bk : Nat → Int64) (sz : Nat) (hi_a7rm : hk_rm 5 3 (-3000) 3000 (ar 7)) : JMv l yX7_writeIndex (Cond.code yX7_writeIndex cX7_writeIndex 1 none :: wwX) { frames := 4, cells := 1, slots := 6, locals := 90 } t3 D xw cI cJ ad [.ref (ad 18)] (xw cI cJ ad g lg ar bk) sz 1 6 (fun g' lg' ar' bk' => hk_fr [14, 32] g g' ∧ hk_fr [] lg lg' ∧ hk_fr [1] ar ar') (fun g' lg' ar' bk' => False) := by
  refine jx_metv (cc := cX7_writeIndex) (maxL := 1) (ret := none) rfl (by decide) rfl (Nat.le_of_ble_eq_true rfl) ?_
  intro p e s m args below meth c ls Q A hx hb hml hown hts hA hZ hw hl hQ kr kt
  have hq : ∀ w ∈ wwX, w.before args s = true := fun w h => hts w (List.mem_cons_of_mem _ h)
  have hl : lv_has ls 1 [(0, .ref (ad 18))] := hl
  refine lv_aload_n hx hb dX7_writeIndex_0 rfl (lv_at hl 0 rfl) ?_
  refine lv_aload_n hx hb dX7_writeIndex_1 rfl (lv_at hl 0 rfl) ?_
  refine hk_get (ci := 10) (C := RX7) (T := TX7) (N := 17) (v := .ref (ad 4)) hx hb hts (fun _ h => List.mem_cons_of_mem _ (wwXc_wsX70 _ h)) hown hw 18 rfl rfl 2 (by decide) (hq _ wX_569) rfl dX7_writeIndex_2 ?_
  refine hk_get (ci := 12) (C := RX9) (T := TX9) (N := 2) (v := .int (g 14)) hx hb hts (fun _ h => List.mem_cons_of_mem _ (wwXc_wsX90 _ h)) hown hw 4 rfl rfl 1 (by decide) (hq _ wX_570) rfl dX7_writeIndex_5 ?_
  refine jx_putg xw (g := g) (lg := lg) (ar := ar) (bk := bk) (x := (g 14)) 32 (ci := 10) (C := RX7) (T := TX7) (N := 17) (ty := .int) hx hb hts (fun _ h => List.mem_cons_of_mem _ (wwXc_wsX70 _ h)) tyX7 tyX7_ok nmX7 hown hw 18 rfl rfl 12 (by decide) (hq _ wX_665) rfl (by decide +kernel) rfl rfl (Nat.le_of_ble_eq_true rfl) dX7_writeIndex_8 rfl (fun H locs g1 h_g1 hw => ?_)
  refine lv_aload_n hx hb dX7_writeIndex_11 rfl (lv_at hl 0 rfl) ?_
  refine hk_get (ci := 10) (C := RX7) (T := TX7) (N := 17) (v := .ref (ad 15)) hx hb hts (fun _ h => List.mem_cons_of_mem _ (wwXc_wsX70 _ h)) hown hw 18 rfl rfl 5 (by decide) (hq _ wX_571) rfl dX7_writeIndex_12 ?_
  refine lv_aload_n hx hb dX7_writeIndex_15 rfl (lv_at hl 0 rfl) ?_
  refine hk_get (ci := 10) (C := RX7) (T := TX7) (N := 17) (v := .ref (ad 4)) hx hb hts (fun _ h => List.mem_cons_of_mem _ (wwXc_wsX70 _ h)) hown hw 18 rfl rfl 2 (by decide) (hq _ wX_569) rfl dX7_writeIndex_16 ?_
  refine lv_aload_n hx hb dX7_writeIndex_19 rfl (lv_at hl 0 rfl) ?_
  refine hk_get (ci := 10) (C := RX7) (T := TX7) (N := 17) (v := .ref (ad 1)) hx hb hts (fun _ h => List.mem_cons_of_mem _ (wwXc_wsX70 _ h)) hown hw 18 rfl rfl 0 (by decide) (hq _ wX_574) rfl dX7_writeIndex_20 ?_
  have e_g1_9 : g1 9 = (g 9) := (hk_upgN h_g1 9 rfl)
  refine hk_get (ci := 13) (C := RX10) (T := TX10) (N := 10) (v := .int (g 9)) hx hb hts (fun _ h => List.mem_cons_of_mem _ (wwXc_wsX100 _ h)) hown hw 1 rfl rfl 6 (by decide) (hq _ wX_664) (congrArg (fun z => some (Value.int z)) e_g1_9) dX7_writeIndex_23 ?_
  refine jx_Si (As := [.int (g 9)]) (rest := [.ref (ad 4), .ref (ad 15)]) ⟨hx, hb, hml, hown, hts⟩ hZ hw hA (jx_X0_bytesOf l hlt D t3 cI cJ ad g1 lg ar bk _ (g 9)) (va_cwS 1 hts (jx_gS wwX_good wX_684 wX_73 wX_12 wX_74) rfl rfl rfl (by decide +kernel) ⟨Nat.le_of_ble_eq_true rfl, Nat.le_of_ble_eq_true rfl⟩) rfl hl.1 rfl (Nat.le_of_ble_eq_true rfl) dX7_writeIndex_26 ⟨Nat.le_of_ble_eq_true rfl, Nat.le_of_ble_eq_true rfl⟩ (fun _ _ _ _ _ _ _ _ hp _ _ _ _ => hp.elim) (fun r6 g7 l8 a9 b10 H locs hp11 hw => ?_)
  obtain ⟨h12, h13, h14, h15⟩ := hp11
  refine jx_Vv (As := [.ref (ad 4), .int r6]) (rest := []) ⟨hx, hb, hml, hown, hts⟩ hZ hw hA (jx_X4_putIndex_4 l hlt D t3 cI cJ ad g7 l8 a9 b10 _ r6 (hk_pE (P := hk_rm 5 3 (-3000) 3000) hi_a7rm (h14 7 rfl))) (cwV 2 hts (jx_gV wwX_good wX_685 wX_544 wX_545 wX_69 wX_546) rfl rfl rfl (by decide +kernel) ⟨Nat.le_of_ble_eq_true rfl, Nat.le_of_ble_eq_true rfl⟩) 15 (ci := 7) (T := TX4) (N := 4) rfl rfl rfl hl.1 rfl (Nat.le_of_ble_eq_true rfl) dX7_writeIndex_29 ⟨Nat.le_of_ble_eq_true rfl, Nat.le_of_ble_eq_true rfl⟩ (fun _ _ _ _ _ _ _ _ hp _ _ _ _ => hp.elim) (fun g21 l22 a23 b24 H locs hp25 hw => ?_)
  obtain ⟨h26, h27, h28⟩ := hp25
  have hr29 : hk_rm 5 3 (-3000) 3000 (a23 7) := (hk_pE (P := hk_rm 5 3 (-3000) 3000) (hk_pE (P := hk_rm 5 3 (-3000) 3000) hi_a7rm (h14 7 rfl)) (h28 7 rfl))
  refine lv_aload_n hx hb dX7_writeIndex_32 rfl (lv_at hl 0 rfl) ?_
  refine hk_get (ci := 10) (C := RX7) (T := TX7) (N := 17) (v := .ref (ad 4)) hx hb hts (fun _ h => List.mem_cons_of_mem _ (wwXc_wsX70 _ h)) hown hw 18 rfl rfl 2 (by decide) (hq _ wX_569) rfl dX7_writeIndex_33 ?_
  refine lv_aload_n hx hb dX7_writeIndex_36 rfl (lv_at hl 0 rfl) ?_
  refine hk_get (ci := 10) (C := RX7) (T := TX7) (N := 17) (v := .ref (ad 4)) hx hb hts (fun _ h => List.mem_cons_of_mem _ (wwXc_wsX70 _ h)) hown hw 18 rfl rfl 2 (by decide) (hq _ wX_569) rfl dX7_writeIndex_37 ?_
  refine lv_aload_n hx hb dX7_writeIndex_40 rfl (lv_at hl 0 rfl) ?_
  have e_g21_32 : g21 32 = (g 14) := ((h26 32 rfl)).trans (((h12 32 rfl)).trans (hk_upgS h_g1))
  refine hk_get (ci := 10) (C := RX7) (T := TX7) (N := 17) (v := .int (g 14)) hx hb hts (fun _ h => List.mem_cons_of_mem _ (wwXc_wsX70 _ h)) hown hw 18 rfl rfl 12 (by decide) (hq _ wX_665) (congrArg (fun z => some (Value.int z)) e_g21_32) dX7_writeIndex_41 ?_
  refine lv_aload_n hx hb dX7_writeIndex_44 rfl (lv_at hl 0 rfl) ?_
  refine hk_get (ci := 10) (C := RX7) (T := TX7) (N := 17) (v := .ref (ad 4)) hx hb hts (fun _ h => List.mem_cons_of_mem _ (wwXc_wsX70 _ h)) hown hw 18 rfl rfl 2 (by decide) (hq _ wX_569) rfl dX7_writeIndex_45 ?_
  refine hk_get (ci := 12) (C := RX9) (T := TX9) (N := 2) (v := .int (g21 14)) hx hb hts (fun _ h => List.mem_cons_of_mem _ (wwXc_wsX90 _ h)) hown hw 4 rfl rfl 1 (by decide) (hq _ wX_570) rfl dX7_writeIndex_48 ?_
  refine jx_Si (As := [.ref (ad 4), .int (g 14), .int (g21 14)]) (rest := [.ref (ad 4)]) ⟨hx, hb, hml, hown, hts⟩ hZ hw hA (jx_X0_crc32_4 l hlt D t3 cI cJ ad g21 l22 a23 b24 _ (g 14) (g21 14)) (va_cwS 3 hts (jx_gS wwX_good wX_670 wX_11 wX_12 wX_13) rfl rfl rfl (by decide +kernel) ⟨Nat.le_of_ble_eq_true rfl, Nat.le_of_ble_eq_true rfl⟩) rfl hl.1 rfl (Nat.le_of_ble_eq_true rfl) dX7_writeIndex_51 ⟨Nat.le_of_ble_eq_true rfl, Nat.le_of_ble_eq_true rfl⟩ (fun _ _ _ _ _ _ _ _ hp _ _ _ _ => hp.elim) (fun r34 g35 l36 a37 b38 H locs hp39 hw => ?_)
  obtain ⟨h40, h41, h42⟩ := hp39
  refine lv_i2l hx hb dX7_writeIndex_54 rfl (jx_nl fun z43 hz43 => ?_)
  refine lv_iconst (v := 4) hx hb dX7_writeIndex_55 (by decide) ?_
  refine jx_Vv (As := [.long z43, .int 4]) (rest := []) ⟨hx, hb, hml, hown, hts⟩ hZ hw hA (jx_X9_putLow_4 l hlt D t3 cI cJ ad g35 l36 a37 b38 _ z43 4) (cwV 2 hts (jx_gV wwX_good wX_601 wX_602 wX_603 wX_24 wX_604) rfl rfl rfl (by decide +kernel) ⟨Nat.le_of_ble_eq_true rfl, Nat.le_of_ble_eq_true rfl⟩) 4 (ci := 12) (T := TX9) (N := 2) rfl rfl rfl hl.1 rfl (Nat.le_of_ble_eq_true rfl) dX7_writeIndex_56 ⟨Nat.le_of_ble_eq_true rfl, Nat.le_of_ble_eq_true rfl⟩ (fun _ _ _ _ _ _ _ _ hp _ _ _ _ => hp.elim) (fun g49 l50 a51 b52 H locs hp53 hw => ?_)
  obtain ⟨h54, h55, h56⟩ := hp53
  have hr57 : hk_rm 5 3 (-3000) 3000 (a51 7) := (hk_pE (P := hk_rm 5 3 (-3000) 3000) (hk_pE (P := hk_rm 5 3 (-3000) 3000) hr29 (h42 7 rfl)) (h56 7 rfl))
  exact kr g49 l50 a51 b52 _ _ _ _ ⟨(hk_frT (hk_frT (hk_frT (hk_frT (hk_frG hk_fr0 (by decide) h_g1) (by decide) h12) (by decide) h26) (by decide) h40) (by decide) h54), (hk_frT (hk_frT (hk_frT h13 (by decide) h27) (by decide) h41) (by decide) h55), (hk_frT (hk_frT (hk_frT (hk_frT hk_fr0 (by decide) h14) (by decide) h28) (by decide) h42) (by decide) h56)⟩ hw dX7_writeIndex_59

set_option maxHeartbeats 4000000 in
set_option maxRecDepth 100000 in
/-- X7_writeFoot on (18,) -/
theorem jx_X7_writeFoot (l : Launch) (hlt : l.stackTraces = false) (D : va_G) (t3 : Nat × Nat × Nat) (cI cJ : ClassId) (ad : Nat → Nat) (g : Nat → Int32) (lg : Nat → Int64) (ar : Nat → Nat → Int32) (bk : Nat → Int64) (sz : Nat) : JMv l yX7_writeFoot (Cond.code yX7_writeFoot cX7_writeFoot 4 none :: wwX) { frames := 3, cells := 1, slots := 6, locals := 67 } t3 D xw cI cJ ad [.ref (ad 18)] (xw cI cJ ad g lg ar bk) sz 1 6 (fun g' lg' ar' bk' => hk_fr [14] g g' ∧ hk_fr [] lg lg' ∧ hk_fr [1] ar ar') (fun g' lg' ar' bk' => False) := by
  refine jx_metv (cc := cX7_writeFoot) (maxL := 4) (ret := none) rfl (by decide) rfl (Nat.le_of_ble_eq_true rfl) ?_
  intro p e s m args below meth c ls Q A hx hb hml hown hts hA hZ hw hl hQ kr kt
  have hq : ∀ w ∈ wwX, w.before args s = true := fun w h => hts w (List.mem_cons_of_mem _ h)
  have hl : lv_has ls 4 [(0, .ref (ad 18))] := hl
  refine lv_aload_n hx hb dX7_writeFoot_0 rfl (lv_at hl 0 rfl) ?_
  refine hk_get (ci := 10) (C := RX7) (T := TX7) (N := 17) (v := .ref (ad 4)) hx hb hts (fun _ h => List.mem_cons_of_mem _ (wwXc_wsX70 _ h)) hown hw 18 rfl rfl 2 (by decide) (hq _ wX_569) rfl dX7_writeFoot_1 ?_
  refine hk_get (ci := 12) (C := RX9) (T := TX9) (N := 2) (v := .int (g 14)) hx hb hts (fun _ h => List.mem_cons_of_mem _ (wwXc_wsX90 _ h)) hown hw 4 rfl rfl 1 (by decide) (hq _ wX_570) rfl dX7_writeFoot_4 ?_
  refine lv_istore_n (lv' := [(1, .int (g 14)), (0, .ref (ad 18))]) hx hb dX7_writeFoot_7 rfl hl (by decide) rfl (fun ls hl => ?_)
  refine lv_aload_n hx hb dX7_writeFoot_8 rfl (lv_at hl 1 rfl) ?_
  refine hk_get (ci := 10) (C := RX7) (T := TX7) (N := 17) (v := .ref (ad 4)) hx hb hts (fun _ h => List.mem_cons_of_mem _ (wwXc_wsX70 _ h)) hown hw 18 rfl rfl 2 (by decide) (hq _ wX_569) rfl dX7_writeFoot_9 ?_
  refine lv_lconst (v := 0) hx hb dX7_writeFoot_12 (by decide) ?_
  refine lv_iconst (v := 4) hx hb dX7_writeFoot_13 (by decide) ?_
  refine jx_Vv (As := [.long 0, .int 4]) (rest := []) ⟨hx, hb, hml, hown, hts⟩ hZ hw hA (jx_X9_putLow_4 l hlt D t3 cI cJ ad g lg ar bk _ 0 4) (cwV 2 hts (jx_gV wwX_good wX_601 wX_602 wX_603 wX_24 wX_604) rfl rfl rfl (by decide +kernel) ⟨Nat.le_of_ble_eq_true rfl, Nat.le_of_ble_eq_true rfl⟩) 4 (ci := 12) (T := TX9) (N := 2) rfl rfl rfl hl.1 rfl (Nat.le_of_ble_eq_true rfl) dX7_writeFoot_14 ⟨Nat.le_of_ble_eq_true rfl, Nat.le_of_ble_eq_true rfl⟩ (fun _ _ _ _ _ _ _ _ hp _ _ _ _ => hp.elim) (fun g6 l7 a8 b9 H locs hp10 hw => ?_)
  obtain ⟨h11, h12, h13⟩ := hp10
  refine lv_aload_n hx hb dX7_writeFoot_17 rfl (lv_at hl 1 rfl) ?_
  refine hk_get (ci := 10) (C := RX7) (T := TX7) (N := 17) (v := .ref (ad 4)) hx hb hts (fun _ h => List.mem_cons_of_mem _ (wwXc_wsX70 _ h)) hown hw 18 rfl rfl 2 (by decide) (hq _ wX_569) rfl dX7_writeFoot_18 ?_
  refine lv_iload_n hx hb dX7_writeFoot_21 rfl (lv_at hl 0 rfl) ?_
  refine lv_aload_n hx hb dX7_writeFoot_22 rfl (lv_at hl 1 rfl) ?_
  have e_g6_32 : g6 32 = (g 32) := (h11 32 rfl)
  refine hk_get (ci := 10) (C := RX7) (T := TX7) (N := 17) (v := .int (g 32)) hx hb hts (fun _ h => List.mem_cons_of_mem _ (wwXc_wsX70 _ h)) hown hw 18 rfl rfl 12 (by decide) (hq _ wX_665) (congrArg (fun z => some (Value.int z)) e_g6_32) dX7_writeFoot_23 ?_
  refine lv_isub hx hb dX7_writeFoot_26 (jx_nm fun z14 hz14 => ?_)
  refine lv_iconst (v := 4) hx hb dX7_writeFoot_27 (by decide) ?_
  refine lv_idiv hx hb dX7_writeFoot_28 (by decide) (jx_nm fun z15 hz15 => ?_)
  refine lv_iconst (v := 1) hx hb dX7_writeFoot_29 (by decide) ?_
  refine lv_isub hx hb dX7_writeFoot_30 (jx_nm fun z16 hz16 => ?_)
  refine lv_i2l hx hb dX7_writeFoot_31 rfl (jx_nl fun z17 hz17 => ?_)
  refine lv_iconst (v := 4) hx hb dX7_writeFoot_32 (by decide) ?_
  refine jx_Vv (As := [.long z17, .int 4]) (rest := []) ⟨hx, hb, hml, hown, hts⟩ hZ hw hA (jx_X9_putLow_4 l hlt D t3 cI cJ ad g6 l7 a8 b9 _ z17 4) (cwV 2 hts (jx_gV wwX_good wX_601 wX_602 wX_603 wX_24 wX_604) rfl rfl rfl (by decide +kernel) ⟨Nat.le_of_ble_eq_true rfl, Nat.le_of_ble_eq_true rfl⟩) 4 (ci := 12) (T := TX9) (N := 2) rfl rfl rfl hl.1 rfl (Nat.le_of_ble_eq_true rfl) dX7_writeFoot_33 ⟨Nat.le_of_ble_eq_true rfl, Nat.le_of_ble_eq_true rfl⟩ (fun _ _ _ _ _ _ _ _ hp _ _ _ _ => hp.elim) (fun g23 l24 a25 b26 H locs hp27 hw => ?_)
  obtain ⟨h28, h29, h30⟩ := hp27
  refine lv_aload_n hx hb dX7_writeFoot_36 rfl (lv_at hl 1 rfl) ?_
  refine jx_Vv (As := []) (rest := []) ⟨hx, hb, hml, hown, hts⟩ hZ hw hA (jx_X7_writeFlags l hlt D t3 cI cJ ad g23 l24 a25 b26 _) (cwV 0 hts (jx_gV wwX_good wX_666 wX_667 wX_668 wX_122 wX_669) rfl rfl rfl (by decide +kernel) ⟨Nat.le_of_ble_eq_true rfl, Nat.le_of_ble_eq_true rfl⟩) 18 (ci := 10) (T := TX7) (N := 17) rfl rfl rfl hl.1 rfl (Nat.le_of_ble_eq_true rfl) dX7_writeFoot_37 ⟨Nat.le_of_ble_eq_true rfl, Nat.le_of_ble_eq_true rfl⟩ (fun _ _ _ _ _ _ _ _ hp _ _ _ _ => hp.elim) (fun g36 l37 a38 b39 H locs hp40 hw => ?_)
  obtain ⟨h41, h42, h43⟩ := hp40
  refine lv_aload_n hx hb dX7_writeFoot_40 rfl (lv_at hl 1 rfl) ?_
  refine hk_get (ci := 10) (C := RX7) (T := TX7) (N := 17) (v := .ref (ad 4)) hx hb hts (fun _ h => List.mem_cons_of_mem _ (wwXc_wsX70 _ h)) hown hw 18 rfl rfl 2 (by decide) (hq _ wX_569) rfl dX7_writeFoot_41 ?_
  refine lv_iload_n hx hb dX7_writeFoot_44 rfl (lv_at hl 0 rfl) ?_
  refine lv_iconst (v := 4) hx hb dX7_writeFoot_45 (by decide) ?_
  refine lv_iadd hx hb dX7_writeFoot_46 (jx_nm fun z44 hz44 => ?_)
  refine lv_iload_n hx hb dX7_writeFoot_47 rfl (lv_at hl 0 rfl) ?_
  refine lv_bipush (v := 10) hx hb dX7_writeFoot_48 (by decide) ?_
  refine lv_iadd hx hb dX7_writeFoot_50 (jx_nm fun z45 hz45 => ?_)
  refine jx_Si (As := [.ref (ad 4), .int z44, .int z45]) (rest := []) ⟨hx, hb, hml, hown, hts⟩ hZ hw hA (jx_X0_crc32_4 l hlt D t3 cI cJ ad g36 l37 a38 b39 _ z44 z45) (va_cwS 3 hts (jx_gS wwX_good wX_670 wX_11 wX_12 wX_13) rfl rfl rfl (by decide +kernel) ⟨Nat.le_of_ble_eq_true rfl, Nat.le_of_ble_eq_true rfl⟩) rfl hl.1 rfl (Nat.le_of_ble_eq_true rfl) dX7_writeFoot_51 ⟨Nat.le_of_ble_eq_true rfl, Nat.le_of_ble_eq_true rfl⟩ (fun _ _ _ _ _ _ _ _ hp _ _ _ _ => hp.elim) (fun r50 g51 l52 a53 b54 H locs hp55 hw => ?_)
  obtain ⟨h56, h57, h58⟩ := hp55
  refine lv_istore_n (lv' := [(2, .int r50), (1, .int (g 14)), (0, .ref (ad 18))]) hx hb dX7_writeFoot_54 rfl hl (by decide) rfl (fun ls hl => ?_)
  refine lv_iconst (v := 0) hx hb dX7_writeFoot_55 (by decide) ?_
  refine lv_istore_n (lv' := [(3, .int 0), (2, .int r50), (1, .int (g 14)), (0, .ref (ad 18))]) hx hb dX7_writeFoot_56 rfl hl (by decide) rfl (fun ls hl => ?_)
  have B59 : ∀ (k62 : Nat) (x60 : Int32) (a61 : Nat → Nat → Int32) (ls : Array Slot) (H : Heap) (locs : List Loc), 2147483648 - (x60).toInt ≤ (k62 : Int) → 0 ≤ (x60).toInt → hk_fr [1] a53 a61 → hk_W D (jT cI cJ) A s H locs (xw cI cJ ad g51 l52 a61 b54) → lv_has ls 4 [(0, .ref (ad 18)), (1, .int (g 14)), (2, .int r50), (3, .int x60)] → W p l e { frames := 3, cells := 1, slots := 6, locals := 67 } s m args below meth c H locs 0 0 Q (F0 m 57 ls []) := by
    intro k62
    induction k62 with
    | zero =>
      intro x60 a61 ls H locs hrk_B59 hf_B59_0 hfr_a61 hw hl
      exact False.elim (hk_no0 (0 * (x60).toInt) (ob5 ((x60).toInt) hf_B59_0 hrk_B59 (hE_rng (x60))) (by simp))
    | succ k62 ih_B59 =>
      intro x60 a61 ls H locs hrk_B59 hf_B59_0 hfr_a61 hw hl
      have hrk_B59 := hk_rk hrk_B59
      refine lv_iload_n hx hb dX7_writeFoot_57 rfl (lv_at hl 3 rfl) ?_
      refine lv_iconst (v := 4) hx hb dX7_writeFoot_58 (by decide) ?_
      refine lv_icmp_ge (tgt := 84) hx hb dX7_writeFoot_59 (by decide) (fun cc63 => ?_) (fun cc63 => ?_)
      · refine lv_aload_n hx hb dX7_writeFoot_84 rfl (lv_at hl 0 rfl) ?_
        refine hk_get (ci := 10) (C := RX7) (T := TX7) (N := 17) (v := .ref (ad 4)) hx hb hts (fun _ h => List.mem_cons_of_mem _ (wwXc_wsX70 _ h)) hown hw 18 rfl rfl 2 (by decide) (hq _ wX_569) rfl dX7_writeFoot_85 ?_
        refine lv_bipush (v := 89) hx hb dX7_writeFoot_88 (by decide) ?_
        refine jx_Vv (As := [.int 89]) (rest := []) ⟨hx, hb, hml, hown, hts⟩ hZ hw hA (jx_X9_put_4 l hlt D t3 cI cJ ad g51 l52 a61 b54 _ 89) (cwV 1 hts (jx_gV wwX_good wX_599 wX_112 wX_113 wX_24 wX_114) rfl rfl rfl (by decide +kernel) ⟨Nat.le_of_ble_eq_true rfl, Nat.le_of_ble_eq_true rfl⟩) 4 (ci := 12) (T := TX9) (N := 2) rfl rfl rfl hl.1 rfl (Nat.le_of_ble_eq_true rfl) dX7_writeFoot_90 ⟨Nat.le_of_ble_eq_true rfl, Nat.le_of_ble_eq_true rfl⟩ (fun _ _ _ _ _ _ _ _ hp _ _ _ _ => hp.elim) (fun g69 l70 a71 b72 H locs hp73 hw => ?_)
        obtain ⟨h74, h75, h76, h77⟩ := hp73
        have e_g51_14 : g51 14 = (g36 14) := (h56 14 rfl)
        refine lv_aload_n hx hb dX7_writeFoot_93 rfl (lv_at hl 0 rfl) ?_
        refine hk_get (ci := 10) (C := RX7) (T := TX7) (N := 17) (v := .ref (ad 4)) hx hb hts (fun _ h => List.mem_cons_of_mem _ (wwXc_wsX70 _ h)) hown hw 18 rfl rfl 2 (by decide) (hq _ wX_569) rfl dX7_writeFoot_94 ?_
        refine lv_bipush (v := 90) hx hb dX7_writeFoot_97 (by decide) ?_
        refine jx_Vv (As := [.int 90]) (rest := []) ⟨hx, hb, hml, hown, hts⟩ hZ hw hA (jx_X9_put_4 l hlt D t3 cI cJ ad g69 l70 a71 b72 _ 90) (cwV 1 hts (jx_gV wwX_good wX_599 wX_112 wX_113 wX_24 wX_114) rfl rfl rfl (by decide +kernel) ⟨Nat.le_of_ble_eq_true rfl, Nat.le_of_ble_eq_true rfl⟩) 4 (ci := 12) (T := TX9) (N := 2) rfl rfl rfl hl.1 rfl (Nat.le_of_ble_eq_true rfl) dX7_writeFoot_99 ⟨Nat.le_of_ble_eq_true rfl, Nat.le_of_ble_eq_true rfl⟩ (fun _ _ _ _ _ _ _ _ hp _ _ _ _ => hp.elim) (fun g83 l84 a85 b86 H locs hp87 hw => ?_)
        obtain ⟨h88, h89, h90, h91⟩ := hp87
        exact kr g83 l84 a85 b86 _ _ _ _ ⟨(hk_frT (hk_frT (hk_frT (hk_frT (hk_frT h11 (by decide) h28) (by decide) h41) (by decide) h56) (by decide) h74) (by decide) h88), (hk_frT (hk_frT (hk_frT (hk_frT (hk_frT h12 (by decide) h29) (by decide) h42) (by decide) h57) (by decide) h75) (by decide) h89), (hk_frT (hk_frT (hk_frT (hk_frT (hk_frT (hk_frT h13 (by decide) h30) (by decide) h43) (by decide) h58) (by decide) hfr_a61) (by decide) h76) (by decide) h90)⟩ hw dX7_writeFoot_102
      · refine lv_aload_n hx hb dX7_writeFoot_62 rfl (lv_at hl 0 rfl) ?_
        refine hk_get (ci := 10) (C := RX7) (T := TX7) (N := 17) (v := .ref (ad 4)) hx hb hts (fun _ h => List.mem_cons_of_mem _ (wwXc_wsX70 _ h)) hown hw 18 rfl rfl 2 (by decide) (hq _ wX_569) rfl dX7_writeFoot_63 ?_
        refine lv_iload_n hx hb dX7_writeFoot_66 rfl (lv_at hl 1 rfl) ?_
        refine lv_iload_n hx hb dX7_writeFoot_67 rfl (lv_at hl 3 rfl) ?_
        refine lv_iadd hx hb dX7_writeFoot_68 (jx_nm fun z92 hz92 => ?_)
        refine lv_iload_n hx hb dX7_writeFoot_69 rfl (lv_at hl 2 rfl) ?_
        refine lv_bipush (v := 8) hx hb dX7_writeFoot_70 (by decide) ?_
        refine lv_iload_n hx hb dX7_writeFoot_72 rfl (lv_at hl 3 rfl) ?_
        refine lv_imul hx hb dX7_writeFoot_73 (jx_nm fun z93 hz93 => ?_)
        refine lv_iushr hx hb dX7_writeFoot_74 rfl (jx_nm fun z94 hz94 => ?_)
        refine jx_Vv (As := [.int z92, .int z94]) (rest := []) ⟨hx, hb, hml, hown, hts⟩ hZ hw hA (jx_X9_set_4 l hlt D t3 cI cJ ad g51 l52 a61 b54 _ z92 z94) (cwV 2 hts (jx_gV wwX_good wX_586 wX_587 wX_588 wX_24 wX_589) rfl rfl rfl (by decide +kernel) ⟨Nat.le_of_ble_eq_true rfl, Nat.le_of_ble_eq_true rfl⟩) 4 (ci := 12) (T := TX9) (N := 2) rfl rfl rfl hl.1 rfl (Nat.le_of_ble_eq_true rfl) dX7_writeFoot_75 ⟨Nat.le_of_ble_eq_true rfl, Nat.le_of_ble_eq_true rfl⟩ (fun _ _ _ _ _ _ _ _ hp _ _ _ _ => hp.elim) (fun g100 l101 a102 b103 H locs hp104 hw => ?_)
        obtain ⟨h105, h106, h107⟩ := hp104
        obtain ⟨z108, hz108⟩ : ∃ z : Int32, x60 + 1 = z := ⟨_, rfl⟩
        refine lv_iinc (v := z108) (lv' := [(3, .int z108), (0, .ref (ad 18)), (1, .int (g 14)), (2, .int r50)]) hx hb dX7_writeFoot_78 hl (k := 3) rfl hz108 (by decide) rfl (fun ls hl => ?_)
        refine lv_goto (tgt := 57) hx hb dX7_writeFoot_81 (by decide) ?_
        exact ih_B59 z108 a102 ls _ _ (ob315 ((z108).toInt) (k62 : Int) ((x60).toInt) (((1 : Int32)).toInt) ((z16).toInt) ((z15).toInt) (((4 : Int32)).toInt) ((z92).toInt) ((g 14).toInt) ((z93).toInt) ((z14).toInt) ((g 32).toInt) ((z17).toInt) ((z44).toInt) ((z45).toInt) (((10 : Int32)).toInt) ((g6 32).toInt) hrk_B59 (hE_add hz108) (hE_sub hz16) hf_B59_0 (hE_nle cc63) (hE_add hz92) (hE_mul' 8 hz93 (by decide)) (hE_sub hz14) (hE_div 4 hz15 (by decide) (by decide)) (hE_i2l hz17) (hE_add hz44) (hE_add hz45) (congrArg Int32.toInt e_g6_32) (hE_rng (z108)) (hE_rng (x60)) (by decide) (hE_rng (z16)) (hE_rng (z15)) (by decide) (hE_rng (z92)) (hE_rng (g 14)) (hE_rng (z93)) (hE_rng (z14)) (hE_rng (g 32)) (hE_rngL (z17)) (hE_rng (z44)) (hE_rng (z45)) (by decide) (hE_rng (g6 32))) (ob316 ((z108).toInt) ((x60).toInt) (((1 : Int32)).toInt) ((z16).toInt) ((z15).toInt) (k62 : Int) (((4 : Int32)).toInt) ((z92).toInt) ((g 14).toInt) ((z93).toInt) ((z14).toInt) ((g 32).toInt) ((z17).toInt) ((z44).toInt) ((z45).toInt) (((10 : Int32)).toInt) ((g6 32).toInt) (hE_add hz108) (hE_sub hz16) hf_B59_0 hrk_B59 (hE_nle cc63) (hE_add hz92) (hE_mul' 8 hz93 (by decide)) (hE_sub hz14) (hE_div 4 hz15 (by decide) (by decide)) (hE_i2l hz17) (hE_add hz44) (hE_add hz45) (congrArg Int32.toInt e_g6_32) (hE_rng (z108)) (hE_rng (x60)) (by decide) (hE_rng (z16)) (hE_rng (z15)) (by decide) (hE_rng (z92)) (hE_rng (g 14)) (hE_rng (z93)) (hE_rng (z14)) (hE_rng (g 32)) (hE_rngL (z17)) (hE_rng (z44)) (hE_rng (z45)) (by decide) (hE_rng (g6 32))) (hk_frT hfr_a61 (by decide) h107) hw (lv_sub hl [1, 2, 3, 0] rfl)
  exact B59 (2147483648 - ((0 : Int32)).toInt).toNat 0 a53 ls _ _ (Int.self_le_toNat _) (ob10 (((0 : Int32)).toInt) (by decide)) hk_fr0 hw (lv_sub hl [3, 2, 1, 0] rfl)
