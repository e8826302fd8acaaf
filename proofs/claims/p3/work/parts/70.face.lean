/-! 70.face -/
theorem ob376 (v0 : Int) (h0 : v0 = 1) : 1 ≤ v0 ∧ v0 ≤ 4096 := by omega
theorem ob377 (v0 : Int) (h0 : v0 = 4096) : 1 ≤ v0 ∧ v0 ≤ 4096 := by omega
theorem ob378 (v0 : Int) (v1 : Int) (v2 : Int) (v3 : Int) (v4 : Int) (v5 : Int) (h0 : v0 = v1) (h1 : 0 ≤ v1 ∧ v1 ≤ 4) (h2 : v2 = (v3 - v1 + 2147483648) % 4294967296 - 2147483648) (h3 : v4 ≤ v2) (h4 : v5 ≤ v4) (h5 : -2147483648 ≤ v0 ∧ v0 ≤ 2147483647) (h6 : -2147483648 ≤ v1 ∧ v1 ≤ 2147483647) (h7 : -2147483648 ≤ v2 ∧ v2 ≤ 2147483647) (h8 : v3 = 4) (h9 : -2147483648 ≤ v4 ∧ v4 ≤ 2147483647) (h10 : v5 = 0) : 0 ≤ v0 ∧ v0 ≤ 4 := by omega
theorem ob379 (v0 : Int) (v1 : Int) (v2 : Int) (v3 : Int) (v4 : Int) (v5 : Int) (v6 : Int) (h0 : v0 = v1) (h1 : v2 ≤ v1) (h2 : v1 ≤ v3) (h3 : v3 = (v4 - v5 + 2147483648) % 4294967296 - 2147483648) (h4 : 0 ≤ v5 ∧ v5 ≤ 4) (h5 : v6 = v5) (h6 : -2147483648 ≤ v0 ∧ v0 ≤ 2147483647) (h7 : -2147483648 ≤ v1 ∧ v1 ≤ 2147483647) (h8 : v2 = 0) (h9 : -2147483648 ≤ v3 ∧ v3 ≤ 2147483647) (h10 : v4 = 4) (h11 : -2147483648 ≤ v5 ∧ v5 ≤ 2147483647) (h12 : -2147483648 ≤ v6 ∧ v6 ≤ 2147483647) : 0 ≤ v0 ∧ v0 ≤ 4 := by omega
theorem ob380 (v0 : Int) (v1 : Int) (v2 : Int) (v3 : Int) (v4 : Int) (v5 : Int) (v6 : Int) (h0 : v0 = v1) (h1 : v2 ≤ v1) (h2 : v1 ≤ v3) (h3 : v4 = v2) (h4 : v3 = (v5 - v6 + 2147483648) % 4294967296 - 2147483648) (h5 : 0 ≤ v6 ∧ v6 ≤ 4) (h6 : -2147483648 ≤ v0 ∧ v0 ≤ 2147483647) (h7 : -2147483648 ≤ v1 ∧ v1 ≤ 2147483647) (h8 : v2 = 0) (h9 : -2147483648 ≤ v3 ∧ v3 ≤ 2147483647) (h10 : -2147483648 ≤ v4 ∧ v4 ≤ 2147483647) (h11 : v5 = 4) (h12 : -2147483648 ≤ v6 ∧ v6 ≤ 2147483647) : 0 ≤ v0 ∧ v0 ≤ 4 := by omega
theorem ob381 (v0 : Int) (v1 : Int) (v2 : Int) (v3 : Int) (v4 : Int) (v5 : Int) (v6 : Int) (v7 : Int) (h0 : v0 = v1) (h1 : 0 ≤ v1 ∧ v1 ≤ 4) (h2 : v2 = (v3 - v1 + 2147483648) % 4294967296 - 2147483648) (h3 : v4 ≤ v2) (h4 : v5 ≤ v4) (h5 : v6 = v4) (h6 : v7 = v5) (h7 : -2147483648 ≤ v0 ∧ v0 ≤ 2147483647) (h8 : -2147483648 ≤ v1 ∧ v1 ≤ 2147483647) (h9 : -2147483648 ≤ v2 ∧ v2 ≤ 2147483647) (h10 : v3 = 4) (h11 : -2147483648 ≤ v4 ∧ v4 ≤ 2147483647) (h12 : v5 = 0) (h13 : -2147483648 ≤ v6 ∧ v6 ≤ 2147483647) (h14 : -2147483648 ≤ v7 ∧ v7 ≤ 2147483647) : 0 ≤ v0 ∧ v0 ≤ 4 := by omega
theorem ob382 (v0 : Int) (h0 : 1 ≤ v0 ∧ v0 ≤ 1500) (h1 : -2147483648 ≤ v0 ∧ v0 ≤ 2147483647) : 1 ≤ v0 ∧ v0 ≤ 1500 := by omega
theorem ob383 (v0 : Int) (v1 : Int) (h0 : v0 = v1) (h1 : 1 ≤ v1 ∧ v1 ≤ 1500) (h2 : -2147483648 ≤ v0 ∧ v0 ≤ 2147483647) (h3 : -2147483648 ≤ v1 ∧ v1 ≤ 2147483647) : 1 ≤ v0 ∧ v0 ≤ 1500 := by omega
theorem ob384 (v0 : Int) (v1 : Int) (v2 : Int) (v3 : Int) (h0 : v0 = v1) (h1 : v2 ≤ v1) (h2 : v1 ≤ v3) (h3 : -2147483648 ≤ v0 ∧ v0 ≤ 2147483647) (h4 : -2147483648 ≤ v1 ∧ v1 ≤ 2147483647) (h5 : v2 = 1) (h6 : v3 = 1500) : 1 ≤ v0 ∧ v0 ≤ 1500 := by omega
theorem ob385 (v0 : Int) (h0 : v0 = 4) : 0 ≤ v0 ∧ v0 ≤ 8 := by omega
theorem ob386 (v0 : Int) (v1 : Int) (v2 : Int) (v3 : Int) (h0 : v1 = (v2 + v0 + 2147483648) % 4294967296 - 2147483648) (h1 : 0 ≤ v2 ∧ v2 ≤ 1500) (h2 : v2 ≤ v3) (h3 : v0 = 4) (h4 : -2147483648 ≤ v1 ∧ v1 ≤ 2147483647) (h5 : -2147483648 ≤ v2 ∧ v2 ≤ 2147483647) (h6 : v3 = 1480) : 0 ≤ v0 ∧ v0 ≤ 8 := by omega
theorem ob387 (v0 : Int) (v1 : Int) (v2 : Int) (v3 : Int) (v4 : Int) (h0 : v1 = (v2 + v0 + 2147483648) % 4294967296 - 2147483648) (h1 : v3 = (v1 + v0 + 2147483648) % 4294967296 - 2147483648) (h2 : 0 ≤ v2 ∧ v2 ≤ 1500) (h3 : v2 ≤ v4) (h4 : v0 = 4) (h5 : -2147483648 ≤ v1 ∧ v1 ≤ 2147483647) (h6 : -2147483648 ≤ v2 ∧ v2 ≤ 2147483647) (h7 : -2147483648 ≤ v3 ∧ v3 ≤ 2147483647) (h8 : v4 = 1480) : 0 ≤ v0 ∧ v0 ≤ 8 := by omega
theorem ob388 (v0 : Int) (v1 : Int) (v2 : Int) (v3 : Int) (v4 : Int) (v5 : Int) (h0 : v1 = (v2 + v0 + 2147483648) % 4294967296 - 2147483648) (h1 : v3 = (v1 + v0 + 2147483648) % 4294967296 - 2147483648) (h2 : v4 = (v3 + v0 + 2147483648) % 4294967296 - 2147483648) (h3 : 0 ≤ v2 ∧ v2 ≤ 1500) (h4 : v2 ≤ v5) (h5 : v0 = 4) (h6 : -2147483648 ≤ v1 ∧ v1 ≤ 2147483647) (h7 : -2147483648 ≤ v2 ∧ v2 ≤ 2147483647) (h8 : -2147483648 ≤ v3 ∧ v3 ≤ 2147483647) (h9 : -2147483648 ≤ v4 ∧ v4 ≤ 2147483647) (h10 : v5 = 1480) : 0 ≤ v0 ∧ v0 ≤ 8 := by omega
theorem ob389 (v0 : Int) (v1 : Int) (v2 : Int) (v3 : Int) (v4 : Int) (v5 : Int) (v6 : Int) (h0 : v1 = (v2 + v0 + 2147483648) % 4294967296 - 2147483648) (h1 : v3 = (v1 + v0 + 2147483648) % 4294967296 - 2147483648) (h2 : v4 = (v3 + v0 + 2147483648) % 4294967296 - 2147483648) (h3 : v5 = (v4 + v0 + 2147483648) % 4294967296 - 2147483648) (h4 : 0 ≤ v2 ∧ v2 ≤ 1500) (h5 : v2 ≤ v6) (h6 : v0 = 4) (h7 : -2147483648 ≤ v1 ∧ v1 ≤ 2147483647) (h8 : -2147483648 ≤ v2 ∧ v2 ≤ 2147483647) (h9 : -2147483648 ≤ v3 ∧ v3 ≤ 2147483647) (h10 : -2147483648 ≤ v4 ∧ v4 ≤ 2147483647) (h11 : -2147483648 ≤ v5 ∧ v5 ≤ 2147483647) (h12 : v6 = 1480) : 0 ≤ v0 ∧ v0 ≤ 8 := by omega
theorem ob390 (v0 : Int) (v1 : Int) (v2 : Int) (v3 : Int) (v4 : Int) (v5 : Int) (v6 : Int) (v7 : Int) (h0 : v0 = (v1 + v2 + 2147483648) % 4294967296 - 2147483648) (h1 : v3 = (v4 + v2 + 2147483648) % 4294967296 - 2147483648) (h2 : v5 = (v3 + v2 + 2147483648) % 4294967296 - 2147483648) (h3 : v6 = (v5 + v2 + 2147483648) % 4294967296 - 2147483648) (h4 : v1 = (v6 + v2 + 2147483648) % 4294967296 - 2147483648) (h5 : 0 ≤ v4 ∧ v4 ≤ 1500) (h6 : v4 ≤ v7) (h7 : -2147483648 ≤ v0 ∧ v0 ≤ 2147483647) (h8 : -2147483648 ≤ v1 ∧ v1 ≤ 2147483647) (h9 : v2 = 4) (h10 : -2147483648 ≤ v3 ∧ v3 ≤ 2147483647) (h11 : -2147483648 ≤ v4 ∧ v4 ≤ 2147483647) (h12 : -2147483648 ≤ v5 ∧ v5 ≤ 2147483647) (h13 : -2147483648 ≤ v6 ∧ v6 ≤ 2147483647) (h14 : v7 = 1480) : 0 ≤ v0 ∧ v0 ≤ 1500 := by omega
theorem ob391 (v0 : Int) (v1 : Int) (h0 : 0 ≤ v0 ∧ v0 ≤ 1500) (h1 : v1 < v0) (h2 : -2147483648 ≤ v0 ∧ v0 ≤ 2147483647) (h3 : v1 = 1480) : 0 ≤ v0 ∧ v0 ≤ 1500 := by omega
theorem ob392 (v0 : Int) (v1 : Int) (v2 : Int) (v3 : Int) (v4 : Int) (v5 : Int) (v6 : Int) (h0 : v0 = v1) (h1 : v1 = (v2 - v3 + 2147483648) % 4294967296 - 2147483648) (h2 : 0 ≤ v2 ∧ v2 ≤ 1500) (h3 : v4 ≤ v2) (h4 : v3 = (v4 - v5 + 2147483648) % 4294967296 - 2147483648) (h5 : v6 ≤ v5) (h6 : v5 ≤ v4) (h7 : -2147483648 ≤ v0 ∧ v0 ≤ 2147483647) (h8 : -2147483648 ≤ v1 ∧ v1 ≤ 2147483647) (h9 : -2147483648 ≤ v2 ∧ v2 ≤ 2147483647) (h10 : -2147483648 ≤ v3 ∧ v3 ≤ 2147483647) (h11 : v4 = 20) (h12 : -2147483648 ≤ v5 ∧ v5 ≤ 2147483647) (h13 : v6 = 0) : 0 ≤ v0 ∧ v0 ≤ 1500 := by omega
theorem ob393 (v0 : Int) (v1 : Int) (v2 : Int) (v3 : Int) (h0 : 0 ≤ v0 ∧ v0 ≤ 1500) (h1 : v0 < v1) (h2 : v2 ≤ v1) (h3 : v3 ≤ v2) (h4 : -2147483648 ≤ v0 ∧ v0 ≤ 2147483647) (h5 : v1 = 20) (h6 : -2147483648 ≤ v2 ∧ v2 ≤ 2147483647) (h7 : v3 = 0) : 0 ≤ v0 ∧ v0 ≤ 1500 := by omega
theorem ob394 (v0 : Int) (v1 : Int) (v2 : Int) (h0 : v0 = (v1 + 1 + 2147483648) % 4294967296 - 2147483648) (h1 : 0 ≤ v1 ∧ v1 ≤ 1500) (h2 : v1 < v2) (h3 : -2147483648 ≤ v0 ∧ v0 ≤ 2147483647) (h4 : -2147483648 ≤ v1 ∧ v1 ≤ 2147483647) (h5 : v2 = 1500) : 0 ≤ v0 ∧ v0 ≤ 1500 := by omega
theorem ob395 (v0 : Int) (v1 : Int) (h0 : 0 ≤ v0 ∧ v0 ≤ 1500) (h1 : v1 ≤ v0) (h2 : -2147483648 ≤ v0 ∧ v0 ≤ 2147483647) (h3 : v1 = 1500) : 0 ≤ v0 ∧ v0 ≤ 1500 := by omega
theorem ob396 (v0 : Int) (v1 : Int) (v2 : Int) (h0 : v0 = v1) (h1 : v1 ≤ v2) (h2 : -2147483648 ≤ v0 ∧ v0 ≤ 2147483647) (h3 : -2147483648 ≤ v1 ∧ v1 ≤ 2147483647) (h4 : v2 = 3000) : v0 ≤ 3000 := by omega
theorem ob397 (v0 : Int) (v1 : Int) (h0 : v0 = v1) (h1 : -2147483648 ≤ v0 ∧ v0 ≤ 2147483647) (h2 : v1 = 0) : v0 ≤ 3000 := by omega
theorem ob398 (v0 : Int) (h0 : -2147483648 ≤ v0 ∧ v0 ≤ 2147483647) : v0 ≤ 3000 := by omega
theorem ob399 (v0 : Int) (h0 : v0 ≤ 3000) (h1 : -2147483648 ≤ v0 ∧ v0 ≤ 2147483647) : v0 ≤ 3000 := by omega
theorem ob400 (v0 : Int) (v1 : Int) (v2 : Int) (v3 : Int) (h0 : v0 = v1) (h1 : v1 ≤ v2) (h2 : v2 ≤ v3) (h3 : -2147483648 ≤ v0 ∧ v0 ≤ 2147483647) (h4 : v1 = 0) (h5 : -2147483648 ≤ v2 ∧ v2 ≤ 2147483647) (h6 : v3 = 2) : 0 ≤ v0 ∧ v0 ≤ 1500 := by omega
theorem ob401 (v0 : Int) (v1 : Int) (v2 : Int) (v3 : Int) (v4 : Int) (v5 : Int) (v6 : Int) (v7 : Int) (v8 : Int) (v9 : Int) (v10 : Int) (v11 : Int) (v12 : Int) (v13 : Int) (h0 : 2147483648 - v0 ≤ v1 + 1) (h1 : v0 < v2) (h2 : v3 = (v0 + v4 + 2147483648) % 4294967296 - 2147483648) (h3 : 0 ≤ v2 ∧ v2 ≤ 1500) (h4 : v5 ≤ v4 ∧ v6 ≤ v4 ∧ (v4 = v5 ∨ v4 = v6)) (h5 : v7 = v2) (h6 : v8 ≤ v3 ∧ v8 ≤ v2 ∧ (v8 = v3 ∨ v8 = v2)) (h7 : 1 ≤ v6 ∧ v6 ≤ 1500) (h8 : v9 ≠ v5) (h9 : v10 = v6) (h10 : v11 = v9) (h11 : v9 ≠ v12) (h12 : v12 ≤ v13) (h13 : -2147483648 ≤ v0 ∧ v0 ≤ 2147483647) (h14 : -2147483648 ≤ v2 ∧ v2 ≤ 2147483647) (h15 : -2147483648 ≤ v3 ∧ v3 ≤ 2147483647) (h16 : -2147483648 ≤ v4 ∧ v4 ≤ 2147483647) (h17 : v5 = 1) (h18 : -2147483648 ≤ v6 ∧ v6 ≤ 2147483647) (h19 : -2147483648 ≤ v7 ∧ v7 ≤ 2147483647) (h20 : -2147483648 ≤ v8 ∧ v8 ≤ 2147483647) (h21 : -2147483648 ≤ v9 ∧ v9 ≤ 2147483647) (h22 : -2147483648 ≤ v10 ∧ v10 ≤ 2147483647) (h23 : -2147483648 ≤ v11 ∧ v11 ≤ 2147483647) (h24 : v12 = 0) (h25 : -2147483648 ≤ v13 ∧ v13 ≤ 2147483647) : 0 ≤ v0 ∧ v0 ≤ 1500 := by omega
theorem ob402 (v0 : Int) (v1 : Int) (v2 : Int) (v3 : Int) (v4 : Int) (v5 : Int) (v6 : Int) (v7 : Int) (v8 : Int) (v9 : Int) (v10 : Int) (v11 : Int) (v12 : Int) (h0 : v0 ≤ v1 ∧ v0 ≤ v2 ∧ (v0 = v1 ∨ v0 = v2)) (h1 : 0 ≤ v2 ∧ v2 ≤ 1500) (h2 : v3 = v2) (h3 : v4 < v2) (h4 : v1 = (v4 + v5 + 2147483648) % 4294967296 - 2147483648) (h5 : v6 ≤ v5 ∧ v7 ≤ v5 ∧ (v5 = v6 ∨ v5 = v7)) (h6 : 2147483648 - v4 ≤ v8 + 1) (h7 : 1 ≤ v7 ∧ v7 ≤ 1500) (h8 : v9 ≠ v6) (h9 : v10 = v7) (h10 : v11 = v9) (h11 : v9 ≠ v12) (h12 : -2147483648 ≤ v0 ∧ v0 ≤ 2147483647) (h13 : -2147483648 ≤ v1 ∧ v1 ≤ 2147483647) (h14 : -2147483648 ≤ v2 ∧ v2 ≤ 2147483647) (h15 : -2147483648 ≤ v3 ∧ v3 ≤ 2147483647) (h16 : -2147483648 ≤ v4 ∧ v4 ≤ 2147483647) (h17 : -2147483648 ≤ v5 ∧ v5 ≤ 2147483647) (h18 : v6 = 1) (h19 : -2147483648 ≤ v7 ∧ v7 ≤ 2147483647) (h20 : -2147483648 ≤ v9 ∧ v9 ≤ 2147483647) (h21 : -2147483648 ≤ v10 ∧ v10 ≤ 2147483647) (h22 : -2147483648 ≤ v11 ∧ v11 ≤ 2147483647) (h23 : v12 = 0) : 0 ≤ v0 ∧ v0 ≤ 1500 := by omega
theorem ob403 (v0 : Int) (v1 : Int) (v2 : Int) (v3 : Int) (v4 : Int) (v5 : Int) (v6 : Int) (v7 : Int) (v8 : Int) (v9 : Int) (v10 : Int) (v11 : Int) (v12 : Int) (v13 : Int) (h0 : 2147483648 - v0 ≤ v1 + 1) (h1 : v0 < v2) (h2 : v3 = (v0 + v4 + 2147483648) % 4294967296 - 2147483648) (h3 : 0 ≤ v2 ∧ v2 ≤ 1500) (h4 : v5 ≤ v4 ∧ v6 ≤ v4 ∧ (v4 = v5 ∨ v4 = v6)) (h5 : v7 = v2) (h6 : v8 ≤ v3 ∧ v8 ≤ v2 ∧ (v8 = v3 ∨ v8 = v2)) (h7 : 1 ≤ v6 ∧ v6 ≤ 1500) (h8 : v9 ≠ v5) (h9 : v10 = v6) (h10 : v11 = v9) (h11 : v9 ≠ v12) (h12 : v12 ≤ v13) (h13 : -2147483648 ≤ v0 ∧ v0 ≤ 2147483647) (h14 : -2147483648 ≤ v2 ∧ v2 ≤ 2147483647) (h15 : -2147483648 ≤ v3 ∧ v3 ≤ 2147483647) (h16 : -2147483648 ≤ v4 ∧ v4 ≤ 2147483647) (h17 : v5 = 1) (h18 : -2147483648 ≤ v6 ∧ v6 ≤ 2147483647) (h19 : -2147483648 ≤ v7 ∧ v7 ≤ 2147483647) (h20 : -2147483648 ≤ v8 ∧ v8 ≤ 2147483647) (h21 : -2147483648 ≤ v9 ∧ v9 ≤ 2147483647) (h22 : -2147483648 ≤ v10 ∧ v10 ≤ 2147483647) (h23 : -2147483648 ≤ v11 ∧ v11 ≤ 2147483647) (h24 : v12 = 0) (h25 : -2147483648 ≤ v13 ∧ v13 ≤ 2147483647) : 0 ≤ v0 := by omega
theorem ob404 (v0 : Int) (v1 : Int) (v2 : Int) (v3 : Int) (v4 : Int) (v5 : Int) (v6 : Int) (v7 : Int) (v8 : Int) (v9 : Int) (v10 : Int) (v11 : Int) (v12 : Int) (h0 : v0 ≤ v1 ∧ v0 ≤ v2 ∧ (v0 = v1 ∨ v0 = v2)) (h1 : 0 ≤ v2 ∧ v2 ≤ 1500) (h2 : v3 = v2) (h3 : v4 < v2) (h4 : v1 = (v4 + v5 + 2147483648) % 4294967296 - 2147483648) (h5 : v6 ≤ v5 ∧ v7 ≤ v5 ∧ (v5 = v6 ∨ v5 = v7)) (h6 : 2147483648 - v4 ≤ v8 + 1) (h7 : 1 ≤ v7 ∧ v7 ≤ 1500) (h8 : v9 ≠ v6) (h9 : v10 = v7) (h10 : v11 = v9) (h11 : v9 ≠ v12) (h12 : -2147483648 ≤ v0 ∧ v0 ≤ 2147483647) (h13 : -2147483648 ≤ v1 ∧ v1 ≤ 2147483647) (h14 : -2147483648 ≤ v2 ∧ v2 ≤ 2147483647) (h15 : -2147483648 ≤ v3 ∧ v3 ≤ 2147483647) (h16 : -2147483648 ≤ v4 ∧ v4 ≤ 2147483647) (h17 : -2147483648 ≤ v5 ∧ v5 ≤ 2147483647) (h18 : v6 = 1) (h19 : -2147483648 ≤ v7 ∧ v7 ≤ 2147483647) (h20 : -2147483648 ≤ v9 ∧ v9 ≤ 2147483647) (h21 : -2147483648 ≤ v10 ∧ v10 ≤ 2147483647) (h22 : -2147483648 ≤ v11 ∧ v11 ≤ 2147483647) (h23 : v12 = 0) : v0 ≤ 1500 := by omega
theorem ob405 (v0 : Int) (v1 : Int) (v2 : Int) (v3 : Int) (v4 : Int) (v5 : Int) (v6 : Int) (v7 : Int) (v8 : Int) (v9 : Int) (v10 : Int) (v11 : Int) (v12 : Int) (v13 : Int) (v14 : Int) (h0 : 2147483648 - v2 ≤ v1 + 1) (h1 : v0 = (v2 + v3 + 2147483648) % 4294967296 - 2147483648) (h2 : v4 ≤ v3 ∧ v5 ≤ v3 ∧ (v3 = v4 ∨ v3 = v5)) (h3 : v2 < v6) (h4 : v7 = (v2 + v3 + 2147483648) % 4294967296 - 2147483648) (h5 : 1 ≤ v5 ∧ v5 ≤ 1500) (h6 : 0 ≤ v6 ∧ v6 ≤ 1500) (h7 : v8 ≠ v4) (h8 : v9 = v5) (h9 : v10 = v6) (h10 : v11 ≤ v7 ∧ v11 ≤ v6 ∧ (v11 = v7 ∨ v11 = v6)) (h11 : v12 = v8) (h12 : v8 ≠ v13) (h13 : v13 ≤ v14) (h14 : -2147483648 ≤ v0 ∧ v0 ≤ 2147483647) (h15 : -2147483648 ≤ v2 ∧ v2 ≤ 2147483647) (h16 : -2147483648 ≤ v3 ∧ v3 ≤ 2147483647) (h17 : v4 = 1) (h18 : -2147483648 ≤ v5 ∧ v5 ≤ 2147483647) (h19 : -2147483648 ≤ v6 ∧ v6 ≤ 2147483647) (h20 : -2147483648 ≤ v7 ∧ v7 ≤ 2147483647) (h21 : -2147483648 ≤ v8 ∧ v8 ≤ 2147483647) (h22 : -2147483648 ≤ v9 ∧ v9 ≤ 2147483647) (h23 : -2147483648 ≤ v10 ∧ v10 ≤ 2147483647) (h24 : -2147483648 ≤ v11 ∧ v11 ≤ 2147483647) (h25 : -2147483648 ≤ v12 ∧ v12 ≤ 2147483647) (h26 : v13 = 0) (h27 : -2147483648 ≤ v14 ∧ v14 ≤ 2147483647) : 2147483648 - v0 ≤ v1 := by omega
theorem ob406 (v0 : Int) (v1 : Int) (v2 : Int) (v3 : Int) (v4 : Int) (v5 : Int) (h0 : v0 ≤ v1) (h1 : v2 ≠ v0) (h2 : v1 ≤ v3) (h3 : v4 = v2) (h4 : v2 = v5) (h5 : v0 = 0) (h6 : -2147483648 ≤ v1 ∧ v1 ≤ 2147483647) (h7 : -2147483648 ≤ v2 ∧ v2 ≤ 2147483647) (h8 : v3 = 2) (h9 : -2147483648 ≤ v4 ∧ v4 ≤ 2147483647) (h10 : v5 = 1) : 0 ≤ v0 := by omega
theorem ob407 (v0 : Int) (v1 : Int) (h0 : 0 ≤ v0 ∧ v0 ≤ 1500) (h1 : v1 = v0) (h2 : -2147483648 ≤ v0 ∧ v0 ≤ 2147483647) (h3 : -2147483648 ≤ v1 ∧ v1 ≤ 2147483647) : v0 ≤ 1500 := by omega
theorem ob408 (v0 : Int) (v1 : Int) (v2 : Int) (h0 : v0 = v1) (h1 : 0 ≤ v1 ∧ v1 ≤ 1500) (h2 : v2 = v1) (h3 : -2147483648 ≤ v0 ∧ v0 ≤ 2147483647) (h4 : -2147483648 ≤ v1 ∧ v1 ≤ 2147483647) (h5 : -2147483648 ≤ v2 ∧ v2 ≤ 2147483647) : 0 ≤ v0 ∧ v0 ≤ 1500 := by omega
theorem ob409 (v0 : Int) (v1 : Int) (h0 : v0 = v1) (h1 : 0 ≤ v1 ∧ v1 ≤ 1500) (h2 : -2147483648 ≤ v0 ∧ v0 ≤ 2147483647) (h3 : -2147483648 ≤ v1 ∧ v1 ≤ 2147483647) : 0 ≤ v0 ∧ v0 ≤ 1500 := by omega
theorem ob410 (v0 : Int) (v1 : Int) (h0 : v1 = v0) (h1 : 0 ≤ v0) (h2 : 2147483648 - v0 ≤ 0) (h3 : 0 ≤ v1 ∧ v1 ≤ 1500) (h4 : -2147483648 ≤ v0 ∧ v0 ≤ 2147483647) (h5 : -2147483648 ≤ v1 ∧ v1 ≤ 2147483647) : (0 * v0) ≤ -1 := by omega
theorem ob411 (v0 : Int) (v1 : Int) (v2 : Int) (v3 : Int) (v4 : Int) (v5 : Int) (h0 : v0 = v1) (h1 : 0 ≤ v0 ∧ v0 ≤ 1500) (h2 : 0 ≤ v1) (h3 : 2147483648 - v1 ≤ v2 + 1) (h4 : v3 ≤ v1) (h5 : v3 ≤ v4) (h6 : v5 = v3) (h7 : -2147483648 ≤ v0 ∧ v0 ≤ 2147483647) (h8 : -2147483648 ≤ v1 ∧ v1 ≤ 2147483647) (h9 : -2147483648 ≤ v3 ∧ v3 ≤ 2147483647) (h10 : v4 = 1500) (h11 : -2147483648 ≤ v5 ∧ v5 ≤ 2147483647) : 0 ≤ v0 ∧ v0 ≤ 1500 := by omega
theorem ob412 (v0 : Int) (v1 : Int) (v2 : Int) (v3 : Int) (v4 : Int) (v5 : Int) (v6 : Int) (v7 : Int) (v8 : Int) (v9 : Int) (h0 : 2147483648 - v2 ≤ v1 + 1) (h1 : v0 = (v2 + v3 + 2147483648) % 4294967296 - 2147483648) (h2 : v4 = v2) (h3 : 0 ≤ v2) (h4 : v2 < v5) (h5 : v5 ≤ v6) (h6 : 0 ≤ v4 ∧ v4 ≤ 1500) (h7 : v7 = v5) (h8 : v8 = v4) (h9 : v9 = (v8 + 1 + 2147483648) % 4294967296 - 2147483648) (h10 : -2147483648 ≤ v0 ∧ v0 ≤ 2147483647) (h11 : -2147483648 ≤ v2 ∧ v2 ≤ 2147483647) (h12 : v3 = 1) (h13 : -2147483648 ≤ v4 ∧ v4 ≤ 2147483647) (h14 : -2147483648 ≤ v5 ∧ v5 ≤ 2147483647) (h15 : v6 = 1500) (h16 : -2147483648 ≤ v7 ∧ v7 ≤ 2147483647) (h17 : -2147483648 ≤ v8 ∧ v8 ≤ 2147483647) (h18 : -2147483648 ≤ v9 ∧ v9 ≤ 2147483647) : 2147483648 - v0 ≤ v1 := by omega
theorem ob413 (v0 : Int) (v1 : Int) (v2 : Int) (v3 : Int) (v4 : Int) (v5 : Int) (v6 : Int) (v7 : Int) (v8 : Int) (v9 : Int) (h0 : v0 = (v2 + 1 + 2147483648) % 4294967296 - 2147483648) (h1 : v1 = (v3 + v4 + 2147483648) % 4294967296 - 2147483648) (h2 : v5 = v3) (h3 : 0 ≤ v3) (h4 : 2147483648 - v3 ≤ v6 + 1) (h5 : v3 < v7) (h6 : v2 = v5) (h7 : v7 ≤ v8) (h8 : 0 ≤ v5 ∧ v5 ≤ 1500) (h9 : v9 = v7) (h10 : -2147483648 ≤ v0 ∧ v0 ≤ 2147483647) (h11 : -2147483648 ≤ v1 ∧ v1 ≤ 2147483647) (h12 : -2147483648 ≤ v2 ∧ v2 ≤ 2147483647) (h13 : -2147483648 ≤ v3 ∧ v3 ≤ 2147483647) (h14 : v4 = 1) (h15 : -2147483648 ≤ v5 ∧ v5 ≤ 2147483647) (h16 : -2147483648 ≤ v7 ∧ v7 ≤ 2147483647) (h17 : v8 = 1500) (h18 : -2147483648 ≤ v9 ∧ v9 ≤ 2147483647) : v0 = v1 := by omega
theorem ob414 (v0 : Int) (v1 : Int) (v2 : Int) (v3 : Int) (v4 : Int) (v5 : Int) (v6 : Int) (v7 : Int) (v8 : Int) (v9 : Int) (h0 : v0 = (v1 + v2 + 2147483648) % 4294967296 - 2147483648) (h1 : v3 = v1) (h2 : 0 ≤ v1) (h3 : 2147483648 - v1 ≤ v4 + 1) (h4 : v1 < v5) (h5 : v5 ≤ v6) (h6 : 0 ≤ v3 ∧ v3 ≤ 1500) (h7 : v7 = v5) (h8 : v8 = v3) (h9 : v9 = (v8 + 1 + 2147483648) % 4294967296 - 2147483648) (h10 : -2147483648 ≤ v0 ∧ v0 ≤ 2147483647) (h11 : -2147483648 ≤ v1 ∧ v1 ≤ 2147483647) (h12 : v2 = 1) (h13 : -2147483648 ≤ v3 ∧ v3 ≤ 2147483647) (h14 : -2147483648 ≤ v5 ∧ v5 ≤ 2147483647) (h15 : v6 = 1500) (h16 : -2147483648 ≤ v7 ∧ v7 ≤ 2147483647) (h17 : -2147483648 ≤ v8 ∧ v8 ≤ 2147483647) (h18 : -2147483648 ≤ v9 ∧ v9 ≤ 2147483647) : 0 ≤ v0 := by omega
theorem ob415 (v0 : Int) (v1 : Int) (v2 : Int) (v3 : Int) (v4 : Int) (v5 : Int) (v6 : Int) (v7 : Int) (v8 : Int) (v9 : Int) (h0 : v0 = (v1 + 1 + 2147483648) % 4294967296 - 2147483648) (h1 : v1 = v2) (h2 : v2 = v3) (h3 : 0 ≤ v2 ∧ v2 ≤ 1500) (h4 : 0 ≤ v3) (h5 : 2147483648 - v3 ≤ v4 + 1) (h6 : v3 < v5) (h7 : v6 = (v3 + v7 + 2147483648) % 4294967296 - 2147483648) (h8 : v5 ≤ v8) (h9 : v9 = v5) (h10 : -2147483648 ≤ v0 ∧ v0 ≤ 2147483647) (h11 : -2147483648 ≤ v1 ∧ v1 ≤ 2147483647) (h12 : -2147483648 ≤ v2 ∧ v2 ≤ 2147483647) (h13 : -2147483648 ≤ v3 ∧ v3 ≤ 2147483647) (h14 : -2147483648 ≤ v5 ∧ v5 ≤ 2147483647) (h15 : -2147483648 ≤ v6 ∧ v6 ≤ 2147483647) (h16 : v7 = 1) (h17 : v8 = 1500) (h18 : -2147483648 ≤ v9 ∧ v9 ≤ 2147483647) : 0 ≤ v0 ∧ v0 ≤ 1500 := by omega
theorem ob416 (v0 : Int) (v1 : Int) (h0 : v0 = v1) (h1 : -2147483648 ≤ v0 ∧ v0 ≤ 2147483647) (h2 : v1 = 0) : v0 = v1 := by omega
theorem ob417 (v0 : Int) (v1 : Int) (h0 : v1 = v0) (h1 : v0 = 0) (h2 : -2147483648 ≤ v1 ∧ v1 ≤ 2147483647) : 0 ≤ v0 := by omega
theorem ob418 (v0 : Int) (v1 : Int) (h0 : v0 = v1) (h1 : -2147483648 ≤ v0 ∧ v0 ≤ 2147483647) (h2 : v1 = 0) : 0 ≤ v0 ∧ v0 ≤ 1500 := by omega
theorem ob419 (v0 : Int) (v1 : Int) (v2 : Int) (v3 : Int) (v4 : Int) (v5 : Int) (h0 : v0 = v1 % 8) (h1 : v2 ≤ v1) (h2 : v1 < v3) (h3 : v4 ≠ v2) (h4 : (0 ≤ v5 → v3 = v5 / 4) ∧ (v5 ≤ 0 → v3 = -(-v5 / 4))) (h5 : 0 ≤ v4 ∧ v4 ≤ 1) (h6 : 0 ≤ v5 ∧ v5 ≤ 32) (h7 : -2147483648 ≤ v0 ∧ v0 ≤ 2147483647) (h8 : -2147483648 ≤ v1 ∧ v1 ≤ 2147483647) (h9 : v2 = 0) (h10 : -2147483648 ≤ v3 ∧ v3 ≤ 2147483647) (h11 : -2147483648 ≤ v4 ∧ v4 ≤ 2147483647) (h12 : -2147483648 ≤ v5 ∧ v5 ≤ 2147483647) : 0 ≤ v0 ∧ v0 < (8 : Nat) := by omega
theorem ob420 (v0 : Int) (h0 : v0 = 0) : -1000000000 ≤ v0 ∧ v0 ≤ 1000000000 := by omega
theorem ob421 (v0 : Int) (h0 : v0 ≤ 600000) (h1 : -2147483648 ≤ v0 ∧ v0 ≤ 2147483647) : v0 ≤ 1000000000 := by omega
set_option maxHeartbeats 4000000 in
set_option maxRecDepth 100000 in
/-- X10_setCoding on (1,) -/
theorem jx_X10_setCoding (l : Launch) (hlt : l.stackTraces = false) (D : va_G) (t3 : Nat × Nat × Nat) (cI cJ : ClassId) (ad : Nat → Nat) (g : Nat → Int32) (lg : Nat → Int64) (ar : Nat → Nat → Int32) (bk : Nat → Int64) (sz : Nat) (y1 : Int32) (y2 : Int32) (y3 : Int32) (hi_g3 : 0 ≤ (g 3).toInt ∧ (g 3).toInt ≤ 4) (hi_g4 : 0 ≤ (g 4).toInt ∧ (g 4).toInt ≤ 4) : JMi l yX10_setCoding (Cond.code yX10_setCoding cX10_setCoding 4 (some .boolean) :: wwX) { frames := 0, cells := 1, slots := 6, locals := 0 } t3 D xw cI cJ ad [.ref (ad 1), .int y1, .int y2, .int y3] (xw cI cJ ad g lg ar bk) sz 1 6 (fun (r : Int32) g' lg' ar' bk' => hk_fr [3, 4, 5, 6] g g' ∧ hk_fr [] lg lg' ∧ hk_fr [] ar ar' ∧ (0 ≤ (g' 3).toInt ∧ (g' 3).toInt ≤ 4) ∧ (0 ≤ (g' 4).toInt ∧ (g' 4).toInt ≤ 4)) (fun g' lg' ar' bk' => False) := by
  refine jx_metz (cc := cX10_setCoding) (maxL := 4) (ret := (some .boolean)) rfl (by decide) rfl (Nat.le_of_ble_eq_true rfl) ?_
  intro p e s m args below meth c ls Q A hx hb hml hown hts hA hZ hw hl hQ kr kt
  have hq : ∀ w ∈ wwX, w.before args s = true := fun w h => hts w (List.mem_cons_of_mem _ h)
  have hl : lv_has ls 4 [(0, .ref (ad 1)), (1, .int y1), (2, .int y2), (3, .int y3)] := hl
  refine lv_iload_n hx hb dX10_setCoding_0 rfl (lv_at hl 1 rfl) ?_
  have B1 : ∀  (ls : Array Slot) (H : Heap) (locs : List Loc), hk_W D (jT cI cJ) A s H locs (xw cI cJ ad g lg ar bk) → lv_has ls 4 [(0, .ref (ad 1)), (1, .int y1), (2, .int y2), (3, .int y3)] → W p l e { frames := 0, cells := 1, slots := 6, locals := 0 } s m args below meth c H locs 0 0 Q (F0 m 25 ls []) := by
    intro ls H locs hw hl
    refine lv_iload_n hx hb dX10_setCoding_25 rfl (lv_at hl 1 rfl) ?_
    refine lv_iconst (v := 1) hx hb dX10_setCoding_26 (by decide) ?_
    have B2 : ∀  (ls : Array Slot) (H : Heap) (locs : List Loc), hk_W D (jT cI cJ) A s H locs (xw cI cJ ad g lg ar bk) → lv_has ls 4 [(0, .ref (ad 1)), (1, .int y1), (2, .int y2), (3, .int y3)] → W p l e { frames := 0, cells := 1, slots := 6, locals := 0 } s m args below meth c H locs 0 0 Q (F0 m 51 ls []) := by
      intro ls H locs hw hl
      refine lv_iload_n hx hb dX10_setCoding_51 rfl (lv_at hl 1 rfl) ?_
      refine lv_iconst (v := 2) hx hb dX10_setCoding_52 (by decide) ?_
      have B3 : ∀  (ls : Array Slot) (H : Heap) (locs : List Loc), hk_W D (jT cI cJ) A s H locs (xw cI cJ ad g lg ar bk) → lv_has ls 4 [(0, .ref (ad 1)), (1, .int y1), (2, .int y2), (3, .int y3)] → W p l e { frames := 0, cells := 1, slots := 6, locals := 0 } s m args below meth c H locs 0 0 Q (F0 m 72 ls []) := by
        intro ls H locs hw hl
        refine lv_iload_n hx hb dX10_setCoding_72 rfl (lv_at hl 1 rfl) ?_
        refine lv_iconst (v := 3) hx hb dX10_setCoding_73 (by decide) ?_
        refine lv_icmp_ne (tgt := 106) hx hb dX10_setCoding_74 (by decide) (fun cc4 => ?_) (fun cc4 => ?_)
        · refine lv_iconst (v := 0) hx hb dX10_setCoding_106 (by decide) ?_
          exact kr 0 g lg ar bk _ _ _ _ rfl ⟨hk_fr0, hk_fr0, hk_fr0, (ob256 ((g 3).toInt) hi_g3 (hE_rng (g 3))), (ob256 ((g 4).toInt) hi_g4 (hE_rng (g 4)))⟩ hw dX10_setCoding_107
        · refine lv_iload_n hx hb dX10_setCoding_77 rfl (lv_at hl 2 rfl) ?_
          refine lv_iload_n hx hb dX10_setCoding_78 rfl (lv_at hl 3 rfl) ?_
          have B5 : ∀  (x6 : Int32) (ls : Array Slot) (H : Heap) (locs : List Loc), 1 ≤ (x6).toInt ∧ (x6).toInt ≤ 4096 → hk_W D (jT cI cJ) A s H locs (xw cI cJ ad g lg ar bk) → lv_has ls 4 [(0, .ref (ad 1)), (2, .int y2)] → W p l e { frames := 0, cells := 1, slots := 6, locals := 0 } s m args below meth c H locs 0 0 Q (F0 m 89 ls [.int x6, .int y2]) := by
            intro x6 ls H locs hf_B5_0 hw hl
            refine lv_icmp_lt (tgt := 106) hx hb dX10_setCoding_89 (by decide) (fun cc7 => ?_) (fun cc7 => ?_)
            · refine lv_iconst (v := 0) hx hb dX10_setCoding_106 (by decide) ?_
              exact kr 0 g lg ar bk _ _ _ _ rfl ⟨hk_fr0, hk_fr0, hk_fr0, (ob256 ((g 3).toInt) hi_g3 (hE_rng (g 3))), (ob256 ((g 4).toInt) hi_g4 (hE_rng (g 4)))⟩ hw dX10_setCoding_107
            · refine lv_iload_n hx hb dX10_setCoding_92 rfl (lv_at hl 1 rfl) ?_
              refine lv_sipush (v := 4096) hx hb dX10_setCoding_93 (by decide) ?_
              refine lv_icmp_gt (tgt := 106) hx hb dX10_setCoding_96 (by decide) (fun cc8 => ?_) (fun cc8 => ?_)
              · refine lv_iconst (v := 0) hx hb dX10_setCoding_106 (by decide) ?_
                exact kr 0 g lg ar bk _ _ _ _ rfl ⟨hk_fr0, hk_fr0, hk_fr0, (ob256 ((g 3).toInt) hi_g3 (hE_rng (g 3))), (ob256 ((g 4).toInt) hi_g4 (hE_rng (g 4)))⟩ hw dX10_setCoding_107
              · refine lv_aload_n hx hb dX10_setCoding_99 rfl (lv_at hl 0 rfl) ?_
                refine lv_iload_n hx hb dX10_setCoding_100 rfl (lv_at hl 1 rfl) ?_
                refine jx_putg xw (g := g) (lg := lg) (ar := ar) (bk := bk) (x := y2) 6 (ci := 13) (C := RX10) (T := TX10) (N := 10) (ty := .int) hx hb hts (fun _ h => List.mem_cons_of_mem _ (wwXc_wsX100 _ h)) tyX10 tyX10_ok nmX10 hown hw 1 rfl rfl 3 (by decide) (hq _ wX_54) rfl (by decide +kernel) rfl rfl (Nat.le_of_ble_eq_true rfl) dX10_setCoding_101 rfl (fun H locs g9 h_g9 hw => ?_)
                refine lv_iconst (v := 1) hx hb dX10_setCoding_104 (by decide) ?_
                have e_g9_3 : g9 3 = (g 3) := (hk_upgN h_g9 3 rfl)
                have e_g9_4 : g9 4 = (g 4) := (hk_upgN h_g9 4 rfl)
                exact kr 1 g9 lg ar bk _ _ _ _ rfl ⟨(hk_frG hk_fr0 (by decide) h_g9), hk_fr0, hk_fr0, (ob61 ((g9 3).toInt) ((g 3).toInt) (congrArg Int32.toInt e_g9_3) hi_g3 (hE_rng (g9 3)) (hE_rng (g 3))), (ob61 ((g9 4).toInt) ((g 4).toInt) (congrArg Int32.toInt e_g9_4) hi_g4 (hE_rng (g9 4)) (hE_rng (g 4)))⟩ hw dX10_setCoding_105
          refine lv_if_eq (tgt := 88) hx hb dX10_setCoding_79 (by decide) (fun cc10 => ?_) (fun cc10 => ?_)
          · refine lv_iconst (v := 1) hx hb dX10_setCoding_88 (by decide) ?_
            exact B5 1 ls _ _ (ob376 (((1 : Int32)).toInt) (by decide)) hw (lv_sub hl [0, 2] rfl)
          · refine lv_sipush (v := 4096) hx hb dX10_setCoding_82 (by decide) ?_
            refine lv_goto (tgt := 89) hx hb dX10_setCoding_85 (by decide) ?_
            exact B5 4096 ls _ _ (ob377 (((4096 : Int32)).toInt) (by decide)) hw (lv_sub hl [0, 2] rfl)
      refine lv_icmp_ne (tgt := 72) hx hb dX10_setCoding_53 (by decide) (fun cc11 => ?_) (fun cc11 => ?_)
      · exact B3 ls _ _ hw (lv_sub hl [0, 1, 2, 3] rfl)
      · refine lv_iload_n hx hb dX10_setCoding_56 rfl (lv_at hl 2 rfl) ?_
        refine lv_if_lt (tgt := 72) hx hb dX10_setCoding_57 (by decide) (fun cc12 => ?_) (fun cc12 => ?_)
        · exact B3 ls _ _ hw (lv_sub hl [0, 1, 2, 3] rfl)
        · refine lv_iload_n hx hb dX10_setCoding_60 rfl (lv_at hl 2 rfl) ?_
          refine lv_iconst (v := 4) hx hb dX10_setCoding_61 (by decide) ?_
          refine lv_icmp_gt (tgt := 72) hx hb dX10_setCoding_62 (by decide) (fun cc13 => ?_) (fun cc13 => ?_)
          · exact B3 ls _ _ hw (lv_sub hl [0, 1, 2, 3] rfl)
          · refine lv_aload_n hx hb dX10_setCoding_65 rfl (lv_at hl 0 rfl) ?_
            refine lv_iload_n hx hb dX10_setCoding_66 rfl (lv_at hl 2 rfl) ?_
            refine jx_putg xw (g := g) (lg := lg) (ar := ar) (bk := bk) (x := y2) 5 (ci := 13) (C := RX10) (T := TX10) (N := 10) (ty := .int) hx hb hts (fun _ h => List.mem_cons_of_mem _ (wwXc_wsX100 _ h)) tyX10 tyX10_ok nmX10 hown hw 1 rfl rfl 2 (by decide) (hq _ wX_51) rfl (by decide +kernel) rfl rfl (Nat.le_of_ble_eq_true rfl) dX10_setCoding_67 rfl (fun H locs g14 h_g14 hw => ?_)
            refine lv_iconst (v := 1) hx hb dX10_setCoding_70 (by decide) ?_
            have e_g14_3 : g14 3 = (g 3) := (hk_upgN h_g14 3 rfl)
            have e_g14_4 : g14 4 = (g 4) := (hk_upgN h_g14 4 rfl)
            exact kr 1 g14 lg ar bk _ _ _ _ rfl ⟨(hk_frG hk_fr0 (by decide) h_g14), hk_fr0, hk_fr0, (ob61 ((g14 3).toInt) ((g 3).toInt) (congrArg Int32.toInt e_g14_3) hi_g3 (hE_rng (g14 3)) (hE_rng (g 3))), (ob61 ((g14 4).toInt) ((g 4).toInt) (congrArg Int32.toInt e_g14_4) hi_g4 (hE_rng (g14 4)) (hE_rng (g 4)))⟩ hw dX10_setCoding_71
    refine lv_icmp_ne (tgt := 51) hx hb dX10_setCoding_27 (by decide) (fun cc15 => ?_) (fun cc15 => ?_)
    · exact B2 ls _ _ hw (lv_sub hl [0, 1, 2, 3] rfl)
    · refine lv_iload_n hx hb dX10_setCoding_30 rfl (lv_at hl 2 rfl) ?_
      refine lv_if_lt (tgt := 51) hx hb dX10_setCoding_31 (by decide) (fun cc16 => ?_) (fun cc16 => ?_)
      · exact B2 ls _ _ hw (lv_sub hl [0, 1, 2, 3] rfl)
      · refine lv_iload_n hx hb dX10_setCoding_34 rfl (lv_at hl 2 rfl) ?_
        refine lv_iconst (v := 4) hx hb dX10_setCoding_35 (by decide) ?_
        refine lv_aload_n hx hb dX10_setCoding_36 rfl (lv_at hl 0 rfl) ?_
        refine hk_get (ci := 13) (C := RX10) (T := TX10) (N := 10) (v := .int (g 3)) hx hb hts (fun _ h => List.mem_cons_of_mem _ (wwXc_wsX100 _ h)) hown hw 1 rfl rfl 0 (by decide) (hq _ wX_53) rfl dX10_setCoding_37 ?_
        refine lv_isub hx hb dX10_setCoding_40 (jx_nm fun z17 hz17 => ?_)
        refine lv_icmp_gt (tgt := 51) hx hb dX10_setCoding_41 (by decide) (fun cc18 => ?_) (fun cc18 => ?_)
        · exact B2 ls _ _ hw (lv_sub hl [0, 1, 2, 3] rfl)
        · refine lv_aload_n hx hb dX10_setCoding_44 rfl (lv_at hl 0 rfl) ?_
          refine lv_iload_n hx hb dX10_setCoding_45 rfl (lv_at hl 2 rfl) ?_
          refine jx_putg xw (g := g) (lg := lg) (ar := ar) (bk := bk) (x := y2) 4 (ci := 13) (C := RX10) (T := TX10) (N := 10) (ty := .int) hx hb hts (fun _ h => List.mem_cons_of_mem _ (wwXc_wsX100 _ h)) tyX10 tyX10_ok nmX10 hown hw 1 rfl rfl 1 (by decide) (hq _ wX_52) rfl (by decide +kernel) rfl rfl (Nat.le_of_ble_eq_true rfl) dX10_setCoding_46 rfl (fun H locs g19 h_g19 hw => ?_)
          refine lv_iconst (v := 1) hx hb dX10_setCoding_49 (by decide) ?_
          have e_g19_3 : g19 3 = (g 3) := (hk_upgN h_g19 3 rfl)
          have e_g19_4 : g19 4 = y2 := (hk_upgS h_g19)
          exact kr 1 g19 lg ar bk _ _ _ _ rfl ⟨(hk_frG hk_fr0 (by decide) h_g19), hk_fr0, hk_fr0, (ob378 ((g19 3).toInt) ((g 3).toInt) ((z17).toInt) (((4 : Int32)).toInt) ((y2).toInt) (((0 : Int32)).toInt) (congrArg Int32.toInt e_g19_3) hi_g3 (hE_sub hz17) (hE_nlt cc18) (hE_nlt cc16) (hE_rng (g19 3)) (hE_rng (g 3)) (hE_rng (z17)) (by decide) (hE_rng (y2)) (by decide)), (ob379 ((g19 4).toInt) ((y2).toInt) (((0 : Int32)).toInt) ((z17).toInt) (((4 : Int32)).toInt) ((g 3).toInt) ((g19 3).toInt) (congrArg Int32.toInt e_g19_4) (hE_nlt cc16) (hE_nlt cc18) (hE_sub hz17) hi_g3 (congrArg Int32.toInt e_g19_3) (hE_rng (g19 4)) (hE_rng (y2)) (by decide) (hE_rng (z17)) (by decide) (hE_rng (g 3)) (hE_rng (g19 3)))⟩ hw dX10_setCoding_50
  refine lv_if_ne (tgt := 25) hx hb dX10_setCoding_1 (by decide) (fun cc20 => ?_) (fun cc20 => ?_)
  · exact B1 ls _ _ hw (lv_sub hl [0, 1, 2, 3] rfl)
  · refine lv_iload_n hx hb dX10_setCoding_4 rfl (lv_at hl 2 rfl) ?_
    refine lv_if_lt (tgt := 25) hx hb dX10_setCoding_5 (by decide) (fun cc21 => ?_) (fun cc21 => ?_)
    · exact B1 ls _ _ hw (lv_sub hl [0, 1, 2, 3] rfl)
    · refine lv_iload_n hx hb dX10_setCoding_8 rfl (lv_at hl 2 rfl) ?_
      refine lv_iconst (v := 4) hx hb dX10_setCoding_9 (by decide) ?_
      refine lv_aload_n hx hb dX10_setCoding_10 rfl (lv_at hl 0 rfl) ?_
      refine hk_get (ci := 13) (C := RX10) (T := TX10) (N := 10) (v := .int (g 4)) hx hb hts (fun _ h => List.mem_cons_of_mem _ (wwXc_wsX100 _ h)) hown hw 1 rfl rfl 1 (by decide) (hq _ wX_52) rfl dX10_setCoding_11 ?_
      refine lv_isub hx hb dX10_setCoding_14 (jx_nm fun z22 hz22 => ?_)
      refine lv_icmp_gt (tgt := 25) hx hb dX10_setCoding_15 (by decide) (fun cc23 => ?_) (fun cc23 => ?_)
      · exact B1 ls _ _ hw (lv_sub hl [0, 1, 2, 3] rfl)
      · refine lv_aload_n hx hb dX10_setCoding_18 rfl (lv_at hl 0 rfl) ?_
        refine lv_iload_n hx hb dX10_setCoding_19 rfl (lv_at hl 2 rfl) ?_
        refine jx_putg xw (g := g) (lg := lg) (ar := ar) (bk := bk) (x := y2) 3 (ci := 13) (C := RX10) (T := TX10) (N := 10) (ty := .int) hx hb hts (fun _ h => List.mem_cons_of_mem _ (wwXc_wsX100 _ h)) tyX10 tyX10_ok nmX10 hown hw 1 rfl rfl 0 (by decide) (hq _ wX_53) rfl (by decide +kernel) rfl rfl (Nat.le_of_ble_eq_true rfl) dX10_setCoding_20 rfl (fun H locs g24 h_g24 hw => ?_)
        refine lv_iconst (v := 1) hx hb dX10_setCoding_23 (by decide) ?_
        have e_g24_3 : g24 3 = y2 := (hk_upgS h_g24)
        have e_g24_4 : g24 4 = (g 4) := (hk_upgN h_g24 4 rfl)
        exact kr 1 g24 lg ar bk _ _ _ _ rfl ⟨(hk_frG hk_fr0 (by decide) h_g24), hk_fr0, hk_fr0, (ob380 ((g24 3).toInt) ((y2).toInt) (((0 : Int32)).toInt) ((z22).toInt) ((y1).toInt) (((4 : Int32)).toInt) ((g 4).toInt) (congrArg Int32.toInt e_g24_3) (hE_nlt cc21) (hE_nlt cc23) (hE_eq cc20) (hE_sub hz22) hi_g4 (hE_rng (g24 3)) (hE_rng (y2)) (by decide) (hE_rng (z22)) (hE_rng (y1)) (by decide) (hE_rng (g 4))), (ob381 ((g24 4).toInt) ((g 4).toInt) ((z22).toInt) (((4 : Int32)).toInt) ((y2).toInt) (((0 : Int32)).toInt) ((g24 3).toInt) ((y1).toInt) (congrArg Int32.toInt e_g24_4) hi_g4 (hE_sub hz22) (hE_nlt cc23) (hE_nlt cc21) (congrArg Int32.toInt e_g24_3) (hE_eq cc20) (hE_rng (g24 4)) (hE_rng (g 4)) (hE_rng (z22)) (by decide) (hE_rng (y2)) (by decide) (hE_rng (g24 3)) (hE_rng (y1)))⟩ hw dX10_setCoding_24

set_option maxHeartbeats 4000000 in
set_option maxRecDepth 100000 in
/-- X10_setShape on (1,) -/
theorem jx_X10_setShape (l : Launch) (hlt : l.stackTraces = false) (D : va_G) (t3 : Nat × Nat × Nat) (cI cJ : ClassId) (ad : Nat → Nat) (g : Nat → Int32) (lg : Nat → Int64) (ar : Nat → Nat → Int32) (bk : Nat → Int64) (sz : Nat) (y1 : Int32) (y2 : Int32) (hi_g7 : 1 ≤ (g 7).toInt ∧ (g 7).toInt ≤ 1500) (hi_g8 : 1 ≤ (g 8).toInt ∧ (g 8).toInt ≤ 1500) : JMi l yX10_setShape (Cond.code yX10_setShape cX10_setShape 3 (some .boolean) :: wwX) { frames := 1, cells := 1, slots := 6, locals := 20 } t3 D xw cI cJ ad [.ref (ad 1), .int y1, .int y2] (xw cI cJ ad g lg ar bk) sz 1 6 (fun (r : Int32) g' lg' ar' bk' => hk_fr [7, 8, 9, 10] g g' ∧ hk_fr [] lg lg' ∧ hk_fr [] ar ar' ∧ (1 ≤ (g' 7).toInt ∧ (g' 7).toInt ≤ 1500) ∧ (1 ≤ (g' 8).toInt ∧ (g' 8).toInt ≤ 1500)) (fun g' lg' ar' bk' => False) := by
  refine jx_metz (cc := cX10_setShape) (maxL := 3) (ret := (some .boolean)) rfl (by decide) rfl (Nat.le_of_ble_eq_true rfl) ?_
  intro p e s m args below meth c ls Q A hx hb hml hown hts hA hZ hw hl hQ kr kt
  have hq : ∀ w ∈ wwX, w.before args s = true := fun w h => hts w (List.mem_cons_of_mem _ h)
  have hl : lv_has ls 3 [(0, .ref (ad 1)), (1, .int y1), (2, .int y2)] := hl
  refine lv_iload_n hx hb dX10_setShape_0 rfl (lv_at hl 1 rfl) ?_
  refine lv_iconst (v := 4) hx hb dX10_setShape_1 (by decide) ?_
  have B1 : ∀  (ls : Array Slot) (H : Heap) (locs : List Loc), hk_W D (jT cI cJ) A s H locs (xw cI cJ ad g lg ar bk) → lv_has ls 3 [(0, .ref (ad 1)), (1, .int y1), (2, .int y2)] → W p l e { frames := 1, cells := 1, slots := 6, locals := 20 } s m args below meth c H locs 0 0 Q (F0 m 24 ls []) := by
    intro ls H locs hw hl
    refine lv_iload_n hx hb dX10_setShape_24 rfl (lv_at hl 1 rfl) ?_
    refine lv_iconst (v := 5) hx hb dX10_setShape_25 (by decide) ?_
    have B2 : ∀  (ls : Array Slot) (H : Heap) (locs : List Loc), hk_W D (jT cI cJ) A s H locs (xw cI cJ ad g lg ar bk) → lv_has ls 3 [(0, .ref (ad 1)), (1, .int y1), (2, .int y2)] → W p l e { frames := 1, cells := 1, slots := 6, locals := 20 } s m args below meth c H locs 0 0 Q (F0 m 48 ls []) := by
      intro ls H locs hw hl
      refine lv_iload_n hx hb dX10_setShape_48 rfl (lv_at hl 1 rfl) ?_
      refine lv_bipush (v := 6) hx hb dX10_setShape_49 (by decide) ?_
      have B3 : ∀  (ls : Array Slot) (H : Heap) (locs : List Loc), hk_W D (jT cI cJ) A s H locs (xw cI cJ ad g lg ar bk) → lv_has ls 3 [(0, .ref (ad 1)), (1, .int y1), (2, .int y2)] → W p l e { frames := 1, cells := 1, slots := 6, locals := 20 } s m args below meth c H locs 0 0 Q (F0 m 68 ls []) := by
        intro ls H locs hw hl
        refine lv_iload_n hx hb dX10_setShape_68 rfl (lv_at hl 1 rfl) ?_
        refine lv_bipush (v := 7) hx hb dX10_setShape_69 (by decide) ?_
        refine lv_icmp_ne (tgt := 90) hx hb dX10_setShape_71 (by decide) (fun cc4 => ?_) (fun cc4 => ?_)
        · refine lv_iconst (v := 0) hx hb dX10_setShape_90 (by decide) ?_
          exact kr 0 g lg ar bk _ _ _ _ rfl ⟨hk_fr0, hk_fr0, hk_fr0, (ob382 ((g 7).toInt) hi_g7 (hE_rng (g 7))), (ob382 ((g 8).toInt) hi_g8 (hE_rng (g 8)))⟩ hw dX10_setShape_91
        · refine lv_iload_n hx hb dX10_setShape_74 rfl (lv_at hl 2 rfl) ?_
          have B5 : ∀  (ls : Array Slot) (H : Heap) (locs : List Loc), hk_W D (jT cI cJ) A s H locs (xw cI cJ ad g lg ar bk) → lv_has ls 3 [(0, .ref (ad 1)), (2, .int y2)] → W p l e { frames := 1, cells := 1, slots := 6, locals := 20 } s m args below meth c H locs 0 0 Q (F0 m 83 ls []) := by
            intro ls H locs hw hl
            refine lv_aload_n hx hb dX10_setShape_83 rfl (lv_at hl 0 rfl) ?_
            refine lv_iload_n hx hb dX10_setShape_84 rfl (lv_at hl 1 rfl) ?_
            refine jx_putg xw (g := g) (lg := lg) (ar := ar) (bk := bk) (x := y2) 10 (ci := 13) (C := RX10) (T := TX10) (N := 10) (ty := .int) hx hb hts (fun _ h => List.mem_cons_of_mem _ (wwXc_wsX100 _ h)) tyX10 tyX10_ok nmX10 hown hw 1 rfl rfl 7 (by decide) (hq _ wX_63) rfl (by decide +kernel) rfl rfl (Nat.le_of_ble_eq_true rfl) dX10_setShape_85 rfl (fun H locs g6 h_g6 hw => ?_)
            refine lv_iconst (v := 1) hx hb dX10_setShape_88 (by decide) ?_
            have e_g6_7 : g6 7 = (g 7) := (hk_upgN h_g6 7 rfl)
            have e_g6_8 : g6 8 = (g 8) := (hk_upgN h_g6 8 rfl)
            exact kr 1 g6 lg ar bk _ _ _ _ rfl ⟨(hk_frG hk_fr0 (by decide) h_g6), hk_fr0, hk_fr0, (ob383 ((g6 7).toInt) ((g 7).toInt) (congrArg Int32.toInt e_g6_7) hi_g7 (hE_rng (g6 7)) (hE_rng (g 7))), (ob383 ((g6 8).toInt) ((g 8).toInt) (congrArg Int32.toInt e_g6_8) hi_g8 (hE_rng (g6 8)) (hE_rng (g 8)))⟩ hw dX10_setShape_89
          refine lv_if_eq (tgt := 83) hx hb dX10_setShape_75 (by decide) (fun cc7 => ?_) (fun cc7 => ?_)
          · exact B5 ls _ _ hw (lv_sub hl [0, 2] rfl)
          · refine lv_iload_n hx hb dX10_setShape_78 rfl (lv_at hl 2 rfl) ?_
            refine lv_iconst (v := 1) hx hb dX10_setShape_79 (by decide) ?_
            refine lv_icmp_ne (tgt := 90) hx hb dX10_setShape_80 (by decide) (fun cc8 => ?_) (fun cc8 => ?_)
            · refine lv_iconst (v := 0) hx hb dX10_setShape_90 (by decide) ?_
              exact kr 0 g lg ar bk _ _ _ _ rfl ⟨hk_fr0, hk_fr0, hk_fr0, (ob382 ((g 7).toInt) hi_g7 (hE_rng (g 7))), (ob382 ((g 8).toInt) hi_g8 (hE_rng (g 8)))⟩ hw dX10_setShape_91
            · exact B5 ls _ _ hw (lv_sub hl [0, 2] rfl)
      refine lv_icmp_ne (tgt := 68) hx hb dX10_setShape_51 (by decide) (fun cc9 => ?_) (fun cc9 => ?_)
      · exact B3 ls _ _ hw (lv_sub hl [0, 1, 2] rfl)
      · refine lv_iload_n hx hb dX10_setShape_54 rfl (lv_at hl 2 rfl) ?_
        refine jx_Si (As := [.int y2]) (rest := []) ⟨hx, hb, hml, hown, hts⟩ hZ hw hA (jx_X0_isKind l hlt D t3 cI cJ ad g lg ar bk _ y2) (va_cwS 1 hts (jx_gS wwX_good wX_59 wX_60 wX_12 wX_61) rfl rfl rfl (by decide +kernel) ⟨Nat.le_of_ble_eq_true rfl, Nat.le_of_ble_eq_true rfl⟩) rfl hl.1 rfl (Nat.le_of_ble_eq_true rfl) dX10_setShape_55 ⟨Nat.le_of_ble_eq_true rfl, Nat.le_of_ble_eq_true rfl⟩ (fun _ _ _ _ _ _ _ _ hp _ _ _ _ => hp.elim) (fun r14 g15 l16 a17 b18 H locs hp19 hw => ?_)
        obtain ⟨h20, h21, h22, h23⟩ := hp19
        refine lv_if_eq (tgt := 68) hx hb dX10_setShape_58 (by decide) (fun cc24 => ?_) (fun cc24 => ?_)
        · exact B3 ls _ _ hw (lv_sub hl [0, 1, 2] rfl)
        · refine lv_aload_n hx hb dX10_setShape_61 rfl (lv_at hl 0 rfl) ?_
          refine lv_iload_n hx hb dX10_setShape_62 rfl (lv_at hl 2 rfl) ?_
          refine jx_putg xw (g := g15) (lg := l16) (ar := a17) (bk := b18) (x := y2) 9 (ci := 13) (C := RX10) (T := TX10) (N := 10) (ty := .int) hx hb hts (fun _ h => List.mem_cons_of_mem _ (wwXc_wsX100 _ h)) tyX10 tyX10_ok nmX10 hown hw 1 rfl rfl 6 (by decide) (hq _ wX_62) rfl (by decide +kernel) rfl rfl (Nat.le_of_ble_eq_true rfl) dX10_setShape_63 rfl (fun H locs g25 h_g25 hw => ?_)
          refine lv_iconst (v := 1) hx hb dX10_setShape_66 (by decide) ?_
          have e_g25_7 : g25 7 = (g 7) := ((hk_upgN h_g25 7 rfl)).trans (h20 7 rfl)
          have e_g25_8 : g25 8 = (g 8) := ((hk_upgN h_g25 8 rfl)).trans (h20 8 rfl)
          exact kr 1 g25 l16 a17 b18 _ _ _ _ rfl ⟨(hk_frG (hk_frT hk_fr0 (by decide) h20) (by decide) h_g25), h21, h22, (ob383 ((g25 7).toInt) ((g 7).toInt) (congrArg Int32.toInt e_g25_7) hi_g7 (hE_rng (g25 7)) (hE_rng (g 7))), (ob383 ((g25 8).toInt) ((g 8).toInt) (congrArg Int32.toInt e_g25_8) hi_g8 (hE_rng (g25 8)) (hE_rng (g 8)))⟩ hw dX10_setShape_67
    refine lv_icmp_ne (tgt := 48) hx hb dX10_setShape_26 (by decide) (fun cc26 => ?_) (fun cc26 => ?_)
    · exact B2 ls _ _ hw (lv_sub hl [0, 1, 2] rfl)
    · refine lv_iload_n hx hb dX10_setShape_29 rfl (lv_at hl 2 rfl) ?_
      refine lv_iconst (v := 1) hx hb dX10_setShape_30 (by decide) ?_
      refine lv_icmp_lt (tgt := 48) hx hb dX10_setShape_31 (by decide) (fun cc27 => ?_) (fun cc27 => ?_)
      · exact B2 ls _ _ hw (lv_sub hl [0, 1, 2] rfl)
      · refine lv_iload_n hx hb dX10_setShape_34 rfl (lv_at hl 2 rfl) ?_
        refine lv_sipush (v := 1500) hx hb dX10_setShape_35 (by decide) ?_
        refine lv_icmp_gt (tgt := 48) hx hb dX10_setShape_38 (by decide) (fun cc28 => ?_) (fun cc28 => ?_)
        · exact B2 ls _ _ hw (lv_sub hl [0, 1, 2] rfl)
        · refine lv_aload_n hx hb dX10_setShape_41 rfl (lv_at hl 0 rfl) ?_
          refine lv_iload_n hx hb dX10_setShape_42 rfl (lv_at hl 2 rfl) ?_
          refine jx_putg xw (g := g) (lg := lg) (ar := ar) (bk := bk) (x := y2) 8 (ci := 13) (C := RX10) (T := TX10) (N := 10) (ty := .int) hx hb hts (fun _ h => List.mem_cons_of_mem _ (wwXc_wsX100 _ h)) tyX10 tyX10_ok nmX10 hown hw 1 rfl rfl 5 (by decide) (hq _ wX_58) rfl (by decide +kernel) rfl rfl (Nat.le_of_ble_eq_true rfl) dX10_setShape_43 rfl (fun H locs g29 h_g29 hw => ?_)
          refine lv_iconst (v := 1) hx hb dX10_setShape_46 (by decide) ?_
          have e_g29_7 : g29 7 = (g 7) := (hk_upgN h_g29 7 rfl)
          have e_g29_8 : g29 8 = y2 := (hk_upgS h_g29)
          exact kr 1 g29 lg ar bk _ _ _ _ rfl ⟨(hk_frG hk_fr0 (by decide) h_g29), hk_fr0, hk_fr0, (ob383 ((g29 7).toInt) ((g 7).toInt) (congrArg Int32.toInt e_g29_7) hi_g7 (hE_rng (g29 7)) (hE_rng (g 7))), (ob384 ((g29 8).toInt) ((y2).toInt) (((1 : Int32)).toInt) (((1500 : Int32)).toInt) (congrArg Int32.toInt e_g29_8) (hE_nlt cc27) (hE_nlt cc28) (hE_rng (g29 8)) (hE_rng (y2)) (by decide) (by decide))⟩ hw dX10_setShape_47
  refine lv_icmp_ne (tgt := 24) hx hb dX10_setShape_2 (by decide) (fun cc30 => ?_) (fun cc30 => ?_)
  · exact B1 ls _ _ hw (lv_sub hl [0, 1, 2] rfl)
  · refine lv_iload_n hx hb dX10_setShape_5 rfl (lv_at hl 2 rfl) ?_
    refine lv_iconst (v := 1) hx hb dX10_setShape_6 (by decide) ?_
    refine lv_icmp_lt (tgt := 24) hx hb dX10_setShape_7 (by decide) (fun cc31 => ?_) (fun cc31 => ?_)
    · exact B1 ls _ _ hw (lv_sub hl [0, 1, 2] rfl)
    · refine lv_iload_n hx hb dX10_setShape_10 rfl (lv_at hl 2 rfl) ?_
      refine lv_sipush (v := 1500) hx hb dX10_setShape_11 (by decide) ?_
      refine lv_icmp_gt (tgt := 24) hx hb dX10_setShape_14 (by decide) (fun cc32 => ?_) (fun cc32 => ?_)
      · exact B1 ls _ _ hw (lv_sub hl [0, 1, 2] rfl)
      · refine lv_aload_n hx hb dX10_setShape_17 rfl (lv_at hl 0 rfl) ?_
        refine lv_iload_n hx hb dX10_setShape_18 rfl (lv_at hl 2 rfl) ?_
        refine jx_putg xw (g := g) (lg := lg) (ar := ar) (bk := bk) (x := y2) 7 (ci := 13) (C := RX10) (T := TX10) (N := 10) (ty := .int) hx hb hts (fun _ h => List.mem_cons_of_mem _ (wwXc_wsX100 _ h)) tyX10 tyX10_ok nmX10 hown hw 1 rfl rfl 4 (by decide) (hq _ wX_57) rfl (by decide +kernel) rfl rfl (Nat.le_of_ble_eq_true rfl) dX10_setShape_19 rfl (fun H locs g33 h_g33 hw => ?_)
        refine lv_iconst (v := 1) hx hb dX10_setShape_22 (by decide) ?_
        have e_g33_7 : g33 7 = y2 := (hk_upgS h_g33)
        have e_g33_8 : g33 8 = (g 8) := (hk_upgN h_g33 8 rfl)
        exact kr 1 g33 lg ar bk _ _ _ _ rfl ⟨(hk_frG hk_fr0 (by decide) h_g33), hk_fr0, hk_fr0, (ob384 ((g33 7).toInt) ((y2).toInt) (((1 : Int32)).toInt) (((1500 : Int32)).toInt) (congrArg Int32.toInt e_g33_7) (hE_nlt cc31) (hE_nlt cc32) (hE_rng (g33 7)) (hE_rng (y2)) (by decide) (by decide)), (ob383 ((g33 8).toInt) ((g 8).toInt) (congrArg Int32.toInt e_g33_8) hi_g8 (hE_rng (g33 8)) (hE_rng (g 8)))⟩ hw dX10_setShape_23

set_option maxHeartbeats 4000000 in
set_option maxRecDepth 100000 in
/-- X11_property on (0,) -/
theorem jx_X11_property (l : Launch) (hlt : l.stackTraces = false) (D : va_G) (t3 : Nat × Nat × Nat) (cI cJ : ClassId) (ad : Nat → Nat) (g : Nat → Int32) (lg : Nat → Int64) (ar : Nat → Nat → Int32) (bk : Nat → Int64) (sz : Nat) (y1 : Int32) (y2 : Int32) (hi_g3 : 0 ≤ (g 3).toInt ∧ (g 3).toInt ≤ 4) (hi_g4 : 0 ≤ (g 4).toInt ∧ (g 4).toInt ≤ 4) (hi_g7 : 1 ≤ (g 7).toInt ∧ (g 7).toInt ≤ 1500) (hi_g8 : 1 ≤ (g 8).toInt ∧ (g 8).toInt ≤ 1500) : JMi l yX11_property (Cond.code yX11_property cX11_property 4 (some .int) :: wwX) { frames := 2, cells := 1, slots := 6, locals := 42 } t3 D xw cI cJ ad [.ref (ad 0), .int y1, .int y2] (xw cI cJ ad g lg ar bk) sz 1 6 (fun (r : Int32) g' lg' ar' bk' => hk_fr [3, 4, 5, 6, 7, 8, 9, 10] g g' ∧ hk_fr [] lg lg' ∧ hk_fr [] ar ar' ∧ (0 ≤ (g' 3).toInt ∧ (g' 3).toInt ≤ 4) ∧ (0 ≤ (g' 4).toInt ∧ (g' 4).toInt ≤ 4) ∧ (1 ≤ (g' 7).toInt ∧ (g' 7).toInt ≤ 1500) ∧ (1 ≤ (g' 8).toInt ∧ (g' 8).toInt ≤ 1500)) (fun g' lg' ar' bk' => False) := by
  refine jx_meti (cc := cX11_property) (maxL := 4) (ret := (some .int)) rfl (by decide) rfl (Nat.le_of_ble_eq_true rfl) ?_
  intro p e s m args below meth c ls Q A hx hb hml hown hts hA hZ hw hl hQ kr kt
  have hq : ∀ w ∈ wwX, w.before args s = true := fun w h => hts w (List.mem_cons_of_mem _ h)
  have hl : lv_has ls 4 [(0, .ref (ad 0)), (1, .int y1), (2, .int y2)] := hl
  refine lv_iload_n hx hb dX11_property_0 rfl (lv_at hl 1 rfl) ?_
  refine lv_iconst (v := 4) hx hb dX11_property_1 (by decide) ?_
  have B1 : ∀  (x2 : Int32) (g3 : Nat → Int32) (ls : Array Slot) (H : Heap) (locs : List Loc), 0 ≤ (g3 3).toInt ∧ (g3 3).toInt ≤ 4 → 0 ≤ (g3 4).toInt ∧ (g3 4).toInt ≤ 4 → 1 ≤ (g3 7).toInt ∧ (g3 7).toInt ≤ 1500 → 1 ≤ (g3 8).toInt ∧ (g3 8).toInt ≤ 1500 → hk_fr [3, 4, 5, 6, 7, 8, 9, 10] g g3 → hk_W D (jT cI cJ) A s H locs (xw cI cJ ad g3 lg ar bk) → lv_has ls 4 [] → W p l e { frames := 2, cells := 1, slots := 6, locals := 42 } s m args below meth c H locs 0 0 Q (F0 m 39 ls [.int x2]) := by
    intro x2 g3 ls H locs hf_B1_0 hf_B1_1 hf_B1_2 hf_B1_3 hfr_g3 hw hl
    refine lv_istore_n (lv' := [(3, .int x2)]) hx hb dX11_property_39 rfl hl (by decide) rfl (fun ls hl => ?_)
    refine lv_iload_n hx hb dX11_property_40 rfl (lv_at hl 0 rfl) ?_
    refine lv_if_eq (tgt := 48) hx hb dX11_property_41 (by decide) (fun cc4 => ?_) (fun cc4 => ?_)
    · refine lv_iconst (v := 0) hx hb dX11_property_48 (by decide) ?_
      exact kr 0 g3 lg ar bk _ _ _ _ ⟨hfr_g3, hk_fr0, hk_fr0, (ob256 ((g3 3).toInt) hf_B1_0 (hE_rng (g3 3))), (ob256 ((g3 4).toInt) hf_B1_1 (hE_rng (g3 4))), (ob382 ((g3 7).toInt) hf_B1_2 (hE_rng (g3 7))), (ob382 ((g3 8).toInt) hf_B1_3 (hE_rng (g3 8)))⟩ hw dX11_property_49
    · refine lv_iconst (v := 1) hx hb dX11_property_44 (by decide) ?_
      refine lv_goto (tgt := 49) hx hb dX11_property_45 (by decide) ?_
      exact kr 1 g3 lg ar bk _ _ _ _ ⟨hfr_g3, hk_fr0, hk_fr0, (ob256 ((g3 3).toInt) hf_B1_0 (hE_rng (g3 3))), (ob256 ((g3 4).toInt) hf_B1_1 (hE_rng (g3 4))), (ob382 ((g3 7).toInt) hf_B1_2 (hE_rng (g3 7))), (ob382 ((g3 8).toInt) hf_B1_3 (hE_rng (g3 8)))⟩ hw dX11_property_49
  refine lv_icmp_ge (tgt := 30) hx hb dX11_property_2 (by decide) (fun cc5 => ?_) (fun cc5 => ?_)
  · refine lv_aload_n hx hb dX11_property_30 rfl (lv_at hl 0 rfl) ?_
    refine hk_get (ci := 14) (C := RX11) (T := TX11) (N := 11) (v := .ref (ad 1)) hx hb hts (fun _ h => List.mem_cons_of_mem _ (wwXc_wsX110 _ h)) hown hw 0 rfl rfl 1 (by decide) (hq _ wX_88) rfl dX11_property_31 ?_
    refine lv_iload_n hx hb dX11_property_34 rfl (lv_at hl 1 rfl) ?_
    refine lv_iload_n hx hb dX11_property_35 rfl (lv_at hl 2 rfl) ?_
    refine jx_Vi (As := [.int y1, .int y2]) (rest := []) ⟨hx, hb, hml, hown, hts⟩ hZ hw hA (jx_X10_setShape l hlt D t3 cI cJ ad g lg ar bk _ y1 y2 (ob382 ((g 7).toInt) hi_g7 (hE_rng (g 7))) (ob382 ((g 8).toInt) hi_g8 (hE_rng (g 8)))) (cwV 2 hts (jx_gV wwX_good wX_173 wX_174 wX_175 wX_92 wX_176) rfl rfl rfl (by decide +kernel) ⟨Nat.le_of_ble_eq_true rfl, Nat.le_of_ble_eq_true rfl⟩) 1 (ci := 13) (T := TX10) (N := 10) rfl rfl rfl hl.1 rfl (Nat.le_of_ble_eq_true rfl) dX11_property_36 ⟨Nat.le_of_ble_eq_true rfl, Nat.le_of_ble_eq_true rfl⟩ (fun _ _ _ _ _ _ _ _ hp _ _ _ _ => hp.elim) (fun r10 g11 l12 a13 b14 H locs hp15 hw => ?_)
    obtain ⟨h16, h17, h18, h19, h20⟩ := hp15
    have e_g11_3 : g11 3 = (g 3) := (h16 3 rfl)
    have e_g11_4 : g11 4 = (g 4) := (h16 4 rfl)
    exact B1 r10 g11 ls _ _ (ob61 ((g11 3).toInt) ((g 3).toInt) (congrArg Int32.toInt e_g11_3) hi_g3 (hE_rng (g11 3)) (hE_rng (g 3))) (ob61 ((g11 4).toInt) ((g 4).toInt) (congrArg Int32.toInt e_g11_4) hi_g4 (hE_rng (g11 4)) (hE_rng (g 4))) (ob382 ((g11 7).toInt) h19 (hE_rng (g11 7))) (ob382 ((g11 8).toInt) h20 (hE_rng (g11 8))) (hk_frT hk_fr0 (by decide) h16) hw (lv_sub hl [] rfl)
  · refine lv_aload_n hx hb dX11_property_5 rfl (lv_at hl 0 rfl) ?_
    refine hk_get (ci := 14) (C := RX11) (T := TX11) (N := 11) (v := .ref (ad 1)) hx hb hts (fun _ h => List.mem_cons_of_mem _ (wwXc_wsX110 _ h)) hown hw 0 rfl rfl 1 (by decide) (hq _ wX_88) rfl dX11_property_6 ?_
    refine lv_iload_n hx hb dX11_property_9 rfl (lv_at hl 1 rfl) ?_
    refine lv_iload_n hx hb dX11_property_10 rfl (lv_at hl 2 rfl) ?_
    refine lv_aload_n hx hb dX11_property_11 rfl (lv_at hl 0 rfl) ?_
    refine hk_get (ci := 14) (C := RX11) (T := TX11) (N := 11) (v := .int (g 0)) hx hb hts (fun _ h => List.mem_cons_of_mem _ (wwXc_wsX110 _ h)) hown hw 0 rfl rfl 0 (by decide) (hq _ wX_98) rfl dX11_property_12 ?_
    refine lv_iconst (v := 2) hx hb dX11_property_15 (by decide) ?_
    have B21 : ∀  (x22 : Int32) (ls : Array Slot) (H : Heap) (locs : List Loc), 0 ≤ (x22).toInt ∧ (x22).toInt ≤ 1 → hk_W D (jT cI cJ) A s H locs (xw cI cJ ad g lg ar bk) → lv_has ls 4 [] → W p l e { frames := 2, cells := 1, slots := 6, locals := 42 } s m args below meth c H locs 0 0 Q (F0 m 24 ls [.int x22, .int y2, .int y1, .ref (ad 1)]) := by
      intro x22 ls H locs hf_B21_0 hw hl
      refine jx_Vi (As := [.int y1, .int y2, .int x22]) (rest := []) ⟨hx, hb, hml, hown, hts⟩ hZ hw hA (jx_X10_setCoding l hlt D t3 cI cJ ad g lg ar bk _ y1 y2 x22 (ob256 ((g 3).toInt) hi_g3 (hE_rng (g 3))) (ob256 ((g 4).toInt) hi_g4 (hE_rng (g 4)))) (cwV 3 hts (jx_gV wwX_good wX_169 wX_170 wX_171 wX_92 wX_172) rfl rfl rfl (by decide +kernel) ⟨Nat.le_of_ble_eq_true rfl, Nat.le_of_ble_eq_true rfl⟩) 1 (ci := 13) (T := TX10) (N := 10) rfl rfl rfl hl.1 rfl (Nat.le_of_ble_eq_true rfl) dX11_property_24 ⟨Nat.le_of_ble_eq_true rfl, Nat.le_of_ble_eq_true rfl⟩ (fun _ _ _ _ _ _ _ _ hp _ _ _ _ => hp.elim) (fun r27 g28 l29 a30 b31 H locs hp32 hw => ?_)
      obtain ⟨h33, h34, h35, h36, h37⟩ := hp32
      refine lv_goto (tgt := 39) hx hb dX11_property_27 (by decide) ?_
      have e_g28_7 : g28 7 = (g 7) := (h33 7 rfl)
      have e_g28_8 : g28 8 = (g 8) := (h33 8 rfl)
      exact B1 r27 g28 ls _ _ (ob256 ((g28 3).toInt) h36 (hE_rng (g28 3))) (ob256 ((g28 4).toInt) h37 (hE_rng (g28 4))) (ob383 ((g28 7).toInt) ((g 7).toInt) (congrArg Int32.toInt e_g28_7) hi_g7 (hE_rng (g28 7)) (hE_rng (g 7))) (ob383 ((g28 8).toInt) ((g 8).toInt) (congrArg Int32.toInt e_g28_8) hi_g8 (hE_rng (g28 8)) (hE_rng (g 8))) (hk_frT hk_fr0 (by decide) h33) hw (lv_sub hl [] rfl)
    refine lv_icmp_ne (tgt := 23) hx hb dX11_property_16 (by decide) (fun cc38 => ?_) (fun cc38 => ?_)
    · refine lv_iconst (v := 0) hx hb dX11_property_23 (by decide) ?_
      exact B21 0 ls _ _ (ob36 (((0 : Int32)).toInt) (by decide)) hw (lv_sub hl [] rfl)
    · refine lv_iconst (v := 1) hx hb dX11_property_19 (by decide) ?_
      refine lv_goto (tgt := 24) hx hb dX11_property_20 (by decide) ?_
      exact B21 1 ls _ _ (ob37 (((1 : Int32)).toInt) (by decide)) hw (lv_sub hl [] rfl)

set_option maxHeartbeats 4000000 in
set_option maxRecDepth 100000 in
/-- X10_setFilter on (1,) -/
theorem jx_X10_setFilter (l : Launch) (hlt : l.stackTraces = false) (D : va_G) (t3 : Nat × Nat × Nat) (cI cJ : ClassId) (ad : Nat → Nat) (g : Nat → Int32) (lg : Nat → Int64) (ar : Nat → Nat → Int32) (bk : Nat → Int64) (sz : Nat) (y1 : Int32) (y2 : Int32) : JMi l yX10_setFilter (Cond.code yX10_setFilter cX10_setFilter 3 (some .boolean) :: wwX) { frames := 0, cells := 1, slots := 6, locals := 0 } t3 D xw cI cJ ad [.ref (ad 1), .int y1, .int y2] (xw cI cJ ad g lg ar bk) sz 1 6 (fun (r : Int32) g' lg' ar' bk' => hk_fr [11, 12] g g' ∧ hk_fr [] lg lg' ∧ hk_fr [] ar ar') (fun g' lg' ar' bk' => False) := by
  refine jx_metz (cc := cX10_setFilter) (maxL := 3) (ret := (some .boolean)) rfl (by decide) rfl (Nat.le_of_ble_eq_true rfl) ?_
  intro p e s m args below meth c ls Q A hx hb hml hown hts hA hZ hw hl hQ kr kt
  have hq : ∀ w ∈ wwX, w.before args s = true := fun w h => hts w (List.mem_cons_of_mem _ h)
  have hl : lv_has ls 3 [(0, .ref (ad 1)), (1, .int y1), (2, .int y2)] := hl
  refine lv_iload_n hx hb dX10_setFilter_0 rfl (lv_at hl 1 rfl) ?_
  have B1 : ∀  (ls : Array Slot) (H : Heap) (locs : List Loc), hk_W D (jT cI cJ) A s H locs (xw cI cJ ad g lg ar bk) → lv_has ls 3 [(0, .ref (ad 1)), (1, .int y1), (2, .int y2)] → W p l e { frames := 0, cells := 1, slots := 6, locals := 0 } s m args below meth c H locs 0 0 Q (F0 m 22 ls []) := by
    intro ls H locs hw hl
    refine lv_iload_n hx hb dX10_setFilter_22 rfl (lv_at hl 1 rfl) ?_
    refine lv_iconst (v := 1) hx hb dX10_setFilter_23 (by decide) ?_
    refine lv_icmp_ne (tgt := 43) hx hb dX10_setFilter_24 (by decide) (fun cc2 => ?_) (fun cc2 => ?_)
    · refine lv_iconst (v := 0) hx hb dX10_setFilter_43 (by decide) ?_
      exact kr 0 g lg ar bk _ _ _ _ rfl ⟨hk_fr0, hk_fr0, hk_fr0⟩ hw dX10_setFilter_44
    · refine lv_iload_n hx hb dX10_setFilter_27 rfl (lv_at hl 2 rfl) ?_
      have B3 : ∀  (ls : Array Slot) (H : Heap) (locs : List Loc), hk_W D (jT cI cJ) A s H locs (xw cI cJ ad g lg ar bk) → lv_has ls 3 [(0, .ref (ad 1)), (2, .int y2)] → W p l e { frames := 0, cells := 1, slots := 6, locals := 0 } s m args below meth c H locs 0 0 Q (F0 m 36 ls []) := by
        intro ls H locs hw hl
        refine lv_aload_n hx hb dX10_setFilter_36 rfl (lv_at hl 0 rfl) ?_
        refine lv_iload_n hx hb dX10_setFilter_37 rfl (lv_at hl 1 rfl) ?_
        refine jx_putg xw (g := g) (lg := lg) (ar := ar) (bk := bk) (x := y2) 12 (ci := 13) (C := RX10) (T := TX10) (N := 10) (ty := .int) hx hb hts (fun _ h => List.mem_cons_of_mem _ (wwXc_wsX100 _ h)) tyX10 tyX10_ok nmX10 hown hw 1 rfl rfl 9 (by decide) (hq _ wX_56) rfl (by decide +kernel) rfl rfl (Nat.le_of_ble_eq_true rfl) dX10_setFilter_38 rfl (fun H locs g4 h_g4 hw => ?_)
        refine lv_iconst (v := 1) hx hb dX10_setFilter_41 (by decide) ?_
        exact kr 1 g4 lg ar bk _ _ _ _ rfl ⟨(hk_frG hk_fr0 (by decide) h_g4), hk_fr0, hk_fr0⟩ hw dX10_setFilter_42
      refine lv_if_eq (tgt := 36) hx hb dX10_setFilter_28 (by decide) (fun cc5 => ?_) (fun cc5 => ?_)
      · exact B3 ls _ _ hw (lv_sub hl [0, 2] rfl)
      · refine lv_iload_n hx hb dX10_setFilter_31 rfl (lv_at hl 2 rfl) ?_
        refine lv_iconst (v := 1) hx hb dX10_setFilter_32 (by decide) ?_
        refine lv_icmp_ne (tgt := 43) hx hb dX10_setFilter_33 (by decide) (fun cc6 => ?_) (fun cc6 => ?_)
        · refine lv_iconst (v := 0) hx hb dX10_setFilter_43 (by decide) ?_
          exact kr 0 g lg ar bk _ _ _ _ rfl ⟨hk_fr0, hk_fr0, hk_fr0⟩ hw dX10_setFilter_44
        · exact B3 ls _ _ hw (lv_sub hl [0, 2] rfl)
  refine lv_if_ne (tgt := 22) hx hb dX10_setFilter_1 (by decide) (fun cc7 => ?_) (fun cc7 => ?_)
  · exact B1 ls _ _ hw (lv_sub hl [0, 1, 2] rfl)
  · refine lv_iload_n hx hb dX10_setFilter_4 rfl (lv_at hl 2 rfl) ?_
    refine lv_if_lt (tgt := 22) hx hb dX10_setFilter_5 (by decide) (fun cc8 => ?_) (fun cc8 => ?_)
    · exact B1 ls _ _ hw (lv_sub hl [0, 1, 2] rfl)
    · refine lv_iload_n hx hb dX10_setFilter_8 rfl (lv_at hl 2 rfl) ?_
      refine lv_sipush (v := 256) hx hb dX10_setFilter_9 (by decide) ?_
      refine lv_icmp_gt (tgt := 22) hx hb dX10_setFilter_12 (by decide) (fun cc9 => ?_) (fun cc9 => ?_)
      · exact B1 ls _ _ hw (lv_sub hl [0, 1, 2] rfl)
      · refine lv_aload_n hx hb dX10_setFilter_15 rfl (lv_at hl 0 rfl) ?_
        refine lv_iload_n hx hb dX10_setFilter_16 rfl (lv_at hl 2 rfl) ?_
        refine jx_putg xw (g := g) (lg := lg) (ar := ar) (bk := bk) (x := y2) 11 (ci := 13) (C := RX10) (T := TX10) (N := 10) (ty := .int) hx hb hts (fun _ h => List.mem_cons_of_mem _ (wwXc_wsX100 _ h)) tyX10 tyX10_ok nmX10 hown hw 1 rfl rfl 8 (by decide) (hq _ wX_55) rfl (by decide +kernel) rfl rfl (Nat.le_of_ble_eq_true rfl) dX10_setFilter_17 rfl (fun H locs g10 h_g10 hw => ?_)
        refine lv_iconst (v := 1) hx hb dX10_setFilter_20 (by decide) ?_
        exact kr 1 g10 lg ar bk _ _ _ _ rfl ⟨(hk_frG hk_fr0 (by decide) h_g10), hk_fr0, hk_fr0⟩ hw dX10_setFilter_21

set_option maxHeartbeats 4000000 in
set_option maxRecDepth 100000 in
/-- X11_filter on (0,) -/
theorem jx_X11_filter (l : Launch) (hlt : l.stackTraces = false) (D : va_G) (t3 : Nat × Nat × Nat) (cI cJ : ClassId) (ad : Nat → Nat) (g : Nat → Int32) (lg : Nat → Int64) (ar : Nat → Nat → Int32) (bk : Nat → Int64) (sz : Nat) (y1 : Int32) (y2 : Int32) : JMi l yX11_filter (Cond.code yX11_filter cX11_filter 3 (some .int) :: wwX) { frames := 1, cells := 1, slots := 6, locals := 22 } t3 D xw cI cJ ad [.ref (ad 0), .int y1, .int y2] (xw cI cJ ad g lg ar bk) sz 1 6 (fun (r : Int32) g' lg' ar' bk' => hk_fr [11, 12] g g' ∧ hk_fr [] lg lg' ∧ hk_fr [] ar ar') (fun g' lg' ar' bk' => False) := by
  refine jx_meti (cc := cX11_filter) (maxL := 3) (ret := (some .int)) rfl (by decide) rfl (Nat.le_of_ble_eq_true rfl) ?_
  intro p e s m args below meth c ls Q A hx hb hml hown hts hA hZ hw hl hQ kr kt
  have hq : ∀ w ∈ wwX, w.before args s = true := fun w h => hts w (List.mem_cons_of_mem _ h)
  have hl : lv_has ls 3 [(0, .ref (ad 0)), (1, .int y1), (2, .int y2)] := hl
  refine lv_aload_n hx hb dX11_filter_0 rfl (lv_at hl 0 rfl) ?_
  refine hk_get (ci := 14) (C := RX11) (T := TX11) (N := 11) (v := .ref (ad 1)) hx hb hts (fun _ h => List.mem_cons_of_mem _ (wwXc_wsX110 _ h)) hown hw 0 rfl rfl 1 (by decide) (hq _ wX_88) rfl dX11_filter_1 ?_
  refine lv_iload_n hx hb dX11_filter_4 rfl (lv_at hl 1 rfl) ?_
  refine lv_iload_n hx hb dX11_filter_5 rfl (lv_at hl 2 rfl) ?_
  refine jx_Vi (As := [.int y1, .int y2]) (rest := []) ⟨hx, hb, hml, hown, hts⟩ hZ hw hA (jx_X10_setFilter l hlt D t3 cI cJ ad g lg ar bk _ y1 y2) (cwV 2 hts (jx_gV wwX_good wX_89 wX_90 wX_91 wX_92 wX_93) rfl rfl rfl (by decide +kernel) ⟨Nat.le_of_ble_eq_true rfl, Nat.le_of_ble_eq_true rfl⟩) 1 (ci := 13) (T := TX10) (N := 10) rfl rfl rfl hl.1 rfl (Nat.le_of_ble_eq_true rfl) dX11_filter_6 ⟨Nat.le_of_ble_eq_true rfl, Nat.le_of_ble_eq_true rfl⟩ (fun _ _ _ _ _ _ _ _ hp _ _ _ _ => hp.elim) (fun r5 g6 l7 a8 b9 H locs hp10 hw => ?_)
  obtain ⟨h11, h12, h13⟩ := hp10
  refine lv_if_eq (tgt := 16) hx hb dX11_filter_9 (by decide) (fun cc14 => ?_) (fun cc14 => ?_)
  · refine lv_iconst (v := 0) hx hb dX11_filter_16 (by decide) ?_
    exact kr 0 g6 l7 a8 b9 _ _ _ _ ⟨h11, h12, h13⟩ hw dX11_filter_17
  · refine lv_iconst (v := 1) hx hb dX11_filter_12 (by decide) ?_
    refine lv_goto (tgt := 17) hx hb dX11_filter_13 (by decide) ?_
    exact kr 1 g6 l7 a8 b9 _ _ _ _ ⟨h11, h12, h13⟩ hw dX11_filter_17

set_option maxHeartbeats 4000000 in
set_option maxRecDepth 100000 in
/-- X11_feed on (0,) -/
theorem jx_X11_feed (l : Launch) (hlt : l.stackTraces = false) (D : va_G) (t3 : Nat × Nat × Nat) (cI cJ : ClassId) (ad : Nat → Nat) (g : Nat → Int32) (lg : Nat → Int64) (ar : Nat → Nat → Int32) (bk : Nat → Int64) (sz : Nat) (y1 : Int32) (y2 : Int32) (y3 : Int32) (y4 : Int32) (y5 : Int32) (hi_g13 : 0 ≤ (g 13).toInt ∧ (g 13).toInt ≤ 1500) (hi_a0rg : hk_rg 0 255 (ar 0)) : JMi l yX11_feed (Cond.code yX11_feed cX11_feed 6 (some .int) :: wwX) { frames := 3, cells := 1, slots := 6, locals := 67 } t3 D xw cI cJ ad [.ref (ad 0), .int y1, .int y2, .int y3, .int y4, .int y5] (xw cI cJ ad g lg ar bk) sz 1 6 (fun (r : Int32) g' lg' ar' bk' => hk_fr [13] g g' ∧ hk_fr [] lg lg' ∧ hk_fr [0] ar ar' ∧ (0 ≤ (g' 13).toInt ∧ (g' 13).toInt ≤ 1500) ∧ hk_rg 0 255 (ar' 0)) (fun g' lg' ar' bk' => False) := by
  refine jx_meti (cc := cX11_feed) (maxL := 6) (ret := (some .int)) rfl (by decide) rfl (Nat.le_of_ble_eq_true rfl) ?_
  intro p e s m args below meth c ls Q A hx hb hml hown hts hA hZ hw hl hQ kr kt
  have hq : ∀ w ∈ wwX, w.before args s = true := fun w h => hts w (List.mem_cons_of_mem _ h)
  have hl : lv_has ls 6 [(0, .ref (ad 0)), (1, .int y1), (2, .int y2), (3, .int y3), (4, .int y4), (5, .int y5)] := hl
  refine lv_aload_n hx hb dX11_feed_0 rfl (lv_at hl 0 rfl) ?_
  refine hk_get (ci := 14) (C := RX11) (T := TX11) (N := 11) (v := .ref (ad 2)) hx hb hts (fun _ h => List.mem_cons_of_mem _ (wwXc_wsX110 _ h)) hown hw 0 rfl rfl 2 (by decide) (hq _ wX_83) rfl dX11_feed_1 ?_
  refine hk_get (ci := 12) (C := RX9) (T := TX9) (N := 2) (v := .int (g 13)) hx hb hts (fun _ h => List.mem_cons_of_mem _ (wwXc_wsX90 _ h)) hown hw 2 rfl rfl 1 (by decide) (hq _ wX_77) rfl dX11_feed_4 ?_
  refine lv_sipush (v := 1480) hx hb dX11_feed_7 (by decide) ?_
  refine lv_icmp_le (tgt := 16) hx hb dX11_feed_10 (by decide) (fun cc1 => ?_) (fun cc1 => ?_)
  · refine lv_aload_n hx hb dX11_feed_16 rfl (lv_at hl 0 rfl) ?_
    refine hk_get (ci := 14) (C := RX11) (T := TX11) (N := 11) (v := .ref (ad 2)) hx hb hts (fun _ h => List.mem_cons_of_mem _ (wwXc_wsX110 _ h)) hown hw 0 rfl rfl 2 (by decide) (hq _ wX_83) rfl dX11_feed_17 ?_
    refine lv_iload_n hx hb dX11_feed_20 rfl (lv_at hl 1 rfl) ?_
    refine lv_i2l hx hb dX11_feed_21 rfl (jx_nl fun z2 hz2 => ?_)
    refine lv_iconst (v := 4) hx hb dX11_feed_22 (by decide) ?_
    refine jx_Vv (As := [.long z2, .int 4]) (rest := []) ⟨hx, hb, hml, hown, hts⟩ hZ hw hA (jx_X9_putHigh_2 l hlt D t3 cI cJ ad g lg ar bk _ z2 4 (ob385 (((4 : Int32)).toInt) (by decide)) hi_a0rg) (cwV 2 hts (jx_gV wwX_good wX_84 wX_85 wX_86 wX_24 wX_87) rfl rfl rfl (by decide +kernel) ⟨Nat.le_of_ble_eq_true rfl, Nat.le_of_ble_eq_true rfl⟩) 2 (ci := 12) (T := TX9) (N := 2) rfl rfl rfl hl.1 rfl (Nat.le_of_ble_eq_true rfl) dX11_feed_23 ⟨Nat.le_of_ble_eq_true rfl, Nat.le_of_ble_eq_true rfl⟩ (fun _ _ _ _ _ _ _ _ hp _ _ _ _ => hp.elim) (fun g8 l9 a10 b11 H locs hp12 hw => ?_)
    obtain ⟨h13, h14, h15, h16, h17⟩ := hp12
    refine lv_aload_n hx hb dX11_feed_26 rfl (lv_at hl 0 rfl) ?_
    refine hk_get (ci := 14) (C := RX11) (T := TX11) (N := 11) (v := .ref (ad 2)) hx hb hts (fun _ h => List.mem_cons_of_mem _ (wwXc_wsX110 _ h)) hown hw 0 rfl rfl 2 (by decide) (hq _ wX_83) rfl dX11_feed_27 ?_
    refine lv_iload_n hx hb dX11_feed_30 rfl (lv_at hl 2 rfl) ?_
    refine lv_i2l hx hb dX11_feed_31 rfl (jx_nl fun z18 hz18 => ?_)
    refine lv_iconst (v := 4) hx hb dX11_feed_32 (by decide) ?_
    refine jx_Vv (As := [.long z18, .int 4]) (rest := []) ⟨hx, hb, hml, hown, hts⟩ hZ hw hA (jx_X9_putHigh_2 l hlt D t3 cI cJ ad g8 l9 a10 b11 _ z18 4 (ob386 (((4 : Int32)).toInt) ((g8 13).toInt) ((g 13).toInt) (((1480 : Int32)).toInt) h16 hi_g13 (hE_le cc1) (by decide) (hE_rng (g8 13)) (hE_rng (g 13)) (by decide)) h17) (cwV 2 hts (jx_gV wwX_good wX_84 wX_85 wX_86 wX_24 wX_87) rfl rfl rfl (by decide +kernel) ⟨Nat.le_of_ble_eq_true rfl, Nat.le_of_ble_eq_true rfl⟩) 2 (ci := 12) (T := TX9) (N := 2) rfl rfl rfl hl.1 rfl (Nat.le_of_ble_eq_true rfl) dX11_feed_33 ⟨Nat.le_of_ble_eq_true rfl, Nat.le_of_ble_eq_true rfl⟩ (fun _ _ _ _ _ _ _ _ hp _ _ _ _ => hp.elim) (fun g24 l25 a26 b27 H locs hp28 hw => ?_)
    obtain ⟨h29, h30, h31, h32, h33⟩ := hp28
    refine lv_aload_n hx hb dX11_feed_36 rfl (lv_at hl 0 rfl) ?_
    refine hk_get (ci := 14) (C := RX11) (T := TX11) (N := 11) (v := .ref (ad 2)) hx hb hts (fun _ h => List.mem_cons_of_mem _ (wwXc_wsX110 _ h)) hown hw 0 rfl rfl 2 (by decide) (hq _ wX_83) rfl dX11_feed_37 ?_
    refine lv_iload_n hx hb dX11_feed_40 rfl (lv_at hl 3 rfl) ?_
    refine lv_i2l hx hb dX11_feed_41 rfl (jx_nl fun z34 hz34 => ?_)
    refine lv_iconst (v := 4) hx hb dX11_feed_42 (by decide) ?_
    refine jx_Vv (As := [.long z34, .int 4]) (rest := []) ⟨hx, hb, hml, hown, hts⟩ hZ hw hA (jx_X9_putHigh_2 l hlt D t3 cI cJ ad g24 l25 a26 b27 _ z34 4 (ob387 (((4 : Int32)).toInt) ((g8 13).toInt) ((g 13).toInt) ((g24 13).toInt) (((1480 : Int32)).toInt) h16 h32 hi_g13 (hE_le cc1) (by decide) (hE_rng (g8 13)) (hE_rng (g 13)) (hE_rng (g24 13)) (by decide)) h33) (cwV 2 hts (jx_gV wwX_good wX_84 wX_85 wX_86 wX_24 wX_87) rfl rfl rfl (by decide +kernel) ⟨Nat.le_of_ble_eq_true rfl, Nat.le_of_ble_eq_true rfl⟩) 2 (ci := 12) (T := TX9) (N := 2) rfl rfl rfl hl.1 rfl (Nat.le_of_ble_eq_true rfl) dX11_feed_43 ⟨Nat.le_of_ble_eq_true rfl, Nat.le_of_ble_eq_true rfl⟩ (fun _ _ _ _ _ _ _ _ hp _ _ _ _ => hp.elim) (fun g40 l41 a42 b43 H locs hp44 hw => ?_)
    obtain ⟨h45, h46, h47, h48, h49⟩ := hp44
    refine lv_aload_n hx hb dX11_feed_46 rfl (lv_at hl 0 rfl) ?_
    refine hk_get (ci := 14) (C := RX11) (T := TX11) (N := 11) (v := .ref (ad 2)) hx hb hts (fun _ h => List.mem_cons_of_mem _ (wwXc_wsX110 _ h)) hown hw 0 rfl rfl 2 (by decide) (hq _ wX_83) rfl dX11_feed_47 ?_
    refine lv_iload hx hb dX11_feed_50 (lv_at hl 4 rfl) ?_
    refine lv_i2l hx hb dX11_feed_52 rfl (jx_nl fun z50 hz50 => ?_)
    refine lv_iconst (v := 4) hx hb dX11_feed_53 (by decide) ?_
    refine jx_Vv (As := [.long z50, .int 4]) (rest := []) ⟨hx, hb, hml, hown, hts⟩ hZ hw hA (jx_X9_putHigh_2 l hlt D t3 cI cJ ad g40 l41 a42 b43 _ z50 4 (ob388 (((4 : Int32)).toInt) ((g8 13).toInt) ((g 13).toInt) ((g24 13).toInt) ((g40 13).toInt) (((1480 : Int32)).toInt) h16 h32 h48 hi_g13 (hE_le cc1) (by decide) (hE_rng (g8 13)) (hE_rng (g 13)) (hE_rng (g24 13)) (hE_rng (g40 13)) (by decide)) h49) (cwV 2 hts (jx_gV wwX_good wX_84 wX_85 wX_86 wX_24 wX_87) rfl rfl rfl (by decide +kernel) ⟨Nat.le_of_ble_eq_true rfl, Nat.le_of_ble_eq_true rfl⟩) 2 (ci := 12) (T := TX9) (N := 2) rfl rfl rfl hl.1 rfl (Nat.le_of_ble_eq_true rfl) dX11_feed_54 ⟨Nat.le_of_ble_eq_true rfl, Nat.le_of_ble_eq_true rfl⟩ (fun _ _ _ _ _ _ _ _ hp _ _ _ _ => hp.elim) (fun g56 l57 a58 b59 H locs hp60 hw => ?_)
    obtain ⟨h61, h62, h63, h64, h65⟩ := hp60
    refine lv_aload_n hx hb dX11_feed_57 rfl (lv_at hl 0 rfl) ?_
    refine hk_get (ci := 14) (C := RX11) (T := TX11) (N := 11) (v := .ref (ad 2)) hx hb hts (fun _ h => List.mem_cons_of_mem _ (wwXc_wsX110 _ h)) hown hw 0 rfl rfl 2 (by decide) (hq _ wX_83) rfl dX11_feed_58 ?_
    refine lv_iload hx hb dX11_feed_61 (lv_at hl 5 rfl) ?_
    refine lv_i2l hx hb dX11_feed_63 rfl (jx_nl fun z66 hz66 => ?_)
    refine lv_iconst (v := 4) hx hb dX11_feed_64 (by decide) ?_
    refine jx_Vv (As := [.long z66, .int 4]) (rest := []) ⟨hx, hb, hml, hown, hts⟩ hZ hw hA (jx_X9_putHigh_2 l hlt D t3 cI cJ ad g56 l57 a58 b59 _ z66 4 (ob389 (((4 : Int32)).toInt) ((g8 13).toInt) ((g 13).toInt) ((g24 13).toInt) ((g40 13).toInt) ((g56 13).toInt) (((1480 : Int32)).toInt) h16 h32 h48 h64 hi_g13 (hE_le cc1) (by decide) (hE_rng (g8 13)) (hE_rng (g 13)) (hE_rng (g24 13)) (hE_rng (g40 13)) (hE_rng (g56 13)) (by decide)) h65) (cwV 2 hts (jx_gV wwX_good wX_84 wX_85 wX_86 wX_24 wX_87) rfl rfl rfl (by decide +kernel) ⟨Nat.le_of_ble_eq_true rfl, Nat.le_of_ble_eq_true rfl⟩) 2 (ci := 12) (T := TX9) (N := 2) rfl rfl rfl hl.1 rfl (Nat.le_of_ble_eq_true rfl) dX11_feed_65 ⟨Nat.le_of_ble_eq_true rfl, Nat.le_of_ble_eq_true rfl⟩ (fun _ _ _ _ _ _ _ _ hp _ _ _ _ => hp.elim) (fun g72 l73 a74 b75 H locs hp76 hw => ?_)
    obtain ⟨h77, h78, h79, h80, h81⟩ := hp76
    refine lv_aload_n hx hb dX11_feed_68 rfl (lv_at hl 0 rfl) ?_
    refine hk_get (ci := 14) (C := RX11) (T := TX11) (N := 11) (v := .ref (ad 2)) hx hb hts (fun _ h => List.mem_cons_of_mem _ (wwXc_wsX110 _ h)) hown hw 0 rfl rfl 2 (by decide) (hq _ wX_83) rfl dX11_feed_69 ?_
    refine hk_get (ci := 12) (C := RX9) (T := TX9) (N := 2) (v := .int (g72 13)) hx hb hts (fun _ h => List.mem_cons_of_mem _ (wwXc_wsX90 _ h)) hown hw 2 rfl rfl 1 (by decide) (hq _ wX_77) rfl dX11_feed_72 ?_
    exact kr (g72 13) g72 l73 a74 b75 _ _ _ _ ⟨(hk_frT (hk_frT (hk_frT (hk_frT h13 (by decide) h29) (by decide) h45) (by decide) h61) (by decide) h77), (hk_frT (hk_frT (hk_frT (hk_frT h14 (by decide) h30) (by decide) h46) (by decide) h62) (by decide) h78), (hk_frT (hk_frT (hk_frT (hk_frT h15 (by decide) h31) (by decide) h47) (by decide) h63) (by decide) h79), (ob390 ((g72 13).toInt) ((g56 13).toInt) (((4 : Int32)).toInt) ((g8 13).toInt) ((g 13).toInt) ((g24 13).toInt) ((g40 13).toInt) (((1480 : Int32)).toInt) h80 h16 h32 h48 h64 hi_g13 (hE_le cc1) (hE_rng (g72 13)) (hE_rng (g56 13)) (by decide) (hE_rng (g8 13)) (hE_rng (g 13)) (hE_rng (g24 13)) (hE_rng (g40 13)) (by decide)), h81⟩ hw dX11_feed_75
  · refine lv_bipush (v := (-3)) hx hb dX11_feed_13 (by decide) ?_
    exact kr (-3) g lg ar bk _ _ _ _ ⟨hk_fr0, hk_fr0, hk_fr0, (ob391 ((g 13).toInt) (((1480 : Int32)).toInt) hi_g13 (hE_nle cc1) (hE_rng (g 13)) (by decide)), hi_a0rg⟩ hw dX11_feed_15

set_option maxHeartbeats 4000000 in
set_option maxRecDepth 100000 in
/-- X11_end on (0,) -/
theorem jx_X11_end (l : Launch) (hlt : l.stackTraces = false) (D : va_G) (t3 : Nat × Nat × Nat) (cI cJ : ClassId) (ad : Nat → Nat) (g : Nat → Int32) (lg : Nat → Int64) (ar : Nat → Nat → Int32) (bk : Nat → Int64) (sz : Nat) (y1 : Int32) (hi_g13 : 0 ≤ (g 13).toInt ∧ (g 13).toInt ≤ 1500) : JMi l yX11_end (Cond.code yX11_end cX11_end 2 (some .int) :: wwX) { frames := 0, cells := 1, slots := 6, locals := 0 } t3 D xw cI cJ ad [.ref (ad 0), .int y1] (xw cI cJ ad g lg ar bk) sz 1 6 (fun (r : Int32) g' lg' ar' bk' => hk_fr [13] g g' ∧ hk_fr [] lg lg' ∧ hk_fr [] ar ar' ∧ (0 ≤ (g' 13).toInt ∧ (g' 13).toInt ≤ 1500)) (fun g' lg' ar' bk' => False) := by
  refine jx_meti (cc := cX11_end) (maxL := 2) (ret := (some .int)) rfl (by decide) rfl (Nat.le_of_ble_eq_true rfl) ?_
  intro p e s m args below meth c ls Q A hx hb hml hown hts hA hZ hw hl hQ kr kt
  have hq : ∀ w ∈ wwX, w.before args s = true := fun w h => hts w (List.mem_cons_of_mem _ h)
  have hl : lv_has ls 2 [(0, .ref (ad 0)), (1, .int y1)] := hl
  refine lv_iload_n hx hb dX11_end_0 rfl (lv_at hl 1 rfl) ?_
  refine lv_if_lt (tgt := 22) hx hb dX11_end_1 (by decide) (fun cc1 => ?_) (fun cc1 => ?_)
  · refine lv_iconst (v := (-1)) hx hb dX11_end_22 (by decide) ?_
    exact kr (-1) g lg ar bk _ _ _ _ ⟨hk_fr0, hk_fr0, hk_fr0, (ob6 ((g 13).toInt) hi_g13 (hE_rng (g 13)))⟩ hw dX11_end_23
  · refine lv_iload_n hx hb dX11_end_4 rfl (lv_at hl 1 rfl) ?_
    refine lv_bipush (v := 20) hx hb dX11_end_5 (by decide) ?_
    refine lv_icmp_gt (tgt := 22) hx hb dX11_end_7 (by decide) (fun cc2 => ?_) (fun cc2 => ?_)
    · refine lv_iconst (v := (-1)) hx hb dX11_end_22 (by decide) ?_
      exact kr (-1) g lg ar bk _ _ _ _ ⟨hk_fr0, hk_fr0, hk_fr0, (ob6 ((g 13).toInt) hi_g13 (hE_rng (g 13)))⟩ hw dX11_end_23
    · refine lv_aload_n hx hb dX11_end_10 rfl (lv_at hl 0 rfl) ?_
      refine hk_get (ci := 14) (C := RX11) (T := TX11) (N := 11) (v := .ref (ad 2)) hx hb hts (fun _ h => List.mem_cons_of_mem _ (wwXc_wsX110 _ h)) hown hw 0 rfl rfl 2 (by decide) (hq _ wX_83) rfl dX11_end_11 ?_
      refine hk_get (ci := 12) (C := RX9) (T := TX9) (N := 2) (v := .int (g 13)) hx hb hts (fun _ h => List.mem_cons_of_mem _ (wwXc_wsX90 _ h)) hown hw 2 rfl rfl 1 (by decide) (hq _ wX_77) rfl dX11_end_14 ?_
      refine lv_bipush (v := 20) hx hb dX11_end_17 (by decide) ?_
      refine lv_icmp_ge (tgt := 24) hx hb dX11_end_19 (by decide) (fun cc3 => ?_) (fun cc3 => ?_)
      · refine lv_aload_n hx hb dX11_end_24 rfl (lv_at hl 0 rfl) ?_
        refine hk_get (ci := 14) (C := RX11) (T := TX11) (N := 11) (v := .ref (ad 2)) hx hb hts (fun _ h => List.mem_cons_of_mem _ (wwXc_wsX110 _ h)) hown hw 0 rfl rfl 2 (by decide) (hq _ wX_83) rfl dX11_end_25 ?_
        refine lv_dup hx hb dX11_end_28 rfl ?_
        refine hk_get (ci := 12) (C := RX9) (T := TX9) (N := 2) (v := .int (g 13)) hx hb hts (fun _ h => List.mem_cons_of_mem _ (wwXc_wsX90 _ h)) hown hw 2 rfl rfl 1 (by decide) (hq _ wX_77) rfl dX11_end_29 ?_
        refine lv_bipush (v := 20) hx hb dX11_end_32 (by decide) ?_
        refine lv_iload_n hx hb dX11_end_34 rfl (lv_at hl 1 rfl) ?_
        refine lv_isub hx hb dX11_end_35 (jx_nm fun z4 hz4 => ?_)
        refine lv_isub hx hb dX11_end_36 (jx_nm fun z5 hz5 => ?_)
        refine jx_putg xw (g := g) (lg := lg) (ar := ar) (bk := bk) (x := z5) 13 (ci := 12) (C := RX9) (T := TX9) (N := 2) (ty := .int) hx hb hts (fun _ h => List.mem_cons_of_mem _ (wwXc_wsX90 _ h)) tyX9 tyX9_ok nmX9 hown hw 2 rfl rfl 1 (by decide) (hq _ wX_77) rfl (by decide +kernel) rfl rfl (Nat.le_of_ble_eq_true rfl) dX11_end_37 rfl (fun H locs g6 h_g6 hw => ?_)
        refine lv_aload_n hx hb dX11_end_40 rfl (lv_at hl 0 rfl) ?_
        refine hk_get (ci := 14) (C := RX11) (T := TX11) (N := 11) (v := .ref (ad 2)) hx hb hts (fun _ h => List.mem_cons_of_mem _ (wwXc_wsX110 _ h)) hown hw 0 rfl rfl 2 (by decide) (hq _ wX_83) rfl dX11_end_41 ?_
        have e_g6_13 : g6 13 = z5 := (hk_upgS h_g6)
        refine hk_get (ci := 12) (C := RX9) (T := TX9) (N := 2) (v := .int z5) hx hb hts (fun _ h => List.mem_cons_of_mem _ (wwXc_wsX90 _ h)) hown hw 2 rfl rfl 1 (by decide) (hq _ wX_77) (congrArg (fun z => some (Value.int z)) e_g6_13) dX11_end_44 ?_
        exact kr z5 g6 lg ar bk _ _ _ _ ⟨(hk_frG hk_fr0 (by decide) h_g6), hk_fr0, hk_fr0, (ob392 ((g6 13).toInt) ((z5).toInt) ((g 13).toInt) ((z4).toInt) (((20 : Int32)).toInt) ((y1).toInt) (((0 : Int32)).toInt) (congrArg Int32.toInt e_g6_13) (hE_sub hz5) hi_g13 (hE_le cc3) (hE_sub hz4) (hE_nlt cc1) (hE_nlt cc2) (hE_rng (g6 13)) (hE_rng (z5)) (hE_rng (g 13)) (hE_rng (z4)) (by decide) (hE_rng (y1)) (by decide))⟩ hw dX11_end_47
      · refine lv_iconst (v := (-1)) hx hb dX11_end_22 (by decide) ?_
        exact kr (-1) g lg ar bk _ _ _ _ ⟨hk_fr0, hk_fr0, hk_fr0, (ob393 ((g 13).toInt) (((20 : Int32)).toInt) ((y1).toInt) (((0 : Int32)).toInt) hi_g13 (hE_nle cc3) (hE_nlt cc2) (hE_nlt cc1) (hE_rng (g 13)) (by decide) (hE_rng (y1)) (by decide))⟩ hw dX11_end_23

set_option maxHeartbeats 4000000 in
set_option maxRecDepth 100000 in
/-- X11_octet on (0,) -/
theorem jx_X11_octet (l : Launch) (hlt : l.stackTraces = false) (D : va_G) (t3 : Nat × Nat × Nat) (cI cJ : ClassId) (ad : Nat → Nat) (g : Nat → Int32) (lg : Nat → Int64) (ar : Nat → Nat → Int32) (bk : Nat → Int64) (sz : Nat) (y1 : Int32) (hi_g13 : 0 ≤ (g 13).toInt ∧ (g 13).toInt ≤ 1500) (hi_a0rg : hk_rg 0 255 (ar 0)) : JMi l yX11_octet (Cond.code yX11_octet cX11_octet 2 (some .int) :: wwX) { frames := 2, cells := 1, slots := 6, locals := 43 } t3 D xw cI cJ ad [.ref (ad 0), .int y1] (xw cI cJ ad g lg ar bk) sz 1 6 (fun (r : Int32) g' lg' ar' bk' => hk_fr [13] g g' ∧ hk_fr [] lg lg' ∧ hk_fr [0] ar ar' ∧ (0 ≤ (g' 13).toInt ∧ (g' 13).toInt ≤ 1500) ∧ hk_rg 0 255 (ar' 0)) (fun g' lg' ar' bk' => False) := by
  refine jx_meti (cc := cX11_octet) (maxL := 2) (ret := (some .int)) rfl (by decide) rfl (Nat.le_of_ble_eq_true rfl) ?_
  intro p e s m args below meth c ls Q A hx hb hml hown hts hA hZ hw hl hQ kr kt
  have hq : ∀ w ∈ wwX, w.before args s = true := fun w h => hts w (List.mem_cons_of_mem _ h)
  have hl : lv_has ls 2 [(0, .ref (ad 0)), (1, .int y1)] := hl
  refine lv_aload_n hx hb dX11_octet_0 rfl (lv_at hl 0 rfl) ?_
  refine hk_get (ci := 14) (C := RX11) (T := TX11) (N := 11) (v := .ref (ad 2)) hx hb hts (fun _ h => List.mem_cons_of_mem _ (wwXc_wsX110 _ h)) hown hw 0 rfl rfl 2 (by decide) (hq _ wX_83) rfl dX11_octet_1 ?_
  refine hk_get (ci := 12) (C := RX9) (T := TX9) (N := 2) (v := .int (g 13)) hx hb hts (fun _ h => List.mem_cons_of_mem _ (wwXc_wsX90 _ h)) hown hw 2 rfl rfl 1 (by decide) (hq _ wX_77) rfl dX11_octet_4 ?_
  refine lv_sipush (v := 1500) hx hb dX11_octet_7 (by decide) ?_
  refine lv_icmp_lt (tgt := 16) hx hb dX11_octet_10 (by decide) (fun cc1 => ?_) (fun cc1 => ?_)
  · refine lv_aload_n hx hb dX11_octet_16 rfl (lv_at hl 0 rfl) ?_
    refine hk_get (ci := 14) (C := RX11) (T := TX11) (N := 11) (v := .ref (ad 2)) hx hb hts (fun _ h => List.mem_cons_of_mem _ (wwXc_wsX110 _ h)) hown hw 0 rfl rfl 2 (by decide) (hq _ wX_83) rfl dX11_octet_17 ?_
    refine lv_iload_n hx hb dX11_octet_20 rfl (lv_at hl 1 rfl) ?_
    refine jx_Vv (As := [.int y1]) (rest := []) ⟨hx, hb, hml, hown, hts⟩ hZ hw hA (jx_X9_put_2 l hlt D t3 cI cJ ad g lg ar bk _ y1 hi_a0rg) (cwV 1 hts (jx_gV wwX_good wX_111 wX_112 wX_113 wX_24 wX_114) rfl rfl rfl (by decide +kernel) ⟨Nat.le_of_ble_eq_true rfl, Nat.le_of_ble_eq_true rfl⟩) 2 (ci := 12) (T := TX9) (N := 2) rfl rfl rfl hl.1 rfl (Nat.le_of_ble_eq_true rfl) dX11_octet_21 ⟨Nat.le_of_ble_eq_true rfl, Nat.le_of_ble_eq_true rfl⟩ (fun _ _ _ _ _ _ _ _ hp _ _ _ _ => hp.elim) (fun g7 l8 a9 b10 H locs hp11 hw => ?_)
    obtain ⟨h12, h13, h14, h15, h16⟩ := hp11
    refine lv_aload_n hx hb dX11_octet_24 rfl (lv_at hl 0 rfl) ?_
    refine hk_get (ci := 14) (C := RX11) (T := TX11) (N := 11) (v := .ref (ad 2)) hx hb hts (fun _ h => List.mem_cons_of_mem _ (wwXc_wsX110 _ h)) hown hw 0 rfl rfl 2 (by decide) (hq _ wX_83) rfl dX11_octet_25 ?_
    refine hk_get (ci := 12) (C := RX9) (T := TX9) (N := 2) (v := .int (g7 13)) hx hb hts (fun _ h => List.mem_cons_of_mem _ (wwXc_wsX90 _ h)) hown hw 2 rfl rfl 1 (by decide) (hq _ wX_77) rfl dX11_octet_28 ?_
    exact kr (g7 13) g7 l8 a9 b10 _ _ _ _ ⟨h12, h13, h14, (ob394 ((g7 13).toInt) ((g 13).toInt) (((1500 : Int32)).toInt) h15 hi_g13 (hE_lt cc1) (hE_rng (g7 13)) (hE_rng (g 13)) (by decide)), h16⟩ hw dX11_octet_31
  · refine lv_bipush (v := (-3)) hx hb dX11_octet_13 (by decide) ?_
    exact kr (-3) g lg ar bk _ _ _ _ ⟨hk_fr0, hk_fr0, hk_fr0, (ob395 ((g 13).toInt) (((1500 : Int32)).toInt) hi_g13 (hE_nlt cc1) (hE_rng (g 13)) (by decide)), hi_a0rg⟩ hw dX11_octet_15

set_option maxHeartbeats 4000000 in
set_option maxRecDepth 100000 in
/-- X11_finishPacking on (0,) -/
theorem jx_X11_finishPacking (l : Launch) (hlt : l.stackTraces = false) (D : va_G) (t3 : Nat × Nat × Nat) (cI cJ : ClassId) (ad : Nat → Nat) (g : Nat → Int32) (lg : Nat → Int64) (ar : Nat → Nat → Int32) (bk : Nat → Int64) (sz : Nat) (hi_g26 : 0 ≤ (g 26).toInt ∧ (g 26).toInt ≤ 200) : JMi l yX11_finishPacking (Cond.code yX11_finishPacking cX11_finishPacking 1 (some .int) :: wwX) { frames := 1, cells := 1, slots := 6, locals := 20 } t3 D xw cI cJ ad [.ref (ad 0)] (xw cI cJ ad g lg ar bk) sz 1 6 (fun (r : Int32) g' lg' ar' bk' => hk_fr [2, 14, 25, 26] g g' ∧ hk_fr [] lg lg' ∧ hk_fr [] ar ar' ∧ ((g' 14).toInt ≤ 3000) ∧ (0 ≤ (g' 26).toInt ∧ (g' 26).toInt ≤ 200)) (fun g' lg' ar' bk' => False) := by
  refine jx_meti (cc := cX11_finishPacking) (maxL := 1) (ret := (some .int)) rfl (by decide) rfl (Nat.le_of_ble_eq_true rfl) ?_
  intro p e s m args below meth c ls Q A hx hb hml hown hts hA hZ hw hl hQ kr kt
  have hq : ∀ w ∈ wwX, w.before args s = true := fun w h => hts w (List.mem_cons_of_mem _ h)
  have hl : lv_has ls 1 [(0, .ref (ad 0))] := hl
  refine lv_aload_n hx hb dX11_finishPacking_0 rfl (lv_at hl 0 rfl) ?_
  refine lv_aload_n hx hb dX11_finishPacking_1 rfl (lv_at hl 0 rfl) ?_
  refine hk_get (ci := 14) (C := RX11) (T := TX11) (N := 11) (v := .ref (ad 9)) hx hb hts (fun _ h => List.mem_cons_of_mem _ (wwXc_wsX110 _ h)) hown hw 0 rfl rfl 4 (by decide) (hq _ wX_104) rfl dX11_finishPacking_2 ?_
  refine hk_get (ci := 8) (C := RX5) (T := TX5) (N := 6) (v := .int (g 24)) hx hb hts (fun _ h => List.mem_cons_of_mem _ (wwXc_wsX50 _ h)) hown hw 9 rfl rfl 5 (by decide) (hq _ wX_105) rfl dX11_finishPacking_5 ?_
  refine jx_putg xw (g := g) (lg := lg) (ar := ar) (bk := bk) (x := (g 24)) 2 (ci := 14) (C := RX11) (T := TX11) (N := 11) (ty := .int) hx hb hts (fun _ h => List.mem_cons_of_mem _ (wwXc_wsX110 _ h)) tyX11 tyX11_ok nmX11 hown hw 0 rfl rfl 10 (by decide) (hq _ wX_106) rfl (by decide +kernel) rfl rfl (Nat.le_of_ble_eq_true rfl) dX11_finishPacking_8 rfl (fun H locs g1 h_g1 hw => ?_)
  refine lv_aload_n hx hb dX11_finishPacking_11 rfl (lv_at hl 0 rfl) ?_
  refine hk_get (ci := 14) (C := RX11) (T := TX11) (N := 11) (v := .ref (ad 4)) hx hb hts (fun _ h => List.mem_cons_of_mem _ (wwXc_wsX110 _ h)) hown hw 0 rfl rfl 3 (by decide) (hq _ wX_76) rfl dX11_finishPacking_12 ?_
  have e_g1_14 : g1 14 = (g 14) := (hk_upgN h_g1 14 rfl)
  refine hk_get (ci := 12) (C := RX9) (T := TX9) (N := 2) (v := .int (g 14)) hx hb hts (fun _ h => List.mem_cons_of_mem _ (wwXc_wsX90 _ h)) hown hw 4 rfl rfl 1 (by decide) (hq _ wX_77) (congrArg (fun z => some (Value.int z)) e_g1_14) dX11_finishPacking_15 ?_
  refine lv_sipush (v := 3000) hx hb dX11_finishPacking_18 (by decide) ?_
  refine lv_icmp_le (tgt := 47) hx hb dX11_finishPacking_21 (by decide) (fun cc2 => ?_) (fun cc2 => ?_)
  · refine lv_aload_n hx hb dX11_finishPacking_47 rfl (lv_at hl 0 rfl) ?_
    refine hk_get (ci := 14) (C := RX11) (T := TX11) (N := 11) (v := .ref (ad 4)) hx hb hts (fun _ h => List.mem_cons_of_mem _ (wwXc_wsX110 _ h)) hown hw 0 rfl rfl 3 (by decide) (hq _ wX_76) rfl dX11_finishPacking_48 ?_
    refine hk_get (ci := 12) (C := RX9) (T := TX9) (N := 2) (v := .int (g 14)) hx hb hts (fun _ h => List.mem_cons_of_mem _ (wwXc_wsX90 _ h)) hown hw 4 rfl rfl 1 (by decide) (hq _ wX_77) (congrArg (fun z => some (Value.int z)) e_g1_14) dX11_finishPacking_51 ?_
    have e_g1_26 : g1 26 = (g 26) := (hk_upgN h_g1 26 rfl)
    exact kr (g 14) g1 lg ar bk _ _ _ _ ⟨(hk_frG hk_fr0 (by decide) h_g1), hk_fr0, hk_fr0, (ob396 ((g1 14).toInt) ((g 14).toInt) (((3000 : Int32)).toInt) (congrArg Int32.toInt e_g1_14) (hE_le cc2) (hE_rng (g1 14)) (hE_rng (g 14)) (by decide)), (ob254 ((g1 26).toInt) ((g 26).toInt) (congrArg Int32.toInt e_g1_26) hi_g26 (hE_rng (g1 26)) (hE_rng (g 26)))⟩ hw dX11_finishPacking_54
  · refine lv_aload_n hx hb dX11_finishPacking_24 rfl (lv_at hl 0 rfl) ?_
    refine hk_get (ci := 14) (C := RX11) (T := TX11) (N := 11) (v := .ref (ad 4)) hx hb hts (fun _ h => List.mem_cons_of_mem _ (wwXc_wsX110 _ h)) hown hw 0 rfl rfl 3 (by decide) (hq _ wX_76) rfl dX11_finishPacking_25 ?_
    refine lv_iconst (v := 0) hx hb dX11_finishPacking_28 (by decide) ?_
    refine jx_putg xw (g := g1) (lg := lg) (ar := ar) (bk := bk) (x := 0) 14 (ci := 12) (C := RX9) (T := TX9) (N := 2) (ty := .int) hx hb hts (fun _ h => List.mem_cons_of_mem _ (wwXc_wsX90 _ h)) tyX9 tyX9_ok nmX9 hown hw 4 rfl rfl 1 (by decide) (hq _ wX_77) rfl (by decide +kernel) rfl rfl (Nat.le_of_ble_eq_true rfl) dX11_finishPacking_29 rfl (fun H locs g3 h_g3 hw => ?_)
    refine lv_aload_n hx hb dX11_finishPacking_32 rfl (lv_at hl 0 rfl) ?_
    refine hk_get (ci := 14) (C := RX11) (T := TX11) (N := 11) (v := .ref (ad 15)) hx hb hts (fun _ h => List.mem_cons_of_mem _ (wwXc_wsX110 _ h)) hown hw 0 rfl rfl 6 (by decide) (hq _ wX_64) rfl dX11_finishPacking_33 ?_
    have e_g3_26 : g3 26 = (g 26) := ((hk_upgN h_g3 26 rfl)).trans (hk_upgN h_g1 26 rfl)
    refine jx_Vv (As := []) (rest := []) ⟨hx, hb, hml, hown, hts⟩ hZ hw hA (jx_X4_clear l hlt D t3 cI cJ ad g3 lg ar bk _ (ob254 ((g3 26).toInt) ((g 26).toInt) (congrArg Int32.toInt e_g3_26) hi_g26 (hE_rng (g3 26)) (hE_rng (g 26)))) (cwV 0 hts (jx_gV wwX_good wX_107 wX_108 wX_109 wX_69 wX_110) rfl rfl rfl (by decide +kernel) ⟨Nat.le_of_ble_eq_true rfl, Nat.le_of_ble_eq_true rfl⟩) 15 (ci := 7) (T := TX4) (N := 4) rfl rfl rfl hl.1 rfl (Nat.le_of_ble_eq_true rfl) dX11_finishPacking_36 ⟨Nat.le_of_ble_eq_true rfl, Nat.le_of_ble_eq_true rfl⟩ (fun _ _ _ _ _ _ _ _ hp _ _ _ _ => hp.elim) (fun g9 l10 a11 b12 H locs hp13 hw => ?_)
    obtain ⟨h14, h15, h16, h17⟩ := hp13
    refine lv_aload_n hx hb dX11_finishPacking_39 rfl (lv_at hl 0 rfl) ?_
    refine lv_iconst (v := (-1)) hx hb dX11_finishPacking_40 (by decide) ?_
    refine jx_putg xw (g := g9) (lg := l10) (ar := a11) (bk := b12) (x := (-1)) 2 (ci := 14) (C := RX11) (T := TX11) (N := 11) (ty := .int) hx hb hts (fun _ h => List.mem_cons_of_mem _ (wwXc_wsX110 _ h)) tyX11 tyX11_ok nmX11 hown hw 0 rfl rfl 10 (by decide) (hq _ wX_106) rfl (by decide +kernel) rfl rfl (Nat.le_of_ble_eq_true rfl) dX11_finishPacking_41 rfl (fun H locs g18 h_g18 hw => ?_)
    refine lv_bipush (v := (-3)) hx hb dX11_finishPacking_44 (by decide) ?_
    have e_g18_14 : g18 14 = (0 : Int32) := ((hk_upgN h_g18 14 rfl)).trans (((h14 14 rfl)).trans (hk_upgS h_g3))
    have e_g18_26 : g18 26 = (g9 26) := (hk_upgN h_g18 26 rfl)
    exact kr (-3) g18 l10 a11 b12 _ _ _ _ ⟨(hk_frG (hk_frT (hk_frG (hk_frG hk_fr0 (by decide) h_g1) (by decide) h_g3) (by decide) h14) (by decide) h_g18), h15, h16, (ob397 ((g18 14).toInt) (((0 : Int32)).toInt) (congrArg Int32.toInt e_g18_14) (hE_rng (g18 14)) (by decide)), (ob254 ((g18 26).toInt) ((g9 26).toInt) (congrArg Int32.toInt e_g18_26) h17 (hE_rng (g18 26)) (hE_rng (g9 26)))⟩ hw dX11_finishPacking_46

set_option maxHeartbeats 4000000 in
set_option maxRecDepth 100000 in
/-- X11_pack on (0,) -/
theorem jx_X11_pack (l : Launch) (hlt : l.stackTraces = false) (D : va_G) (t3 : Nat × Nat × Nat) (cI cJ : ClassId) (ad : Nat → Nat) (g : Nat → Int32) (lg : Nat → Int64) (ar : Nat → Nat → Int32) (bk : Nat → Int64) (sz : Nat) (y1 : Int32) (hi_g8 : 1 ≤ (g 8).toInt ∧ (g 8).toInt ≤ 1500) (hi_g3 : 0 ≤ (g 3).toInt ∧ (g 3).toInt ≤ 4) (hi_g4 : 0 ≤ (g 4).toInt ∧ (g 4).toInt ≤ 4) (hi_g26 : 0 ≤ (g 26).toInt ∧ (g 26).toInt ≤ 200) (hi_g21 : 0 ≤ (g 21).toInt ∧ (g 21).toInt ≤ 4) (hi_g22 : 0 ≤ (g 22).toInt ∧ (g 22).toInt ≤ 4) (hi_g13 : 0 ≤ (g 13).toInt ∧ (g 13).toInt ≤ 1500) (hi_a8rg : hk_rg (-2147483648) 273 (ar 8)) (hi_a12rg : hk_rg (-2147483648) 1501 (ar 12)) (hi_g41 : -2147483648 ≤ (g 41).toInt ∧ (g 41).toInt ≤ 1501) (hi_a0rg : hk_rg 0 255 (ar 0)) (hi_g7 : 1 ≤ (g 7).toInt ∧ (g 7).toInt ≤ 1500) (hi_a7rm : hk_rm 5 3 (-3000) 3000 (ar 7)) : JMi l yX11_pack (Cond.code yX11_pack cX11_pack 5 (some .int) :: wwX) { frames := 13, cells := 1, slots := 6, locals := 267 } t3 D xw cI cJ ad [.ref (ad 0), .int y1] (xw cI cJ ad g lg ar bk) sz 1 6 (fun (r : Int32) g' lg' ar' bk' => hk_fr [1, 2, 13, 14, 15, 17, 18, 19, 20, 21, 22, 23, 24, 25, 26, 27, 28, 29, 30, 31, 32, 33, 34, 35, 36, 37, 38, 39, 40, 41, 42] g g' ∧ hk_fr [0, 1, 2] lg lg' ∧ hk_fr [0, 1, 2, 3, 4, 5, 6, 7, 8, 9, 10, 11, 12] ar ar' ∧ ((g' 14).toInt ≤ 3000) ∧ (0 ≤ (g' 26).toInt ∧ (g' 26).toInt ≤ 200) ∧ (0 ≤ (g' 21).toInt ∧ (g' 21).toInt ≤ 4) ∧ (0 ≤ (g' 22).toInt ∧ (g' 22).toInt ≤ 4) ∧ (0 ≤ (g' 13).toInt ∧ (g' 13).toInt ≤ 1500) ∧ hk_rg (-2147483648) 273 (ar' 8) ∧ hk_rg (-2147483648) 1501 (ar' 12) ∧ (-2147483648 ≤ (g' 41).toInt ∧ (g' 41).toInt ≤ 1501) ∧ hk_rg 0 255 (ar' 0) ∧ hk_rm 5 3 (-3000) 3000 (ar' 7)) (fun g' lg' ar' bk' => False) := by
  refine jx_meti (cc := cX11_pack) (maxL := 5) (ret := (some .int)) rfl (by decide) rfl (Nat.le_of_ble_eq_true rfl) ?_
  intro p e s m args below meth c ls Q A hx hb hml hown hts hA hZ hw hl hQ kr kt
  have hq : ∀ w ∈ wwX, w.before args s = true := fun w h => hts w (List.mem_cons_of_mem _ h)
  have hl : lv_has ls 5 [(0, .ref (ad 0)), (1, .int y1)] := hl
  refine lv_iload_n hx hb dX11_pack_0 rfl (lv_at hl 1 rfl) ?_
  refine lv_if_lt (tgt := 9) hx hb dX11_pack_1 (by decide) (fun cc1 => ?_) (fun cc1 => ?_)
  · refine lv_iconst (v := (-1)) hx hb dX11_pack_9 (by decide) ?_
    exact kr (-1) g lg ar bk _ _ _ _ ⟨hk_fr0, hk_fr0, hk_fr0, (ob398 ((g 14).toInt) (hE_rng (g 14))), (ob290 ((g 26).toInt) hi_g26 (hE_rng (g 26))), (ob256 ((g 21).toInt) hi_g21 (hE_rng (g 21))), (ob256 ((g 22).toInt) hi_g22 (hE_rng (g 22))), (ob6 ((g 13).toInt) hi_g13 (hE_rng (g 13))), hi_a8rg, hi_a12rg, (ob227 ((g 41).toInt) hi_g41 (hE_rng (g 41))), hi_a0rg, hi_a7rm⟩ hw dX11_pack_10
  · refine lv_iload_n hx hb dX11_pack_4 rfl (lv_at hl 1 rfl) ?_
    refine lv_iconst (v := 2) hx hb dX11_pack_5 (by decide) ?_
    refine lv_icmp_le (tgt := 11) hx hb dX11_pack_6 (by decide) (fun cc2 => ?_) (fun cc2 => ?_)
    · refine lv_aload_n hx hb dX11_pack_11 rfl (lv_at hl 0 rfl) ?_
      refine hk_get (ci := 14) (C := RX11) (T := TX11) (N := 11) (v := .ref (ad 18)) hx hb hts (fun _ h => List.mem_cons_of_mem _ (wwXc_wsX110 _ h)) hown hw 0 rfl rfl 7 (by decide) (hq _ wX_118) rfl dX11_pack_12 ?_
      refine lv_iload_n hx hb dX11_pack_15 rfl (lv_at hl 1 rfl) ?_
      refine jx_Vv (As := [.int y1]) (rest := []) ⟨hx, hb, hml, hown, hts⟩ hZ hw hA (jx_X7_begin l hlt D t3 cI cJ ad g lg ar bk _ y1 (ob256 ((g 3).toInt) hi_g3 (hE_rng (g 3))) (ob256 ((g 4).toInt) hi_g4 (hE_rng (g 4))) (ob290 ((g 26).toInt) hi_g26 (hE_rng (g 26))) (ob256 ((g 21).toInt) hi_g21 (hE_rng (g 21))) (ob256 ((g 22).toInt) hi_g22 (hE_rng (g 22)))) (cwV 1 hts (jx_gV wwX_good wX_119 wX_120 wX_121 wX_122 wX_123) rfl rfl rfl (by decide +kernel) ⟨Nat.le_of_ble_eq_true rfl, Nat.le_of_ble_eq_true rfl⟩) 18 (ci := 10) (T := TX7) (N := 17) rfl rfl rfl hl.1 rfl (Nat.le_of_ble_eq_true rfl) dX11_pack_16 ⟨Nat.le_of_ble_eq_true rfl, Nat.le_of_ble_eq_true rfl⟩ (fun _ _ _ _ _ _ _ _ hp _ _ _ _ => hp.elim) (fun g8 l9 a10 b11 H locs hp12 hw => ?_)
      obtain ⟨h13, h14, h15, h16, h17, h18⟩ := hp12
      refine lv_aload_n hx hb dX11_pack_19 rfl (lv_at hl 0 rfl) ?_
      have e_g8_0 : g8 0 = (g 0) := (h13 0 rfl)
      refine hk_get (ci := 14) (C := RX11) (T := TX11) (N := 11) (v := .int (g 0)) hx hb hts (fun _ h => List.mem_cons_of_mem _ (wwXc_wsX110 _ h)) hown hw 0 rfl rfl 0 (by decide) (hq _ wX_98) (congrArg (fun z => some (Value.int z)) e_g8_0) dX11_pack_20 ?_
      have B19 : ∀  (g20 : Nat → Int32) (l21 : Nat → Int64) (a22 : Nat → Nat → Int32) (b23 : Nat → Int64) (ls : Array Slot) (H : Heap) (locs : List Loc), 0 ≤ (g20 26).toInt ∧ (g20 26).toInt ≤ 200 → -2147483648 ≤ (g20 41).toInt ∧ (g20 41).toInt ≤ 1501 → hk_fr [14, 15, 17, 18, 19, 20, 24, 25, 26, 28, 29, 30, 31, 32, 33, 34, 35, 36, 37, 38, 39, 40, 41, 42] g8 g20 → hk_fr [0, 1, 2] l9 l21 → hk_fr [0, 1, 2, 3, 4, 5, 6, 7, 8, 9, 10, 11, 12] a10 a22 → hk_rg (-2147483648) 273 (a22 8) → hk_rg (-2147483648) 1501 (a22 12) → hk_rg 0 255 (a22 0) → hk_rm 5 3 (-3000) 3000 (a22 7) → hk_W D (jT cI cJ) A s H locs (xw cI cJ ad g20 l21 a22 b23) → lv_has ls 5 [(0, .ref (ad 0))] → W p l e { frames := 13, cells := 1, slots := 6, locals := 267 } s m args below meth c H locs 0 0 Q (F0 m 180 ls []) := by
        intro g20 l21 a22 b23 ls H locs hf_B19_0 hf_B19_1 hfr_g20 hfr_l21 hfr_a22 ha22_r8rg ha22_r12rg ha22_r0rg ha22_r7rm hw hl
        refine lv_aload_n hx hb dX11_pack_180 rfl (lv_at hl 0 rfl) ?_
        refine hk_get (ci := 14) (C := RX11) (T := TX11) (N := 11) (v := .ref (ad 2)) hx hb hts (fun _ h => List.mem_cons_of_mem _ (wwXc_wsX110 _ h)) hown hw 0 rfl rfl 2 (by decide) (hq _ wX_83) rfl dX11_pack_181 ?_
        refine lv_iconst (v := 0) hx hb dX11_pack_184 (by decide) ?_
        refine jx_putg xw (g := g20) (lg := l21) (ar := a22) (bk := b23) (x := 0) 13 (ci := 12) (C := RX9) (T := TX9) (N := 2) (ty := .int) hx hb hts (fun _ h => List.mem_cons_of_mem _ (wwXc_wsX90 _ h)) tyX9 tyX9_ok nmX9 hown hw 2 rfl rfl 1 (by decide) (hq _ wX_77) rfl (by decide +kernel) rfl rfl (Nat.le_of_ble_eq_true rfl) dX11_pack_185 rfl (fun H locs g24 h_g24 hw => ?_)
        refine lv_aload_n hx hb dX11_pack_188 rfl (lv_at hl 0 rfl) ?_
        refine lv_iconst (v := 0) hx hb dX11_pack_189 (by decide) ?_
        refine jx_putg xw (g := g24) (lg := l21) (ar := a22) (bk := b23) (x := 0) 1 (ci := 14) (C := RX11) (T := TX11) (N := 11) (ty := .int) hx hb hts (fun _ h => List.mem_cons_of_mem _ (wwXc_wsX110 _ h)) tyX11 tyX11_ok nmX11 hown hw 0 rfl rfl 9 (by decide) (hq _ wX_97) rfl (by decide +kernel) rfl rfl (Nat.le_of_ble_eq_true rfl) dX11_pack_190 rfl (fun H locs g25 h_g25 hw => ?_)
        refine lv_aload_n hx hb dX11_pack_193 rfl (lv_at hl 0 rfl) ?_
        have e_g25_26 : g25 26 = (g20 26) := ((hk_upgN h_g25 26 rfl)).trans (hk_upgN h_g24 26 rfl)
        refine jx_Vi (As := []) (rest := []) ⟨hx, hb, hml, hown, hts⟩ hZ hw hA (jx_X11_finishPacking l hlt D t3 cI cJ ad g25 l21 a22 b23 _ (ob254 ((g25 26).toInt) ((g20 26).toInt) (congrArg Int32.toInt e_g25_26) hf_B19_0 (hE_rng (g25 26)) (hE_rng (g20 26)))) (cwV 0 hts (jx_gV wwX_good wX_164 wX_165 wX_166 wX_167 wX_168) rfl rfl rfl (by decide +kernel) ⟨Nat.le_of_ble_eq_true rfl, Nat.le_of_ble_eq_true rfl⟩) 0 (ci := 14) (T := TX11) (N := 11) rfl rfl rfl hl.1 rfl (Nat.le_of_ble_eq_true rfl) dX11_pack_194 ⟨Nat.le_of_ble_eq_true rfl, Nat.le_of_ble_eq_true rfl⟩ (fun _ _ _ _ _ _ _ _ hp _ _ _ _ => hp.elim) (fun r30 g31 l32 a33 b34 H locs hp35 hw => ?_)
        obtain ⟨h36, h37, h38, h39, h40⟩ := hp35
        have e_g31_21 : g31 21 = (g8 21) := ((h36 21 rfl)).trans (((hk_upgN h_g25 21 rfl)).trans (((hk_upgN h_g24 21 rfl)).trans (hfr_g20 21 rfl)))
        have e_g31_22 : g31 22 = (g8 22) := ((h36 22 rfl)).trans (((hk_upgN h_g25 22 rfl)).trans (((hk_upgN h_g24 22 rfl)).trans (hfr_g20 22 rfl)))
        have e_g31_13 : g31 13 = (0 : Int32) := ((h36 13 rfl)).trans (((hk_upgN h_g25 13 rfl)).trans (hk_upgS h_g24))
        have e_g31_41 : g31 41 = (g20 41) := ((h36 41 rfl)).trans (((hk_upgN h_g25 41 rfl)).trans (hk_upgN h_g24 41 rfl))
        exact kr r30 g31 l32 a33 b34 _ _ _ _ ⟨(hk_frT (hk_frG (hk_frG (hk_frT (hk_frT hk_fr0 (by decide) h13) (by decide) hfr_g20) (by decide) h_g24) (by decide) h_g25) (by decide) h36), (hk_frT (hk_frT (hk_frT hk_fr0 (by decide) h14) (by decide) hfr_l21) (by decide) h37), (hk_frT (hk_frT (hk_frT hk_fr0 (by decide) h15) (by decide) hfr_a22) (by decide) h38), (ob399 ((g31 14).toInt) h39 (hE_rng (g31 14))), (ob290 ((g31 26).toInt) h40 (hE_rng (g31 26))), (ob61 ((g31 21).toInt) ((g8 21).toInt) (congrArg Int32.toInt e_g31_21) h17 (hE_rng (g31 21)) (hE_rng (g8 21))), (ob61 ((g31 22).toInt) ((g8 22).toInt) (congrArg Int32.toInt e_g31_22) h18 (hE_rng (g31 22)) (hE_rng (g8 22))), (ob400 ((g31 13).toInt) (((0 : Int32)).toInt) ((y1).toInt) (((2 : Int32)).toInt) (congrArg Int32.toInt e_g31_13) (hE_nlt cc1) (hE_le cc2) (hE_rng (g31 13)) (by decide) (hE_rng (y1)) (by decide)), (hk_pE (P := hk_rg (-2147483648) 273) ha22_r8rg (h38 8 rfl)), (hk_pE (P := hk_rg (-2147483648) 1501) ha22_r12rg (h38 12 rfl)), (ob229 ((g31 41).toInt) ((g20 41).toInt) (congrArg Int32.toInt e_g31_41) hf_B19_1 (hE_rng (g31 41)) (hE_rng (g20 41))), (hk_pE (P := hk_rg 0 255) ha22_r0rg (h38 0 rfl)), (hk_pE (P := hk_rm 5 3 (-3000) 3000) ha22_r7rm (h38 7 rfl))⟩ hw dX11_pack_197
      refine lv_if_ne (tgt := 36) hx hb dX11_pack_23 (by decide) (fun cc41 => ?_) (fun cc41 => ?_)
      · refine lv_aload_n hx hb dX11_pack_36 rfl (lv_at hl 0 rfl) ?_
        refine hk_get (ci := 14) (C := RX11) (T := TX11) (N := 11) (v := .int (g 0)) hx hb hts (fun _ h => List.mem_cons_of_mem _ (wwXc_wsX110 _ h)) hown hw 0 rfl rfl 0 (by decide) (hq _ wX_98) (congrArg (fun z => some (Value.int z)) e_g8_0) dX11_pack_37 ?_
        refine lv_iconst (v := 1) hx hb dX11_pack_40 (by decide) ?_
        refine lv_icmp_ne (tgt := 69) hx hb dX11_pack_41 (by decide) (fun cc42 => ?_) (fun cc42 => ?_)
        · refine lv_aload_n hx hb dX11_pack_69 rfl (lv_at hl 0 rfl) ?_
          refine hk_get (ci := 14) (C := RX11) (T := TX11) (N := 11) (v := .ref (ad 18)) hx hb hts (fun _ h => List.mem_cons_of_mem _ (wwXc_wsX110 _ h)) hown hw 0 rfl rfl 7 (by decide) (hq _ wX_118) rfl dX11_pack_70 ?_
          refine jx_Vv (As := []) (rest := []) ⟨hx, hb, hml, hown, hts⟩ hZ hw hA (jx_X7_writeStart l hlt D t3 cI cJ ad g8 l9 a10 b11 _) (cwV 0 hts (jx_gV wwX_good wX_136 wX_137 wX_138 wX_122 wX_139) rfl rfl rfl (by decide +kernel) ⟨Nat.le_of_ble_eq_true rfl, Nat.le_of_ble_eq_true rfl⟩) 18 (ci := 10) (T := TX7) (N := 17) rfl rfl rfl hl.1 rfl (Nat.le_of_ble_eq_true rfl) dX11_pack_73 ⟨Nat.le_of_ble_eq_true rfl, Nat.le_of_ble_eq_true rfl⟩ (fun _ _ _ _ _ _ _ _ hp _ _ _ _ => hp.elim) (fun g48 l49 a50 b51 H locs hp52 hw => ?_)
          obtain ⟨h53, h54, h55⟩ := hp52
          have hr56 : hk_rg (-2147483648) 273 (a50 8) := (hk_pE (P := hk_rg (-2147483648) 273) (hk_pE (P := hk_rg (-2147483648) 273) hi_a8rg (h15 8 rfl)) (h55 8 rfl))
          have hr57 : hk_rg (-2147483648) 1501 (a50 12) := (hk_pE (P := hk_rg (-2147483648) 1501) (hk_pE (P := hk_rg (-2147483648) 1501) hi_a12rg (h15 12 rfl)) (h55 12 rfl))
          have hr58 : hk_rg 0 255 (a50 0) := (hk_pE (P := hk_rg 0 255) (hk_pE (P := hk_rg 0 255) hi_a0rg (h15 0 rfl)) (h55 0 rfl))
          have hr59 : hk_rm 5 3 (-3000) 3000 (a50 7) := (hk_pE (P := hk_rm 5 3 (-3000) 3000) (hk_pE (P := hk_rm 5 3 (-3000) 3000) hi_a7rm (h15 7 rfl)) (h55 7 rfl))
          refine lv_iconst (v := 1) hx hb dX11_pack_76 (by decide) ?_
          refine lv_aload_n hx hb dX11_pack_77 rfl (lv_at hl 0 rfl) ?_
          refine hk_get (ci := 14) (C := RX11) (T := TX11) (N := 11) (v := .ref (ad 1)) hx hb hts (fun _ h => List.mem_cons_of_mem _ (wwXc_wsX110 _ h)) hown hw 0 rfl rfl 1 (by decide) (hq _ wX_88) rfl dX11_pack_78 ?_
          have e_g48_8 : g48 8 = (g 8) := ((h53 8 rfl)).trans (h13 8 rfl)
          refine hk_get (ci := 13) (C := RX10) (T := TX10) (N := 10) (v := .int (g 8)) hx hb hts (fun _ h => List.mem_cons_of_mem _ (wwXc_wsX100 _ h)) hown hw 1 rfl rfl 5 (by decide) (hq _ wX_140) (congrArg (fun z => some (Value.int z)) e_g48_8) dX11_pack_81 ?_
          refine jx_Si (As := [.int 1, .int (g 8)]) (rest := []) ⟨hx, hb, hml, hown, hts⟩ hZ hw hA (jx_J9_max_7cf53 l hlt D t3 cI cJ ad g48 l49 a50 b51 _ 1 (g 8)) (va_cwS 2 hts (jx_gS wwX_good wX_141 wX_142 wX_143 wX_144) rfl rfl rfl (by decide +kernel) ⟨Nat.le_of_ble_eq_true rfl, Nat.le_of_ble_eq_true rfl⟩) rfl hl.1 rfl (Nat.le_of_ble_eq_true rfl) dX11_pack_84 ⟨Nat.le_of_ble_eq_true rfl, Nat.le_of_ble_eq_true rfl⟩ (fun _ _ _ _ _ _ _ _ hp _ _ _ _ => hp.elim) (fun r64 g65 l66 a67 b68 H locs hp69 hw => ?_)
          obtain ⟨h70, h71, h72, h73⟩ := hp69
          refine lv_istore_n (lv' := [(2, .int r64), (0, .ref (ad 0)), (1, .int y1)]) hx hb dX11_pack_87 rfl hl (by decide) rfl (fun ls hl => ?_)
          refine lv_iconst (v := 0) hx hb dX11_pack_88 (by decide) ?_
          refine lv_istore_n (lv' := [(3, .int 0), (2, .int r64), (0, .ref (ad 0)), (1, .int y1)]) hx hb dX11_pack_89 rfl hl (by decide) rfl (fun ls hl => ?_)
          have B74 : ∀ (k80 : Nat) (x75 : Int32) (g76 : Nat → Int32) (l77 : Nat → Int64) (a78 : Nat → Nat → Int32) (b79 : Nat → Int64) (ls : Array Slot) (H : Heap) (locs : List Loc), 2147483648 - (x75).toInt ≤ (k80 : Int) → 0 ≤ (g76 26).toInt ∧ (g76 26).toInt ≤ 200 → -2147483648 ≤ (g76 41).toInt ∧ (g76 41).toInt ≤ 1501 → hk_fr [14, 15, 17, 18, 19, 20, 24, 25, 26, 28, 29, 30, 31, 33, 34, 35, 36, 37, 38, 39, 40, 41, 42] g65 g76 → hk_fr [0, 1, 2] l66 l77 → hk_fr [0, 1, 2, 3, 4, 5, 6, 7, 8, 9, 10, 11, 12] a67 a78 → hk_rg (-2147483648) 273 (a78 8) → hk_rg (-2147483648) 1501 (a78 12) → hk_rg 0 255 (a78 0) → hk_rm 5 3 (-3000) 3000 (a78 7) → hk_W D (jT cI cJ) A s H locs (xw cI cJ ad g76 l77 a78 b79) → lv_has ls 5 [(0, .ref (ad 0)), (2, .int r64), (3, .int x75)] → W p l e { frames := 13, cells := 1, slots := 6, locals := 267 } s m args below meth c H locs 0 0 Q (F0 m 90 ls []) := by
            intro k80
            induction k80 with
            | zero =>
              intro x75 g76 l77 a78 b79 ls H locs hrk_B74 hf_B74_0 hf_B74_1 hfr_g76 hfr_l77 hfr_a78 ha78_r8rg ha78_r12rg ha78_r0rg ha78_r7rm hw hl
              exact False.elim (hk_no0 (0 * (x75).toInt) (ob274 ((x75).toInt) hrk_B74 (hE_rng (x75))) (by simp))
            | succ k80 ih_B74 =>
              intro x75 g76 l77 a78 b79 ls H locs hrk_B74 hf_B74_0 hf_B74_1 hfr_g76 hfr_l77 hfr_a78 ha78_r8rg ha78_r12rg ha78_r0rg ha78_r7rm hw hl
              have hrk_B74 := hk_rk hrk_B74
              refine lv_iload_n hx hb dX11_pack_90 rfl (lv_at hl 2 rfl) ?_
              refine lv_aload_n hx hb dX11_pack_91 rfl (lv_at hl 0 rfl) ?_
              refine hk_get (ci := 14) (C := RX11) (T := TX11) (N := 11) (v := .ref (ad 2)) hx hb hts (fun _ h => List.mem_cons_of_mem _ (wwXc_wsX110 _ h)) hown hw 0 rfl rfl 2 (by decide) (hq _ wX_83) rfl dX11_pack_92 ?_
              have e_g76_13 : g76 13 = (g 13) := ((hfr_g76 13 rfl)).trans (((h70 13 rfl)).trans (((h53 13 rfl)).trans (h13 13 rfl)))
              refine hk_get (ci := 12) (C := RX9) (T := TX9) (N := 2) (v := .int (g 13)) hx hb hts (fun _ h => List.mem_cons_of_mem _ (wwXc_wsX90 _ h)) hown hw 2 rfl rfl 1 (by decide) (hq _ wX_77) (congrArg (fun z => some (Value.int z)) e_g76_13) dX11_pack_95 ?_
              have B81 : ∀  (ls : Array Slot) (H : Heap) (locs : List Loc), hk_W D (jT cI cJ) A s H locs (xw cI cJ ad g76 l77 a78 b79) → lv_has ls 5 [(0, .ref (ad 0))] → W p l e { frames := 13, cells := 1, slots := 6, locals := 267 } s m args below meth c H locs 0 0 Q (F0 m 166 ls []) := by
                intro ls H locs hw hl
                refine lv_aload_n hx hb dX11_pack_166 rfl (lv_at hl 0 rfl) ?_
                refine hk_get (ci := 14) (C := RX11) (T := TX11) (N := 11) (v := .ref (ad 18)) hx hb hts (fun _ h => List.mem_cons_of_mem _ (wwXc_wsX110 _ h)) hown hw 0 rfl rfl 7 (by decide) (hq _ wX_118) rfl dX11_pack_167 ?_
                refine jx_Vv (As := []) (rest := []) ⟨hx, hb, hml, hown, hts⟩ hZ hw hA (jx_X7_writeIndex l hlt D t3 cI cJ ad g76 l77 a78 b79 _ ha78_r7rm) (cwV 0 hts (jx_gV wwX_good wX_156 wX_157 wX_158 wX_122 wX_159) rfl rfl rfl (by decide +kernel) ⟨Nat.le_of_ble_eq_true rfl, Nat.le_of_ble_eq_true rfl⟩) 18 (ci := 10) (T := TX7) (N := 17) rfl rfl rfl hl.1 rfl (Nat.le_of_ble_eq_true rfl) dX11_pack_170 ⟨Nat.le_of_ble_eq_true rfl, Nat.le_of_ble_eq_true rfl⟩ (fun _ _ _ _ _ _ _ _ hp _ _ _ _ => hp.elim) (fun g87 l88 a89 b90 H locs hp91 hw => ?_)
                obtain ⟨h92, h93, h94⟩ := hp91
                refine lv_aload_n hx hb dX11_pack_173 rfl (lv_at hl 0 rfl) ?_
                refine hk_get (ci := 14) (C := RX11) (T := TX11) (N := 11) (v := .ref (ad 18)) hx hb hts (fun _ h => List.mem_cons_of_mem _ (wwXc_wsX110 _ h)) hown hw 0 rfl rfl 7 (by decide) (hq _ wX_118) rfl dX11_pack_174 ?_
                refine jx_Vv (As := []) (rest := []) ⟨hx, hb, hml, hown, hts⟩ hZ hw hA (jx_X7_writeFoot l hlt D t3 cI cJ ad g87 l88 a89 b90 _) (cwV 0 hts (jx_gV wwX_good wX_160 wX_161 wX_162 wX_122 wX_163) rfl rfl rfl (by decide +kernel) ⟨Nat.le_of_ble_eq_true rfl, Nat.le_of_ble_eq_true rfl⟩) 18 (ci := 10) (T := TX7) (N := 17) rfl rfl rfl hl.1 rfl (Nat.le_of_ble_eq_true rfl) dX11_pack_177 ⟨Nat.le_of_ble_eq_true rfl, Nat.le_of_ble_eq_true rfl⟩ (fun _ _ _ _ _ _ _ _ hp _ _ _ _ => hp.elim) (fun g100 l101 a102 b103 H locs hp104 hw => ?_)
                obtain ⟨h105, h106, h107⟩ := hp104
                have hr108 : hk_rg (-2147483648) 273 (a102 8) := (hk_pE (P := hk_rg (-2147483648) 273) (hk_pE (P := hk_rg (-2147483648) 273) ha78_r8rg (h94 8 rfl)) (h107 8 rfl))
                have hr109 : hk_rg (-2147483648) 1501 (a102 12) := (hk_pE (P := hk_rg (-2147483648) 1501) (hk_pE (P := hk_rg (-2147483648) 1501) ha78_r12rg (h94 12 rfl)) (h107 12 rfl))
                have hr110 : hk_rg 0 255 (a102 0) := (hk_pE (P := hk_rg 0 255) (hk_pE (P := hk_rg 0 255) ha78_r0rg (h94 0 rfl)) (h107 0 rfl))
                have hr111 : hk_rm 5 3 (-3000) 3000 (a102 7) := (hk_pE (P := hk_rm 5 3 (-3000) 3000) (hk_pE (P := hk_rm 5 3 (-3000) 3000) ha78_r7rm (h94 7 rfl)) (h107 7 rfl))
                have e_g100_26 : g100 26 = (g76 26) := ((h105 26 rfl)).trans (h92 26 rfl)
                have e_g100_41 : g100 41 = (g76 41) := ((h105 41 rfl)).trans (h92 41 rfl)
                exact B19 g100 l101 a102 b103 ls _ _ (ob254 ((g100 26).toInt) ((g76 26).toInt) (congrArg Int32.toInt e_g100_26) hf_B74_0 (hE_rng (g100 26)) (hE_rng (g76 26))) (ob229 ((g100 41).toInt) ((g76 41).toInt) (congrArg Int32.toInt e_g100_41) hf_B74_1 (hE_rng (g100 41)) (hE_rng (g76 41))) (hk_frT (hk_frT (hk_frT (hk_frT (hk_frT hk_fr0 (by decide) h53) (by decide) h70) (by decide) hfr_g76) (by decide) h92) (by decide) h105) (hk_frT (hk_frT (hk_frT (hk_frT (hk_frT hk_fr0 (by decide) h54) (by decide) h71) (by decide) hfr_l77) (by decide) h93) (by decide) h106) (hk_frT (hk_frT (hk_frT (hk_frT (hk_frT hk_fr0 (by decide) h55) (by decide) h72) (by decide) hfr_a78) (by decide) h94) (by decide) h107) hr108 hr109 hr110 hr111 hw (lv_sub hl [0] rfl)
              refine lv_icmp_ge (tgt := 166) hx hb dX11_pack_98 (by decide) (fun cc112 => ?_) (fun cc112 => ?_)
              · exact B81 ls _ _ hw (lv_sub hl [0] rfl)
              · refine lv_aload_n hx hb dX11_pack_101 rfl (lv_at hl 0 rfl) ?_
                refine hk_get (ci := 14) (C := RX11) (T := TX11) (N := 11) (v := .ref (ad 4)) hx hb hts (fun _ h => List.mem_cons_of_mem _ (wwXc_wsX110 _ h)) hown hw 0 rfl rfl 3 (by decide) (hq _ wX_76) rfl dX11_pack_102 ?_
                refine hk_get (ci := 12) (C := RX9) (T := TX9) (N := 2) (v := .int (g76 14)) hx hb hts (fun _ h => List.mem_cons_of_mem _ (wwXc_wsX90 _ h)) hown hw 4 rfl rfl 1 (by decide) (hq _ wX_77) rfl dX11_pack_105 ?_
                refine lv_sipush (v := 3000) hx hb dX11_pack_108 (by decide) ?_
                refine lv_icmp_gt (tgt := 166) hx hb dX11_pack_111 (by decide) (fun cc113 => ?_) (fun cc113 => ?_)
                · exact B81 ls _ _ hw (lv_sub hl [0] rfl)
                · refine lv_iload_n hx hb dX11_pack_114 rfl (lv_at hl 2 rfl) ?_
                  refine lv_iload_n hx hb dX11_pack_115 rfl (lv_at hl 1 rfl) ?_
                  refine lv_iadd hx hb dX11_pack_116 (jx_nm fun z114 hz114 => ?_)
                  refine lv_aload_n hx hb dX11_pack_117 rfl (lv_at hl 0 rfl) ?_
                  refine hk_get (ci := 14) (C := RX11) (T := TX11) (N := 11) (v := .ref (ad 2)) hx hb hts (fun _ h => List.mem_cons_of_mem _ (wwXc_wsX110 _ h)) hown hw 0 rfl rfl 2 (by decide) (hq _ wX_83) rfl dX11_pack_118 ?_
                  refine hk_get (ci := 12) (C := RX9) (T := TX9) (N := 2) (v := .int (g 13)) hx hb hts (fun _ h => List.mem_cons_of_mem _ (wwXc_wsX90 _ h)) hown hw 2 rfl rfl 1 (by decide) (hq _ wX_77) (congrArg (fun z => some (Value.int z)) e_g76_13) dX11_pack_121 ?_
                  refine jx_Si (As := [.int z114, .int (g 13)]) (rest := []) ⟨hx, hb, hml, hown, hts⟩ hZ hw hA (jx_J9_min_7cf53 l hlt D t3 cI cJ ad g76 l77 a78 b79 _ z114 (g 13)) (va_cwS 2 hts (jx_gS wwX_good wX_145 wX_146 wX_143 wX_147) rfl rfl rfl (by decide +kernel) ⟨Nat.le_of_ble_eq_true rfl, Nat.le_of_ble_eq_true rfl⟩) rfl hl.1 rfl (Nat.le_of_ble_eq_true rfl) dX11_pack_124 ⟨Nat.le_of_ble_eq_true rfl, Nat.le_of_ble_eq_true rfl⟩ (fun _ _ _ _ _ _ _ _ hp _ _ _ _ => hp.elim) (fun r119 g120 l121 a122 b123 H locs hp124 hw => ?_)
                  obtain ⟨h125, h126, h127, h128⟩ := hp124
                  refine lv_istore (lv' := [(4, .int r119), (0, .ref (ad 0)), (2, .int r64), (3, .int x75)]) hx hb dX11_pack_127 hl (by decide) rfl (fun ls hl => ?_)
                  refine lv_aload_n hx hb dX11_pack_129 rfl (lv_at hl 1 rfl) ?_
                  refine hk_get (ci := 14) (C := RX11) (T := TX11) (N := 11) (v := .ref (ad 18)) hx hb hts (fun _ h => List.mem_cons_of_mem _ (wwXc_wsX110 _ h)) hown hw 0 rfl rfl 7 (by decide) (hq _ wX_118) rfl dX11_pack_130 ?_
                  refine lv_iload_n hx hb dX11_pack_133 rfl (lv_at hl 3 rfl) ?_
                  refine lv_iload hx hb dX11_pack_134 (lv_at hl 0 rfl) ?_
                  refine jx_Vv (As := [.int x75, .int r119]) (rest := []) ⟨hx, hb, hml, hown, hts⟩ hZ hw hA (jx_X7_writeHead l hlt D t3 cI cJ ad g120 l121 a122 b123 _ x75 r119 (ob401 ((x75).toInt) (k80 : Int) ((g 13).toInt) ((z114).toInt) ((r64).toInt) (((1 : Int32)).toInt) ((g 8).toInt) ((g76 13).toInt) ((r119).toInt) ((g 0).toInt) ((g48 8).toInt) ((g8 0).toInt) (((0 : Int32)).toInt) ((y1).toInt) hrk_B74 (hE_nle cc112) (hE_add hz114) hi_g13 h73 (congrArg Int32.toInt e_g76_13) h128 hi_g8 (hE_ne cc42) (congrArg Int32.toInt e_g48_8) (congrArg Int32.toInt e_g8_0) (hE_ne cc41) (hE_nlt cc1) (hE_rng (x75)) (hE_rng (g 13)) (hE_rng (z114)) (hE_rng (r64)) (by decide) (hE_rng (g 8)) (hE_rng (g76 13)) (hE_rng (r119)) (hE_rng (g 0)) (hE_rng (g48 8)) (hE_rng (g8 0)) (by decide) (hE_rng (y1))) (ob402 ((r119).toInt) ((z114).toInt) ((g 13).toInt) ((g76 13).toInt) ((x75).toInt) ((r64).toInt) (((1 : Int32)).toInt) ((g 8).toInt) (k80 : Int) ((g 0).toInt) ((g48 8).toInt) ((g8 0).toInt) (((0 : Int32)).toInt) h128 hi_g13 (congrArg Int32.toInt e_g76_13) (hE_nle cc112) (hE_add hz114) h73 hrk_B74 hi_g8 (hE_ne cc42) (congrArg Int32.toInt e_g48_8) (congrArg Int32.toInt e_g8_0) (hE_ne cc41) (hE_rng (r119)) (hE_rng (z114)) (hE_rng (g 13)) (hE_rng (g76 13)) (hE_rng (x75)) (hE_rng (r64)) (by decide) (hE_rng (g 8)) (hE_rng (g 0)) (hE_rng (g48 8)) (hE_rng (g8 0)) (by decide)) (hk_pE (P := hk_rg 0 255) ha78_r0rg (h127 0 rfl))) (cwV 2 hts (jx_gV wwX_good wX_148 wX_149 wX_150 wX_122 wX_151) rfl rfl rfl (by decide +kernel) ⟨Nat.le_of_ble_eq_true rfl, Nat.le_of_ble_eq_true rfl⟩) 18 (ci := 10) (T := TX7) (N := 17) rfl rfl rfl hl.1 rfl (Nat.le_of_ble_eq_true rfl) dX11_pack_136 ⟨Nat.le_of_ble_eq_true rfl, Nat.le_of_ble_eq_true rfl⟩ (fun _ _ _ _ _ _ _ _ hp _ _ _ _ => hp.elim) (fun g134 l135 a136 b137 H locs hp138 hw => ?_)
                  obtain ⟨h139, h140, h141, h142⟩ := hp138
                  have hr143 : hk_rg (-2147483648) 273 (a136 8) := (hk_pE (P := hk_rg (-2147483648) 273) (hk_pE (P := hk_rg (-2147483648) 273) ha78_r8rg (h127 8 rfl)) (h141 8 rfl))
                  have hr144 : hk_rg (-2147483648) 1501 (a136 12) := (hk_pE (P := hk_rg (-2147483648) 1501) (hk_pE (P := hk_rg (-2147483648) 1501) ha78_r12rg (h127 12 rfl)) (h141 12 rfl))
                  have hr145 : hk_rm 5 3 (-3000) 3000 (a136 7) := (hk_pE (P := hk_rm 5 3 (-3000) 3000) (hk_pE (P := hk_rm 5 3 (-3000) 3000) ha78_r7rm (h127 7 rfl)) (h141 7 rfl))
                  refine lv_aload_n hx hb dX11_pack_139 rfl (lv_at hl 1 rfl) ?_
                  refine hk_get (ci := 14) (C := RX11) (T := TX11) (N := 11) (v := .ref (ad 18)) hx hb hts (fun _ h => List.mem_cons_of_mem _ (wwXc_wsX110 _ h)) hown hw 0 rfl rfl 7 (by decide) (hq _ wX_118) rfl dX11_pack_140 ?_
                  refine lv_iload_n hx hb dX11_pack_143 rfl (lv_at hl 3 rfl) ?_
                  refine lv_iload hx hb dX11_pack_144 (lv_at hl 0 rfl) ?_
                  have e_g134_7 : g134 7 = (g 7) := ((h139 7 rfl)).trans (((h125 7 rfl)).trans (((hfr_g76 7 rfl)).trans (((h70 7 rfl)).trans (((h53 7 rfl)).trans (h13 7 rfl)))))
                  have e_g134_21 : g134 21 = (g8 21) := ((h139 21 rfl)).trans (((h125 21 rfl)).trans (((hfr_g76 21 rfl)).trans (((h70 21 rfl)).trans (h53 21 rfl))))
                  have e_g134_22 : g134 22 = (g8 22) := ((h139 22 rfl)).trans (((h125 22 rfl)).trans (((hfr_g76 22 rfl)).trans (((h70 22 rfl)).trans (h53 22 rfl))))
                  have e_g134_41 : g134 41 = (g76 41) := ((h139 41 rfl)).trans (h125 41 rfl)
                  refine jx_Vv (As := [.int x75, .int r119]) (rest := []) ⟨hx, hb, hml, hown, hts⟩ hZ hw hA (jx_X7_writeChunks l hlt D t3 cI cJ ad g134 l135 a136 b137 _ x75 r119 (ob403 ((x75).toInt) (k80 : Int) ((g 13).toInt) ((z114).toInt) ((r64).toInt) (((1 : Int32)).toInt) ((g 8).toInt) ((g76 13).toInt) ((r119).toInt) ((g 0).toInt) ((g48 8).toInt) ((g8 0).toInt) (((0 : Int32)).toInt) ((y1).toInt) hrk_B74 (hE_nle cc112) (hE_add hz114) hi_g13 h73 (congrArg Int32.toInt e_g76_13) h128 hi_g8 (hE_ne cc42) (congrArg Int32.toInt e_g48_8) (congrArg Int32.toInt e_g8_0) (hE_ne cc41) (hE_nlt cc1) (hE_rng (x75)) (hE_rng (g 13)) (hE_rng (z114)) (hE_rng (r64)) (by decide) (hE_rng (g 8)) (hE_rng (g76 13)) (hE_rng (r119)) (hE_rng (g 0)) (hE_rng (g48 8)) (hE_rng (g8 0)) (by decide) (hE_rng (y1))) (ob404 ((r119).toInt) ((z114).toInt) ((g 13).toInt) ((g76 13).toInt) ((x75).toInt) ((r64).toInt) (((1 : Int32)).toInt) ((g 8).toInt) (k80 : Int) ((g 0).toInt) ((g48 8).toInt) ((g8 0).toInt) (((0 : Int32)).toInt) h128 hi_g13 (congrArg Int32.toInt e_g76_13) (hE_nle cc112) (hE_add hz114) h73 hrk_B74 hi_g8 (hE_ne cc42) (congrArg Int32.toInt e_g48_8) (congrArg Int32.toInt e_g8_0) (hE_ne cc41) (hE_rng (r119)) (hE_rng (z114)) (hE_rng (g 13)) (hE_rng (g76 13)) (hE_rng (x75)) (hE_rng (r64)) (by decide) (hE_rng (g 8)) (hE_rng (g 0)) (hE_rng (g48 8)) (hE_rng (g8 0)) (by decide)) (ob383 ((g134 7).toInt) ((g 7).toInt) (congrArg Int32.toInt e_g134_7) hi_g7 (hE_rng (g134 7)) (hE_rng (g 7))) (ob61 ((g134 21).toInt) ((g8 21).toInt) (congrArg Int32.toInt e_g134_21) h17 (hE_rng (g134 21)) (hE_rng (g8 21))) (ob61 ((g134 22).toInt) ((g8 22).toInt) (congrArg Int32.toInt e_g134_22) h18 (hE_rng (g134 22)) (hE_rng (g8 22))) hr143 hr144 (ob229 ((g134 41).toInt) ((g76 41).toInt) (congrArg Int32.toInt e_g134_41) hf_B74_1 (hE_rng (g134 41)) (hE_rng (g76 41))) h142) (cwV 2 hts (jx_gV wwX_good wX_128 wX_129 wX_130 wX_122 wX_131) rfl rfl rfl (by decide +kernel) ⟨Nat.le_of_ble_eq_true rfl, Nat.le_of_ble_eq_true rfl⟩) 18 (ci := 10) (T := TX7) (N := 17) rfl rfl rfl hl.1 rfl (Nat.le_of_ble_eq_true rfl) dX11_pack_146 ⟨Nat.le_of_ble_eq_true rfl, Nat.le_of_ble_eq_true rfl⟩ (fun _ _ _ _ _ _ _ _ hp _ _ _ _ => hp.elim) (fun g151 l152 a153 b154 H locs hp155 hw => ?_)
                  obtain ⟨h156, h157, h158, h159, h160, h161⟩ := hp155
                  refine lv_aload_n hx hb dX11_pack_149 rfl (lv_at hl 1 rfl) ?_
                  refine hk_get (ci := 14) (C := RX11) (T := TX11) (N := 11) (v := .ref (ad 18)) hx hb hts (fun _ h => List.mem_cons_of_mem _ (wwXc_wsX110 _ h)) hown hw 0 rfl rfl 7 (by decide) (hq _ wX_118) rfl dX11_pack_150 ?_
                  refine lv_iload_n hx hb dX11_pack_153 rfl (lv_at hl 3 rfl) ?_
                  refine lv_iload hx hb dX11_pack_154 (lv_at hl 0 rfl) ?_
                  have e_g151_26 : g151 26 = (g76 26) := ((h156 26 rfl)).trans (((h139 26 rfl)).trans (h125 26 rfl))
                  refine jx_Vv (As := [.int x75, .int r119]) (rest := []) ⟨hx, hb, hml, hown, hts⟩ hZ hw hA (jx_X7_writeTail l hlt D t3 cI cJ ad g151 l152 a153 b154 _ x75 r119 (ob401 ((x75).toInt) (k80 : Int) ((g 13).toInt) ((z114).toInt) ((r64).toInt) (((1 : Int32)).toInt) ((g 8).toInt) ((g76 13).toInt) ((r119).toInt) ((g 0).toInt) ((g48 8).toInt) ((g8 0).toInt) (((0 : Int32)).toInt) ((y1).toInt) hrk_B74 (hE_nle cc112) (hE_add hz114) hi_g13 h73 (congrArg Int32.toInt e_g76_13) h128 hi_g8 (hE_ne cc42) (congrArg Int32.toInt e_g48_8) (congrArg Int32.toInt e_g8_0) (hE_ne cc41) (hE_nlt cc1) (hE_rng (x75)) (hE_rng (g 13)) (hE_rng (z114)) (hE_rng (r64)) (by decide) (hE_rng (g 8)) (hE_rng (g76 13)) (hE_rng (r119)) (hE_rng (g 0)) (hE_rng (g48 8)) (hE_rng (g8 0)) (by decide) (hE_rng (y1))) (ob402 ((r119).toInt) ((z114).toInt) ((g 13).toInt) ((g76 13).toInt) ((x75).toInt) ((r64).toInt) (((1 : Int32)).toInt) ((g 8).toInt) (k80 : Int) ((g 0).toInt) ((g48 8).toInt) ((g8 0).toInt) (((0 : Int32)).toInt) h128 hi_g13 (congrArg Int32.toInt e_g76_13) (hE_nle cc112) (hE_add hz114) h73 hrk_B74 hi_g8 (hE_ne cc42) (congrArg Int32.toInt e_g48_8) (congrArg Int32.toInt e_g8_0) (hE_ne cc41) (hE_rng (r119)) (hE_rng (z114)) (hE_rng (g 13)) (hE_rng (g76 13)) (hE_rng (x75)) (hE_rng (r64)) (by decide) (hE_rng (g 8)) (hE_rng (g 0)) (hE_rng (g48 8)) (hE_rng (g8 0)) (by decide)) (ob254 ((g151 26).toInt) ((g76 26).toInt) (congrArg Int32.toInt e_g151_26) hf_B74_0 (hE_rng (g151 26)) (hE_rng (g76 26))) (hk_pE (P := hk_rm 5 3 (-3000) 3000) hr145 (h158 7 rfl))) (cwV 2 hts (jx_gV wwX_good wX_152 wX_153 wX_154 wX_122 wX_155) rfl rfl rfl (by decide +kernel) ⟨Nat.le_of_ble_eq_true rfl, Nat.le_of_ble_eq_true rfl⟩) 18 (ci := 10) (T := TX7) (N := 17) rfl rfl rfl hl.1 rfl (Nat.le_of_ble_eq_true rfl) dX11_pack_156 ⟨Nat.le_of_ble_eq_true rfl, Nat.le_of_ble_eq_true rfl⟩ (fun _ _ _ _ _ _ _ _ hp _ _ _ _ => hp.elim) (fun g167 l168 a169 b170 H locs hp171 hw => ?_)
                  obtain ⟨h172, h173, h174, h175, h176⟩ := hp171
                  have hr177 : hk_rg 0 255 (a169 0) := (hk_pE (P := hk_rg 0 255) (hk_pE (P := hk_rg 0 255) h142 (h158 0 rfl)) (h174 0 rfl))
                  refine lv_iload_n hx hb dX11_pack_159 rfl (lv_at hl 3 rfl) ?_
                  refine lv_iload_n hx hb dX11_pack_160 rfl (lv_at hl 2 rfl) ?_
                  refine lv_iadd hx hb dX11_pack_161 (jx_nm fun z178 hz178 => ?_)
                  refine lv_istore_n (lv' := [(3, .int z178), (4, .int r119), (0, .ref (ad 0)), (2, .int r64)]) hx hb dX11_pack_162 rfl hl (by decide) rfl (fun ls hl => ?_)
                  refine lv_goto (tgt := 90) hx hb dX11_pack_163 (by decide) ?_
                  have e_g167_41 : g167 41 = (g151 41) := (h172 41 rfl)
                  exact ih_B74 z178 g167 l168 a169 b170 ls _ _ (ob405 ((z178).toInt) (k80 : Int) ((x75).toInt) ((r64).toInt) (((1 : Int32)).toInt) ((g 8).toInt) ((g 13).toInt) ((z114).toInt) ((g 0).toInt) ((g48 8).toInt) ((g76 13).toInt) ((r119).toInt) ((g8 0).toInt) (((0 : Int32)).toInt) ((y1).toInt) hrk_B74 (hE_add hz178) h73 (hE_nle cc112) (hE_add hz114) hi_g8 hi_g13 (hE_ne cc42) (congrArg Int32.toInt e_g48_8) (congrArg Int32.toInt e_g76_13) h128 (congrArg Int32.toInt e_g8_0) (hE_ne cc41) (hE_nlt cc1) (hE_rng (z178)) (hE_rng (x75)) (hE_rng (r64)) (by decide) (hE_rng (g 8)) (hE_rng (g 13)) (hE_rng (z114)) (hE_rng (g 0)) (hE_rng (g48 8)) (hE_rng (g76 13)) (hE_rng (r119)) (hE_rng (g8 0)) (by decide) (hE_rng (y1))) (ob290 ((g167 26).toInt) h175 (hE_rng (g167 26))) (ob229 ((g167 41).toInt) ((g151 41).toInt) (congrArg Int32.toInt e_g167_41) h161 (hE_rng (g167 41)) (hE_rng (g151 41))) (hk_frT (hk_frT (hk_frT (hk_frT hfr_g76 (by decide) h125) (by decide) h139) (by decide) h156) (by decide) h172) (hk_frT (hk_frT (hk_frT (hk_frT hfr_l77 (by decide) h126) (by decide) h140) (by decide) h157) (by decide) h173) (hk_frT (hk_frT (hk_frT (hk_frT hfr_a78 (by decide) h127) (by decide) h141) (by decide) h158) (by decide) h174) (hk_pE (P := hk_rg (-2147483648) 273) h159 (h174 8 rfl)) (hk_pE (P := hk_rg (-2147483648) 1501) h160 (h174 12 rfl)) hr177 h176 hw (lv_sub hl [2, 3, 0] rfl)
          have e_g65_26 : g65 26 = (g8 26) := ((h70 26 rfl)).trans (h53 26 rfl)
          have e_g65_41 : g65 41 = (g 41) := ((h70 41 rfl)).trans (((h53 41 rfl)).trans (h13 41 rfl))
          exact B74 (2147483648 - ((0 : Int32)).toInt).toNat 0 g65 l66 a67 b68 ls _ _ (Int.self_le_toNat _) (ob254 ((g65 26).toInt) ((g8 26).toInt) (congrArg Int32.toInt e_g65_26) h16 (hE_rng (g65 26)) (hE_rng (g8 26))) (ob229 ((g65 41).toInt) ((g 41).toInt) (congrArg Int32.toInt e_g65_41) hi_g41 (hE_rng (g65 41)) (hE_rng (g 41))) hk_fr0 hk_fr0 hk_fr0 (hk_pE (P := hk_rg (-2147483648) 273) hr56 (h72 8 rfl)) (hk_pE (P := hk_rg (-2147483648) 1501) hr57 (h72 12 rfl)) (hk_pE (P := hk_rg 0 255) hr58 (h72 0 rfl)) (hk_pE (P := hk_rm 5 3 (-3000) 3000) hr59 (h72 7 rfl)) hw (lv_sub hl [2, 1, 0] rfl)
        · refine lv_aload_n hx hb dX11_pack_44 rfl (lv_at hl 0 rfl) ?_
          refine hk_get (ci := 14) (C := RX11) (T := TX11) (N := 11) (v := .ref (ad 18)) hx hb hts (fun _ h => List.mem_cons_of_mem _ (wwXc_wsX110 _ h)) hown hw 0 rfl rfl 7 (by decide) (hq _ wX_118) rfl dX11_pack_45 ?_
          refine lv_iconst (v := 0) hx hb dX11_pack_48 (by decide) ?_
          refine lv_aload_n hx hb dX11_pack_49 rfl (lv_at hl 0 rfl) ?_
          refine hk_get (ci := 14) (C := RX11) (T := TX11) (N := 11) (v := .ref (ad 2)) hx hb hts (fun _ h => List.mem_cons_of_mem _ (wwXc_wsX110 _ h)) hown hw 0 rfl rfl 2 (by decide) (hq _ wX_83) rfl dX11_pack_50 ?_
          have e_g8_13 : g8 13 = (g 13) := (h13 13 rfl)
          refine hk_get (ci := 12) (C := RX9) (T := TX9) (N := 2) (v := .int (g 13)) hx hb hts (fun _ h => List.mem_cons_of_mem _ (wwXc_wsX90 _ h)) hown hw 2 rfl rfl 1 (by decide) (hq _ wX_77) (congrArg (fun z => some (Value.int z)) e_g8_13) dX11_pack_53 ?_
          have e_g8_7 : g8 7 = (g 7) := (h13 7 rfl)
          have e_g8_41 : g8 41 = (g 41) := (h13 41 rfl)
          refine jx_Vv (As := [.int 0, .int (g 13)]) (rest := []) ⟨hx, hb, hml, hown, hts⟩ hZ hw hA (jx_X7_writeChunks l hlt D t3 cI cJ ad g8 l9 a10 b11 _ 0 (g 13) (ob406 (((0 : Int32)).toInt) ((y1).toInt) ((g 0).toInt) (((2 : Int32)).toInt) ((g8 0).toInt) (((1 : Int32)).toInt) (hE_nlt cc1) (hE_ne cc41) (hE_le cc2) (congrArg Int32.toInt e_g8_0) (hE_eq cc42) (by decide) (hE_rng (y1)) (hE_rng (g 0)) (by decide) (hE_rng (g8 0)) (by decide)) (ob407 ((g 13).toInt) ((g8 13).toInt) hi_g13 (congrArg Int32.toInt e_g8_13) (hE_rng (g 13)) (hE_rng (g8 13))) (ob383 ((g8 7).toInt) ((g 7).toInt) (congrArg Int32.toInt e_g8_7) hi_g7 (hE_rng (g8 7)) (hE_rng (g 7))) (ob256 ((g8 21).toInt) h17 (hE_rng (g8 21))) (ob256 ((g8 22).toInt) h18 (hE_rng (g8 22))) (hk_pE (P := hk_rg (-2147483648) 273) hi_a8rg (h15 8 rfl)) (hk_pE (P := hk_rg (-2147483648) 1501) hi_a12rg (h15 12 rfl)) (ob229 ((g8 41).toInt) ((g 41).toInt) (congrArg Int32.toInt e_g8_41) hi_g41 (hE_rng (g8 41)) (hE_rng (g 41))) (hk_pE (P := hk_rg 0 255) hi_a0rg (h15 0 rfl))) (cwV 2 hts (jx_gV wwX_good wX_128 wX_129 wX_130 wX_122 wX_131) rfl rfl rfl (by decide +kernel) ⟨Nat.le_of_ble_eq_true rfl, Nat.le_of_ble_eq_true rfl⟩) 18 (ci := 10) (T := TX7) (N := 17) rfl rfl rfl hl.1 rfl (Nat.le_of_ble_eq_true rfl) dX11_pack_56 ⟨Nat.le_of_ble_eq_true rfl, Nat.le_of_ble_eq_true rfl⟩ (fun _ _ _ _ _ _ _ _ hp _ _ _ _ => hp.elim) (fun g184 l185 a186 b187 H locs hp188 hw => ?_)
          obtain ⟨h189, h190, h191, h192, h193, h194⟩ := hp188
          have hr195 : hk_rg 0 255 (a186 0) := (hk_pE (P := hk_rg 0 255) (hk_pE (P := hk_rg 0 255) hi_a0rg (h15 0 rfl)) (h191 0 rfl))
          have hr196 : hk_rm 5 3 (-3000) 3000 (a186 7) := (hk_pE (P := hk_rm 5 3 (-3000) 3000) (hk_pE (P := hk_rm 5 3 (-3000) 3000) hi_a7rm (h15 7 rfl)) (h191 7 rfl))
          refine lv_aload_n hx hb dX11_pack_59 rfl (lv_at hl 0 rfl) ?_
          refine hk_get (ci := 14) (C := RX11) (T := TX11) (N := 11) (v := .ref (ad 18)) hx hb hts (fun _ h => List.mem_cons_of_mem _ (wwXc_wsX110 _ h)) hown hw 0 rfl rfl 7 (by decide) (hq _ wX_118) rfl dX11_pack_60 ?_
          have e_g184_13 : g184 13 = (g 13) := ((h189 13 rfl)).trans e_g8_13
          have e_g184_26 : g184 26 = (g8 26) := (h189 26 rfl)
          refine jx_Vv (As := []) (rest := []) ⟨hx, hb, hml, hown, hts⟩ hZ hw hA (jx_X7_noteChunks l hlt D t3 cI cJ ad g184 l185 a186 b187 _ (ob408 ((g184 13).toInt) ((g 13).toInt) ((g8 13).toInt) (congrArg Int32.toInt e_g184_13) hi_g13 (congrArg Int32.toInt e_g8_13) (hE_rng (g184 13)) (hE_rng (g 13)) (hE_rng (g8 13))) (ob254 ((g184 26).toInt) ((g8 26).toInt) (congrArg Int32.toInt e_g184_26) h16 (hE_rng (g184 26)) (hE_rng (g8 26))) hr196) (cwV 0 hts (jx_gV wwX_good wX_132 wX_133 wX_134 wX_122 wX_135) rfl rfl rfl (by decide +kernel) ⟨Nat.le_of_ble_eq_true rfl, Nat.le_of_ble_eq_true rfl⟩) 18 (ci := 10) (T := TX7) (N := 17) rfl rfl rfl hl.1 rfl (Nat.le_of_ble_eq_true rfl) dX11_pack_63 ⟨Nat.le_of_ble_eq_true rfl, Nat.le_of_ble_eq_true rfl⟩ (fun _ _ _ _ _ _ _ _ hp _ _ _ _ => hp.elim) (fun g202 l203 a204 b205 H locs hp206 hw => ?_)
          obtain ⟨h207, h208, h209, h210, h211⟩ := hp206
          refine lv_goto (tgt := 180) hx hb dX11_pack_66 (by decide) ?_
          have e_g202_41 : g202 41 = (g184 41) := (h207 41 rfl)
          exact B19 g202 l203 a204 b205 ls _ _ (ob290 ((g202 26).toInt) h210 (hE_rng (g202 26))) (ob229 ((g202 41).toInt) ((g184 41).toInt) (congrArg Int32.toInt e_g202_41) h194 (hE_rng (g202 41)) (hE_rng (g184 41))) (hk_frT (hk_frT hk_fr0 (by decide) h189) (by decide) h207) (hk_frT h190 (by decide) h208) (hk_frT (hk_frT hk_fr0 (by decide) h191) (by decide) h209) (hk_pE (P := hk_rg (-2147483648) 273) h192 (h209 8 rfl)) (hk_pE (P := hk_rg (-2147483648) 1501) h193 (h209 12 rfl)) (hk_pE (P := hk_rg 0 255) hr195 (h209 0 rfl)) h211 hw (lv_sub hl [0] rfl)
      · refine lv_aload_n hx hb dX11_pack_26 rfl (lv_at hl 0 rfl) ?_
        refine hk_get (ci := 14) (C := RX11) (T := TX11) (N := 11) (v := .ref (ad 18)) hx hb hts (fun _ h => List.mem_cons_of_mem _ (wwXc_wsX110 _ h)) hown hw 0 rfl rfl 7 (by decide) (hq _ wX_118) rfl dX11_pack_27 ?_
        have e_g8_13 : g8 13 = (g 13) := (h13 13 rfl)
        have e_g8_41 : g8 41 = (g 41) := (h13 41 rfl)
        refine jx_Vv (As := []) (rest := []) ⟨hx, hb, hml, hown, hts⟩ hZ hw hA (jx_X7_writeAlone l hlt D t3 cI cJ ad g8 l9 a10 b11 _ (ob409 ((g8 13).toInt) ((g 13).toInt) (congrArg Int32.toInt e_g8_13) hi_g13 (hE_rng (g8 13)) (hE_rng (g 13))) (hk_pE (P := hk_rg (-2147483648) 273) hi_a8rg (h15 8 rfl)) (hk_pE (P := hk_rg (-2147483648) 1501) hi_a12rg (h15 12 rfl)) (ob229 ((g8 41).toInt) ((g 41).toInt) (congrArg Int32.toInt e_g8_41) hi_g41 (hE_rng (g8 41)) (hE_rng (g 41))) (hk_pE (P := hk_rg 0 255) hi_a0rg (h15 0 rfl))) (cwV 0 hts (jx_gV wwX_good wX_124 wX_125 wX_126 wX_122 wX_127) rfl rfl rfl (by decide +kernel) ⟨Nat.le_of_ble_eq_true rfl, Nat.le_of_ble_eq_true rfl⟩) 18 (ci := 10) (T := TX7) (N := 17) rfl rfl rfl hl.1 rfl (Nat.le_of_ble_eq_true rfl) dX11_pack_30 ⟨Nat.le_of_ble_eq_true rfl, Nat.le_of_ble_eq_true rfl⟩ (fun _ _ _ _ _ _ _ _ hp _ _ _ _ => hp.elim) (fun g217 l218 a219 b220 H locs hp221 hw => ?_)
        obtain ⟨h222, h223, h224, h225, h226, h227⟩ := hp221
        have hr228 : hk_rg 0 255 (a219 0) := (hk_pE (P := hk_rg 0 255) (hk_pE (P := hk_rg 0 255) hi_a0rg (h15 0 rfl)) (h224 0 rfl))
        have hr229 : hk_rm 5 3 (-3000) 3000 (a219 7) := (hk_pE (P := hk_rm 5 3 (-3000) 3000) (hk_pE (P := hk_rm 5 3 (-3000) 3000) hi_a7rm (h15 7 rfl)) (h224 7 rfl))
        refine lv_goto (tgt := 180) hx hb dX11_pack_33 (by decide) ?_
        have e_g217_26 : g217 26 = (g8 26) := (h222 26 rfl)
        exact B19 g217 l218 a219 b220 ls _ _ (ob254 ((g217 26).toInt) ((g8 26).toInt) (congrArg Int32.toInt e_g217_26) h16 (hE_rng (g217 26)) (hE_rng (g8 26))) (ob227 ((g217 41).toInt) h227 (hE_rng (g217 41))) (hk_frT hk_fr0 (by decide) h222) h223 (hk_frT hk_fr0 (by decide) h224) h225 h226 hr228 hr229 hw (lv_sub hl [0] rfl)
    · refine lv_iconst (v := (-1)) hx hb dX11_pack_9 (by decide) ?_
      exact kr (-1) g lg ar bk _ _ _ _ ⟨hk_fr0, hk_fr0, hk_fr0, (ob398 ((g 14).toInt) (hE_rng (g 14))), (ob290 ((g 26).toInt) hi_g26 (hE_rng (g 26))), (ob256 ((g 21).toInt) hi_g21 (hE_rng (g 21))), (ob256 ((g 22).toInt) hi_g22 (hE_rng (g 22))), (ob6 ((g 13).toInt) hi_g13 (hE_rng (g 13))), hi_a8rg, hi_a12rg, (ob227 ((g 41).toInt) hi_g41 (hE_rng (g 41))), hi_a0rg, hi_a7rm⟩ hw dX11_pack_10

set_option maxHeartbeats 4000000 in
set_option maxRecDepth 100000 in
/-- X11_finishOpening on (0,) -/
theorem jx_X11_finishOpening (l : Launch) (hlt : l.stackTraces = false) (D : va_G) (t3 : Nat × Nat × Nat) (cI cJ : ClassId) (ad : Nat → Nat) (g : Nat → Int32) (lg : Nat → Int64) (ar : Nat → Nat → Int32) (bk : Nat → Int64) (sz : Nat) (y1 : Int32) (hi_g26 : 0 ≤ (g 26).toInt ∧ (g 26).toInt ≤ 200) (hi_a7rm : hk_rm 5 3 (-3000) 3000 (ar 7)) : JMi l yX11_finishOpening (Cond.code yX11_finishOpening cX11_finishOpening 2 (some .int) :: wwX) { frames := 2, cells := 1, slots := 6, locals := 44 } t3 D xw cI cJ ad [.ref (ad 0), .int y1] (xw cI cJ ad g lg ar bk) sz 1 6 (fun (r : Int32) g' lg' ar' bk' => hk_fr [1, 14] g g' ∧ hk_fr [] lg lg' ∧ hk_fr [] ar ar') (fun g' lg' ar' bk' => False) := by
  refine jx_meti (cc := cX11_finishOpening) (maxL := 2) (ret := (some .int)) rfl (by decide) rfl (Nat.le_of_ble_eq_true rfl) ?_
  intro p e s m args below meth c ls Q A hx hb hml hown hts hA hZ hw hl hQ kr kt
  have hq : ∀ w ∈ wwX, w.before args s = true := fun w h => hts w (List.mem_cons_of_mem _ h)
  have hl : lv_has ls 2 [(0, .ref (ad 0)), (1, .int y1)] := hl
  refine lv_aload_n hx hb dX11_finishOpening_0 rfl (lv_at hl 0 rfl) ?_
  refine lv_iload_n hx hb dX11_finishOpening_1 rfl (lv_at hl 1 rfl) ?_
  have B1 : ∀  (x2 : Int32) (ls : Array Slot) (H : Heap) (locs : List Loc), hk_W D (jT cI cJ) A s H locs (xw cI cJ ad g lg ar bk) → lv_has ls 2 [(0, .ref (ad 0)), (1, .int y1)] → W p l e { frames := 2, cells := 1, slots := 6, locals := 44 } s m args below meth c H locs 0 0 Q (F0 m 19 ls [.int x2, .ref (ad 0)]) := by
    intro x2 ls H locs hw hl
    refine jx_putg xw (g := g) (lg := lg) (ar := ar) (bk := bk) (x := x2) 1 (ci := 14) (C := RX11) (T := TX11) (N := 11) (ty := .int) hx hb hts (fun _ h => List.mem_cons_of_mem _ (wwXc_wsX110 _ h)) tyX11 tyX11_ok nmX11 hown hw 0 rfl rfl 9 (by decide) (hq _ wX_97) rfl (by decide +kernel) rfl rfl (Nat.le_of_ble_eq_true rfl) dX11_finishOpening_19 rfl (fun H locs g3 h_g3 hw => ?_)
    refine lv_iload_n hx hb dX11_finishOpening_22 rfl (lv_at hl 1 rfl) ?_
    refine lv_if_eq (tgt := 34) hx hb dX11_finishOpening_23 (by decide) (fun cc4 => ?_) (fun cc4 => ?_)
    · refine lv_aload_n hx hb dX11_finishOpening_34 rfl (lv_at hl 0 rfl) ?_
      have e_g3_0 : g3 0 = (g 0) := (hk_upgN h_g3 0 rfl)
      refine hk_get (ci := 14) (C := RX11) (T := TX11) (N := 11) (v := .int (g 0)) hx hb hts (fun _ h => List.mem_cons_of_mem _ (wwXc_wsX110 _ h)) hown hw 0 rfl rfl 0 (by decide) (hq _ wX_98) (congrArg (fun z => some (Value.int z)) e_g3_0) dX11_finishOpening_35 ?_
      refine lv_iconst (v := 2) hx hb dX11_finishOpening_38 (by decide) ?_
      have B5 : ∀  (g6 : Nat → Int32) (ls : Array Slot) (H : Heap) (locs : List Loc), hk_fr [14] g3 g6 → hk_W D (jT cI cJ) A s H locs (xw cI cJ ad g6 lg ar bk) → lv_has ls 2 [(0, .ref (ad 0))] → W p l e { frames := 2, cells := 1, slots := 6, locals := 44 } s m args below meth c H locs 0 0 Q (F0 m 56 ls []) := by
        intro g6 ls H locs hfr_g6 hw hl
        refine lv_bipush (v := (-10)) hx hb dX11_finishOpening_56 (by decide) ?_
        refine lv_aload_n hx hb dX11_finishOpening_58 rfl (lv_at hl 0 rfl) ?_
        refine hk_get (ci := 14) (C := RX11) (T := TX11) (N := 11) (v := .ref (ad 25)) hx hb hts (fun _ h => List.mem_cons_of_mem _ (wwXc_wsX110 _ h)) hown hw 0 rfl rfl 8 (by decide) (hq _ wX_94) rfl dX11_finishOpening_59 ?_
        refine hk_get (ci := 9) (C := RX6) (T := TX6) (N := 16) (v := .ref (ad 6)) hx hb hts (fun _ h => List.mem_cons_of_mem _ (wwXc_wsX60 _ h)) hown hw 25 rfl rfl 0 (by decide) (hq _ wX_95) rfl dX11_finishOpening_62 ?_
        have e_g6_15 : g6 15 = (g 15) := ((hfr_g6 15 rfl)).trans (hk_upgN h_g3 15 rfl)
        refine hk_get (ci := 11) (C := RX8) (T := TX8) (N := 4) (v := .int (g 15)) hx hb hts (fun _ h => List.mem_cons_of_mem _ (wwXc_wsX80 _ h)) hown hw 6 rfl rfl 1 (by decide) (hq _ wX_103) (congrArg (fun z => some (Value.int z)) e_g6_15) dX11_finishOpening_65 ?_
        refine lv_isub hx hb dX11_finishOpening_68 (jx_nm fun z7 hz7 => ?_)
        exact kr z7 g6 lg ar bk _ _ _ _ ⟨(hk_frT (hk_frG hk_fr0 (by decide) h_g3) (by decide) hfr_g6), hk_fr0, hk_fr0⟩ hw dX11_finishOpening_69
      refine lv_icmp_ne (tgt := 56) hx hb dX11_finishOpening_39 (by decide) (fun cc8 => ?_) (fun cc8 => ?_)
      · exact B5 g3 ls _ _ hk_fr0 hw (lv_sub hl [0] rfl)
      · refine lv_aload_n hx hb dX11_finishOpening_42 rfl (lv_at hl 0 rfl) ?_
        refine hk_get (ci := 14) (C := RX11) (T := TX11) (N := 11) (v := .ref (ad 4)) hx hb hts (fun _ h => List.mem_cons_of_mem _ (wwXc_wsX110 _ h)) hown hw 0 rfl rfl 3 (by decide) (hq _ wX_76) rfl dX11_finishOpening_43 ?_
        refine lv_aload_n hx hb dX11_finishOpening_46 rfl (lv_at hl 0 rfl) ?_
        refine hk_get (ci := 14) (C := RX11) (T := TX11) (N := 11) (v := .ref (ad 15)) hx hb hts (fun _ h => List.mem_cons_of_mem _ (wwXc_wsX110 _ h)) hown hw 0 rfl rfl 6 (by decide) (hq _ wX_64) rfl dX11_finishOpening_47 ?_
        have e_g3_26 : g3 26 = (g 26) := (hk_upgN h_g3 26 rfl)
        refine jx_Vi (As := []) (rest := [.ref (ad 4)]) ⟨hx, hb, hml, hown, hts⟩ hZ hw hA (jx_X4_bytesOfBlocks l hlt D t3 cI cJ ad g3 lg ar bk _ (ob254 ((g3 26).toInt) ((g 26).toInt) (congrArg Int32.toInt e_g3_26) hi_g26 (hE_rng (g3 26)) (hE_rng (g 26))) hi_a7rm) (cwV 0 hts (jx_gV wwX_good wX_99 wX_100 wX_101 wX_69 wX_102) rfl rfl rfl (by decide +kernel) ⟨Nat.le_of_ble_eq_true rfl, Nat.le_of_ble_eq_true rfl⟩) 15 (ci := 7) (T := TX4) (N := 4) rfl rfl rfl hl.1 rfl (Nat.le_of_ble_eq_true rfl) dX11_finishOpening_50 ⟨Nat.le_of_ble_eq_true rfl, Nat.le_of_ble_eq_true rfl⟩ (fun _ _ _ _ _ _ _ _ hp _ _ _ _ => hp.elim) (fun r13 g14 l15 a16 b17 H locs hp18 hw => ?_)
        obtain ⟨h19, h20, h21, h22⟩ := hp18
        refine jx_putg xw (g := g14) (lg := l15) (ar := a16) (bk := b17) (x := r13) 14 (ci := 12) (C := RX9) (T := TX9) (N := 2) (ty := .int) hx hb hts (fun _ h => List.mem_cons_of_mem _ (wwXc_wsX90 _ h)) tyX9 tyX9_ok nmX9 hown hw 4 rfl rfl 1 (by decide) (hq _ wX_77) rfl (by decide +kernel) rfl rfl (Nat.le_of_ble_eq_true rfl) dX11_finishOpening_53 rfl (fun H locs g23 h_g23 hw => ?_)
        exact B5 g23 ls _ _ (hk_frG (hk_frT hk_fr0 (by decide) h19) (by decide) h_g23) hw (lv_sub hl [0] rfl)
    · refine lv_aload_n hx hb dX11_finishOpening_26 rfl (lv_at hl 0 rfl) ?_
      refine hk_get (ci := 14) (C := RX11) (T := TX11) (N := 11) (v := .ref (ad 4)) hx hb hts (fun _ h => List.mem_cons_of_mem _ (wwXc_wsX110 _ h)) hown hw 0 rfl rfl 3 (by decide) (hq _ wX_76) rfl dX11_finishOpening_27 ?_
      have e_g3_14 : g3 14 = (g 14) := (hk_upgN h_g3 14 rfl)
      refine hk_get (ci := 12) (C := RX9) (T := TX9) (N := 2) (v := .int (g 14)) hx hb hts (fun _ h => List.mem_cons_of_mem _ (wwXc_wsX90 _ h)) hown hw 4 rfl rfl 1 (by decide) (hq _ wX_77) (congrArg (fun z => some (Value.int z)) e_g3_14) dX11_finishOpening_30 ?_
      exact kr (g 14) g3 lg ar bk _ _ _ _ ⟨(hk_frG hk_fr0 (by decide) h_g3), hk_fr0, hk_fr0⟩ hw dX11_finishOpening_33
  refine lv_if_eq (tgt := 9) hx hb dX11_finishOpening_2 (by decide) (fun cc24 => ?_) (fun cc24 => ?_)
  · refine lv_aload_n hx hb dX11_finishOpening_9 rfl (lv_at hl 0 rfl) ?_
    refine hk_get (ci := 14) (C := RX11) (T := TX11) (N := 11) (v := .ref (ad 25)) hx hb hts (fun _ h => List.mem_cons_of_mem _ (wwXc_wsX110 _ h)) hown hw 0 rfl rfl 8 (by decide) (hq _ wX_94) rfl dX11_finishOpening_10 ?_
    refine hk_get (ci := 9) (C := RX6) (T := TX6) (N := 16) (v := .ref (ad 6)) hx hb hts (fun _ h => List.mem_cons_of_mem _ (wwXc_wsX60 _ h)) hown hw 25 rfl rfl 0 (by decide) (hq _ wX_95) rfl dX11_finishOpening_13 ?_
    refine hk_get (ci := 11) (C := RX8) (T := TX8) (N := 4) (v := .int (g 17)) hx hb hts (fun _ h => List.mem_cons_of_mem _ (wwXc_wsX80 _ h)) hown hw 6 rfl rfl 3 (by decide) (hq _ wX_96) rfl dX11_finishOpening_16 ?_
    exact B1 (g 17) ls _ _ hw (lv_sub hl [0, 1] rfl)
  · refine lv_iconst (v := 0) hx hb dX11_finishOpening_5 (by decide) ?_
    refine lv_goto (tgt := 19) hx hb dX11_finishOpening_6 (by decide) ?_
    exact B1 0 ls _ _ hw (lv_sub hl [0, 1] rfl)

set_option maxHeartbeats 4000000 in
set_option maxRecDepth 100000 in
/-- X11_rule on (0,) -/
theorem jx_X11_rule (l : Launch) (hlt : l.stackTraces = false) (D : va_G) (t3 : Nat × Nat × Nat) (cI cJ : ClassId) (ad : Nat → Nat) (g : Nat → Int32) (lg : Nat → Int64) (ar : Nat → Nat → Int32) (bk : Nat → Int64) (sz : Nat) : JMi l yX11_rule (Cond.code yX11_rule cX11_rule 1 (some .int) :: wwX) { frames := 0, cells := 1, slots := 6, locals := 0 } t3 D xw cI cJ ad [.ref (ad 0)] (xw cI cJ ad g lg ar bk) sz 1 6 (fun (r : Int32) g' lg' ar' bk' => hk_fr [] g g' ∧ hk_fr [] lg lg' ∧ hk_fr [] ar ar') (fun g' lg' ar' bk' => False) := by
  refine jx_meti (cc := cX11_rule) (maxL := 1) (ret := (some .int)) rfl (by decide) rfl (Nat.le_of_ble_eq_true rfl) ?_
  intro p e s m args below meth c ls Q A hx hb hml hown hts hA hZ hw hl hQ kr kt
  have hq : ∀ w ∈ wwX, w.before args s = true := fun w h => hts w (List.mem_cons_of_mem _ h)
  have hl : lv_has ls 1 [(0, .ref (ad 0))] := hl
  refine lv_aload_n hx hb dX11_rule_0 rfl (lv_at hl 0 rfl) ?_
  refine hk_get (ci := 14) (C := RX11) (T := TX11) (N := 11) (v := .int (g 1)) hx hb hts (fun _ h => List.mem_cons_of_mem _ (wwXc_wsX110 _ h)) hown hw 0 rfl rfl 9 (by decide) (hq _ wX_97) rfl dX11_rule_1 ?_
  exact kr (g 1) g lg ar bk _ _ _ _ ⟨hk_fr0, hk_fr0, hk_fr0⟩ hw dX11_rule_4

set_option maxHeartbeats 4000000 in
set_option maxRecDepth 100000 in
/-- X11_pass on (0,) -/
theorem jx_X11_pass (l : Launch) (hlt : l.stackTraces = false) (D : va_G) (t3 : Nat × Nat × Nat) (cI cJ : ClassId) (ad : Nat → Nat) (g : Nat → Int32) (lg : Nat → Int64) (ar : Nat → Nat → Int32) (bk : Nat → Int64) (sz : Nat) (hi_g13 : 0 ≤ (g 13).toInt ∧ (g 13).toInt ≤ 1500) (hi_a0rg : hk_rg 0 255 (ar 0)) : JMi l yX11_pass (Cond.code yX11_pass cX11_pass 2 (some .int) :: wwX) { frames := 2, cells := 1, slots := 6, locals := 43 } t3 D xw cI cJ ad [.ref (ad 0)] (xw cI cJ ad g lg ar bk) sz 1 6 (fun (r : Int32) g' lg' ar' bk' => hk_fr [13] g g' ∧ hk_fr [] lg lg' ∧ hk_fr [0] ar ar' ∧ (0 ≤ (g' 13).toInt ∧ (g' 13).toInt ≤ 1500) ∧ hk_rg 0 255 (ar' 0)) (fun g' lg' ar' bk' => False) := by
  refine jx_meti (cc := cX11_pass) (maxL := 2) (ret := (some .int)) rfl (by decide) rfl (Nat.le_of_ble_eq_true rfl) ?_
  intro p e s m args below meth c ls Q A hx hb hml hown hts hA hZ hw hl hQ kr kt
  have hq : ∀ w ∈ wwX, w.before args s = true := fun w h => hts w (List.mem_cons_of_mem _ h)
  have hl : lv_has ls 2 [(0, .ref (ad 0))] := hl
  refine lv_aload_n hx hb dX11_pass_0 rfl (lv_at hl 0 rfl) ?_
  refine hk_get (ci := 14) (C := RX11) (T := TX11) (N := 11) (v := .ref (ad 4)) hx hb hts (fun _ h => List.mem_cons_of_mem _ (wwXc_wsX110 _ h)) hown hw 0 rfl rfl 3 (by decide) (hq _ wX_76) rfl dX11_pass_1 ?_
  refine hk_get (ci := 12) (C := RX9) (T := TX9) (N := 2) (v := .int (g 14)) hx hb hts (fun _ h => List.mem_cons_of_mem _ (wwXc_wsX90 _ h)) hown hw 4 rfl rfl 1 (by decide) (hq _ wX_77) rfl dX11_pass_4 ?_
  refine lv_sipush (v := 1500) hx hb dX11_pass_7 (by decide) ?_
  refine lv_icmp_le (tgt := 16) hx hb dX11_pass_10 (by decide) (fun cc1 => ?_) (fun cc1 => ?_)
  · refine lv_aload_n hx hb dX11_pass_16 rfl (lv_at hl 0 rfl) ?_
    refine hk_get (ci := 14) (C := RX11) (T := TX11) (N := 11) (v := .ref (ad 2)) hx hb hts (fun _ h => List.mem_cons_of_mem _ (wwXc_wsX110 _ h)) hown hw 0 rfl rfl 2 (by decide) (hq _ wX_83) rfl dX11_pass_17 ?_
    refine lv_iconst (v := 0) hx hb dX11_pass_20 (by decide) ?_
    refine jx_putg xw (g := g) (lg := lg) (ar := ar) (bk := bk) (x := 0) 13 (ci := 12) (C := RX9) (T := TX9) (N := 2) (ty := .int) hx hb hts (fun _ h => List.mem_cons_of_mem _ (wwXc_wsX90 _ h)) tyX9 tyX9_ok nmX9 hown hw 2 rfl rfl 1 (by decide) (hq _ wX_77) rfl (by decide +kernel) rfl rfl (Nat.le_of_ble_eq_true rfl) dX11_pass_21 rfl (fun H locs g2 h_g2 hw => ?_)
    refine lv_iconst (v := 0) hx hb dX11_pass_24 (by decide) ?_
    refine lv_istore_n (lv' := [(1, .int 0), (0, .ref (ad 0))]) hx hb dX11_pass_25 rfl hl (by decide) rfl (fun ls hl => ?_)
    have B3 : ∀ (k7 : Nat) (x4 : Int32) (g5 : Nat → Int32) (a6 : Nat → Nat → Int32) (ls : Array Slot) (H : Heap) (locs : List Loc), 2147483648 - (x4).toInt ≤ (k7 : Int) → (g5 13).toInt = (x4).toInt → 0 ≤ (x4).toInt → 0 ≤ (g5 13).toInt ∧ (g5 13).toInt ≤ 1500 → hk_fr [13] g2 g5 → hk_fr [0] ar a6 → hk_rg 0 255 (a6 0) → hk_W D (jT cI cJ) A s H locs (xw cI cJ ad g5 lg a6 bk) → lv_has ls 2 [(0, .ref (ad 0)), (1, .int x4)] → W p l e { frames := 2, cells := 1, slots := 6, locals := 43 } s m args below meth c H locs 0 0 Q (F0 m 26 ls []) := by
      intro k7
      induction k7 with
      | zero =>
        intro x4 g5 a6 ls H locs hrk_B3 hf_B3_0 hf_B3_1 hf_B3_2 hfr_g5 hfr_a6 ha6_r0rg hw hl
        exact False.elim (hk_no0 (0 * (x4).toInt) (ob410 ((x4).toInt) ((g5 13).toInt) hf_B3_0 hf_B3_1 hrk_B3 hf_B3_2 (hE_rng (x4)) (hE_rng (g5 13))) (by simp))
      | succ k7 ih_B3 =>
        intro x4 g5 a6 ls H locs hrk_B3 hf_B3_0 hf_B3_1 hf_B3_2 hfr_g5 hfr_a6 ha6_r0rg hw hl
        have hrk_B3 := hk_rk hrk_B3
        refine lv_iload_n hx hb dX11_pass_26 rfl (lv_at hl 1 rfl) ?_
        refine lv_aload_n hx hb dX11_pass_27 rfl (lv_at hl 0 rfl) ?_
        refine hk_get (ci := 14) (C := RX11) (T := TX11) (N := 11) (v := .ref (ad 4)) hx hb hts (fun _ h => List.mem_cons_of_mem _ (wwXc_wsX110 _ h)) hown hw 0 rfl rfl 3 (by decide) (hq _ wX_76) rfl dX11_pass_28 ?_
        have e_g5_14 : g5 14 = (g 14) := ((hfr_g5 14 rfl)).trans (hk_upgN h_g2 14 rfl)
        refine hk_get (ci := 12) (C := RX9) (T := TX9) (N := 2) (v := .int (g 14)) hx hb hts (fun _ h => List.mem_cons_of_mem _ (wwXc_wsX90 _ h)) hown hw 4 rfl rfl 1 (by decide) (hq _ wX_77) (congrArg (fun z => some (Value.int z)) e_g5_14) dX11_pass_31 ?_
        refine lv_icmp_ge (tgt := 58) hx hb dX11_pass_34 (by decide) (fun cc8 => ?_) (fun cc8 => ?_)
        · refine lv_aload_n hx hb dX11_pass_58 rfl (lv_at hl 0 rfl) ?_
          refine hk_get (ci := 14) (C := RX11) (T := TX11) (N := 11) (v := .ref (ad 2)) hx hb hts (fun _ h => List.mem_cons_of_mem _ (wwXc_wsX110 _ h)) hown hw 0 rfl rfl 2 (by decide) (hq _ wX_83) rfl dX11_pass_59 ?_
          refine hk_get (ci := 12) (C := RX9) (T := TX9) (N := 2) (v := .int (g5 13)) hx hb hts (fun _ h => List.mem_cons_of_mem _ (wwXc_wsX90 _ h)) hown hw 2 rfl rfl 1 (by decide) (hq _ wX_77) rfl dX11_pass_62 ?_
          exact kr (g5 13) g5 lg a6 bk _ _ _ _ ⟨(hk_frT (hk_frG hk_fr0 (by decide) h_g2) (by decide) hfr_g5), hk_fr0, hfr_a6, (ob411 ((g5 13).toInt) ((x4).toInt) (k7 : Int) ((g 14).toInt) (((1500 : Int32)).toInt) ((g5 14).toInt) hf_B3_0 hf_B3_2 hf_B3_1 hrk_B3 (hE_le cc8) (hE_le cc1) (congrArg Int32.toInt e_g5_14) (hE_rng (g5 13)) (hE_rng (x4)) (hE_rng (g 14)) (by decide) (hE_rng (g5 14))), ha6_r0rg⟩ hw dX11_pass_65
        · refine lv_aload_n hx hb dX11_pass_37 rfl (lv_at hl 0 rfl) ?_
          refine hk_get (ci := 14) (C := RX11) (T := TX11) (N := 11) (v := .ref (ad 2)) hx hb hts (fun _ h => List.mem_cons_of_mem _ (wwXc_wsX110 _ h)) hown hw 0 rfl rfl 2 (by decide) (hq _ wX_83) rfl dX11_pass_38 ?_
          refine lv_aload_n hx hb dX11_pass_41 rfl (lv_at hl 0 rfl) ?_
          refine hk_get (ci := 14) (C := RX11) (T := TX11) (N := 11) (v := .ref (ad 4)) hx hb hts (fun _ h => List.mem_cons_of_mem _ (wwXc_wsX110 _ h)) hown hw 0 rfl rfl 3 (by decide) (hq _ wX_76) rfl dX11_pass_42 ?_
          refine lv_iload_n hx hb dX11_pass_45 rfl (lv_at hl 1 rfl) ?_
          refine jx_Vi (As := [.int x4]) (rest := [.ref (ad 2)]) ⟨hx, hb, hml, hown, hts⟩ hZ hw hA (jx_X9_get_4 l hlt D t3 cI cJ ad g5 lg a6 bk _ x4) (cwV 1 hts (jx_gV wwX_good wX_117 wX_22 wX_23 wX_24 wX_25) rfl rfl rfl (by decide +kernel) ⟨Nat.le_of_ble_eq_true rfl, Nat.le_of_ble_eq_true rfl⟩) 4 (ci := 12) (T := TX9) (N := 2) rfl rfl rfl hl.1 rfl (Nat.le_of_ble_eq_true rfl) dX11_pass_46 ⟨Nat.le_of_ble_eq_true rfl, Nat.le_of_ble_eq_true rfl⟩ (fun _ _ _ _ _ _ _ _ hp _ _ _ _ => hp.elim) (fun r13 g14 l15 a16 b17 H locs hp18 hw => ?_)
          obtain ⟨h19, h20, h21⟩ := hp18
          refine jx_Vv (As := [.int r13]) (rest := []) ⟨hx, hb, hml, hown, hts⟩ hZ hw hA (jx_X9_put_2 l hlt D t3 cI cJ ad g14 l15 a16 b17 _ r13 (hk_pE (P := hk_rg 0 255) ha6_r0rg (h21 0 rfl))) (cwV 1 hts (jx_gV wwX_good wX_111 wX_112 wX_113 wX_24 wX_114) rfl rfl rfl (by decide +kernel) ⟨Nat.le_of_ble_eq_true rfl, Nat.le_of_ble_eq_true rfl⟩) 2 (ci := 12) (T := TX9) (N := 2) rfl rfl rfl hl.1 rfl (Nat.le_of_ble_eq_true rfl) dX11_pass_49 ⟨Nat.le_of_ble_eq_true rfl, Nat.le_of_ble_eq_true rfl⟩ (fun _ _ _ _ _ _ _ _ hp _ _ _ _ => hp.elim) (fun g27 l28 a29 b30 H locs hp31 hw => ?_)
          obtain ⟨h32, h33, h34, h35, h36⟩ := hp31
          have e_g14_13 : g14 13 = (g5 13) := (h19 13 rfl)
          obtain ⟨z37, hz37⟩ : ∃ z : Int32, x4 + 1 = z := ⟨_, rfl⟩
          refine lv_iinc (v := z37) (lv' := [(1, .int z37), (0, .ref (ad 0))]) hx hb dX11_pass_52 hl (k := 1) rfl hz37 (by decide) rfl (fun ls hl => ?_)
          refine lv_goto (tgt := 26) hx hb dX11_pass_55 (by decide) ?_
          exact ih_B3 z37 g27 a29 ls _ _ (ob412 ((z37).toInt) (k7 : Int) ((x4).toInt) (((1 : Int32)).toInt) ((g5 13).toInt) ((g 14).toInt) (((1500 : Int32)).toInt) ((g5 14).toInt) ((g14 13).toInt) ((g27 13).toInt) hrk_B3 (hE_add hz37) hf_B3_0 hf_B3_1 (hE_nle cc8) (hE_le cc1) hf_B3_2 (congrArg Int32.toInt e_g5_14) (congrArg Int32.toInt e_g14_13) h35 (hE_rng (z37)) (hE_rng (x4)) (by decide) (hE_rng (g5 13)) (hE_rng (g 14)) (by decide) (hE_rng (g5 14)) (hE_rng (g14 13)) (hE_rng (g27 13))) (ob413 ((g27 13).toInt) ((z37).toInt) ((g14 13).toInt) ((x4).toInt) (((1 : Int32)).toInt) ((g5 13).toInt) (k7 : Int) ((g 14).toInt) (((1500 : Int32)).toInt) ((g5 14).toInt) h35 (hE_add hz37) hf_B3_0 hf_B3_1 hrk_B3 (hE_nle cc8) (congrArg Int32.toInt e_g14_13) (hE_le cc1) hf_B3_2 (congrArg Int32.toInt e_g5_14) (hE_rng (g27 13)) (hE_rng (z37)) (hE_rng (g14 13)) (hE_rng (x4)) (by decide) (hE_rng (g5 13)) (hE_rng (g 14)) (by decide) (hE_rng (g5 14))) (ob414 ((z37).toInt) ((x4).toInt) (((1 : Int32)).toInt) ((g5 13).toInt) (k7 : Int) ((g 14).toInt) (((1500 : Int32)).toInt) ((g5 14).toInt) ((g14 13).toInt) ((g27 13).toInt) (hE_add hz37) hf_B3_0 hf_B3_1 hrk_B3 (hE_nle cc8) (hE_le cc1) hf_B3_2 (congrArg Int32.toInt e_g5_14) (congrArg Int32.toInt e_g14_13) h35 (hE_rng (z37)) (hE_rng (x4)) (by decide) (hE_rng (g5 13)) (hE_rng (g 14)) (by decide) (hE_rng (g5 14)) (hE_rng (g14 13)) (hE_rng (g27 13))) (ob415 ((g27 13).toInt) ((g14 13).toInt) ((g5 13).toInt) ((x4).toInt) (k7 : Int) ((g 14).toInt) ((z37).toInt) (((1 : Int32)).toInt) (((1500 : Int32)).toInt) ((g5 14).toInt) h35 (congrArg Int32.toInt e_g14_13) hf_B3_0 hf_B3_2 hf_B3_1 hrk_B3 (hE_nle cc8) (hE_add hz37) (hE_le cc1) (congrArg Int32.toInt e_g5_14) (hE_rng (g27 13)) (hE_rng (g14 13)) (hE_rng (g5 13)) (hE_rng (x4)) (hE_rng (g 14)) (hE_rng (z37)) (by decide) (by decide) (hE_rng (g5 14))) (hk_frT (hk_frT hfr_g5 (by decide) h19) (by decide) h32) (hk_frT (hk_frT hfr_a6 (by decide) h21) (by decide) h34) h36 hw (lv_sub hl [1, 0] rfl)
    have e_g2_13 : g2 13 = (0 : Int32) := (hk_upgS h_g2)
    exact B3 (2147483648 - ((0 : Int32)).toInt).toNat 0 g2 ar ls _ _ (Int.self_le_toNat _) (ob416 ((g2 13).toInt) (((0 : Int32)).toInt) (congrArg Int32.toInt e_g2_13) (hE_rng (g2 13)) (by decide)) (ob417 (((0 : Int32)).toInt) ((g2 13).toInt) (congrArg Int32.toInt e_g2_13) (by decide) (hE_rng (g2 13))) (ob418 ((g2 13).toInt) (((0 : Int32)).toInt) (congrArg Int32.toInt e_g2_13) (hE_rng (g2 13)) (by decide)) hk_fr0 hk_fr0 hi_a0rg hw (lv_sub hl [1, 0] rfl)
  · refine lv_bipush (v := (-3)) hx hb dX11_pass_13 (by decide) ?_
    exact kr (-3) g lg ar bk _ _ _ _ ⟨hk_fr0, hk_fr0, hk_fr0, (ob6 ((g 13).toInt) hi_g13 (hE_rng (g 13))), hi_a0rg⟩ hw dX11_pass_15

set_option maxHeartbeats 4000000 in
set_option maxRecDepth 100000 in
/-- X11_step on (0,) -/
theorem jx_X11_step (l : Launch) (hlt : l.stackTraces = false) (D : va_G) (t3 : Nat × Nat × Nat) (cI cJ : ClassId) (ad : Nat → Nat) (g : Nat → Int32) (lg : Nat → Int64) (ar : Nat → Nat → Int32) (bk : Nat → Int64) (sz : Nat) (y1 : Int32) (y2 : Int32) : JMi l yX11_step (Cond.code yX11_step cX11_step 3 (some .int) :: wwX) { frames := 1, cells := 1, slots := 6, locals := 22 } t3 D xw cI cJ ad [.ref (ad 0), .int y1, .int y2] (xw cI cJ ad g lg ar bk) sz 1 6 (fun (r : Int32) g' lg' ar' bk' => hk_fr [] g g' ∧ hk_fr [] lg lg' ∧ hk_fr [] ar ar') (fun g' lg' ar' bk' => False) := by
  refine jx_meti (cc := cX11_step) (maxL := 3) (ret := (some .int)) rfl (by decide) rfl (Nat.le_of_ble_eq_true rfl) ?_
  intro p e s m args below meth c ls Q A hx hb hml hown hts hA hZ hw hl hQ kr kt
  have hq : ∀ w ∈ wwX, w.before args s = true := fun w h => hts w (List.mem_cons_of_mem _ h)
  have hl : lv_has ls 3 [(0, .ref (ad 0)), (1, .int y1), (2, .int y2)] := hl
  refine lv_iload_n hx hb dX11_step_0 rfl (lv_at hl 1 rfl) ?_
  refine lv_iconst (v := (-1)) hx hb dX11_step_1 (by decide) ?_
  have B1 : ∀  (ls : Array Slot) (H : Heap) (locs : List Loc), hk_W D (jT cI cJ) A s H locs (xw cI cJ ad g lg ar bk) → lv_has ls 3 [(0, .ref (ad 0)), (1, .int y1), (2, .int y2)] → W p l e { frames := 1, cells := 1, slots := 6, locals := 22 } s m args below meth c H locs 0 0 Q (F0 m 17 ls []) := by
    intro ls H locs hw hl
    refine lv_aload_n hx hb dX11_step_17 rfl (lv_at hl 0 rfl) ?_
    refine hk_get (ci := 14) (C := RX11) (T := TX11) (N := 11) (v := .ref (ad 15)) hx hb hts (fun _ h => List.mem_cons_of_mem _ (wwXc_wsX110 _ h)) hown hw 0 rfl rfl 6 (by decide) (hq _ wX_64) rfl dX11_step_18 ?_
    refine lv_iload_n hx hb dX11_step_21 rfl (lv_at hl 1 rfl) ?_
    refine lv_iload_n hx hb dX11_step_22 rfl (lv_at hl 2 rfl) ?_
    refine jx_Vi (As := [.int y1, .int y2]) (rest := []) ⟨hx, hb, hml, hown, hts⟩ hZ hw hA (jx_X4_stepPart l hlt D t3 cI cJ ad g lg ar bk _ y1 y2) (cwV 2 hts (jx_gV wwX_good wX_178 wX_179 wX_180 wX_69 wX_181) rfl rfl rfl (by decide +kernel) ⟨Nat.le_of_ble_eq_true rfl, Nat.le_of_ble_eq_true rfl⟩) 15 (ci := 7) (T := TX4) (N := 4) rfl rfl rfl hl.1 rfl (Nat.le_of_ble_eq_true rfl) dX11_step_23 ⟨Nat.le_of_ble_eq_true rfl, Nat.le_of_ble_eq_true rfl⟩ (fun _ _ _ _ _ _ _ _ hp _ _ _ _ => hp.elim) (fun r6 g7 l8 a9 b10 H locs hp11 hw => ?_)
    obtain ⟨h12, h13, h14⟩ := hp11
    exact kr r6 g7 l8 a9 b10 _ _ _ _ ⟨h12, h13, h14⟩ hw dX11_step_26
  refine lv_icmp_ne (tgt := 17) hx hb dX11_step_2 (by decide) (fun cc15 => ?_) (fun cc15 => ?_)
  · exact B1 ls _ _ hw (lv_sub hl [0, 1, 2] rfl)
  · refine lv_iload_n hx hb dX11_step_5 rfl (lv_at hl 2 rfl) ?_
    refine lv_if_ne (tgt := 17) hx hb dX11_step_6 (by decide) (fun cc16 => ?_) (fun cc16 => ?_)
    · exact B1 ls _ _ hw (lv_sub hl [0, 1, 2] rfl)
    · refine lv_aload_n hx hb dX11_step_9 rfl (lv_at hl 0 rfl) ?_
      refine hk_get (ci := 14) (C := RX11) (T := TX11) (N := 11) (v := .ref (ad 15)) hx hb hts (fun _ h => List.mem_cons_of_mem _ (wwXc_wsX110 _ h)) hown hw 0 rfl rfl 6 (by decide) (hq _ wX_64) rfl dX11_step_10 ?_
      refine hk_get (ci := 7) (C := RX4) (T := TX4) (N := 4) (v := .int (g 25)) hx hb hts (fun _ h => List.mem_cons_of_mem _ (wwXc_wsX40 _ h)) hown hw 15 rfl rfl 2 (by decide) (hq _ wX_177) rfl dX11_step_13 ?_
      exact kr (g 25) g lg ar bk _ _ _ _ ⟨hk_fr0, hk_fr0, hk_fr0⟩ hw dX11_step_16

set_option maxHeartbeats 4000000 in
set_option maxRecDepth 100000 in
/-- X11_state on (0,) -/
theorem jx_X11_state (l : Launch) (hlt : l.stackTraces = false) (D : va_G) (t3 : Nat × Nat × Nat) (cI cJ : ClassId) (ad : Nat → Nat) (g : Nat → Int32) (lg : Nat → Int64) (ar : Nat → Nat → Int32) (bk : Nat → Int64) (sz : Nat) : JMi l yX11_state (Cond.code yX11_state cX11_state 1 (some .int) :: wwX) { frames := 0, cells := 1, slots := 6, locals := 0 } t3 D xw cI cJ ad [.ref (ad 0)] (xw cI cJ ad g lg ar bk) sz 1 6 (fun (r : Int32) g' lg' ar' bk' => hk_fr [] g g' ∧ hk_fr [] lg lg' ∧ hk_fr [] ar ar') (fun g' lg' ar' bk' => False) := by
  refine jx_meti (cc := cX11_state) (maxL := 1) (ret := (some .int)) rfl (by decide) rfl (Nat.le_of_ble_eq_true rfl) ?_
  intro p e s m args below meth c ls Q A hx hb hml hown hts hA hZ hw hl hQ kr kt
  have hq : ∀ w ∈ wwX, w.before args s = true := fun w h => hts w (List.mem_cons_of_mem _ h)
  have hl : lv_has ls 1 [(0, .ref (ad 0))] := hl
  refine lv_aload_n hx hb dX11_state_0 rfl (lv_at hl 0 rfl) ?_
  refine hk_get (ci := 14) (C := RX11) (T := TX11) (N := 11) (v := .int (g 2)) hx hb hts (fun _ h => List.mem_cons_of_mem _ (wwXc_wsX110 _ h)) hown hw 0 rfl rfl 10 (by decide) (hq _ wX_106) rfl dX11_state_1 ?_
  exact kr (g 2) g lg ar bk _ _ _ _ ⟨hk_fr0, hk_fr0, hk_fr0⟩ hw dX11_state_4

set_option maxHeartbeats 4000000 in
set_option maxRecDepth 100000 in
/-- X11_block on (0,) -/
theorem jx_X11_block (l : Launch) (hlt : l.stackTraces = false) (D : va_G) (t3 : Nat × Nat × Nat) (cI cJ : ClassId) (ad : Nat → Nat) (g : Nat → Int32) (lg : Nat → Int64) (ar : Nat → Nat → Int32) (bk : Nat → Int64) (sz : Nat) (y1 : Int32) (y2 : Int32) (hi_a7rm : hk_rm 5 3 (-3000) 3000 (ar 7)) : JMi l yX11_block (Cond.code yX11_block cX11_block 3 (some .int) :: wwX) { frames := 1, cells := 1, slots := 6, locals := 22 } t3 D xw cI cJ ad [.ref (ad 0), .int y1, .int y2] (xw cI cJ ad g lg ar bk) sz 1 6 (fun (r : Int32) g' lg' ar' bk' => hk_fr [] g g' ∧ hk_fr [] lg lg' ∧ hk_fr [] ar ar') (fun g' lg' ar' bk' => False) := by
  refine jx_meti (cc := cX11_block) (maxL := 3) (ret := (some .int)) rfl (by decide) rfl (Nat.le_of_ble_eq_true rfl) ?_
  intro p e s m args below meth c ls Q A hx hb hml hown hts hA hZ hw hl hQ kr kt
  have hq : ∀ w ∈ wwX, w.before args s = true := fun w h => hts w (List.mem_cons_of_mem _ h)
  have hl : lv_has ls 3 [(0, .ref (ad 0)), (1, .int y1), (2, .int y2)] := hl
  refine lv_iload_n hx hb dX11_block_0 rfl (lv_at hl 1 rfl) ?_
  refine lv_iconst (v := (-1)) hx hb dX11_block_1 (by decide) ?_
  have B1 : ∀  (ls : Array Slot) (H : Heap) (locs : List Loc), hk_W D (jT cI cJ) A s H locs (xw cI cJ ad g lg ar bk) → lv_has ls 3 [(0, .ref (ad 0)), (1, .int y1), (2, .int y2)] → W p l e { frames := 1, cells := 1, slots := 6, locals := 22 } s m args below meth c H locs 0 0 Q (F0 m 17 ls []) := by
    intro ls H locs hw hl
    refine lv_aload_n hx hb dX11_block_17 rfl (lv_at hl 0 rfl) ?_
    refine hk_get (ci := 14) (C := RX11) (T := TX11) (N := 11) (v := .ref (ad 15)) hx hb hts (fun _ h => List.mem_cons_of_mem _ (wwXc_wsX110 _ h)) hown hw 0 rfl rfl 6 (by decide) (hq _ wX_64) rfl dX11_block_18 ?_
    refine lv_iload_n hx hb dX11_block_21 rfl (lv_at hl 1 rfl) ?_
    refine lv_iload_n hx hb dX11_block_22 rfl (lv_at hl 2 rfl) ?_
    refine jx_Vi (As := [.int y1, .int y2]) (rest := []) ⟨hx, hb, hml, hown, hts⟩ hZ hw hA (jx_X4_blockPart l hlt D t3 cI cJ ad g lg ar bk _ y1 y2 hi_a7rm) (cwV 2 hts (jx_gV wwX_good wX_66 wX_67 wX_68 wX_69 wX_70) rfl rfl rfl (by decide +kernel) ⟨Nat.le_of_ble_eq_true rfl, Nat.le_of_ble_eq_true rfl⟩) 15 (ci := 7) (T := TX4) (N := 4) rfl rfl rfl hl.1 rfl (Nat.le_of_ble_eq_true rfl) dX11_block_23 ⟨Nat.le_of_ble_eq_true rfl, Nat.le_of_ble_eq_true rfl⟩ (fun _ _ _ _ _ _ _ _ hp _ _ _ _ => hp.elim) (fun r6 g7 l8 a9 b10 H locs hp11 hw => ?_)
    obtain ⟨h12, h13, h14, h15⟩ := hp11
    exact kr r6 g7 l8 a9 b10 _ _ _ _ ⟨h12, h13, h14⟩ hw dX11_block_26
  refine lv_icmp_ne (tgt := 17) hx hb dX11_block_2 (by decide) (fun cc16 => ?_) (fun cc16 => ?_)
  · exact B1 ls _ _ hw (lv_sub hl [0, 1, 2] rfl)
  · refine lv_iload_n hx hb dX11_block_5 rfl (lv_at hl 2 rfl) ?_
    refine lv_if_ne (tgt := 17) hx hb dX11_block_6 (by decide) (fun cc17 => ?_) (fun cc17 => ?_)
    · exact B1 ls _ _ hw (lv_sub hl [0, 1, 2] rfl)
    · refine lv_aload_n hx hb dX11_block_9 rfl (lv_at hl 0 rfl) ?_
      refine hk_get (ci := 14) (C := RX11) (T := TX11) (N := 11) (v := .ref (ad 15)) hx hb hts (fun _ h => List.mem_cons_of_mem _ (wwXc_wsX110 _ h)) hown hw 0 rfl rfl 6 (by decide) (hq _ wX_64) rfl dX11_block_10 ?_
      refine hk_get (ci := 7) (C := RX4) (T := TX4) (N := 4) (v := .int (g 26)) hx hb hts (fun _ h => List.mem_cons_of_mem _ (wwXc_wsX40 _ h)) hown hw 15 rfl rfl 3 (by decide) (hq _ wX_65) rfl dX11_block_13 ?_
      exact kr (g 26) g lg ar bk _ _ _ _ ⟨hk_fr0, hk_fr0, hk_fr0⟩ hw dX11_block_16

set_option maxHeartbeats 4000000 in
set_option maxRecDepth 100000 in
/-- X11_check on (0,) -/
theorem jx_X11_check (l : Launch) (hlt : l.stackTraces = false) (D : va_G) (t3 : Nat × Nat × Nat) (cI cJ : ClassId) (ad : Nat → Nat) (g : Nat → Int32) (lg : Nat → Int64) (ar : Nat → Nat → Int32) (bk : Nat → Int64) (sz : Nat) (y1 : Int32) (y2 : Int32) : JMi l yX11_check (Cond.code yX11_check cX11_check 3 (some .int) :: wwX) { frames := 5, cells := 1, slots := 6, locals := 130 } t3 D xw cI cJ ad [.ref (ad 0), .int y1, .int y2] (xw cI cJ ad g lg ar bk) sz 1 6 (fun (r : Int32) g' lg' ar' bk' => hk_fr [] g g' ∧ hk_fr [] lg lg' ∧ hk_fr [3, 4, 5] ar ar') (fun g' lg' ar' bk' => False) := by
  refine jx_meti (cc := cX11_check) (maxL := 3) (ret := (some .int)) rfl (by decide) rfl (Nat.le_of_ble_eq_true rfl) ?_
  intro p e s m args below meth c ls Q A hx hb hml hown hts hA hZ hw hl hQ kr kt
  have hq : ∀ w ∈ wwX, w.before args s = true := fun w h => hts w (List.mem_cons_of_mem _ h)
  have hl : lv_has ls 3 [(0, .ref (ad 0)), (1, .int y1), (2, .int y2)] := hl
  refine lv_iload_n hx hb dX11_check_0 rfl (lv_at hl 1 rfl) ?_
  refine jx_Si (As := [.int y1]) (rest := []) ⟨hx, hb, hml, hown, hts⟩ hZ hw hA (jx_X0_isKind l hlt D t3 cI cJ ad g lg ar bk _ y1) (va_cwS 1 hts (jx_gS wwX_good wX_71 wX_60 wX_12 wX_61) rfl rfl rfl (by decide +kernel) ⟨Nat.le_of_ble_eq_true rfl, Nat.le_of_ble_eq_true rfl⟩) rfl hl.1 rfl (Nat.le_of_ble_eq_true rfl) dX11_check_1 ⟨Nat.le_of_ble_eq_true rfl, Nat.le_of_ble_eq_true rfl⟩ (fun _ _ _ _ _ _ _ _ hp _ _ _ _ => hp.elim) (fun r5 g6 l7 a8 b9 H locs hp10 hw => ?_)
  obtain ⟨h11, h12, h13, h14⟩ := hp10
  refine lv_if_eq (tgt := 21) hx hb dX11_check_4 (by decide) (fun cc15 => ?_) (fun cc15 => ?_)
  · refine lv_iconst (v := (-1)) hx hb dX11_check_21 (by decide) ?_
    exact kr (-1) g6 l7 a8 b9 _ _ _ _ ⟨h11, h12, (hk_frT hk_fr0 (by decide) h13)⟩ hw dX11_check_22
  · refine lv_iload_n hx hb dX11_check_7 rfl (lv_at hl 2 rfl) ?_
    refine lv_if_lt (tgt := 21) hx hb dX11_check_8 (by decide) (fun cc16 => ?_) (fun cc16 => ?_)
    · refine lv_iconst (v := (-1)) hx hb dX11_check_21 (by decide) ?_
      exact kr (-1) g6 l7 a8 b9 _ _ _ _ ⟨h11, h12, (hk_frT hk_fr0 (by decide) h13)⟩ hw dX11_check_22
    · refine lv_iload_n hx hb dX11_check_11 rfl (lv_at hl 2 rfl) ?_
      refine lv_iload_n hx hb dX11_check_12 rfl (lv_at hl 1 rfl) ?_
      refine jx_Si (As := [.int y1]) (rest := [.int y2]) ⟨hx, hb, hml, hown, hts⟩ hZ hw hA (jx_X0_bytesOf l hlt D t3 cI cJ ad g6 l7 a8 b9 _ y1) (va_cwS 1 hts (jx_gS wwX_good wX_72 wX_73 wX_12 wX_74) rfl rfl rfl (by decide +kernel) ⟨Nat.le_of_ble_eq_true rfl, Nat.le_of_ble_eq_true rfl⟩) rfl hl.1 rfl (Nat.le_of_ble_eq_true rfl) dX11_check_13 ⟨Nat.le_of_ble_eq_true rfl, Nat.le_of_ble_eq_true rfl⟩ (fun _ _ _ _ _ _ _ _ hp _ _ _ _ => hp.elim) (fun r21 g22 l23 a24 b25 H locs hp26 hw => ?_)
      obtain ⟨h27, h28, h29, h30⟩ := hp26
      refine lv_iconst (v := 4) hx hb dX11_check_16 (by decide) ?_
      refine lv_idiv hx hb dX11_check_17 (by decide) (jx_nm fun z31 hz31 => ?_)
      refine lv_icmp_lt (tgt := 23) hx hb dX11_check_18 (by decide) (fun cc32 => ?_) (fun cc32 => ?_)
      · refine lv_aload_n hx hb dX11_check_23 rfl (lv_at hl 0 rfl) ?_
        refine hk_get (ci := 14) (C := RX11) (T := TX11) (N := 11) (v := .ref (ad 11)) hx hb hts (fun _ h => List.mem_cons_of_mem _ (wwXc_wsX110 _ h)) hown hw 0 rfl rfl 5 (by decide) (hq _ wX_75) rfl dX11_check_24 ?_
        refine lv_iload_n hx hb dX11_check_27 rfl (lv_at hl 1 rfl) ?_
        refine lv_aload_n hx hb dX11_check_28 rfl (lv_at hl 0 rfl) ?_
        refine hk_get (ci := 14) (C := RX11) (T := TX11) (N := 11) (v := .ref (ad 4)) hx hb hts (fun _ h => List.mem_cons_of_mem _ (wwXc_wsX110 _ h)) hown hw 0 rfl rfl 3 (by decide) (hq _ wX_76) rfl dX11_check_29 ?_
        refine lv_iconst (v := 0) hx hb dX11_check_32 (by decide) ?_
        refine lv_aload_n hx hb dX11_check_33 rfl (lv_at hl 0 rfl) ?_
        refine hk_get (ci := 14) (C := RX11) (T := TX11) (N := 11) (v := .ref (ad 4)) hx hb hts (fun _ h => List.mem_cons_of_mem _ (wwXc_wsX110 _ h)) hown hw 0 rfl rfl 3 (by decide) (hq _ wX_76) rfl dX11_check_34 ?_
        have e_g22_14 : g22 14 = (g 14) := ((h27 14 rfl)).trans (h11 14 rfl)
        refine hk_get (ci := 12) (C := RX9) (T := TX9) (N := 2) (v := .int (g 14)) hx hb hts (fun _ h => List.mem_cons_of_mem _ (wwXc_wsX90 _ h)) hown hw 4 rfl rfl 1 (by decide) (hq _ wX_77) (congrArg (fun z => some (Value.int z)) e_g22_14) dX11_check_37 ?_
        refine jx_Vv (As := [.int y1, .ref (ad 4), .int 0, .int (g 14)]) (rest := []) ⟨hx, hb, hml, hown, hts⟩ hZ hw hA (jx_X0_compute_4 l hlt D t3 cI cJ ad g22 l23 a24 b25 _ y1 0 (g 14)) (cwV 4 hts (jx_gV wwX_good wX_78 wX_79 wX_80 wX_12 wX_81) rfl rfl rfl (by decide +kernel) ⟨Nat.le_of_ble_eq_true rfl, Nat.le_of_ble_eq_true rfl⟩) 11 (ci := 3) (T := TX0) (N := 3) rfl rfl rfl hl.1 rfl (Nat.le_of_ble_eq_true rfl) dX11_check_40 ⟨Nat.le_of_ble_eq_true rfl, Nat.le_of_ble_eq_true rfl⟩ (fun _ _ _ _ _ _ _ _ hp _ _ _ _ => hp.elim) (fun g38 l39 a40 b41 H locs hp42 hw => ?_)
        obtain ⟨h43, h44, h45⟩ := hp42
        refine lv_aload_n hx hb dX11_check_43 rfl (lv_at hl 0 rfl) ?_
        refine hk_get (ci := 14) (C := RX11) (T := TX11) (N := 11) (v := .ref (ad 11)) hx hb hts (fun _ h => List.mem_cons_of_mem _ (wwXc_wsX110 _ h)) hown hw 0 rfl rfl 5 (by decide) (hq _ wX_75) rfl dX11_check_44 ?_
        refine hk_get (ci := 3) (C := RX0) (T := TX0) (N := 3) (v := .ref (ad 12)) hx hb hts (fun _ h => List.mem_cons_of_mem _ (wwXc_wsX00 _ h)) hown hw 11 rfl rfl 0 (by decide) (hq _ wX_82) rfl dX11_check_47 ?_
        refine lv_iload_n hx hb dX11_check_50 rfl (lv_at hl 2 rfl) ?_
        refine lv_bipush (v := 7) hx hb dX11_check_51 (by decide) ?_
        refine lv_iand hx hb dX11_check_53 (jx_nm fun z46 hz46 => ?_)
        refine jx_iald hx hb hw 12 0 rfl rfl (hE_in (n := 8) (ob419 ((z46).toInt) ((y2).toInt) (((0 : Int32)).toInt) ((z31).toInt) ((r5).toInt) ((r21).toInt) (hE_and 3 8 hz46 (by decide) (by decide) (by decide)) (hE_nlt cc16) (hE_lt cc32) (hE_ne cc15) (hE_div 4 hz31 (by decide) (by decide)) h14 h30 (hE_rng (z46)) (hE_rng (y2)) (by decide) (hE_rng (z31)) (hE_rng (r5)) (hE_rng (r21)))) dX11_check_54 (fun z47 hz47 => ?_)
        exact kr z47 g38 l39 a40 b41 _ _ _ _ ⟨(hk_frT (hk_frT h11 (by decide) h27) (by decide) h43), (hk_frT (hk_frT h12 (by decide) h28) (by decide) h44), (hk_frT (hk_frT (hk_frT hk_fr0 (by decide) h13) (by decide) h29) (by decide) h45)⟩ hw dX11_check_55
      · refine lv_iconst (v := (-1)) hx hb dX11_check_21 (by decide) ?_
        exact kr (-1) g22 l23 a24 b25 _ _ _ _ ⟨(hk_frT h11 (by decide) h27), (hk_frT h12 (by decide) h28), (hk_frT (hk_frT hk_fr0 (by decide) h13) (by decide) h29)⟩ hw dX11_check_22

set_option maxHeartbeats 4000000 in
set_option maxRecDepth 100000 in
/-- X11_turn on (0,) -/
theorem jx_X11_turn (l : Launch) (hlt : l.stackTraces = false) (D : va_G) (t3 : Nat × Nat × Nat) (cI cJ : ClassId) (ad : Nat → Nat) (g : Nat → Int32) (lg : Nat → Int64) (ar : Nat → Nat → Int32) (bk : Nat → Int64) (sz : Nat) (y1 : Int32) (y2 : Int32) (y3 : Int32) (hr0 : (g 14).toInt ≤ 600000) : JMi l yX11_turn (Cond.code yX11_turn cX11_turn 4 (some .int) :: wwX) { frames := 2, cells := 1, slots := 6, locals := 50 } t3 D xw cI cJ ad [.ref (ad 0), .int y1, .int y2, .int y3] (xw cI cJ ad g lg ar bk) sz 1 6 (fun (r : Int32) g' lg' ar' bk' => hk_fr [] g g' ∧ hk_fr [] lg lg' ∧ hk_fr [1] ar ar') (fun g' lg' ar' bk' => False) := by
  refine jx_meti (cc := cX11_turn) (maxL := 4) (ret := (some .int)) rfl (by decide) rfl (Nat.le_of_ble_eq_true rfl) ?_
  intro p e s m args below meth c ls Q A hx hb hml hown hts hA hZ hw hl hQ kr kt
  have hq : ∀ w ∈ wwX, w.before args s = true := fun w h => hts w (List.mem_cons_of_mem _ h)
  have hl : lv_has ls 4 [(0, .ref (ad 0)), (1, .int y1), (2, .int y2), (3, .int y3)] := hl
  refine lv_iload_n hx hb dX11_turn_0 rfl (lv_at hl 1 rfl) ?_
  have B1 : ∀  (ls : Array Slot) (H : Heap) (locs : List Loc), hk_W D (jT cI cJ) A s H locs (xw cI cJ ad g lg ar bk) → lv_has ls 4 [(0, .ref (ad 0)), (1, .int y1), (3, .int y3)] → W p l e { frames := 2, cells := 1, slots := 6, locals := 50 } s m args below meth c H locs 0 0 Q (F0 m 41 ls []) := by
    intro ls H locs hw hl
    refine lv_iload_n hx hb dX11_turn_41 rfl (lv_at hl 1 rfl) ?_
    refine lv_iconst (v := 1) hx hb dX11_turn_42 (by decide) ?_
    refine lv_icmp_ne (tgt := 70) hx hb dX11_turn_43 (by decide) (fun cc2 => ?_) (fun cc2 => ?_)
    · refine lv_iconst (v := (-1)) hx hb dX11_turn_70 (by decide) ?_
      exact kr (-1) g lg ar bk _ _ _ _ ⟨hk_fr0, hk_fr0, hk_fr0⟩ hw dX11_turn_71
    · refine lv_aload_n hx hb dX11_turn_46 rfl (lv_at hl 0 rfl) ?_
      refine hk_get (ci := 14) (C := RX11) (T := TX11) (N := 11) (v := .ref (ad 4)) hx hb hts (fun _ h => List.mem_cons_of_mem _ (wwXc_wsX110 _ h)) hown hw 0 rfl rfl 3 (by decide) (hq _ wX_76) rfl dX11_turn_47 ?_
      refine lv_iconst (v := 0) hx hb dX11_turn_50 (by decide) ?_
      refine lv_aload_n hx hb dX11_turn_51 rfl (lv_at hl 0 rfl) ?_
      refine hk_get (ci := 14) (C := RX11) (T := TX11) (N := 11) (v := .ref (ad 4)) hx hb hts (fun _ h => List.mem_cons_of_mem _ (wwXc_wsX110 _ h)) hown hw 0 rfl rfl 3 (by decide) (hq _ wX_76) rfl dX11_turn_52 ?_
      refine hk_get (ci := 12) (C := RX9) (T := TX9) (N := 2) (v := .int (g 14)) hx hb hts (fun _ h => List.mem_cons_of_mem _ (wwXc_wsX90 _ h)) hown hw 4 rfl rfl 1 (by decide) (hq _ wX_77) rfl dX11_turn_55 ?_
      refine lv_iload_n hx hb dX11_turn_58 rfl (lv_at hl 2 rfl) ?_
      refine jx_Vv (As := [.int 0, .int (g 14), .int y3]) (rest := []) ⟨hx, hb, hml, hown, hts⟩ hZ hw hA (jx_X9_branch_4 l hlt D t3 cI cJ ad g lg ar bk _ 0 (g 14) y3 (ob420 (((0 : Int32)).toInt) (by decide)) (ob421 ((g 14).toInt) hr0 (hE_rng (g 14)))) (cwV 3 hts (jx_gV wwX_good wX_186 wX_187 wX_188 wX_24 wX_189) rfl rfl rfl (by decide +kernel) ⟨Nat.le_of_ble_eq_true rfl, Nat.le_of_ble_eq_true rfl⟩) 4 (ci := 12) (T := TX9) (N := 2) rfl rfl rfl hl.1 rfl (Nat.le_of_ble_eq_true rfl) dX11_turn_59 ⟨Nat.le_of_ble_eq_true rfl, Nat.le_of_ble_eq_true rfl⟩ (fun _ _ _ _ _ _ _ _ hp _ _ _ _ => hp.elim) (fun g8 l9 a10 b11 H locs hp12 hw => ?_)
      obtain ⟨h13, h14, h15⟩ := hp12
      refine lv_aload_n hx hb dX11_turn_62 rfl (lv_at hl 0 rfl) ?_
      refine hk_get (ci := 14) (C := RX11) (T := TX11) (N := 11) (v := .ref (ad 4)) hx hb hts (fun _ h => List.mem_cons_of_mem _ (wwXc_wsX110 _ h)) hown hw 0 rfl rfl 3 (by decide) (hq _ wX_76) rfl dX11_turn_63 ?_
      have e_g8_14 : g8 14 = (g 14) := (h13 14 rfl)
      refine hk_get (ci := 12) (C := RX9) (T := TX9) (N := 2) (v := .int (g 14)) hx hb hts (fun _ h => List.mem_cons_of_mem _ (wwXc_wsX90 _ h)) hown hw 4 rfl rfl 1 (by decide) (hq _ wX_77) (congrArg (fun z => some (Value.int z)) e_g8_14) dX11_turn_66 ?_
      exact kr (g 14) g8 l9 a10 b11 _ _ _ _ ⟨h13, h14, h15⟩ hw dX11_turn_69
  refine lv_if_ne (tgt := 41) hx hb dX11_turn_1 (by decide) (fun cc16 => ?_) (fun cc16 => ?_)
  · exact B1 ls _ _ hw (lv_sub hl [0, 1, 3] rfl)
  · refine lv_iload_n hx hb dX11_turn_4 rfl (lv_at hl 2 rfl) ?_
    refine lv_iconst (v := 1) hx hb dX11_turn_5 (by decide) ?_
    refine lv_icmp_lt (tgt := 41) hx hb dX11_turn_6 (by decide) (fun cc17 => ?_) (fun cc17 => ?_)
    · exact B1 ls _ _ hw (lv_sub hl [0, 1, 3] rfl)
    · refine lv_iload_n hx hb dX11_turn_9 rfl (lv_at hl 2 rfl) ?_
      refine lv_sipush (v := 256) hx hb dX11_turn_10 (by decide) ?_
      refine lv_icmp_gt (tgt := 41) hx hb dX11_turn_13 (by decide) (fun cc18 => ?_) (fun cc18 => ?_)
      · exact B1 ls _ _ hw (lv_sub hl [0, 1, 3] rfl)
      · refine lv_aload_n hx hb dX11_turn_16 rfl (lv_at hl 0 rfl) ?_
        refine hk_get (ci := 14) (C := RX11) (T := TX11) (N := 11) (v := .ref (ad 4)) hx hb hts (fun _ h => List.mem_cons_of_mem _ (wwXc_wsX110 _ h)) hown hw 0 rfl rfl 3 (by decide) (hq _ wX_76) rfl dX11_turn_17 ?_
        refine lv_iconst (v := 0) hx hb dX11_turn_20 (by decide) ?_
        refine lv_aload_n hx hb dX11_turn_21 rfl (lv_at hl 0 rfl) ?_
        refine hk_get (ci := 14) (C := RX11) (T := TX11) (N := 11) (v := .ref (ad 4)) hx hb hts (fun _ h => List.mem_cons_of_mem _ (wwXc_wsX110 _ h)) hown hw 0 rfl rfl 3 (by decide) (hq _ wX_76) rfl dX11_turn_22 ?_
        refine hk_get (ci := 12) (C := RX9) (T := TX9) (N := 2) (v := .int (g 14)) hx hb hts (fun _ h => List.mem_cons_of_mem _ (wwXc_wsX90 _ h)) hown hw 4 rfl rfl 1 (by decide) (hq _ wX_77) rfl dX11_turn_25 ?_
        refine lv_iload_n hx hb dX11_turn_28 rfl (lv_at hl 2 rfl) ?_
        refine lv_iload_n hx hb dX11_turn_29 rfl (lv_at hl 3 rfl) ?_
        refine jx_Vv (As := [.int 0, .int (g 14), .int y2, .int y3]) (rest := []) ⟨hx, hb, hml, hown, hts⟩ hZ hw hA (jx_X9_delta_4 l hlt D t3 cI cJ ad g lg ar bk _ 0 (g 14) y2 y3) (cwV 4 hts (jx_gV wwX_good wX_182 wX_183 wX_184 wX_24 wX_185) rfl rfl rfl (by decide +kernel) ⟨Nat.le_of_ble_eq_true rfl, Nat.le_of_ble_eq_true rfl⟩) 4 (ci := 12) (T := TX9) (N := 2) rfl rfl rfl hl.1 rfl (Nat.le_of_ble_eq_true rfl) dX11_turn_30 ⟨Nat.le_of_ble_eq_true rfl, Nat.le_of_ble_eq_true rfl⟩ (fun _ _ _ _ _ _ _ _ hp _ _ _ _ => hp.elim) (fun g24 l25 a26 b27 H locs hp28 hw => ?_)
        obtain ⟨h29, h30, h31⟩ := hp28
        refine lv_aload_n hx hb dX11_turn_33 rfl (lv_at hl 0 rfl) ?_
        refine hk_get (ci := 14) (C := RX11) (T := TX11) (N := 11) (v := .ref (ad 4)) hx hb hts (fun _ h => List.mem_cons_of_mem _ (wwXc_wsX110 _ h)) hown hw 0 rfl rfl 3 (by decide) (hq _ wX_76) rfl dX11_turn_34 ?_
        have e_g24_14 : g24 14 = (g 14) := (h29 14 rfl)
        refine hk_get (ci := 12) (C := RX9) (T := TX9) (N := 2) (v := .int (g 14)) hx hb hts (fun _ h => List.mem_cons_of_mem _ (wwXc_wsX90 _ h)) hown hw 4 rfl rfl 1 (by decide) (hq _ wX_77) (congrArg (fun z => some (Value.int z)) e_g24_14) dX11_turn_37 ?_
        exact kr (g 14) g24 l25 a26 b27 _ _ _ _ ⟨h29, h30, h31⟩ hw dX11_turn_40

set_option maxHeartbeats 4000000 in
set_option maxRecDepth 100000 in
/-- X11_count on (0,) -/
theorem jx_X11_count (l : Launch) (hlt : l.stackTraces = false) (D : va_G) (t3 : Nat × Nat × Nat) (cI cJ : ClassId) (ad : Nat → Nat) (g : Nat → Int32) (lg : Nat → Int64) (ar : Nat → Nat → Int32) (bk : Nat → Int64) (sz : Nat) (y1 : Int32) : JMi l yX11_count (Cond.code yX11_count cX11_count 2 (some .int) :: wwX) { frames := 0, cells := 1, slots := 6, locals := 0 } t3 D xw cI cJ ad [.ref (ad 0), .int y1] (xw cI cJ ad g lg ar bk) sz 1 6 (fun (r : Int32) g' lg' ar' bk' => hk_fr [] g g' ∧ hk_fr [] lg lg' ∧ hk_fr [] ar ar') (fun g' lg' ar' bk' => False) := by
  refine jx_meti (cc := cX11_count) (maxL := 2) (ret := (some .int)) rfl (by decide) rfl (Nat.le_of_ble_eq_true rfl) ?_
  intro p e s m args below meth c ls Q A hx hb hml hown hts hA hZ hw hl hQ kr kt
  have hq : ∀ w ∈ wwX, w.before args s = true := fun w h => hts w (List.mem_cons_of_mem _ h)
  have hl : lv_has ls 2 [(0, .ref (ad 0)), (1, .int y1)] := hl
  refine lv_iload_n hx hb dX11_count_0 rfl (lv_at hl 1 rfl) ?_
  refine lv_if_ne (tgt := 12) hx hb dX11_count_1 (by decide) (fun cc1 => ?_) (fun cc1 => ?_)
  · refine lv_iload_n hx hb dX11_count_12 rfl (lv_at hl 1 rfl) ?_
    refine lv_iconst (v := 1) hx hb dX11_count_13 (by decide) ?_
    refine lv_icmp_ne (tgt := 27) hx hb dX11_count_14 (by decide) (fun cc2 => ?_) (fun cc2 => ?_)
    · refine lv_iconst (v := (-1)) hx hb dX11_count_27 (by decide) ?_
      exact kr (-1) g lg ar bk _ _ _ _ ⟨hk_fr0, hk_fr0, hk_fr0⟩ hw dX11_count_28
    · refine lv_aload_n hx hb dX11_count_17 rfl (lv_at hl 0 rfl) ?_
      refine hk_get (ci := 14) (C := RX11) (T := TX11) (N := 11) (v := .ref (ad 4)) hx hb hts (fun _ h => List.mem_cons_of_mem _ (wwXc_wsX110 _ h)) hown hw 0 rfl rfl 3 (by decide) (hq _ wX_76) rfl dX11_count_18 ?_
      refine hk_get (ci := 12) (C := RX9) (T := TX9) (N := 2) (v := .int (g 14)) hx hb hts (fun _ h => List.mem_cons_of_mem _ (wwXc_wsX90 _ h)) hown hw 4 rfl rfl 1 (by decide) (hq _ wX_77) rfl dX11_count_21 ?_
      refine lv_goto (tgt := 28) hx hb dX11_count_24 (by decide) ?_
      exact kr (g 14) g lg ar bk _ _ _ _ ⟨hk_fr0, hk_fr0, hk_fr0⟩ hw dX11_count_28
  · refine lv_aload_n hx hb dX11_count_4 rfl (lv_at hl 0 rfl) ?_
    refine hk_get (ci := 14) (C := RX11) (T := TX11) (N := 11) (v := .ref (ad 2)) hx hb hts (fun _ h => List.mem_cons_of_mem _ (wwXc_wsX110 _ h)) hown hw 0 rfl rfl 2 (by decide) (hq _ wX_83) rfl dX11_count_5 ?_
    refine hk_get (ci := 12) (C := RX9) (T := TX9) (N := 2) (v := .int (g 13)) hx hb hts (fun _ h => List.mem_cons_of_mem _ (wwXc_wsX90 _ h)) hown hw 2 rfl rfl 1 (by decide) (hq _ wX_77) rfl dX11_count_8 ?_
    exact kr (g 13) g lg ar bk _ _ _ _ ⟨hk_fr0, hk_fr0, hk_fr0⟩ hw dX11_count_11
