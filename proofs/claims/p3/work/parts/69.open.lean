/-! 69.open -/
theorem ob325 (v0 : Int) (h0 : v0 = 0) : 0 ≤ v0 ∧ v0 ≤ 4 := by omega
theorem ob326 (v0 : Int) (v1 : Int) (v2 : Int) (v3 : Int) (v4 : Int) (h0 : (0 ≤ v1 → v0 = v1 % 9) ∧ (v1 ≤ 0 → v0 = -(-v1 % 9))) (h1 : 0 ≤ v1 ∧ v1 ≤ 255) (h2 : (0 ≤ v1 → v2 = v1 / 9) ∧ (v1 ≤ 0 → v2 = -(-v1 / 9))) (h3 : (0 ≤ v1 → v3 = v1 / 45) ∧ (v1 ≤ 0 → v3 = -(-v1 / 45))) (h4 : (0 ≤ v2 → v4 = v2 % 5) ∧ (v2 ≤ 0 → v4 = -(-v2 % 5))) (h5 : -2147483648 ≤ v0 ∧ v0 ≤ 2147483647) (h6 : -2147483648 ≤ v1 ∧ v1 ≤ 2147483647) (h7 : -2147483648 ≤ v2 ∧ v2 ≤ 2147483647) (h8 : -2147483648 ≤ v3 ∧ v3 ≤ 2147483647) (h9 : -2147483648 ≤ v4 ∧ v4 ≤ 2147483647) : 0 ≤ v0 ∧ v0 ≤ 4 := by omega
theorem ob327 (v0 : Int) (v1 : Int) (v2 : Int) (v3 : Int) (v4 : Int) (h0 : (0 ≤ v1 → v0 = v1 % 5) ∧ (v1 ≤ 0 → v0 = -(-v1 % 5))) (h1 : (0 ≤ v2 → v1 = v2 / 9) ∧ (v2 ≤ 0 → v1 = -(-v2 / 9))) (h2 : 0 ≤ v2 ∧ v2 ≤ 255) (h3 : (0 ≤ v2 → v3 = v2 % 9) ∧ (v2 ≤ 0 → v3 = -(-v2 % 9))) (h4 : (0 ≤ v2 → v4 = v2 / 45) ∧ (v2 ≤ 0 → v4 = -(-v2 / 45))) (h5 : -2147483648 ≤ v0 ∧ v0 ≤ 2147483647) (h6 : -2147483648 ≤ v1 ∧ v1 ≤ 2147483647) (h7 : -2147483648 ≤ v2 ∧ v2 ≤ 2147483647) (h8 : -2147483648 ≤ v3 ∧ v3 ≤ 2147483647) (h9 : -2147483648 ≤ v4 ∧ v4 ≤ 2147483647) : 0 ≤ v0 ∧ v0 ≤ 4 := by omega
theorem ob328 (v0 : Int) (h0 : -2147483648 ≤ v0 ∧ v0 ≤ 2147483647) : 0 ≤ v0 ∧ v0 ≤ 3000 := by omega
theorem ob329 (v0 : Int) (v1 : Int) (v2 : Int) (v3 : Int) (h0 : v0 = (v1 + 1 + 2147483648) % 4294967296 - 2147483648) (h1 : v1 = v2) (h2 : v3 = v2) (h3 : -2147483648 ≤ v0 ∧ v0 ≤ 2147483647) (h4 : -2147483648 ≤ v1 ∧ v1 ≤ 2147483647) (h5 : -2147483648 ≤ v2 ∧ v2 ≤ 2147483647) (h6 : -2147483648 ≤ v3 ∧ v3 ≤ 2147483647) : 0 ≤ v0 ∧ v0 ≤ 3000 := by omega
theorem ob330 (v0 : Int) (v1 : Int) (v2 : Int) (h0 : v0 = v1) (h1 : v2 ≤ v1) (h2 : -2147483648 ≤ v0 ∧ v0 ≤ 2147483647) (h3 : -2147483648 ≤ v1 ∧ v1 ≤ 2147483647) (h4 : v2 = 3000) : 0 ≤ v0 ∧ v0 ≤ 3000 := by omega
theorem ob331 (v0 : Int) (v1 : Int) (v2 : Int) (v3 : Int) (v4 : Int) (v5 : Int) (v6 : Int) (v7 : Int) (h0 : -300 ≤ v1 ∧ v1 ≤ 600) (h1 : 0 ≤ v0 ∧ v0 ≤ 3000) (h2 : v2 = (v0 - v3 + 2147483648) % 4294967296 - 2147483648) (h3 : v4 = v0) (h4 : v5 = (v0 + v1 + 2147483648) % 4294967296 - 2147483648) (h5 : v6 = v2) (h6 : v5 ≤ v7) (h7 : -2147483648 ≤ v0 ∧ v0 ≤ 2147483647) (h8 : -2147483648 ≤ v1 ∧ v1 ≤ 2147483647) (h9 : -2147483648 ≤ v2 ∧ v2 ≤ 2147483647) (h10 : -2147483648 ≤ v3 ∧ v3 ≤ 2147483647) (h11 : -2147483648 ≤ v4 ∧ v4 ≤ 2147483647) (h12 : -2147483648 ≤ v5 ∧ v5 ≤ 2147483647) (h13 : -9223372036854775808 ≤ v6 ∧ v6 ≤ 9223372036854775807) (h14 : v7 = 3000) : v0 + v1 ≤ 3000 := by omega
theorem ob332 (v0 : Int) (h0 : -300 ≤ v0 ∧ v0 ≤ 600) (h1 : -2147483648 ≤ v0 ∧ v0 ≤ 2147483647) : -300 ≤ v0 ∧ v0 ≤ 600 := by omega
theorem ob333 (v0 : Int) (v1 : Int) (h0 : v0 = v1) (h1 : 0 ≤ v1 ∧ v1 ≤ 3000) (h2 : -2147483648 ≤ v0 ∧ v0 ≤ 2147483647) (h3 : -2147483648 ≤ v1 ∧ v1 ≤ 2147483647) : 0 ≤ v0 ∧ v0 ≤ 3000 := by omega
theorem ob334 (v0 : Int) (v1 : Int) (v2 : Int) (h0 : v0 = v1) (h1 : 0 ≤ v1 ∧ v1 ≤ 3000) (h2 : v2 = v1) (h3 : -2147483648 ≤ v0 ∧ v0 ≤ 2147483647) (h4 : -2147483648 ≤ v1 ∧ v1 ≤ 2147483647) (h5 : -2147483648 ≤ v2 ∧ v2 ≤ 2147483647) : 0 ≤ v0 ∧ v0 ≤ 3000 := by omega
theorem ob335 (v0 : Int) (v1 : Int) (v2 : Int) (v3 : Int) (v4 : Int) (h0 : v1 = v2 + v0) (h1 : 0 ≤ v0) (h2 : 2147483648 - v0 ≤ 0) (h3 : 0 ≤ v2 ∧ v2 ≤ 3000) (h4 : v3 = (v2 - v4 + 2147483648) % 4294967296 - 2147483648) (h5 : 0 ≤ v1 ∧ v1 ≤ 3000) (h6 : -2147483648 ≤ v0 ∧ v0 ≤ 2147483647) (h7 : -2147483648 ≤ v1 ∧ v1 ≤ 2147483647) (h8 : -2147483648 ≤ v2 ∧ v2 ≤ 2147483647) (h9 : -2147483648 ≤ v3 ∧ v3 ≤ 2147483647) (h10 : -2147483648 ≤ v4 ∧ v4 ≤ 2147483647) : (0 * v0) ≤ -1 := by omega
theorem ob336 (v0 : Int) (v1 : Int) (v2 : Int) (v3 : Int) (v4 : Int) (v5 : Int) (v6 : Int) (v7 : Int) (v8 : Int) (v9 : Int) (h0 : v0 = v1 + v2) (h1 : 0 ≤ v0 ∧ v0 ≤ 3000) (h2 : 0 ≤ v1 ∧ v1 ≤ 3000) (h3 : v3 = (v1 - v4 + 2147483648) % 4294967296 - 2147483648) (h4 : 0 ≤ v2) (h5 : 2147483648 - v2 ≤ v5 + 1) (h6 : v6 ≤ v2) (h7 : -300 ≤ v6 ∧ v6 ≤ 600) (h8 : v7 + v6 ≤ 3000) (h9 : v7 = v8) (h10 : 0 ≤ v8 ∧ v8 ≤ 3000) (h11 : v9 = v8) (h12 : -2147483648 ≤ v0 ∧ v0 ≤ 2147483647) (h13 : -2147483648 ≤ v1 ∧ v1 ≤ 2147483647) (h14 : -2147483648 ≤ v2 ∧ v2 ≤ 2147483647) (h15 : -2147483648 ≤ v3 ∧ v3 ≤ 2147483647) (h16 : -2147483648 ≤ v4 ∧ v4 ≤ 2147483647) (h17 : -2147483648 ≤ v6 ∧ v6 ≤ 2147483647) (h18 : -2147483648 ≤ v7 ∧ v7 ≤ 2147483647) (h19 : -2147483648 ≤ v8 ∧ v8 ≤ 2147483647) (h20 : -2147483648 ≤ v9 ∧ v9 ≤ 2147483647) : 0 ≤ v0 ∧ v0 ≤ 3000 := by omega
theorem ob337 (v0 : Int) (v1 : Int) (v2 : Int) (v3 : Int) (v4 : Int) (v5 : Int) (v6 : Int) (v7 : Int) (v8 : Int) (v9 : Int) (v10 : Int) (v11 : Int) (v12 : Int) (v13 : Int) (v14 : Int) (v15 : Int) (v16 : Int) (v17 : Int) (v18 : Int) (h0 : 2147483648 - v2 ≤ v1 + 1) (h1 : v0 = (v2 + v3 + 2147483648) % 4294967296 - 2147483648) (h2 : v4 = v5 + v2) (h3 : 0 ≤ v2) (h4 : v2 < v6) (h5 : 0 ≤ v5 ∧ v5 ≤ 3000) (h6 : v7 = (v5 - v8 + 2147483648) % 4294967296 - 2147483648) (h7 : -300 ≤ v6 ∧ v6 ≤ 600) (h8 : v9 + v6 ≤ 3000) (h9 : 0 ≤ v4 ∧ v4 ≤ 3000) (h10 : v10 = (v4 - v11 + 2147483648) % 4294967296 - 2147483648) (h11 : v12 = v4) (h12 : v9 = v13) (h13 : v11 = (v14 + 2147483648) % 4294967296 - 2147483648) (h14 : v15 = (v12 + 1 + 2147483648) % 4294967296 - 2147483648) (h15 : 0 ≤ v13 ∧ v13 ≤ 3000) (h16 : v14 ≠ v16) (h17 : v17 = v13) (h18 : v18 = (v14 + 2147483648) % 4294967296 - 2147483648) (h19 : -2147483648 ≤ v0 ∧ v0 ≤ 2147483647) (h20 : -2147483648 ≤ v2 ∧ v2 ≤ 2147483647) (h21 : v3 = 1) (h22 : -2147483648 ≤ v4 ∧ v4 ≤ 2147483647) (h23 : -2147483648 ≤ v5 ∧ v5 ≤ 2147483647) (h24 : -2147483648 ≤ v6 ∧ v6 ≤ 2147483647) (h25 : -2147483648 ≤ v7 ∧ v7 ≤ 2147483647) (h26 : -2147483648 ≤ v8 ∧ v8 ≤ 2147483647) (h27 : -2147483648 ≤ v9 ∧ v9 ≤ 2147483647) (h28 : -2147483648 ≤ v10 ∧ v10 ≤ 2147483647) (h29 : -2147483648 ≤ v11 ∧ v11 ≤ 2147483647) (h30 : -2147483648 ≤ v12 ∧ v12 ≤ 2147483647) (h31 : -2147483648 ≤ v13 ∧ v13 ≤ 2147483647) (h32 : -9223372036854775808 ≤ v14 ∧ v14 ≤ 9223372036854775807) (h33 : -2147483648 ≤ v15 ∧ v15 ≤ 2147483647) (h34 : v16 = 4294967296) (h35 : -2147483648 ≤ v17 ∧ v17 ≤ 2147483647) (h36 : -2147483648 ≤ v18 ∧ v18 ≤ 2147483647) : 2147483648 - v0 ≤ v1 := by omega
theorem ob338 (v0 : Int) (v1 : Int) (v2 : Int) (v3 : Int) (v4 : Int) (v5 : Int) (v6 : Int) (v7 : Int) (v8 : Int) (v9 : Int) (v10 : Int) (v11 : Int) (v12 : Int) (v13 : Int) (v14 : Int) (v15 : Int) (v16 : Int) (v17 : Int) (v18 : Int) (h0 : 0 ≤ v1 ∧ v1 ≤ 3000) (h1 : v3 = (v1 - v4 + 2147483648) % 4294967296 - 2147483648) (h2 : v5 = v1 + v6) (h3 : v0 = (v7 + 1 + 2147483648) % 4294967296 - 2147483648) (h4 : v2 = (v6 + v8 + 2147483648) % 4294967296 - 2147483648) (h5 : 0 ≤ v6) (h6 : 0 ≤ v5 ∧ v5 ≤ 3000) (h7 : 2147483648 - v6 ≤ v9 + 1) (h8 : v6 < v10) (h9 : v11 = (v5 - v12 + 2147483648) % 4294967296 - 2147483648) (h10 : v7 = v5) (h11 : -300 ≤ v10 ∧ v10 ≤ 600) (h12 : v13 + v10 ≤ 3000) (h13 : v12 = (v14 + 2147483648) % 4294967296 - 2147483648) (h14 : v14 ≠ v15) (h15 : v13 = v16) (h16 : v17 = (v14 + 2147483648) % 4294967296 - 2147483648) (h17 : 0 ≤ v16 ∧ v16 ≤ 3000) (h18 : v18 = v16) (h19 : -2147483648 ≤ v0 ∧ v0 ≤ 2147483647) (h20 : -2147483648 ≤ v1 ∧ v1 ≤ 2147483647) (h21 : -2147483648 ≤ v2 ∧ v2 ≤ 2147483647) (h22 : -2147483648 ≤ v3 ∧ v3 ≤ 2147483647) (h23 : -2147483648 ≤ v4 ∧ v4 ≤ 2147483647) (h24 : -2147483648 ≤ v5 ∧ v5 ≤ 2147483647) (h25 : -2147483648 ≤ v6 ∧ v6 ≤ 2147483647) (h26 : -2147483648 ≤ v7 ∧ v7 ≤ 2147483647) (h27 : v8 = 1) (h28 : -2147483648 ≤ v10 ∧ v10 ≤ 2147483647) (h29 : -2147483648 ≤ v11 ∧ v11 ≤ 2147483647) (h30 : -2147483648 ≤ v12 ∧ v12 ≤ 2147483647) (h31 : -2147483648 ≤ v13 ∧ v13 ≤ 2147483647) (h32 : -9223372036854775808 ≤ v14 ∧ v14 ≤ 9223372036854775807) (h33 : v15 = 4294967296) (h34 : -2147483648 ≤ v16 ∧ v16 ≤ 2147483647) (h35 : -2147483648 ≤ v17 ∧ v17 ≤ 2147483647) (h36 : -2147483648 ≤ v18 ∧ v18 ≤ 2147483647) : v0 = v1 + v2 := by omega
theorem ob339 (v0 : Int) (v1 : Int) (v2 : Int) (v3 : Int) (v4 : Int) (v5 : Int) (v6 : Int) (v7 : Int) (v8 : Int) (v9 : Int) (v10 : Int) (v11 : Int) (v12 : Int) (v13 : Int) (v14 : Int) (v15 : Int) (v16 : Int) (v17 : Int) (v18 : Int) (h0 : v0 = (v1 + v2 + 2147483648) % 4294967296 - 2147483648) (h1 : v3 = v4 + v1) (h2 : 0 ≤ v1) (h3 : 2147483648 - v1 ≤ v5 + 1) (h4 : v1 < v6) (h5 : 0 ≤ v4 ∧ v4 ≤ 3000) (h6 : v7 = (v4 - v8 + 2147483648) % 4294967296 - 2147483648) (h7 : -300 ≤ v6 ∧ v6 ≤ 600) (h8 : v9 + v6 ≤ 3000) (h9 : 0 ≤ v3 ∧ v3 ≤ 3000) (h10 : v10 = (v3 - v11 + 2147483648) % 4294967296 - 2147483648) (h11 : v12 = v3) (h12 : v9 = v13) (h13 : v11 = (v14 + 2147483648) % 4294967296 - 2147483648) (h14 : v15 = (v12 + 1 + 2147483648) % 4294967296 - 2147483648) (h15 : 0 ≤ v13 ∧ v13 ≤ 3000) (h16 : v14 ≠ v16) (h17 : v17 = v13) (h18 : v18 = (v14 + 2147483648) % 4294967296 - 2147483648) (h19 : -2147483648 ≤ v0 ∧ v0 ≤ 2147483647) (h20 : -2147483648 ≤ v1 ∧ v1 ≤ 2147483647) (h21 : v2 = 1) (h22 : -2147483648 ≤ v3 ∧ v3 ≤ 2147483647) (h23 : -2147483648 ≤ v4 ∧ v4 ≤ 2147483647) (h24 : -2147483648 ≤ v6 ∧ v6 ≤ 2147483647) (h25 : -2147483648 ≤ v7 ∧ v7 ≤ 2147483647) (h26 : -2147483648 ≤ v8 ∧ v8 ≤ 2147483647) (h27 : -2147483648 ≤ v9 ∧ v9 ≤ 2147483647) (h28 : -2147483648 ≤ v10 ∧ v10 ≤ 2147483647) (h29 : -2147483648 ≤ v11 ∧ v11 ≤ 2147483647) (h30 : -2147483648 ≤ v12 ∧ v12 ≤ 2147483647) (h31 : -2147483648 ≤ v13 ∧ v13 ≤ 2147483647) (h32 : -9223372036854775808 ≤ v14 ∧ v14 ≤ 9223372036854775807) (h33 : -2147483648 ≤ v15 ∧ v15 ≤ 2147483647) (h34 : v16 = 4294967296) (h35 : -2147483648 ≤ v17 ∧ v17 ≤ 2147483647) (h36 : -2147483648 ≤ v18 ∧ v18 ≤ 2147483647) : 0 ≤ v0 := by omega
theorem ob340 (v0 : Int) (v1 : Int) (v2 : Int) (v3 : Int) (v4 : Int) (v5 : Int) (v6 : Int) (v7 : Int) (v8 : Int) (v9 : Int) (v10 : Int) (v11 : Int) (v12 : Int) (v13 : Int) (v14 : Int) (v15 : Int) (v16 : Int) (h0 : v0 = (v1 + 1 + 2147483648) % 4294967296 - 2147483648) (h1 : v1 = v2) (h2 : v2 = v3 + v4) (h3 : 0 ≤ v2 ∧ v2 ≤ 3000) (h4 : v5 = (v2 - v6 + 2147483648) % 4294967296 - 2147483648) (h5 : 0 ≤ v3 ∧ v3 ≤ 3000) (h6 : v7 = (v3 - v8 + 2147483648) % 4294967296 - 2147483648) (h7 : 0 ≤ v4) (h8 : 2147483648 - v4 ≤ v9 + 1) (h9 : v4 < v10) (h10 : v6 = (v11 + 2147483648) % 4294967296 - 2147483648) (h11 : v12 = (v4 + v13 + 2147483648) % 4294967296 - 2147483648) (h12 : -300 ≤ v10 ∧ v10 ≤ 600) (h13 : v11 ≠ v14) (h14 : v15 + v10 ≤ 3000) (h15 : v16 = (v11 + 2147483648) % 4294967296 - 2147483648) (h16 : -2147483648 ≤ v0 ∧ v0 ≤ 2147483647) (h17 : -2147483648 ≤ v1 ∧ v1 ≤ 2147483647) (h18 : -2147483648 ≤ v2 ∧ v2 ≤ 2147483647) (h19 : -2147483648 ≤ v3 ∧ v3 ≤ 2147483647) (h20 : -2147483648 ≤ v4 ∧ v4 ≤ 2147483647) (h21 : -2147483648 ≤ v5 ∧ v5 ≤ 2147483647) (h22 : -2147483648 ≤ v6 ∧ v6 ≤ 2147483647) (h23 : -2147483648 ≤ v7 ∧ v7 ≤ 2147483647) (h24 : -2147483648 ≤ v8 ∧ v8 ≤ 2147483647) (h25 : -2147483648 ≤ v10 ∧ v10 ≤ 2147483647) (h26 : -9223372036854775808 ≤ v11 ∧ v11 ≤ 9223372036854775807) (h27 : -2147483648 ≤ v12 ∧ v12 ≤ 2147483647) (h28 : v13 = 1) (h29 : v14 = 4294967296) (h30 : -2147483648 ≤ v15 ∧ v15 ≤ 2147483647) (h31 : -2147483648 ≤ v16 ∧ v16 ≤ 2147483647) : 0 ≤ v0 ∧ v0 ≤ 3000 := by omega
theorem ob341 (v0 : Int) (v1 : Int) (v2 : Int) (v3 : Int) (v4 : Int) (v5 : Int) (v6 : Int) (v7 : Int) (v8 : Int) (v9 : Int) (h0 : 0 ≤ v1 ∧ v1 ≤ 3000) (h1 : v3 = (v1 - v4 + 2147483648) % 4294967296 - 2147483648) (h2 : v5 ≠ v2) (h3 : v0 = v6) (h4 : 0 ≤ v6 ∧ v6 ≤ 3000) (h5 : v7 = v6) (h6 : v8 = v6) (h7 : v7 + v9 ≤ 3000) (h8 : -300 ≤ v9 ∧ v9 ≤ 600) (h9 : -2147483648 ≤ v0 ∧ v0 ≤ 2147483647) (h10 : -2147483648 ≤ v1 ∧ v1 ≤ 2147483647) (h11 : v2 = 0) (h12 : -2147483648 ≤ v3 ∧ v3 ≤ 2147483647) (h13 : -2147483648 ≤ v4 ∧ v4 ≤ 2147483647) (h14 : -2147483648 ≤ v5 ∧ v5 ≤ 2147483647) (h15 : -2147483648 ≤ v6 ∧ v6 ≤ 2147483647) (h16 : -2147483648 ≤ v7 ∧ v7 ≤ 2147483647) (h17 : -2147483648 ≤ v8 ∧ v8 ≤ 2147483647) (h18 : -2147483648 ≤ v9 ∧ v9 ≤ 2147483647) : v0 = v1 + v2 := by omega
theorem ob342 (v0 : Int) (v1 : Int) (h0 : v1 ≠ v0) (h1 : v0 = 0) (h2 : -2147483648 ≤ v1 ∧ v1 ≤ 2147483647) : 0 ≤ v0 := by omega
theorem ob343 (v0 : Int) (v1 : Int) (v2 : Int) (v3 : Int) (v4 : Int) (h0 : v0 = v1) (h1 : 0 ≤ v1 ∧ v1 ≤ 3000) (h2 : v2 = v1) (h3 : v3 = v1) (h4 : v2 + v4 ≤ 3000) (h5 : -300 ≤ v4 ∧ v4 ≤ 600) (h6 : -2147483648 ≤ v0 ∧ v0 ≤ 2147483647) (h7 : -2147483648 ≤ v1 ∧ v1 ≤ 2147483647) (h8 : -2147483648 ≤ v2 ∧ v2 ≤ 2147483647) (h9 : -2147483648 ≤ v3 ∧ v3 ≤ 2147483647) (h10 : -2147483648 ≤ v4 ∧ v4 ≤ 2147483647) : 0 ≤ v0 ∧ v0 ≤ 3000 := by omega
theorem ob344 (v0 : Int) (v1 : Int) (v2 : Int) (h0 : v1 ≠ v0) (h1 : v0 ≤ v2) (h2 : v0 = 0) (h3 : -2147483648 ≤ v1 ∧ v1 ≤ 2147483647) (h4 : -2147483648 ≤ v2 ∧ v2 ≤ 2147483647) : 0 ≤ v0 ∧ v0 ≤ 1 := by omega
theorem ob345 (v0 : Int) (v1 : Int) (v2 : Int) (v3 : Int) (h0 : v1 ≠ v0) (h1 : v1 ≠ v2) (h2 : v1 = v3) (h3 : v0 = 1) (h4 : -2147483648 ≤ v1 ∧ v1 ≤ 2147483647) (h5 : v2 = 0) (h6 : v3 = 6) : -300 ≤ v0 ∧ v0 ≤ 600 := by omega
theorem ob346 (v0 : Int) (v1 : Int) (h0 : v0 = v1) (h1 : -2147483648 ≤ v0 ∧ v0 ≤ 2147483647) (h2 : -2147483648 ≤ v1 ∧ v1 ≤ 2147483647) : 0 ≤ v0 ∧ v0 ≤ 3000 := by omega
theorem ob347 (v0 : Int) (h0 : 0 ≤ v0 ∧ v0 ≤ 3000) (h1 : -2147483648 ≤ v0 ∧ v0 ≤ 2147483647) : 0 ≤ v0 ∧ v0 ≤ 3000 := by omega
theorem ob348 (v0 : Int) (v1 : Int) (v2 : Int) (v3 : Int) (v4 : Int) (h0 : 2147483648 - v2 ≤ v1 + 1) (h1 : v0 = (v2 + v3 + 2147483648) % 4294967296 - 2147483648) (h2 : 0 ≤ v2) (h3 : v2 ≤ v4) (h4 : -2147483648 ≤ v0 ∧ v0 ≤ 2147483647) (h5 : -2147483648 ≤ v2 ∧ v2 ≤ 2147483647) (h6 : v3 = 1) (h7 : v4 = 3000) : 2147483648 - v0 ≤ v1 := by omega
theorem ob349 (v0 : Int) (v1 : Int) (v2 : Int) (v3 : Int) (v4 : Int) (h0 : v0 = (v1 + v2 + 2147483648) % 4294967296 - 2147483648) (h1 : 0 ≤ v1) (h2 : 2147483648 - v1 ≤ v3 + 1) (h3 : v1 ≤ v4) (h4 : -2147483648 ≤ v0 ∧ v0 ≤ 2147483647) (h5 : -2147483648 ≤ v1 ∧ v1 ≤ 2147483647) (h6 : v2 = 1) (h7 : v4 = 3000) : 0 ≤ v0 := by omega
theorem ob350 (v0 : Int) (v1 : Int) (v2 : Int) (v3 : Int) (h0 : 0 ≤ v0 ∧ v0 ≤ 3000) (h1 : v1 ≤ v0) (h2 : v2 ≤ v1) (h3 : v3 = v2) (h4 : -2147483648 ≤ v0 ∧ v0 ≤ 2147483647) (h5 : -2147483648 ≤ v1 ∧ v1 ≤ 2147483647) (h6 : v2 = 0) (h7 : -2147483648 ≤ v3 ∧ v3 ≤ 2147483647) : 0 ≤ v0 ∧ v0 ≤ 3000 := by omega
theorem ob351 (v0 : Int) (h0 : v0 = 1) : 1 ≤ v0 ∧ v0 ≤ 2 := by omega
theorem ob352 (v0 : Int) (v1 : Int) (v2 : Int) (v3 : Int) (v4 : Int) (v5 : Int) (h0 : 2147483648 - v2 ≤ v1 + 1) (h1 : v0 = (v2 + v3 + 2147483648) % 4294967296 - 2147483648) (h2 : v4 = (v5 + v3 + 2147483648) % 4294967296 - 2147483648) (h3 : 0 ≤ v2) (h4 : v2 < v4) (h5 : -2147483648 ≤ v0 ∧ v0 ≤ 2147483647) (h6 : -2147483648 ≤ v2 ∧ v2 ≤ 2147483647) (h7 : v3 = 1) (h8 : -2147483648 ≤ v4 ∧ v4 ≤ 2147483647) (h9 : -2147483648 ≤ v5 ∧ v5 ≤ 2147483647) : 2147483648 - v0 ≤ v1 := by omega
theorem ob353 (v0 : Int) (v1 : Int) (v2 : Int) (v3 : Int) (v4 : Int) (v5 : Int) (h0 : v0 = (v1 + v2 + 2147483648) % 4294967296 - 2147483648) (h1 : v3 = (v4 + v2 + 2147483648) % 4294967296 - 2147483648) (h2 : 0 ≤ v1) (h3 : 2147483648 - v1 ≤ v5 + 1) (h4 : v1 < v3) (h5 : -2147483648 ≤ v0 ∧ v0 ≤ 2147483647) (h6 : -2147483648 ≤ v1 ∧ v1 ≤ 2147483647) (h7 : v2 = 1) (h8 : -2147483648 ≤ v3 ∧ v3 ≤ 2147483647) (h9 : -2147483648 ≤ v4 ∧ v4 ≤ 2147483647) : 0 ≤ v0 := by omega
theorem ob354 (v0 : Int) (v1 : Int) (v2 : Int) (v3 : Int) (h0 : v0 = (v1 + 1 + 2147483648) % 4294967296 - 2147483648) (h1 : v1 = v2) (h2 : 0 ≤ v2 ∧ v2 ≤ 3000) (h3 : v3 = v2) (h4 : -2147483648 ≤ v0 ∧ v0 ≤ 2147483647) (h5 : -2147483648 ≤ v1 ∧ v1 ≤ 2147483647) (h6 : -2147483648 ≤ v2 ∧ v2 ≤ 2147483647) (h7 : -2147483648 ≤ v3 ∧ v3 ≤ 2147483647) : 0 ≤ v0 ∧ v0 ≤ 3000 := by omega
theorem ob355 (v0 : Int) (v1 : Int) (v2 : Int) (v3 : Int) (h0 : v0 = v1) (h1 : 0 ≤ v1 ∧ v1 ≤ 3000) (h2 : v2 = v1) (h3 : v3 ≤ v1) (h4 : -2147483648 ≤ v0 ∧ v0 ≤ 2147483647) (h5 : -2147483648 ≤ v1 ∧ v1 ≤ 2147483647) (h6 : -2147483648 ≤ v2 ∧ v2 ≤ 2147483647) (h7 : v3 = 3000) : 0 ≤ v0 ∧ v0 ≤ 3000 := by omega
theorem ob356 (v0 : Int) (v1 : Int) (v2 : Int) (v3 : Int) (h0 : v0 = v1) (h1 : 0 ≤ v1 ∧ v1 ≤ 3000) (h2 : v2 = v1) (h3 : v3 = v1) (h4 : -2147483648 ≤ v0 ∧ v0 ≤ 2147483647) (h5 : -2147483648 ≤ v1 ∧ v1 ≤ 2147483647) (h6 : -2147483648 ≤ v2 ∧ v2 ≤ 2147483647) (h7 : -2147483648 ≤ v3 ∧ v3 ≤ 2147483647) : 0 ≤ v0 ∧ v0 ≤ 3000 := by omega
theorem ob357 (v0 : Int) (v1 : Int) (v2 : Int) (v3 : Int) (v4 : Int) (v5 : Int) (v6 : Int) (v7 : Int) (h0 : 2147483648 - v2 ≤ v1 + 1) (h1 : v0 = (v2 + v3 + 2147483648) % 4294967296 - 2147483648) (h2 : 0 ≤ v2) (h3 : v2 < v4) (h4 : v5 = (v6 + v3 + 2147483648) % 4294967296 - 2147483648) (h5 : v7 = v6) (h6 : -2147483648 ≤ v0 ∧ v0 ≤ 2147483647) (h7 : -2147483648 ≤ v2 ∧ v2 ≤ 2147483647) (h8 : v3 = 1) (h9 : v4 = 1500) (h10 : -2147483648 ≤ v5 ∧ v5 ≤ 2147483647) (h11 : -2147483648 ≤ v6 ∧ v6 ≤ 2147483647) (h12 : -2147483648 ≤ v7 ∧ v7 ≤ 2147483647) : 2147483648 - v0 ≤ v1 := by omega
theorem ob358 (v0 : Int) (v1 : Int) (v2 : Int) (v3 : Int) (v4 : Int) (v5 : Int) (v6 : Int) (v7 : Int) (h0 : v0 = (v1 + v2 + 2147483648) % 4294967296 - 2147483648) (h1 : 0 ≤ v1) (h2 : 2147483648 - v1 ≤ v3 + 1) (h3 : v1 < v4) (h4 : v5 = (v6 + v2 + 2147483648) % 4294967296 - 2147483648) (h5 : v7 = v6) (h6 : -2147483648 ≤ v0 ∧ v0 ≤ 2147483647) (h7 : -2147483648 ≤ v1 ∧ v1 ≤ 2147483647) (h8 : v2 = 1) (h9 : v4 = 1500) (h10 : -2147483648 ≤ v5 ∧ v5 ≤ 2147483647) (h11 : -2147483648 ≤ v6 ∧ v6 ≤ 2147483647) (h12 : -2147483648 ≤ v7 ∧ v7 ≤ 2147483647) : 0 ≤ v0 := by omega
theorem ob359 (v0 : Int) (v1 : Int) (v2 : Int) (v3 : Int) (v4 : Int) (h0 : v0 = v1) (h1 : 0 ≤ v1 ∧ v1 ≤ 3000) (h2 : v2 = v1) (h3 : v3 = (v1 + v4 + 2147483648) % 4294967296 - 2147483648) (h4 : -2147483648 ≤ v0 ∧ v0 ≤ 2147483647) (h5 : -2147483648 ≤ v1 ∧ v1 ≤ 2147483647) (h6 : -2147483648 ≤ v2 ∧ v2 ≤ 2147483647) (h7 : -2147483648 ≤ v3 ∧ v3 ≤ 2147483647) (h8 : -2147483648 ≤ v4 ∧ v4 ≤ 2147483647) : 0 ≤ v0 ∧ v0 ≤ 3000 := by omega
theorem ob360 (v0 : Int) (v1 : Int) (v2 : Int) (h0 : v0 = (v1 - v2 + 2147483648) % 4294967296 - 2147483648) (h1 : 0 ≤ v1 ∧ v1 ≤ 3000) (h2 : 0 ≤ v2 ∧ v2 ≤ 3000) (h3 : -2147483648 ≤ v0 ∧ v0 ≤ 2147483647) (h4 : -2147483648 ≤ v1 ∧ v1 ≤ 2147483647) (h5 : -2147483648 ≤ v2 ∧ v2 ≤ 2147483647) : -3000 ≤ v0 ∧ v0 ≤ 3000 := by omega
theorem ob361 (v0 : Int) (v1 : Int) (v2 : Int) (h0 : v1 = v0) (h1 : v1 ≠ v2) (h2 : v0 = 1) (h3 : -2147483648 ≤ v1 ∧ v1 ≤ 2147483647) (h4 : v2 = 0) : 0 ≤ v0 ∧ v0 ≤ 1 := by omega
theorem ob362 (v0 : Int) (v1 : Int) (v2 : Int) (v3 : Int) (h0 : v1 ≠ v0) (h1 : v1 ≠ v2) (h2 : v1 = v3) (h3 : v0 = 1) (h4 : -2147483648 ≤ v1 ∧ v1 ≤ 2147483647) (h5 : v2 = 0) (h6 : v3 = 4) : 0 ≤ v0 ∧ v0 ≤ 1 := by omega
theorem ob363 (v0 : Int) (v1 : Int) (v2 : Int) (v3 : Int) (v4 : Int) (h0 : v1 ≠ v0) (h1 : v1 ≠ v2) (h2 : v1 ≠ v3) (h3 : v1 ≠ v4) (h4 : v0 = 0) (h5 : -2147483648 ≤ v1 ∧ v1 ≤ 2147483647) (h6 : v2 = 1) (h7 : v3 = 4) (h8 : v4 = 10) : 0 ≤ v0 ∧ v0 ≤ 1 := by omega
theorem ob364 (v0 : Int) (v1 : Int) (v2 : Int) (v3 : Int) (v4 : Int) (h0 : v1 ≠ v0) (h1 : v1 ≠ v2) (h2 : v1 ≠ v3) (h3 : v1 = v4) (h4 : v0 = 1) (h5 : -2147483648 ≤ v1 ∧ v1 ≤ 2147483647) (h6 : v2 = 0) (h7 : v3 = 4) (h8 : v4 = 10) : 0 ≤ v0 ∧ v0 ≤ 1 := by omega
theorem ob365 (v0 : Int) (v1 : Int) (v2 : Int) (v3 : Int) (h0 : v0 = v1 % 4) (h1 : v1 + 2147483649 ≤ v2 + 1) (h2 : v3 ≤ v1) (h3 : -2147483648 ≤ v0 ∧ v0 ≤ 2147483647) (h4 : -2147483648 ≤ v1 ∧ v1 ≤ 2147483647) (h5 : v3 = 0) : 0 ≤ v0 ∧ v0 < (4 : Nat) := by omega
theorem ob366 (v0 : Int) (v1 : Int) (v2 : Int) (v3 : Int) (v4 : Int) (v5 : Int) (h0 : v2 + 2147483649 ≤ v1 + 1) (h1 : v0 = (v2 + v3 + 2147483648) % 4294967296 - 2147483648) (h2 : v4 ≤ v2) (h3 : v5 = v2 % 4) (h4 : -2147483648 ≤ v0 ∧ v0 ≤ 2147483647) (h5 : -2147483648 ≤ v2 ∧ v2 ≤ 2147483647) (h6 : v3 = (-1)) (h7 : v4 = 0) (h8 : -2147483648 ≤ v5 ∧ v5 ≤ 2147483647) : v0 + 2147483649 ≤ v1 := by omega
theorem ob367 (v0 : Int) (h0 : 0 ≤ v0 ∧ v0 ≤ 3000) (h1 : -2147483648 ≤ v0 ∧ v0 ≤ 2147483647) : -1000000000 ≤ v0 ∧ v0 ≤ 1000000000 := by omega
theorem ob368 (v0 : Int) (h0 : v0 ≤ 3000) (h1 : -2147483648 ≤ v0 ∧ v0 ≤ 2147483647) : v0 ≤ 1000000000 := by omega
theorem ob369 (v0 : Int) (v1 : Int) (v2 : Int) (v3 : Int) (v4 : Int) (h0 : v0 = v1 % 4) (h1 : v1 + 2147483649 ≤ v2 + 1) (h2 : v3 ≤ v1) (h3 : v4 = v1 % 4) (h4 : -2147483648 ≤ v0 ∧ v0 ≤ 2147483647) (h5 : -2147483648 ≤ v1 ∧ v1 ≤ 2147483647) (h6 : v3 = 0) (h7 : -2147483648 ≤ v4 ∧ v4 ≤ 2147483647) : 0 ≤ v0 ∧ v0 < (4 : Nat) := by omega
theorem ob370 (v0 : Int) (v1 : Int) (v2 : Int) (v3 : Int) (h0 : 0 ≤ v0 ∧ v0 ≤ 3000) (h1 : v1 = (v2 - v0 + 2147483648) % 4294967296 - 2147483648) (h2 : v3 = v0) (h3 : 0 ≤ v2 ∧ v2 ≤ 3000) (h4 : -2147483648 ≤ v0 ∧ v0 ≤ 2147483647) (h5 : -2147483648 ≤ v1 ∧ v1 ≤ 2147483647) (h6 : -2147483648 ≤ v2 ∧ v2 ≤ 2147483647) (h7 : -2147483648 ≤ v3 ∧ v3 ≤ 2147483647) : 0 ≤ v0 ∧ v0 ≤ 3000 := by omega
theorem ob371 (v0 : Int) (v1 : Int) (v2 : Int) (v3 : Int) (v4 : Int) (h0 : v0 = v1) (h1 : 0 ≤ v1 ∧ v1 ≤ 3000) (h2 : v2 = (v1 - v3 + 2147483648) % 4294967296 - 2147483648) (h3 : 0 ≤ v3 ∧ v3 ≤ 3000) (h4 : v4 = v3) (h5 : -2147483648 ≤ v0 ∧ v0 ≤ 2147483647) (h6 : -2147483648 ≤ v1 ∧ v1 ≤ 2147483647) (h7 : -2147483648 ≤ v2 ∧ v2 ≤ 2147483647) (h8 : -2147483648 ≤ v3 ∧ v3 ≤ 2147483647) (h9 : -2147483648 ≤ v4 ∧ v4 ≤ 2147483647) : v0 ≤ 3000 := by omega
theorem ob372 (v0 : Int) (h0 : 1 ≤ v0) (h1 : 2147483648 - v0 ≤ 0) (h2 : -2147483648 ≤ v0 ∧ v0 ≤ 2147483647) : (0 * v0) ≤ -1 := by omega
theorem ob373 (v0 : Int) (v1 : Int) (v2 : Int) (v3 : Int) (v4 : Int) (v5 : Int) (h0 : 2147483648 - v2 ≤ v1 + 1) (h1 : v0 = (v2 + v3 + 2147483648) % 4294967296 - 2147483648) (h2 : 1 ≤ v2) (h3 : v2 < v4) (h4 : v5 = v4) (h5 : -2147483648 ≤ v0 ∧ v0 ≤ 2147483647) (h6 : -2147483648 ≤ v2 ∧ v2 ≤ 2147483647) (h7 : v3 = 1) (h8 : -2147483648 ≤ v4 ∧ v4 ≤ 2147483647) (h9 : -2147483648 ≤ v5 ∧ v5 ≤ 2147483647) : 2147483648 - v0 ≤ v1 := by omega
theorem ob374 (v0 : Int) (v1 : Int) (v2 : Int) (v3 : Int) (v4 : Int) (v5 : Int) (h0 : v0 = (v1 + v2 + 2147483648) % 4294967296 - 2147483648) (h1 : 1 ≤ v1) (h2 : 2147483648 - v1 ≤ v3 + 1) (h3 : v1 < v4) (h4 : v5 = v4) (h5 : -2147483648 ≤ v0 ∧ v0 ≤ 2147483647) (h6 : -2147483648 ≤ v1 ∧ v1 ≤ 2147483647) (h7 : v2 = 1) (h8 : -2147483648 ≤ v4 ∧ v4 ≤ 2147483647) (h9 : -2147483648 ≤ v5 ∧ v5 ≤ 2147483647) : 1 ≤ v0 := by omega
theorem ob375 (v0 : Int) (h0 : v0 = 1) : 1 ≤ v0 := by omega
set_option maxHeartbeats 4000000 in
set_option maxRecDepth 100000 in
/-- X6_begin on (25,) -/
theorem jx_X6_begin (l : Launch) (hlt : l.stackTraces = false) (D : va_G) (t3 : Nat × Nat × Nat) (cI cJ : ClassId) (ad : Nat → Nat) (g : Nat → Int32) (lg : Nat → Int64) (ar : Nat → Nat → Int32) (bk : Nat → Int64) (sz : Nat) (y1 : Int32) (hi_g26 : 0 ≤ (g 26).toInt ∧ (g 26).toInt ≤ 200) (hi_g21 : 0 ≤ (g 21).toInt ∧ (g 21).toInt ≤ 4) (hi_g22 : 0 ≤ (g 22).toInt ∧ (g 22).toInt ≤ 4) : JMv l yX6_begin (Cond.code yX6_begin cX6_begin 2 none :: wwX) { frames := 3, cells := 1, slots := 6, locals := 67 } t3 D xw cI cJ ad [.ref (ad 25), .int y1] (xw cI cJ ad g lg ar bk) sz 1 6 (fun g' lg' ar' bk' => hk_fr [14, 15, 16, 17, 21, 22, 23, 24, 25, 26, 43, 51, 52] g g' ∧ hk_fr [3] lg lg' ∧ hk_fr [2] ar ar' ∧ (0 ≤ (g' 26).toInt ∧ (g' 26).toInt ≤ 200) ∧ (0 ≤ (g' 21).toInt ∧ (g' 21).toInt ≤ 4) ∧ (0 ≤ (g' 22).toInt ∧ (g' 22).toInt ≤ 4)) (fun g' lg' ar' bk' => False) := by
  refine jx_metv (cc := cX6_begin) (maxL := 2) (ret := none) rfl (by decide) rfl (Nat.le_of_ble_eq_true rfl) ?_
  intro p e s m args below meth c ls Q A hx hb hml hown hts hA hZ hw hl hQ kr kt
  have hq : ∀ w ∈ wwX, w.before args s = true := fun w h => hts w (List.mem_cons_of_mem _ h)
  have hl : lv_has ls 2 [(0, .ref (ad 25)), (1, .int y1)] := hl
  refine lv_aload_n hx hb dX6_begin_0 rfl (lv_at hl 0 rfl) ?_
  refine hk_get (ci := 9) (C := RX6) (T := TX6) (N := 16) (v := .ref (ad 6)) hx hb hts (fun _ h => List.mem_cons_of_mem _ (wwXc_wsX60 _ h)) hown hw 25 rfl rfl 0 (by decide) (hq _ wX_399) rfl dX6_begin_1 ?_
  refine jx_Vv (As := []) (rest := []) ⟨hx, hb, hml, hown, hts⟩ hZ hw hA (jx_X8_begin l hlt D t3 cI cJ ad g lg ar bk _) (cwV 0 hts (jx_gV wwX_good wX_406 wX_407 wX_408 wX_252 wX_409) rfl rfl rfl (by decide +kernel) ⟨Nat.le_of_ble_eq_true rfl, Nat.le_of_ble_eq_true rfl⟩) 6 (ci := 11) (T := TX8) (N := 4) rfl rfl rfl hl.1 rfl (Nat.le_of_ble_eq_true rfl) dX6_begin_4 ⟨Nat.le_of_ble_eq_true rfl, Nat.le_of_ble_eq_true rfl⟩ (fun _ _ _ _ _ _ _ _ hp _ _ _ _ => hp.elim) (fun g6 l7 a8 b9 H locs hp10 hw => ?_)
  obtain ⟨h11, h12, h13⟩ := hp10
  refine lv_aload_n hx hb dX6_begin_7 rfl (lv_at hl 0 rfl) ?_
  refine hk_get (ci := 9) (C := RX6) (T := TX6) (N := 16) (v := .ref (ad 4)) hx hb hts (fun _ h => List.mem_cons_of_mem _ (wwXc_wsX60 _ h)) hown hw 25 rfl rfl 1 (by decide) (hq _ wX_410) rfl dX6_begin_8 ?_
  refine lv_iconst (v := 0) hx hb dX6_begin_11 (by decide) ?_
  refine jx_putg xw (g := g6) (lg := l7) (ar := a8) (bk := b9) (x := 0) 14 (ci := 12) (C := RX9) (T := TX9) (N := 2) (ty := .int) hx hb hts (fun _ h => List.mem_cons_of_mem _ (wwXc_wsX90 _ h)) tyX9 tyX9_ok nmX9 hown hw 4 rfl rfl 1 (by decide) (hq _ wX_402) rfl (by decide +kernel) rfl rfl (Nat.le_of_ble_eq_true rfl) dX6_begin_12 rfl (fun H locs g14 h_g14 hw => ?_)
  refine lv_aload_n hx hb dX6_begin_15 rfl (lv_at hl 0 rfl) ?_
  refine hk_get (ci := 9) (C := RX6) (T := TX6) (N := 16) (v := .ref (ad 15)) hx hb hts (fun _ h => List.mem_cons_of_mem _ (wwXc_wsX60 _ h)) hown hw 25 rfl rfl 4 (by decide) (hq _ wX_411) rfl dX6_begin_16 ?_
  have e_g14_26 : g14 26 = (g 26) := ((hk_upgN h_g14 26 rfl)).trans (h11 26 rfl)
  refine jx_Vv (As := []) (rest := []) ⟨hx, hb, hml, hown, hts⟩ hZ hw hA (jx_X4_clear l hlt D t3 cI cJ ad g14 l7 a8 b9 _ (ob254 ((g14 26).toInt) ((g 26).toInt) (congrArg Int32.toInt e_g14_26) hi_g26 (hE_rng (g14 26)) (hE_rng (g 26)))) (cwV 0 hts (jx_gV wwX_good wX_412 wX_108 wX_109 wX_69 wX_110) rfl rfl rfl (by decide +kernel) ⟨Nat.le_of_ble_eq_true rfl, Nat.le_of_ble_eq_true rfl⟩) 15 (ci := 7) (T := TX4) (N := 4) rfl rfl rfl hl.1 rfl (Nat.le_of_ble_eq_true rfl) dX6_begin_19 ⟨Nat.le_of_ble_eq_true rfl, Nat.le_of_ble_eq_true rfl⟩ (fun _ _ _ _ _ _ _ _ hp _ _ _ _ => hp.elim) (fun g20 l21 a22 b23 H locs hp24 hw => ?_)
  obtain ⟨h25, h26, h27, h28⟩ := hp24
  refine lv_aload_n hx hb dX6_begin_22 rfl (lv_at hl 0 rfl) ?_
  refine hk_get (ci := 9) (C := RX6) (T := TX6) (N := 16) (v := .ref (ad 9)) hx hb hts (fun _ h => List.mem_cons_of_mem _ (wwXc_wsX60 _ h)) hown hw 25 rfl rfl 2 (by decide) (hq _ wX_413) rfl dX6_begin_23 ?_
  refine lv_iconst (v := 0) hx hb dX6_begin_26 (by decide) ?_
  refine lv_iconst (v := 0) hx hb dX6_begin_27 (by decide) ?_
  refine lv_iconst (v := 0) hx hb dX6_begin_28 (by decide) ?_
  have e_g20_21 : g20 21 = (g 21) := ((h25 21 rfl)).trans (((hk_upgN h_g14 21 rfl)).trans (h11 21 rfl))
  have e_g20_22 : g20 22 = (g 22) := ((h25 22 rfl)).trans (((hk_upgN h_g14 22 rfl)).trans (h11 22 rfl))
  refine jx_Vv (As := [.int 0, .int 0, .int 0]) (rest := []) ⟨hx, hb, hml, hown, hts⟩ hZ hw hA (jx_X5_use l hlt D t3 cI cJ ad g20 l21 a22 b23 _ 0 0 0 (ob325 (((0 : Int32)).toInt) (by decide)) (ob325 (((0 : Int32)).toInt) (by decide)) (ob61 ((g20 21).toInt) ((g 21).toInt) (congrArg Int32.toInt e_g20_21) hi_g21 (hE_rng (g20 21)) (hE_rng (g 21))) (ob61 ((g20 22).toInt) ((g 22).toInt) (congrArg Int32.toInt e_g20_22) hi_g22 (hE_rng (g20 22)) (hE_rng (g 22)))) (cwV 3 hts (jx_gV wwX_good wX_414 wX_415 wX_416 wX_215 wX_417) rfl rfl rfl (by decide +kernel) ⟨Nat.le_of_ble_eq_true rfl, Nat.le_of_ble_eq_true rfl⟩) 9 (ci := 8) (T := TX5) (N := 6) rfl rfl rfl hl.1 rfl (Nat.le_of_ble_eq_true rfl) dX6_begin_29 ⟨Nat.le_of_ble_eq_true rfl, Nat.le_of_ble_eq_true rfl⟩ (fun _ _ _ _ _ _ _ _ hp _ _ _ _ => hp.elim) (fun g34 l35 a36 b37 H locs hp38 hw => ?_)
  obtain ⟨h39, h40, h41, h42, h43⟩ := hp38
  refine lv_aload_n hx hb dX6_begin_32 rfl (lv_at hl 0 rfl) ?_
  refine hk_get (ci := 9) (C := RX6) (T := TX6) (N := 16) (v := .ref (ad 9)) hx hb hts (fun _ h => List.mem_cons_of_mem _ (wwXc_wsX60 _ h)) hown hw 25 rfl rfl 2 (by decide) (hq _ wX_413) rfl dX6_begin_33 ?_
  refine jx_Vv (As := []) (rest := []) ⟨hx, hb, hml, hown, hts⟩ hZ hw hA (jx_X5_reset l hlt D t3 cI cJ ad g34 l35 a36 b37 _ (ob256 ((g34 21).toInt) h42 (hE_rng (g34 21))) (ob256 ((g34 22).toInt) h43 (hE_rng (g34 22)))) (cwV 0 hts (jx_gV wwX_good wX_418 wX_419 wX_420 wX_215 wX_421) rfl rfl rfl (by decide +kernel) ⟨Nat.le_of_ble_eq_true rfl, Nat.le_of_ble_eq_true rfl⟩) 9 (ci := 8) (T := TX5) (N := 6) rfl rfl rfl hl.1 rfl (Nat.le_of_ble_eq_true rfl) dX6_begin_36 ⟨Nat.le_of_ble_eq_true rfl, Nat.le_of_ble_eq_true rfl⟩ (fun _ _ _ _ _ _ _ _ hp _ _ _ _ => hp.elim) (fun g49 l50 a51 b52 H locs hp53 hw => ?_)
  obtain ⟨h54, h55, h56⟩ := hp53
  refine lv_aload_n hx hb dX6_begin_39 rfl (lv_at hl 0 rfl) ?_
  refine lv_iload_n hx hb dX6_begin_40 rfl (lv_at hl 1 rfl) ?_
  refine lv_i2l hx hb dX6_begin_41 rfl (jx_nl fun z57 hz57 => ?_)
  refine jx_putl xw (g := g49) (lg := l50) (ar := a51) (bk := b52) (x := z57) 3 (ci := 9) (C := RX6) (T := TX6) (N := 16) (ty := .long) hx hb hts (fun _ h => List.mem_cons_of_mem _ (wwXc_wsX60 _ h)) tyX6 tyX6_ok nmX6 hown hw 25 rfl rfl 7 (by decide) (hq _ wX_405) rfl (by decide +kernel) rfl rfl (Nat.le_of_ble_eq_true rfl) dX6_begin_42 rfl (fun H locs l58 h_l58 hw => ?_)
  refine lv_aload_n hx hb dX6_begin_45 rfl (lv_at hl 0 rfl) ?_
  refine lv_iconst (v := 0) hx hb dX6_begin_46 (by decide) ?_
  refine jx_putg xw (g := g49) (lg := l58) (ar := a51) (bk := b52) (x := 0) 43 (ci := 9) (C := RX6) (T := TX6) (N := 16) (ty := .int) hx hb hts (fun _ h => List.mem_cons_of_mem _ (wwXc_wsX60 _ h)) tyX6 tyX6_ok nmX6 hown hw 25 rfl rfl 9 (by decide) (hq _ wX_422) rfl (by decide +kernel) rfl rfl (Nat.le_of_ble_eq_true rfl) dX6_begin_47 rfl (fun H locs g59 h_g59 hw => ?_)
  refine lv_aload_n hx hb dX6_begin_50 rfl (lv_at hl 0 rfl) ?_
  refine hk_get (ci := 9) (C := RX6) (T := TX6) (N := 16) (v := .ref (ad 26)) hx hb hts (fun _ h => List.mem_cons_of_mem _ (wwXc_wsX60 _ h)) hown hw 25 rfl rfl 5 (by decide) (hq _ wX_423) rfl dX6_begin_51 ?_
  refine lv_iconst (v := 0) hx hb dX6_begin_54 (by decide) ?_
  refine jx_putg xw (g := g59) (lg := l58) (ar := a51) (bk := b52) (x := 0) 51 (ci := 6) (C := RX3) (T := TX3) (N := 9) (ty := .int) hx hb hts (fun _ h => List.mem_cons_of_mem _ (wwXc_wsX30 _ h)) tyX3 tyX3_ok nmX3 hown hw 26 rfl rfl 4 (by decide) (hq _ wX_424) rfl (by decide +kernel) rfl rfl (Nat.le_of_ble_eq_true rfl) dX6_begin_55 rfl (fun H locs g60 h_g60 hw => ?_)
  refine lv_aload_n hx hb dX6_begin_58 rfl (lv_at hl 0 rfl) ?_
  refine hk_get (ci := 9) (C := RX6) (T := TX6) (N := 16) (v := .ref (ad 26)) hx hb hts (fun _ h => List.mem_cons_of_mem _ (wwXc_wsX60 _ h)) hown hw 25 rfl rfl 5 (by decide) (hq _ wX_423) rfl dX6_begin_59 ?_
  refine lv_iconst (v := 0) hx hb dX6_begin_62 (by decide) ?_
  refine jx_putg xw (g := g60) (lg := l58) (ar := a51) (bk := b52) (x := 0) 52 (ci := 6) (C := RX3) (T := TX3) (N := 9) (ty := .int) hx hb hts (fun _ h => List.mem_cons_of_mem _ (wwXc_wsX30 _ h)) tyX3 tyX3_ok nmX3 hown hw 26 rfl rfl 5 (by decide) (hq _ wX_425) rfl (by decide +kernel) rfl rfl (Nat.le_of_ble_eq_true rfl) dX6_begin_63 rfl (fun H locs g61 h_g61 hw => ?_)
  have e_g61_26 : g61 26 = (g20 26) := ((hk_upgN h_g61 26 rfl)).trans (((hk_upgN h_g60 26 rfl)).trans (((hk_upgN h_g59 26 rfl)).trans (((h54 26 rfl)).trans (h39 26 rfl))))
  have e_g61_21 : g61 21 = (g34 21) := ((hk_upgN h_g61 21 rfl)).trans (((hk_upgN h_g60 21 rfl)).trans (((hk_upgN h_g59 21 rfl)).trans (h54 21 rfl)))
  have e_g61_22 : g61 22 = (g34 22) := ((hk_upgN h_g61 22 rfl)).trans (((hk_upgN h_g60 22 rfl)).trans (((hk_upgN h_g59 22 rfl)).trans (h54 22 rfl)))
  exact kr g61 l58 a51 b52 _ _ _ _ ⟨(hk_frG (hk_frG (hk_frG (hk_frT (hk_frT (hk_frT (hk_frG (hk_frT hk_fr0 (by decide) h11) (by decide) h_g14) (by decide) h25) (by decide) h39) (by decide) h54) (by decide) h_g59) (by decide) h_g60) (by decide) h_g61), (hk_frL (hk_frT (hk_frT (hk_frT (hk_frT hk_fr0 (by decide) h12) (by decide) h26) (by decide) h40) (by decide) h55) (by decide) h_l58), (hk_frT (hk_frT (hk_frT (hk_frT hk_fr0 (by decide) h13) (by decide) h27) (by decide) h41) (by decide) h56), (ob254 ((g61 26).toInt) ((g20 26).toInt) (congrArg Int32.toInt e_g61_26) h28 (hE_rng (g61 26)) (hE_rng (g20 26))), (ob61 ((g61 21).toInt) ((g34 21).toInt) (congrArg Int32.toInt e_g61_21) h42 (hE_rng (g61 21)) (hE_rng (g34 21))), (ob61 ((g61 22).toInt) ((g34 22).toInt) (congrArg Int32.toInt e_g61_22) h43 (hE_rng (g61 22)) (hE_rng (g34 22)))⟩ hw dX6_begin_66

set_option maxHeartbeats 4000000 in
set_option maxRecDepth 100000 in
/-- X6_askMemory on (25,) -/
theorem jx_X6_askMemory (l : Launch) (hlt : l.stackTraces = false) (D : va_G) (t3 : Nat × Nat × Nat) (cI cJ : ClassId) (ad : Nat → Nat) (g : Nat → Int32) (lg : Nat → Int64) (ar : Nat → Nat → Int32) (bk : Nat → Int64) (sz : Nat) (y1 : Int64) : JMv l yX6_askMemory (Cond.code yX6_askMemory cX6_askMemory 3 none :: wwX) { frames := 7, cells := 1, slots := 6, locals := 102 } t3 D xw cI cJ ad [.ref (ad 25), .long y1] (xw cI cJ ad g lg ar bk) sz 1 6 (fun g' lg' ar' bk' => hk_fr [17] g g' ∧ hk_fr [4] lg lg' ∧ hk_fr [] ar ar') (fun g' lg' ar' bk' => hk_fr [17] g g' ∧ hk_fr [4] lg lg' ∧ hk_fr [] ar ar') := by
  refine jx_metv (cc := cX6_askMemory) (maxL := 3) (ret := none) rfl (by decide) rfl (Nat.le_of_ble_eq_true rfl) ?_
  intro p e s m args below meth c ls Q A hx hb hml hown hts hA hZ hw hl hQ kr kt
  have hq : ∀ w ∈ wwX, w.before args s = true := fun w h => hts w (List.mem_cons_of_mem _ h)
  have hl : lv_has ls 3 [(0, .ref (ad 25)), (1, .long y1)] := hl
  refine lv_aload_n hx hb dX6_askMemory_0 rfl (lv_at hl 0 rfl) ?_
  refine lv_lload_n hx hb dX6_askMemory_1 rfl (lv_at hl 1 rfl) ?_
  refine jx_putl xw (g := g) (lg := lg) (ar := ar) (bk := bk) (x := y1) 4 (ci := 9) (C := RX6) (T := TX6) (N := 16) (ty := .long) hx hb hts (fun _ h => List.mem_cons_of_mem _ (wwXc_wsX60 _ h)) tyX6 tyX6_ok nmX6 hown hw 25 rfl rfl 8 (by decide) (hq _ wX_404) rfl (by decide +kernel) rfl rfl (Nat.le_of_ble_eq_true rfl) dX6_askMemory_2 rfl (fun H locs l1 h_l1 hw => ?_)
  refine lv_lload_n hx hb dX6_askMemory_5 rfl (lv_at hl 1 rfl) ?_
  refine lv_aload_n hx hb dX6_askMemory_6 rfl (lv_at hl 0 rfl) ?_
  have e_l1_3 : l1 3 = (lg 3) := (hk_uplN h_l1 3 rfl)
  refine hk_get (ci := 9) (C := RX6) (T := TX6) (N := 16) (v := .long (lg 3)) hx hb hts (fun _ h => List.mem_cons_of_mem _ (wwXc_wsX60 _ h)) hown hw 25 rfl rfl 7 (by decide) (hq _ wX_405) (congrArg (fun z => some (Value.long z)) e_l1_3) dX6_askMemory_7 ?_
  refine hk_lcmp_le (tgt := 23) hx hb dX6_askMemory_10 dX6_askMemory_11 (by decide) (fun cc2 => ?_) (fun cc2 => ?_)
  · exact kr g l1 ar bk _ _ _ _ ⟨hk_fr0, (hk_frL hk_fr0 (by decide) h_l1), hk_fr0⟩ hw dX6_askMemory_23
  · refine lv_aload_n hx hb dX6_askMemory_14 rfl (lv_at hl 0 rfl) ?_
    refine hk_get (ci := 9) (C := RX6) (T := TX6) (N := 16) (v := .ref (ad 6)) hx hb hts (fun _ h => List.mem_cons_of_mem _ (wwXc_wsX60 _ h)) hown hw 25 rfl rfl 0 (by decide) (hq _ wX_399) rfl dX6_askMemory_15 ?_
    refine lv_bipush (v := 15) hx hb dX6_askMemory_18 (by decide) ?_
    refine jx_Vv (As := [.int 15]) (rest := []) ⟨hx, hb, hml, hown, hts⟩ hZ hw hA (jx_X8_fail l hlt D t3 cI cJ ad g l1 ar bk _ 15) (cwV 1 hts (jx_gV wwX_good wX_403 wX_255 wX_256 wX_252 wX_257) rfl rfl rfl (by decide +kernel) ⟨Nat.le_of_ble_eq_true rfl, Nat.le_of_ble_eq_true rfl⟩) 6 (ci := 11) (T := TX8) (N := 4) rfl rfl rfl hl.1 rfl (Nat.le_of_ble_eq_true rfl) dX6_askMemory_20 ⟨Nat.le_of_ble_eq_true rfl, Nat.le_of_ble_eq_true rfl⟩ (fun u3 u4 u5 u6 H locs ce q hp hw h1 h2 h3 => by obtain ⟨ht0, ht1, ht2⟩ := hp; exact kt _ _ _ _ _ _ _ _ _ _ _ ⟨ht0, (hk_frT (hk_frL hk_fr0 (by decide) h_l1) (by decide) ht1), ht2⟩ hw h1 h2 h3) (fun g8 l9 a10 b11 H locs hp12 hw => ?_)
    obtain ⟨h13, h14, h15, h16⟩ := hp12
    exact False.elim h16

set_option maxHeartbeats 4000000 in
set_option maxRecDepth 100000 in
/-- X6_askEnd on (25,) -/
theorem jx_X6_askEnd (l : Launch) (hlt : l.stackTraces = false) (D : va_G) (t3 : Nat × Nat × Nat) (cI cJ : ClassId) (ad : Nat → Nat) (g : Nat → Int32) (lg : Nat → Int64) (ar : Nat → Nat → Int32) (bk : Nat → Int64) (sz : Nat) : JMv l yX6_askEnd (Cond.code yX6_askEnd cX6_askEnd 1 none :: wwX) { frames := 7, cells := 1, slots := 6, locals := 102 } t3 D xw cI cJ ad [.ref (ad 25)] (xw cI cJ ad g lg ar bk) sz 1 6 (fun g' lg' ar' bk' => hk_fr [17] g g' ∧ hk_fr [] lg lg' ∧ hk_fr [] ar ar') (fun g' lg' ar' bk' => hk_fr [17] g g' ∧ hk_fr [] lg lg' ∧ hk_fr [] ar ar') := by
  refine jx_metv (cc := cX6_askEnd) (maxL := 1) (ret := none) rfl (by decide) rfl (Nat.le_of_ble_eq_true rfl) ?_
  intro p e s m args below meth c ls Q A hx hb hml hown hts hA hZ hw hl hQ kr kt
  have hq : ∀ w ∈ wwX, w.before args s = true := fun w h => hts w (List.mem_cons_of_mem _ h)
  have hl : lv_has ls 1 [(0, .ref (ad 25))] := hl
  refine lv_aload_n hx hb dX6_askEnd_0 rfl (lv_at hl 0 rfl) ?_
  refine hk_get (ci := 9) (C := RX6) (T := TX6) (N := 16) (v := .ref (ad 6)) hx hb hts (fun _ h => List.mem_cons_of_mem _ (wwXc_wsX60 _ h)) hown hw 25 rfl rfl 0 (by decide) (hq _ wX_399) rfl dX6_askEnd_1 ?_
  refine hk_get (ci := 11) (C := RX8) (T := TX8) (N := 4) (v := .int (g 15)) hx hb hts (fun _ h => List.mem_cons_of_mem _ (wwXc_wsX80 _ h)) hown hw 6 rfl rfl 1 (by decide) (hq _ wX_400) rfl dX6_askEnd_4 ?_
  refine lv_aload_n hx hb dX6_askEnd_7 rfl (lv_at hl 0 rfl) ?_
  refine hk_get (ci := 9) (C := RX6) (T := TX6) (N := 16) (v := .ref (ad 6)) hx hb hts (fun _ h => List.mem_cons_of_mem _ (wwXc_wsX60 _ h)) hown hw 25 rfl rfl 0 (by decide) (hq _ wX_399) rfl dX6_askEnd_8 ?_
  refine hk_get (ci := 11) (C := RX8) (T := TX8) (N := 4) (v := .ref (ad 2)) hx hb hts (fun _ h => List.mem_cons_of_mem _ (wwXc_wsX80 _ h)) hown hw 6 rfl rfl 0 (by decide) (hq _ wX_401) rfl dX6_askEnd_11 ?_
  refine hk_get (ci := 12) (C := RX9) (T := TX9) (N := 2) (v := .int (g 13)) hx hb hts (fun _ h => List.mem_cons_of_mem _ (wwXc_wsX90 _ h)) hown hw 2 rfl rfl 1 (by decide) (hq _ wX_402) rfl dX6_askEnd_14 ?_
  refine lv_icmp_ge (tgt := 29) hx hb dX6_askEnd_17 (by decide) (fun cc1 => ?_) (fun cc1 => ?_)
  · exact kr g lg ar bk _ _ _ _ ⟨hk_fr0, hk_fr0, hk_fr0⟩ hw dX6_askEnd_29
  · refine lv_aload_n hx hb dX6_askEnd_20 rfl (lv_at hl 0 rfl) ?_
    refine hk_get (ci := 9) (C := RX6) (T := TX6) (N := 16) (v := .ref (ad 6)) hx hb hts (fun _ h => List.mem_cons_of_mem _ (wwXc_wsX60 _ h)) hown hw 25 rfl rfl 0 (by decide) (hq _ wX_399) rfl dX6_askEnd_21 ?_
    refine lv_bipush (v := 12) hx hb dX6_askEnd_24 (by decide) ?_
    refine jx_Vv (As := [.int 12]) (rest := []) ⟨hx, hb, hml, hown, hts⟩ hZ hw hA (jx_X8_fail l hlt D t3 cI cJ ad g lg ar bk _ 12) (cwV 1 hts (jx_gV wwX_good wX_403 wX_255 wX_256 wX_252 wX_257) rfl rfl rfl (by decide +kernel) ⟨Nat.le_of_ble_eq_true rfl, Nat.le_of_ble_eq_true rfl⟩) 6 (ci := 11) (T := TX8) (N := 4) rfl rfl rfl hl.1 rfl (Nat.le_of_ble_eq_true rfl) dX6_askEnd_26 ⟨Nat.le_of_ble_eq_true rfl, Nat.le_of_ble_eq_true rfl⟩ (fun u2 u3 u4 u5 H locs ce q hp hw h1 h2 h3 => by obtain ⟨ht0, ht1, ht2⟩ := hp; exact kt _ _ _ _ _ _ _ _ _ _ _ ⟨ht0, ht1, ht2⟩ hw h1 h2 h3) (fun g7 l8 a9 b10 H locs hp11 hw => ?_)
    obtain ⟨h12, h13, h14, h15⟩ := hp11
    exact False.elim h15

set_option maxHeartbeats 4000000 in
set_option maxRecDepth 100000 in
/-- X6_readProperties on (25,) -/
theorem jx_X6_readProperties (l : Launch) (hlt : l.stackTraces = false) (D : va_G) (t3 : Nat × Nat × Nat) (cI cJ : ClassId) (ad : Nat → Nat) (g : Nat → Int32) (lg : Nat → Int64) (ar : Nat → Nat → Int32) (bk : Nat → Int64) (sz : Nat) (hi_a0rg : hk_rg 0 255 (ar 0)) (hi_g21 : 0 ≤ (g 21).toInt ∧ (g 21).toInt ≤ 4) (hi_g22 : 0 ≤ (g 22).toInt ∧ (g 22).toInt ≤ 4) : JMv l yX6_readProperties (Cond.code yX6_readProperties cX6_readProperties 4 none :: wwX) { frames := 7, cells := 1, slots := 6, locals := 102 } t3 D xw cI cJ ad [.ref (ad 25)] (xw cI cJ ad g lg ar bk) sz 1 6 (fun g' lg' ar' bk' => hk_fr [15, 17, 21, 22, 23] g g' ∧ hk_fr [] lg lg' ∧ hk_fr [] ar ar' ∧ (0 ≤ (g' 21).toInt ∧ (g' 21).toInt ≤ 4) ∧ (0 ≤ (g' 22).toInt ∧ (g' 22).toInt ≤ 4)) (fun g' lg' ar' bk' => hk_fr [15, 17, 21, 22, 23] g g' ∧ hk_fr [] lg lg' ∧ hk_fr [] ar ar' ∧ (0 ≤ (g' 21).toInt ∧ (g' 21).toInt ≤ 4) ∧ (0 ≤ (g' 22).toInt ∧ (g' 22).toInt ≤ 4)) := by
  refine jx_metv (cc := cX6_readProperties) (maxL := 4) (ret := none) rfl (by decide) rfl (Nat.le_of_ble_eq_true rfl) ?_
  intro p e s m args below meth c ls Q A hx hb hml hown hts hA hZ hw hl hQ kr kt
  have hq : ∀ w ∈ wwX, w.before args s = true := fun w h => hts w (List.mem_cons_of_mem _ h)
  have hl : lv_has ls 4 [(0, .ref (ad 25))] := hl
  refine lv_aload_n hx hb dX6_readProperties_0 rfl (lv_at hl 0 rfl) ?_
  refine hk_get (ci := 9) (C := RX6) (T := TX6) (N := 16) (v := .ref (ad 6)) hx hb hts (fun _ h => List.mem_cons_of_mem _ (wwXc_wsX60 _ h)) hown hw 25 rfl rfl 0 (by decide) (hq _ wX_399) rfl dX6_readProperties_1 ?_
  refine jx_Vi (As := []) (rest := []) ⟨hx, hb, hml, hown, hts⟩ hZ hw hA (jx_X8_next l hlt D t3 cI cJ ad g lg ar bk _ hi_a0rg) (cwV 0 hts (jx_gV wwX_good wX_430 wX_250 wX_251 wX_252 wX_253) rfl rfl rfl (by decide +kernel) ⟨Nat.le_of_ble_eq_true rfl, Nat.le_of_ble_eq_true rfl⟩) 6 (ci := 11) (T := TX8) (N := 4) rfl rfl rfl hl.1 rfl (Nat.le_of_ble_eq_true rfl) dX6_readProperties_4 ⟨Nat.le_of_ble_eq_true rfl, Nat.le_of_ble_eq_true rfl⟩ (fun u1 u2 u3 u4 H locs ce q hp hw h1 h2 h3 => by obtain ⟨ht0, ht1, ht2⟩ := hp; have e_u1_21 : u1 21 = (g 21) := (ht0 21 rfl); have e_u1_22 : u1 22 = (g 22) := (ht0 22 rfl); exact kt _ _ _ _ _ _ _ _ _ _ _ ⟨(hk_frT hk_fr0 (by decide) ht0), ht1, ht2, (ob61 ((u1 21).toInt) ((g 21).toInt) (congrArg Int32.toInt e_u1_21) hi_g21 (hE_rng (u1 21)) (hE_rng (g 21))), (ob61 ((u1 22).toInt) ((g 22).toInt) (congrArg Int32.toInt e_u1_22) hi_g22 (hE_rng (u1 22)) (hE_rng (g 22)))⟩ hw h1 h2 h3) (fun r5 g6 l7 a8 b9 H locs hp10 hw => ?_)
  obtain ⟨h11, h12, h13, h14⟩ := hp10
  refine lv_istore_n (lv' := [(1, .int r5), (0, .ref (ad 25))]) hx hb dX6_readProperties_7 rfl hl (by decide) rfl (fun ls hl => ?_)
  refine lv_iload_n hx hb dX6_readProperties_8 rfl (lv_at hl 0 rfl) ?_
  refine lv_bipush (v := 9) hx hb dX6_readProperties_9 (by decide) ?_
  refine lv_irem hx hb dX6_readProperties_11 (by decide) (jx_nm fun z15 hz15 => ?_)
  refine lv_istore_n (lv' := [(2, .int z15), (1, .int r5), (0, .ref (ad 25))]) hx hb dX6_readProperties_12 rfl hl (by decide) rfl (fun ls hl => ?_)
  refine lv_iload_n hx hb dX6_readProperties_13 rfl (lv_at hl 1 rfl) ?_
  refine lv_bipush (v := 9) hx hb dX6_readProperties_14 (by decide) ?_
  refine lv_idiv hx hb dX6_readProperties_16 (by decide) (jx_nm fun z16 hz16 => ?_)
  refine lv_iconst (v := 5) hx hb dX6_readProperties_17 (by decide) ?_
  refine lv_irem hx hb dX6_readProperties_18 (by decide) (jx_nm fun z17 hz17 => ?_)
  refine lv_istore_n (lv' := [(3, .int z17), (2, .int z15), (1, .int r5), (0, .ref (ad 25))]) hx hb dX6_readProperties_19 rfl hl (by decide) rfl (fun ls hl => ?_)
  refine lv_iload_n hx hb dX6_readProperties_20 rfl (lv_at hl 2 rfl) ?_
  refine lv_sipush (v := 225) hx hb dX6_readProperties_21 (by decide) ?_
  have B18 : ∀  (g19 : Nat → Int32) (ls : Array Slot) (H : Heap) (locs : List Loc), hk_fr [17] g6 g19 → hk_W D (jT cI cJ) A s H locs (xw cI cJ ad g19 l7 a8 b9) → lv_has ls 4 [(0, .ref (ad 25)), (1, .int r5), (2, .int z15), (3, .int z17)] → W p l e { frames := 7, cells := 1, slots := 6, locals := 102 } s m args below meth c H locs 0 0 Q (F0 m 42 ls []) := by
    intro g19 ls H locs hfr_g19 hw hl
    refine lv_aload_n hx hb dX6_readProperties_42 rfl (lv_at hl 0 rfl) ?_
    refine hk_get (ci := 9) (C := RX6) (T := TX6) (N := 16) (v := .ref (ad 9)) hx hb hts (fun _ h => List.mem_cons_of_mem _ (wwXc_wsX60 _ h)) hown hw 25 rfl rfl 2 (by decide) (hq _ wX_413) rfl dX6_readProperties_43 ?_
    refine lv_iload_n hx hb dX6_readProperties_46 rfl (lv_at hl 2 rfl) ?_
    refine lv_iload_n hx hb dX6_readProperties_47 rfl (lv_at hl 3 rfl) ?_
    refine lv_iload_n hx hb dX6_readProperties_48 rfl (lv_at hl 1 rfl) ?_
    refine lv_bipush (v := 45) hx hb dX6_readProperties_49 (by decide) ?_
    refine lv_idiv hx hb dX6_readProperties_51 (by decide) (jx_nm fun z20 hz20 => ?_)
    have e_g19_21 : g19 21 = (g 21) := ((hfr_g19 21 rfl)).trans (h11 21 rfl)
    have e_g19_22 : g19 22 = (g 22) := ((hfr_g19 22 rfl)).trans (h11 22 rfl)
    refine jx_Vv (As := [.int z15, .int z17, .int z20]) (rest := []) ⟨hx, hb, hml, hown, hts⟩ hZ hw hA (jx_X5_use l hlt D t3 cI cJ ad g19 l7 a8 b9 _ z15 z17 z20 (ob326 ((z15).toInt) ((r5).toInt) ((z16).toInt) ((z20).toInt) ((z17).toInt) (hE_rem 9 hz15 (by decide) (by decide)) h14 (hE_div 9 hz16 (by decide) (by decide)) (hE_div 45 hz20 (by decide) (by decide)) (hE_rem 5 hz17 (by decide) (by decide)) (hE_rng (z15)) (hE_rng (r5)) (hE_rng (z16)) (hE_rng (z20)) (hE_rng (z17))) (ob327 ((z17).toInt) ((z16).toInt) ((r5).toInt) ((z15).toInt) ((z20).toInt) (hE_rem 5 hz17 (by decide) (by decide)) (hE_div 9 hz16 (by decide) (by decide)) h14 (hE_rem 9 hz15 (by decide) (by decide)) (hE_div 45 hz20 (by decide) (by decide)) (hE_rng (z17)) (hE_rng (z16)) (hE_rng (r5)) (hE_rng (z15)) (hE_rng (z20))) (ob61 ((g19 21).toInt) ((g 21).toInt) (congrArg Int32.toInt e_g19_21) hi_g21 (hE_rng (g19 21)) (hE_rng (g 21))) (ob61 ((g19 22).toInt) ((g 22).toInt) (congrArg Int32.toInt e_g19_22) hi_g22 (hE_rng (g19 22)) (hE_rng (g 22)))) (cwV 3 hts (jx_gV wwX_good wX_414 wX_415 wX_416 wX_215 wX_417) rfl rfl rfl (by decide +kernel) ⟨Nat.le_of_ble_eq_true rfl, Nat.le_of_ble_eq_true rfl⟩) 9 (ci := 8) (T := TX5) (N := 6) rfl rfl rfl hl.1 rfl (Nat.le_of_ble_eq_true rfl) dX6_readProperties_52 ⟨Nat.le_of_ble_eq_true rfl, Nat.le_of_ble_eq_true rfl⟩ (fun _ _ _ _ _ _ _ _ hp _ _ _ _ => hp.elim) (fun g26 l27 a28 b29 H locs hp30 hw => ?_)
    obtain ⟨h31, h32, h33, h34, h35⟩ := hp30
    have hr36 : hk_rg 0 255 (a28 0) := (hk_pE (P := hk_rg 0 255) (hk_pE (P := hk_rg 0 255) hi_a0rg (h13 0 rfl)) (h33 0 rfl))
    exact kr g26 l27 a28 b29 _ _ _ _ ⟨(hk_frT (hk_frT (hk_frT hk_fr0 (by decide) h11) (by decide) hfr_g19) (by decide) h31), (hk_frT h12 (by decide) h32), (hk_frT h13 (by decide) h33), (ob256 ((g26 21).toInt) h34 (hE_rng (g26 21))), (ob256 ((g26 22).toInt) h35 (hE_rng (g26 22)))⟩ hw dX6_readProperties_55
  have B37 : ∀  (ls : Array Slot) (H : Heap) (locs : List Loc), hk_W D (jT cI cJ) A s H locs (xw cI cJ ad g6 l7 a8 b9) → lv_has ls 4 [(0, .ref (ad 25)), (1, .int r5), (2, .int z15), (3, .int z17)] → W p l e { frames := 7, cells := 1, slots := 6, locals := 102 } s m args below meth c H locs 0 0 Q (F0 m 34 ls []) := by
    intro ls H locs hw hl
    refine lv_aload_n hx hb dX6_readProperties_34 rfl (lv_at hl 0 rfl) ?_
    refine hk_get (ci := 9) (C := RX6) (T := TX6) (N := 16) (v := .ref (ad 6)) hx hb hts (fun _ h => List.mem_cons_of_mem _ (wwXc_wsX60 _ h)) hown hw 25 rfl rfl 0 (by decide) (hq _ wX_399) rfl dX6_readProperties_35 ?_
    refine lv_iconst (v := 3) hx hb dX6_readProperties_38 (by decide) ?_
    refine jx_Vv (As := [.int 3]) (rest := []) ⟨hx, hb, hml, hown, hts⟩ hZ hw hA (jx_X8_fail l hlt D t3 cI cJ ad g6 l7 a8 b9 _ 3) (cwV 1 hts (jx_gV wwX_good wX_403 wX_255 wX_256 wX_252 wX_257) rfl rfl rfl (by decide +kernel) ⟨Nat.le_of_ble_eq_true rfl, Nat.le_of_ble_eq_true rfl⟩) 6 (ci := 11) (T := TX8) (N := 4) rfl rfl rfl hl.1 rfl (Nat.le_of_ble_eq_true rfl) dX6_readProperties_39 ⟨Nat.le_of_ble_eq_true rfl, Nat.le_of_ble_eq_true rfl⟩ (fun u38 u39 u40 u41 H locs ce q hp hw h1 h2 h3 => by obtain ⟨ht0, ht1, ht2⟩ := hp; have e_u38_21 : u38 21 = (g 21) := ((ht0 21 rfl)).trans (h11 21 rfl); have e_u38_22 : u38 22 = (g 22) := ((ht0 22 rfl)).trans (h11 22 rfl); exact kt _ _ _ _ _ _ _ _ _ _ _ ⟨(hk_frT (hk_frT hk_fr0 (by decide) h11) (by decide) ht0), (hk_frT h12 (by decide) ht1), (hk_frT h13 (by decide) ht2), (ob61 ((u38 21).toInt) ((g 21).toInt) (congrArg Int32.toInt e_u38_21) hi_g21 (hE_rng (u38 21)) (hE_rng (g 21))), (ob61 ((u38 22).toInt) ((g 22).toInt) (congrArg Int32.toInt e_u38_22) hi_g22 (hE_rng (u38 22)) (hE_rng (g 22)))⟩ hw h1 h2 h3) (fun g43 l44 a45 b46 H locs hp47 hw => ?_)
    obtain ⟨h48, h49, h50, h51⟩ := hp47
    exact False.elim h51
  refine lv_icmp_ge (tgt := 34) hx hb dX6_readProperties_24 (by decide) (fun cc52 => ?_) (fun cc52 => ?_)
  · exact B37 ls _ _ hw (lv_sub hl [3, 2, 1, 0] rfl)
  · refine lv_iload_n hx hb dX6_readProperties_27 rfl (lv_at hl 1 rfl) ?_
    refine lv_iload_n hx hb dX6_readProperties_28 rfl (lv_at hl 0 rfl) ?_
    refine lv_iadd hx hb dX6_readProperties_29 (jx_nm fun z53 hz53 => ?_)
    refine lv_iconst (v := 4) hx hb dX6_readProperties_30 (by decide) ?_
    refine lv_icmp_le (tgt := 42) hx hb dX6_readProperties_31 (by decide) (fun cc54 => ?_) (fun cc54 => ?_)
    · exact B18 g6 ls _ _ hk_fr0 hw (lv_sub hl [3, 2, 1, 0] rfl)
    · exact B37 ls _ _ hw (lv_sub hl [3, 2, 1, 0] rfl)

set_option maxHeartbeats 4000000 in
set_option maxRecDepth 100000 in
/-- X6_readLiteral on (25,) -/
theorem jx_X6_readLiteral (l : Launch) (hlt : l.stackTraces = false) (D : va_G) (t3 : Nat × Nat × Nat) (cI cJ : ClassId) (ad : Nat → Nat) (g : Nat → Int32) (lg : Nat → Int64) (ar : Nat → Nat → Int32) (bk : Nat → Int64) (sz : Nat) (y1 : Int32) (hi_g14 : 0 ≤ (g 14).toInt ∧ (g 14).toInt ≤ 3000) (hi_a0rg : hk_rg 0 255 (ar 0)) : JMv l yX6_readLiteral (Cond.code yX6_readLiteral cX6_readLiteral 5 none :: wwX) { frames := 9, cells := 1, slots := 6, locals := 160 } t3 D xw cI cJ ad [.ref (ad 25), .int y1] (xw cI cJ ad g lg ar bk) sz 1 6 (fun g' lg' ar' bk' => hk_fr [14, 15, 17, 19, 20, 24, 25] g g' ∧ hk_fr [0, 1, 2] lg lg' ∧ hk_fr [1, 2, 6] ar ar' ∧ (0 ≤ (g' 14).toInt ∧ (g' 14).toInt ≤ 3000)) (fun g' lg' ar' bk' => hk_fr [14, 15, 17, 19, 20, 24, 25] g g' ∧ hk_fr [0, 1, 2] lg lg' ∧ hk_fr [1, 2, 6] ar ar' ∧ (0 ≤ (g' 14).toInt ∧ (g' 14).toInt ≤ 3000)) := by
  refine jx_metv (cc := cX6_readLiteral) (maxL := 5) (ret := none) rfl (by decide) rfl (Nat.le_of_ble_eq_true rfl) ?_
  intro p e s m args below meth c ls Q A hx hb hml hown hts hA hZ hw hl hQ kr kt
  have hq : ∀ w ∈ wwX, w.before args s = true := fun w h => hts w (List.mem_cons_of_mem _ h)
  have hl : lv_has ls 5 [(0, .ref (ad 25)), (1, .int y1)] := hl
  refine lv_iload_n hx hb dX6_readLiteral_0 rfl (lv_at hl 1 rfl) ?_
  have B1 : ∀  (x2 : Int32) (ls : Array Slot) (H : Heap) (locs : List Loc), hk_W D (jT cI cJ) A s H locs (xw cI cJ ad g lg ar bk) → lv_has ls 5 [(0, .ref (ad 25)), (1, .int y1)] → W p l e { frames := 9, cells := 1, slots := 6, locals := 160 } s m args below meth c H locs 0 0 Q (F0 m 24 ls [.int x2]) := by
    intro x2 ls H locs hw hl
    refine lv_istore_n (lv' := [(2, .int x2), (0, .ref (ad 25)), (1, .int y1)]) hx hb dX6_readLiteral_24 rfl hl (by decide) rfl (fun ls hl => ?_)
    refine lv_aload_n hx hb dX6_readLiteral_25 rfl (lv_at hl 1 rfl) ?_
    refine hk_get (ci := 9) (C := RX6) (T := TX6) (N := 16) (v := .ref (ad 4)) hx hb hts (fun _ h => List.mem_cons_of_mem _ (wwXc_wsX60 _ h)) hown hw 25 rfl rfl 1 (by decide) (hq _ wX_410) rfl dX6_readLiteral_26 ?_
    refine lv_aload_n hx hb dX6_readLiteral_29 rfl (lv_at hl 1 rfl) ?_
    refine hk_get (ci := 9) (C := RX6) (T := TX6) (N := 16) (v := .ref (ad 4)) hx hb hts (fun _ h => List.mem_cons_of_mem _ (wwXc_wsX60 _ h)) hown hw 25 rfl rfl 1 (by decide) (hq _ wX_410) rfl dX6_readLiteral_30 ?_
    refine hk_get (ci := 12) (C := RX9) (T := TX9) (N := 2) (v := .int (g 14)) hx hb hts (fun _ h => List.mem_cons_of_mem _ (wwXc_wsX90 _ h)) hown hw 4 rfl rfl 1 (by decide) (hq _ wX_402) rfl dX6_readLiteral_33 ?_
    refine lv_aload_n hx hb dX6_readLiteral_36 rfl (lv_at hl 1 rfl) ?_
    refine hk_get (ci := 9) (C := RX6) (T := TX6) (N := 16) (v := .ref (ad 9)) hx hb hts (fun _ h => List.mem_cons_of_mem _ (wwXc_wsX60 _ h)) hown hw 25 rfl rfl 2 (by decide) (hq _ wX_413) rfl dX6_readLiteral_37 ?_
    refine lv_iconst (v := 0) hx hb dX6_readLiteral_40 (by decide) ?_
    refine jx_Vl (As := [.int 0]) (rest := [.int (g 14), .ref (ad 4)]) ⟨hx, hb, hml, hown, hts⟩ hZ hw hA (jx_X5_back l hlt D t3 cI cJ ad g lg ar bk _ 0) (cwV 1 hts (jx_gV wwX_good wX_474 wX_213 wX_214 wX_215 wX_216) rfl rfl rfl (by decide +kernel) ⟨Nat.le_of_ble_eq_true rfl, Nat.le_of_ble_eq_true rfl⟩) 9 (ci := 8) (T := TX5) (N := 6) rfl rfl rfl hl.1 rfl (Nat.le_of_ble_eq_true rfl) dX6_readLiteral_41 ⟨Nat.le_of_ble_eq_true rfl, Nat.le_of_ble_eq_true rfl⟩ (fun _ _ _ _ _ _ _ _ hp _ _ _ _ => hp.elim) (fun r7 g8 l9 a10 b11 H locs hp12 hw => ?_)
    obtain ⟨h13, h14, h15⟩ := hp12
    refine lv_l2i hx hb dX6_readLiteral_44 rfl (jx_nm fun z16 hz16 => ?_)
    refine lv_isub hx hb dX6_readLiteral_45 (jx_nm fun z17 hz17 => ?_)
    refine jx_Vi (As := [.int z17]) (rest := []) ⟨hx, hb, hml, hown, hts⟩ hZ hw hA (jx_X9_get_4 l hlt D t3 cI cJ ad g8 l9 a10 b11 _ z17) (cwV 1 hts (jx_gV wwX_good wX_500 wX_22 wX_23 wX_24 wX_25) rfl rfl rfl (by decide +kernel) ⟨Nat.le_of_ble_eq_true rfl, Nat.le_of_ble_eq_true rfl⟩) 4 (ci := 12) (T := TX9) (N := 2) rfl rfl rfl hl.1 rfl (Nat.le_of_ble_eq_true rfl) dX6_readLiteral_46 ⟨Nat.le_of_ble_eq_true rfl, Nat.le_of_ble_eq_true rfl⟩ (fun _ _ _ _ _ _ _ _ hp _ _ _ _ => hp.elim) (fun r22 g23 l24 a25 b26 H locs hp27 hw => ?_)
    obtain ⟨h28, h29, h30⟩ := hp27
    have hr31 : hk_rg 0 255 (a25 0) := (hk_pE (P := hk_rg 0 255) (hk_pE (P := hk_rg 0 255) hi_a0rg (h15 0 rfl)) (h30 0 rfl))
    refine lv_istore_n (lv' := [(3, .int r22), (2, .int x2), (0, .ref (ad 25)), (1, .int y1)]) hx hb dX6_readLiteral_49 rfl hl (by decide) rfl (fun ls hl => ?_)
    refine lv_aload_n hx hb dX6_readLiteral_50 rfl (lv_at hl 2 rfl) ?_
    refine hk_get (ci := 9) (C := RX6) (T := TX6) (N := 16) (v := .ref (ad 9)) hx hb hts (fun _ h => List.mem_cons_of_mem _ (wwXc_wsX60 _ h)) hown hw 25 rfl rfl 2 (by decide) (hq _ wX_413) rfl dX6_readLiteral_51 ?_
    refine lv_iconst (v := 0) hx hb dX6_readLiteral_54 (by decide) ?_
    refine lv_iload_n hx hb dX6_readLiteral_55 rfl (lv_at hl 3 rfl) ?_
    refine lv_iload_n hx hb dX6_readLiteral_56 rfl (lv_at hl 1 rfl) ?_
    refine lv_iload_n hx hb dX6_readLiteral_57 rfl (lv_at hl 0 rfl) ?_
    refine jx_Vi (As := [.int 0, .int y1, .int x2, .int r22]) (rest := []) ⟨hx, hb, hml, hown, hts⟩ hZ hw hA (jx_X5_codeLiteral l hlt D t3 cI cJ ad g23 l24 a25 b26 _ 0 y1 x2 r22 hr31) (cwV 4 hts (jx_gV wwX_good wX_551 wX_552 wX_553 wX_215 wX_554) rfl rfl rfl (by decide +kernel) ⟨Nat.le_of_ble_eq_true rfl, Nat.le_of_ble_eq_true rfl⟩) 9 (ci := 8) (T := TX5) (N := 6) rfl rfl rfl hl.1 rfl (Nat.le_of_ble_eq_true rfl) dX6_readLiteral_58 ⟨Nat.le_of_ble_eq_true rfl, Nat.le_of_ble_eq_true rfl⟩ (fun u32 u33 u34 u35 H locs ce q hp hw h1 h2 h3 => by obtain ⟨ht0, ht1, ht2, ht3⟩ := hp; have e_g23_18 : g23 18 = (g 18) := ((h28 18 rfl)).trans (h13 18 rfl); exact kt _ _ _ _ _ _ _ _ _ _ _ ⟨(hk_frT (hk_frT (hk_frT hk_fr0 (by decide) h13) (by decide) h28) (by decide) ht0), (hk_frT (hk_frT (hk_frT hk_fr0 (by decide) h14) (by decide) h29) (by decide) ht1), (hk_frT (hk_frT (hk_frT hk_fr0 (by decide) h15) (by decide) h30) (by decide) ht2), (ob328 ((u32 14).toInt) (hE_rng (u32 14)))⟩ hw h1 h2 h3) (fun r36 g37 l38 a39 b40 H locs hp41 hw => ?_)
    obtain ⟨h42, h43, h44⟩ := hp41
    refine lv_istore (lv' := [(4, .int r36), (3, .int r22), (2, .int x2), (0, .ref (ad 25)), (1, .int y1)]) hx hb dX6_readLiteral_61 hl (by decide) rfl (fun ls hl => ?_)
    refine lv_aload_n hx hb dX6_readLiteral_63 rfl (lv_at hl 3 rfl) ?_
    refine hk_get (ci := 9) (C := RX6) (T := TX6) (N := 16) (v := .ref (ad 4)) hx hb hts (fun _ h => List.mem_cons_of_mem _ (wwXc_wsX60 _ h)) hown hw 25 rfl rfl 1 (by decide) (hq _ wX_410) rfl dX6_readLiteral_64 ?_
    refine hk_get (ci := 12) (C := RX9) (T := TX9) (N := 2) (v := .int (g37 14)) hx hb hts (fun _ h => List.mem_cons_of_mem _ (wwXc_wsX90 _ h)) hown hw 4 rfl rfl 1 (by decide) (hq _ wX_402) rfl dX6_readLiteral_67 ?_
    refine lv_sipush (v := 3000) hx hb dX6_readLiteral_70 (by decide) ?_
    have B45 : ∀  (g46 : Nat → Int32) (ls : Array Slot) (H : Heap) (locs : List Loc), hk_fr [17] g37 g46 → hk_W D (jT cI cJ) A s H locs (xw cI cJ ad g46 l38 a39 b40) → lv_has ls 5 [(0, .ref (ad 25)), (4, .int r36)] → W p l e { frames := 9, cells := 1, slots := 6, locals := 160 } s m args below meth c H locs 0 0 Q (F0 m 85 ls []) := by
      intro g46 ls H locs hfr_g46 hw hl
      refine lv_aload_n hx hb dX6_readLiteral_85 rfl (lv_at hl 0 rfl) ?_
      refine hk_get (ci := 9) (C := RX6) (T := TX6) (N := 16) (v := .ref (ad 15)) hx hb hts (fun _ h => List.mem_cons_of_mem _ (wwXc_wsX60 _ h)) hown hw 25 rfl rfl 4 (by decide) (hq _ wX_411) rfl dX6_readLiteral_86 ?_
      refine lv_iconst (v := 0) hx hb dX6_readLiteral_89 (by decide) ?_
      refine lv_aload_n hx hb dX6_readLiteral_90 rfl (lv_at hl 0 rfl) ?_
      refine hk_get (ci := 9) (C := RX6) (T := TX6) (N := 16) (v := .ref (ad 4)) hx hb hts (fun _ h => List.mem_cons_of_mem _ (wwXc_wsX60 _ h)) hown hw 25 rfl rfl 1 (by decide) (hq _ wX_410) rfl dX6_readLiteral_91 ?_
      have e_g46_14 : g46 14 = (g37 14) := (hfr_g46 14 rfl)
      refine hk_get (ci := 12) (C := RX9) (T := TX9) (N := 2) (v := .int (g37 14)) hx hb hts (fun _ h => List.mem_cons_of_mem _ (wwXc_wsX90 _ h)) hown hw 4 rfl rfl 1 (by decide) (hq _ wX_402) (congrArg (fun z => some (Value.int z)) e_g46_14) dX6_readLiteral_94 ?_
      refine lv_iconst (v := 1) hx hb dX6_readLiteral_97 (by decide) ?_
      refine lv_iconst (v := 0) hx hb dX6_readLiteral_98 (by decide) ?_
      refine jx_Vv (As := [.int 0, .int (g37 14), .int 1, .int 0]) (rest := []) ⟨hx, hb, hml, hown, hts⟩ hZ hw hA (jx_X4_addStep l hlt D t3 cI cJ ad g46 l38 a39 b40 _ 0 (g37 14) 1 0) (cwV 4 hts (jx_gV wwX_good wX_496 wX_497 wX_498 wX_69 wX_499) rfl rfl rfl (by decide +kernel) ⟨Nat.le_of_ble_eq_true rfl, Nat.le_of_ble_eq_true rfl⟩) 15 (ci := 7) (T := TX4) (N := 4) rfl rfl rfl hl.1 rfl (Nat.le_of_ble_eq_true rfl) dX6_readLiteral_99 ⟨Nat.le_of_ble_eq_true rfl, Nat.le_of_ble_eq_true rfl⟩ (fun _ _ _ _ _ _ _ _ hp _ _ _ _ => hp.elim) (fun g52 l53 a54 b55 H locs hp56 hw => ?_)
      obtain ⟨h57, h58, h59⟩ := hp56
      have hr60 : hk_rg 0 255 (a54 0) := (hk_pE (P := hk_rg 0 255) (hk_pE (P := hk_rg 0 255) hr31 (h44 0 rfl)) (h59 0 rfl))
      refine lv_aload_n hx hb dX6_readLiteral_102 rfl (lv_at hl 0 rfl) ?_
      refine hk_get (ci := 9) (C := RX6) (T := TX6) (N := 16) (v := .ref (ad 9)) hx hb hts (fun _ h => List.mem_cons_of_mem _ (wwXc_wsX60 _ h)) hown hw 25 rfl rfl 2 (by decide) (hq _ wX_413) rfl dX6_readLiteral_103 ?_
      refine lv_iconst (v := 0) hx hb dX6_readLiteral_106 (by decide) ?_
      refine lv_lconst (v := 0) hx hb dX6_readLiteral_107 (by decide) ?_
      refine jx_Vv (As := [.int 0, .long 0]) (rest := []) ⟨hx, hb, hml, hown, hts⟩ hZ hw hA (jx_X5_follow l hlt D t3 cI cJ ad g52 l53 a54 b55 _ 0 0) (cwV 2 hts (jx_gV wwX_good wX_483 wX_484 wX_485 wX_215 wX_486) rfl rfl rfl (by decide +kernel) ⟨Nat.le_of_ble_eq_true rfl, Nat.le_of_ble_eq_true rfl⟩) 9 (ci := 8) (T := TX5) (N := 6) rfl rfl rfl hl.1 rfl (Nat.le_of_ble_eq_true rfl) dX6_readLiteral_108 ⟨Nat.le_of_ble_eq_true rfl, Nat.le_of_ble_eq_true rfl⟩ (fun _ _ _ _ _ _ _ _ hp _ _ _ _ => hp.elim) (fun g66 l67 a68 b69 H locs hp70 hw => ?_)
      obtain ⟨h71, h72, h73⟩ := hp70
      refine lv_aload_n hx hb dX6_readLiteral_111 rfl (lv_at hl 0 rfl) ?_
      refine hk_get (ci := 9) (C := RX6) (T := TX6) (N := 16) (v := .ref (ad 4)) hx hb hts (fun _ h => List.mem_cons_of_mem _ (wwXc_wsX60 _ h)) hown hw 25 rfl rfl 1 (by decide) (hq _ wX_410) rfl dX6_readLiteral_112 ?_
      refine lv_iload hx hb dX6_readLiteral_115 (lv_at hl 1 rfl) ?_
      refine jx_Vv (As := [.int r36]) (rest := []) ⟨hx, hb, hml, hown, hts⟩ hZ hw hA (jx_X9_put_4 l hlt D t3 cI cJ ad g66 l67 a68 b69 _ r36) (cwV 1 hts (jx_gV wwX_good wX_501 wX_112 wX_113 wX_24 wX_114) rfl rfl rfl (by decide +kernel) ⟨Nat.le_of_ble_eq_true rfl, Nat.le_of_ble_eq_true rfl⟩) 4 (ci := 12) (T := TX9) (N := 2) rfl rfl rfl hl.1 rfl (Nat.le_of_ble_eq_true rfl) dX6_readLiteral_117 ⟨Nat.le_of_ble_eq_true rfl, Nat.le_of_ble_eq_true rfl⟩ (fun _ _ _ _ _ _ _ _ hp _ _ _ _ => hp.elim) (fun g79 l80 a81 b82 H locs hp83 hw => ?_)
      obtain ⟨h84, h85, h86, h87⟩ := hp83
      have e_g66_14 : g66 14 = (g37 14) := ((h71 14 rfl)).trans (((h57 14 rfl)).trans e_g46_14)
      have hr88 : hk_rg 0 255 (a81 0) := (hk_pE (P := hk_rg 0 255) (hk_pE (P := hk_rg 0 255) hr60 (h73 0 rfl)) (h86 0 rfl))
      exact kr g79 l80 a81 b82 _ _ _ _ ⟨(hk_frT (hk_frT (hk_frT (hk_frT (hk_frT (hk_frT (hk_frT hk_fr0 (by decide) h13) (by decide) h28) (by decide) h42) (by decide) hfr_g46) (by decide) h57) (by decide) h71) (by decide) h84), (hk_frT (hk_frT (hk_frT (hk_frT (hk_frT (hk_frT hk_fr0 (by decide) h14) (by decide) h29) (by decide) h43) (by decide) h58) (by decide) h72) (by decide) h85), (hk_frT (hk_frT (hk_frT (hk_frT (hk_frT (hk_frT hk_fr0 (by decide) h15) (by decide) h30) (by decide) h44) (by decide) h59) (by decide) h73) (by decide) h86), (ob329 ((g79 14).toInt) ((g66 14).toInt) ((g37 14).toInt) ((g46 14).toInt) h87 (congrArg Int32.toInt e_g66_14) (congrArg Int32.toInt e_g46_14) (hE_rng (g79 14)) (hE_rng (g66 14)) (hE_rng (g37 14)) (hE_rng (g46 14)))⟩ hw dX6_readLiteral_120
    refine lv_icmp_lt (tgt := 85) hx hb dX6_readLiteral_73 (by decide) (fun cc89 => ?_) (fun cc89 => ?_)
    · exact B45 g37 ls _ _ hk_fr0 hw (lv_sub hl [3, 0] rfl)
    · refine lv_aload_n hx hb dX6_readLiteral_76 rfl (lv_at hl 3 rfl) ?_
      refine hk_get (ci := 9) (C := RX6) (T := TX6) (N := 16) (v := .ref (ad 6)) hx hb hts (fun _ h => List.mem_cons_of_mem _ (wwXc_wsX60 _ h)) hown hw 25 rfl rfl 0 (by decide) (hq _ wX_399) rfl dX6_readLiteral_77 ?_
      refine lv_bipush (v := 13) hx hb dX6_readLiteral_80 (by decide) ?_
      refine jx_Vv (As := [.int 13]) (rest := []) ⟨hx, hb, hml, hown, hts⟩ hZ hw hA (jx_X8_fail l hlt D t3 cI cJ ad g37 l38 a39 b40 _ 13) (cwV 1 hts (jx_gV wwX_good wX_403 wX_255 wX_256 wX_252 wX_257) rfl rfl rfl (by decide +kernel) ⟨Nat.le_of_ble_eq_true rfl, Nat.le_of_ble_eq_true rfl⟩) 6 (ci := 11) (T := TX8) (N := 4) rfl rfl rfl hl.1 rfl (Nat.le_of_ble_eq_true rfl) dX6_readLiteral_82 ⟨Nat.le_of_ble_eq_true rfl, Nat.le_of_ble_eq_true rfl⟩ (fun u90 u91 u92 u93 H locs ce q hp hw h1 h2 h3 => by obtain ⟨ht0, ht1, ht2⟩ := hp; have e_u90_14 : u90 14 = (g37 14) := (ht0 14 rfl); exact kt _ _ _ _ _ _ _ _ _ _ _ ⟨(hk_frT (hk_frT (hk_frT (hk_frT hk_fr0 (by decide) h13) (by decide) h28) (by decide) h42) (by decide) ht0), (hk_frT (hk_frT (hk_frT (hk_frT hk_fr0 (by decide) h14) (by decide) h29) (by decide) h43) (by decide) ht1), (hk_frT (hk_frT (hk_frT (hk_frT hk_fr0 (by decide) h15) (by decide) h30) (by decide) h44) (by decide) ht2), (ob330 ((u90 14).toInt) ((g37 14).toInt) (((3000 : Int32)).toInt) (congrArg Int32.toInt e_u90_14) (hE_nlt cc89) (hE_rng (u90 14)) (hE_rng (g37 14)) (by decide))⟩ hw h1 h2 h3) (fun g95 l96 a97 b98 H locs hp99 hw => ?_)
      obtain ⟨h100, h101, h102, h103⟩ := hp99
      exact False.elim h103
  refine lv_if_le (tgt := 23) hx hb dX6_readLiteral_1 (by decide) (fun cc104 => ?_) (fun cc104 => ?_)
  · refine lv_iconst (v := 0) hx hb dX6_readLiteral_23 (by decide) ?_
    exact B1 0 ls _ _ hw (lv_sub hl [0, 1] rfl)
  · refine lv_aload_n hx hb dX6_readLiteral_4 rfl (lv_at hl 0 rfl) ?_
    refine hk_get (ci := 9) (C := RX6) (T := TX6) (N := 16) (v := .ref (ad 4)) hx hb hts (fun _ h => List.mem_cons_of_mem _ (wwXc_wsX60 _ h)) hown hw 25 rfl rfl 1 (by decide) (hq _ wX_410) rfl dX6_readLiteral_5 ?_
    refine lv_aload_n hx hb dX6_readLiteral_8 rfl (lv_at hl 0 rfl) ?_
    refine hk_get (ci := 9) (C := RX6) (T := TX6) (N := 16) (v := .ref (ad 4)) hx hb hts (fun _ h => List.mem_cons_of_mem _ (wwXc_wsX60 _ h)) hown hw 25 rfl rfl 1 (by decide) (hq _ wX_410) rfl dX6_readLiteral_9 ?_
    refine hk_get (ci := 12) (C := RX9) (T := TX9) (N := 2) (v := .int (g 14)) hx hb hts (fun _ h => List.mem_cons_of_mem _ (wwXc_wsX90 _ h)) hown hw 4 rfl rfl 1 (by decide) (hq _ wX_402) rfl dX6_readLiteral_12 ?_
    refine lv_iconst (v := 1) hx hb dX6_readLiteral_15 (by decide) ?_
    refine lv_isub hx hb dX6_readLiteral_16 (jx_nm fun z105 hz105 => ?_)
    refine jx_Vi (As := [.int z105]) (rest := []) ⟨hx, hb, hml, hown, hts⟩ hZ hw hA (jx_X9_get_4 l hlt D t3 cI cJ ad g lg ar bk _ z105) (cwV 1 hts (jx_gV wwX_good wX_500 wX_22 wX_23 wX_24 wX_25) rfl rfl rfl (by decide +kernel) ⟨Nat.le_of_ble_eq_true rfl, Nat.le_of_ble_eq_true rfl⟩) 4 (ci := 12) (T := TX9) (N := 2) rfl rfl rfl hl.1 rfl (Nat.le_of_ble_eq_true rfl) dX6_readLiteral_17 ⟨Nat.le_of_ble_eq_true rfl, Nat.le_of_ble_eq_true rfl⟩ (fun _ _ _ _ _ _ _ _ hp _ _ _ _ => hp.elim) (fun r110 g111 l112 a113 b114 H locs hp115 hw => ?_)
    obtain ⟨h116, h117, h118⟩ := hp115
    refine lv_goto (tgt := 24) hx hb dX6_readLiteral_20 (by decide) ?_
    exact B1 r110 ls _ _ hw (lv_sub hl [0, 1] rfl)

set_option maxHeartbeats 4000000 in
set_option maxRecDepth 100000 in
/-- X6_judgeCopy on (25,) -/
theorem jx_X6_judgeCopy (l : Launch) (hlt : l.stackTraces = false) (D : va_G) (t3 : Nat × Nat × Nat) (cI cJ : ClassId) (ad : Nat → Nat) (g : Nat → Int32) (lg : Nat → Int64) (ar : Nat → Nat → Int32) (bk : Nat → Int64) (sz : Nat) (y1 : Int64) (y3 : Int32) (y4 : Int32) (hr0 : -300 ≤ (y3).toInt ∧ (y3).toInt ≤ 600) (hi_g14 : 0 ≤ (g 14).toInt ∧ (g 14).toInt ≤ 3000) : JMv l yX6_judgeCopy (Cond.code yX6_judgeCopy cX6_judgeCopy 5 none :: wwX) { frames := 7, cells := 1, slots := 6, locals := 102 } t3 D xw cI cJ ad [.ref (ad 25), .long y1, .int y3, .int y4] (xw cI cJ ad g lg ar bk) sz 1 6 (fun g' lg' ar' bk' => hk_fr [17] g g' ∧ hk_fr [] lg lg' ∧ hk_fr [] ar ar' ∧ ((g 14).toInt + (y3).toInt ≤ 3000)) (fun g' lg' ar' bk' => hk_fr [17] g g' ∧ hk_fr [] lg lg' ∧ hk_fr [] ar ar') := by
  refine jx_metv (cc := cX6_judgeCopy) (maxL := 5) (ret := none) rfl (by decide) rfl (Nat.le_of_ble_eq_true rfl) ?_
  intro p e s m args below meth c ls Q A hx hb hml hown hts hA hZ hw hl hQ kr kt
  have hq : ∀ w ∈ wwX, w.before args s = true := fun w h => hts w (List.mem_cons_of_mem _ h)
  have hl : lv_has ls 5 [(0, .ref (ad 25)), (1, .long y1), (3, .int y3), (4, .int y4)] := hl
  refine lv_lload_n hx hb dX6_judgeCopy_0 rfl (lv_at hl 1 rfl) ?_
  refine lv_aload_n hx hb dX6_judgeCopy_1 rfl (lv_at hl 0 rfl) ?_
  refine hk_get (ci := 9) (C := RX6) (T := TX6) (N := 16) (v := .ref (ad 4)) hx hb hts (fun _ h => List.mem_cons_of_mem _ (wwXc_wsX60 _ h)) hown hw 25 rfl rfl 1 (by decide) (hq _ wX_410) rfl dX6_judgeCopy_2 ?_
  refine hk_get (ci := 12) (C := RX9) (T := TX9) (N := 2) (v := .int (g 14)) hx hb hts (fun _ h => List.mem_cons_of_mem _ (wwXc_wsX90 _ h)) hown hw 4 rfl rfl 1 (by decide) (hq _ wX_402) rfl dX6_judgeCopy_5 ?_
  refine lv_aload_n hx hb dX6_judgeCopy_8 rfl (lv_at hl 0 rfl) ?_
  refine hk_get (ci := 9) (C := RX6) (T := TX6) (N := 16) (v := .int (g 43)) hx hb hts (fun _ h => List.mem_cons_of_mem _ (wwXc_wsX60 _ h)) hown hw 25 rfl rfl 9 (by decide) (hq _ wX_422) rfl dX6_judgeCopy_9 ?_
  refine lv_isub hx hb dX6_judgeCopy_12 (jx_nm fun z1 hz1 => ?_)
  refine lv_i2l hx hb dX6_judgeCopy_13 rfl (jx_nl fun z2 hz2 => ?_)
  have B3 : ∀  (g4 : Nat → Int32) (ls : Array Slot) (H : Heap) (locs : List Loc), hk_fr [17] g g4 → hk_W D (jT cI cJ) A s H locs (xw cI cJ ad g4 lg ar bk) → lv_has ls 5 [(0, .ref (ad 25)), (3, .int y3), (4, .int y4)] → W p l e { frames := 7, cells := 1, slots := 6, locals := 102 } s m args below meth c H locs 0 0 Q (F0 m 35 ls []) := by
    intro g4 ls H locs hfr_g4 hw hl
    refine lv_iload hx hb dX6_judgeCopy_35 (lv_at hl 2 rfl) ?_
    have B5 : ∀  (g6 : Nat → Int32) (ls : Array Slot) (H : Heap) (locs : List Loc), hk_fr [17] g4 g6 → hk_W D (jT cI cJ) A s H locs (xw cI cJ ad g6 lg ar bk) → lv_has ls 5 [(0, .ref (ad 25)), (3, .int y3)] → W p l e { frames := 7, cells := 1, slots := 6, locals := 102 } s m args below meth c H locs 0 0 Q (F0 m 63 ls []) := by
      intro g6 ls H locs hfr_g6 hw hl
      refine lv_aload_n hx hb dX6_judgeCopy_63 rfl (lv_at hl 0 rfl) ?_
      refine hk_get (ci := 9) (C := RX6) (T := TX6) (N := 16) (v := .ref (ad 4)) hx hb hts (fun _ h => List.mem_cons_of_mem _ (wwXc_wsX60 _ h)) hown hw 25 rfl rfl 1 (by decide) (hq _ wX_410) rfl dX6_judgeCopy_64 ?_
      have e_g6_14 : g6 14 = (g 14) := ((hfr_g6 14 rfl)).trans (hfr_g4 14 rfl)
      refine hk_get (ci := 12) (C := RX9) (T := TX9) (N := 2) (v := .int (g 14)) hx hb hts (fun _ h => List.mem_cons_of_mem _ (wwXc_wsX90 _ h)) hown hw 4 rfl rfl 1 (by decide) (hq _ wX_402) (congrArg (fun z => some (Value.int z)) e_g6_14) dX6_judgeCopy_67 ?_
      refine lv_iload_n hx hb dX6_judgeCopy_70 rfl (lv_at hl 1 rfl) ?_
      refine lv_iadd hx hb dX6_judgeCopy_71 (jx_nm fun z7 hz7 => ?_)
      refine lv_sipush (v := 3000) hx hb dX6_judgeCopy_72 (by decide) ?_
      refine lv_icmp_le (tgt := 87) hx hb dX6_judgeCopy_75 (by decide) (fun cc8 => ?_) (fun cc8 => ?_)
      · exact kr g6 lg ar bk _ _ _ _ ⟨(hk_frT hfr_g4 (by decide) hfr_g6), hk_fr0, hk_fr0, (ob331 ((g 14).toInt) ((y3).toInt) ((z1).toInt) ((g 43).toInt) ((g6 14).toInt) ((z7).toInt) ((z2).toInt) (((3000 : Int32)).toInt) hr0 hi_g14 (hE_sub hz1) (congrArg Int32.toInt e_g6_14) (hE_add hz7) (hE_i2l hz2) (hE_le cc8) (hE_rng (g 14)) (hE_rng (y3)) (hE_rng (z1)) (hE_rng (g 43)) (hE_rng (g6 14)) (hE_rng (z7)) (hE_rngL (z2)) (by decide))⟩ hw dX6_judgeCopy_87
      · refine lv_aload_n hx hb dX6_judgeCopy_78 rfl (lv_at hl 0 rfl) ?_
        refine hk_get (ci := 9) (C := RX6) (T := TX6) (N := 16) (v := .ref (ad 6)) hx hb hts (fun _ h => List.mem_cons_of_mem _ (wwXc_wsX60 _ h)) hown hw 25 rfl rfl 0 (by decide) (hq _ wX_399) rfl dX6_judgeCopy_79 ?_
        refine lv_bipush (v := 13) hx hb dX6_judgeCopy_82 (by decide) ?_
        refine jx_Vv (As := [.int 13]) (rest := []) ⟨hx, hb, hml, hown, hts⟩ hZ hw hA (jx_X8_fail l hlt D t3 cI cJ ad g6 lg ar bk _ 13) (cwV 1 hts (jx_gV wwX_good wX_403 wX_255 wX_256 wX_252 wX_257) rfl rfl rfl (by decide +kernel) ⟨Nat.le_of_ble_eq_true rfl, Nat.le_of_ble_eq_true rfl⟩) 6 (ci := 11) (T := TX8) (N := 4) rfl rfl rfl hl.1 rfl (Nat.le_of_ble_eq_true rfl) dX6_judgeCopy_84 ⟨Nat.le_of_ble_eq_true rfl, Nat.le_of_ble_eq_true rfl⟩ (fun u9 u10 u11 u12 H locs ce q hp hw h1 h2 h3 => by obtain ⟨ht0, ht1, ht2⟩ := hp; exact kt _ _ _ _ _ _ _ _ _ _ _ ⟨(hk_frT (hk_frT hfr_g4 (by decide) hfr_g6) (by decide) ht0), ht1, ht2⟩ hw h1 h2 h3) (fun g14 l15 a16 b17 H locs hp18 hw => ?_)
        obtain ⟨h19, h20, h21, h22⟩ := hp18
        exact False.elim h22
    refine lv_if_lt (tgt := 63) hx hb dX6_judgeCopy_37 (by decide) (fun cc23 => ?_) (fun cc23 => ?_)
    · exact B5 g4 ls _ _ hk_fr0 hw (lv_sub hl [0, 1] rfl)
    · refine lv_iload_n hx hb dX6_judgeCopy_40 rfl (lv_at hl 1 rfl) ?_
      refine lv_iload hx hb dX6_judgeCopy_41 (lv_at hl 2 rfl) ?_
      refine lv_aload_n hx hb dX6_judgeCopy_43 rfl (lv_at hl 0 rfl) ?_
      refine hk_get (ci := 9) (C := RX6) (T := TX6) (N := 16) (v := .ref (ad 4)) hx hb hts (fun _ h => List.mem_cons_of_mem _ (wwXc_wsX60 _ h)) hown hw 25 rfl rfl 1 (by decide) (hq _ wX_410) rfl dX6_judgeCopy_44 ?_
      have e_g4_14 : g4 14 = (g 14) := (hfr_g4 14 rfl)
      refine hk_get (ci := 12) (C := RX9) (T := TX9) (N := 2) (v := .int (g 14)) hx hb hts (fun _ h => List.mem_cons_of_mem _ (wwXc_wsX90 _ h)) hown hw 4 rfl rfl 1 (by decide) (hq _ wX_402) (congrArg (fun z => some (Value.int z)) e_g4_14) dX6_judgeCopy_47 ?_
      refine lv_isub hx hb dX6_judgeCopy_50 (jx_nm fun z24 hz24 => ?_)
      refine lv_icmp_le (tgt := 63) hx hb dX6_judgeCopy_51 (by decide) (fun cc25 => ?_) (fun cc25 => ?_)
      · exact B5 g4 ls _ _ hk_fr0 hw (lv_sub hl [0, 1] rfl)
      · refine lv_aload_n hx hb dX6_judgeCopy_54 rfl (lv_at hl 0 rfl) ?_
        refine hk_get (ci := 9) (C := RX6) (T := TX6) (N := 16) (v := .ref (ad 6)) hx hb hts (fun _ h => List.mem_cons_of_mem _ (wwXc_wsX60 _ h)) hown hw 25 rfl rfl 0 (by decide) (hq _ wX_399) rfl dX6_judgeCopy_55 ?_
        refine lv_bipush (v := 6) hx hb dX6_judgeCopy_58 (by decide) ?_
        refine jx_Vv (As := [.int 6]) (rest := []) ⟨hx, hb, hml, hown, hts⟩ hZ hw hA (jx_X8_fail l hlt D t3 cI cJ ad g4 lg ar bk _ 6) (cwV 1 hts (jx_gV wwX_good wX_403 wX_255 wX_256 wX_252 wX_257) rfl rfl rfl (by decide +kernel) ⟨Nat.le_of_ble_eq_true rfl, Nat.le_of_ble_eq_true rfl⟩) 6 (ci := 11) (T := TX8) (N := 4) rfl rfl rfl hl.1 rfl (Nat.le_of_ble_eq_true rfl) dX6_judgeCopy_60 ⟨Nat.le_of_ble_eq_true rfl, Nat.le_of_ble_eq_true rfl⟩ (fun u26 u27 u28 u29 H locs ce q hp hw h1 h2 h3 => by obtain ⟨ht0, ht1, ht2⟩ := hp; exact kt _ _ _ _ _ _ _ _ _ _ _ ⟨(hk_frT hfr_g4 (by decide) ht0), ht1, ht2⟩ hw h1 h2 h3) (fun g31 l32 a33 b34 H locs hp35 hw => ?_)
        obtain ⟨h36, h37, h38, h39⟩ := hp35
        exact False.elim h39
  have B40 : ∀  (ls : Array Slot) (H : Heap) (locs : List Loc), hk_W D (jT cI cJ) A s H locs (xw cI cJ ad g lg ar bk) → lv_has ls 5 [(0, .ref (ad 25)), (3, .int y3), (4, .int y4)] → W p l e { frames := 7, cells := 1, slots := 6, locals := 102 } s m args below meth c H locs 0 0 Q (F0 m 27 ls []) := by
    intro ls H locs hw hl
    refine lv_aload_n hx hb dX6_judgeCopy_27 rfl (lv_at hl 0 rfl) ?_
    refine hk_get (ci := 9) (C := RX6) (T := TX6) (N := 16) (v := .ref (ad 6)) hx hb hts (fun _ h => List.mem_cons_of_mem _ (wwXc_wsX60 _ h)) hown hw 25 rfl rfl 0 (by decide) (hq _ wX_399) rfl dX6_judgeCopy_28 ?_
    refine lv_iconst (v := 4) hx hb dX6_judgeCopy_31 (by decide) ?_
    refine jx_Vv (As := [.int 4]) (rest := []) ⟨hx, hb, hml, hown, hts⟩ hZ hw hA (jx_X8_fail l hlt D t3 cI cJ ad g lg ar bk _ 4) (cwV 1 hts (jx_gV wwX_good wX_403 wX_255 wX_256 wX_252 wX_257) rfl rfl rfl (by decide +kernel) ⟨Nat.le_of_ble_eq_true rfl, Nat.le_of_ble_eq_true rfl⟩) 6 (ci := 11) (T := TX8) (N := 4) rfl rfl rfl hl.1 rfl (Nat.le_of_ble_eq_true rfl) dX6_judgeCopy_32 ⟨Nat.le_of_ble_eq_true rfl, Nat.le_of_ble_eq_true rfl⟩ (fun u41 u42 u43 u44 H locs ce q hp hw h1 h2 h3 => by obtain ⟨ht0, ht1, ht2⟩ := hp; exact kt _ _ _ _ _ _ _ _ _ _ _ ⟨ht0, ht1, ht2⟩ hw h1 h2 h3) (fun g46 l47 a48 b49 H locs hp50 hw => ?_)
    obtain ⟨h51, h52, h53, h54⟩ := hp50
    exact False.elim h54
  refine hk_lcmp_gt (tgt := 27) hx hb dX6_judgeCopy_14 dX6_judgeCopy_15 (by decide) (fun cc55 => ?_) (fun cc55 => ?_)
  · exact B40 ls _ _ hw (lv_sub hl [0, 2, 3] rfl)
  · refine lv_lload_n hx hb dX6_judgeCopy_18 rfl (lv_at hl 1 rfl) ?_
    refine lv_aload_n hx hb dX6_judgeCopy_19 rfl (lv_at hl 0 rfl) ?_
    refine hk_get (ci := 9) (C := RX6) (T := TX6) (N := 16) (v := .long (lg 4)) hx hb hts (fun _ h => List.mem_cons_of_mem _ (wwXc_wsX60 _ h)) hown hw 25 rfl rfl 8 (by decide) (hq _ wX_404) rfl dX6_judgeCopy_20 ?_
    refine hk_lcmp_le (tgt := 35) hx hb dX6_judgeCopy_23 dX6_judgeCopy_24 (by decide) (fun cc56 => ?_) (fun cc56 => ?_)
    · exact B3 g ls _ _ hk_fr0 hw (lv_sub hl [0, 2, 3] rfl)
    · exact B40 ls _ _ hw (lv_sub hl [0, 2, 3] rfl)

set_option maxHeartbeats 4000000 in
set_option maxRecDepth 100000 in
/-- X6_takeMark on (25,) -/
theorem jx_X6_takeMark (l : Launch) (hlt : l.stackTraces = false) (D : va_G) (t3 : Nat × Nat × Nat) (cI cJ : ClassId) (ad : Nat → Nat) (g : Nat → Int32) (lg : Nat → Int64) (ar : Nat → Nat → Int32) (bk : Nat → Int64) (sz : Nat) (y1 : Int32) : JMv l yX6_takeMark (Cond.code yX6_takeMark cX6_takeMark 2 none :: wwX) { frames := 7, cells := 1, slots := 6, locals := 102 } t3 D xw cI cJ ad [.ref (ad 25), .int y1] (xw cI cJ ad g lg ar bk) sz 1 6 (fun g' lg' ar' bk' => hk_fr [17, 25] g g' ∧ hk_fr [] lg lg' ∧ hk_fr [6] ar ar') (fun g' lg' ar' bk' => hk_fr [17, 25] g g' ∧ hk_fr [] lg lg' ∧ hk_fr [6] ar ar') := by
  refine jx_metv (cc := cX6_takeMark) (maxL := 2) (ret := none) rfl (by decide) rfl (Nat.le_of_ble_eq_true rfl) ?_
  intro p e s m args below meth c ls Q A hx hb hml hown hts hA hZ hw hl hQ kr kt
  have hq : ∀ w ∈ wwX, w.before args s = true := fun w h => hts w (List.mem_cons_of_mem _ h)
  have hl : lv_has ls 2 [(0, .ref (ad 25)), (1, .int y1)] := hl
  refine lv_iload_n hx hb dX6_takeMark_0 rfl (lv_at hl 1 rfl) ?_
  have B1 : ∀  (g2 : Nat → Int32) (ls : Array Slot) (H : Heap) (locs : List Loc), hk_fr [17] g g2 → hk_W D (jT cI cJ) A s H locs (xw cI cJ ad g2 lg ar bk) → lv_has ls 2 [(0, .ref (ad 25))] → W p l e { frames := 7, cells := 1, slots := 6, locals := 102 } s m args below meth c H locs 0 0 Q (F0 m 13 ls []) := by
    intro g2 ls H locs hfr_g2 hw hl
    refine lv_aload_n hx hb dX6_takeMark_13 rfl (lv_at hl 0 rfl) ?_
    refine hk_get (ci := 9) (C := RX6) (T := TX6) (N := 16) (v := .ref (ad 15)) hx hb hts (fun _ h => List.mem_cons_of_mem _ (wwXc_wsX60 _ h)) hown hw 25 rfl rfl 4 (by decide) (hq _ wX_411) rfl dX6_takeMark_14 ?_
    refine lv_bipush (v := 7) hx hb dX6_takeMark_17 (by decide) ?_
    refine lv_aload_n hx hb dX6_takeMark_19 rfl (lv_at hl 0 rfl) ?_
    refine hk_get (ci := 9) (C := RX6) (T := TX6) (N := 16) (v := .ref (ad 4)) hx hb hts (fun _ h => List.mem_cons_of_mem _ (wwXc_wsX60 _ h)) hown hw 25 rfl rfl 1 (by decide) (hq _ wX_410) rfl dX6_takeMark_20 ?_
    have e_g2_14 : g2 14 = (g 14) := (hfr_g2 14 rfl)
    refine hk_get (ci := 12) (C := RX9) (T := TX9) (N := 2) (v := .int (g 14)) hx hb hts (fun _ h => List.mem_cons_of_mem _ (wwXc_wsX90 _ h)) hown hw 4 rfl rfl 1 (by decide) (hq _ wX_402) (congrArg (fun z => some (Value.int z)) e_g2_14) dX6_takeMark_23 ?_
    refine lv_iconst (v := 0) hx hb dX6_takeMark_26 (by decide) ?_
    refine lv_iconst (v := 0) hx hb dX6_takeMark_27 (by decide) ?_
    refine jx_Vv (As := [.int 7, .int (g 14), .int 0, .int 0]) (rest := []) ⟨hx, hb, hml, hown, hts⟩ hZ hw hA (jx_X4_addStep l hlt D t3 cI cJ ad g2 lg ar bk _ 7 (g 14) 0 0) (cwV 4 hts (jx_gV wwX_good wX_496 wX_497 wX_498 wX_69 wX_499) rfl rfl rfl (by decide +kernel) ⟨Nat.le_of_ble_eq_true rfl, Nat.le_of_ble_eq_true rfl⟩) 15 (ci := 7) (T := TX4) (N := 4) rfl rfl rfl hl.1 rfl (Nat.le_of_ble_eq_true rfl) dX6_takeMark_28 ⟨Nat.le_of_ble_eq_true rfl, Nat.le_of_ble_eq_true rfl⟩ (fun _ _ _ _ _ _ _ _ hp _ _ _ _ => hp.elim) (fun g8 l9 a10 b11 H locs hp12 hw => ?_)
    obtain ⟨h13, h14, h15⟩ := hp12
    exact kr g8 l9 a10 b11 _ _ _ _ ⟨(hk_frT (hk_frT hk_fr0 (by decide) hfr_g2) (by decide) h13), h14, h15⟩ hw dX6_takeMark_31
  refine lv_if_ne (tgt := 13) hx hb dX6_takeMark_1 (by decide) (fun cc16 => ?_) (fun cc16 => ?_)
  · exact B1 g ls _ _ hk_fr0 hw (lv_sub hl [0] rfl)
  · refine lv_aload_n hx hb dX6_takeMark_4 rfl (lv_at hl 0 rfl) ?_
    refine hk_get (ci := 9) (C := RX6) (T := TX6) (N := 16) (v := .ref (ad 6)) hx hb hts (fun _ h => List.mem_cons_of_mem _ (wwXc_wsX60 _ h)) hown hw 25 rfl rfl 0 (by decide) (hq _ wX_399) rfl dX6_takeMark_5 ?_
    refine lv_bipush (v := 7) hx hb dX6_takeMark_8 (by decide) ?_
    refine jx_Vv (As := [.int 7]) (rest := []) ⟨hx, hb, hml, hown, hts⟩ hZ hw hA (jx_X8_fail l hlt D t3 cI cJ ad g lg ar bk _ 7) (cwV 1 hts (jx_gV wwX_good wX_403 wX_255 wX_256 wX_252 wX_257) rfl rfl rfl (by decide +kernel) ⟨Nat.le_of_ble_eq_true rfl, Nat.le_of_ble_eq_true rfl⟩) 6 (ci := 11) (T := TX8) (N := 4) rfl rfl rfl hl.1 rfl (Nat.le_of_ble_eq_true rfl) dX6_takeMark_10 ⟨Nat.le_of_ble_eq_true rfl, Nat.le_of_ble_eq_true rfl⟩ (fun u17 u18 u19 u20 H locs ce q hp hw h1 h2 h3 => by obtain ⟨ht0, ht1, ht2⟩ := hp; exact kt _ _ _ _ _ _ _ _ _ _ _ ⟨(hk_frT hk_fr0 (by decide) ht0), ht1, (hk_frT hk_fr0 (by decide) ht2)⟩ hw h1 h2 h3) (fun g22 l23 a24 b25 H locs hp26 hw => ?_)
    obtain ⟨h27, h28, h29, h30⟩ := hp26
    exact False.elim h30

set_option maxHeartbeats 4000000 in
set_option maxRecDepth 100000 in
/-- X6_readChoice on (25,) -/
theorem jx_X6_readChoice (l : Launch) (hlt : l.stackTraces = false) (D : va_G) (t3 : Nat × Nat × Nat) (cI cJ : ClassId) (ad : Nat → Nat) (g : Nat → Int32) (lg : Nat → Int64) (ar : Nat → Nat → Int32) (bk : Nat → Int64) (sz : Nat) (y1 : Int32) (hi_g14 : 0 ≤ (g 14).toInt ∧ (g 14).toInt ≤ 3000) (hi_a0rg : hk_rg 0 255 (ar 0)) : JMi l yX6_readChoice (Cond.code yX6_readChoice cX6_readChoice 8 (some .boolean) :: wwX) { frames := 10, cells := 1, slots := 6, locals := 187 } t3 D xw cI cJ ad [.ref (ad 25), .int y1] (xw cI cJ ad g lg ar bk) sz 1 6 (fun (r : Int32) g' lg' ar' bk' => hk_fr [14, 15, 17, 19, 20, 24, 25] g g' ∧ hk_fr [0, 1, 2] lg lg' ∧ hk_fr [1, 2, 6] ar ar' ∧ (0 ≤ (g' 14).toInt ∧ (g' 14).toInt ≤ 3000)) (fun g' lg' ar' bk' => hk_fr [14, 15, 17, 19, 20, 24, 25] g g' ∧ hk_fr [0, 1, 2] lg lg' ∧ hk_fr [1, 2, 6] ar ar' ∧ (0 ≤ (g' 14).toInt ∧ (g' 14).toInt ≤ 3000)) := by
  refine jx_metz (cc := cX6_readChoice) (maxL := 8) (ret := (some .boolean)) rfl (by decide) rfl (Nat.le_of_ble_eq_true rfl) ?_
  intro p e s m args below meth c ls Q A hx hb hml hown hts hA hZ hw hl hQ kr kt
  have hq : ∀ w ∈ wwX, w.before args s = true := fun w h => hts w (List.mem_cons_of_mem _ h)
  have hl : lv_has ls 8 [(0, .ref (ad 25)), (1, .int y1)] := hl
  refine lv_aload_n hx hb dX6_readChoice_0 rfl (lv_at hl 0 rfl) ?_
  refine hk_get (ci := 9) (C := RX6) (T := TX6) (N := 16) (v := .ref (ad 4)) hx hb hts (fun _ h => List.mem_cons_of_mem _ (wwXc_wsX60 _ h)) hown hw 25 rfl rfl 1 (by decide) (hq _ wX_410) rfl dX6_readChoice_1 ?_
  refine hk_get (ci := 12) (C := RX9) (T := TX9) (N := 2) (v := .int (g 14)) hx hb hts (fun _ h => List.mem_cons_of_mem _ (wwXc_wsX90 _ h)) hown hw 4 rfl rfl 1 (by decide) (hq _ wX_402) rfl dX6_readChoice_4 ?_
  refine lv_aload_n hx hb dX6_readChoice_7 rfl (lv_at hl 0 rfl) ?_
  refine hk_get (ci := 9) (C := RX6) (T := TX6) (N := 16) (v := .int (g 43)) hx hb hts (fun _ h => List.mem_cons_of_mem _ (wwXc_wsX60 _ h)) hown hw 25 rfl rfl 9 (by decide) (hq _ wX_422) rfl dX6_readChoice_8 ?_
  refine lv_isub hx hb dX6_readChoice_11 (jx_nm fun z1 hz1 => ?_)
  refine lv_istore_n (lv' := [(2, .int z1), (0, .ref (ad 25)), (1, .int y1)]) hx hb dX6_readChoice_12 rfl hl (by decide) rfl (fun ls hl => ?_)
  refine lv_aload_n hx hb dX6_readChoice_13 rfl (lv_at hl 1 rfl) ?_
  refine hk_get (ci := 9) (C := RX6) (T := TX6) (N := 16) (v := .ref (ad 9)) hx hb hts (fun _ h => List.mem_cons_of_mem _ (wwXc_wsX60 _ h)) hown hw 25 rfl rfl 2 (by decide) (hq _ wX_413) rfl dX6_readChoice_14 ?_
  refine lv_iconst (v := 0) hx hb dX6_readChoice_17 (by decide) ?_
  refine lv_iload_n hx hb dX6_readChoice_18 rfl (lv_at hl 0 rfl) ?_
  refine jx_Vi (As := [.int 0, .int z1]) (rest := []) ⟨hx, hb, hml, hown, hts⟩ hZ hw hA (jx_X5_codeKind l hlt D t3 cI cJ ad g lg ar bk _ 0 z1 hi_a0rg) (cwV 2 hts (jx_gV wwX_good wX_466 wX_467 wX_468 wX_215 wX_469) rfl rfl rfl (by decide +kernel) ⟨Nat.le_of_ble_eq_true rfl, Nat.le_of_ble_eq_true rfl⟩) 9 (ci := 8) (T := TX5) (N := 6) rfl rfl rfl hl.1 rfl (Nat.le_of_ble_eq_true rfl) dX6_readChoice_19 ⟨Nat.le_of_ble_eq_true rfl, Nat.le_of_ble_eq_true rfl⟩ (fun u2 u3 u4 u5 H locs ce q hp hw h1 h2 h3 => by obtain ⟨ht0, ht1, ht2, ht3⟩ := hp; exact kt _ _ _ _ _ _ _ _ _ _ _ ⟨(hk_frT hk_fr0 (by decide) ht0), ht1, (hk_frT hk_fr0 (by decide) ht2), (ob328 ((u2 14).toInt) (hE_rng (u2 14)))⟩ hw h1 h2 h3) (fun r6 g7 l8 a9 b10 H locs hp11 hw => ?_)
  obtain ⟨h12, h13, h14⟩ := hp11
  refine lv_istore_n (lv' := [(3, .int r6), (2, .int z1), (0, .ref (ad 25)), (1, .int y1)]) hx hb dX6_readChoice_22 rfl hl (by decide) rfl (fun ls hl => ?_)
  refine lv_iload_n hx hb dX6_readChoice_23 rfl (lv_at hl 0 rfl) ?_
  refine lv_if_ne (tgt := 34) hx hb dX6_readChoice_24 (by decide) (fun cc15 => ?_) (fun cc15 => ?_)
  · refine lv_iconst (v := 1) hx hb dX6_readChoice_34 (by decide) ?_
    refine lv_istore (lv' := [(4, .int 1), (3, .int r6), (2, .int z1), (0, .ref (ad 25)), (1, .int y1)]) hx hb dX6_readChoice_35 hl (by decide) rfl (fun ls hl => ?_)
    refine lv_aload_n hx hb dX6_readChoice_37 rfl (lv_at hl 3 rfl) ?_
    refine hk_get (ci := 9) (C := RX6) (T := TX6) (N := 16) (v := .ref (ad 9)) hx hb hts (fun _ h => List.mem_cons_of_mem _ (wwXc_wsX60 _ h)) hown hw 25 rfl rfl 2 (by decide) (hq _ wX_413) rfl dX6_readChoice_38 ?_
    refine lv_iload_n hx hb dX6_readChoice_41 rfl (lv_at hl 1 rfl) ?_
    refine lv_bipush (v := 6) hx hb dX6_readChoice_42 (by decide) ?_
    have B16 : ∀  (x17 : Int32) (ls : Array Slot) (H : Heap) (locs : List Loc), hk_W D (jT cI cJ) A s H locs (xw cI cJ ad g7 l8 a9 b10) → lv_has ls 8 [(0, .ref (ad 25)), (1, .int y1), (2, .int z1), (3, .int r6), (4, .int 1)] → W p l e { frames := 10, cells := 1, slots := 6, locals := 187 } s m args below meth c H locs 0 0 Q (F0 m 54 ls [.int x17, .ref (ad 9)]) := by
      intro x17 ls H locs hw hl
      refine jx_Vl (As := [.int x17]) (rest := []) ⟨hx, hb, hml, hown, hts⟩ hZ hw hA (jx_X5_back l hlt D t3 cI cJ ad g7 l8 a9 b10 _ x17) (cwV 1 hts (jx_gV wwX_good wX_474 wX_213 wX_214 wX_215 wX_216) rfl rfl rfl (by decide +kernel) ⟨Nat.le_of_ble_eq_true rfl, Nat.le_of_ble_eq_true rfl⟩) 9 (ci := 8) (T := TX5) (N := 6) rfl rfl rfl hl.1 rfl (Nat.le_of_ble_eq_true rfl) dX6_readChoice_54 ⟨Nat.le_of_ble_eq_true rfl, Nat.le_of_ble_eq_true rfl⟩ (fun _ _ _ _ _ _ _ _ hp _ _ _ _ => hp.elim) (fun r22 g23 l24 a25 b26 H locs hp27 hw => ?_)
      obtain ⟨h28, h29, h30⟩ := hp27
      have hr31 : hk_rg 0 255 (a25 0) := (hk_pE (P := hk_rg 0 255) (hk_pE (P := hk_rg 0 255) hi_a0rg (h14 0 rfl)) (h30 0 rfl))
      refine lv_lstore (lv' := [(5, .long r22), (0, .ref (ad 25)), (1, .int y1), (2, .int z1), (3, .int r6), (4, .int 1)]) hx hb dX6_readChoice_57 hl (by decide) rfl (fun ls hl => ?_)
      refine lv_iload_n hx hb dX6_readChoice_59 rfl (lv_at hl 4 rfl) ?_
      refine lv_iconst (v := 1) hx hb dX6_readChoice_60 (by decide) ?_
      have B32 : ∀  (x33 : Int32) (x34 : Int64) (g35 : Nat → Int32) (l36 : Nat → Int64) (a37 : Nat → Nat → Int32) (ls : Array Slot) (H : Heap) (locs : List Loc), -300 ≤ (x33).toInt ∧ (x33).toInt ≤ 600 → 0 ≤ (g35 14).toInt ∧ (g35 14).toInt ≤ 3000 → hk_fr [14, 15, 17, 19, 20] g23 g35 → hk_fr [0, 1, 2] l24 l36 → hk_fr [1, 2] a25 a37 → hk_W D (jT cI cJ) A s H locs (xw cI cJ ad g35 l36 a37 b26) → lv_has ls 8 [(0, .ref (ad 25)), (1, .int y1), (3, .int r6), (4, .int x33), (5, .long x34)] → W p l e { frames := 10, cells := 1, slots := 6, locals := 187 } s m args below meth c H locs 0 0 Q (F0 m 113 ls []) := by
        intro x33 x34 g35 l36 a37 ls H locs hf_B32_0 hf_B32_1 hfr_g35 hfr_l36 hfr_a37 hw hl
        refine lv_aload_n hx hb dX6_readChoice_113 rfl (lv_at hl 0 rfl) ?_
        refine hk_get (ci := 9) (C := RX6) (T := TX6) (N := 16) (v := .ref (ad 9)) hx hb hts (fun _ h => List.mem_cons_of_mem _ (wwXc_wsX60 _ h)) hown hw 25 rfl rfl 2 (by decide) (hq _ wX_413) rfl dX6_readChoice_114 ?_
        refine lv_iload_n hx hb dX6_readChoice_117 rfl (lv_at hl 2 rfl) ?_
        refine lv_lload hx hb dX6_readChoice_118 (lv_at hl 4 rfl) ?_
        refine jx_Vv (As := [.int r6, .long x34]) (rest := []) ⟨hx, hb, hml, hown, hts⟩ hZ hw hA (jx_X5_follow l hlt D t3 cI cJ ad g35 l36 a37 b26 _ r6 x34) (cwV 2 hts (jx_gV wwX_good wX_483 wX_484 wX_485 wX_215 wX_486) rfl rfl rfl (by decide +kernel) ⟨Nat.le_of_ble_eq_true rfl, Nat.le_of_ble_eq_true rfl⟩) 9 (ci := 8) (T := TX5) (N := 6) rfl rfl rfl hl.1 rfl (Nat.le_of_ble_eq_true rfl) dX6_readChoice_120 ⟨Nat.le_of_ble_eq_true rfl, Nat.le_of_ble_eq_true rfl⟩ (fun _ _ _ _ _ _ _ _ hp _ _ _ _ => hp.elim) (fun g43 l44 a45 b46 H locs hp47 hw => ?_)
        obtain ⟨h48, h49, h50⟩ := hp47
        have hr51 : hk_rg 0 255 (a45 0) := (hk_pE (P := hk_rg 0 255) (hk_pE (P := hk_rg 0 255) hr31 (hfr_a37 0 rfl)) (h50 0 rfl))
        refine lv_lload hx hb dX6_readChoice_123 (lv_at hl 4 rfl) ?_
        refine lv_ldc2 (v := 4294967296) hx hb hown (hq _ wX_487) dX6_readChoice_125 ?_
        refine hk_lcmp_ne (tgt := 147) hx hb dX6_readChoice_128 dX6_readChoice_129 (by decide) (fun cc52 => ?_) (fun cc52 => ?_)
        · refine lv_aload_n hx hb dX6_readChoice_147 rfl (lv_at hl 0 rfl) ?_
          refine lv_lload hx hb dX6_readChoice_148 (lv_at hl 4 rfl) ?_
          refine lv_iload hx hb dX6_readChoice_150 (lv_at hl 3 rfl) ?_
          refine lv_iload_n hx hb dX6_readChoice_152 rfl (lv_at hl 1 rfl) ?_
          have e_g43_14 : g43 14 = (g35 14) := (h48 14 rfl)
          refine jx_Vv (As := [.long x34, .int x33, .int y1]) (rest := []) ⟨hx, hb, hml, hown, hts⟩ hZ hw hA (jx_X6_judgeCopy l hlt D t3 cI cJ ad g43 l44 a45 b46 _ x34 x33 y1 (ob332 ((x33).toInt) hf_B32_0 (hE_rng (x33))) (ob333 ((g43 14).toInt) ((g35 14).toInt) (congrArg Int32.toInt e_g43_14) hf_B32_1 (hE_rng (g43 14)) (hE_rng (g35 14)))) (cwV 3 hts (jx_gV wwX_good wX_492 wX_493 wX_494 wX_441 wX_495) rfl rfl rfl (by decide +kernel) ⟨Nat.le_of_ble_eq_true rfl, Nat.le_of_ble_eq_true rfl⟩) 25 (ci := 9) (T := TX6) (N := 16) rfl rfl rfl hl.1 rfl (Nat.le_of_ble_eq_true rfl) dX6_readChoice_153 ⟨Nat.le_of_ble_eq_true rfl, Nat.le_of_ble_eq_true rfl⟩ (fun u53 u54 u55 u56 H locs ce q hp hw h1 h2 h3 => by obtain ⟨ht0, ht1, ht2⟩ := hp; have e_u53_14 : u53 14 = (g35 14) := ((ht0 14 rfl)).trans e_g43_14; exact kt _ _ _ _ _ _ _ _ _ _ _ ⟨(hk_frT (hk_frT (hk_frT (hk_frT (hk_frT hk_fr0 (by decide) h12) (by decide) h28) (by decide) hfr_g35) (by decide) h48) (by decide) ht0), (hk_frT (hk_frT (hk_frT (hk_frT h13 (by decide) h29) (by decide) hfr_l36) (by decide) h49) (by decide) ht1), (hk_frT (hk_frT (hk_frT (hk_frT (hk_frT hk_fr0 (by decide) h14) (by decide) h30) (by decide) hfr_a37) (by decide) h50) (by decide) ht2), (ob334 ((u53 14).toInt) ((g35 14).toInt) ((g43 14).toInt) (congrArg Int32.toInt e_u53_14) hf_B32_1 (congrArg Int32.toInt e_g43_14) (hE_rng (u53 14)) (hE_rng (g35 14)) (hE_rng (g43 14)))⟩ hw h1 h2 h3) (fun g58 l59 a60 b61 H locs hp62 hw => ?_)
          obtain ⟨h63, h64, h65, h66⟩ := hp62
          refine lv_aload_n hx hb dX6_readChoice_156 rfl (lv_at hl 0 rfl) ?_
          refine hk_get (ci := 9) (C := RX6) (T := TX6) (N := 16) (v := .ref (ad 15)) hx hb hts (fun _ h => List.mem_cons_of_mem _ (wwXc_wsX60 _ h)) hown hw 25 rfl rfl 4 (by decide) (hq _ wX_411) rfl dX6_readChoice_157 ?_
          refine lv_iload_n hx hb dX6_readChoice_160 rfl (lv_at hl 2 rfl) ?_
          refine lv_aload_n hx hb dX6_readChoice_161 rfl (lv_at hl 0 rfl) ?_
          refine hk_get (ci := 9) (C := RX6) (T := TX6) (N := 16) (v := .ref (ad 4)) hx hb hts (fun _ h => List.mem_cons_of_mem _ (wwXc_wsX60 _ h)) hown hw 25 rfl rfl 1 (by decide) (hq _ wX_410) rfl dX6_readChoice_162 ?_
          have e_g58_14 : g58 14 = (g35 14) := ((h63 14 rfl)).trans e_g43_14
          refine hk_get (ci := 12) (C := RX9) (T := TX9) (N := 2) (v := .int (g35 14)) hx hb hts (fun _ h => List.mem_cons_of_mem _ (wwXc_wsX90 _ h)) hown hw 4 rfl rfl 1 (by decide) (hq _ wX_402) (congrArg (fun z => some (Value.int z)) e_g58_14) dX6_readChoice_165 ?_
          refine lv_iload hx hb dX6_readChoice_168 (lv_at hl 3 rfl) ?_
          refine lv_lload hx hb dX6_readChoice_170 (lv_at hl 4 rfl) ?_
          refine lv_l2i hx hb dX6_readChoice_172 rfl (jx_nm fun z67 hz67 => ?_)
          refine jx_Vv (As := [.int r6, .int (g35 14), .int x33, .int z67]) (rest := []) ⟨hx, hb, hml, hown, hts⟩ hZ hw hA (jx_X4_addStep l hlt D t3 cI cJ ad g58 l59 a60 b61 _ r6 (g35 14) x33 z67) (cwV 4 hts (jx_gV wwX_good wX_496 wX_497 wX_498 wX_69 wX_499) rfl rfl rfl (by decide +kernel) ⟨Nat.le_of_ble_eq_true rfl, Nat.le_of_ble_eq_true rfl⟩) 15 (ci := 7) (T := TX4) (N := 4) rfl rfl rfl hl.1 rfl (Nat.le_of_ble_eq_true rfl) dX6_readChoice_173 ⟨Nat.le_of_ble_eq_true rfl, Nat.le_of_ble_eq_true rfl⟩ (fun _ _ _ _ _ _ _ _ hp _ _ _ _ => hp.elim) (fun g73 l74 a75 b76 H locs hp77 hw => ?_)
          obtain ⟨h78, h79, h80⟩ := hp77
          have hr81 : hk_rg 0 255 (a75 0) := (hk_pE (P := hk_rg 0 255) (hk_pE (P := hk_rg 0 255) hr51 (h65 0 rfl)) (h80 0 rfl))
          refine lv_iconst (v := 0) hx hb dX6_readChoice_176 (by decide) ?_
          refine lv_istore (lv' := [(7, .int 0), (0, .ref (ad 25)), (1, .int y1), (3, .int r6), (4, .int x33), (5, .long x34)]) hx hb dX6_readChoice_177 hl (by decide) rfl (fun ls hl => ?_)
          have B82 : ∀ (k86 : Nat) (x83 : Int32) (g84 : Nat → Int32) (a85 : Nat → Nat → Int32) (ls : Array Slot) (H : Heap) (locs : List Loc), 2147483648 - (x83).toInt ≤ (k86 : Int) → (g84 14).toInt = (g 14).toInt + (x83).toInt → 0 ≤ (x83).toInt → 0 ≤ (g84 14).toInt ∧ (g84 14).toInt ≤ 3000 → hk_fr [14] g73 g84 → hk_fr [1] a75 a85 → hk_W D (jT cI cJ) A s H locs (xw cI cJ ad g84 l74 a85 b76) → lv_has ls 8 [(0, .ref (ad 25)), (4, .int x33), (5, .long x34), (7, .int x83)] → W p l e { frames := 10, cells := 1, slots := 6, locals := 187 } s m args below meth c H locs 0 0 Q (F0 m 179 ls []) := by
            intro k86
            induction k86 with
            | zero =>
              intro x83 g84 a85 ls H locs hrk_B82 hf_B82_0 hf_B82_1 hf_B82_2 hfr_g84 hfr_a85 hw hl
              exact False.elim (hk_no0 (0 * (x83).toInt) (ob335 ((x83).toInt) ((g84 14).toInt) ((g 14).toInt) ((z1).toInt) ((g 43).toInt) hf_B82_0 hf_B82_1 hrk_B82 hi_g14 (hE_sub hz1) hf_B82_2 (hE_rng (x83)) (hE_rng (g84 14)) (hE_rng (g 14)) (hE_rng (z1)) (hE_rng (g 43))) (by simp))
            | succ k86 ih_B82 =>
              intro x83 g84 a85 ls H locs hrk_B82 hf_B82_0 hf_B82_1 hf_B82_2 hfr_g84 hfr_a85 hw hl
              have hrk_B82 := hk_rk hrk_B82
              refine lv_iload hx hb dX6_readChoice_179 (lv_at hl 3 rfl) ?_
              refine lv_iload hx hb dX6_readChoice_181 (lv_at hl 1 rfl) ?_
              refine lv_icmp_ge (tgt := 217) hx hb dX6_readChoice_183 (by decide) (fun cc87 => ?_) (fun cc87 => ?_)
              · refine lv_iconst (v := 0) hx hb dX6_readChoice_217 (by decide) ?_
                exact kr 0 g84 l74 a85 b76 _ _ _ _ rfl ⟨(hk_frT (hk_frT (hk_frT (hk_frT (hk_frT (hk_frT (hk_frT hk_fr0 (by decide) h12) (by decide) h28) (by decide) hfr_g35) (by decide) h48) (by decide) h63) (by decide) h78) (by decide) hfr_g84), (hk_frT (hk_frT (hk_frT (hk_frT (hk_frT h13 (by decide) h29) (by decide) hfr_l36) (by decide) h49) (by decide) h64) (by decide) h79), (hk_frT (hk_frT (hk_frT (hk_frT (hk_frT (hk_frT (hk_frT hk_fr0 (by decide) h14) (by decide) h30) (by decide) hfr_a37) (by decide) h50) (by decide) h65) (by decide) h80) (by decide) hfr_a85), (ob336 ((g84 14).toInt) ((g 14).toInt) ((x83).toInt) ((z1).toInt) ((g 43).toInt) (k86 : Int) ((x33).toInt) ((g43 14).toInt) ((g35 14).toInt) ((g58 14).toInt) hf_B82_0 hf_B82_2 hi_g14 (hE_sub hz1) hf_B82_1 hrk_B82 (hE_le cc87) hf_B32_0 h66 (congrArg Int32.toInt e_g43_14) hf_B32_1 (congrArg Int32.toInt e_g58_14) (hE_rng (g84 14)) (hE_rng (g 14)) (hE_rng (x83)) (hE_rng (z1)) (hE_rng (g 43)) (hE_rng (x33)) (hE_rng (g43 14)) (hE_rng (g35 14)) (hE_rng (g58 14)))⟩ hw dX6_readChoice_218
              · refine lv_aload_n hx hb dX6_readChoice_186 rfl (lv_at hl 0 rfl) ?_
                refine hk_get (ci := 9) (C := RX6) (T := TX6) (N := 16) (v := .ref (ad 4)) hx hb hts (fun _ h => List.mem_cons_of_mem _ (wwXc_wsX60 _ h)) hown hw 25 rfl rfl 1 (by decide) (hq _ wX_410) rfl dX6_readChoice_187 ?_
                refine lv_aload_n hx hb dX6_readChoice_190 rfl (lv_at hl 0 rfl) ?_
                refine hk_get (ci := 9) (C := RX6) (T := TX6) (N := 16) (v := .ref (ad 4)) hx hb hts (fun _ h => List.mem_cons_of_mem _ (wwXc_wsX60 _ h)) hown hw 25 rfl rfl 1 (by decide) (hq _ wX_410) rfl dX6_readChoice_191 ?_
                refine lv_aload_n hx hb dX6_readChoice_194 rfl (lv_at hl 0 rfl) ?_
                refine hk_get (ci := 9) (C := RX6) (T := TX6) (N := 16) (v := .ref (ad 4)) hx hb hts (fun _ h => List.mem_cons_of_mem _ (wwXc_wsX60 _ h)) hown hw 25 rfl rfl 1 (by decide) (hq _ wX_410) rfl dX6_readChoice_195 ?_
                refine hk_get (ci := 12) (C := RX9) (T := TX9) (N := 2) (v := .int (g84 14)) hx hb hts (fun _ h => List.mem_cons_of_mem _ (wwXc_wsX90 _ h)) hown hw 4 rfl rfl 1 (by decide) (hq _ wX_402) rfl dX6_readChoice_198 ?_
                refine lv_lload hx hb dX6_readChoice_201 (lv_at hl 2 rfl) ?_
                refine lv_l2i hx hb dX6_readChoice_203 rfl (jx_nm fun z88 hz88 => ?_)
                refine lv_isub hx hb dX6_readChoice_204 (jx_nm fun z89 hz89 => ?_)
                refine jx_Vi (As := [.int z89]) (rest := [.ref (ad 4)]) ⟨hx, hb, hml, hown, hts⟩ hZ hw hA (jx_X9_get_4 l hlt D t3 cI cJ ad g84 l74 a85 b76 _ z89) (cwV 1 hts (jx_gV wwX_good wX_500 wX_22 wX_23 wX_24 wX_25) rfl rfl rfl (by decide +kernel) ⟨Nat.le_of_ble_eq_true rfl, Nat.le_of_ble_eq_true rfl⟩) 4 (ci := 12) (T := TX9) (N := 2) rfl rfl rfl hl.1 rfl (Nat.le_of_ble_eq_true rfl) dX6_readChoice_205 ⟨Nat.le_of_ble_eq_true rfl, Nat.le_of_ble_eq_true rfl⟩ (fun _ _ _ _ _ _ _ _ hp _ _ _ _ => hp.elim) (fun r94 g95 l96 a97 b98 H locs hp99 hw => ?_)
                obtain ⟨h100, h101, h102⟩ := hp99
                have hr103 : hk_rg 0 255 (a97 0) := (hk_pE (P := hk_rg 0 255) (hk_pE (P := hk_rg 0 255) hr81 (hfr_a85 0 rfl)) (h102 0 rfl))
                refine jx_Vv (As := [.int r94]) (rest := []) ⟨hx, hb, hml, hown, hts⟩ hZ hw hA (jx_X9_put_4 l hlt D t3 cI cJ ad g95 l96 a97 b98 _ r94) (cwV 1 hts (jx_gV wwX_good wX_501 wX_112 wX_113 wX_24 wX_114) rfl rfl rfl (by decide +kernel) ⟨Nat.le_of_ble_eq_true rfl, Nat.le_of_ble_eq_true rfl⟩) 4 (ci := 12) (T := TX9) (N := 2) rfl rfl rfl hl.1 rfl (Nat.le_of_ble_eq_true rfl) dX6_readChoice_208 ⟨Nat.le_of_ble_eq_true rfl, Nat.le_of_ble_eq_true rfl⟩ (fun _ _ _ _ _ _ _ _ hp _ _ _ _ => hp.elim) (fun g109 l110 a111 b112 H locs hp113 hw => ?_)
                obtain ⟨h114, h115, h116, h117⟩ := hp113
                have e_g95_14 : g95 14 = (g84 14) := (h100 14 rfl)
                obtain ⟨z118, hz118⟩ : ∃ z : Int32, x83 + 1 = z := ⟨_, rfl⟩
                refine lv_iinc (v := z118) (lv' := [(7, .int z118), (0, .ref (ad 25)), (4, .int x33), (5, .long x34)]) hx hb dX6_readChoice_211 hl (k := 3) rfl hz118 (by decide) rfl (fun ls hl => ?_)
                refine lv_goto (tgt := 179) hx hb dX6_readChoice_214 (by decide) ?_
                exact ih_B82 z118 g109 a111 ls _ _ (ob337 ((z118).toInt) (k86 : Int) ((x83).toInt) (((1 : Int32)).toInt) ((g84 14).toInt) ((g 14).toInt) ((x33).toInt) ((z1).toInt) ((g 43).toInt) ((g43 14).toInt) ((z89).toInt) ((z88).toInt) ((g95 14).toInt) ((g35 14).toInt) ((x34).toInt) ((g109 14).toInt) (((4294967296 : Int64)).toInt) ((g58 14).toInt) ((z67).toInt) hrk_B82 (hE_add hz118) hf_B82_0 hf_B82_1 (hE_nle cc87) hi_g14 (hE_sub hz1) hf_B32_0 h66 hf_B82_2 (hE_sub hz89) (congrArg Int32.toInt e_g95_14) (congrArg Int32.toInt e_g43_14) (hE_l2i hz88) h117 hf_B32_1 (hE_neL cc52) (congrArg Int32.toInt e_g58_14) (hE_l2i hz67) (hE_rng (z118)) (hE_rng (x83)) (by decide) (hE_rng (g84 14)) (hE_rng (g 14)) (hE_rng (x33)) (hE_rng (z1)) (hE_rng (g 43)) (hE_rng (g43 14)) (hE_rng (z89)) (hE_rng (z88)) (hE_rng (g95 14)) (hE_rng (g35 14)) (hE_rngL (x34)) (hE_rng (g109 14)) (by decide) (hE_rng (g58 14)) (hE_rng (z67))) (ob338 ((g109 14).toInt) ((g 14).toInt) ((z118).toInt) ((z1).toInt) ((g 43).toInt) ((g84 14).toInt) ((x83).toInt) ((g95 14).toInt) (((1 : Int32)).toInt) (k86 : Int) ((x33).toInt) ((z89).toInt) ((z88).toInt) ((g43 14).toInt) ((x34).toInt) (((4294967296 : Int64)).toInt) ((g35 14).toInt) ((z67).toInt) ((g58 14).toInt) hi_g14 (hE_sub hz1) hf_B82_0 h117 (hE_add hz118) hf_B82_1 hf_B82_2 hrk_B82 (hE_nle cc87) (hE_sub hz89) (congrArg Int32.toInt e_g95_14) hf_B32_0 h66 (hE_l2i hz88) (hE_neL cc52) (congrArg Int32.toInt e_g43_14) (hE_l2i hz67) hf_B32_1 (congrArg Int32.toInt e_g58_14) (hE_rng (g109 14)) (hE_rng (g 14)) (hE_rng (z118)) (hE_rng (z1)) (hE_rng (g 43)) (hE_rng (g84 14)) (hE_rng (x83)) (hE_rng (g95 14)) (by decide) (hE_rng (x33)) (hE_rng (z89)) (hE_rng (z88)) (hE_rng (g43 14)) (hE_rngL (x34)) (by decide) (hE_rng (g35 14)) (hE_rng (z67)) (hE_rng (g58 14))) (ob339 ((z118).toInt) ((x83).toInt) (((1 : Int32)).toInt) ((g84 14).toInt) ((g 14).toInt) (k86 : Int) ((x33).toInt) ((z1).toInt) ((g 43).toInt) ((g43 14).toInt) ((z89).toInt) ((z88).toInt) ((g95 14).toInt) ((g35 14).toInt) ((x34).toInt) ((g109 14).toInt) (((4294967296 : Int64)).toInt) ((g58 14).toInt) ((z67).toInt) (hE_add hz118) hf_B82_0 hf_B82_1 hrk_B82 (hE_nle cc87) hi_g14 (hE_sub hz1) hf_B32_0 h66 hf_B82_2 (hE_sub hz89) (congrArg Int32.toInt e_g95_14) (congrArg Int32.toInt e_g43_14) (hE_l2i hz88) h117 hf_B32_1 (hE_neL cc52) (congrArg Int32.toInt e_g58_14) (hE_l2i hz67) (hE_rng (z118)) (hE_rng (x83)) (by decide) (hE_rng (g84 14)) (hE_rng (g 14)) (hE_rng (x33)) (hE_rng (z1)) (hE_rng (g 43)) (hE_rng (g43 14)) (hE_rng (z89)) (hE_rng (z88)) (hE_rng (g95 14)) (hE_rng (g35 14)) (hE_rngL (x34)) (hE_rng (g109 14)) (by decide) (hE_rng (g58 14)) (hE_rng (z67))) (ob340 ((g109 14).toInt) ((g95 14).toInt) ((g84 14).toInt) ((g 14).toInt) ((x83).toInt) ((z89).toInt) ((z88).toInt) ((z1).toInt) ((g 43).toInt) (k86 : Int) ((x33).toInt) ((x34).toInt) ((z118).toInt) (((1 : Int32)).toInt) (((4294967296 : Int64)).toInt) ((g43 14).toInt) ((z67).toInt) h117 (congrArg Int32.toInt e_g95_14) hf_B82_0 hf_B82_2 (hE_sub hz89) hi_g14 (hE_sub hz1) hf_B82_1 hrk_B82 (hE_nle cc87) (hE_l2i hz88) (hE_add hz118) hf_B32_0 (hE_neL cc52) h66 (hE_l2i hz67) (hE_rng (g109 14)) (hE_rng (g95 14)) (hE_rng (g84 14)) (hE_rng (g 14)) (hE_rng (x83)) (hE_rng (z89)) (hE_rng (z88)) (hE_rng (z1)) (hE_rng (g 43)) (hE_rng (x33)) (hE_rngL (x34)) (hE_rng (z118)) (by decide) (by decide) (hE_rng (g43 14)) (hE_rng (z67))) (hk_frT (hk_frT hfr_g84 (by decide) h100) (by decide) h114) (hk_frT (hk_frT hfr_a85 (by decide) h102) (by decide) h116) hw (lv_sub hl [1, 2, 3, 0] rfl)
          have e_g73_14 : g73 14 = (g35 14) := ((h78 14 rfl)).trans e_g58_14
          exact B82 (2147483648 - ((0 : Int32)).toInt).toNat 0 g73 a75 ls _ _ (Int.self_le_toNat _) (ob341 ((g73 14).toInt) ((g 14).toInt) (((0 : Int32)).toInt) ((z1).toInt) ((g 43).toInt) ((r6).toInt) ((g35 14).toInt) ((g43 14).toInt) ((g58 14).toInt) ((x33).toInt) hi_g14 (hE_sub hz1) (hE_ne cc15) (congrArg Int32.toInt e_g73_14) hf_B32_1 (congrArg Int32.toInt e_g43_14) (congrArg Int32.toInt e_g58_14) h66 hf_B32_0 (hE_rng (g73 14)) (hE_rng (g 14)) (by decide) (hE_rng (z1)) (hE_rng (g 43)) (hE_rng (r6)) (hE_rng (g35 14)) (hE_rng (g43 14)) (hE_rng (g58 14)) (hE_rng (x33))) (ob342 (((0 : Int32)).toInt) ((r6).toInt) (hE_ne cc15) (by decide) (hE_rng (r6))) (ob343 ((g73 14).toInt) ((g35 14).toInt) ((g43 14).toInt) ((g58 14).toInt) ((x33).toInt) (congrArg Int32.toInt e_g73_14) hf_B32_1 (congrArg Int32.toInt e_g43_14) (congrArg Int32.toInt e_g58_14) h66 hf_B32_0 (hE_rng (g73 14)) (hE_rng (g35 14)) (hE_rng (g43 14)) (hE_rng (g58 14)) (hE_rng (x33))) hk_fr0 hk_fr0 hw (lv_sub hl [1, 4, 5, 0] rfl)
        · refine lv_aload_n hx hb dX6_readChoice_132 rfl (lv_at hl 0 rfl) ?_
          refine lv_iload_n hx hb dX6_readChoice_133 rfl (lv_at hl 1 rfl) ?_
          have B119 : ∀  (x120 : Int32) (ls : Array Slot) (H : Heap) (locs : List Loc), 0 ≤ (x120).toInt ∧ (x120).toInt ≤ 1 → hk_W D (jT cI cJ) A s H locs (xw cI cJ ad g43 l44 a45 b46) → lv_has ls 8 [] → W p l e { frames := 10, cells := 1, slots := 6, locals := 187 } s m args below meth c H locs 0 0 Q (F0 m 142 ls [.int x120, .ref (ad 25)]) := by
            intro x120 ls H locs hf_B119_0 hw hl
            refine jx_Vv (As := [.int x120]) (rest := []) ⟨hx, hb, hml, hown, hts⟩ hZ hw hA (jx_X6_takeMark l hlt D t3 cI cJ ad g43 l44 a45 b46 _ x120) (cwV 1 hts (jx_gV wwX_good wX_488 wX_489 wX_490 wX_441 wX_491) rfl rfl rfl (by decide +kernel) ⟨Nat.le_of_ble_eq_true rfl, Nat.le_of_ble_eq_true rfl⟩) 25 (ci := 9) (T := TX6) (N := 16) rfl rfl rfl hl.1 rfl (Nat.le_of_ble_eq_true rfl) dX6_readChoice_142 ⟨Nat.le_of_ble_eq_true rfl, Nat.le_of_ble_eq_true rfl⟩ (fun u121 u122 u123 u124 H locs ce q hp hw h1 h2 h3 => by obtain ⟨ht0, ht1, ht2⟩ := hp; have e_u121_14 : u121 14 = (g35 14) := ((ht0 14 rfl)).trans (h48 14 rfl); exact kt _ _ _ _ _ _ _ _ _ _ _ ⟨(hk_frT (hk_frT (hk_frT (hk_frT (hk_frT hk_fr0 (by decide) h12) (by decide) h28) (by decide) hfr_g35) (by decide) h48) (by decide) ht0), (hk_frT (hk_frT (hk_frT (hk_frT h13 (by decide) h29) (by decide) hfr_l36) (by decide) h49) (by decide) ht1), (hk_frT (hk_frT (hk_frT (hk_frT (hk_frT hk_fr0 (by decide) h14) (by decide) h30) (by decide) hfr_a37) (by decide) h50) (by decide) ht2), (ob333 ((u121 14).toInt) ((g35 14).toInt) (congrArg Int32.toInt e_u121_14) hf_B32_1 (hE_rng (u121 14)) (hE_rng (g35 14)))⟩ hw h1 h2 h3) (fun g126 l127 a128 b129 H locs hp130 hw => ?_)
            obtain ⟨h131, h132, h133⟩ := hp130
            refine lv_iconst (v := 1) hx hb dX6_readChoice_145 (by decide) ?_
            have e_g126_14 : g126 14 = (g35 14) := ((h131 14 rfl)).trans (h48 14 rfl)
            exact kr 1 g126 l127 a128 b129 _ _ _ _ rfl ⟨(hk_frT (hk_frT (hk_frT (hk_frT (hk_frT hk_fr0 (by decide) h12) (by decide) h28) (by decide) hfr_g35) (by decide) h48) (by decide) h131), (hk_frT (hk_frT (hk_frT (hk_frT h13 (by decide) h29) (by decide) hfr_l36) (by decide) h49) (by decide) h132), (hk_frT (hk_frT (hk_frT (hk_frT (hk_frT hk_fr0 (by decide) h14) (by decide) h30) (by decide) hfr_a37) (by decide) h50) (by decide) h133), (ob333 ((g126 14).toInt) ((g35 14).toInt) (congrArg Int32.toInt e_g126_14) hf_B32_1 (hE_rng (g126 14)) (hE_rng (g35 14)))⟩ hw dX6_readChoice_146
          refine lv_if_ge (tgt := 141) hx hb dX6_readChoice_134 (by decide) (fun cc134 => ?_) (fun cc134 => ?_)
          · refine lv_iconst (v := 0) hx hb dX6_readChoice_141 (by decide) ?_
            exact B119 0 ls _ _ (ob344 (((0 : Int32)).toInt) ((r6).toInt) ((y1).toInt) (hE_ne cc15) (hE_le cc134) (by decide) (hE_rng (r6)) (hE_rng (y1))) hw (lv_sub hl [] rfl)
          · refine lv_iconst (v := 1) hx hb dX6_readChoice_137 (by decide) ?_
            refine lv_goto (tgt := 142) hx hb dX6_readChoice_138 (by decide) ?_
            exact B119 1 ls _ _ (ob37 (((1 : Int32)).toInt) (by decide)) hw (lv_sub hl [] rfl)
      refine lv_icmp_ne (tgt := 93) hx hb dX6_readChoice_61 (by decide) (fun cc135 => ?_) (fun cc135 => ?_)
      · refine lv_iload_n hx hb dX6_readChoice_93 rfl (lv_at hl 4 rfl) ?_
        refine lv_bipush (v := 6) hx hb dX6_readChoice_94 (by decide) ?_
        refine lv_icmp_eq (tgt := 113) hx hb dX6_readChoice_96 (by decide) (fun cc136 => ?_) (fun cc136 => ?_)
        · have e_g23_14 : g23 14 = (g7 14) := (h28 14 rfl)
          exact B32 1 r22 g23 l24 a25 ls _ _ (ob345 (((1 : Int32)).toInt) ((r6).toInt) (((0 : Int32)).toInt) (((6 : Int32)).toInt) (hE_ne cc135) (hE_ne cc15) (hE_eq cc136) (by decide) (hE_rng (r6)) (by decide) (by decide)) (ob346 ((g23 14).toInt) ((g7 14).toInt) (congrArg Int32.toInt e_g23_14) (hE_rng (g23 14)) (hE_rng (g7 14))) hk_fr0 hk_fr0 hk_fr0 hw (lv_sub hl [1, 2, 4, 5, 0] rfl)
        · refine lv_aload_n hx hb dX6_readChoice_99 rfl (lv_at hl 1 rfl) ?_
          refine hk_get (ci := 9) (C := RX6) (T := TX6) (N := 16) (v := .ref (ad 9)) hx hb hts (fun _ h => List.mem_cons_of_mem _ (wwXc_wsX60 _ h)) hown hw 25 rfl rfl 2 (by decide) (hq _ wX_413) rfl dX6_readChoice_100 ?_
          refine lv_sipush (v := 1538) hx hb dX6_readChoice_103 (by decide) ?_
          refine lv_iconst (v := 0) hx hb dX6_readChoice_106 (by decide) ?_
          refine lv_iload_n hx hb dX6_readChoice_107 rfl (lv_at hl 3 rfl) ?_
          refine jx_Vi (As := [.int 1538, .int 0, .int z1]) (rest := []) ⟨hx, hb, hml, hown, hts⟩ hZ hw hA (jx_X5_codeLength l hlt D t3 cI cJ ad g23 l24 a25 b26 _ 1538 0 z1 hr31) (cwV 3 hts (jx_gV wwX_good wX_475 wX_476 wX_477 wX_215 wX_478) rfl rfl rfl (by decide +kernel) ⟨Nat.le_of_ble_eq_true rfl, Nat.le_of_ble_eq_true rfl⟩) 9 (ci := 8) (T := TX5) (N := 6) rfl rfl rfl hl.1 rfl (Nat.le_of_ble_eq_true rfl) dX6_readChoice_108 ⟨Nat.le_of_ble_eq_true rfl, Nat.le_of_ble_eq_true rfl⟩ (fun u137 u138 u139 u140 H locs ce q hp hw h1 h2 h3 => by obtain ⟨ht0, ht1, ht2, ht3⟩ := hp; have e_g23_18 : g23 18 = (g 18) := ((h28 18 rfl)).trans (h12 18 rfl); exact kt _ _ _ _ _ _ _ _ _ _ _ ⟨(hk_frT (hk_frT (hk_frT hk_fr0 (by decide) h12) (by decide) h28) (by decide) ht0), (hk_frT (hk_frT h13 (by decide) h29) (by decide) ht1), (hk_frT (hk_frT (hk_frT hk_fr0 (by decide) h14) (by decide) h30) (by decide) ht2), (ob328 ((u137 14).toInt) (hE_rng (u137 14)))⟩ hw h1 h2 h3) (fun r141 g142 l143 a144 b145 H locs hp146 hw => ?_)
          obtain ⟨h147, h148, h149, h150⟩ := hp146
          refine lv_istore (lv' := [(4, .int r141), (5, .long r22), (0, .ref (ad 25)), (1, .int y1), (2, .int z1), (3, .int r6)]) hx hb dX6_readChoice_111 hl (by decide) rfl (fun ls hl => ?_)
          exact B32 r141 r22 g142 l143 a144 ls _ _ (ob332 ((r141).toInt) h150 (hE_rng (r141))) (ob328 ((g142 14).toInt) (hE_rng (g142 14))) h147 h148 h149 hw (lv_sub hl [2, 3, 5, 0, 1] rfl)
      · refine lv_aload_n hx hb dX6_readChoice_64 rfl (lv_at hl 1 rfl) ?_
        refine hk_get (ci := 9) (C := RX6) (T := TX6) (N := 16) (v := .ref (ad 9)) hx hb hts (fun _ h => List.mem_cons_of_mem _ (wwXc_wsX60 _ h)) hown hw 25 rfl rfl 2 (by decide) (hq _ wX_413) rfl dX6_readChoice_65 ?_
        refine lv_sipush (v := 1024) hx hb dX6_readChoice_68 (by decide) ?_
        refine lv_iconst (v := 0) hx hb dX6_readChoice_71 (by decide) ?_
        refine lv_iload_n hx hb dX6_readChoice_72 rfl (lv_at hl 3 rfl) ?_
        refine jx_Vi (As := [.int 1024, .int 0, .int z1]) (rest := []) ⟨hx, hb, hml, hown, hts⟩ hZ hw hA (jx_X5_codeLength l hlt D t3 cI cJ ad g23 l24 a25 b26 _ 1024 0 z1 hr31) (cwV 3 hts (jx_gV wwX_good wX_475 wX_476 wX_477 wX_215 wX_478) rfl rfl rfl (by decide +kernel) ⟨Nat.le_of_ble_eq_true rfl, Nat.le_of_ble_eq_true rfl⟩) 9 (ci := 8) (T := TX5) (N := 6) rfl rfl rfl hl.1 rfl (Nat.le_of_ble_eq_true rfl) dX6_readChoice_73 ⟨Nat.le_of_ble_eq_true rfl, Nat.le_of_ble_eq_true rfl⟩ (fun u151 u152 u153 u154 H locs ce q hp hw h1 h2 h3 => by obtain ⟨ht0, ht1, ht2, ht3⟩ := hp; have e_g23_18 : g23 18 = (g 18) := ((h28 18 rfl)).trans (h12 18 rfl); exact kt _ _ _ _ _ _ _ _ _ _ _ ⟨(hk_frT (hk_frT (hk_frT hk_fr0 (by decide) h12) (by decide) h28) (by decide) ht0), (hk_frT (hk_frT h13 (by decide) h29) (by decide) ht1), (hk_frT (hk_frT (hk_frT hk_fr0 (by decide) h14) (by decide) h30) (by decide) ht2), (ob328 ((u151 14).toInt) (hE_rng (u151 14)))⟩ hw h1 h2 h3) (fun r155 g156 l157 a158 b159 H locs hp160 hw => ?_)
        obtain ⟨h161, h162, h163, h164⟩ := hp160
        refine lv_istore (lv' := [(4, .int r155), (5, .long r22), (0, .ref (ad 25)), (1, .int y1), (2, .int z1), (3, .int r6)]) hx hb dX6_readChoice_76 hl (by decide) rfl (fun ls hl => ?_)
        refine lv_aload_n hx hb dX6_readChoice_78 rfl (lv_at hl 2 rfl) ?_
        refine hk_get (ci := 9) (C := RX6) (T := TX6) (N := 16) (v := .ref (ad 9)) hx hb hts (fun _ h => List.mem_cons_of_mem _ (wwXc_wsX60 _ h)) hown hw 25 rfl rfl 2 (by decide) (hq _ wX_413) rfl dX6_readChoice_79 ?_
        refine lv_lconst (v := 0) hx hb dX6_readChoice_82 (by decide) ?_
        refine lv_iload hx hb dX6_readChoice_83 (lv_at hl 0 rfl) ?_
        refine jx_Vl (As := [.long 0, .int r155]) (rest := []) ⟨hx, hb, hml, hown, hts⟩ hZ hw hA (jx_X5_codeFar l hlt D t3 cI cJ ad g156 l157 a158 b159 _ 0 r155 (hk_pE (P := hk_rg 0 255) hr31 (h163 0 rfl))) (cwV 2 hts (jx_gV wwX_good wX_479 wX_480 wX_481 wX_215 wX_482) rfl rfl rfl (by decide +kernel) ⟨Nat.le_of_ble_eq_true rfl, Nat.le_of_ble_eq_true rfl⟩) 9 (ci := 8) (T := TX5) (N := 6) rfl rfl rfl hl.1 rfl (Nat.le_of_ble_eq_true rfl) dX6_readChoice_85 ⟨Nat.le_of_ble_eq_true rfl, Nat.le_of_ble_eq_true rfl⟩ (fun u165 u166 u167 u168 H locs ce q hp hw h1 h2 h3 => by obtain ⟨ht0, ht1, ht2, ht3⟩ := hp; have e_g156_18 : g156 18 = (g 18) := ((h161 18 rfl)).trans e_g23_18; exact kt _ _ _ _ _ _ _ _ _ _ _ ⟨(hk_frT (hk_frT (hk_frT (hk_frT hk_fr0 (by decide) h12) (by decide) h28) (by decide) h161) (by decide) ht0), (hk_frT (hk_frT (hk_frT h13 (by decide) h29) (by decide) h162) (by decide) ht1), (hk_frT (hk_frT (hk_frT (hk_frT hk_fr0 (by decide) h14) (by decide) h30) (by decide) h163) (by decide) ht2), (ob328 ((u165 14).toInt) (hE_rng (u165 14)))⟩ hw h1 h2 h3) (fun r169 g170 l171 a172 b173 H locs hp174 hw => ?_)
        obtain ⟨h175, h176, h177⟩ := hp174
        have hr178 : hk_rg 0 255 (a172 0) := (hk_pE (P := hk_rg 0 255) (hk_pE (P := hk_rg 0 255) hr31 (h163 0 rfl)) (h177 0 rfl))
        refine lv_lstore (lv' := [(5, .long r169), (4, .int r155), (0, .ref (ad 25)), (1, .int y1), (2, .int z1), (3, .int r6)]) hx hb dX6_readChoice_88 hl (by decide) rfl (fun ls hl => ?_)
        refine lv_goto (tgt := 113) hx hb dX6_readChoice_90 (by decide) ?_
        exact B32 r155 r169 g170 l171 a172 ls _ _ (ob332 ((r155).toInt) h164 (hE_rng (r155))) (ob328 ((g170 14).toInt) (hE_rng (g170 14))) (hk_frT h161 (by decide) h175) (hk_frT h162 (by decide) h176) (hk_frT h163 (by decide) h177) hw (lv_sub hl [2, 3, 5, 1, 0] rfl)
    refine lv_icmp_ne (tgt := 51) hx hb dX6_readChoice_44 (by decide) (fun cc179 => ?_) (fun cc179 => ?_)
    · refine lv_iload_n hx hb dX6_readChoice_51 rfl (lv_at hl 1 rfl) ?_
      refine lv_iconst (v := 2) hx hb dX6_readChoice_52 (by decide) ?_
      refine lv_isub hx hb dX6_readChoice_53 (jx_nm fun z180 hz180 => ?_)
      exact B16 z180 ls _ _ hw (lv_sub hl [3, 4, 2, 1, 0] rfl)
    · refine lv_iconst (v := 0) hx hb dX6_readChoice_47 (by decide) ?_
      refine lv_goto (tgt := 54) hx hb dX6_readChoice_48 (by decide) ?_
      exact B16 0 ls _ _ hw (lv_sub hl [3, 4, 2, 1, 0] rfl)
  · refine lv_aload_n hx hb dX6_readChoice_27 rfl (lv_at hl 2 rfl) ?_
    refine lv_iload_n hx hb dX6_readChoice_28 rfl (lv_at hl 1 rfl) ?_
    refine jx_Vv (As := [.int z1]) (rest := []) ⟨hx, hb, hml, hown, hts⟩ hZ hw hA (jx_X6_readLiteral l hlt D t3 cI cJ ad g7 l8 a9 b10 _ z1 (ob328 ((g7 14).toInt) (hE_rng (g7 14))) (hk_pE (P := hk_rg 0 255) hi_a0rg (h14 0 rfl))) (cwV 1 hts (jx_gV wwX_good wX_470 wX_471 wX_472 wX_441 wX_473) rfl rfl rfl (by decide +kernel) ⟨Nat.le_of_ble_eq_true rfl, Nat.le_of_ble_eq_true rfl⟩) 25 (ci := 9) (T := TX6) (N := 16) rfl rfl rfl hl.1 rfl (Nat.le_of_ble_eq_true rfl) dX6_readChoice_29 ⟨Nat.le_of_ble_eq_true rfl, Nat.le_of_ble_eq_true rfl⟩ (fun u181 u182 u183 u184 H locs ce q hp hw h1 h2 h3 => by obtain ⟨ht0, ht1, ht2, ht3⟩ := hp; exact kt _ _ _ _ _ _ _ _ _ _ _ ⟨(hk_frT (hk_frT hk_fr0 (by decide) h12) (by decide) ht0), (hk_frT h13 (by decide) ht1), (hk_frT (hk_frT hk_fr0 (by decide) h14) (by decide) ht2), (ob347 ((u181 14).toInt) ht3 (hE_rng (u181 14)))⟩ hw h1 h2 h3) (fun g186 l187 a188 b189 H locs hp190 hw => ?_)
    obtain ⟨h191, h192, h193, h194⟩ := hp190
    have hr195 : hk_rg 0 255 (a188 0) := (hk_pE (P := hk_rg 0 255) (hk_pE (P := hk_rg 0 255) hi_a0rg (h14 0 rfl)) (h193 0 rfl))
    refine lv_iconst (v := 0) hx hb dX6_readChoice_32 (by decide) ?_
    exact kr 0 g186 l187 a188 b189 _ _ _ _ rfl ⟨(hk_frT (hk_frT hk_fr0 (by decide) h12) (by decide) h191), (hk_frT h13 (by decide) h192), (hk_frT (hk_frT hk_fr0 (by decide) h14) (by decide) h193), (ob347 ((g186 14).toInt) h194 (hE_rng (g186 14)))⟩ hw dX6_readChoice_33

set_option maxHeartbeats 4000000 in
set_option maxRecDepth 100000 in
/-- X6_readBits on (25,) -/
theorem jx_X6_readBits (l : Launch) (hlt : l.stackTraces = false) (D : va_G) (t3 : Nat × Nat × Nat) (cI cJ : ClassId) (ad : Nat → Nat) (g : Nat → Int32) (lg : Nat → Int64) (ar : Nat → Nat → Int32) (bk : Nat → Int64) (sz : Nat) (y1 : Int32) (hi_g14 : 0 ≤ (g 14).toInt ∧ (g 14).toInt ≤ 3000) (hi_a0rg : hk_rg 0 255 (ar 0)) : JMv l yX6_readBits (Cond.code yX6_readBits cX6_readBits 4 none :: wwX) { frames := 11, cells := 1, slots := 6, locals := 214 } t3 D xw cI cJ ad [.ref (ad 25), .int y1] (xw cI cJ ad g lg ar bk) sz 1 6 (fun g' lg' ar' bk' => hk_fr [14, 15, 17, 18, 19, 20, 24, 25] g g' ∧ hk_fr [0, 1, 2] lg lg' ∧ hk_fr [1, 2, 6] ar ar' ∧ (0 ≤ (g' 14).toInt ∧ (g' 14).toInt ≤ 3000)) (fun g' lg' ar' bk' => hk_fr [14, 15, 17, 18, 19, 20, 24, 25] g g' ∧ hk_fr [0, 1, 2] lg lg' ∧ hk_fr [1, 2, 6] ar ar' ∧ (0 ≤ (g' 14).toInt ∧ (g' 14).toInt ≤ 3000)) := by
  refine jx_metv (cc := cX6_readBits) (maxL := 4) (ret := none) rfl (by decide) rfl (Nat.le_of_ble_eq_true rfl) ?_
  intro p e s m args below meth c ls Q A hx hb hml hown hts hA hZ hw hl hQ kr kt
  have hq : ∀ w ∈ wwX, w.before args s = true := fun w h => hts w (List.mem_cons_of_mem _ h)
  have hl : lv_has ls 4 [(0, .ref (ad 25)), (1, .int y1)] := hl
  refine lv_aload_n hx hb dX6_readBits_0 rfl (lv_at hl 0 rfl) ?_
  refine hk_get (ci := 9) (C := RX6) (T := TX6) (N := 16) (v := .ref (ad 9)) hx hb hts (fun _ h => List.mem_cons_of_mem _ (wwXc_wsX60 _ h)) hown hw 25 rfl rfl 2 (by decide) (hq _ wX_413) rfl dX6_readBits_1 ?_
  refine hk_get (ci := 8) (C := RX5) (T := TX5) (N := 6) (v := .ref (ad 7)) hx hb hts (fun _ h => List.mem_cons_of_mem _ (wwXc_wsX50 _ h)) hown hw 9 rfl rfl 0 (by decide) (hq _ wX_426) rfl dX6_readBits_4 ?_
  refine jx_Vv (As := []) (rest := []) ⟨hx, hb, hml, hown, hts⟩ hZ hw hA (jx_X2_beginOpening l hlt D t3 cI cJ ad g lg ar bk _ hi_a0rg) (cwV 0 hts (jx_gV wwX_good wX_458 wX_459 wX_460 wX_270 wX_461) rfl rfl rfl (by decide +kernel) ⟨Nat.le_of_ble_eq_true rfl, Nat.le_of_ble_eq_true rfl⟩) 7 (ci := 5) (T := TX2) (N := 9) rfl rfl rfl hl.1 rfl (Nat.le_of_ble_eq_true rfl) dX6_readBits_7 ⟨Nat.le_of_ble_eq_true rfl, Nat.le_of_ble_eq_true rfl⟩ (fun u1 u2 u3 u4 H locs ce q hp hw h1 h2 h3 => by obtain ⟨ht0, ht1, ht2⟩ := hp; have e_u1_14 : u1 14 = (g 14) := (ht0 14 rfl); exact kt _ _ _ _ _ _ _ _ _ _ _ ⟨(hk_frT hk_fr0 (by decide) ht0), (hk_frT hk_fr0 (by decide) ht1), (hk_frT hk_fr0 (by decide) ht2), (ob333 ((u1 14).toInt) ((g 14).toInt) (congrArg Int32.toInt e_u1_14) hi_g14 (hE_rng (u1 14)) (hE_rng (g 14)))⟩ hw h1 h2 h3) (fun g6 l7 a8 b9 H locs hp10 hw => ?_)
  obtain ⟨h11, h12, h13⟩ := hp10
  refine lv_iconst (v := 0) hx hb dX6_readBits_10 (by decide) ?_
  refine lv_istore_n (lv' := [(2, .int 0), (0, .ref (ad 25)), (1, .int y1)]) hx hb dX6_readBits_11 rfl hl (by decide) rfl (fun ls hl => ?_)
  refine lv_iconst (v := 0) hx hb dX6_readBits_12 (by decide) ?_
  refine lv_istore_n (lv' := [(3, .int 0), (2, .int 0), (0, .ref (ad 25)), (1, .int y1)]) hx hb dX6_readBits_13 rfl hl (by decide) rfl (fun ls hl => ?_)
  have B14 : ∀ (k21 : Nat) (x15 : Int32) (x16 : Int32) (g17 : Nat → Int32) (l18 : Nat → Int64) (a19 : Nat → Nat → Int32) (b20 : Nat → Int64) (ls : Array Slot) (H : Heap) (locs : List Loc), 2147483648 - (x16).toInt ≤ (k21 : Int) → 0 ≤ (x16).toInt → 0 ≤ (g17 14).toInt ∧ (g17 14).toInt ≤ 3000 → hk_fr [14, 15, 17, 19, 20, 24, 25] g6 g17 → hk_fr [0, 1, 2] l7 l18 → hk_fr [1, 2, 6] a8 a19 → hk_W D (jT cI cJ) A s H locs (xw cI cJ ad g17 l18 a19 b20) → lv_has ls 4 [(0, .ref (ad 25)), (1, .int y1), (2, .int x15), (3, .int x16)] → W p l e { frames := 11, cells := 1, slots := 6, locals := 214 } s m args below meth c H locs 0 0 Q (F0 m 14 ls []) := by
    intro k21
    induction k21 with
    | zero =>
      intro x15 x16 g17 l18 a19 b20 ls H locs hrk_B14 hf_B14_0 hf_B14_1 hfr_g17 hfr_l18 hfr_a19 hw hl
      exact False.elim (hk_no0 (0 * (x16).toInt) (ob5 ((x16).toInt) hf_B14_0 hrk_B14 (hE_rng (x16))) (by simp))
    | succ k21 ih_B14 =>
      intro x15 x16 g17 l18 a19 b20 ls H locs hrk_B14 hf_B14_0 hf_B14_1 hfr_g17 hfr_l18 hfr_a19 hw hl
      have hrk_B14 := hk_rk hrk_B14
      refine lv_iload_n hx hb dX6_readBits_14 rfl (lv_at hl 3 rfl) ?_
      refine lv_sipush (v := 3000) hx hb dX6_readBits_15 (by decide) ?_
      refine lv_icmp_gt (tgt := 52) hx hb dX6_readBits_18 (by decide) (fun cc22 => ?_) (fun cc22 => ?_)
      · exact kr g17 l18 a19 b20 _ _ _ _ ⟨(hk_frT (hk_frT hk_fr0 (by decide) h11) (by decide) hfr_g17), (hk_frT (hk_frT hk_fr0 (by decide) h12) (by decide) hfr_l18), (hk_frT (hk_frT hk_fr0 (by decide) h13) (by decide) hfr_a19), (ob347 ((g17 14).toInt) hf_B14_1 (hE_rng (g17 14)))⟩ hw dX6_readBits_52
      · refine lv_iload_n hx hb dX6_readBits_21 rfl (lv_at hl 2 rfl) ?_
        refine lv_if_ne (tgt := 52) hx hb dX6_readBits_22 (by decide) (fun cc23 => ?_) (fun cc23 => ?_)
        · exact kr g17 l18 a19 b20 _ _ _ _ ⟨(hk_frT (hk_frT hk_fr0 (by decide) h11) (by decide) hfr_g17), (hk_frT (hk_frT hk_fr0 (by decide) h12) (by decide) hfr_l18), (hk_frT (hk_frT hk_fr0 (by decide) h13) (by decide) hfr_a19), (ob347 ((g17 14).toInt) hf_B14_1 (hE_rng (g17 14)))⟩ hw dX6_readBits_52
        · refine lv_iload_n hx hb dX6_readBits_25 rfl (lv_at hl 1 rfl) ?_
          have B24 : ∀  (ls : Array Slot) (H : Heap) (locs : List Loc), hk_W D (jT cI cJ) A s H locs (xw cI cJ ad g17 l18 a19 b20) → lv_has ls 4 [(0, .ref (ad 25)), (1, .int y1), (3, .int x16)] → W p l e { frames := 11, cells := 1, slots := 6, locals := 214 } s m args below meth c H locs 0 0 Q (F0 m 40 ls []) := by
            intro ls H locs hw hl
            refine lv_aload_n hx hb dX6_readBits_40 rfl (lv_at hl 0 rfl) ?_
            refine lv_iload_n hx hb dX6_readBits_41 rfl (lv_at hl 1 rfl) ?_
            refine jx_Vi (As := [.int y1]) (rest := []) ⟨hx, hb, hml, hown, hts⟩ hZ hw hA (jx_X6_readChoice l hlt D t3 cI cJ ad g17 l18 a19 b20 _ y1 (ob347 ((g17 14).toInt) hf_B14_1 (hE_rng (g17 14))) (hk_pE (P := hk_rg 0 255) (hk_pE (P := hk_rg 0 255) hi_a0rg (h13 0 rfl)) (hfr_a19 0 rfl))) (cwV 1 hts (jx_gV wwX_good wX_462 wX_463 wX_464 wX_441 wX_465) rfl rfl rfl (by decide +kernel) ⟨Nat.le_of_ble_eq_true rfl, Nat.le_of_ble_eq_true rfl⟩) 25 (ci := 9) (T := TX6) (N := 16) rfl rfl rfl hl.1 rfl (Nat.le_of_ble_eq_true rfl) dX6_readBits_42 ⟨Nat.le_of_ble_eq_true rfl, Nat.le_of_ble_eq_true rfl⟩ (fun u25 u26 u27 u28 H locs ce q hp hw h1 h2 h3 => by obtain ⟨ht0, ht1, ht2, ht3⟩ := hp; exact kt _ _ _ _ _ _ _ _ _ _ _ ⟨(hk_frT (hk_frT (hk_frT hk_fr0 (by decide) h11) (by decide) hfr_g17) (by decide) ht0), (hk_frT (hk_frT (hk_frT hk_fr0 (by decide) h12) (by decide) hfr_l18) (by decide) ht1), (hk_frT (hk_frT (hk_frT hk_fr0 (by decide) h13) (by decide) hfr_a19) (by decide) ht2), (ob347 ((u25 14).toInt) ht3 (hE_rng (u25 14)))⟩ hw h1 h2 h3) (fun r29 g30 l31 a32 b33 H locs hp34 hw => ?_)
            obtain ⟨h35, h36, h37, h38⟩ := hp34
            have hr39 : hk_rg 0 255 (a32 0) := (hk_pE (P := hk_rg 0 255) (hk_pE (P := hk_rg 0 255) (hk_pE (P := hk_rg 0 255) hi_a0rg (h13 0 rfl)) (hfr_a19 0 rfl)) (h37 0 rfl))
            refine lv_istore_n (lv' := [(2, .int r29), (0, .ref (ad 25)), (1, .int y1), (3, .int x16)]) hx hb dX6_readBits_45 rfl hl (by decide) rfl (fun ls hl => ?_)
            obtain ⟨z40, hz40⟩ : ∃ z : Int32, x16 + 1 = z := ⟨_, rfl⟩
            refine lv_iinc (v := z40) (lv' := [(3, .int z40), (2, .int r29), (0, .ref (ad 25)), (1, .int y1)]) hx hb dX6_readBits_46 hl (k := 3) rfl hz40 (by decide) rfl (fun ls hl => ?_)
            refine lv_goto (tgt := 14) hx hb dX6_readBits_49 (by decide) ?_
            exact ih_B14 r29 z40 g30 l31 a32 b33 ls _ _ (ob348 ((z40).toInt) (k21 : Int) ((x16).toInt) (((1 : Int32)).toInt) (((3000 : Int32)).toInt) hrk_B14 (hE_add hz40) hf_B14_0 (hE_nlt cc22) (hE_rng (z40)) (hE_rng (x16)) (by decide) (by decide)) (ob349 ((z40).toInt) ((x16).toInt) (((1 : Int32)).toInt) (k21 : Int) (((3000 : Int32)).toInt) (hE_add hz40) hf_B14_0 hrk_B14 (hE_nlt cc22) (hE_rng (z40)) (hE_rng (x16)) (by decide) (by decide)) (ob347 ((g30 14).toInt) h38 (hE_rng (g30 14))) (hk_frT hfr_g17 (by decide) h35) (hk_frT hfr_l18 (by decide) h36) (hk_frT hfr_a19 (by decide) h37) hw (lv_sub hl [2, 3, 1, 0] rfl)
          refine lv_if_lt (tgt := 40) hx hb dX6_readBits_26 (by decide) (fun cc41 => ?_) (fun cc41 => ?_)
          · exact B24 ls _ _ hw (lv_sub hl [0, 1, 3] rfl)
          · refine lv_aload_n hx hb dX6_readBits_29 rfl (lv_at hl 0 rfl) ?_
            refine hk_get (ci := 9) (C := RX6) (T := TX6) (N := 16) (v := .ref (ad 4)) hx hb hts (fun _ h => List.mem_cons_of_mem _ (wwXc_wsX60 _ h)) hown hw 25 rfl rfl 1 (by decide) (hq _ wX_410) rfl dX6_readBits_30 ?_
            refine hk_get (ci := 12) (C := RX9) (T := TX9) (N := 2) (v := .int (g17 14)) hx hb hts (fun _ h => List.mem_cons_of_mem _ (wwXc_wsX90 _ h)) hown hw 4 rfl rfl 1 (by decide) (hq _ wX_402) rfl dX6_readBits_33 ?_
            refine lv_iload_n hx hb dX6_readBits_36 rfl (lv_at hl 1 rfl) ?_
            refine lv_icmp_ge (tgt := 52) hx hb dX6_readBits_37 (by decide) (fun cc42 => ?_) (fun cc42 => ?_)
            · exact kr g17 l18 a19 b20 _ _ _ _ ⟨(hk_frT (hk_frT hk_fr0 (by decide) h11) (by decide) hfr_g17), (hk_frT (hk_frT hk_fr0 (by decide) h12) (by decide) hfr_l18), (hk_frT (hk_frT hk_fr0 (by decide) h13) (by decide) hfr_a19), (ob350 ((g17 14).toInt) ((y1).toInt) (((0 : Int32)).toInt) ((x15).toInt) hf_B14_1 (hE_le cc42) (hE_nlt cc41) (hE_eq cc23) (hE_rng (g17 14)) (hE_rng (y1)) (by decide) (hE_rng (x15)))⟩ hw dX6_readBits_52
            · exact B24 ls _ _ hw (lv_sub hl [0, 1, 3] rfl)
  have e_g6_14 : g6 14 = (g 14) := (h11 14 rfl)
  exact B14 (2147483648 - ((0 : Int32)).toInt).toNat 0 0 g6 l7 a8 b9 ls _ _ (Int.self_le_toNat _) (ob10 (((0 : Int32)).toInt) (by decide)) (ob333 ((g6 14).toInt) ((g 14).toInt) (congrArg Int32.toInt e_g6_14) hi_g14 (hE_rng (g6 14)) (hE_rng (g 14))) hk_fr0 hk_fr0 hk_fr0 hw (lv_sub hl [2, 3, 1, 0] rfl)

set_option maxHeartbeats 4000000 in
set_option maxRecDepth 100000 in
/-- X6_readLateMark on (25,) -/
theorem jx_X6_readLateMark (l : Launch) (hlt : l.stackTraces = false) (D : va_G) (t3 : Nat × Nat × Nat) (cI cJ : ClassId) (ad : Nat → Nat) (g : Nat → Int32) (lg : Nat → Int64) (ar : Nat → Nat → Int32) (bk : Nat → Int64) (sz : Nat) (hi_g14 : 0 ≤ (g 14).toInt ∧ (g 14).toInt ≤ 3000) (hi_a0rg : hk_rg 0 255 (ar 0)) : JMv l yX6_readLateMark (Cond.code yX6_readLateMark cX6_readLateMark 5 none :: wwX) { frames := 10, cells := 1, slots := 6, locals := 187 } t3 D xw cI cJ ad [.ref (ad 25)] (xw cI cJ ad g lg ar bk) sz 1 6 (fun g' lg' ar' bk' => hk_fr [14, 15, 17, 19, 20, 24, 25] g g' ∧ hk_fr [0, 1, 2] lg lg' ∧ hk_fr [1, 2, 6] ar ar' ∧ (0 ≤ (g' 14).toInt ∧ (g' 14).toInt ≤ 3000)) (fun g' lg' ar' bk' => hk_fr [14, 15, 17, 19, 20, 24, 25] g g' ∧ hk_fr [0, 1, 2] lg lg' ∧ hk_fr [1, 2, 6] ar ar' ∧ (0 ≤ (g' 14).toInt ∧ (g' 14).toInt ≤ 3000)) := by
  refine jx_metv (cc := cX6_readLateMark) (maxL := 5) (ret := none) rfl (by decide) rfl (Nat.le_of_ble_eq_true rfl) ?_
  intro p e s m args below meth c ls Q A hx hb hml hown hts hA hZ hw hl hQ kr kt
  have hq : ∀ w ∈ wwX, w.before args s = true := fun w h => hts w (List.mem_cons_of_mem _ h)
  have hl : lv_has ls 5 [(0, .ref (ad 25))] := hl
  refine lv_aload_n hx hb dX6_readLateMark_0 rfl (lv_at hl 0 rfl) ?_
  refine hk_get (ci := 9) (C := RX6) (T := TX6) (N := 16) (v := .ref (ad 4)) hx hb hts (fun _ h => List.mem_cons_of_mem _ (wwXc_wsX60 _ h)) hown hw 25 rfl rfl 1 (by decide) (hq _ wX_410) rfl dX6_readLateMark_1 ?_
  refine hk_get (ci := 12) (C := RX9) (T := TX9) (N := 2) (v := .int (g 14)) hx hb hts (fun _ h => List.mem_cons_of_mem _ (wwXc_wsX90 _ h)) hown hw 4 rfl rfl 1 (by decide) (hq _ wX_402) rfl dX6_readLateMark_4 ?_
  refine lv_aload_n hx hb dX6_readLateMark_7 rfl (lv_at hl 0 rfl) ?_
  refine hk_get (ci := 9) (C := RX6) (T := TX6) (N := 16) (v := .int (g 43)) hx hb hts (fun _ h => List.mem_cons_of_mem _ (wwXc_wsX60 _ h)) hown hw 25 rfl rfl 9 (by decide) (hq _ wX_422) rfl dX6_readLateMark_8 ?_
  refine lv_isub hx hb dX6_readLateMark_11 (jx_nm fun z1 hz1 => ?_)
  refine lv_istore_n (lv' := [(1, .int z1), (0, .ref (ad 25))]) hx hb dX6_readLateMark_12 rfl hl (by decide) rfl (fun ls hl => ?_)
  refine lv_aload_n hx hb dX6_readLateMark_13 rfl (lv_at hl 1 rfl) ?_
  refine hk_get (ci := 9) (C := RX6) (T := TX6) (N := 16) (v := .ref (ad 9)) hx hb hts (fun _ h => List.mem_cons_of_mem _ (wwXc_wsX60 _ h)) hown hw 25 rfl rfl 2 (by decide) (hq _ wX_413) rfl dX6_readLateMark_14 ?_
  refine lv_iload_n hx hb dX6_readLateMark_17 rfl (lv_at hl 0 rfl) ?_
  refine jx_Vi (As := [.int z1]) (rest := []) ⟨hx, hb, hml, hown, hts⟩ hZ hw hA (jx_X5_codeMatch l hlt D t3 cI cJ ad g lg ar bk _ z1 hi_a0rg) (cwV 1 hts (jx_gV wwX_good wX_547 wX_548 wX_549 wX_215 wX_550) rfl rfl rfl (by decide +kernel) ⟨Nat.le_of_ble_eq_true rfl, Nat.le_of_ble_eq_true rfl⟩) 9 (ci := 8) (T := TX5) (N := 6) rfl rfl rfl hl.1 rfl (Nat.le_of_ble_eq_true rfl) dX6_readLateMark_18 ⟨Nat.le_of_ble_eq_true rfl, Nat.le_of_ble_eq_true rfl⟩ (fun u2 u3 u4 u5 H locs ce q hp hw h1 h2 h3 => by obtain ⟨ht0, ht1, ht2, ht3⟩ := hp; exact kt _ _ _ _ _ _ _ _ _ _ _ ⟨(hk_frT hk_fr0 (by decide) ht0), ht1, (hk_frT hk_fr0 (by decide) ht2), (ob328 ((u2 14).toInt) (hE_rng (u2 14)))⟩ hw h1 h2 h3) (fun r6 g7 l8 a9 b10 H locs hp11 hw => ?_)
  obtain ⟨h12, h13, h14⟩ := hp11
  have B15 : ∀  (g16 : Nat → Int32) (ls : Array Slot) (H : Heap) (locs : List Loc), hk_fr [17] g7 g16 → hk_W D (jT cI cJ) A s H locs (xw cI cJ ad g16 l8 a9 b10) → lv_has ls 5 [(0, .ref (ad 25)), (1, .int z1)] → W p l e { frames := 10, cells := 1, slots := 6, locals := 187 } s m args below meth c H locs 0 0 Q (F0 m 33 ls []) := by
    intro g16 ls H locs hfr_g16 hw hl
    refine lv_aload_n hx hb dX6_readLateMark_33 rfl (lv_at hl 0 rfl) ?_
    refine hk_get (ci := 9) (C := RX6) (T := TX6) (N := 16) (v := .ref (ad 9)) hx hb hts (fun _ h => List.mem_cons_of_mem _ (wwXc_wsX60 _ h)) hown hw 25 rfl rfl 2 (by decide) (hq _ wX_413) rfl dX6_readLateMark_34 ?_
    refine lv_sipush (v := 1024) hx hb dX6_readLateMark_37 (by decide) ?_
    refine lv_iconst (v := 0) hx hb dX6_readLateMark_40 (by decide) ?_
    refine lv_iload_n hx hb dX6_readLateMark_41 rfl (lv_at hl 1 rfl) ?_
    refine jx_Vi (As := [.int 1024, .int 0, .int z1]) (rest := []) ⟨hx, hb, hml, hown, hts⟩ hZ hw hA (jx_X5_codeLength l hlt D t3 cI cJ ad g16 l8 a9 b10 _ 1024 0 z1 (hk_pE (P := hk_rg 0 255) hi_a0rg (h14 0 rfl))) (cwV 3 hts (jx_gV wwX_good wX_475 wX_476 wX_477 wX_215 wX_478) rfl rfl rfl (by decide +kernel) ⟨Nat.le_of_ble_eq_true rfl, Nat.le_of_ble_eq_true rfl⟩) 9 (ci := 8) (T := TX5) (N := 6) rfl rfl rfl hl.1 rfl (Nat.le_of_ble_eq_true rfl) dX6_readLateMark_42 ⟨Nat.le_of_ble_eq_true rfl, Nat.le_of_ble_eq_true rfl⟩ (fun u17 u18 u19 u20 H locs ce q hp hw h1 h2 h3 => by obtain ⟨ht0, ht1, ht2, ht3⟩ := hp; have e_g16_18 : g16 18 = (g 18) := ((hfr_g16 18 rfl)).trans (h12 18 rfl); exact kt _ _ _ _ _ _ _ _ _ _ _ ⟨(hk_frT (hk_frT (hk_frT hk_fr0 (by decide) h12) (by decide) hfr_g16) (by decide) ht0), (hk_frT h13 (by decide) ht1), (hk_frT (hk_frT hk_fr0 (by decide) h14) (by decide) ht2), (ob328 ((u17 14).toInt) (hE_rng (u17 14)))⟩ hw h1 h2 h3) (fun r21 g22 l23 a24 b25 H locs hp26 hw => ?_)
    obtain ⟨h27, h28, h29, h30⟩ := hp26
    have hr31 : hk_rg 0 255 (a24 0) := (hk_pE (P := hk_rg 0 255) (hk_pE (P := hk_rg 0 255) hi_a0rg (h14 0 rfl)) (h29 0 rfl))
    refine lv_istore_n (lv' := [(2, .int r21), (0, .ref (ad 25)), (1, .int z1)]) hx hb dX6_readLateMark_45 rfl hl (by decide) rfl (fun ls hl => ?_)
    refine lv_aload_n hx hb dX6_readLateMark_46 rfl (lv_at hl 1 rfl) ?_
    refine hk_get (ci := 9) (C := RX6) (T := TX6) (N := 16) (v := .ref (ad 9)) hx hb hts (fun _ h => List.mem_cons_of_mem _ (wwXc_wsX60 _ h)) hown hw 25 rfl rfl 2 (by decide) (hq _ wX_413) rfl dX6_readLateMark_47 ?_
    refine lv_lconst (v := 0) hx hb dX6_readLateMark_50 (by decide) ?_
    refine lv_iload_n hx hb dX6_readLateMark_51 rfl (lv_at hl 0 rfl) ?_
    refine jx_Vl (As := [.long 0, .int r21]) (rest := []) ⟨hx, hb, hml, hown, hts⟩ hZ hw hA (jx_X5_codeFar l hlt D t3 cI cJ ad g22 l23 a24 b25 _ 0 r21 hr31) (cwV 2 hts (jx_gV wwX_good wX_479 wX_480 wX_481 wX_215 wX_482) rfl rfl rfl (by decide +kernel) ⟨Nat.le_of_ble_eq_true rfl, Nat.le_of_ble_eq_true rfl⟩) 9 (ci := 8) (T := TX5) (N := 6) rfl rfl rfl hl.1 rfl (Nat.le_of_ble_eq_true rfl) dX6_readLateMark_52 ⟨Nat.le_of_ble_eq_true rfl, Nat.le_of_ble_eq_true rfl⟩ (fun u32 u33 u34 u35 H locs ce q hp hw h1 h2 h3 => by obtain ⟨ht0, ht1, ht2, ht3⟩ := hp; have e_g22_18 : g22 18 = (g 18) := ((h27 18 rfl)).trans e_g16_18; exact kt _ _ _ _ _ _ _ _ _ _ _ ⟨(hk_frT (hk_frT (hk_frT (hk_frT hk_fr0 (by decide) h12) (by decide) hfr_g16) (by decide) h27) (by decide) ht0), (hk_frT (hk_frT h13 (by decide) h28) (by decide) ht1), (hk_frT (hk_frT (hk_frT hk_fr0 (by decide) h14) (by decide) h29) (by decide) ht2), (ob328 ((u32 14).toInt) (hE_rng (u32 14)))⟩ hw h1 h2 h3) (fun r36 g37 l38 a39 b40 H locs hp41 hw => ?_)
    obtain ⟨h42, h43, h44⟩ := hp41
    refine lv_lstore_n (lv' := [(3, .long r36), (2, .int r21), (0, .ref (ad 25)), (1, .int z1)]) hx hb dX6_readLateMark_55 rfl hl (by decide) rfl (fun ls hl => ?_)
    refine lv_aload_n hx hb dX6_readLateMark_56 rfl (lv_at hl 2 rfl) ?_
    refine hk_get (ci := 9) (C := RX6) (T := TX6) (N := 16) (v := .ref (ad 9)) hx hb hts (fun _ h => List.mem_cons_of_mem _ (wwXc_wsX60 _ h)) hown hw 25 rfl rfl 2 (by decide) (hq _ wX_413) rfl dX6_readLateMark_57 ?_
    refine lv_iconst (v := 1) hx hb dX6_readLateMark_60 (by decide) ?_
    refine lv_lload_n hx hb dX6_readLateMark_61 rfl (lv_at hl 0 rfl) ?_
    refine jx_Vv (As := [.int 1, .long r36]) (rest := []) ⟨hx, hb, hml, hown, hts⟩ hZ hw hA (jx_X5_follow l hlt D t3 cI cJ ad g37 l38 a39 b40 _ 1 r36) (cwV 2 hts (jx_gV wwX_good wX_483 wX_484 wX_485 wX_215 wX_486) rfl rfl rfl (by decide +kernel) ⟨Nat.le_of_ble_eq_true rfl, Nat.le_of_ble_eq_true rfl⟩) 9 (ci := 8) (T := TX5) (N := 6) rfl rfl rfl hl.1 rfl (Nat.le_of_ble_eq_true rfl) dX6_readLateMark_62 ⟨Nat.le_of_ble_eq_true rfl, Nat.le_of_ble_eq_true rfl⟩ (fun _ _ _ _ _ _ _ _ hp _ _ _ _ => hp.elim) (fun g50 l51 a52 b53 H locs hp54 hw => ?_)
    obtain ⟨h55, h56, h57⟩ := hp54
    have hr58 : hk_rg 0 255 (a52 0) := (hk_pE (P := hk_rg 0 255) (hk_pE (P := hk_rg 0 255) hr31 (h44 0 rfl)) (h57 0 rfl))
    refine lv_aload_n hx hb dX6_readLateMark_65 rfl (lv_at hl 2 rfl) ?_
    refine lv_lload_n hx hb dX6_readLateMark_66 rfl (lv_at hl 0 rfl) ?_
    refine lv_ldc2 (v := 4294967296) hx hb hown (hq _ wX_487) dX6_readLateMark_67 ?_
    have B59 : ∀  (x60 : Int32) (ls : Array Slot) (H : Heap) (locs : List Loc), 0 ≤ (x60).toInt ∧ (x60).toInt ≤ 1 → hk_W D (jT cI cJ) A s H locs (xw cI cJ ad g50 l51 a52 b53) → lv_has ls 5 [] → W p l e { frames := 10, cells := 1, slots := 6, locals := 187 } s m args below meth c H locs 0 0 Q (F0 m 79 ls [.int x60, .ref (ad 25)]) := by
      intro x60 ls H locs hf_B59_0 hw hl
      refine jx_Vv (As := [.int x60]) (rest := []) ⟨hx, hb, hml, hown, hts⟩ hZ hw hA (jx_X6_takeMark l hlt D t3 cI cJ ad g50 l51 a52 b53 _ x60) (cwV 1 hts (jx_gV wwX_good wX_488 wX_489 wX_490 wX_441 wX_491) rfl rfl rfl (by decide +kernel) ⟨Nat.le_of_ble_eq_true rfl, Nat.le_of_ble_eq_true rfl⟩) 25 (ci := 9) (T := TX6) (N := 16) rfl rfl rfl hl.1 rfl (Nat.le_of_ble_eq_true rfl) dX6_readLateMark_79 ⟨Nat.le_of_ble_eq_true rfl, Nat.le_of_ble_eq_true rfl⟩ (fun u61 u62 u63 u64 H locs ce q hp hw h1 h2 h3 => by obtain ⟨ht0, ht1, ht2⟩ := hp; have e_u61_14 : u61 14 = (g37 14) := ((ht0 14 rfl)).trans (h55 14 rfl); exact kt _ _ _ _ _ _ _ _ _ _ _ ⟨(hk_frT (hk_frT (hk_frT (hk_frT (hk_frT (hk_frT hk_fr0 (by decide) h12) (by decide) hfr_g16) (by decide) h27) (by decide) h42) (by decide) h55) (by decide) ht0), (hk_frT (hk_frT (hk_frT (hk_frT h13 (by decide) h28) (by decide) h43) (by decide) h56) (by decide) ht1), (hk_frT (hk_frT (hk_frT (hk_frT (hk_frT hk_fr0 (by decide) h14) (by decide) h29) (by decide) h44) (by decide) h57) (by decide) ht2), (ob346 ((u61 14).toInt) ((g37 14).toInt) (congrArg Int32.toInt e_u61_14) (hE_rng (u61 14)) (hE_rng (g37 14)))⟩ hw h1 h2 h3) (fun g66 l67 a68 b69 H locs hp70 hw => ?_)
      obtain ⟨h71, h72, h73⟩ := hp70
      have e_g66_14 : g66 14 = (g37 14) := ((h71 14 rfl)).trans (h55 14 rfl)
      exact kr g66 l67 a68 b69 _ _ _ _ ⟨(hk_frT (hk_frT (hk_frT (hk_frT (hk_frT (hk_frT hk_fr0 (by decide) h12) (by decide) hfr_g16) (by decide) h27) (by decide) h42) (by decide) h55) (by decide) h71), (hk_frT (hk_frT (hk_frT (hk_frT h13 (by decide) h28) (by decide) h43) (by decide) h56) (by decide) h72), (hk_frT (hk_frT (hk_frT (hk_frT (hk_frT hk_fr0 (by decide) h14) (by decide) h29) (by decide) h44) (by decide) h57) (by decide) h73), (ob346 ((g66 14).toInt) ((g37 14).toInt) (congrArg Int32.toInt e_g66_14) (hE_rng (g66 14)) (hE_rng (g37 14)))⟩ hw dX6_readLateMark_82
    refine hk_lcmp_ne (tgt := 78) hx hb dX6_readLateMark_70 dX6_readLateMark_71 (by decide) (fun cc74 => ?_) (fun cc74 => ?_)
    · refine lv_iconst (v := 0) hx hb dX6_readLateMark_78 (by decide) ?_
      exact B59 0 ls _ _ (ob36 (((0 : Int32)).toInt) (by decide)) hw (lv_sub hl [] rfl)
    · refine lv_iconst (v := 1) hx hb dX6_readLateMark_74 (by decide) ?_
      refine lv_goto (tgt := 79) hx hb dX6_readLateMark_75 (by decide) ?_
      exact B59 1 ls _ _ (ob37 (((1 : Int32)).toInt) (by decide)) hw (lv_sub hl [] rfl)
  refine lv_if_ne (tgt := 33) hx hb dX6_readLateMark_21 (by decide) (fun cc75 => ?_) (fun cc75 => ?_)
  · exact B15 g7 ls _ _ hk_fr0 hw (lv_sub hl [1, 0] rfl)
  · refine lv_aload_n hx hb dX6_readLateMark_24 rfl (lv_at hl 1 rfl) ?_
    refine hk_get (ci := 9) (C := RX6) (T := TX6) (N := 16) (v := .ref (ad 6)) hx hb hts (fun _ h => List.mem_cons_of_mem _ (wwXc_wsX60 _ h)) hown hw 25 rfl rfl 0 (by decide) (hq _ wX_399) rfl dX6_readLateMark_25 ?_
    refine lv_bipush (v := 7) hx hb dX6_readLateMark_28 (by decide) ?_
    refine jx_Vv (As := [.int 7]) (rest := []) ⟨hx, hb, hml, hown, hts⟩ hZ hw hA (jx_X8_fail l hlt D t3 cI cJ ad g7 l8 a9 b10 _ 7) (cwV 1 hts (jx_gV wwX_good wX_403 wX_255 wX_256 wX_252 wX_257) rfl rfl rfl (by decide +kernel) ⟨Nat.le_of_ble_eq_true rfl, Nat.le_of_ble_eq_true rfl⟩) 6 (ci := 11) (T := TX8) (N := 4) rfl rfl rfl hl.1 rfl (Nat.le_of_ble_eq_true rfl) dX6_readLateMark_30 ⟨Nat.le_of_ble_eq_true rfl, Nat.le_of_ble_eq_true rfl⟩ (fun u76 u77 u78 u79 H locs ce q hp hw h1 h2 h3 => by obtain ⟨ht0, ht1, ht2⟩ := hp; have e_u76_14 : u76 14 = (g7 14) := (ht0 14 rfl); exact kt _ _ _ _ _ _ _ _ _ _ _ ⟨(hk_frT (hk_frT hk_fr0 (by decide) h12) (by decide) ht0), (hk_frT h13 (by decide) ht1), (hk_frT (hk_frT hk_fr0 (by decide) h14) (by decide) ht2), (ob346 ((u76 14).toInt) ((g7 14).toInt) (congrArg Int32.toInt e_u76_14) (hE_rng (u76 14)) (hE_rng (g7 14)))⟩ hw h1 h2 h3) (fun g81 l82 a83 b84 H locs hp85 hw => ?_)
    obtain ⟨h86, h87, h88, h89⟩ := hp85
    exact False.elim h89

set_option maxHeartbeats 4000000 in
set_option maxRecDepth 100000 in
/-- X6_readAlone on (25,) -/
theorem jx_X6_readAlone (l : Launch) (hlt : l.stackTraces = false) (D : va_G) (t3 : Nat × Nat × Nat) (cI cJ : ClassId) (ad : Nat → Nat) (g : Nat → Int32) (lg : Nat → Int64) (ar : Nat → Nat → Int32) (bk : Nat → Int64) (sz : Nat) (hi_g14 : 0 ≤ (g 14).toInt ∧ (g 14).toInt ≤ 3000) (hi_a0rg : hk_rg 0 255 (ar 0)) (hi_g21 : 0 ≤ (g 21).toInt ∧ (g 21).toInt ≤ 4) (hi_g22 : 0 ≤ (g 22).toInt ∧ (g 22).toInt ≤ 4) : JMv l yX6_readAlone (Cond.code yX6_readAlone cX6_readAlone 3 none :: wwX) { frames := 12, cells := 1, slots := 6, locals := 237 } t3 D xw cI cJ ad [.ref (ad 25)] (xw cI cJ ad g lg ar bk) sz 1 6 (fun g' lg' ar' bk' => hk_fr [14, 15, 17, 18, 19, 20, 21, 22, 23, 24, 25] g g' ∧ hk_fr [0, 1, 2, 4] lg lg' ∧ hk_fr [1, 2, 6] ar ar' ∧ (0 ≤ (g' 14).toInt ∧ (g' 14).toInt ≤ 3000) ∧ (0 ≤ (g' 21).toInt ∧ (g' 21).toInt ≤ 4) ∧ (0 ≤ (g' 22).toInt ∧ (g' 22).toInt ≤ 4)) (fun g' lg' ar' bk' => hk_fr [14, 15, 17, 18, 19, 20, 21, 22, 23, 24, 25] g g' ∧ hk_fr [0, 1, 2, 4] lg lg' ∧ hk_fr [1, 2, 6] ar ar' ∧ (0 ≤ (g' 14).toInt ∧ (g' 14).toInt ≤ 3000) ∧ (0 ≤ (g' 21).toInt ∧ (g' 21).toInt ≤ 4) ∧ (0 ≤ (g' 22).toInt ∧ (g' 22).toInt ≤ 4)) := by
  refine jx_metv (cc := cX6_readAlone) (maxL := 3) (ret := none) rfl (by decide) rfl (Nat.le_of_ble_eq_true rfl) ?_
  intro p e s m args below meth c ls Q A hx hb hml hown hts hA hZ hw hl hQ kr kt
  have hq : ∀ w ∈ wwX, w.before args s = true := fun w h => hts w (List.mem_cons_of_mem _ h)
  have hl : lv_has ls 3 [(0, .ref (ad 25))] := hl
  refine lv_aload_n hx hb dX6_readAlone_0 rfl (lv_at hl 0 rfl) ?_
  refine jx_Vv (As := []) (rest := []) ⟨hx, hb, hml, hown, hts⟩ hZ hw hA (jx_X6_readProperties l hlt D t3 cI cJ ad g lg ar bk _ hi_a0rg (ob256 ((g 21).toInt) hi_g21 (hE_rng (g 21))) (ob256 ((g 22).toInt) hi_g22 (hE_rng (g 22)))) (cwV 0 hts (jx_gV wwX_good wX_438 wX_439 wX_440 wX_441 wX_442) rfl rfl rfl (by decide +kernel) ⟨Nat.le_of_ble_eq_true rfl, Nat.le_of_ble_eq_true rfl⟩) 25 (ci := 9) (T := TX6) (N := 16) rfl rfl rfl hl.1 rfl (Nat.le_of_ble_eq_true rfl) dX6_readAlone_1 ⟨Nat.le_of_ble_eq_true rfl, Nat.le_of_ble_eq_true rfl⟩ (fun u1 u2 u3 u4 H locs ce q hp hw h1 h2 h3 => by obtain ⟨ht0, ht1, ht2, ht3, ht4⟩ := hp; have e_u1_14 : u1 14 = (g 14) := (ht0 14 rfl); exact kt _ _ _ _ _ _ _ _ _ _ _ ⟨(hk_frT hk_fr0 (by decide) ht0), (hk_frT hk_fr0 (by decide) ht1), (hk_frT hk_fr0 (by decide) ht2), (ob333 ((u1 14).toInt) ((g 14).toInt) (congrArg Int32.toInt e_u1_14) hi_g14 (hE_rng (u1 14)) (hE_rng (g 14))), (ob256 ((u1 21).toInt) ht3 (hE_rng (u1 21))), (ob256 ((u1 22).toInt) ht4 (hE_rng (u1 22)))⟩ hw h1 h2 h3) (fun g6 l7 a8 b9 H locs hp10 hw => ?_)
  obtain ⟨h11, h12, h13, h14, h15⟩ := hp10
  refine lv_aload_n hx hb dX6_readAlone_4 rfl (lv_at hl 0 rfl) ?_
  refine lv_aload_n hx hb dX6_readAlone_5 rfl (lv_at hl 0 rfl) ?_
  refine hk_get (ci := 9) (C := RX6) (T := TX6) (N := 16) (v := .ref (ad 6)) hx hb hts (fun _ h => List.mem_cons_of_mem _ (wwXc_wsX60 _ h)) hown hw 25 rfl rfl 0 (by decide) (hq _ wX_399) rfl dX6_readAlone_6 ?_
  refine lv_iconst (v := 4) hx hb dX6_readAlone_9 (by decide) ?_
  refine jx_Vl (As := [.int 4]) (rest := [.ref (ad 25)]) ⟨hx, hb, hml, hown, hts⟩ hZ hw hA (jx_X8_low l hlt D t3 cI cJ ad g6 l7 a8 b9 _ 4 (hk_pE (P := hk_rg 0 255) hi_a0rg (h13 0 rfl))) (cwV 1 hts (jx_gV wwX_good wX_443 wX_330 wX_331 wX_252 wX_332) rfl rfl rfl (by decide +kernel) ⟨Nat.le_of_ble_eq_true rfl, Nat.le_of_ble_eq_true rfl⟩) 6 (ci := 11) (T := TX8) (N := 4) rfl rfl rfl hl.1 rfl (Nat.le_of_ble_eq_true rfl) dX6_readAlone_10 ⟨Nat.le_of_ble_eq_true rfl, Nat.le_of_ble_eq_true rfl⟩ (fun u16 u17 u18 u19 H locs ce q hp hw h1 h2 h3 => by obtain ⟨ht0, ht1, ht2⟩ := hp; have e_u16_14 : u16 14 = (g 14) := ((ht0 14 rfl)).trans (h11 14 rfl); have e_u16_21 : u16 21 = (g6 21) := (ht0 21 rfl); have e_u16_22 : u16 22 = (g6 22) := (ht0 22 rfl); exact kt _ _ _ _ _ _ _ _ _ _ _ ⟨(hk_frT (hk_frT hk_fr0 (by decide) h11) (by decide) ht0), (hk_frT (hk_frT hk_fr0 (by decide) h12) (by decide) ht1), (hk_frT (hk_frT hk_fr0 (by decide) h13) (by decide) ht2), (ob333 ((u16 14).toInt) ((g 14).toInt) (congrArg Int32.toInt e_u16_14) hi_g14 (hE_rng (u16 14)) (hE_rng (g 14))), (ob61 ((u16 21).toInt) ((g6 21).toInt) (congrArg Int32.toInt e_u16_21) h14 (hE_rng (u16 21)) (hE_rng (g6 21))), (ob61 ((u16 22).toInt) ((g6 22).toInt) (congrArg Int32.toInt e_u16_22) h15 (hE_rng (u16 22)) (hE_rng (g6 22)))⟩ hw h1 h2 h3) (fun r20 g21 l22 a23 b24 H locs hp25 hw => ?_)
  obtain ⟨h26, h27, h28⟩ := hp25
  have hr29 : hk_rg 0 255 (a23 0) := (hk_pE (P := hk_rg 0 255) (hk_pE (P := hk_rg 0 255) hi_a0rg (h13 0 rfl)) (h28 0 rfl))
  refine jx_Vv (As := [.long r20]) (rest := []) ⟨hx, hb, hml, hown, hts⟩ hZ hw hA (jx_X6_askMemory l hlt D t3 cI cJ ad g21 l22 a23 b24 _ r20) (cwV 1 hts (jx_gV wwX_good wX_444 wX_445 wX_446 wX_441 wX_447) rfl rfl rfl (by decide +kernel) ⟨Nat.le_of_ble_eq_true rfl, Nat.le_of_ble_eq_true rfl⟩) 25 (ci := 9) (T := TX6) (N := 16) rfl rfl rfl hl.1 rfl (Nat.le_of_ble_eq_true rfl) dX6_readAlone_13 ⟨Nat.le_of_ble_eq_true rfl, Nat.le_of_ble_eq_true rfl⟩ (fun u30 u31 u32 u33 H locs ce q hp hw h1 h2 h3 => by obtain ⟨ht0, ht1, ht2⟩ := hp; have e_u30_14 : u30 14 = (g 14) := ((ht0 14 rfl)).trans (((h26 14 rfl)).trans (h11 14 rfl)); have e_u30_21 : u30 21 = (g6 21) := ((ht0 21 rfl)).trans (h26 21 rfl); have e_u30_22 : u30 22 = (g6 22) := ((ht0 22 rfl)).trans (h26 22 rfl); exact kt _ _ _ _ _ _ _ _ _ _ _ ⟨(hk_frT (hk_frT (hk_frT hk_fr0 (by decide) h11) (by decide) h26) (by decide) ht0), (hk_frT (hk_frT (hk_frT hk_fr0 (by decide) h12) (by decide) h27) (by decide) ht1), (hk_frT (hk_frT (hk_frT hk_fr0 (by decide) h13) (by decide) h28) (by decide) ht2), (ob333 ((u30 14).toInt) ((g 14).toInt) (congrArg Int32.toInt e_u30_14) hi_g14 (hE_rng (u30 14)) (hE_rng (g 14))), (ob61 ((u30 21).toInt) ((g6 21).toInt) (congrArg Int32.toInt e_u30_21) h14 (hE_rng (u30 21)) (hE_rng (g6 21))), (ob61 ((u30 22).toInt) ((g6 22).toInt) (congrArg Int32.toInt e_u30_22) h15 (hE_rng (u30 22)) (hE_rng (g6 22)))⟩ hw h1 h2 h3) (fun g35 l36 a37 b38 H locs hp39 hw => ?_)
  obtain ⟨h40, h41, h42⟩ := hp39
  refine lv_aload_n hx hb dX6_readAlone_16 rfl (lv_at hl 0 rfl) ?_
  refine hk_get (ci := 9) (C := RX6) (T := TX6) (N := 16) (v := .ref (ad 6)) hx hb hts (fun _ h => List.mem_cons_of_mem _ (wwXc_wsX60 _ h)) hown hw 25 rfl rfl 0 (by decide) (hq _ wX_399) rfl dX6_readAlone_17 ?_
  refine lv_bipush (v := 8) hx hb dX6_readAlone_20 (by decide) ?_
  refine jx_Vl (As := [.int 8]) (rest := []) ⟨hx, hb, hml, hown, hts⟩ hZ hw hA (jx_X8_low l hlt D t3 cI cJ ad g35 l36 a37 b38 _ 8 (hk_pE (P := hk_rg 0 255) hr29 (h42 0 rfl))) (cwV 1 hts (jx_gV wwX_good wX_443 wX_330 wX_331 wX_252 wX_332) rfl rfl rfl (by decide +kernel) ⟨Nat.le_of_ble_eq_true rfl, Nat.le_of_ble_eq_true rfl⟩) 6 (ci := 11) (T := TX8) (N := 4) rfl rfl rfl hl.1 rfl (Nat.le_of_ble_eq_true rfl) dX6_readAlone_22 ⟨Nat.le_of_ble_eq_true rfl, Nat.le_of_ble_eq_true rfl⟩ (fun u43 u44 u45 u46 H locs ce q hp hw h1 h2 h3 => by obtain ⟨ht0, ht1, ht2⟩ := hp; have e_u43_14 : u43 14 = (g 14) := ((ht0 14 rfl)).trans (((h40 14 rfl)).trans (((h26 14 rfl)).trans (h11 14 rfl))); have e_u43_21 : u43 21 = (g6 21) := ((ht0 21 rfl)).trans (((h40 21 rfl)).trans (h26 21 rfl)); have e_u43_22 : u43 22 = (g6 22) := ((ht0 22 rfl)).trans (((h40 22 rfl)).trans (h26 22 rfl)); exact kt _ _ _ _ _ _ _ _ _ _ _ ⟨(hk_frT (hk_frT (hk_frT (hk_frT hk_fr0 (by decide) h11) (by decide) h26) (by decide) h40) (by decide) ht0), (hk_frT (hk_frT (hk_frT (hk_frT hk_fr0 (by decide) h12) (by decide) h27) (by decide) h41) (by decide) ht1), (hk_frT (hk_frT (hk_frT (hk_frT hk_fr0 (by decide) h13) (by decide) h28) (by decide) h42) (by decide) ht2), (ob333 ((u43 14).toInt) ((g 14).toInt) (congrArg Int32.toInt e_u43_14) hi_g14 (hE_rng (u43 14)) (hE_rng (g 14))), (ob61 ((u43 21).toInt) ((g6 21).toInt) (congrArg Int32.toInt e_u43_21) h14 (hE_rng (u43 21)) (hE_rng (g6 21))), (ob61 ((u43 22).toInt) ((g6 22).toInt) (congrArg Int32.toInt e_u43_22) h15 (hE_rng (u43 22)) (hE_rng (g6 22)))⟩ hw h1 h2 h3) (fun r47 g48 l49 a50 b51 H locs hp52 hw => ?_)
  obtain ⟨h53, h54, h55⟩ := hp52
  have hr56 : hk_rg 0 255 (a50 0) := (hk_pE (P := hk_rg 0 255) (hk_pE (P := hk_rg 0 255) hr29 (h42 0 rfl)) (h55 0 rfl))
  refine lv_lstore_n (lv' := [(1, .long r47), (0, .ref (ad 25))]) hx hb dX6_readAlone_25 rfl hl (by decide) rfl (fun ls hl => ?_)
  refine lv_lload_n hx hb dX6_readAlone_26 rfl (lv_at hl 0 rfl) ?_
  refine lv_ldc2 (v := (-1)) hx hb hown (hq _ wX_448) dX6_readAlone_27 ?_
  have B57 : ∀  (g58 : Nat → Int32) (ls : Array Slot) (H : Heap) (locs : List Loc), hk_fr [17] g48 g58 → hk_W D (jT cI cJ) A s H locs (xw cI cJ ad g58 l49 a50 b51) → lv_has ls 3 [(0, .ref (ad 25)), (1, .long r47)] → W p l e { frames := 12, cells := 1, slots := 6, locals := 237 } s m args below meth c H locs 0 0 Q (F0 m 51 ls []) := by
    intro g58 ls H locs hfr_g58 hw hl
    refine lv_aload_n hx hb dX6_readAlone_51 rfl (lv_at hl 0 rfl) ?_
    refine hk_get (ci := 9) (C := RX6) (T := TX6) (N := 16) (v := .ref (ad 9)) hx hb hts (fun _ h => List.mem_cons_of_mem _ (wwXc_wsX60 _ h)) hown hw 25 rfl rfl 2 (by decide) (hq _ wX_413) rfl dX6_readAlone_52 ?_
    have e_g58_21 : g58 21 = (g6 21) := ((hfr_g58 21 rfl)).trans (((h53 21 rfl)).trans (((h40 21 rfl)).trans (h26 21 rfl)))
    have e_g58_22 : g58 22 = (g6 22) := ((hfr_g58 22 rfl)).trans (((h53 22 rfl)).trans (((h40 22 rfl)).trans (h26 22 rfl)))
    refine jx_Vv (As := []) (rest := []) ⟨hx, hb, hml, hown, hts⟩ hZ hw hA (jx_X5_reset l hlt D t3 cI cJ ad g58 l49 a50 b51 _ (ob61 ((g58 21).toInt) ((g6 21).toInt) (congrArg Int32.toInt e_g58_21) h14 (hE_rng (g58 21)) (hE_rng (g6 21))) (ob61 ((g58 22).toInt) ((g6 22).toInt) (congrArg Int32.toInt e_g58_22) h15 (hE_rng (g58 22)) (hE_rng (g6 22)))) (cwV 0 hts (jx_gV wwX_good wX_418 wX_419 wX_420 wX_215 wX_421) rfl rfl rfl (by decide +kernel) ⟨Nat.le_of_ble_eq_true rfl, Nat.le_of_ble_eq_true rfl⟩) 9 (ci := 8) (T := TX5) (N := 6) rfl rfl rfl hl.1 rfl (Nat.le_of_ble_eq_true rfl) dX6_readAlone_55 ⟨Nat.le_of_ble_eq_true rfl, Nat.le_of_ble_eq_true rfl⟩ (fun _ _ _ _ _ _ _ _ hp _ _ _ _ => hp.elim) (fun g64 l65 a66 b67 H locs hp68 hw => ?_)
    obtain ⟨h69, h70, h71⟩ := hp68
    refine lv_aload_n hx hb dX6_readAlone_58 rfl (lv_at hl 0 rfl) ?_
    refine lv_lload_n hx hb dX6_readAlone_59 rfl (lv_at hl 1 rfl) ?_
    refine lv_l2i hx hb dX6_readAlone_60 rfl (jx_nm fun z72 hz72 => ?_)
    have e_g64_14 : g64 14 = (g 14) := ((h69 14 rfl)).trans (((hfr_g58 14 rfl)).trans (((h53 14 rfl)).trans (((h40 14 rfl)).trans (((h26 14 rfl)).trans (h11 14 rfl)))))
    refine jx_Vv (As := [.int z72]) (rest := []) ⟨hx, hb, hml, hown, hts⟩ hZ hw hA (jx_X6_readBits l hlt D t3 cI cJ ad g64 l65 a66 b67 _ z72 (ob333 ((g64 14).toInt) ((g 14).toInt) (congrArg Int32.toInt e_g64_14) hi_g14 (hE_rng (g64 14)) (hE_rng (g 14))) (hk_pE (P := hk_rg 0 255) hr56 (h71 0 rfl))) (cwV 1 hts (jx_gV wwX_good wX_450 wX_451 wX_452 wX_441 wX_453) rfl rfl rfl (by decide +kernel) ⟨Nat.le_of_ble_eq_true rfl, Nat.le_of_ble_eq_true rfl⟩) 25 (ci := 9) (T := TX6) (N := 16) rfl rfl rfl hl.1 rfl (Nat.le_of_ble_eq_true rfl) dX6_readAlone_61 ⟨Nat.le_of_ble_eq_true rfl, Nat.le_of_ble_eq_true rfl⟩ (fun u73 u74 u75 u76 H locs ce q hp hw h1 h2 h3 => by obtain ⟨ht0, ht1, ht2, ht3⟩ := hp; have e_u73_21 : u73 21 = (g6 21) := ((ht0 21 rfl)).trans (((h69 21 rfl)).trans e_g58_21); have e_u73_22 : u73 22 = (g6 22) := ((ht0 22 rfl)).trans (((h69 22 rfl)).trans e_g58_22); exact kt _ _ _ _ _ _ _ _ _ _ _ ⟨(hk_frT (hk_frT (hk_frT (hk_frT (hk_frT (hk_frT (hk_frT hk_fr0 (by decide) h11) (by decide) h26) (by decide) h40) (by decide) h53) (by decide) hfr_g58) (by decide) h69) (by decide) ht0), (hk_frT (hk_frT (hk_frT (hk_frT (hk_frT (hk_frT hk_fr0 (by decide) h12) (by decide) h27) (by decide) h41) (by decide) h54) (by decide) h70) (by decide) ht1), (hk_frT (hk_frT (hk_frT (hk_frT (hk_frT (hk_frT hk_fr0 (by decide) h13) (by decide) h28) (by decide) h42) (by decide) h55) (by decide) h71) (by decide) ht2), (ob347 ((u73 14).toInt) ht3 (hE_rng (u73 14))), (ob283 ((u73 21).toInt) ((g6 21).toInt) ((g58 21).toInt) (congrArg Int32.toInt e_u73_21) h14 (congrArg Int32.toInt e_g58_21) (hE_rng (u73 21)) (hE_rng (g6 21)) (hE_rng (g58 21))), (ob283 ((u73 22).toInt) ((g6 22).toInt) ((g58 22).toInt) (congrArg Int32.toInt e_u73_22) h15 (congrArg Int32.toInt e_g58_22) (hE_rng (u73 22)) (hE_rng (g6 22)) (hE_rng (g58 22)))⟩ hw h1 h2 h3) (fun g78 l79 a80 b81 H locs hp82 hw => ?_)
    obtain ⟨h83, h84, h85, h86⟩ := hp82
    have hr87 : hk_rg 0 255 (a80 0) := (hk_pE (P := hk_rg 0 255) (hk_pE (P := hk_rg 0 255) hr56 (h71 0 rfl)) (h85 0 rfl))
    refine lv_lload_n hx hb dX6_readAlone_64 rfl (lv_at hl 1 rfl) ?_
    refine lv_lconst (v := 0) hx hb dX6_readAlone_65 (by decide) ?_
    have B88 : ∀  (g89 : Nat → Int32) (l90 : Nat → Int64) (a91 : Nat → Nat → Int32) (b92 : Nat → Int64) (ls : Array Slot) (H : Heap) (locs : List Loc), 0 ≤ (g89 14).toInt ∧ (g89 14).toInt ≤ 3000 → hk_fr [14, 15, 17, 19, 20, 24, 25] g78 g89 → hk_fr [0, 1, 2] l79 l90 → hk_fr [1, 2, 6] a80 a91 → hk_W D (jT cI cJ) A s H locs (xw cI cJ ad g89 l90 a91 b92) → lv_has ls 3 [(0, .ref (ad 25))] → W p l e { frames := 12, cells := 1, slots := 6, locals := 237 } s m args below meth c H locs 0 0 Q (F0 m 89 ls []) := by
      intro g89 l90 a91 b92 ls H locs hf_B88_0 hfr_g89 hfr_l90 hfr_a91 hw hl
      refine lv_aload_n hx hb dX6_readAlone_89 rfl (lv_at hl 0 rfl) ?_
      refine hk_get (ci := 9) (C := RX6) (T := TX6) (N := 16) (v := .ref (ad 9)) hx hb hts (fun _ h => List.mem_cons_of_mem _ (wwXc_wsX60 _ h)) hown hw 25 rfl rfl 2 (by decide) (hq _ wX_413) rfl dX6_readAlone_90 ?_
      refine hk_get (ci := 8) (C := RX5) (T := TX5) (N := 6) (v := .ref (ad 7)) hx hb hts (fun _ h => List.mem_cons_of_mem _ (wwXc_wsX50 _ h)) hown hw 9 rfl rfl 0 (by decide) (hq _ wX_426) rfl dX6_readAlone_93 ?_
      refine hk_get (ci := 5) (C := RX2) (T := TX2) (N := 9) (v := .long (l90 2)) hx hb hts (fun _ h => List.mem_cons_of_mem _ (wwXc_wsX20 _ h)) hown hw 7 rfl rfl 6 (by decide) (hq _ wX_427) rfl dX6_readAlone_96 ?_
      refine lv_lconst (v := 0) hx hb dX6_readAlone_99 (by decide) ?_
      refine hk_lcmp_eq (tgt := 113) hx hb dX6_readAlone_100 dX6_readAlone_101 (by decide) (fun cc93 => ?_) (fun cc93 => ?_)
      · have e_g89_21 : g89 21 = (g6 21) := ((hfr_g89 21 rfl)).trans (((h83 21 rfl)).trans (((h69 21 rfl)).trans e_g58_21))
        have e_g89_22 : g89 22 = (g6 22) := ((hfr_g89 22 rfl)).trans (((h83 22 rfl)).trans (((h69 22 rfl)).trans e_g58_22))
        exact kr g89 l90 a91 b92 _ _ _ _ ⟨(hk_frT (hk_frT (hk_frT (hk_frT (hk_frT (hk_frT (hk_frT (hk_frT hk_fr0 (by decide) h11) (by decide) h26) (by decide) h40) (by decide) h53) (by decide) hfr_g58) (by decide) h69) (by decide) h83) (by decide) hfr_g89), (hk_frT (hk_frT (hk_frT (hk_frT (hk_frT (hk_frT (hk_frT hk_fr0 (by decide) h12) (by decide) h27) (by decide) h41) (by decide) h54) (by decide) h70) (by decide) h84) (by decide) hfr_l90), (hk_frT (hk_frT (hk_frT (hk_frT (hk_frT (hk_frT (hk_frT hk_fr0 (by decide) h13) (by decide) h28) (by decide) h42) (by decide) h55) (by decide) h71) (by decide) h85) (by decide) hfr_a91), (ob347 ((g89 14).toInt) hf_B88_0 (hE_rng (g89 14))), (ob283 ((g89 21).toInt) ((g6 21).toInt) ((g58 21).toInt) (congrArg Int32.toInt e_g89_21) h14 (congrArg Int32.toInt e_g58_21) (hE_rng (g89 21)) (hE_rng (g6 21)) (hE_rng (g58 21))), (ob283 ((g89 22).toInt) ((g6 22).toInt) ((g58 22).toInt) (congrArg Int32.toInt e_g89_22) h15 (congrArg Int32.toInt e_g58_22) (hE_rng (g89 22)) (hE_rng (g6 22)) (hE_rng (g58 22)))⟩ hw dX6_readAlone_113
      · refine lv_aload_n hx hb dX6_readAlone_104 rfl (lv_at hl 0 rfl) ?_
        refine hk_get (ci := 9) (C := RX6) (T := TX6) (N := 16) (v := .ref (ad 6)) hx hb hts (fun _ h => List.mem_cons_of_mem _ (wwXc_wsX60 _ h)) hown hw 25 rfl rfl 0 (by decide) (hq _ wX_399) rfl dX6_readAlone_105 ?_
        refine lv_bipush (v := 7) hx hb dX6_readAlone_108 (by decide) ?_
        refine jx_Vv (As := [.int 7]) (rest := []) ⟨hx, hb, hml, hown, hts⟩ hZ hw hA (jx_X8_fail l hlt D t3 cI cJ ad g89 l90 a91 b92 _ 7) (cwV 1 hts (jx_gV wwX_good wX_403 wX_255 wX_256 wX_252 wX_257) rfl rfl rfl (by decide +kernel) ⟨Nat.le_of_ble_eq_true rfl, Nat.le_of_ble_eq_true rfl⟩) 6 (ci := 11) (T := TX8) (N := 4) rfl rfl rfl hl.1 rfl (Nat.le_of_ble_eq_true rfl) dX6_readAlone_110 ⟨Nat.le_of_ble_eq_true rfl, Nat.le_of_ble_eq_true rfl⟩ (fun u94 u95 u96 u97 H locs ce q hp hw h1 h2 h3 => by obtain ⟨ht0, ht1, ht2⟩ := hp; have e_u94_14 : u94 14 = (g89 14) := (ht0 14 rfl); have e_u94_21 : u94 21 = (g6 21) := ((ht0 21 rfl)).trans (((hfr_g89 21 rfl)).trans (((h83 21 rfl)).trans (((h69 21 rfl)).trans e_g58_21))); have e_u94_22 : u94 22 = (g6 22) := ((ht0 22 rfl)).trans (((hfr_g89 22 rfl)).trans (((h83 22 rfl)).trans (((h69 22 rfl)).trans e_g58_22))); exact kt _ _ _ _ _ _ _ _ _ _ _ ⟨(hk_frT (hk_frT (hk_frT (hk_frT (hk_frT (hk_frT (hk_frT (hk_frT (hk_frT hk_fr0 (by decide) h11) (by decide) h26) (by decide) h40) (by decide) h53) (by decide) hfr_g58) (by decide) h69) (by decide) h83) (by decide) hfr_g89) (by decide) ht0), (hk_frT (hk_frT (hk_frT (hk_frT (hk_frT (hk_frT (hk_frT (hk_frT hk_fr0 (by decide) h12) (by decide) h27) (by decide) h41) (by decide) h54) (by decide) h70) (by decide) h84) (by decide) hfr_l90) (by decide) ht1), (hk_frT (hk_frT (hk_frT (hk_frT (hk_frT (hk_frT (hk_frT (hk_frT hk_fr0 (by decide) h13) (by decide) h28) (by decide) h42) (by decide) h55) (by decide) h71) (by decide) h85) (by decide) hfr_a91) (by decide) ht2), (ob333 ((u94 14).toInt) ((g89 14).toInt) (congrArg Int32.toInt e_u94_14) hf_B88_0 (hE_rng (u94 14)) (hE_rng (g89 14))), (ob283 ((u94 21).toInt) ((g6 21).toInt) ((g58 21).toInt) (congrArg Int32.toInt e_u94_21) h14 (congrArg Int32.toInt e_g58_21) (hE_rng (u94 21)) (hE_rng (g6 21)) (hE_rng (g58 21))), (ob283 ((u94 22).toInt) ((g6 22).toInt) ((g58 22).toInt) (congrArg Int32.toInt e_u94_22) h15 (congrArg Int32.toInt e_g58_22) (hE_rng (u94 22)) (hE_rng (g6 22)) (hE_rng (g58 22)))⟩ hw h1 h2 h3) (fun g99 l100 a101 b102 H locs hp103 hw => ?_)
        obtain ⟨h104, h105, h106, h107⟩ := hp103
        exact False.elim h107
    refine hk_lcmp_lt (tgt := 89) hx hb dX6_readAlone_66 dX6_readAlone_67 (by decide) (fun cc108 => ?_) (fun cc108 => ?_)
    · exact B88 g78 l79 a80 b81 ls _ _ (ob347 ((g78 14).toInt) h86 (hE_rng (g78 14))) hk_fr0 hk_fr0 hk_fr0 hw (lv_sub hl [0] rfl)
    · refine lv_aload_n hx hb dX6_readAlone_70 rfl (lv_at hl 0 rfl) ?_
      refine hk_get (ci := 9) (C := RX6) (T := TX6) (N := 16) (v := .ref (ad 9)) hx hb hts (fun _ h => List.mem_cons_of_mem _ (wwXc_wsX60 _ h)) hown hw 25 rfl rfl 2 (by decide) (hq _ wX_413) rfl dX6_readAlone_71 ?_
      refine hk_get (ci := 8) (C := RX5) (T := TX5) (N := 6) (v := .ref (ad 7)) hx hb hts (fun _ h => List.mem_cons_of_mem _ (wwXc_wsX50 _ h)) hown hw 9 rfl rfl 0 (by decide) (hq _ wX_426) rfl dX6_readAlone_74 ?_
      refine hk_get (ci := 5) (C := RX2) (T := TX2) (N := 9) (v := .long (l79 2)) hx hb hts (fun _ h => List.mem_cons_of_mem _ (wwXc_wsX20 _ h)) hown hw 7 rfl rfl 6 (by decide) (hq _ wX_427) rfl dX6_readAlone_77 ?_
      refine lv_lconst (v := 0) hx hb dX6_readAlone_80 (by decide) ?_
      refine hk_lcmp_eq (tgt := 89) hx hb dX6_readAlone_81 dX6_readAlone_82 (by decide) (fun cc109 => ?_) (fun cc109 => ?_)
      · exact B88 g78 l79 a80 b81 ls _ _ (ob347 ((g78 14).toInt) h86 (hE_rng (g78 14))) hk_fr0 hk_fr0 hk_fr0 hw (lv_sub hl [0] rfl)
      · refine lv_aload_n hx hb dX6_readAlone_85 rfl (lv_at hl 0 rfl) ?_
        refine jx_Vv (As := []) (rest := []) ⟨hx, hb, hml, hown, hts⟩ hZ hw hA (jx_X6_readLateMark l hlt D t3 cI cJ ad g78 l79 a80 b81 _ (ob347 ((g78 14).toInt) h86 (hE_rng (g78 14))) hr87) (cwV 0 hts (jx_gV wwX_good wX_454 wX_455 wX_456 wX_441 wX_457) rfl rfl rfl (by decide +kernel) ⟨Nat.le_of_ble_eq_true rfl, Nat.le_of_ble_eq_true rfl⟩) 25 (ci := 9) (T := TX6) (N := 16) rfl rfl rfl hl.1 rfl (Nat.le_of_ble_eq_true rfl) dX6_readAlone_86 ⟨Nat.le_of_ble_eq_true rfl, Nat.le_of_ble_eq_true rfl⟩ (fun u110 u111 u112 u113 H locs ce q hp hw h1 h2 h3 => by obtain ⟨ht0, ht1, ht2, ht3⟩ := hp; have e_u110_21 : u110 21 = (g6 21) := ((ht0 21 rfl)).trans (((h83 21 rfl)).trans (((h69 21 rfl)).trans e_g58_21)); have e_u110_22 : u110 22 = (g6 22) := ((ht0 22 rfl)).trans (((h83 22 rfl)).trans (((h69 22 rfl)).trans e_g58_22)); exact kt _ _ _ _ _ _ _ _ _ _ _ ⟨(hk_frT (hk_frT (hk_frT (hk_frT (hk_frT (hk_frT (hk_frT (hk_frT hk_fr0 (by decide) h11) (by decide) h26) (by decide) h40) (by decide) h53) (by decide) hfr_g58) (by decide) h69) (by decide) h83) (by decide) ht0), (hk_frT (hk_frT (hk_frT (hk_frT (hk_frT (hk_frT (hk_frT hk_fr0 (by decide) h12) (by decide) h27) (by decide) h41) (by decide) h54) (by decide) h70) (by decide) h84) (by decide) ht1), (hk_frT (hk_frT (hk_frT (hk_frT (hk_frT (hk_frT (hk_frT hk_fr0 (by decide) h13) (by decide) h28) (by decide) h42) (by decide) h55) (by decide) h71) (by decide) h85) (by decide) ht2), (ob347 ((u110 14).toInt) ht3 (hE_rng (u110 14))), (ob283 ((u110 21).toInt) ((g6 21).toInt) ((g58 21).toInt) (congrArg Int32.toInt e_u110_21) h14 (congrArg Int32.toInt e_g58_21) (hE_rng (u110 21)) (hE_rng (g6 21)) (hE_rng (g58 21))), (ob283 ((u110 22).toInt) ((g6 22).toInt) ((g58 22).toInt) (congrArg Int32.toInt e_u110_22) h15 (congrArg Int32.toInt e_g58_22) (hE_rng (u110 22)) (hE_rng (g6 22)) (hE_rng (g58 22)))⟩ hw h1 h2 h3) (fun g115 l116 a117 b118 H locs hp119 hw => ?_)
        obtain ⟨h120, h121, h122, h123⟩ := hp119
        exact B88 g115 l116 a117 b118 ls _ _ (ob347 ((g115 14).toInt) h123 (hE_rng (g115 14))) h120 h121 h122 hw (lv_sub hl [0] rfl)
  have B124 : ∀  (ls : Array Slot) (H : Heap) (locs : List Loc), hk_W D (jT cI cJ) A s H locs (xw cI cJ ad g48 l49 a50 b51) → lv_has ls 3 [(0, .ref (ad 25)), (1, .long r47)] → W p l e { frames := 12, cells := 1, slots := 6, locals := 237 } s m args below meth c H locs 0 0 Q (F0 m 42 ls []) := by
    intro ls H locs hw hl
    refine lv_aload_n hx hb dX6_readAlone_42 rfl (lv_at hl 0 rfl) ?_
    refine hk_get (ci := 9) (C := RX6) (T := TX6) (N := 16) (v := .ref (ad 6)) hx hb hts (fun _ h => List.mem_cons_of_mem _ (wwXc_wsX60 _ h)) hown hw 25 rfl rfl 0 (by decide) (hq _ wX_399) rfl dX6_readAlone_43 ?_
    refine lv_bipush (v := 13) hx hb dX6_readAlone_46 (by decide) ?_
    refine jx_Vv (As := [.int 13]) (rest := []) ⟨hx, hb, hml, hown, hts⟩ hZ hw hA (jx_X8_fail l hlt D t3 cI cJ ad g48 l49 a50 b51 _ 13) (cwV 1 hts (jx_gV wwX_good wX_403 wX_255 wX_256 wX_252 wX_257) rfl rfl rfl (by decide +kernel) ⟨Nat.le_of_ble_eq_true rfl, Nat.le_of_ble_eq_true rfl⟩) 6 (ci := 11) (T := TX8) (N := 4) rfl rfl rfl hl.1 rfl (Nat.le_of_ble_eq_true rfl) dX6_readAlone_48 ⟨Nat.le_of_ble_eq_true rfl, Nat.le_of_ble_eq_true rfl⟩ (fun u125 u126 u127 u128 H locs ce q hp hw h1 h2 h3 => by obtain ⟨ht0, ht1, ht2⟩ := hp; have e_u125_14 : u125 14 = (g 14) := ((ht0 14 rfl)).trans (((h53 14 rfl)).trans (((h40 14 rfl)).trans (((h26 14 rfl)).trans (h11 14 rfl)))); have e_u125_21 : u125 21 = (g6 21) := ((ht0 21 rfl)).trans (((h53 21 rfl)).trans (((h40 21 rfl)).trans (h26 21 rfl))); have e_u125_22 : u125 22 = (g6 22) := ((ht0 22 rfl)).trans (((h53 22 rfl)).trans (((h40 22 rfl)).trans (h26 22 rfl))); exact kt _ _ _ _ _ _ _ _ _ _ _ ⟨(hk_frT (hk_frT (hk_frT (hk_frT (hk_frT hk_fr0 (by decide) h11) (by decide) h26) (by decide) h40) (by decide) h53) (by decide) ht0), (hk_frT (hk_frT (hk_frT (hk_frT (hk_frT hk_fr0 (by decide) h12) (by decide) h27) (by decide) h41) (by decide) h54) (by decide) ht1), (hk_frT (hk_frT (hk_frT (hk_frT (hk_frT hk_fr0 (by decide) h13) (by decide) h28) (by decide) h42) (by decide) h55) (by decide) ht2), (ob333 ((u125 14).toInt) ((g 14).toInt) (congrArg Int32.toInt e_u125_14) hi_g14 (hE_rng (u125 14)) (hE_rng (g 14))), (ob61 ((u125 21).toInt) ((g6 21).toInt) (congrArg Int32.toInt e_u125_21) h14 (hE_rng (u125 21)) (hE_rng (g6 21))), (ob61 ((u125 22).toInt) ((g6 22).toInt) (congrArg Int32.toInt e_u125_22) h15 (hE_rng (u125 22)) (hE_rng (g6 22)))⟩ hw h1 h2 h3) (fun g130 l131 a132 b133 H locs hp134 hw => ?_)
    obtain ⟨h135, h136, h137, h138⟩ := hp134
    exact False.elim h138
  refine hk_lcmp_lt (tgt := 42) hx hb dX6_readAlone_30 dX6_readAlone_31 (by decide) (fun cc139 => ?_) (fun cc139 => ?_)
  · exact B124 ls _ _ hw (lv_sub hl [1, 0] rfl)
  · refine lv_lload_n hx hb dX6_readAlone_34 rfl (lv_at hl 0 rfl) ?_
    refine lv_ldc2 (v := 3000) hx hb hown (hq _ wX_449) dX6_readAlone_35 ?_
    refine hk_lcmp_le (tgt := 51) hx hb dX6_readAlone_38 dX6_readAlone_39 (by decide) (fun cc140 => ?_) (fun cc140 => ?_)
    · exact B57 g48 ls _ _ hk_fr0 hw (lv_sub hl [1, 0] rfl)
    · exact B124 ls _ _ hw (lv_sub hl [1, 0] rfl)

set_option maxHeartbeats 4000000 in
set_option maxRecDepth 100000 in
/-- X6_judgeControl on (25,) -/
theorem jx_X6_judgeControl (l : Launch) (hlt : l.stackTraces = false) (D : va_G) (t3 : Nat × Nat × Nat) (cI cJ : ClassId) (ad : Nat → Nat) (g : Nat → Int32) (lg : Nat → Int64) (ar : Nat → Nat → Int32) (bk : Nat → Int64) (sz : Nat) (y1 : Int32) (y2 : Int32) : JMv l yX6_judgeControl (Cond.code yX6_judgeControl cX6_judgeControl 5 none :: wwX) { frames := 7, cells := 1, slots := 6, locals := 102 } t3 D xw cI cJ ad [.ref (ad 25), .int y1, .int y2] (xw cI cJ ad g lg ar bk) sz 1 6 (fun g' lg' ar' bk' => hk_fr [17] g g' ∧ hk_fr [] lg lg' ∧ hk_fr [] ar ar') (fun g' lg' ar' bk' => hk_fr [17] g g' ∧ hk_fr [] lg lg' ∧ hk_fr [] ar ar') := by
  refine jx_metv (cc := cX6_judgeControl) (maxL := 5) (ret := none) rfl (by decide) rfl (Nat.le_of_ble_eq_true rfl) ?_
  intro p e s m args below meth c ls Q A hx hb hml hown hts hA hZ hw hl hQ kr kt
  have hq : ∀ w ∈ wwX, w.before args s = true := fun w h => hts w (List.mem_cons_of_mem _ h)
  have hl : lv_has ls 5 [(0, .ref (ad 25)), (1, .int y1), (2, .int y2)] := hl
  refine lv_iload_n hx hb dX6_judgeControl_0 rfl (lv_at hl 2 rfl) ?_
  refine lv_iconst (v := 3) hx hb dX6_judgeControl_1 (by decide) ?_
  have B1 : ∀  (x2 : Int32) (ls : Array Slot) (H : Heap) (locs : List Loc), 0 ≤ (x2).toInt ∧ (x2).toInt ≤ 1 → hk_W D (jT cI cJ) A s H locs (xw cI cJ ad g lg ar bk) → lv_has ls 5 [(0, .ref (ad 25)), (1, .int y1), (2, .int y2)] → W p l e { frames := 7, cells := 1, slots := 6, locals := 102 } s m args below meth c H locs 0 0 Q (F0 m 10 ls [.int x2]) := by
    intro x2 ls H locs hf_B1_0 hw hl
    refine lv_istore_n (lv' := [(3, .int x2), (0, .ref (ad 25)), (1, .int y1), (2, .int y2)]) hx hb dX6_judgeControl_10 rfl hl (by decide) rfl (fun ls hl => ?_)
    refine lv_iload_n hx hb dX6_judgeControl_11 rfl (lv_at hl 2 rfl) ?_
    refine lv_sipush (v := 128) hx hb dX6_judgeControl_12 (by decide) ?_
    have B3 : ∀  (x4 : Int32) (ls : Array Slot) (H : Heap) (locs : List Loc), 0 ≤ (x4).toInt ∧ (x4).toInt ≤ 1 → hk_W D (jT cI cJ) A s H locs (xw cI cJ ad g lg ar bk) → lv_has ls 5 [(0, .ref (ad 25))] → W p l e { frames := 7, cells := 1, slots := 6, locals := 102 } s m args below meth c H locs 0 0 Q (F0 m 53 ls [.int x4]) := by
      intro x4 ls H locs hf_B3_0 hw hl
      refine lv_istore (lv' := [(4, .int x4), (0, .ref (ad 25))]) hx hb dX6_judgeControl_53 hl (by decide) rfl (fun ls hl => ?_)
      refine lv_iload hx hb dX6_judgeControl_55 (lv_at hl 0 rfl) ?_
      refine lv_if_eq (tgt := 68) hx hb dX6_judgeControl_57 (by decide) (fun cc5 => ?_) (fun cc5 => ?_)
      · exact kr g lg ar bk _ _ _ _ ⟨hk_fr0, hk_fr0, hk_fr0⟩ hw dX6_judgeControl_68
      · refine lv_aload_n hx hb dX6_judgeControl_60 rfl (lv_at hl 1 rfl) ?_
        refine hk_get (ci := 9) (C := RX6) (T := TX6) (N := 16) (v := .ref (ad 6)) hx hb hts (fun _ h => List.mem_cons_of_mem _ (wwXc_wsX60 _ h)) hown hw 25 rfl rfl 0 (by decide) (hq _ wX_399) rfl dX6_judgeControl_61 ?_
        refine lv_iconst (v := 5) hx hb dX6_judgeControl_64 (by decide) ?_
        refine jx_Vv (As := [.int 5]) (rest := []) ⟨hx, hb, hml, hown, hts⟩ hZ hw hA (jx_X8_fail l hlt D t3 cI cJ ad g lg ar bk _ 5) (cwV 1 hts (jx_gV wwX_good wX_403 wX_255 wX_256 wX_252 wX_257) rfl rfl rfl (by decide +kernel) ⟨Nat.le_of_ble_eq_true rfl, Nat.le_of_ble_eq_true rfl⟩) 6 (ci := 11) (T := TX8) (N := 4) rfl rfl rfl hl.1 rfl (Nat.le_of_ble_eq_true rfl) dX6_judgeControl_65 ⟨Nat.le_of_ble_eq_true rfl, Nat.le_of_ble_eq_true rfl⟩ (fun u6 u7 u8 u9 H locs ce q hp hw h1 h2 h3 => by obtain ⟨ht0, ht1, ht2⟩ := hp; exact kt _ _ _ _ _ _ _ _ _ _ _ ⟨ht0, ht1, ht2⟩ hw h1 h2 h3) (fun g11 l12 a13 b14 H locs hp15 hw => ?_)
        obtain ⟨h16, h17, h18, h19⟩ := hp15
        exact False.elim h19
    refine lv_icmp_ge (tgt := 39) hx hb dX6_judgeControl_15 (by decide) (fun cc20 => ?_) (fun cc20 => ?_)
    · refine lv_iload_n hx hb dX6_judgeControl_39 rfl (lv_at hl 2 rfl) ?_
      refine lv_iconst (v := 5) hx hb dX6_judgeControl_40 (by decide) ?_
      refine lv_ishr hx hb dX6_judgeControl_41 (jx_nm fun z21 hz21 => ?_)
      refine lv_iconst (v := 3) hx hb dX6_judgeControl_42 (by decide) ?_
      refine lv_iand hx hb dX6_judgeControl_43 (jx_nm fun z22 hz22 => ?_)
      refine lv_iload_n hx hb dX6_judgeControl_44 rfl (lv_at hl 3 rfl) ?_
      refine lv_icmp_ge (tgt := 52) hx hb dX6_judgeControl_45 (by decide) (fun cc23 => ?_) (fun cc23 => ?_)
      · refine lv_iconst (v := 0) hx hb dX6_judgeControl_52 (by decide) ?_
        exact B3 0 ls _ _ (ob36 (((0 : Int32)).toInt) (by decide)) hw (lv_sub hl [1] rfl)
      · refine lv_iconst (v := 1) hx hb dX6_judgeControl_48 (by decide) ?_
        refine lv_goto (tgt := 53) hx hb dX6_judgeControl_49 (by decide) ?_
        exact B3 1 ls _ _ (ob37 (((1 : Int32)).toInt) (by decide)) hw (lv_sub hl [1] rfl)
    · refine lv_iload_n hx hb dX6_judgeControl_18 rfl (lv_at hl 2 rfl) ?_
      refine lv_iload_n hx hb dX6_judgeControl_19 rfl (lv_at hl 0 rfl) ?_
      have B24 : ∀  (x25 : Int32) (ls : Array Slot) (H : Heap) (locs : List Loc), 1 ≤ (x25).toInt ∧ (x25).toInt ≤ 2 → hk_W D (jT cI cJ) A s H locs (xw cI cJ ad g lg ar bk) → lv_has ls 5 [(0, .ref (ad 25))] → W p l e { frames := 7, cells := 1, slots := 6, locals := 102 } s m args below meth c H locs 0 0 Q (F0 m 28 ls [.int x25, .int y1]) := by
        intro x25 ls H locs hf_B24_0 hw hl
        refine lv_icmp_le (tgt := 35) hx hb dX6_judgeControl_28 (by decide) (fun cc26 => ?_) (fun cc26 => ?_)
        · refine lv_iconst (v := 0) hx hb dX6_judgeControl_35 (by decide) ?_
          refine lv_goto (tgt := 53) hx hb dX6_judgeControl_36 (by decide) ?_
          exact B3 0 ls _ _ (ob36 (((0 : Int32)).toInt) (by decide)) hw (lv_sub hl [0] rfl)
        · refine lv_iconst (v := 1) hx hb dX6_judgeControl_31 (by decide) ?_
          refine lv_goto (tgt := 53) hx hb dX6_judgeControl_32 (by decide) ?_
          exact B3 1 ls _ _ (ob37 (((1 : Int32)).toInt) (by decide)) hw (lv_sub hl [0] rfl)
      refine lv_if_eq (tgt := 27) hx hb dX6_judgeControl_20 (by decide) (fun cc27 => ?_) (fun cc27 => ?_)
      · refine lv_iconst (v := 2) hx hb dX6_judgeControl_27 (by decide) ?_
        exact B24 2 ls _ _ (ob281 (((2 : Int32)).toInt) (by decide)) hw (lv_sub hl [1] rfl)
      · refine lv_iconst (v := 1) hx hb dX6_judgeControl_23 (by decide) ?_
        refine lv_goto (tgt := 28) hx hb dX6_judgeControl_24 (by decide) ?_
        exact B24 1 ls _ _ (ob351 (((1 : Int32)).toInt) (by decide)) hw (lv_sub hl [1] rfl)
  refine lv_icmp_ne (tgt := 9) hx hb dX6_judgeControl_2 (by decide) (fun cc28 => ?_) (fun cc28 => ?_)
  · refine lv_iconst (v := 0) hx hb dX6_judgeControl_9 (by decide) ?_
    exact B1 0 ls _ _ (ob36 (((0 : Int32)).toInt) (by decide)) hw (lv_sub hl [0, 1, 2] rfl)
  · refine lv_iconst (v := 1) hx hb dX6_judgeControl_5 (by decide) ?_
    refine lv_goto (tgt := 10) hx hb dX6_judgeControl_6 (by decide) ?_
    exact B1 1 ls _ _ (ob37 (((1 : Int32)).toInt) (by decide)) hw (lv_sub hl [0, 1, 2] rfl)

set_option maxHeartbeats 4000000 in
set_option maxRecDepth 100000 in
/-- X6_readPlain on (25,) -/
theorem jx_X6_readPlain (l : Launch) (hlt : l.stackTraces = false) (D : va_G) (t3 : Nat × Nat × Nat) (cI cJ : ClassId) (ad : Nat → Nat) (g : Nat → Int32) (lg : Nat → Int64) (ar : Nat → Nat → Int32) (bk : Nat → Int64) (sz : Nat) (y1 : Int32) (hi_g14 : 0 ≤ (g 14).toInt ∧ (g 14).toInt ≤ 3000) (hi_a0rg : hk_rg 0 255 (ar 0)) : JMv l yX6_readPlain (Cond.code yX6_readPlain cX6_readPlain 5 none :: wwX) { frames := 8, cells := 1, slots := 6, locals := 125 } t3 D xw cI cJ ad [.ref (ad 25), .int y1] (xw cI cJ ad g lg ar bk) sz 1 6 (fun g' lg' ar' bk' => hk_fr [14, 15, 17, 43] g g' ∧ hk_fr [] lg lg' ∧ hk_fr [1] ar ar' ∧ (0 ≤ (g' 14).toInt ∧ (g' 14).toInt ≤ 3000)) (fun g' lg' ar' bk' => hk_fr [14, 15, 17, 43] g g' ∧ hk_fr [] lg lg' ∧ hk_fr [1] ar ar' ∧ (0 ≤ (g' 14).toInt ∧ (g' 14).toInt ≤ 3000)) := by
  refine jx_metv (cc := cX6_readPlain) (maxL := 5) (ret := none) rfl (by decide) rfl (Nat.le_of_ble_eq_true rfl) ?_
  intro p e s m args below meth c ls Q A hx hb hml hown hts hA hZ hw hl hQ kr kt
  have hq : ∀ w ∈ wwX, w.before args s = true := fun w h => hts w (List.mem_cons_of_mem _ h)
  have hl : lv_has ls 5 [(0, .ref (ad 25)), (1, .int y1)] := hl
  refine lv_aload_n hx hb dX6_readPlain_0 rfl (lv_at hl 0 rfl) ?_
  refine hk_get (ci := 9) (C := RX6) (T := TX6) (N := 16) (v := .ref (ad 6)) hx hb hts (fun _ h => List.mem_cons_of_mem _ (wwXc_wsX60 _ h)) hown hw 25 rfl rfl 0 (by decide) (hq _ wX_399) rfl dX6_readPlain_1 ?_
  refine lv_iconst (v := 2) hx hb dX6_readPlain_4 (by decide) ?_
  refine jx_Vi (As := [.int 2]) (rest := []) ⟨hx, hb, hml, hown, hts⟩ hZ hw hA (jx_X8_high l hlt D t3 cI cJ ad g lg ar bk _ 2 hi_a0rg) (cwV 1 hts (jx_gV wwX_good wX_502 wX_259 wX_260 wX_252 wX_261) rfl rfl rfl (by decide +kernel) ⟨Nat.le_of_ble_eq_true rfl, Nat.le_of_ble_eq_true rfl⟩) 6 (ci := 11) (T := TX8) (N := 4) rfl rfl rfl hl.1 rfl (Nat.le_of_ble_eq_true rfl) dX6_readPlain_5 ⟨Nat.le_of_ble_eq_true rfl, Nat.le_of_ble_eq_true rfl⟩ (fun u1 u2 u3 u4 H locs ce q hp hw h1 h2 h3 => by obtain ⟨ht0, ht1, ht2⟩ := hp; have e_u1_14 : u1 14 = (g 14) := (ht0 14 rfl); exact kt _ _ _ _ _ _ _ _ _ _ _ ⟨(hk_frT hk_fr0 (by decide) ht0), ht1, (hk_frT hk_fr0 (by decide) ht2), (ob333 ((u1 14).toInt) ((g 14).toInt) (congrArg Int32.toInt e_u1_14) hi_g14 (hE_rng (u1 14)) (hE_rng (g 14)))⟩ hw h1 h2 h3) (fun r5 g6 l7 a8 b9 H locs hp10 hw => ?_)
  obtain ⟨h11, h12, h13⟩ := hp10
  refine lv_iconst (v := 1) hx hb dX6_readPlain_8 (by decide) ?_
  refine lv_iadd hx hb dX6_readPlain_9 (jx_nm fun z14 hz14 => ?_)
  refine lv_istore_n (lv' := [(2, .int z14), (0, .ref (ad 25)), (1, .int y1)]) hx hb dX6_readPlain_10 rfl hl (by decide) rfl (fun ls hl => ?_)
  refine lv_iload_n hx hb dX6_readPlain_11 rfl (lv_at hl 2 rfl) ?_
  refine lv_iconst (v := 1) hx hb dX6_readPlain_12 (by decide) ?_
  have B15 : ∀  (g16 : Nat → Int32) (ls : Array Slot) (H : Heap) (locs : List Loc), hk_fr [43] g6 g16 → hk_W D (jT cI cJ) A s H locs (xw cI cJ ad g16 l7 a8 b9) → lv_has ls 5 [(0, .ref (ad 25)), (2, .int z14)] → W p l e { frames := 8, cells := 1, slots := 6, locals := 125 } s m args below meth c H locs 0 0 Q (F0 m 27 ls []) := by
    intro g16 ls H locs hfr_g16 hw hl
    refine lv_iconst (v := 0) hx hb dX6_readPlain_27 (by decide) ?_
    refine lv_istore_n (lv' := [(3, .int 0), (0, .ref (ad 25)), (2, .int z14)]) hx hb dX6_readPlain_28 rfl hl (by decide) rfl (fun ls hl => ?_)
    have B17 : ∀ (k21 : Nat) (x18 : Int32) (g19 : Nat → Int32) (a20 : Nat → Nat → Int32) (ls : Array Slot) (H : Heap) (locs : List Loc), 2147483648 - (x18).toInt ≤ (k21 : Int) → 0 ≤ (x18).toInt → 0 ≤ (g19 14).toInt ∧ (g19 14).toInt ≤ 3000 → hk_fr [14, 15, 17] g16 g19 → hk_fr [1] a8 a20 → hk_W D (jT cI cJ) A s H locs (xw cI cJ ad g19 l7 a20 b9) → lv_has ls 5 [(0, .ref (ad 25)), (2, .int z14), (3, .int x18)] → W p l e { frames := 8, cells := 1, slots := 6, locals := 125 } s m args below meth c H locs 0 0 Q (F0 m 29 ls []) := by
      intro k21
      induction k21 with
      | zero =>
        intro x18 g19 a20 ls H locs hrk_B17 hf_B17_0 hf_B17_1 hfr_g19 hfr_a20 hw hl
        exact False.elim (hk_no0 (0 * (x18).toInt) (ob5 ((x18).toInt) hf_B17_0 hrk_B17 (hE_rng (x18))) (by simp))
      | succ k21 ih_B17 =>
        intro x18 g19 a20 ls H locs hrk_B17 hf_B17_0 hf_B17_1 hfr_g19 hfr_a20 hw hl
        have hrk_B17 := hk_rk hrk_B17
        refine lv_iload_n hx hb dX6_readPlain_29 rfl (lv_at hl 2 rfl) ?_
        refine lv_iload_n hx hb dX6_readPlain_30 rfl (lv_at hl 1 rfl) ?_
        refine lv_icmp_ge (tgt := 80) hx hb dX6_readPlain_31 (by decide) (fun cc22 => ?_) (fun cc22 => ?_)
        · exact kr g19 l7 a20 b9 _ _ _ _ ⟨(hk_frT (hk_frT (hk_frT hk_fr0 (by decide) h11) (by decide) hfr_g16) (by decide) hfr_g19), h12, (hk_frT (hk_frT hk_fr0 (by decide) h13) (by decide) hfr_a20), (ob347 ((g19 14).toInt) hf_B17_1 (hE_rng (g19 14)))⟩ hw dX6_readPlain_80
        · refine lv_aload_n hx hb dX6_readPlain_34 rfl (lv_at hl 0 rfl) ?_
          refine hk_get (ci := 9) (C := RX6) (T := TX6) (N := 16) (v := .ref (ad 6)) hx hb hts (fun _ h => List.mem_cons_of_mem _ (wwXc_wsX60 _ h)) hown hw 25 rfl rfl 0 (by decide) (hq _ wX_399) rfl dX6_readPlain_35 ?_
          refine jx_Vi (As := []) (rest := []) ⟨hx, hb, hml, hown, hts⟩ hZ hw hA (jx_X8_next l hlt D t3 cI cJ ad g19 l7 a20 b9 _ (hk_pE (P := hk_rg 0 255) (hk_pE (P := hk_rg 0 255) hi_a0rg (h13 0 rfl)) (hfr_a20 0 rfl))) (cwV 0 hts (jx_gV wwX_good wX_430 wX_250 wX_251 wX_252 wX_253) rfl rfl rfl (by decide +kernel) ⟨Nat.le_of_ble_eq_true rfl, Nat.le_of_ble_eq_true rfl⟩) 6 (ci := 11) (T := TX8) (N := 4) rfl rfl rfl hl.1 rfl (Nat.le_of_ble_eq_true rfl) dX6_readPlain_38 ⟨Nat.le_of_ble_eq_true rfl, Nat.le_of_ble_eq_true rfl⟩ (fun u23 u24 u25 u26 H locs ce q hp hw h1 h2 h3 => by obtain ⟨ht0, ht1, ht2⟩ := hp; have e_u23_14 : u23 14 = (g19 14) := (ht0 14 rfl); exact kt _ _ _ _ _ _ _ _ _ _ _ ⟨(hk_frT (hk_frT (hk_frT (hk_frT hk_fr0 (by decide) h11) (by decide) hfr_g16) (by decide) hfr_g19) (by decide) ht0), (hk_frT h12 (by decide) ht1), (hk_frT (hk_frT (hk_frT hk_fr0 (by decide) h13) (by decide) hfr_a20) (by decide) ht2), (ob333 ((u23 14).toInt) ((g19 14).toInt) (congrArg Int32.toInt e_u23_14) hf_B17_1 (hE_rng (u23 14)) (hE_rng (g19 14)))⟩ hw h1 h2 h3) (fun r27 g28 l29 a30 b31 H locs hp32 hw => ?_)
          obtain ⟨h33, h34, h35, h36⟩ := hp32
          have hr37 : hk_rg 0 255 (a30 0) := (hk_pE (P := hk_rg 0 255) (hk_pE (P := hk_rg 0 255) (hk_pE (P := hk_rg 0 255) hi_a0rg (h13 0 rfl)) (hfr_a20 0 rfl)) (h35 0 rfl))
          refine lv_istore (lv' := [(4, .int r27), (0, .ref (ad 25)), (2, .int z14), (3, .int x18)]) hx hb dX6_readPlain_41 hl (by decide) rfl (fun ls hl => ?_)
          refine lv_aload_n hx hb dX6_readPlain_43 rfl (lv_at hl 1 rfl) ?_
          refine hk_get (ci := 9) (C := RX6) (T := TX6) (N := 16) (v := .ref (ad 4)) hx hb hts (fun _ h => List.mem_cons_of_mem _ (wwXc_wsX60 _ h)) hown hw 25 rfl rfl 1 (by decide) (hq _ wX_410) rfl dX6_readPlain_44 ?_
          have e_g28_14 : g28 14 = (g19 14) := (h33 14 rfl)
          refine hk_get (ci := 12) (C := RX9) (T := TX9) (N := 2) (v := .int (g19 14)) hx hb hts (fun _ h => List.mem_cons_of_mem _ (wwXc_wsX90 _ h)) hown hw 4 rfl rfl 1 (by decide) (hq _ wX_402) (congrArg (fun z => some (Value.int z)) e_g28_14) dX6_readPlain_47 ?_
          refine lv_sipush (v := 3000) hx hb dX6_readPlain_50 (by decide) ?_
          have B38 : ∀  (g39 : Nat → Int32) (ls : Array Slot) (H : Heap) (locs : List Loc), hk_fr [17] g28 g39 → hk_W D (jT cI cJ) A s H locs (xw cI cJ ad g39 l29 a30 b31) → lv_has ls 5 [(0, .ref (ad 25)), (2, .int z14), (3, .int x18), (4, .int r27)] → W p l e { frames := 8, cells := 1, slots := 6, locals := 125 } s m args below meth c H locs 0 0 Q (F0 m 65 ls []) := by
            intro g39 ls H locs hfr_g39 hw hl
            refine lv_aload_n hx hb dX6_readPlain_65 rfl (lv_at hl 0 rfl) ?_
            refine hk_get (ci := 9) (C := RX6) (T := TX6) (N := 16) (v := .ref (ad 4)) hx hb hts (fun _ h => List.mem_cons_of_mem _ (wwXc_wsX60 _ h)) hown hw 25 rfl rfl 1 (by decide) (hq _ wX_410) rfl dX6_readPlain_66 ?_
            refine lv_iload hx hb dX6_readPlain_69 (lv_at hl 3 rfl) ?_
            refine jx_Vv (As := [.int r27]) (rest := []) ⟨hx, hb, hml, hown, hts⟩ hZ hw hA (jx_X9_put_4 l hlt D t3 cI cJ ad g39 l29 a30 b31 _ r27) (cwV 1 hts (jx_gV wwX_good wX_501 wX_112 wX_113 wX_24 wX_114) rfl rfl rfl (by decide +kernel) ⟨Nat.le_of_ble_eq_true rfl, Nat.le_of_ble_eq_true rfl⟩) 4 (ci := 12) (T := TX9) (N := 2) rfl rfl rfl hl.1 rfl (Nat.le_of_ble_eq_true rfl) dX6_readPlain_71 ⟨Nat.le_of_ble_eq_true rfl, Nat.le_of_ble_eq_true rfl⟩ (fun _ _ _ _ _ _ _ _ hp _ _ _ _ => hp.elim) (fun g45 l46 a47 b48 H locs hp49 hw => ?_)
            obtain ⟨h50, h51, h52, h53⟩ := hp49
            have e_g39_14 : g39 14 = (g19 14) := ((hfr_g39 14 rfl)).trans e_g28_14
            obtain ⟨z54, hz54⟩ : ∃ z : Int32, x18 + 1 = z := ⟨_, rfl⟩
            refine lv_iinc (v := z54) (lv' := [(3, .int z54), (0, .ref (ad 25)), (2, .int z14), (4, .int r27)]) hx hb dX6_readPlain_74 hl (k := 2) rfl hz54 (by decide) rfl (fun ls hl => ?_)
            refine lv_goto (tgt := 29) hx hb dX6_readPlain_77 (by decide) ?_
            exact ih_B17 z54 g45 a47 ls _ _ (ob352 ((z54).toInt) (k21 : Int) ((x18).toInt) (((1 : Int32)).toInt) ((z14).toInt) ((r5).toInt) hrk_B17 (hE_add hz54) (hE_add hz14) hf_B17_0 (hE_nle cc22) (hE_rng (z54)) (hE_rng (x18)) (by decide) (hE_rng (z14)) (hE_rng (r5))) (ob353 ((z54).toInt) ((x18).toInt) (((1 : Int32)).toInt) ((z14).toInt) ((r5).toInt) (k21 : Int) (hE_add hz54) (hE_add hz14) hf_B17_0 hrk_B17 (hE_nle cc22) (hE_rng (z54)) (hE_rng (x18)) (by decide) (hE_rng (z14)) (hE_rng (r5))) (ob354 ((g45 14).toInt) ((g39 14).toInt) ((g19 14).toInt) ((g28 14).toInt) h53 (congrArg Int32.toInt e_g39_14) hf_B17_1 (congrArg Int32.toInt e_g28_14) (hE_rng (g45 14)) (hE_rng (g39 14)) (hE_rng (g19 14)) (hE_rng (g28 14))) (hk_frT (hk_frT (hk_frT hfr_g19 (by decide) h33) (by decide) hfr_g39) (by decide) h50) (hk_frT (hk_frT hfr_a20 (by decide) h35) (by decide) h52) hw (lv_sub hl [1, 2, 0] rfl)
          refine lv_icmp_lt (tgt := 65) hx hb dX6_readPlain_53 (by decide) (fun cc55 => ?_) (fun cc55 => ?_)
          · exact B38 g28 ls _ _ hk_fr0 hw (lv_sub hl [1, 2, 3, 0] rfl)
          · refine lv_aload_n hx hb dX6_readPlain_56 rfl (lv_at hl 1 rfl) ?_
            refine hk_get (ci := 9) (C := RX6) (T := TX6) (N := 16) (v := .ref (ad 6)) hx hb hts (fun _ h => List.mem_cons_of_mem _ (wwXc_wsX60 _ h)) hown hw 25 rfl rfl 0 (by decide) (hq _ wX_399) rfl dX6_readPlain_57 ?_
            refine lv_bipush (v := 13) hx hb dX6_readPlain_60 (by decide) ?_
            refine jx_Vv (As := [.int 13]) (rest := []) ⟨hx, hb, hml, hown, hts⟩ hZ hw hA (jx_X8_fail l hlt D t3 cI cJ ad g28 l29 a30 b31 _ 13) (cwV 1 hts (jx_gV wwX_good wX_403 wX_255 wX_256 wX_252 wX_257) rfl rfl rfl (by decide +kernel) ⟨Nat.le_of_ble_eq_true rfl, Nat.le_of_ble_eq_true rfl⟩) 6 (ci := 11) (T := TX8) (N := 4) rfl rfl rfl hl.1 rfl (Nat.le_of_ble_eq_true rfl) dX6_readPlain_62 ⟨Nat.le_of_ble_eq_true rfl, Nat.le_of_ble_eq_true rfl⟩ (fun u56 u57 u58 u59 H locs ce q hp hw h1 h2 h3 => by obtain ⟨ht0, ht1, ht2⟩ := hp; have e_u56_14 : u56 14 = (g19 14) := ((ht0 14 rfl)).trans e_g28_14; exact kt _ _ _ _ _ _ _ _ _ _ _ ⟨(hk_frT (hk_frT (hk_frT (hk_frT (hk_frT hk_fr0 (by decide) h11) (by decide) hfr_g16) (by decide) hfr_g19) (by decide) h33) (by decide) ht0), (hk_frT (hk_frT h12 (by decide) h34) (by decide) ht1), (hk_frT (hk_frT (hk_frT (hk_frT hk_fr0 (by decide) h13) (by decide) hfr_a20) (by decide) h35) (by decide) ht2), (ob355 ((u56 14).toInt) ((g19 14).toInt) ((g28 14).toInt) (((3000 : Int32)).toInt) (congrArg Int32.toInt e_u56_14) hf_B17_1 (congrArg Int32.toInt e_g28_14) (hE_nlt cc55) (hE_rng (u56 14)) (hE_rng (g19 14)) (hE_rng (g28 14)) (by decide))⟩ hw h1 h2 h3) (fun g61 l62 a63 b64 H locs hp65 hw => ?_)
            obtain ⟨h66, h67, h68, h69⟩ := hp65
            exact False.elim h69
    have e_g16_14 : g16 14 = (g 14) := ((hfr_g16 14 rfl)).trans (h11 14 rfl)
    exact B17 (2147483648 - ((0 : Int32)).toInt).toNat 0 g16 a8 ls _ _ (Int.self_le_toNat _) (ob10 (((0 : Int32)).toInt) (by decide)) (ob333 ((g16 14).toInt) ((g 14).toInt) (congrArg Int32.toInt e_g16_14) hi_g14 (hE_rng (g16 14)) (hE_rng (g 14))) hk_fr0 hk_fr0 hw (lv_sub hl [1, 2, 0] rfl)
  refine lv_icmp_ne (tgt := 27) hx hb dX6_readPlain_13 (by decide) (fun cc70 => ?_) (fun cc70 => ?_)
  · exact B15 g6 ls _ _ hk_fr0 hw (lv_sub hl [1, 0] rfl)
  · refine lv_aload_n hx hb dX6_readPlain_16 rfl (lv_at hl 1 rfl) ?_
    refine lv_aload_n hx hb dX6_readPlain_17 rfl (lv_at hl 1 rfl) ?_
    refine hk_get (ci := 9) (C := RX6) (T := TX6) (N := 16) (v := .ref (ad 4)) hx hb hts (fun _ h => List.mem_cons_of_mem _ (wwXc_wsX60 _ h)) hown hw 25 rfl rfl 1 (by decide) (hq _ wX_410) rfl dX6_readPlain_18 ?_
    have e_g6_14 : g6 14 = (g 14) := (h11 14 rfl)
    refine hk_get (ci := 12) (C := RX9) (T := TX9) (N := 2) (v := .int (g 14)) hx hb hts (fun _ h => List.mem_cons_of_mem _ (wwXc_wsX90 _ h)) hown hw 4 rfl rfl 1 (by decide) (hq _ wX_402) (congrArg (fun z => some (Value.int z)) e_g6_14) dX6_readPlain_21 ?_
    refine jx_putg xw (g := g6) (lg := l7) (ar := a8) (bk := b9) (x := (g 14)) 43 (ci := 9) (C := RX6) (T := TX6) (N := 16) (ty := .int) hx hb hts (fun _ h => List.mem_cons_of_mem _ (wwXc_wsX60 _ h)) tyX6 tyX6_ok nmX6 hown hw 25 rfl rfl 9 (by decide) (hq _ wX_422) rfl (by decide +kernel) rfl rfl (Nat.le_of_ble_eq_true rfl) dX6_readPlain_24 rfl (fun H locs g71 h_g71 hw => ?_)
    exact B15 g71 ls _ _ (hk_frG hk_fr0 (by decide) h_g71) hw (lv_sub hl [1, 0] rfl)

set_option maxHeartbeats 4000000 in
set_option maxRecDepth 100000 in
/-- X6_readChunkHead on (25,) -/
theorem jx_X6_readChunkHead (l : Launch) (hlt : l.stackTraces = false) (D : va_G) (t3 : Nat × Nat × Nat) (cI cJ : ClassId) (ad : Nat → Nat) (g : Nat → Int32) (lg : Nat → Int64) (ar : Nat → Nat → Int32) (bk : Nat → Int64) (sz : Nat) (y1 : Int32) (hi_a0rg : hk_rg 0 255 (ar 0)) (hi_g21 : 0 ≤ (g 21).toInt ∧ (g 21).toInt ≤ 4) (hi_g22 : 0 ≤ (g 22).toInt ∧ (g 22).toInt ≤ 4) : JMi l yX6_readChunkHead (Cond.code yX6_readChunkHead cX6_readChunkHead 5 (some .int) :: wwX) { frames := 8, cells := 1, slots := 6, locals := 125 } t3 D xw cI cJ ad [.ref (ad 25), .int y1] (xw cI cJ ad g lg ar bk) sz 1 6 (fun (r : Int32) g' lg' ar' bk' => hk_fr [15, 16, 17, 21, 22, 23, 24, 43, 47] g g' ∧ hk_fr [] lg lg' ∧ hk_fr [2] ar ar' ∧ (0 ≤ (g' 21).toInt ∧ (g' 21).toInt ≤ 4) ∧ (0 ≤ (g' 22).toInt ∧ (g' 22).toInt ≤ 4)) (fun g' lg' ar' bk' => hk_fr [15, 16, 17, 21, 22, 23, 24, 43, 47] g g' ∧ hk_fr [] lg lg' ∧ hk_fr [2] ar ar' ∧ (0 ≤ (g' 21).toInt ∧ (g' 21).toInt ≤ 4) ∧ (0 ≤ (g' 22).toInt ∧ (g' 22).toInt ≤ 4)) := by
  refine jx_meti (cc := cX6_readChunkHead) (maxL := 5) (ret := (some .int)) rfl (by decide) rfl (Nat.le_of_ble_eq_true rfl) ?_
  intro p e s m args below meth c ls Q A hx hb hml hown hts hA hZ hw hl hQ kr kt
  have hq : ∀ w ∈ wwX, w.before args s = true := fun w h => hts w (List.mem_cons_of_mem _ h)
  have hl : lv_has ls 5 [(0, .ref (ad 25)), (1, .int y1)] := hl
  refine lv_iload_n hx hb dX6_readChunkHead_0 rfl (lv_at hl 1 rfl) ?_
  refine lv_iconst (v := 5) hx hb dX6_readChunkHead_1 (by decide) ?_
  refine lv_ishr hx hb dX6_readChunkHead_2 (jx_nm fun z1 hz1 => ?_)
  refine lv_iconst (v := 3) hx hb dX6_readChunkHead_3 (by decide) ?_
  refine lv_iand hx hb dX6_readChunkHead_4 (jx_nm fun z2 hz2 => ?_)
  refine lv_istore_n (lv' := [(2, .int z2), (0, .ref (ad 25)), (1, .int y1)]) hx hb dX6_readChunkHead_5 rfl hl (by decide) rfl (fun ls hl => ?_)
  refine lv_iload_n hx hb dX6_readChunkHead_6 rfl (lv_at hl 2 rfl) ?_
  refine lv_bipush (v := 31) hx hb dX6_readChunkHead_7 (by decide) ?_
  refine lv_iand hx hb dX6_readChunkHead_9 (jx_nm fun z3 hz3 => ?_)
  refine lv_bipush (v := 16) hx hb dX6_readChunkHead_10 (by decide) ?_
  refine lv_ishl hx hb dX6_readChunkHead_12 (jx_nm fun z4 hz4 => ?_)
  refine lv_aload_n hx hb dX6_readChunkHead_13 rfl (lv_at hl 1 rfl) ?_
  refine hk_get (ci := 9) (C := RX6) (T := TX6) (N := 16) (v := .ref (ad 6)) hx hb hts (fun _ h => List.mem_cons_of_mem _ (wwXc_wsX60 _ h)) hown hw 25 rfl rfl 0 (by decide) (hq _ wX_399) rfl dX6_readChunkHead_14 ?_
  refine lv_iconst (v := 2) hx hb dX6_readChunkHead_17 (by decide) ?_
  refine jx_Vi (As := [.int 2]) (rest := [.int z4]) ⟨hx, hb, hml, hown, hts⟩ hZ hw hA (jx_X8_high l hlt D t3 cI cJ ad g lg ar bk _ 2 hi_a0rg) (cwV 1 hts (jx_gV wwX_good wX_502 wX_259 wX_260 wX_252 wX_261) rfl rfl rfl (by decide +kernel) ⟨Nat.le_of_ble_eq_true rfl, Nat.le_of_ble_eq_true rfl⟩) 6 (ci := 11) (T := TX8) (N := 4) rfl rfl rfl hl.1 rfl (Nat.le_of_ble_eq_true rfl) dX6_readChunkHead_18 ⟨Nat.le_of_ble_eq_true rfl, Nat.le_of_ble_eq_true rfl⟩ (fun u5 u6 u7 u8 H locs ce q hp hw h1 h2 h3 => by obtain ⟨ht0, ht1, ht2⟩ := hp; have e_u5_21 : u5 21 = (g 21) := (ht0 21 rfl); have e_u5_22 : u5 22 = (g 22) := (ht0 22 rfl); exact kt _ _ _ _ _ _ _ _ _ _ _ ⟨(hk_frT hk_fr0 (by decide) ht0), ht1, (hk_frT hk_fr0 (by decide) ht2), (ob61 ((u5 21).toInt) ((g 21).toInt) (congrArg Int32.toInt e_u5_21) hi_g21 (hE_rng (u5 21)) (hE_rng (g 21))), (ob61 ((u5 22).toInt) ((g 22).toInt) (congrArg Int32.toInt e_u5_22) hi_g22 (hE_rng (u5 22)) (hE_rng (g 22)))⟩ hw h1 h2 h3) (fun r9 g10 l11 a12 b13 H locs hp14 hw => ?_)
  obtain ⟨h15, h16, h17⟩ := hp14
  refine lv_ior hx hb dX6_readChunkHead_21 (jx_nm fun z18 hz18 => ?_)
  refine lv_iconst (v := 1) hx hb dX6_readChunkHead_22 (by decide) ?_
  refine lv_iadd hx hb dX6_readChunkHead_23 (jx_nm fun z19 hz19 => ?_)
  refine lv_istore_n (lv' := [(3, .int z19), (2, .int z2), (0, .ref (ad 25)), (1, .int y1)]) hx hb dX6_readChunkHead_24 rfl hl (by decide) rfl (fun ls hl => ?_)
  refine lv_aload_n hx hb dX6_readChunkHead_25 rfl (lv_at hl 2 rfl) ?_
  refine hk_get (ci := 9) (C := RX6) (T := TX6) (N := 16) (v := .ref (ad 6)) hx hb hts (fun _ h => List.mem_cons_of_mem _ (wwXc_wsX60 _ h)) hown hw 25 rfl rfl 0 (by decide) (hq _ wX_399) rfl dX6_readChunkHead_26 ?_
  refine lv_iconst (v := 2) hx hb dX6_readChunkHead_29 (by decide) ?_
  refine jx_Vi (As := [.int 2]) (rest := []) ⟨hx, hb, hml, hown, hts⟩ hZ hw hA (jx_X8_high l hlt D t3 cI cJ ad g10 l11 a12 b13 _ 2 (hk_pE (P := hk_rg 0 255) hi_a0rg (h17 0 rfl))) (cwV 1 hts (jx_gV wwX_good wX_502 wX_259 wX_260 wX_252 wX_261) rfl rfl rfl (by decide +kernel) ⟨Nat.le_of_ble_eq_true rfl, Nat.le_of_ble_eq_true rfl⟩) 6 (ci := 11) (T := TX8) (N := 4) rfl rfl rfl hl.1 rfl (Nat.le_of_ble_eq_true rfl) dX6_readChunkHead_30 ⟨Nat.le_of_ble_eq_true rfl, Nat.le_of_ble_eq_true rfl⟩ (fun u20 u21 u22 u23 H locs ce q hp hw h1 h2 h3 => by obtain ⟨ht0, ht1, ht2⟩ := hp; have e_u20_21 : u20 21 = (g 21) := ((ht0 21 rfl)).trans (h15 21 rfl); have e_u20_22 : u20 22 = (g 22) := ((ht0 22 rfl)).trans (h15 22 rfl); exact kt _ _ _ _ _ _ _ _ _ _ _ ⟨(hk_frT (hk_frT hk_fr0 (by decide) h15) (by decide) ht0), (hk_frT h16 (by decide) ht1), (hk_frT (hk_frT hk_fr0 (by decide) h17) (by decide) ht2), (ob61 ((u20 21).toInt) ((g 21).toInt) (congrArg Int32.toInt e_u20_21) hi_g21 (hE_rng (u20 21)) (hE_rng (g 21))), (ob61 ((u20 22).toInt) ((g 22).toInt) (congrArg Int32.toInt e_u20_22) hi_g22 (hE_rng (u20 22)) (hE_rng (g 22)))⟩ hw h1 h2 h3) (fun r24 g25 l26 a27 b28 H locs hp29 hw => ?_)
  obtain ⟨h30, h31, h32⟩ := hp29
  have hr33 : hk_rg 0 255 (a27 0) := (hk_pE (P := hk_rg 0 255) (hk_pE (P := hk_rg 0 255) hi_a0rg (h17 0 rfl)) (h32 0 rfl))
  refine lv_iconst (v := 1) hx hb dX6_readChunkHead_33 (by decide) ?_
  refine lv_iadd hx hb dX6_readChunkHead_34 (jx_nm fun z34 hz34 => ?_)
  refine lv_istore (lv' := [(4, .int z34), (3, .int z19), (2, .int z2), (0, .ref (ad 25)), (1, .int y1)]) hx hb dX6_readChunkHead_35 hl (by decide) rfl (fun ls hl => ?_)
  refine lv_iload_n hx hb dX6_readChunkHead_37 rfl (lv_at hl 2 rfl) ?_
  refine lv_iconst (v := 1) hx hb dX6_readChunkHead_38 (by decide) ?_
  have B35 : ∀  (g36 : Nat → Int32) (ls : Array Slot) (H : Heap) (locs : List Loc), 0 ≤ (g36 21).toInt ∧ (g36 21).toInt ≤ 4 → 0 ≤ (g36 22).toInt ∧ (g36 22).toInt ≤ 4 → hk_fr [15, 17, 21, 22, 23] g25 g36 → hk_W D (jT cI cJ) A s H locs (xw cI cJ ad g36 l26 a27 b28) → lv_has ls 5 [(0, .ref (ad 25)), (2, .int z2), (3, .int z19), (4, .int z34)] → W p l e { frames := 8, cells := 1, slots := 6, locals := 125 } s m args below meth c H locs 0 0 Q (F0 m 46 ls []) := by
    intro g36 ls H locs hf_B35_0 hf_B35_1 hfr_g36 hw hl
    refine lv_iload_n hx hb dX6_readChunkHead_46 rfl (lv_at hl 1 rfl) ?_
    have B37 : ∀  (g38 : Nat → Int32) (a39 : Nat → Nat → Int32) (b40 : Nat → Int64) (ls : Array Slot) (H : Heap) (locs : List Loc), hk_fr [24] g36 g38 → hk_fr [2] a27 a39 → hk_W D (jT cI cJ) A s H locs (xw cI cJ ad g38 l26 a39 b40) → lv_has ls 5 [(0, .ref (ad 25)), (2, .int z2), (3, .int z19), (4, .int z34)] → W p l e { frames := 8, cells := 1, slots := 6, locals := 125 } s m args below meth c H locs 0 0 Q (F0 m 57 ls []) := by
      intro g38 a39 b40 ls H locs hfr_g38 hfr_a39 hw hl
      refine lv_iload_n hx hb dX6_readChunkHead_57 rfl (lv_at hl 1 rfl) ?_
      refine lv_iconst (v := 3) hx hb dX6_readChunkHead_58 (by decide) ?_
      have B41 : ∀  (g42 : Nat → Int32) (ls : Array Slot) (H : Heap) (locs : List Loc), hk_fr [43] g38 g42 → hk_W D (jT cI cJ) A s H locs (xw cI cJ ad g42 l26 a39 b40) → lv_has ls 5 [(0, .ref (ad 25)), (3, .int z19), (4, .int z34)] → W p l e { frames := 8, cells := 1, slots := 6, locals := 125 } s m args below meth c H locs 0 0 Q (F0 m 73 ls []) := by
        intro g42 ls H locs hfr_g42 hw hl
        refine lv_aload_n hx hb dX6_readChunkHead_73 rfl (lv_at hl 0 rfl) ?_
        refine lv_aload_n hx hb dX6_readChunkHead_74 rfl (lv_at hl 0 rfl) ?_
        refine hk_get (ci := 9) (C := RX6) (T := TX6) (N := 16) (v := .ref (ad 6)) hx hb hts (fun _ h => List.mem_cons_of_mem _ (wwXc_wsX60 _ h)) hown hw 25 rfl rfl 0 (by decide) (hq _ wX_399) rfl dX6_readChunkHead_75 ?_
        have e_g42_15 : g42 15 = (g36 15) := ((hfr_g42 15 rfl)).trans (hfr_g38 15 rfl)
        refine hk_get (ci := 11) (C := RX8) (T := TX8) (N := 4) (v := .int (g36 15)) hx hb hts (fun _ h => List.mem_cons_of_mem _ (wwXc_wsX80 _ h)) hown hw 6 rfl rfl 1 (by decide) (hq _ wX_400) (congrArg (fun z => some (Value.int z)) e_g42_15) dX6_readChunkHead_78 ?_
        refine lv_iload hx hb dX6_readChunkHead_81 (lv_at hl 2 rfl) ?_
        refine lv_iadd hx hb dX6_readChunkHead_83 (jx_nm fun z43 hz43 => ?_)
        refine jx_putg xw (g := g42) (lg := l26) (ar := a39) (bk := b40) (x := z43) 47 (ci := 9) (C := RX6) (T := TX6) (N := 16) (ty := .int) hx hb hts (fun _ h => List.mem_cons_of_mem _ (wwXc_wsX60 _ h)) tyX6 tyX6_ok nmX6 hown hw 25 rfl rfl 13 (by decide) (hq _ wX_428) rfl (by decide +kernel) rfl rfl (Nat.le_of_ble_eq_true rfl) dX6_readChunkHead_84 rfl (fun H locs g44 h_g44 hw => ?_)
        refine lv_aload_n hx hb dX6_readChunkHead_87 rfl (lv_at hl 0 rfl) ?_
        refine hk_get (ci := 9) (C := RX6) (T := TX6) (N := 16) (v := .ref (ad 6)) hx hb hts (fun _ h => List.mem_cons_of_mem _ (wwXc_wsX60 _ h)) hown hw 25 rfl rfl 0 (by decide) (hq _ wX_399) rfl dX6_readChunkHead_88 ?_
        refine lv_aload_n hx hb dX6_readChunkHead_91 rfl (lv_at hl 0 rfl) ?_
        have e_g44_47 : g44 47 = z43 := (hk_upgS h_g44)
        refine hk_get (ci := 9) (C := RX6) (T := TX6) (N := 16) (v := .int z43) hx hb hts (fun _ h => List.mem_cons_of_mem _ (wwXc_wsX60 _ h)) hown hw 25 rfl rfl 13 (by decide) (hq _ wX_428) (congrArg (fun z => some (Value.int z)) e_g44_47) dX6_readChunkHead_92 ?_
        refine lv_aload_n hx hb dX6_readChunkHead_95 rfl (lv_at hl 0 rfl) ?_
        refine hk_get (ci := 9) (C := RX6) (T := TX6) (N := 16) (v := .ref (ad 6)) hx hb hts (fun _ h => List.mem_cons_of_mem _ (wwXc_wsX60 _ h)) hown hw 25 rfl rfl 0 (by decide) (hq _ wX_399) rfl dX6_readChunkHead_96 ?_
        refine hk_get (ci := 11) (C := RX8) (T := TX8) (N := 4) (v := .ref (ad 2)) hx hb hts (fun _ h => List.mem_cons_of_mem _ (wwXc_wsX80 _ h)) hown hw 6 rfl rfl 0 (by decide) (hq _ wX_401) rfl dX6_readChunkHead_99 ?_
        have e_g44_13 : g44 13 = (g 13) := ((hk_upgN h_g44 13 rfl)).trans (((hfr_g42 13 rfl)).trans (((hfr_g38 13 rfl)).trans (((hfr_g36 13 rfl)).trans (((h30 13 rfl)).trans (h15 13 rfl)))))
        refine hk_get (ci := 12) (C := RX9) (T := TX9) (N := 2) (v := .int (g 13)) hx hb hts (fun _ h => List.mem_cons_of_mem _ (wwXc_wsX90 _ h)) hown hw 2 rfl rfl 1 (by decide) (hq _ wX_402) (congrArg (fun z => some (Value.int z)) e_g44_13) dX6_readChunkHead_102 ?_
        refine jx_Si (As := [.int z43, .int (g 13)]) (rest := [.ref (ad 6)]) ⟨hx, hb, hml, hown, hts⟩ hZ hw hA (jx_J9_min_7cf53 l hlt D t3 cI cJ ad g44 l26 a39 b40 _ z43 (g 13)) (va_cwS 2 hts (jx_gS wwX_good wX_503 wX_146 wX_143 wX_147) rfl rfl rfl (by decide +kernel) ⟨Nat.le_of_ble_eq_true rfl, Nat.le_of_ble_eq_true rfl⟩) rfl hl.1 rfl (Nat.le_of_ble_eq_true rfl) dX6_readChunkHead_105 ⟨Nat.le_of_ble_eq_true rfl, Nat.le_of_ble_eq_true rfl⟩ (fun _ _ _ _ _ _ _ _ hp _ _ _ _ => hp.elim) (fun r49 g50 l51 a52 b53 H locs hp54 hw => ?_)
        obtain ⟨h55, h56, h57, h58⟩ := hp54
        have hr59 : hk_rg 0 255 (a52 0) := (hk_pE (P := hk_rg 0 255) (hk_pE (P := hk_rg 0 255) hr33 (hfr_a39 0 rfl)) (h57 0 rfl))
        refine jx_putg xw (g := g50) (lg := l51) (ar := a52) (bk := b53) (x := r49) 16 (ci := 11) (C := RX8) (T := TX8) (N := 4) (ty := .int) hx hb hts (fun _ h => List.mem_cons_of_mem _ (wwXc_wsX80 _ h)) tyX8 tyX8_ok nmX8 hown hw 6 rfl rfl 2 (by decide) (hq _ wX_429) rfl (by decide +kernel) rfl rfl (Nat.le_of_ble_eq_true rfl) dX6_readChunkHead_108 rfl (fun H locs g60 h_g60 hw => ?_)
        refine lv_iload_n hx hb dX6_readChunkHead_111 rfl (lv_at hl 1 rfl) ?_
        have e_g60_21 : g60 21 = (g36 21) := ((hk_upgN h_g60 21 rfl)).trans (((h55 21 rfl)).trans (((hk_upgN h_g44 21 rfl)).trans (((hfr_g42 21 rfl)).trans (hfr_g38 21 rfl))))
        have e_g60_22 : g60 22 = (g36 22) := ((hk_upgN h_g60 22 rfl)).trans (((h55 22 rfl)).trans (((hk_upgN h_g44 22 rfl)).trans (((hfr_g42 22 rfl)).trans (hfr_g38 22 rfl))))
        exact kr z19 g60 l51 a52 b53 _ _ _ _ ⟨(hk_frG (hk_frT (hk_frG (hk_frT (hk_frT (hk_frT (hk_frT (hk_frT hk_fr0 (by decide) h15) (by decide) h30) (by decide) hfr_g36) (by decide) hfr_g38) (by decide) hfr_g42) (by decide) h_g44) (by decide) h55) (by decide) h_g60), (hk_frT (hk_frT h16 (by decide) h31) (by decide) h56), (hk_frT (hk_frT (hk_frT (hk_frT hk_fr0 (by decide) h17) (by decide) h32) (by decide) hfr_a39) (by decide) h57), (ob61 ((g60 21).toInt) ((g36 21).toInt) (congrArg Int32.toInt e_g60_21) hf_B35_0 (hE_rng (g60 21)) (hE_rng (g36 21))), (ob61 ((g60 22).toInt) ((g36 22).toInt) (congrArg Int32.toInt e_g60_22) hf_B35_1 (hE_rng (g60 22)) (hE_rng (g36 22)))⟩ hw dX6_readChunkHead_112
      refine lv_icmp_ne (tgt := 73) hx hb dX6_readChunkHead_59 (by decide) (fun cc61 => ?_) (fun cc61 => ?_)
      · exact B41 g38 ls _ _ hk_fr0 hw (lv_sub hl [0, 2, 3] rfl)
      · refine lv_aload_n hx hb dX6_readChunkHead_62 rfl (lv_at hl 0 rfl) ?_
        refine lv_aload_n hx hb dX6_readChunkHead_63 rfl (lv_at hl 0 rfl) ?_
        refine hk_get (ci := 9) (C := RX6) (T := TX6) (N := 16) (v := .ref (ad 4)) hx hb hts (fun _ h => List.mem_cons_of_mem _ (wwXc_wsX60 _ h)) hown hw 25 rfl rfl 1 (by decide) (hq _ wX_410) rfl dX6_readChunkHead_64 ?_
        have e_g38_14 : g38 14 = (g 14) := ((hfr_g38 14 rfl)).trans (((hfr_g36 14 rfl)).trans (((h30 14 rfl)).trans (h15 14 rfl)))
        refine hk_get (ci := 12) (C := RX9) (T := TX9) (N := 2) (v := .int (g 14)) hx hb hts (fun _ h => List.mem_cons_of_mem _ (wwXc_wsX90 _ h)) hown hw 4 rfl rfl 1 (by decide) (hq _ wX_402) (congrArg (fun z => some (Value.int z)) e_g38_14) dX6_readChunkHead_67 ?_
        refine jx_putg xw (g := g38) (lg := l26) (ar := a39) (bk := b40) (x := (g 14)) 43 (ci := 9) (C := RX6) (T := TX6) (N := 16) (ty := .int) hx hb hts (fun _ h => List.mem_cons_of_mem _ (wwXc_wsX60 _ h)) tyX6 tyX6_ok nmX6 hown hw 25 rfl rfl 9 (by decide) (hq _ wX_422) rfl (by decide +kernel) rfl rfl (Nat.le_of_ble_eq_true rfl) dX6_readChunkHead_70 rfl (fun H locs g62 h_g62 hw => ?_)
        exact B41 g62 ls _ _ (hk_frG hk_fr0 (by decide) h_g62) hw (lv_sub hl [0, 2, 3] rfl)
    refine lv_if_le (tgt := 57) hx hb dX6_readChunkHead_47 (by decide) (fun cc63 => ?_) (fun cc63 => ?_)
    · exact B37 g36 a27 b28 ls _ _ hk_fr0 hk_fr0 hw (lv_sub hl [0, 1, 2, 3] rfl)
    · refine lv_aload_n hx hb dX6_readChunkHead_50 rfl (lv_at hl 0 rfl) ?_
      refine hk_get (ci := 9) (C := RX6) (T := TX6) (N := 16) (v := .ref (ad 9)) hx hb hts (fun _ h => List.mem_cons_of_mem _ (wwXc_wsX60 _ h)) hown hw 25 rfl rfl 2 (by decide) (hq _ wX_413) rfl dX6_readChunkHead_51 ?_
      refine jx_Vv (As := []) (rest := []) ⟨hx, hb, hml, hown, hts⟩ hZ hw hA (jx_X5_reset l hlt D t3 cI cJ ad g36 l26 a27 b28 _ (ob256 ((g36 21).toInt) hf_B35_0 (hE_rng (g36 21))) (ob256 ((g36 22).toInt) hf_B35_1 (hE_rng (g36 22)))) (cwV 0 hts (jx_gV wwX_good wX_418 wX_419 wX_420 wX_215 wX_421) rfl rfl rfl (by decide +kernel) ⟨Nat.le_of_ble_eq_true rfl, Nat.le_of_ble_eq_true rfl⟩) 9 (ci := 8) (T := TX5) (N := 6) rfl rfl rfl hl.1 rfl (Nat.le_of_ble_eq_true rfl) dX6_readChunkHead_54 ⟨Nat.le_of_ble_eq_true rfl, Nat.le_of_ble_eq_true rfl⟩ (fun _ _ _ _ _ _ _ _ hp _ _ _ _ => hp.elim) (fun g69 l70 a71 b72 H locs hp73 hw => ?_)
      obtain ⟨h74, h75, h76⟩ := hp73
      exact B37 g69 a71 b72 ls _ _ h74 h76 hw (lv_sub hl [0, 1, 2, 3] rfl)
  refine lv_icmp_le (tgt := 46) hx hb dX6_readChunkHead_39 (by decide) (fun cc77 => ?_) (fun cc77 => ?_)
  · have e_g25_21 : g25 21 = (g 21) := ((h30 21 rfl)).trans (h15 21 rfl)
    have e_g25_22 : g25 22 = (g 22) := ((h30 22 rfl)).trans (h15 22 rfl)
    exact B35 g25 ls _ _ (ob61 ((g25 21).toInt) ((g 21).toInt) (congrArg Int32.toInt e_g25_21) hi_g21 (hE_rng (g25 21)) (hE_rng (g 21))) (ob61 ((g25 22).toInt) ((g 22).toInt) (congrArg Int32.toInt e_g25_22) hi_g22 (hE_rng (g25 22)) (hE_rng (g 22))) hk_fr0 hw (lv_sub hl [3, 2, 1, 0] rfl)
  · refine lv_aload_n hx hb dX6_readChunkHead_42 rfl (lv_at hl 3 rfl) ?_
    have e_g25_21 : g25 21 = (g 21) := ((h30 21 rfl)).trans (h15 21 rfl)
    have e_g25_22 : g25 22 = (g 22) := ((h30 22 rfl)).trans (h15 22 rfl)
    refine jx_Vv (As := []) (rest := []) ⟨hx, hb, hml, hown, hts⟩ hZ hw hA (jx_X6_readProperties l hlt D t3 cI cJ ad g25 l26 a27 b28 _ hr33 (ob61 ((g25 21).toInt) ((g 21).toInt) (congrArg Int32.toInt e_g25_21) hi_g21 (hE_rng (g25 21)) (hE_rng (g 21))) (ob61 ((g25 22).toInt) ((g 22).toInt) (congrArg Int32.toInt e_g25_22) hi_g22 (hE_rng (g25 22)) (hE_rng (g 22)))) (cwV 0 hts (jx_gV wwX_good wX_438 wX_439 wX_440 wX_441 wX_442) rfl rfl rfl (by decide +kernel) ⟨Nat.le_of_ble_eq_true rfl, Nat.le_of_ble_eq_true rfl⟩) 25 (ci := 9) (T := TX6) (N := 16) rfl rfl rfl hl.1 rfl (Nat.le_of_ble_eq_true rfl) dX6_readChunkHead_43 ⟨Nat.le_of_ble_eq_true rfl, Nat.le_of_ble_eq_true rfl⟩ (fun u78 u79 u80 u81 H locs ce q hp hw h1 h2 h3 => by obtain ⟨ht0, ht1, ht2, ht3, ht4⟩ := hp; exact kt _ _ _ _ _ _ _ _ _ _ _ ⟨(hk_frT (hk_frT (hk_frT hk_fr0 (by decide) h15) (by decide) h30) (by decide) ht0), (hk_frT (hk_frT h16 (by decide) h31) (by decide) ht1), (hk_frT (hk_frT (hk_frT hk_fr0 (by decide) h17) (by decide) h32) (by decide) ht2), (ob256 ((u78 21).toInt) ht3 (hE_rng (u78 21))), (ob256 ((u78 22).toInt) ht4 (hE_rng (u78 22)))⟩ hw h1 h2 h3) (fun g83 l84 a85 b86 H locs hp87 hw => ?_)
    obtain ⟨h88, h89, h90, h91, h92⟩ := hp87
    exact B35 g83 ls _ _ (ob256 ((g83 21).toInt) h91 (hE_rng (g83 21))) (ob256 ((g83 22).toInt) h92 (hE_rng (g83 22))) h88 hw (lv_sub hl [3, 2, 1, 0] rfl)

set_option maxHeartbeats 4000000 in
set_option maxRecDepth 100000 in
/-- X6_endChunk on (25,) -/
theorem jx_X6_endChunk (l : Launch) (hlt : l.stackTraces = false) (D : va_G) (t3 : Nat × Nat × Nat) (cI cJ : ClassId) (ad : Nat → Nat) (g : Nat → Int32) (lg : Nat → Int64) (ar : Nat → Nat → Int32) (bk : Nat → Int64) (sz : Nat) : JMv l yX6_endChunk (Cond.code yX6_endChunk cX6_endChunk 1 none :: wwX) { frames := 7, cells := 1, slots := 6, locals := 102 } t3 D xw cI cJ ad [.ref (ad 25)] (xw cI cJ ad g lg ar bk) sz 1 6 (fun g' lg' ar' bk' => hk_fr [16, 17] g g' ∧ hk_fr [] lg lg' ∧ hk_fr [] ar ar') (fun g' lg' ar' bk' => hk_fr [16, 17] g g' ∧ hk_fr [] lg lg' ∧ hk_fr [] ar ar') := by
  refine jx_metv (cc := cX6_endChunk) (maxL := 1) (ret := none) rfl (by decide) rfl (Nat.le_of_ble_eq_true rfl) ?_
  intro p e s m args below meth c ls Q A hx hb hml hown hts hA hZ hw hl hQ kr kt
  have hq : ∀ w ∈ wwX, w.before args s = true := fun w h => hts w (List.mem_cons_of_mem _ h)
  have hl : lv_has ls 1 [(0, .ref (ad 25))] := hl
  refine lv_aload_n hx hb dX6_endChunk_0 rfl (lv_at hl 0 rfl) ?_
  refine hk_get (ci := 9) (C := RX6) (T := TX6) (N := 16) (v := .ref (ad 9)) hx hb hts (fun _ h => List.mem_cons_of_mem _ (wwXc_wsX60 _ h)) hown hw 25 rfl rfl 2 (by decide) (hq _ wX_413) rfl dX6_endChunk_1 ?_
  refine hk_get (ci := 8) (C := RX5) (T := TX5) (N := 6) (v := .ref (ad 7)) hx hb hts (fun _ h => List.mem_cons_of_mem _ (wwXc_wsX50 _ h)) hown hw 9 rfl rfl 0 (by decide) (hq _ wX_426) rfl dX6_endChunk_4 ?_
  refine hk_get (ci := 5) (C := RX2) (T := TX2) (N := 9) (v := .long (lg 2)) hx hb hts (fun _ h => List.mem_cons_of_mem _ (wwXc_wsX20 _ h)) hown hw 7 rfl rfl 6 (by decide) (hq _ wX_427) rfl dX6_endChunk_7 ?_
  refine lv_lconst (v := 0) hx hb dX6_endChunk_10 (by decide) ?_
  have B1 : ∀  (g2 : Nat → Int32) (ls : Array Slot) (H : Heap) (locs : List Loc), hk_fr [17] g g2 → hk_W D (jT cI cJ) A s H locs (xw cI cJ ad g2 lg ar bk) → lv_has ls 1 [(0, .ref (ad 25))] → W p l e { frames := 7, cells := 1, slots := 6, locals := 102 } s m args below meth c H locs 0 0 Q (F0 m 24 ls []) := by
    intro g2 ls H locs hfr_g2 hw hl
    refine lv_aload_n hx hb dX6_endChunk_24 rfl (lv_at hl 0 rfl) ?_
    refine hk_get (ci := 9) (C := RX6) (T := TX6) (N := 16) (v := .ref (ad 6)) hx hb hts (fun _ h => List.mem_cons_of_mem _ (wwXc_wsX60 _ h)) hown hw 25 rfl rfl 0 (by decide) (hq _ wX_399) rfl dX6_endChunk_25 ?_
    have e_g2_15 : g2 15 = (g 15) := (hfr_g2 15 rfl)
    refine hk_get (ci := 11) (C := RX8) (T := TX8) (N := 4) (v := .int (g 15)) hx hb hts (fun _ h => List.mem_cons_of_mem _ (wwXc_wsX80 _ h)) hown hw 6 rfl rfl 1 (by decide) (hq _ wX_400) (congrArg (fun z => some (Value.int z)) e_g2_15) dX6_endChunk_28 ?_
    refine lv_aload_n hx hb dX6_endChunk_31 rfl (lv_at hl 0 rfl) ?_
    have e_g2_47 : g2 47 = (g 47) := (hfr_g2 47 rfl)
    refine hk_get (ci := 9) (C := RX6) (T := TX6) (N := 16) (v := .int (g 47)) hx hb hts (fun _ h => List.mem_cons_of_mem _ (wwXc_wsX60 _ h)) hown hw 25 rfl rfl 13 (by decide) (hq _ wX_428) (congrArg (fun z => some (Value.int z)) e_g2_47) dX6_endChunk_32 ?_
    have B3 : ∀  (g4 : Nat → Int32) (ls : Array Slot) (H : Heap) (locs : List Loc), hk_fr [17] g2 g4 → hk_W D (jT cI cJ) A s H locs (xw cI cJ ad g4 lg ar bk) → lv_has ls 1 [(0, .ref (ad 25))] → W p l e { frames := 7, cells := 1, slots := 6, locals := 102 } s m args below meth c H locs 0 0 Q (F0 m 46 ls []) := by
      intro g4 ls H locs hfr_g4 hw hl
      refine lv_aload_n hx hb dX6_endChunk_46 rfl (lv_at hl 0 rfl) ?_
      refine hk_get (ci := 9) (C := RX6) (T := TX6) (N := 16) (v := .ref (ad 6)) hx hb hts (fun _ h => List.mem_cons_of_mem _ (wwXc_wsX60 _ h)) hown hw 25 rfl rfl 0 (by decide) (hq _ wX_399) rfl dX6_endChunk_47 ?_
      refine lv_aload_n hx hb dX6_endChunk_50 rfl (lv_at hl 0 rfl) ?_
      refine hk_get (ci := 9) (C := RX6) (T := TX6) (N := 16) (v := .ref (ad 6)) hx hb hts (fun _ h => List.mem_cons_of_mem _ (wwXc_wsX60 _ h)) hown hw 25 rfl rfl 0 (by decide) (hq _ wX_399) rfl dX6_endChunk_51 ?_
      refine hk_get (ci := 11) (C := RX8) (T := TX8) (N := 4) (v := .ref (ad 2)) hx hb hts (fun _ h => List.mem_cons_of_mem _ (wwXc_wsX80 _ h)) hown hw 6 rfl rfl 0 (by decide) (hq _ wX_401) rfl dX6_endChunk_54 ?_
      have e_g4_13 : g4 13 = (g 13) := ((hfr_g4 13 rfl)).trans (hfr_g2 13 rfl)
      refine hk_get (ci := 12) (C := RX9) (T := TX9) (N := 2) (v := .int (g 13)) hx hb hts (fun _ h => List.mem_cons_of_mem _ (wwXc_wsX90 _ h)) hown hw 2 rfl rfl 1 (by decide) (hq _ wX_402) (congrArg (fun z => some (Value.int z)) e_g4_13) dX6_endChunk_57 ?_
      refine jx_putg xw (g := g4) (lg := lg) (ar := ar) (bk := bk) (x := (g 13)) 16 (ci := 11) (C := RX8) (T := TX8) (N := 4) (ty := .int) hx hb hts (fun _ h => List.mem_cons_of_mem _ (wwXc_wsX80 _ h)) tyX8 tyX8_ok nmX8 hown hw 6 rfl rfl 2 (by decide) (hq _ wX_429) rfl (by decide +kernel) rfl rfl (Nat.le_of_ble_eq_true rfl) dX6_endChunk_60 rfl (fun H locs g5 h_g5 hw => ?_)
      exact kr g5 lg ar bk _ _ _ _ ⟨(hk_frG (hk_frT (hk_frT hk_fr0 (by decide) hfr_g2) (by decide) hfr_g4) (by decide) h_g5), hk_fr0, hk_fr0⟩ hw dX6_endChunk_63
    refine lv_icmp_eq (tgt := 46) hx hb dX6_endChunk_35 (by decide) (fun cc6 => ?_) (fun cc6 => ?_)
    · exact B3 g2 ls _ _ hk_fr0 hw (lv_sub hl [0] rfl)
    · refine lv_aload_n hx hb dX6_endChunk_38 rfl (lv_at hl 0 rfl) ?_
      refine hk_get (ci := 9) (C := RX6) (T := TX6) (N := 16) (v := .ref (ad 6)) hx hb hts (fun _ h => List.mem_cons_of_mem _ (wwXc_wsX60 _ h)) hown hw 25 rfl rfl 0 (by decide) (hq _ wX_399) rfl dX6_endChunk_39 ?_
      refine lv_iconst (v := 5) hx hb dX6_endChunk_42 (by decide) ?_
      refine jx_Vv (As := [.int 5]) (rest := []) ⟨hx, hb, hml, hown, hts⟩ hZ hw hA (jx_X8_fail l hlt D t3 cI cJ ad g2 lg ar bk _ 5) (cwV 1 hts (jx_gV wwX_good wX_403 wX_255 wX_256 wX_252 wX_257) rfl rfl rfl (by decide +kernel) ⟨Nat.le_of_ble_eq_true rfl, Nat.le_of_ble_eq_true rfl⟩) 6 (ci := 11) (T := TX8) (N := 4) rfl rfl rfl hl.1 rfl (Nat.le_of_ble_eq_true rfl) dX6_endChunk_43 ⟨Nat.le_of_ble_eq_true rfl, Nat.le_of_ble_eq_true rfl⟩ (fun u7 u8 u9 u10 H locs ce q hp hw h1 h2 h3 => by obtain ⟨ht0, ht1, ht2⟩ := hp; exact kt _ _ _ _ _ _ _ _ _ _ _ ⟨(hk_frT (hk_frT hk_fr0 (by decide) hfr_g2) (by decide) ht0), ht1, ht2⟩ hw h1 h2 h3) (fun g12 l13 a14 b15 H locs hp16 hw => ?_)
      obtain ⟨h17, h18, h19, h20⟩ := hp16
      exact False.elim h20
  refine hk_lcmp_eq (tgt := 24) hx hb dX6_endChunk_11 dX6_endChunk_12 (by decide) (fun cc21 => ?_) (fun cc21 => ?_)
  · exact B1 g ls _ _ hk_fr0 hw (lv_sub hl [0] rfl)
  · refine lv_aload_n hx hb dX6_endChunk_15 rfl (lv_at hl 0 rfl) ?_
    refine hk_get (ci := 9) (C := RX6) (T := TX6) (N := 16) (v := .ref (ad 6)) hx hb hts (fun _ h => List.mem_cons_of_mem _ (wwXc_wsX60 _ h)) hown hw 25 rfl rfl 0 (by decide) (hq _ wX_399) rfl dX6_endChunk_16 ?_
    refine lv_bipush (v := 7) hx hb dX6_endChunk_19 (by decide) ?_
    refine jx_Vv (As := [.int 7]) (rest := []) ⟨hx, hb, hml, hown, hts⟩ hZ hw hA (jx_X8_fail l hlt D t3 cI cJ ad g lg ar bk _ 7) (cwV 1 hts (jx_gV wwX_good wX_403 wX_255 wX_256 wX_252 wX_257) rfl rfl rfl (by decide +kernel) ⟨Nat.le_of_ble_eq_true rfl, Nat.le_of_ble_eq_true rfl⟩) 6 (ci := 11) (T := TX8) (N := 4) rfl rfl rfl hl.1 rfl (Nat.le_of_ble_eq_true rfl) dX6_endChunk_21 ⟨Nat.le_of_ble_eq_true rfl, Nat.le_of_ble_eq_true rfl⟩ (fun u22 u23 u24 u25 H locs ce q hp hw h1 h2 h3 => by obtain ⟨ht0, ht1, ht2⟩ := hp; exact kt _ _ _ _ _ _ _ _ _ _ _ ⟨(hk_frT hk_fr0 (by decide) ht0), ht1, ht2⟩ hw h1 h2 h3) (fun g27 l28 a29 b30 H locs hp31 hw => ?_)
    obtain ⟨h32, h33, h34, h35⟩ := hp31
    exact False.elim h35

set_option maxHeartbeats 4000000 in
set_option maxRecDepth 100000 in
/-- X6_readChunks on (25,) -/
theorem jx_X6_readChunks (l : Launch) (hlt : l.stackTraces = false) (D : va_G) (t3 : Nat × Nat × Nat) (cI cJ : ClassId) (ad : Nat → Nat) (g : Nat → Int32) (lg : Nat → Int64) (ar : Nat → Nat → Int32) (bk : Nat → Int64) (sz : Nat) (hi_g14 : 0 ≤ (g 14).toInt ∧ (g 14).toInt ≤ 3000) (hi_g45 : 0 ≤ (g 45).toInt ∧ (g 45).toInt ≤ 3000) (hi_g21 : 0 ≤ (g 21).toInt ∧ (g 21).toInt ≤ 4) (hi_g22 : 0 ≤ (g 22).toInt ∧ (g 22).toInt ≤ 4) (hi_a0rg : hk_rg 0 255 (ar 0)) : JMv l yX6_readChunks (Cond.code yX6_readChunks cX6_readChunks 4 none :: wwX) { frames := 12, cells := 1, slots := 6, locals := 237 } t3 D xw cI cJ ad [.ref (ad 25)] (xw cI cJ ad g lg ar bk) sz 1 6 (fun g' lg' ar' bk' => hk_fr [14, 15, 16, 17, 18, 19, 20, 21, 22, 23, 24, 25, 43, 45, 46, 47, 48, 49] g g' ∧ hk_fr [0, 1, 2] lg lg' ∧ hk_fr [1, 2, 6] ar ar' ∧ (0 ≤ (g' 14).toInt ∧ (g' 14).toInt ≤ 3000) ∧ (0 ≤ (g' 45).toInt ∧ (g' 45).toInt ≤ 3000) ∧ (0 ≤ (g' 21).toInt ∧ (g' 21).toInt ≤ 4) ∧ (0 ≤ (g' 22).toInt ∧ (g' 22).toInt ≤ 4)) (fun g' lg' ar' bk' => hk_fr [14, 15, 16, 17, 18, 19, 20, 21, 22, 23, 24, 25, 43, 45, 46, 47, 48, 49] g g' ∧ hk_fr [0, 1, 2] lg lg' ∧ hk_fr [1, 2, 6] ar ar' ∧ (0 ≤ (g' 14).toInt ∧ (g' 14).toInt ≤ 3000) ∧ (0 ≤ (g' 45).toInt ∧ (g' 45).toInt ≤ 3000) ∧ (0 ≤ (g' 21).toInt ∧ (g' 21).toInt ≤ 4) ∧ (0 ≤ (g' 22).toInt ∧ (g' 22).toInt ≤ 4)) := by
  refine jx_metv (cc := cX6_readChunks) (maxL := 4) (ret := none) rfl (by decide) rfl (Nat.le_of_ble_eq_true rfl) ?_
  intro p e s m args below meth c ls Q A hx hb hml hown hts hA hZ hw hl hQ kr kt
  have hq : ∀ w ∈ wwX, w.before args s = true := fun w h => hts w (List.mem_cons_of_mem _ h)
  have hl : lv_has ls 4 [(0, .ref (ad 25))] := hl
  refine lv_aload_n hx hb dX6_readChunks_0 rfl (lv_at hl 0 rfl) ?_
  refine lv_aload_n hx hb dX6_readChunks_1 rfl (lv_at hl 0 rfl) ?_
  refine hk_get (ci := 9) (C := RX6) (T := TX6) (N := 16) (v := .ref (ad 4)) hx hb hts (fun _ h => List.mem_cons_of_mem _ (wwXc_wsX60 _ h)) hown hw 25 rfl rfl 1 (by decide) (hq _ wX_410) rfl dX6_readChunks_2 ?_
  refine hk_get (ci := 12) (C := RX9) (T := TX9) (N := 2) (v := .int (g 14)) hx hb hts (fun _ h => List.mem_cons_of_mem _ (wwXc_wsX90 _ h)) hown hw 4 rfl rfl 1 (by decide) (hq _ wX_402) rfl dX6_readChunks_5 ?_
  refine jx_putg xw (g := g) (lg := lg) (ar := ar) (bk := bk) (x := (g 14)) 45 (ci := 9) (C := RX6) (T := TX6) (N := 16) (ty := .int) hx hb hts (fun _ h => List.mem_cons_of_mem _ (wwXc_wsX60 _ h)) tyX6 tyX6_ok nmX6 hown hw 25 rfl rfl 11 (by decide) (hq _ wX_432) rfl (by decide +kernel) rfl rfl (Nat.le_of_ble_eq_true rfl) dX6_readChunks_8 rfl (fun H locs g1 h_g1 hw => ?_)
  refine lv_aload_n hx hb dX6_readChunks_11 rfl (lv_at hl 0 rfl) ?_
  refine lv_aload_n hx hb dX6_readChunks_12 rfl (lv_at hl 0 rfl) ?_
  refine hk_get (ci := 9) (C := RX6) (T := TX6) (N := 16) (v := .ref (ad 4)) hx hb hts (fun _ h => List.mem_cons_of_mem _ (wwXc_wsX60 _ h)) hown hw 25 rfl rfl 1 (by decide) (hq _ wX_410) rfl dX6_readChunks_13 ?_
  have e_g1_14 : g1 14 = (g 14) := (hk_upgN h_g1 14 rfl)
  refine hk_get (ci := 12) (C := RX9) (T := TX9) (N := 2) (v := .int (g 14)) hx hb hts (fun _ h => List.mem_cons_of_mem _ (wwXc_wsX90 _ h)) hown hw 4 rfl rfl 1 (by decide) (hq _ wX_402) (congrArg (fun z => some (Value.int z)) e_g1_14) dX6_readChunks_16 ?_
  refine jx_putg xw (g := g1) (lg := lg) (ar := ar) (bk := bk) (x := (g 14)) 43 (ci := 9) (C := RX6) (T := TX6) (N := 16) (ty := .int) hx hb hts (fun _ h => List.mem_cons_of_mem _ (wwXc_wsX60 _ h)) tyX6 tyX6_ok nmX6 hown hw 25 rfl rfl 9 (by decide) (hq _ wX_422) rfl (by decide +kernel) rfl rfl (Nat.le_of_ble_eq_true rfl) dX6_readChunks_19 rfl (fun H locs g2 h_g2 hw => ?_)
  refine lv_aload_n hx hb dX6_readChunks_22 rfl (lv_at hl 0 rfl) ?_
  refine lv_aload_n hx hb dX6_readChunks_23 rfl (lv_at hl 0 rfl) ?_
  refine hk_get (ci := 9) (C := RX6) (T := TX6) (N := 16) (v := .ref (ad 6)) hx hb hts (fun _ h => List.mem_cons_of_mem _ (wwXc_wsX60 _ h)) hown hw 25 rfl rfl 0 (by decide) (hq _ wX_399) rfl dX6_readChunks_24 ?_
  have e_g2_15 : g2 15 = (g 15) := ((hk_upgN h_g2 15 rfl)).trans (hk_upgN h_g1 15 rfl)
  refine hk_get (ci := 11) (C := RX8) (T := TX8) (N := 4) (v := .int (g 15)) hx hb hts (fun _ h => List.mem_cons_of_mem _ (wwXc_wsX80 _ h)) hown hw 6 rfl rfl 1 (by decide) (hq _ wX_400) (congrArg (fun z => some (Value.int z)) e_g2_15) dX6_readChunks_27 ?_
  refine jx_putg xw (g := g2) (lg := lg) (ar := ar) (bk := bk) (x := (g 15)) 46 (ci := 9) (C := RX6) (T := TX6) (N := 16) (ty := .int) hx hb hts (fun _ h => List.mem_cons_of_mem _ (wwXc_wsX60 _ h)) tyX6 tyX6_ok nmX6 hown hw 25 rfl rfl 12 (by decide) (hq _ wX_504) rfl (by decide +kernel) rfl rfl (Nat.le_of_ble_eq_true rfl) dX6_readChunks_30 rfl (fun H locs g3 h_g3 hw => ?_)
  refine lv_aload_n hx hb dX6_readChunks_33 rfl (lv_at hl 0 rfl) ?_
  refine lv_iconst (v := 0) hx hb dX6_readChunks_34 (by decide) ?_
  refine jx_putg xw (g := g3) (lg := lg) (ar := ar) (bk := bk) (x := 0) 48 (ci := 9) (C := RX6) (T := TX6) (N := 16) (ty := .int) hx hb hts (fun _ h => List.mem_cons_of_mem _ (wwXc_wsX60 _ h)) tyX6 tyX6_ok nmX6 hown hw 25 rfl rfl 14 (by decide) (hq _ wX_433) rfl (by decide +kernel) rfl rfl (Nat.le_of_ble_eq_true rfl) dX6_readChunks_35 rfl (fun H locs g4 h_g4 hw => ?_)
  refine lv_aload_n hx hb dX6_readChunks_38 rfl (lv_at hl 0 rfl) ?_
  refine hk_get (ci := 9) (C := RX6) (T := TX6) (N := 16) (v := .ref (ad 9)) hx hb hts (fun _ h => List.mem_cons_of_mem _ (wwXc_wsX60 _ h)) hown hw 25 rfl rfl 2 (by decide) (hq _ wX_413) rfl dX6_readChunks_39 ?_
  have e_g4_21 : g4 21 = (g 21) := ((hk_upgN h_g4 21 rfl)).trans (((hk_upgN h_g3 21 rfl)).trans (((hk_upgN h_g2 21 rfl)).trans (hk_upgN h_g1 21 rfl)))
  have e_g4_22 : g4 22 = (g 22) := ((hk_upgN h_g4 22 rfl)).trans (((hk_upgN h_g3 22 rfl)).trans (((hk_upgN h_g2 22 rfl)).trans (hk_upgN h_g1 22 rfl)))
  refine jx_Vv (As := []) (rest := []) ⟨hx, hb, hml, hown, hts⟩ hZ hw hA (jx_X5_reset l hlt D t3 cI cJ ad g4 lg ar bk _ (ob61 ((g4 21).toInt) ((g 21).toInt) (congrArg Int32.toInt e_g4_21) hi_g21 (hE_rng (g4 21)) (hE_rng (g 21))) (ob61 ((g4 22).toInt) ((g 22).toInt) (congrArg Int32.toInt e_g4_22) hi_g22 (hE_rng (g4 22)) (hE_rng (g 22)))) (cwV 0 hts (jx_gV wwX_good wX_418 wX_419 wX_420 wX_215 wX_421) rfl rfl rfl (by decide +kernel) ⟨Nat.le_of_ble_eq_true rfl, Nat.le_of_ble_eq_true rfl⟩) 9 (ci := 8) (T := TX5) (N := 6) rfl rfl rfl hl.1 rfl (Nat.le_of_ble_eq_true rfl) dX6_readChunks_42 ⟨Nat.le_of_ble_eq_true rfl, Nat.le_of_ble_eq_true rfl⟩ (fun _ _ _ _ _ _ _ _ hp _ _ _ _ => hp.elim) (fun g10 l11 a12 b13 H locs hp14 hw => ?_)
  obtain ⟨h15, h16, h17⟩ := hp14
  refine lv_iconst (v := 3) hx hb dX6_readChunks_45 (by decide) ?_
  refine lv_istore_n (lv' := [(1, .int 3), (0, .ref (ad 25))]) hx hb dX6_readChunks_46 rfl hl (by decide) rfl (fun ls hl => ?_)
  refine lv_aload_n hx hb dX6_readChunks_47 rfl (lv_at hl 1 rfl) ?_
  refine hk_get (ci := 9) (C := RX6) (T := TX6) (N := 16) (v := .ref (ad 6)) hx hb hts (fun _ h => List.mem_cons_of_mem _ (wwXc_wsX60 _ h)) hown hw 25 rfl rfl 0 (by decide) (hq _ wX_399) rfl dX6_readChunks_48 ?_
  refine jx_Vi (As := []) (rest := []) ⟨hx, hb, hml, hown, hts⟩ hZ hw hA (jx_X8_next l hlt D t3 cI cJ ad g10 l11 a12 b13 _ (hk_pE (P := hk_rg 0 255) hi_a0rg (h17 0 rfl))) (cwV 0 hts (jx_gV wwX_good wX_430 wX_250 wX_251 wX_252 wX_253) rfl rfl rfl (by decide +kernel) ⟨Nat.le_of_ble_eq_true rfl, Nat.le_of_ble_eq_true rfl⟩) 6 (ci := 11) (T := TX8) (N := 4) rfl rfl rfl hl.1 rfl (Nat.le_of_ble_eq_true rfl) dX6_readChunks_51 ⟨Nat.le_of_ble_eq_true rfl, Nat.le_of_ble_eq_true rfl⟩ (fun u18 u19 u20 u21 H locs ce q hp hw h1 h2 h3 => by obtain ⟨ht0, ht1, ht2⟩ := hp; have e_u18_14 : u18 14 = (g 14) := ((ht0 14 rfl)).trans (((h15 14 rfl)).trans (((hk_upgN h_g4 14 rfl)).trans (((hk_upgN h_g3 14 rfl)).trans (((hk_upgN h_g2 14 rfl)).trans e_g1_14)))); have e_u18_45 : u18 45 = (g 14) := ((ht0 45 rfl)).trans (((h15 45 rfl)).trans (((hk_upgN h_g4 45 rfl)).trans (((hk_upgN h_g3 45 rfl)).trans (((hk_upgN h_g2 45 rfl)).trans (hk_upgS h_g1))))); have e_u18_21 : u18 21 = (g 21) := ((ht0 21 rfl)).trans (((h15 21 rfl)).trans e_g4_21); have e_u18_22 : u18 22 = (g 22) := ((ht0 22 rfl)).trans (((h15 22 rfl)).trans e_g4_22); exact kt _ _ _ _ _ _ _ _ _ _ _ ⟨(hk_frT (hk_frT (hk_frG (hk_frG (hk_frG (hk_frG hk_fr0 (by decide) h_g1) (by decide) h_g2) (by decide) h_g3) (by decide) h_g4) (by decide) h15) (by decide) ht0), (hk_frT (hk_frT hk_fr0 (by decide) h16) (by decide) ht1), (hk_frT (hk_frT hk_fr0 (by decide) h17) (by decide) ht2), (ob334 ((u18 14).toInt) ((g 14).toInt) ((g1 14).toInt) (congrArg Int32.toInt e_u18_14) hi_g14 (congrArg Int32.toInt e_g1_14) (hE_rng (u18 14)) (hE_rng (g 14)) (hE_rng (g1 14))), (ob356 ((u18 45).toInt) ((g 14).toInt) ((g1 14).toInt) ((u18 14).toInt) (congrArg Int32.toInt e_u18_45) hi_g14 (congrArg Int32.toInt e_g1_14) (congrArg Int32.toInt e_u18_14) (hE_rng (u18 45)) (hE_rng (g 14)) (hE_rng (g1 14)) (hE_rng (u18 14))), (ob283 ((u18 21).toInt) ((g 21).toInt) ((g4 21).toInt) (congrArg Int32.toInt e_u18_21) hi_g21 (congrArg Int32.toInt e_g4_21) (hE_rng (u18 21)) (hE_rng (g 21)) (hE_rng (g4 21))), (ob283 ((u18 22).toInt) ((g 22).toInt) ((g4 22).toInt) (congrArg Int32.toInt e_u18_22) hi_g22 (congrArg Int32.toInt e_g4_22) (hE_rng (u18 22)) (hE_rng (g 22)) (hE_rng (g4 22)))⟩ hw h1 h2 h3) (fun r22 g23 l24 a25 b26 H locs hp27 hw => ?_)
  obtain ⟨h28, h29, h30, h31⟩ := hp27
  have hr32 : hk_rg 0 255 (a25 0) := (hk_pE (P := hk_rg 0 255) (hk_pE (P := hk_rg 0 255) hi_a0rg (h17 0 rfl)) (h30 0 rfl))
  refine lv_istore_n (lv' := [(2, .int r22), (1, .int 3), (0, .ref (ad 25))]) hx hb dX6_readChunks_54 rfl hl (by decide) rfl (fun ls hl => ?_)
  refine lv_iconst (v := 0) hx hb dX6_readChunks_55 (by decide) ?_
  refine lv_istore_n (lv' := [(3, .int 0), (2, .int r22), (1, .int 3), (0, .ref (ad 25))]) hx hb dX6_readChunks_56 rfl hl (by decide) rfl (fun ls hl => ?_)
  have B33 : ∀ (k41 : Nat) (x34 : Int32) (x35 : Int32) (x36 : Int32) (g37 : Nat → Int32) (l38 : Nat → Int64) (a39 : Nat → Nat → Int32) (b40 : Nat → Int64) (ls : Array Slot) (H : Heap) (locs : List Loc), 2147483648 - (x36).toInt ≤ (k41 : Int) → 0 ≤ (x36).toInt → 0 ≤ (g37 14).toInt ∧ (g37 14).toInt ≤ 3000 → 0 ≤ (g37 21).toInt ∧ (g37 21).toInt ≤ 4 → 0 ≤ (g37 22).toInt ∧ (g37 22).toInt ≤ 4 → hk_fr [14, 15, 16, 17, 18, 19, 20, 21, 22, 23, 24, 25, 43, 47, 48] g23 g37 → hk_fr [0, 1, 2] l24 l38 → hk_fr [1, 2, 6] a25 a39 → hk_W D (jT cI cJ) A s H locs (xw cI cJ ad g37 l38 a39 b40) → lv_has ls 4 [(0, .ref (ad 25)), (1, .int x34), (2, .int x35), (3, .int x36)] → W p l e { frames := 12, cells := 1, slots := 6, locals := 237 } s m args below meth c H locs 0 0 Q (F0 m 57 ls []) := by
    intro k41
    induction k41 with
    | zero =>
      intro x34 x35 x36 g37 l38 a39 b40 ls H locs hrk_B33 hf_B33_0 hf_B33_1 hf_B33_2 hf_B33_3 hfr_g37 hfr_l38 hfr_a39 hw hl
      exact False.elim (hk_no0 (0 * (x36).toInt) (ob5 ((x36).toInt) hf_B33_0 hrk_B33 (hE_rng (x36))) (by simp))
    | succ k41 ih_B33 =>
      intro x34 x35 x36 g37 l38 a39 b40 ls H locs hrk_B33 hf_B33_0 hf_B33_1 hf_B33_2 hf_B33_3 hfr_g37 hfr_l38 hfr_a39 hw hl
      have hrk_B33 := hk_rk hrk_B33
      refine lv_iload_n hx hb dX6_readChunks_57 rfl (lv_at hl 3 rfl) ?_
      refine lv_sipush (v := 1500) hx hb dX6_readChunks_58 (by decide) ?_
      have B42 : ∀  (ls : Array Slot) (H : Heap) (locs : List Loc), hk_W D (jT cI cJ) A s H locs (xw cI cJ ad g37 l38 a39 b40) → lv_has ls 4 [(0, .ref (ad 25))] → W p l e { frames := 12, cells := 1, slots := 6, locals := 237 } s m args below meth c H locs 0 0 Q (F0 m 151 ls []) := by
        intro ls H locs hw hl
        refine lv_aload_n hx hb dX6_readChunks_151 rfl (lv_at hl 0 rfl) ?_
        refine lv_aload_n hx hb dX6_readChunks_152 rfl (lv_at hl 0 rfl) ?_
        refine hk_get (ci := 9) (C := RX6) (T := TX6) (N := 16) (v := .ref (ad 6)) hx hb hts (fun _ h => List.mem_cons_of_mem _ (wwXc_wsX60 _ h)) hown hw 25 rfl rfl 0 (by decide) (hq _ wX_399) rfl dX6_readChunks_153 ?_
        refine hk_get (ci := 11) (C := RX8) (T := TX8) (N := 4) (v := .int (g37 15)) hx hb hts (fun _ h => List.mem_cons_of_mem _ (wwXc_wsX80 _ h)) hown hw 6 rfl rfl 1 (by decide) (hq _ wX_400) rfl dX6_readChunks_156 ?_
        refine lv_aload_n hx hb dX6_readChunks_159 rfl (lv_at hl 0 rfl) ?_
        have e_g37_46 : g37 46 = (g 15) := ((hfr_g37 46 rfl)).trans (((h28 46 rfl)).trans (((h15 46 rfl)).trans (((hk_upgN h_g4 46 rfl)).trans (hk_upgS h_g3))))
        refine hk_get (ci := 9) (C := RX6) (T := TX6) (N := 16) (v := .int (g 15)) hx hb hts (fun _ h => List.mem_cons_of_mem _ (wwXc_wsX60 _ h)) hown hw 25 rfl rfl 12 (by decide) (hq _ wX_504) (congrArg (fun z => some (Value.int z)) e_g37_46) dX6_readChunks_160 ?_
        refine lv_isub hx hb dX6_readChunks_163 (jx_nm fun z43 hz43 => ?_)
        refine jx_putg xw (g := g37) (lg := l38) (ar := a39) (bk := b40) (x := z43) 49 (ci := 9) (C := RX6) (T := TX6) (N := 16) (ty := .int) hx hb hts (fun _ h => List.mem_cons_of_mem _ (wwXc_wsX60 _ h)) tyX6 tyX6_ok nmX6 hown hw 25 rfl rfl 15 (by decide) (hq _ wX_431) rfl (by decide +kernel) rfl rfl (Nat.le_of_ble_eq_true rfl) dX6_readChunks_164 rfl (fun H locs g44 h_g44 hw => ?_)
        have e_g44_14 : g44 14 = (g37 14) := (hk_upgN h_g44 14 rfl)
        have e_g44_45 : g44 45 = (g 14) := ((hk_upgN h_g44 45 rfl)).trans (((hfr_g37 45 rfl)).trans (((h28 45 rfl)).trans (((h15 45 rfl)).trans (((hk_upgN h_g4 45 rfl)).trans (((hk_upgN h_g3 45 rfl)).trans (((hk_upgN h_g2 45 rfl)).trans (hk_upgS h_g1)))))))
        have e_g44_21 : g44 21 = (g37 21) := (hk_upgN h_g44 21 rfl)
        have e_g44_22 : g44 22 = (g37 22) := (hk_upgN h_g44 22 rfl)
        exact kr g44 l38 a39 b40 _ _ _ _ ⟨(hk_frG (hk_frT (hk_frT (hk_frT (hk_frG (hk_frG (hk_frG (hk_frG hk_fr0 (by decide) h_g1) (by decide) h_g2) (by decide) h_g3) (by decide) h_g4) (by decide) h15) (by decide) h28) (by decide) hfr_g37) (by decide) h_g44), (hk_frT (hk_frT (hk_frT hk_fr0 (by decide) h16) (by decide) h29) (by decide) hfr_l38), (hk_frT (hk_frT (hk_frT hk_fr0 (by decide) h17) (by decide) h30) (by decide) hfr_a39), (ob333 ((g44 14).toInt) ((g37 14).toInt) (congrArg Int32.toInt e_g44_14) hf_B33_1 (hE_rng (g44 14)) (hE_rng (g37 14))), (ob334 ((g44 45).toInt) ((g 14).toInt) ((g1 14).toInt) (congrArg Int32.toInt e_g44_45) hi_g14 (congrArg Int32.toInt e_g1_14) (hE_rng (g44 45)) (hE_rng (g 14)) (hE_rng (g1 14))), (ob61 ((g44 21).toInt) ((g37 21).toInt) (congrArg Int32.toInt e_g44_21) hf_B33_2 (hE_rng (g44 21)) (hE_rng (g37 21))), (ob61 ((g44 22).toInt) ((g37 22).toInt) (congrArg Int32.toInt e_g44_22) hf_B33_3 (hE_rng (g44 22)) (hE_rng (g37 22)))⟩ hw dX6_readChunks_167
      refine lv_icmp_ge (tgt := 151) hx hb dX6_readChunks_61 (by decide) (fun cc45 => ?_) (fun cc45 => ?_)
      · exact B42 ls _ _ hw (lv_sub hl [0] rfl)
      · refine lv_iload_n hx hb dX6_readChunks_64 rfl (lv_at hl 2 rfl) ?_
        refine lv_if_eq (tgt := 151) hx hb dX6_readChunks_65 (by decide) (fun cc46 => ?_) (fun cc46 => ?_)
        · exact B42 ls _ _ hw (lv_sub hl [0] rfl)
        · refine lv_aload_n hx hb dX6_readChunks_68 rfl (lv_at hl 0 rfl) ?_
          refine lv_iload_n hx hb dX6_readChunks_69 rfl (lv_at hl 2 rfl) ?_
          refine lv_iload_n hx hb dX6_readChunks_70 rfl (lv_at hl 1 rfl) ?_
          refine jx_Vv (As := [.int x35, .int x34]) (rest := []) ⟨hx, hb, hml, hown, hts⟩ hZ hw hA (jx_X6_judgeControl l hlt D t3 cI cJ ad g37 l38 a39 b40 _ x35 x34) (cwV 2 hts (jx_gV wwX_good wX_505 wX_506 wX_507 wX_441 wX_508) rfl rfl rfl (by decide +kernel) ⟨Nat.le_of_ble_eq_true rfl, Nat.le_of_ble_eq_true rfl⟩) 25 (ci := 9) (T := TX6) (N := 16) rfl rfl rfl hl.1 rfl (Nat.le_of_ble_eq_true rfl) dX6_readChunks_71 ⟨Nat.le_of_ble_eq_true rfl, Nat.le_of_ble_eq_true rfl⟩ (fun u47 u48 u49 u50 H locs ce q hp hw h1 h2 h3 => by obtain ⟨ht0, ht1, ht2⟩ := hp; have e_u47_14 : u47 14 = (g37 14) := (ht0 14 rfl); have e_u47_45 : u47 45 = (g 14) := ((ht0 45 rfl)).trans (((hfr_g37 45 rfl)).trans (((h28 45 rfl)).trans (((h15 45 rfl)).trans (((hk_upgN h_g4 45 rfl)).trans (((hk_upgN h_g3 45 rfl)).trans (((hk_upgN h_g2 45 rfl)).trans (hk_upgS h_g1))))))); have e_u47_21 : u47 21 = (g37 21) := (ht0 21 rfl); have e_u47_22 : u47 22 = (g37 22) := (ht0 22 rfl); exact kt _ _ _ _ _ _ _ _ _ _ _ ⟨(hk_frT (hk_frT (hk_frT (hk_frT (hk_frG (hk_frG (hk_frG (hk_frG hk_fr0 (by decide) h_g1) (by decide) h_g2) (by decide) h_g3) (by decide) h_g4) (by decide) h15) (by decide) h28) (by decide) hfr_g37) (by decide) ht0), (hk_frT (hk_frT (hk_frT (hk_frT hk_fr0 (by decide) h16) (by decide) h29) (by decide) hfr_l38) (by decide) ht1), (hk_frT (hk_frT (hk_frT (hk_frT hk_fr0 (by decide) h17) (by decide) h30) (by decide) hfr_a39) (by decide) ht2), (ob333 ((u47 14).toInt) ((g37 14).toInt) (congrArg Int32.toInt e_u47_14) hf_B33_1 (hE_rng (u47 14)) (hE_rng (g37 14))), (ob334 ((u47 45).toInt) ((g 14).toInt) ((g1 14).toInt) (congrArg Int32.toInt e_u47_45) hi_g14 (congrArg Int32.toInt e_g1_14) (hE_rng (u47 45)) (hE_rng (g 14)) (hE_rng (g1 14))), (ob61 ((u47 21).toInt) ((g37 21).toInt) (congrArg Int32.toInt e_u47_21) hf_B33_2 (hE_rng (u47 21)) (hE_rng (g37 21))), (ob61 ((u47 22).toInt) ((g37 22).toInt) (congrArg Int32.toInt e_u47_22) hf_B33_3 (hE_rng (u47 22)) (hE_rng (g37 22)))⟩ hw h1 h2 h3) (fun g52 l53 a54 b55 H locs hp56 hw => ?_)
          obtain ⟨h57, h58, h59⟩ := hp56
          have hr60 : hk_rg 0 255 (a54 0) := (hk_pE (P := hk_rg 0 255) (hk_pE (P := hk_rg 0 255) hr32 (hfr_a39 0 rfl)) (h59 0 rfl))
          refine lv_iload_n hx hb dX6_readChunks_74 rfl (lv_at hl 2 rfl) ?_
          refine lv_sipush (v := 128) hx hb dX6_readChunks_75 (by decide) ?_
          have B61 : ∀  (x62 : Int32) (g63 : Nat → Int32) (l64 : Nat → Int64) (a65 : Nat → Nat → Int32) (b66 : Nat → Int64) (ls : Array Slot) (H : Heap) (locs : List Loc), 0 ≤ (g63 14).toInt ∧ (g63 14).toInt ≤ 3000 → 0 ≤ (g63 21).toInt ∧ (g63 21).toInt ≤ 4 → 0 ≤ (g63 22).toInt ∧ (g63 22).toInt ≤ 4 → hk_fr [14, 15, 16, 17, 18, 19, 20, 21, 22, 23, 24, 25, 43, 47] g52 g63 → hk_fr [0, 1, 2] l53 l64 → hk_fr [1, 2, 6] a54 a65 → hk_W D (jT cI cJ) A s H locs (xw cI cJ ad g63 l64 a65 b66) → lv_has ls 4 [(0, .ref (ad 25)), (1, .int x62), (3, .int x36)] → W p l e { frames := 12, cells := 1, slots := 6, locals := 237 } s m args below meth c H locs 0 0 Q (F0 m 127 ls []) := by
            intro x62 g63 l64 a65 b66 ls H locs hf_B61_0 hf_B61_1 hf_B61_2 hfr_g63 hfr_l64 hfr_a65 hw hl
            refine lv_aload_n hx hb dX6_readChunks_127 rfl (lv_at hl 0 rfl) ?_
            refine lv_dup hx hb dX6_readChunks_128 rfl ?_
            have e_g63_48 : g63 48 = (g37 48) := ((hfr_g63 48 rfl)).trans (h57 48 rfl)
            refine hk_get (ci := 9) (C := RX6) (T := TX6) (N := 16) (v := .int (g37 48)) hx hb hts (fun _ h => List.mem_cons_of_mem _ (wwXc_wsX60 _ h)) hown hw 25 rfl rfl 14 (by decide) (hq _ wX_433) (congrArg (fun z => some (Value.int z)) e_g63_48) dX6_readChunks_129 ?_
            refine lv_iconst (v := 1) hx hb dX6_readChunks_132 (by decide) ?_
            refine lv_iadd hx hb dX6_readChunks_133 (jx_nm fun z67 hz67 => ?_)
            refine jx_putg xw (g := g63) (lg := l64) (ar := a65) (bk := b66) (x := z67) 48 (ci := 9) (C := RX6) (T := TX6) (N := 16) (ty := .int) hx hb hts (fun _ h => List.mem_cons_of_mem _ (wwXc_wsX60 _ h)) tyX6 tyX6_ok nmX6 hown hw 25 rfl rfl 14 (by decide) (hq _ wX_433) rfl (by decide +kernel) rfl rfl (Nat.le_of_ble_eq_true rfl) dX6_readChunks_134 rfl (fun H locs g68 h_g68 hw => ?_)
            refine lv_aload_n hx hb dX6_readChunks_137 rfl (lv_at hl 0 rfl) ?_
            refine hk_get (ci := 9) (C := RX6) (T := TX6) (N := 16) (v := .ref (ad 6)) hx hb hts (fun _ h => List.mem_cons_of_mem _ (wwXc_wsX60 _ h)) hown hw 25 rfl rfl 0 (by decide) (hq _ wX_399) rfl dX6_readChunks_138 ?_
            refine jx_Vi (As := []) (rest := []) ⟨hx, hb, hml, hown, hts⟩ hZ hw hA (jx_X8_next l hlt D t3 cI cJ ad g68 l64 a65 b66 _ (hk_pE (P := hk_rg 0 255) hr60 (hfr_a65 0 rfl))) (cwV 0 hts (jx_gV wwX_good wX_430 wX_250 wX_251 wX_252 wX_253) rfl rfl rfl (by decide +kernel) ⟨Nat.le_of_ble_eq_true rfl, Nat.le_of_ble_eq_true rfl⟩) 6 (ci := 11) (T := TX8) (N := 4) rfl rfl rfl hl.1 rfl (Nat.le_of_ble_eq_true rfl) dX6_readChunks_141 ⟨Nat.le_of_ble_eq_true rfl, Nat.le_of_ble_eq_true rfl⟩ (fun u69 u70 u71 u72 H locs ce q hp hw h1 h2 h3 => by obtain ⟨ht0, ht1, ht2⟩ := hp; have e_u69_14 : u69 14 = (g63 14) := ((ht0 14 rfl)).trans (hk_upgN h_g68 14 rfl); have e_u69_45 : u69 45 = (g 14) := ((ht0 45 rfl)).trans (((hk_upgN h_g68 45 rfl)).trans (((hfr_g63 45 rfl)).trans (((h57 45 rfl)).trans (((hfr_g37 45 rfl)).trans (((h28 45 rfl)).trans (((h15 45 rfl)).trans (((hk_upgN h_g4 45 rfl)).trans (((hk_upgN h_g3 45 rfl)).trans (((hk_upgN h_g2 45 rfl)).trans (hk_upgS h_g1)))))))))); have e_u69_21 : u69 21 = (g63 21) := ((ht0 21 rfl)).trans (hk_upgN h_g68 21 rfl); have e_u69_22 : u69 22 = (g63 22) := ((ht0 22 rfl)).trans (hk_upgN h_g68 22 rfl); exact kt _ _ _ _ _ _ _ _ _ _ _ ⟨(hk_frT (hk_frG (hk_frT (hk_frT (hk_frT (hk_frT (hk_frT (hk_frG (hk_frG (hk_frG (hk_frG hk_fr0 (by decide) h_g1) (by decide) h_g2) (by decide) h_g3) (by decide) h_g4) (by decide) h15) (by decide) h28) (by decide) hfr_g37) (by decide) h57) (by decide) hfr_g63) (by decide) h_g68) (by decide) ht0), (hk_frT (hk_frT (hk_frT (hk_frT (hk_frT (hk_frT hk_fr0 (by decide) h16) (by decide) h29) (by decide) hfr_l38) (by decide) h58) (by decide) hfr_l64) (by decide) ht1), (hk_frT (hk_frT (hk_frT (hk_frT (hk_frT (hk_frT hk_fr0 (by decide) h17) (by decide) h30) (by decide) hfr_a39) (by decide) h59) (by decide) hfr_a65) (by decide) ht2), (ob333 ((u69 14).toInt) ((g63 14).toInt) (congrArg Int32.toInt e_u69_14) hf_B61_0 (hE_rng (u69 14)) (hE_rng (g63 14))), (ob334 ((u69 45).toInt) ((g 14).toInt) ((g1 14).toInt) (congrArg Int32.toInt e_u69_45) hi_g14 (congrArg Int32.toInt e_g1_14) (hE_rng (u69 45)) (hE_rng (g 14)) (hE_rng (g1 14))), (ob61 ((u69 21).toInt) ((g63 21).toInt) (congrArg Int32.toInt e_u69_21) hf_B61_1 (hE_rng (u69 21)) (hE_rng (g63 21))), (ob61 ((u69 22).toInt) ((g63 22).toInt) (congrArg Int32.toInt e_u69_22) hf_B61_2 (hE_rng (u69 22)) (hE_rng (g63 22)))⟩ hw h1 h2 h3) (fun r73 g74 l75 a76 b77 H locs hp78 hw => ?_)
            obtain ⟨h79, h80, h81, h82⟩ := hp78
            have hr83 : hk_rg 0 255 (a76 0) := (hk_pE (P := hk_rg 0 255) (hk_pE (P := hk_rg 0 255) hr60 (hfr_a65 0 rfl)) (h81 0 rfl))
            refine lv_istore_n (lv' := [(2, .int r73), (0, .ref (ad 25)), (1, .int x62), (3, .int x36)]) hx hb dX6_readChunks_144 rfl hl (by decide) rfl (fun ls hl => ?_)
            obtain ⟨z84, hz84⟩ : ∃ z : Int32, x36 + 1 = z := ⟨_, rfl⟩
            refine lv_iinc (v := z84) (lv' := [(3, .int z84), (2, .int r73), (0, .ref (ad 25)), (1, .int x62)]) hx hb dX6_readChunks_145 hl (k := 3) rfl hz84 (by decide) rfl (fun ls hl => ?_)
            refine lv_goto (tgt := 57) hx hb dX6_readChunks_148 (by decide) ?_
            have e_g74_14 : g74 14 = (g63 14) := ((h79 14 rfl)).trans (hk_upgN h_g68 14 rfl)
            have e_g74_21 : g74 21 = (g63 21) := ((h79 21 rfl)).trans (hk_upgN h_g68 21 rfl)
            have e_g74_22 : g74 22 = (g63 22) := ((h79 22 rfl)).trans (hk_upgN h_g68 22 rfl)
            exact ih_B33 x62 r73 z84 g74 l75 a76 b77 ls _ _ (ob357 ((z84).toInt) (k41 : Int) ((x36).toInt) (((1 : Int32)).toInt) (((1500 : Int32)).toInt) ((z67).toInt) ((g37 48).toInt) ((g63 48).toInt) hrk_B33 (hE_add hz84) hf_B33_0 (hE_nle cc45) (hE_add hz67) (congrArg Int32.toInt e_g63_48) (hE_rng (z84)) (hE_rng (x36)) (by decide) (by decide) (hE_rng (z67)) (hE_rng (g37 48)) (hE_rng (g63 48))) (ob358 ((z84).toInt) ((x36).toInt) (((1 : Int32)).toInt) (k41 : Int) (((1500 : Int32)).toInt) ((z67).toInt) ((g37 48).toInt) ((g63 48).toInt) (hE_add hz84) hf_B33_0 hrk_B33 (hE_nle cc45) (hE_add hz67) (congrArg Int32.toInt e_g63_48) (hE_rng (z84)) (hE_rng (x36)) (by decide) (by decide) (hE_rng (z67)) (hE_rng (g37 48)) (hE_rng (g63 48))) (ob333 ((g74 14).toInt) ((g63 14).toInt) (congrArg Int32.toInt e_g74_14) hf_B61_0 (hE_rng (g74 14)) (hE_rng (g63 14))) (ob61 ((g74 21).toInt) ((g63 21).toInt) (congrArg Int32.toInt e_g74_21) hf_B61_1 (hE_rng (g74 21)) (hE_rng (g63 21))) (ob61 ((g74 22).toInt) ((g63 22).toInt) (congrArg Int32.toInt e_g74_22) hf_B61_2 (hE_rng (g74 22)) (hE_rng (g63 22))) (hk_frT (hk_frG (hk_frT (hk_frT hfr_g37 (by decide) h57) (by decide) hfr_g63) (by decide) h_g68) (by decide) h79) (hk_frT (hk_frT (hk_frT hfr_l38 (by decide) h58) (by decide) hfr_l64) (by decide) h80) (hk_frT (hk_frT (hk_frT hfr_a39 (by decide) h59) (by decide) hfr_a65) (by decide) h81) hw (lv_sub hl [2, 3, 1, 0] rfl)
          refine lv_icmp_ge (tgt := 104) hx hb dX6_readChunks_78 (by decide) (fun cc85 => ?_) (fun cc85 => ?_)
          · refine lv_aload_n hx hb dX6_readChunks_104 rfl (lv_at hl 0 rfl) ?_
            refine lv_aload_n hx hb dX6_readChunks_105 rfl (lv_at hl 0 rfl) ?_
            refine hk_get (ci := 9) (C := RX6) (T := TX6) (N := 16) (v := .ref (ad 4)) hx hb hts (fun _ h => List.mem_cons_of_mem _ (wwXc_wsX60 _ h)) hown hw 25 rfl rfl 1 (by decide) (hq _ wX_410) rfl dX6_readChunks_106 ?_
            have e_g52_14 : g52 14 = (g37 14) := (h57 14 rfl)
            refine hk_get (ci := 12) (C := RX9) (T := TX9) (N := 2) (v := .int (g37 14)) hx hb hts (fun _ h => List.mem_cons_of_mem _ (wwXc_wsX90 _ h)) hown hw 4 rfl rfl 1 (by decide) (hq _ wX_402) (congrArg (fun z => some (Value.int z)) e_g52_14) dX6_readChunks_109 ?_
            refine lv_aload_n hx hb dX6_readChunks_112 rfl (lv_at hl 0 rfl) ?_
            refine lv_iload_n hx hb dX6_readChunks_113 rfl (lv_at hl 2 rfl) ?_
            have e_g52_21 : g52 21 = (g37 21) := (h57 21 rfl)
            have e_g52_22 : g52 22 = (g37 22) := (h57 22 rfl)
            refine jx_Vi (As := [.int x35]) (rest := [.int (g37 14), .ref (ad 25)]) ⟨hx, hb, hml, hown, hts⟩ hZ hw hA (jx_X6_readChunkHead l hlt D t3 cI cJ ad g52 l53 a54 b55 _ x35 hr60 (ob61 ((g52 21).toInt) ((g37 21).toInt) (congrArg Int32.toInt e_g52_21) hf_B33_2 (hE_rng (g52 21)) (hE_rng (g37 21))) (ob61 ((g52 22).toInt) ((g37 22).toInt) (congrArg Int32.toInt e_g52_22) hf_B33_3 (hE_rng (g52 22)) (hE_rng (g37 22)))) (cwV 1 hts (jx_gV wwX_good wX_514 wX_515 wX_516 wX_441 wX_517) rfl rfl rfl (by decide +kernel) ⟨Nat.le_of_ble_eq_true rfl, Nat.le_of_ble_eq_true rfl⟩) 25 (ci := 9) (T := TX6) (N := 16) rfl rfl rfl hl.1 rfl (Nat.le_of_ble_eq_true rfl) dX6_readChunks_114 ⟨Nat.le_of_ble_eq_true rfl, Nat.le_of_ble_eq_true rfl⟩ (fun u86 u87 u88 u89 H locs ce q hp hw h1 h2 h3 => by obtain ⟨ht0, ht1, ht2, ht3, ht4⟩ := hp; have e_u86_14 : u86 14 = (g37 14) := ((ht0 14 rfl)).trans e_g52_14; have e_u86_45 : u86 45 = (g 14) := ((ht0 45 rfl)).trans (((h57 45 rfl)).trans (((hfr_g37 45 rfl)).trans (((h28 45 rfl)).trans (((h15 45 rfl)).trans (((hk_upgN h_g4 45 rfl)).trans (((hk_upgN h_g3 45 rfl)).trans (((hk_upgN h_g2 45 rfl)).trans (hk_upgS h_g1)))))))); exact kt _ _ _ _ _ _ _ _ _ _ _ ⟨(hk_frT (hk_frT (hk_frT (hk_frT (hk_frT (hk_frG (hk_frG (hk_frG (hk_frG hk_fr0 (by decide) h_g1) (by decide) h_g2) (by decide) h_g3) (by decide) h_g4) (by decide) h15) (by decide) h28) (by decide) hfr_g37) (by decide) h57) (by decide) ht0), (hk_frT (hk_frT (hk_frT (hk_frT (hk_frT hk_fr0 (by decide) h16) (by decide) h29) (by decide) hfr_l38) (by decide) h58) (by decide) ht1), (hk_frT (hk_frT (hk_frT (hk_frT (hk_frT hk_fr0 (by decide) h17) (by decide) h30) (by decide) hfr_a39) (by decide) h59) (by decide) ht2), (ob334 ((u86 14).toInt) ((g37 14).toInt) ((g52 14).toInt) (congrArg Int32.toInt e_u86_14) hf_B33_1 (congrArg Int32.toInt e_g52_14) (hE_rng (u86 14)) (hE_rng (g37 14)) (hE_rng (g52 14))), (ob334 ((u86 45).toInt) ((g 14).toInt) ((g1 14).toInt) (congrArg Int32.toInt e_u86_45) hi_g14 (congrArg Int32.toInt e_g1_14) (hE_rng (u86 45)) (hE_rng (g 14)) (hE_rng (g1 14))), (ob256 ((u86 21).toInt) ht3 (hE_rng (u86 21))), (ob256 ((u86 22).toInt) ht4 (hE_rng (u86 22)))⟩ hw h1 h2 h3) (fun r90 g91 l92 a93 b94 H locs hp95 hw => ?_)
            obtain ⟨h96, h97, h98, h99, h100⟩ := hp95
            refine lv_iadd hx hb dX6_readChunks_117 (jx_nm fun z101 hz101 => ?_)
            have e_g91_14 : g91 14 = (g37 14) := ((h96 14 rfl)).trans e_g52_14
            refine jx_Vv (As := [.int z101]) (rest := []) ⟨hx, hb, hml, hown, hts⟩ hZ hw hA (jx_X6_readBits l hlt D t3 cI cJ ad g91 l92 a93 b94 _ z101 (ob359 ((g91 14).toInt) ((g37 14).toInt) ((g52 14).toInt) ((z101).toInt) ((r90).toInt) (congrArg Int32.toInt e_g91_14) hf_B33_1 (congrArg Int32.toInt e_g52_14) (hE_add hz101) (hE_rng (g91 14)) (hE_rng (g37 14)) (hE_rng (g52 14)) (hE_rng (z101)) (hE_rng (r90))) (hk_pE (P := hk_rg 0 255) hr60 (h98 0 rfl))) (cwV 1 hts (jx_gV wwX_good wX_450 wX_451 wX_452 wX_441 wX_453) rfl rfl rfl (by decide +kernel) ⟨Nat.le_of_ble_eq_true rfl, Nat.le_of_ble_eq_true rfl⟩) 25 (ci := 9) (T := TX6) (N := 16) rfl rfl rfl hl.1 rfl (Nat.le_of_ble_eq_true rfl) dX6_readChunks_118 ⟨Nat.le_of_ble_eq_true rfl, Nat.le_of_ble_eq_true rfl⟩ (fun u102 u103 u104 u105 H locs ce q hp hw h1 h2 h3 => by obtain ⟨ht0, ht1, ht2, ht3⟩ := hp; have e_u102_45 : u102 45 = (g 14) := ((ht0 45 rfl)).trans (((h96 45 rfl)).trans (((h57 45 rfl)).trans (((hfr_g37 45 rfl)).trans (((h28 45 rfl)).trans (((h15 45 rfl)).trans (((hk_upgN h_g4 45 rfl)).trans (((hk_upgN h_g3 45 rfl)).trans (((hk_upgN h_g2 45 rfl)).trans (hk_upgS h_g1))))))))); have e_u102_21 : u102 21 = (g91 21) := (ht0 21 rfl); have e_u102_22 : u102 22 = (g91 22) := (ht0 22 rfl); exact kt _ _ _ _ _ _ _ _ _ _ _ ⟨(hk_frT (hk_frT (hk_frT (hk_frT (hk_frT (hk_frT (hk_frG (hk_frG (hk_frG (hk_frG hk_fr0 (by decide) h_g1) (by decide) h_g2) (by decide) h_g3) (by decide) h_g4) (by decide) h15) (by decide) h28) (by decide) hfr_g37) (by decide) h57) (by decide) h96) (by decide) ht0), (hk_frT (hk_frT (hk_frT (hk_frT (hk_frT (hk_frT hk_fr0 (by decide) h16) (by decide) h29) (by decide) hfr_l38) (by decide) h58) (by decide) h97) (by decide) ht1), (hk_frT (hk_frT (hk_frT (hk_frT (hk_frT (hk_frT hk_fr0 (by decide) h17) (by decide) h30) (by decide) hfr_a39) (by decide) h59) (by decide) h98) (by decide) ht2), (ob347 ((u102 14).toInt) ht3 (hE_rng (u102 14))), (ob334 ((u102 45).toInt) ((g 14).toInt) ((g1 14).toInt) (congrArg Int32.toInt e_u102_45) hi_g14 (congrArg Int32.toInt e_g1_14) (hE_rng (u102 45)) (hE_rng (g 14)) (hE_rng (g1 14))), (ob61 ((u102 21).toInt) ((g91 21).toInt) (congrArg Int32.toInt e_u102_21) h99 (hE_rng (u102 21)) (hE_rng (g91 21))), (ob61 ((u102 22).toInt) ((g91 22).toInt) (congrArg Int32.toInt e_u102_22) h100 (hE_rng (u102 22)) (hE_rng (g91 22)))⟩ hw h1 h2 h3) (fun g107 l108 a109 b110 H locs hp111 hw => ?_)
            obtain ⟨h112, h113, h114, h115⟩ := hp111
            have hr116 : hk_rg 0 255 (a109 0) := (hk_pE (P := hk_rg 0 255) (hk_pE (P := hk_rg 0 255) hr60 (h98 0 rfl)) (h114 0 rfl))
            refine lv_aload_n hx hb dX6_readChunks_121 rfl (lv_at hl 0 rfl) ?_
            refine jx_Vv (As := []) (rest := []) ⟨hx, hb, hml, hown, hts⟩ hZ hw hA (jx_X6_endChunk l hlt D t3 cI cJ ad g107 l108 a109 b110 _) (cwV 0 hts (jx_gV wwX_good wX_518 wX_519 wX_520 wX_441 wX_521) rfl rfl rfl (by decide +kernel) ⟨Nat.le_of_ble_eq_true rfl, Nat.le_of_ble_eq_true rfl⟩) 25 (ci := 9) (T := TX6) (N := 16) rfl rfl rfl hl.1 rfl (Nat.le_of_ble_eq_true rfl) dX6_readChunks_122 ⟨Nat.le_of_ble_eq_true rfl, Nat.le_of_ble_eq_true rfl⟩ (fun u117 u118 u119 u120 H locs ce q hp hw h1 h2 h3 => by obtain ⟨ht0, ht1, ht2⟩ := hp; have e_u117_14 : u117 14 = (g107 14) := (ht0 14 rfl); have e_u117_45 : u117 45 = (g 14) := ((ht0 45 rfl)).trans (((h112 45 rfl)).trans (((h96 45 rfl)).trans (((h57 45 rfl)).trans (((hfr_g37 45 rfl)).trans (((h28 45 rfl)).trans (((h15 45 rfl)).trans (((hk_upgN h_g4 45 rfl)).trans (((hk_upgN h_g3 45 rfl)).trans (((hk_upgN h_g2 45 rfl)).trans (hk_upgS h_g1)))))))))); have e_u117_21 : u117 21 = (g91 21) := ((ht0 21 rfl)).trans (h112 21 rfl); have e_u117_22 : u117 22 = (g91 22) := ((ht0 22 rfl)).trans (h112 22 rfl); exact kt _ _ _ _ _ _ _ _ _ _ _ ⟨(hk_frT (hk_frT (hk_frT (hk_frT (hk_frT (hk_frT (hk_frT (hk_frG (hk_frG (hk_frG (hk_frG hk_fr0 (by decide) h_g1) (by decide) h_g2) (by decide) h_g3) (by decide) h_g4) (by decide) h15) (by decide) h28) (by decide) hfr_g37) (by decide) h57) (by decide) h96) (by decide) h112) (by decide) ht0), (hk_frT (hk_frT (hk_frT (hk_frT (hk_frT (hk_frT (hk_frT hk_fr0 (by decide) h16) (by decide) h29) (by decide) hfr_l38) (by decide) h58) (by decide) h97) (by decide) h113) (by decide) ht1), (hk_frT (hk_frT (hk_frT (hk_frT (hk_frT (hk_frT (hk_frT hk_fr0 (by decide) h17) (by decide) h30) (by decide) hfr_a39) (by decide) h59) (by decide) h98) (by decide) h114) (by decide) ht2), (ob333 ((u117 14).toInt) ((g107 14).toInt) (congrArg Int32.toInt e_u117_14) h115 (hE_rng (u117 14)) (hE_rng (g107 14))), (ob334 ((u117 45).toInt) ((g 14).toInt) ((g1 14).toInt) (congrArg Int32.toInt e_u117_45) hi_g14 (congrArg Int32.toInt e_g1_14) (hE_rng (u117 45)) (hE_rng (g 14)) (hE_rng (g1 14))), (ob61 ((u117 21).toInt) ((g91 21).toInt) (congrArg Int32.toInt e_u117_21) h99 (hE_rng (u117 21)) (hE_rng (g91 21))), (ob61 ((u117 22).toInt) ((g91 22).toInt) (congrArg Int32.toInt e_u117_22) h100 (hE_rng (u117 22)) (hE_rng (g91 22)))⟩ hw h1 h2 h3) (fun g122 l123 a124 b125 H locs hp126 hw => ?_)
            obtain ⟨h127, h128, h129⟩ := hp126
            refine lv_iconst (v := 0) hx hb dX6_readChunks_125 (by decide) ?_
            refine lv_istore_n (lv' := [(1, .int 0), (0, .ref (ad 25)), (2, .int x35), (3, .int x36)]) hx hb dX6_readChunks_126 rfl hl (by decide) rfl (fun ls hl => ?_)
            have e_g122_14 : g122 14 = (g107 14) := (h127 14 rfl)
            have e_g122_21 : g122 21 = (g91 21) := ((h127 21 rfl)).trans (h112 21 rfl)
            have e_g122_22 : g122 22 = (g91 22) := ((h127 22 rfl)).trans (h112 22 rfl)
            exact B61 0 g122 l123 a124 b125 ls _ _ (ob333 ((g122 14).toInt) ((g107 14).toInt) (congrArg Int32.toInt e_g122_14) h115 (hE_rng (g122 14)) (hE_rng (g107 14))) (ob61 ((g122 21).toInt) ((g91 21).toInt) (congrArg Int32.toInt e_g122_21) h99 (hE_rng (g122 21)) (hE_rng (g91 21))) (ob61 ((g122 22).toInt) ((g91 22).toInt) (congrArg Int32.toInt e_g122_22) h100 (hE_rng (g122 22)) (hE_rng (g91 22))) (hk_frT (hk_frT (hk_frT hk_fr0 (by decide) h96) (by decide) h112) (by decide) h127) (hk_frT (hk_frT (hk_frT hk_fr0 (by decide) h97) (by decide) h113) (by decide) h128) (hk_frT (hk_frT (hk_frT hk_fr0 (by decide) h98) (by decide) h114) (by decide) h129) hw (lv_sub hl [1, 0, 3] rfl)
          · refine lv_aload_n hx hb dX6_readChunks_81 rfl (lv_at hl 0 rfl) ?_
            refine lv_iload_n hx hb dX6_readChunks_82 rfl (lv_at hl 2 rfl) ?_
            have e_g52_14 : g52 14 = (g37 14) := (h57 14 rfl)
            refine jx_Vv (As := [.int x35]) (rest := []) ⟨hx, hb, hml, hown, hts⟩ hZ hw hA (jx_X6_readPlain l hlt D t3 cI cJ ad g52 l53 a54 b55 _ x35 (ob333 ((g52 14).toInt) ((g37 14).toInt) (congrArg Int32.toInt e_g52_14) hf_B33_1 (hE_rng (g52 14)) (hE_rng (g37 14))) hr60) (cwV 1 hts (jx_gV wwX_good wX_509 wX_510 wX_511 wX_441 wX_512) rfl rfl rfl (by decide +kernel) ⟨Nat.le_of_ble_eq_true rfl, Nat.le_of_ble_eq_true rfl⟩) 25 (ci := 9) (T := TX6) (N := 16) rfl rfl rfl hl.1 rfl (Nat.le_of_ble_eq_true rfl) dX6_readChunks_83 ⟨Nat.le_of_ble_eq_true rfl, Nat.le_of_ble_eq_true rfl⟩ (fun u130 u131 u132 u133 H locs ce q hp hw h1 h2 h3 => by obtain ⟨ht0, ht1, ht2, ht3⟩ := hp; have e_u130_45 : u130 45 = (g 14) := ((ht0 45 rfl)).trans (((h57 45 rfl)).trans (((hfr_g37 45 rfl)).trans (((h28 45 rfl)).trans (((h15 45 rfl)).trans (((hk_upgN h_g4 45 rfl)).trans (((hk_upgN h_g3 45 rfl)).trans (((hk_upgN h_g2 45 rfl)).trans (hk_upgS h_g1)))))))); have e_u130_21 : u130 21 = (g37 21) := ((ht0 21 rfl)).trans (h57 21 rfl); have e_u130_22 : u130 22 = (g37 22) := ((ht0 22 rfl)).trans (h57 22 rfl); exact kt _ _ _ _ _ _ _ _ _ _ _ ⟨(hk_frT (hk_frT (hk_frT (hk_frT (hk_frT (hk_frG (hk_frG (hk_frG (hk_frG hk_fr0 (by decide) h_g1) (by decide) h_g2) (by decide) h_g3) (by decide) h_g4) (by decide) h15) (by decide) h28) (by decide) hfr_g37) (by decide) h57) (by decide) ht0), (hk_frT (hk_frT (hk_frT (hk_frT (hk_frT hk_fr0 (by decide) h16) (by decide) h29) (by decide) hfr_l38) (by decide) h58) (by decide) ht1), (hk_frT (hk_frT (hk_frT (hk_frT (hk_frT hk_fr0 (by decide) h17) (by decide) h30) (by decide) hfr_a39) (by decide) h59) (by decide) ht2), (ob347 ((u130 14).toInt) ht3 (hE_rng (u130 14))), (ob334 ((u130 45).toInt) ((g 14).toInt) ((g1 14).toInt) (congrArg Int32.toInt e_u130_45) hi_g14 (congrArg Int32.toInt e_g1_14) (hE_rng (u130 45)) (hE_rng (g 14)) (hE_rng (g1 14))), (ob61 ((u130 21).toInt) ((g37 21).toInt) (congrArg Int32.toInt e_u130_21) hf_B33_2 (hE_rng (u130 21)) (hE_rng (g37 21))), (ob61 ((u130 22).toInt) ((g37 22).toInt) (congrArg Int32.toInt e_u130_22) hf_B33_3 (hE_rng (u130 22)) (hE_rng (g37 22)))⟩ hw h1 h2 h3) (fun g135 l136 a137 b138 H locs hp139 hw => ?_)
            obtain ⟨h140, h141, h142, h143⟩ := hp139
            refine lv_iload_n hx hb dX6_readChunks_86 rfl (lv_at hl 2 rfl) ?_
            refine lv_iconst (v := 1) hx hb dX6_readChunks_87 (by decide) ?_
            have B144 : ∀  (x145 : Int32) (ls : Array Slot) (H : Heap) (locs : List Loc), hk_W D (jT cI cJ) A s H locs (xw cI cJ ad g135 l136 a137 b138) → lv_has ls 4 [(0, .ref (ad 25)), (3, .int x36)] → W p l e { frames := 12, cells := 1, slots := 6, locals := 237 } s m args below meth c H locs 0 0 Q (F0 m 100 ls [.int x145]) := by
              intro x145 ls H locs hw hl
              refine lv_istore_n (lv' := [(1, .int x145), (0, .ref (ad 25)), (3, .int x36)]) hx hb dX6_readChunks_100 rfl hl (by decide) rfl (fun ls hl => ?_)
              refine lv_goto (tgt := 127) hx hb dX6_readChunks_101 (by decide) ?_
              have e_g135_21 : g135 21 = (g37 21) := ((h140 21 rfl)).trans (h57 21 rfl)
              have e_g135_22 : g135 22 = (g37 22) := ((h140 22 rfl)).trans (h57 22 rfl)
              exact B61 x145 g135 l136 a137 b138 ls _ _ (ob347 ((g135 14).toInt) h143 (hE_rng (g135 14))) (ob61 ((g135 21).toInt) ((g37 21).toInt) (congrArg Int32.toInt e_g135_21) hf_B33_2 (hE_rng (g135 21)) (hE_rng (g37 21))) (ob61 ((g135 22).toInt) ((g37 22).toInt) (congrArg Int32.toInt e_g135_22) hf_B33_3 (hE_rng (g135 22)) (hE_rng (g37 22))) (hk_frT hk_fr0 (by decide) h140) (hk_frT hk_fr0 (by decide) h141) (hk_frT hk_fr0 (by decide) h142) hw (lv_sub hl [1, 0, 2] rfl)
            refine lv_icmp_ne (tgt := 95) hx hb dX6_readChunks_88 (by decide) (fun cc146 => ?_) (fun cc146 => ?_)
            · refine lv_iload_n hx hb dX6_readChunks_95 rfl (lv_at hl 1 rfl) ?_
              refine lv_iconst (v := 1) hx hb dX6_readChunks_96 (by decide) ?_
              refine jx_Si (As := [.int x34, .int 1]) (rest := []) ⟨hx, hb, hml, hown, hts⟩ hZ hw hA (jx_J9_max_7cf53 l hlt D t3 cI cJ ad g135 l136 a137 b138 _ x34 1) (va_cwS 2 hts (jx_gS wwX_good wX_513 wX_142 wX_143 wX_144) rfl rfl rfl (by decide +kernel) ⟨Nat.le_of_ble_eq_true rfl, Nat.le_of_ble_eq_true rfl⟩) rfl hl.1 rfl (Nat.le_of_ble_eq_true rfl) dX6_readChunks_97 ⟨Nat.le_of_ble_eq_true rfl, Nat.le_of_ble_eq_true rfl⟩ (fun _ _ _ _ _ _ _ _ hp _ _ _ _ => hp.elim) (fun r151 g152 l153 a154 b155 H locs hp156 hw => ?_)
              obtain ⟨h157, h158, h159, h160⟩ := hp156
              have hr161 : hk_rg 0 255 (a154 0) := (hk_pE (P := hk_rg 0 255) (hk_pE (P := hk_rg 0 255) hr60 (h142 0 rfl)) (h159 0 rfl))
              exact B144 r151 ls _ _ hw (lv_sub hl [0, 3] rfl)
            · refine lv_iconst (v := 2) hx hb dX6_readChunks_91 (by decide) ?_
              refine lv_goto (tgt := 100) hx hb dX6_readChunks_92 (by decide) ?_
              exact B144 2 ls _ _ hw (lv_sub hl [0, 3] rfl)
  have e_g23_14 : g23 14 = (g 14) := ((h28 14 rfl)).trans (((h15 14 rfl)).trans (((hk_upgN h_g4 14 rfl)).trans (((hk_upgN h_g3 14 rfl)).trans (((hk_upgN h_g2 14 rfl)).trans e_g1_14))))
  have e_g23_21 : g23 21 = (g 21) := ((h28 21 rfl)).trans (((h15 21 rfl)).trans e_g4_21)
  have e_g23_22 : g23 22 = (g 22) := ((h28 22 rfl)).trans (((h15 22 rfl)).trans e_g4_22)
  exact B33 (2147483648 - ((0 : Int32)).toInt).toNat 3 r22 0 g23 l24 a25 b26 ls _ _ (Int.self_le_toNat _) (ob10 (((0 : Int32)).toInt) (by decide)) (ob334 ((g23 14).toInt) ((g 14).toInt) ((g1 14).toInt) (congrArg Int32.toInt e_g23_14) hi_g14 (congrArg Int32.toInt e_g1_14) (hE_rng (g23 14)) (hE_rng (g 14)) (hE_rng (g1 14))) (ob283 ((g23 21).toInt) ((g 21).toInt) ((g4 21).toInt) (congrArg Int32.toInt e_g23_21) hi_g21 (congrArg Int32.toInt e_g4_21) (hE_rng (g23 21)) (hE_rng (g 21)) (hE_rng (g4 21))) (ob283 ((g23 22).toInt) ((g 22).toInt) ((g4 22).toInt) (congrArg Int32.toInt e_g23_22) hi_g22 (congrArg Int32.toInt e_g4_22) (hE_rng (g23 22)) (hE_rng (g 22)) (hE_rng (g4 22))) hk_fr0 hk_fr0 hk_fr0 hw (lv_sub hl [3, 2, 1, 0] rfl)

set_option maxHeartbeats 4000000 in
set_option maxRecDepth 100000 in
/-- X6_noteBlock on (25,) -/
theorem jx_X6_noteBlock (l : Launch) (hlt : l.stackTraces = false) (D : va_G) (t3 : Nat × Nat × Nat) (cI cJ : ClassId) (ad : Nat → Nat) (g : Nat → Int32) (lg : Nat → Int64) (ar : Nat → Nat → Int32) (bk : Nat → Int64) (sz : Nat) (hi_g14 : 0 ≤ (g 14).toInt ∧ (g 14).toInt ≤ 3000) (hi_g45 : 0 ≤ (g 45).toInt ∧ (g 45).toInt ≤ 3000) (hi_g26 : 0 ≤ (g 26).toInt ∧ (g 26).toInt ≤ 200) (hi_a7rm : hk_rm 5 3 (-3000) 3000 (ar 7)) : JMv l yX6_noteBlock (Cond.code yX6_noteBlock cX6_noteBlock 1 none :: wwX) { frames := 1, cells := 1, slots := 6, locals := 26 } t3 D xw cI cJ ad [.ref (ad 25)] (xw cI cJ ad g lg ar bk) sz 1 6 (fun g' lg' ar' bk' => hk_fr [26] g g' ∧ hk_fr [] lg lg' ∧ hk_fr [7] ar ar' ∧ (0 ≤ (g' 26).toInt ∧ (g' 26).toInt ≤ 200) ∧ hk_rm 5 3 (-3000) 3000 (ar' 7)) (fun g' lg' ar' bk' => False) := by
  refine jx_metv (cc := cX6_noteBlock) (maxL := 1) (ret := none) rfl (by decide) rfl (Nat.le_of_ble_eq_true rfl) ?_
  intro p e s m args below meth c ls Q A hx hb hml hown hts hA hZ hw hl hQ kr kt
  have hq : ∀ w ∈ wwX, w.before args s = true := fun w h => hts w (List.mem_cons_of_mem _ h)
  have hl : lv_has ls 1 [(0, .ref (ad 25))] := hl
  refine lv_aload_n hx hb dX6_noteBlock_0 rfl (lv_at hl 0 rfl) ?_
  refine hk_get (ci := 9) (C := RX6) (T := TX6) (N := 16) (v := .ref (ad 15)) hx hb hts (fun _ h => List.mem_cons_of_mem _ (wwXc_wsX60 _ h)) hown hw 25 rfl rfl 4 (by decide) (hq _ wX_411) rfl dX6_noteBlock_1 ?_
  refine lv_aload_n hx hb dX6_noteBlock_4 rfl (lv_at hl 0 rfl) ?_
  refine hk_get (ci := 9) (C := RX6) (T := TX6) (N := 16) (v := .ref (ad 26)) hx hb hts (fun _ h => List.mem_cons_of_mem _ (wwXc_wsX60 _ h)) hown hw 25 rfl rfl 5 (by decide) (hq _ wX_423) rfl dX6_noteBlock_5 ?_
  refine hk_get (ci := 6) (C := RX3) (T := TX3) (N := 9) (v := .int (g 51)) hx hb hts (fun _ h => List.mem_cons_of_mem _ (wwXc_wsX30 _ h)) hown hw 26 rfl rfl 4 (by decide) (hq _ wX_424) rfl dX6_noteBlock_8 ?_
  refine lv_aload_n hx hb dX6_noteBlock_11 rfl (lv_at hl 0 rfl) ?_
  refine hk_get (ci := 9) (C := RX6) (T := TX6) (N := 16) (v := .ref (ad 26)) hx hb hts (fun _ h => List.mem_cons_of_mem _ (wwXc_wsX60 _ h)) hown hw 25 rfl rfl 5 (by decide) (hq _ wX_423) rfl dX6_noteBlock_12 ?_
  refine hk_get (ci := 6) (C := RX3) (T := TX3) (N := 9) (v := .int (g 52)) hx hb hts (fun _ h => List.mem_cons_of_mem _ (wwXc_wsX30 _ h)) hown hw 26 rfl rfl 5 (by decide) (hq _ wX_425) rfl dX6_noteBlock_15 ?_
  refine lv_aload_n hx hb dX6_noteBlock_18 rfl (lv_at hl 0 rfl) ?_
  refine hk_get (ci := 9) (C := RX6) (T := TX6) (N := 16) (v := .int (g 49)) hx hb hts (fun _ h => List.mem_cons_of_mem _ (wwXc_wsX60 _ h)) hown hw 25 rfl rfl 15 (by decide) (hq _ wX_431) rfl dX6_noteBlock_19 ?_
  refine lv_aload_n hx hb dX6_noteBlock_22 rfl (lv_at hl 0 rfl) ?_
  refine hk_get (ci := 9) (C := RX6) (T := TX6) (N := 16) (v := .ref (ad 4)) hx hb hts (fun _ h => List.mem_cons_of_mem _ (wwXc_wsX60 _ h)) hown hw 25 rfl rfl 1 (by decide) (hq _ wX_410) rfl dX6_noteBlock_23 ?_
  refine hk_get (ci := 12) (C := RX9) (T := TX9) (N := 2) (v := .int (g 14)) hx hb hts (fun _ h => List.mem_cons_of_mem _ (wwXc_wsX90 _ h)) hown hw 4 rfl rfl 1 (by decide) (hq _ wX_402) rfl dX6_noteBlock_26 ?_
  refine lv_aload_n hx hb dX6_noteBlock_29 rfl (lv_at hl 0 rfl) ?_
  refine hk_get (ci := 9) (C := RX6) (T := TX6) (N := 16) (v := .int (g 45)) hx hb hts (fun _ h => List.mem_cons_of_mem _ (wwXc_wsX60 _ h)) hown hw 25 rfl rfl 11 (by decide) (hq _ wX_432) rfl dX6_noteBlock_30 ?_
  refine lv_isub hx hb dX6_noteBlock_33 (jx_nm fun z1 hz1 => ?_)
  refine lv_aload_n hx hb dX6_noteBlock_34 rfl (lv_at hl 0 rfl) ?_
  refine hk_get (ci := 9) (C := RX6) (T := TX6) (N := 16) (v := .int (g 48)) hx hb hts (fun _ h => List.mem_cons_of_mem _ (wwXc_wsX60 _ h)) hown hw 25 rfl rfl 14 (by decide) (hq _ wX_433) rfl dX6_noteBlock_35 ?_
  refine jx_Vv (As := [.int (g 51), .int (g 52), .int (g 49), .int z1, .int (g 48)]) (rest := []) ⟨hx, hb, hml, hown, hts⟩ hZ hw hA (jx_X4_addBlock l hlt D t3 cI cJ ad g lg ar bk _ (g 51) (g 52) (g 49) z1 (g 48) (ob360 ((z1).toInt) ((g 14).toInt) ((g 45).toInt) (hE_sub hz1) hi_g14 hi_g45 (hE_rng (z1)) (hE_rng (g 14)) (hE_rng (g 45))) (ob290 ((g 26).toInt) hi_g26 (hE_rng (g 26))) hi_a7rm) (cwV 5 hts (jx_gV wwX_good wX_434 wX_435 wX_436 wX_69 wX_437) rfl rfl rfl (by decide +kernel) ⟨Nat.le_of_ble_eq_true rfl, Nat.le_of_ble_eq_true rfl⟩) 15 (ci := 7) (T := TX4) (N := 4) rfl rfl rfl hl.1 rfl (Nat.le_of_ble_eq_true rfl) dX6_noteBlock_38 ⟨Nat.le_of_ble_eq_true rfl, Nat.le_of_ble_eq_true rfl⟩ (fun _ _ _ _ _ _ _ _ hp _ _ _ _ => hp.elim) (fun g7 l8 a9 b10 H locs hp11 hw => ?_)
  obtain ⟨h12, h13, h14, h15, h16⟩ := hp11
  exact kr g7 l8 a9 b10 _ _ _ _ ⟨h12, h13, h14, (ob290 ((g7 26).toInt) h15 (hE_rng (g7 26))), h16⟩ hw dX6_noteBlock_41

set_option maxHeartbeats 4000000 in
set_option maxRecDepth 100000 in
/-- X6_expect on (25,) -/
theorem jx_X6_expect (l : Launch) (hlt : l.stackTraces = false) (D : va_G) (t3 : Nat × Nat × Nat) (cI cJ : ClassId) (ad : Nat → Nat) (g : Nat → Int32) (lg : Nat → Int64) (ar : Nat → Nat → Int32) (bk : Nat → Int64) (sz : Nat) (y1 : Int32) (y2 : Int32) (hi_a0rg : hk_rg 0 255 (ar 0)) : JMv l yX6_expect (Cond.code yX6_expect cX6_expect 3 none :: wwX) { frames := 7, cells := 1, slots := 6, locals := 102 } t3 D xw cI cJ ad [.ref (ad 25), .int y1, .int y2] (xw cI cJ ad g lg ar bk) sz 1 6 (fun g' lg' ar' bk' => hk_fr [15, 17] g g' ∧ hk_fr [] lg lg' ∧ hk_fr [] ar ar') (fun g' lg' ar' bk' => hk_fr [15, 17] g g' ∧ hk_fr [] lg lg' ∧ hk_fr [] ar ar') := by
  refine jx_metv (cc := cX6_expect) (maxL := 3) (ret := none) rfl (by decide) rfl (Nat.le_of_ble_eq_true rfl) ?_
  intro p e s m args below meth c ls Q A hx hb hml hown hts hA hZ hw hl hQ kr kt
  have hq : ∀ w ∈ wwX, w.before args s = true := fun w h => hts w (List.mem_cons_of_mem _ h)
  have hl : lv_has ls 3 [(0, .ref (ad 25)), (1, .int y1), (2, .int y2)] := hl
  refine lv_aload_n hx hb dX6_expect_0 rfl (lv_at hl 0 rfl) ?_
  refine hk_get (ci := 9) (C := RX6) (T := TX6) (N := 16) (v := .ref (ad 6)) hx hb hts (fun _ h => List.mem_cons_of_mem _ (wwXc_wsX60 _ h)) hown hw 25 rfl rfl 0 (by decide) (hq _ wX_399) rfl dX6_expect_1 ?_
  refine jx_Vi (As := []) (rest := []) ⟨hx, hb, hml, hown, hts⟩ hZ hw hA (jx_X8_next l hlt D t3 cI cJ ad g lg ar bk _ hi_a0rg) (cwV 0 hts (jx_gV wwX_good wX_430 wX_250 wX_251 wX_252 wX_253) rfl rfl rfl (by decide +kernel) ⟨Nat.le_of_ble_eq_true rfl, Nat.le_of_ble_eq_true rfl⟩) 6 (ci := 11) (T := TX8) (N := 4) rfl rfl rfl hl.1 rfl (Nat.le_of_ble_eq_true rfl) dX6_expect_4 ⟨Nat.le_of_ble_eq_true rfl, Nat.le_of_ble_eq_true rfl⟩ (fun u1 u2 u3 u4 H locs ce q hp hw h1 h2 h3 => by obtain ⟨ht0, ht1, ht2⟩ := hp; exact kt _ _ _ _ _ _ _ _ _ _ _ ⟨ht0, ht1, ht2⟩ hw h1 h2 h3) (fun r5 g6 l7 a8 b9 H locs hp10 hw => ?_)
  obtain ⟨h11, h12, h13, h14⟩ := hp10
  refine lv_iload_n hx hb dX6_expect_7 rfl (lv_at hl 1 rfl) ?_
  refine lv_icmp_eq (tgt := 19) hx hb dX6_expect_8 (by decide) (fun cc15 => ?_) (fun cc15 => ?_)
  · exact kr g6 l7 a8 b9 _ _ _ _ ⟨h11, h12, h13⟩ hw dX6_expect_19
  · refine lv_aload_n hx hb dX6_expect_11 rfl (lv_at hl 0 rfl) ?_
    refine hk_get (ci := 9) (C := RX6) (T := TX6) (N := 16) (v := .ref (ad 6)) hx hb hts (fun _ h => List.mem_cons_of_mem _ (wwXc_wsX60 _ h)) hown hw 25 rfl rfl 0 (by decide) (hq _ wX_399) rfl dX6_expect_12 ?_
    refine lv_iload_n hx hb dX6_expect_15 rfl (lv_at hl 2 rfl) ?_
    refine jx_Vv (As := [.int y2]) (rest := []) ⟨hx, hb, hml, hown, hts⟩ hZ hw hA (jx_X8_fail l hlt D t3 cI cJ ad g6 l7 a8 b9 _ y2) (cwV 1 hts (jx_gV wwX_good wX_403 wX_255 wX_256 wX_252 wX_257) rfl rfl rfl (by decide +kernel) ⟨Nat.le_of_ble_eq_true rfl, Nat.le_of_ble_eq_true rfl⟩) 6 (ci := 11) (T := TX8) (N := 4) rfl rfl rfl hl.1 rfl (Nat.le_of_ble_eq_true rfl) dX6_expect_16 ⟨Nat.le_of_ble_eq_true rfl, Nat.le_of_ble_eq_true rfl⟩ (fun u16 u17 u18 u19 H locs ce q hp hw h1 h2 h3 => by obtain ⟨ht0, ht1, ht2⟩ := hp; exact kt _ _ _ _ _ _ _ _ _ _ _ ⟨(hk_frT h11 (by decide) ht0), (hk_frT h12 (by decide) ht1), (hk_frT h13 (by decide) ht2)⟩ hw h1 h2 h3) (fun g21 l22 a23 b24 H locs hp25 hw => ?_)
    obtain ⟨h26, h27, h28, h29⟩ := hp25
    exact False.elim h29

set_option maxHeartbeats 4000000 in
set_option maxRecDepth 100000 in
/-- X0_isKind -/
theorem jx_X0_isKind (l : Launch) (hlt : l.stackTraces = false) (D : va_G) (t3 : Nat × Nat × Nat) (cI cJ : ClassId) (ad : Nat → Nat) (g : Nat → Int32) (lg : Nat → Int64) (ar : Nat → Nat → Int32) (bk : Nat → Int64) (sz : Nat) (y0 : Int32) : JMi l yX0_isKind (Cond.code yX0_isKind cX0_isKind 1 (some .boolean) :: wwX) { frames := 0, cells := 1, slots := 6, locals := 0 } t3 D xw cI cJ ad [.int y0] (xw cI cJ ad g lg ar bk) sz 1 6 (fun (r : Int32) g' lg' ar' bk' => hk_fr [] g g' ∧ hk_fr [] lg lg' ∧ hk_fr [] ar ar' ∧ (0 ≤ (r).toInt ∧ (r).toInt ≤ 1)) (fun g' lg' ar' bk' => False) := by
  refine jx_metz (cc := cX0_isKind) (maxL := 1) (ret := (some .boolean)) rfl (by decide) rfl (Nat.le_of_ble_eq_true rfl) ?_
  intro p e s m args below meth c ls Q A hx hb hml hown hts hA hZ hw hl hQ kr kt
  have hq : ∀ w ∈ wwX, w.before args s = true := fun w h => hts w (List.mem_cons_of_mem _ h)
  have hl : lv_has ls 1 [(0, .int y0)] := hl
  refine lv_iload_n hx hb dX0_isKind_0 rfl (lv_at hl 0 rfl) ?_
  refine lv_if_eq (tgt := 20) hx hb dX0_isKind_1 (by decide) (fun cc1 => ?_) (fun cc1 => ?_)
  · refine lv_iconst (v := 1) hx hb dX0_isKind_20 (by decide) ?_
    refine lv_goto (tgt := 25) hx hb dX0_isKind_21 (by decide) ?_
    exact kr 1 g lg ar bk _ _ _ _ rfl ⟨hk_fr0, hk_fr0, hk_fr0, (ob37 (((1 : Int32)).toInt) (by decide))⟩ hw dX0_isKind_25
  · refine lv_iload_n hx hb dX0_isKind_4 rfl (lv_at hl 0 rfl) ?_
    refine lv_iconst (v := 1) hx hb dX0_isKind_5 (by decide) ?_
    refine lv_icmp_eq (tgt := 20) hx hb dX0_isKind_6 (by decide) (fun cc2 => ?_) (fun cc2 => ?_)
    · refine lv_iconst (v := 1) hx hb dX0_isKind_20 (by decide) ?_
      refine lv_goto (tgt := 25) hx hb dX0_isKind_21 (by decide) ?_
      exact kr 1 g lg ar bk _ _ _ _ rfl ⟨hk_fr0, hk_fr0, hk_fr0, (ob361 (((1 : Int32)).toInt) ((y0).toInt) (((0 : Int32)).toInt) (hE_eq cc2) (hE_ne cc1) (by decide) (hE_rng (y0)) (by decide))⟩ hw dX0_isKind_25
    · refine lv_iload_n hx hb dX0_isKind_9 rfl (lv_at hl 0 rfl) ?_
      refine lv_iconst (v := 4) hx hb dX0_isKind_10 (by decide) ?_
      refine lv_icmp_eq (tgt := 20) hx hb dX0_isKind_11 (by decide) (fun cc3 => ?_) (fun cc3 => ?_)
      · refine lv_iconst (v := 1) hx hb dX0_isKind_20 (by decide) ?_
        refine lv_goto (tgt := 25) hx hb dX0_isKind_21 (by decide) ?_
        exact kr 1 g lg ar bk _ _ _ _ rfl ⟨hk_fr0, hk_fr0, hk_fr0, (ob362 (((1 : Int32)).toInt) ((y0).toInt) (((0 : Int32)).toInt) (((4 : Int32)).toInt) (hE_ne cc2) (hE_ne cc1) (hE_eq cc3) (by decide) (hE_rng (y0)) (by decide) (by decide))⟩ hw dX0_isKind_25
      · refine lv_iload_n hx hb dX0_isKind_14 rfl (lv_at hl 0 rfl) ?_
        refine lv_bipush (v := 10) hx hb dX0_isKind_15 (by decide) ?_
        refine lv_icmp_ne (tgt := 24) hx hb dX0_isKind_17 (by decide) (fun cc4 => ?_) (fun cc4 => ?_)
        · refine lv_iconst (v := 0) hx hb dX0_isKind_24 (by decide) ?_
          exact kr 0 g lg ar bk _ _ _ _ rfl ⟨hk_fr0, hk_fr0, hk_fr0, (ob363 (((0 : Int32)).toInt) ((y0).toInt) (((1 : Int32)).toInt) (((4 : Int32)).toInt) (((10 : Int32)).toInt) (hE_ne cc1) (hE_ne cc2) (hE_ne cc3) (hE_ne cc4) (by decide) (hE_rng (y0)) (by decide) (by decide) (by decide))⟩ hw dX0_isKind_25
        · refine lv_iconst (v := 1) hx hb dX0_isKind_20 (by decide) ?_
          refine lv_goto (tgt := 25) hx hb dX0_isKind_21 (by decide) ?_
          exact kr 1 g lg ar bk _ _ _ _ rfl ⟨hk_fr0, hk_fr0, hk_fr0, (ob364 (((1 : Int32)).toInt) ((y0).toInt) (((0 : Int32)).toInt) (((4 : Int32)).toInt) (((10 : Int32)).toInt) (hE_ne cc2) (hE_ne cc1) (hE_ne cc3) (hE_eq cc4) (by decide) (hE_rng (y0)) (by decide) (by decide) (by decide))⟩ hw dX0_isKind_25

set_option maxHeartbeats 4000000 in
set_option maxRecDepth 100000 in
/-- X6_readStart on (25,) -/
theorem jx_X6_readStart (l : Launch) (hlt : l.stackTraces = false) (D : va_G) (t3 : Nat × Nat × Nat) (cI cJ : ClassId) (ad : Nat → Nat) (g : Nat → Int32) (lg : Nat → Int64) (ar : Nat → Nat → Int32) (bk : Nat → Int64) (sz : Nat) (hi_a0rg : hk_rg 0 255 (ar 0)) : JMv l yX6_readStart (Cond.code yX6_readStart cX6_readStart 1 none :: wwX) { frames := 8, cells := 1, slots := 6, locals := 126 } t3 D xw cI cJ ad [.ref (ad 25)] (xw cI cJ ad g lg ar bk) sz 1 6 (fun g' lg' ar' bk' => hk_fr [15, 17, 44] g g' ∧ hk_fr [] lg lg' ∧ hk_fr [] ar ar') (fun g' lg' ar' bk' => hk_fr [15, 17, 44] g g' ∧ hk_fr [] lg lg' ∧ hk_fr [] ar ar') := by
  refine jx_metv (cc := cX6_readStart) (maxL := 1) (ret := none) rfl (by decide) rfl (Nat.le_of_ble_eq_true rfl) ?_
  intro p e s m args below meth c ls Q A hx hb hml hown hts hA hZ hw hl hQ kr kt
  have hq : ∀ w ∈ wwX, w.before args s = true := fun w h => hts w (List.mem_cons_of_mem _ h)
  have hl : lv_has ls 1 [(0, .ref (ad 25))] := hl
  refine lv_aload_n hx hb dX6_readStart_0 rfl (lv_at hl 0 rfl) ?_
  refine lv_sipush (v := 253) hx hb dX6_readStart_1 (by decide) ?_
  refine lv_iconst (v := 2) hx hb dX6_readStart_4 (by decide) ?_
  refine jx_Vv (As := [.int 253, .int 2]) (rest := []) ⟨hx, hb, hml, hown, hts⟩ hZ hw hA (jx_X6_expect l hlt D t3 cI cJ ad g lg ar bk _ 253 2 hi_a0rg) (cwV 2 hts (jx_gV wwX_good wX_525 wX_526 wX_527 wX_441 wX_528) rfl rfl rfl (by decide +kernel) ⟨Nat.le_of_ble_eq_true rfl, Nat.le_of_ble_eq_true rfl⟩) 25 (ci := 9) (T := TX6) (N := 16) rfl rfl rfl hl.1 rfl (Nat.le_of_ble_eq_true rfl) dX6_readStart_5 ⟨Nat.le_of_ble_eq_true rfl, Nat.le_of_ble_eq_true rfl⟩ (fun u1 u2 u3 u4 H locs ce q hp hw h1 h2 h3 => by obtain ⟨ht0, ht1, ht2⟩ := hp; exact kt _ _ _ _ _ _ _ _ _ _ _ ⟨(hk_frT hk_fr0 (by decide) ht0), ht1, ht2⟩ hw h1 h2 h3) (fun g6 l7 a8 b9 H locs hp10 hw => ?_)
  obtain ⟨h11, h12, h13⟩ := hp10
  refine lv_aload_n hx hb dX6_readStart_8 rfl (lv_at hl 0 rfl) ?_
  refine lv_bipush (v := 55) hx hb dX6_readStart_9 (by decide) ?_
  refine lv_iconst (v := 2) hx hb dX6_readStart_11 (by decide) ?_
  refine jx_Vv (As := [.int 55, .int 2]) (rest := []) ⟨hx, hb, hml, hown, hts⟩ hZ hw hA (jx_X6_expect l hlt D t3 cI cJ ad g6 l7 a8 b9 _ 55 2 (hk_pE (P := hk_rg 0 255) hi_a0rg (h13 0 rfl))) (cwV 2 hts (jx_gV wwX_good wX_525 wX_526 wX_527 wX_441 wX_528) rfl rfl rfl (by decide +kernel) ⟨Nat.le_of_ble_eq_true rfl, Nat.le_of_ble_eq_true rfl⟩) 25 (ci := 9) (T := TX6) (N := 16) rfl rfl rfl hl.1 rfl (Nat.le_of_ble_eq_true rfl) dX6_readStart_12 ⟨Nat.le_of_ble_eq_true rfl, Nat.le_of_ble_eq_true rfl⟩ (fun u14 u15 u16 u17 H locs ce q hp hw h1 h2 h3 => by obtain ⟨ht0, ht1, ht2⟩ := hp; exact kt _ _ _ _ _ _ _ _ _ _ _ ⟨(hk_frT (hk_frT hk_fr0 (by decide) h11) (by decide) ht0), (hk_frT h12 (by decide) ht1), (hk_frT h13 (by decide) ht2)⟩ hw h1 h2 h3) (fun g19 l20 a21 b22 H locs hp23 hw => ?_)
  obtain ⟨h24, h25, h26⟩ := hp23
  have hr27 : hk_rg 0 255 (a21 0) := (hk_pE (P := hk_rg 0 255) (hk_pE (P := hk_rg 0 255) hi_a0rg (h13 0 rfl)) (h26 0 rfl))
  refine lv_aload_n hx hb dX6_readStart_15 rfl (lv_at hl 0 rfl) ?_
  refine lv_bipush (v := 122) hx hb dX6_readStart_16 (by decide) ?_
  refine lv_iconst (v := 2) hx hb dX6_readStart_18 (by decide) ?_
  refine jx_Vv (As := [.int 122, .int 2]) (rest := []) ⟨hx, hb, hml, hown, hts⟩ hZ hw hA (jx_X6_expect l hlt D t3 cI cJ ad g19 l20 a21 b22 _ 122 2 hr27) (cwV 2 hts (jx_gV wwX_good wX_525 wX_526 wX_527 wX_441 wX_528) rfl rfl rfl (by decide +kernel) ⟨Nat.le_of_ble_eq_true rfl, Nat.le_of_ble_eq_true rfl⟩) 25 (ci := 9) (T := TX6) (N := 16) rfl rfl rfl hl.1 rfl (Nat.le_of_ble_eq_true rfl) dX6_readStart_19 ⟨Nat.le_of_ble_eq_true rfl, Nat.le_of_ble_eq_true rfl⟩ (fun u28 u29 u30 u31 H locs ce q hp hw h1 h2 h3 => by obtain ⟨ht0, ht1, ht2⟩ := hp; exact kt _ _ _ _ _ _ _ _ _ _ _ ⟨(hk_frT (hk_frT (hk_frT hk_fr0 (by decide) h11) (by decide) h24) (by decide) ht0), (hk_frT (hk_frT h12 (by decide) h25) (by decide) ht1), (hk_frT (hk_frT h13 (by decide) h26) (by decide) ht2)⟩ hw h1 h2 h3) (fun g33 l34 a35 b36 H locs hp37 hw => ?_)
  obtain ⟨h38, h39, h40⟩ := hp37
  refine lv_aload_n hx hb dX6_readStart_22 rfl (lv_at hl 0 rfl) ?_
  refine lv_bipush (v := 88) hx hb dX6_readStart_23 (by decide) ?_
  refine lv_iconst (v := 2) hx hb dX6_readStart_25 (by decide) ?_
  refine jx_Vv (As := [.int 88, .int 2]) (rest := []) ⟨hx, hb, hml, hown, hts⟩ hZ hw hA (jx_X6_expect l hlt D t3 cI cJ ad g33 l34 a35 b36 _ 88 2 (hk_pE (P := hk_rg 0 255) hr27 (h40 0 rfl))) (cwV 2 hts (jx_gV wwX_good wX_525 wX_526 wX_527 wX_441 wX_528) rfl rfl rfl (by decide +kernel) ⟨Nat.le_of_ble_eq_true rfl, Nat.le_of_ble_eq_true rfl⟩) 25 (ci := 9) (T := TX6) (N := 16) rfl rfl rfl hl.1 rfl (Nat.le_of_ble_eq_true rfl) dX6_readStart_26 ⟨Nat.le_of_ble_eq_true rfl, Nat.le_of_ble_eq_true rfl⟩ (fun u41 u42 u43 u44 H locs ce q hp hw h1 h2 h3 => by obtain ⟨ht0, ht1, ht2⟩ := hp; exact kt _ _ _ _ _ _ _ _ _ _ _ ⟨(hk_frT (hk_frT (hk_frT (hk_frT hk_fr0 (by decide) h11) (by decide) h24) (by decide) h38) (by decide) ht0), (hk_frT (hk_frT (hk_frT h12 (by decide) h25) (by decide) h39) (by decide) ht1), (hk_frT (hk_frT (hk_frT h13 (by decide) h26) (by decide) h40) (by decide) ht2)⟩ hw h1 h2 h3) (fun g46 l47 a48 b49 H locs hp50 hw => ?_)
  obtain ⟨h51, h52, h53⟩ := hp50
  have hr54 : hk_rg 0 255 (a48 0) := (hk_pE (P := hk_rg 0 255) (hk_pE (P := hk_rg 0 255) hr27 (h40 0 rfl)) (h53 0 rfl))
  refine lv_aload_n hx hb dX6_readStart_29 rfl (lv_at hl 0 rfl) ?_
  refine lv_bipush (v := 90) hx hb dX6_readStart_30 (by decide) ?_
  refine lv_iconst (v := 2) hx hb dX6_readStart_32 (by decide) ?_
  refine jx_Vv (As := [.int 90, .int 2]) (rest := []) ⟨hx, hb, hml, hown, hts⟩ hZ hw hA (jx_X6_expect l hlt D t3 cI cJ ad g46 l47 a48 b49 _ 90 2 hr54) (cwV 2 hts (jx_gV wwX_good wX_525 wX_526 wX_527 wX_441 wX_528) rfl rfl rfl (by decide +kernel) ⟨Nat.le_of_ble_eq_true rfl, Nat.le_of_ble_eq_true rfl⟩) 25 (ci := 9) (T := TX6) (N := 16) rfl rfl rfl hl.1 rfl (Nat.le_of_ble_eq_true rfl) dX6_readStart_33 ⟨Nat.le_of_ble_eq_true rfl, Nat.le_of_ble_eq_true rfl⟩ (fun u55 u56 u57 u58 H locs ce q hp hw h1 h2 h3 => by obtain ⟨ht0, ht1, ht2⟩ := hp; exact kt _ _ _ _ _ _ _ _ _ _ _ ⟨(hk_frT (hk_frT (hk_frT (hk_frT (hk_frT hk_fr0 (by decide) h11) (by decide) h24) (by decide) h38) (by decide) h51) (by decide) ht0), (hk_frT (hk_frT (hk_frT (hk_frT h12 (by decide) h25) (by decide) h39) (by decide) h52) (by decide) ht1), (hk_frT (hk_frT (hk_frT (hk_frT h13 (by decide) h26) (by decide) h40) (by decide) h53) (by decide) ht2)⟩ hw h1 h2 h3) (fun g60 l61 a62 b63 H locs hp64 hw => ?_)
  obtain ⟨h65, h66, h67⟩ := hp64
  refine lv_aload_n hx hb dX6_readStart_36 rfl (lv_at hl 0 rfl) ?_
  refine lv_iconst (v := 0) hx hb dX6_readStart_37 (by decide) ?_
  refine lv_iconst (v := 2) hx hb dX6_readStart_38 (by decide) ?_
  refine jx_Vv (As := [.int 0, .int 2]) (rest := []) ⟨hx, hb, hml, hown, hts⟩ hZ hw hA (jx_X6_expect l hlt D t3 cI cJ ad g60 l61 a62 b63 _ 0 2 (hk_pE (P := hk_rg 0 255) hr54 (h67 0 rfl))) (cwV 2 hts (jx_gV wwX_good wX_525 wX_526 wX_527 wX_441 wX_528) rfl rfl rfl (by decide +kernel) ⟨Nat.le_of_ble_eq_true rfl, Nat.le_of_ble_eq_true rfl⟩) 25 (ci := 9) (T := TX6) (N := 16) rfl rfl rfl hl.1 rfl (Nat.le_of_ble_eq_true rfl) dX6_readStart_39 ⟨Nat.le_of_ble_eq_true rfl, Nat.le_of_ble_eq_true rfl⟩ (fun u68 u69 u70 u71 H locs ce q hp hw h1 h2 h3 => by obtain ⟨ht0, ht1, ht2⟩ := hp; exact kt _ _ _ _ _ _ _ _ _ _ _ ⟨(hk_frT (hk_frT (hk_frT (hk_frT (hk_frT (hk_frT hk_fr0 (by decide) h11) (by decide) h24) (by decide) h38) (by decide) h51) (by decide) h65) (by decide) ht0), (hk_frT (hk_frT (hk_frT (hk_frT (hk_frT h12 (by decide) h25) (by decide) h39) (by decide) h52) (by decide) h66) (by decide) ht1), (hk_frT (hk_frT (hk_frT (hk_frT (hk_frT h13 (by decide) h26) (by decide) h40) (by decide) h53) (by decide) h67) (by decide) ht2)⟩ hw h1 h2 h3) (fun g73 l74 a75 b76 H locs hp77 hw => ?_)
  obtain ⟨h78, h79, h80⟩ := hp77
  have hr81 : hk_rg 0 255 (a75 0) := (hk_pE (P := hk_rg 0 255) (hk_pE (P := hk_rg 0 255) hr54 (h67 0 rfl)) (h80 0 rfl))
  refine lv_aload_n hx hb dX6_readStart_42 rfl (lv_at hl 0 rfl) ?_
  refine lv_iconst (v := 0) hx hb dX6_readStart_43 (by decide) ?_
  refine lv_bipush (v := 8) hx hb dX6_readStart_44 (by decide) ?_
  refine jx_Vv (As := [.int 0, .int 8]) (rest := []) ⟨hx, hb, hml, hown, hts⟩ hZ hw hA (jx_X6_expect l hlt D t3 cI cJ ad g73 l74 a75 b76 _ 0 8 hr81) (cwV 2 hts (jx_gV wwX_good wX_525 wX_526 wX_527 wX_441 wX_528) rfl rfl rfl (by decide +kernel) ⟨Nat.le_of_ble_eq_true rfl, Nat.le_of_ble_eq_true rfl⟩) 25 (ci := 9) (T := TX6) (N := 16) rfl rfl rfl hl.1 rfl (Nat.le_of_ble_eq_true rfl) dX6_readStart_46 ⟨Nat.le_of_ble_eq_true rfl, Nat.le_of_ble_eq_true rfl⟩ (fun u82 u83 u84 u85 H locs ce q hp hw h1 h2 h3 => by obtain ⟨ht0, ht1, ht2⟩ := hp; exact kt _ _ _ _ _ _ _ _ _ _ _ ⟨(hk_frT (hk_frT (hk_frT (hk_frT (hk_frT (hk_frT (hk_frT hk_fr0 (by decide) h11) (by decide) h24) (by decide) h38) (by decide) h51) (by decide) h65) (by decide) h78) (by decide) ht0), (hk_frT (hk_frT (hk_frT (hk_frT (hk_frT (hk_frT h12 (by decide) h25) (by decide) h39) (by decide) h52) (by decide) h66) (by decide) h79) (by decide) ht1), (hk_frT (hk_frT (hk_frT (hk_frT (hk_frT (hk_frT h13 (by decide) h26) (by decide) h40) (by decide) h53) (by decide) h67) (by decide) h80) (by decide) ht2)⟩ hw h1 h2 h3) (fun g87 l88 a89 b90 H locs hp91 hw => ?_)
  obtain ⟨h92, h93, h94⟩ := hp91
  refine lv_aload_n hx hb dX6_readStart_49 rfl (lv_at hl 0 rfl) ?_
  refine lv_aload_n hx hb dX6_readStart_50 rfl (lv_at hl 0 rfl) ?_
  refine hk_get (ci := 9) (C := RX6) (T := TX6) (N := 16) (v := .ref (ad 6)) hx hb hts (fun _ h => List.mem_cons_of_mem _ (wwXc_wsX60 _ h)) hown hw 25 rfl rfl 0 (by decide) (hq _ wX_399) rfl dX6_readStart_51 ?_
  refine jx_Vi (As := []) (rest := [.ref (ad 25)]) ⟨hx, hb, hml, hown, hts⟩ hZ hw hA (jx_X8_next l hlt D t3 cI cJ ad g87 l88 a89 b90 _ (hk_pE (P := hk_rg 0 255) hr81 (h94 0 rfl))) (cwV 0 hts (jx_gV wwX_good wX_430 wX_250 wX_251 wX_252 wX_253) rfl rfl rfl (by decide +kernel) ⟨Nat.le_of_ble_eq_true rfl, Nat.le_of_ble_eq_true rfl⟩) 6 (ci := 11) (T := TX8) (N := 4) rfl rfl rfl hl.1 rfl (Nat.le_of_ble_eq_true rfl) dX6_readStart_54 ⟨Nat.le_of_ble_eq_true rfl, Nat.le_of_ble_eq_true rfl⟩ (fun u95 u96 u97 u98 H locs ce q hp hw h1 h2 h3 => by obtain ⟨ht0, ht1, ht2⟩ := hp; exact kt _ _ _ _ _ _ _ _ _ _ _ ⟨(hk_frT (hk_frT (hk_frT (hk_frT (hk_frT (hk_frT (hk_frT (hk_frT hk_fr0 (by decide) h11) (by decide) h24) (by decide) h38) (by decide) h51) (by decide) h65) (by decide) h78) (by decide) h92) (by decide) ht0), (hk_frT (hk_frT (hk_frT (hk_frT (hk_frT (hk_frT (hk_frT h12 (by decide) h25) (by decide) h39) (by decide) h52) (by decide) h66) (by decide) h79) (by decide) h93) (by decide) ht1), (hk_frT (hk_frT (hk_frT (hk_frT (hk_frT (hk_frT (hk_frT h13 (by decide) h26) (by decide) h40) (by decide) h53) (by decide) h67) (by decide) h80) (by decide) h94) (by decide) ht2)⟩ hw h1 h2 h3) (fun r99 g100 l101 a102 b103 H locs hp104 hw => ?_)
  obtain ⟨h105, h106, h107, h108⟩ := hp104
  have hr109 : hk_rg 0 255 (a102 0) := (hk_pE (P := hk_rg 0 255) (hk_pE (P := hk_rg 0 255) hr81 (h94 0 rfl)) (h107 0 rfl))
  refine jx_putg xw (g := g100) (lg := l101) (ar := a102) (bk := b103) (x := r99) 44 (ci := 9) (C := RX6) (T := TX6) (N := 16) (ty := .int) hx hb hts (fun _ h => List.mem_cons_of_mem _ (wwXc_wsX60 _ h)) tyX6 tyX6_ok nmX6 hown hw 25 rfl rfl 10 (by decide) (hq _ wX_524) rfl (by decide +kernel) rfl rfl (Nat.le_of_ble_eq_true rfl) dX6_readStart_57 rfl (fun H locs g110 h_g110 hw => ?_)
  refine lv_aload_n hx hb dX6_readStart_60 rfl (lv_at hl 0 rfl) ?_
  have e_g110_44 : g110 44 = r99 := (hk_upgS h_g110)
  refine hk_get (ci := 9) (C := RX6) (T := TX6) (N := 16) (v := .int r99) hx hb hts (fun _ h => List.mem_cons_of_mem _ (wwXc_wsX60 _ h)) hown hw 25 rfl rfl 10 (by decide) (hq _ wX_524) (congrArg (fun z => some (Value.int z)) e_g110_44) dX6_readStart_61 ?_
  refine jx_Si (As := [.int r99]) (rest := []) ⟨hx, hb, hml, hown, hts⟩ hZ hw hA (jx_X0_isKind l hlt D t3 cI cJ ad g110 l101 a102 b103 _ r99) (va_cwS 1 hts (jx_gS wwX_good wX_555 wX_60 wX_12 wX_61) rfl rfl rfl (by decide +kernel) ⟨Nat.le_of_ble_eq_true rfl, Nat.le_of_ble_eq_true rfl⟩) rfl hl.1 rfl (Nat.le_of_ble_eq_true rfl) dX6_readStart_64 ⟨Nat.le_of_ble_eq_true rfl, Nat.le_of_ble_eq_true rfl⟩ (fun _ _ _ _ _ _ _ _ hp _ _ _ _ => hp.elim) (fun r115 g116 l117 a118 b119 H locs hp120 hw => ?_)
  obtain ⟨h121, h122, h123, h124⟩ := hp120
  have B125 : ∀  (g126 : Nat → Int32) (ls : Array Slot) (H : Heap) (locs : List Loc), hk_fr [17] g116 g126 → hk_W D (jT cI cJ) A s H locs (xw cI cJ ad g126 l117 a118 b119) → lv_has ls 1 [(0, .ref (ad 25))] → W p l e { frames := 8, cells := 1, slots := 6, locals := 126 } s m args below meth c H locs 0 0 Q (F0 m 79 ls []) := by
    intro g126 ls H locs hfr_g126 hw hl
    refine lv_aload_n hx hb dX6_readStart_79 rfl (lv_at hl 0 rfl) ?_
    refine hk_get (ci := 9) (C := RX6) (T := TX6) (N := 16) (v := .ref (ad 6)) hx hb hts (fun _ h => List.mem_cons_of_mem _ (wwXc_wsX60 _ h)) hown hw 25 rfl rfl 0 (by decide) (hq _ wX_399) rfl dX6_readStart_80 ?_
    refine lv_iconst (v := 4) hx hb dX6_readStart_83 (by decide) ?_
    refine jx_Vl (As := [.int 4]) (rest := []) ⟨hx, hb, hml, hown, hts⟩ hZ hw hA (jx_X8_low l hlt D t3 cI cJ ad g126 l117 a118 b119 _ 4 (hk_pE (P := hk_rg 0 255) hr109 (h123 0 rfl))) (cwV 1 hts (jx_gV wwX_good wX_443 wX_330 wX_331 wX_252 wX_332) rfl rfl rfl (by decide +kernel) ⟨Nat.le_of_ble_eq_true rfl, Nat.le_of_ble_eq_true rfl⟩) 6 (ci := 11) (T := TX8) (N := 4) rfl rfl rfl hl.1 rfl (Nat.le_of_ble_eq_true rfl) dX6_readStart_84 ⟨Nat.le_of_ble_eq_true rfl, Nat.le_of_ble_eq_true rfl⟩ (fun u127 u128 u129 u130 H locs ce q hp hw h1 h2 h3 => by obtain ⟨ht0, ht1, ht2⟩ := hp; exact kt _ _ _ _ _ _ _ _ _ _ _ ⟨(hk_frT (hk_frT (hk_frT (hk_frG (hk_frT (hk_frT (hk_frT (hk_frT (hk_frT (hk_frT (hk_frT (hk_frT hk_fr0 (by decide) h11) (by decide) h24) (by decide) h38) (by decide) h51) (by decide) h65) (by decide) h78) (by decide) h92) (by decide) h105) (by decide) h_g110) (by decide) h121) (by decide) hfr_g126) (by decide) ht0), (hk_frT (hk_frT (hk_frT (hk_frT (hk_frT (hk_frT (hk_frT (hk_frT (hk_frT h12 (by decide) h25) (by decide) h39) (by decide) h52) (by decide) h66) (by decide) h79) (by decide) h93) (by decide) h106) (by decide) h122) (by decide) ht1), (hk_frT (hk_frT (hk_frT (hk_frT (hk_frT (hk_frT (hk_frT (hk_frT (hk_frT h13 (by decide) h26) (by decide) h40) (by decide) h53) (by decide) h67) (by decide) h80) (by decide) h94) (by decide) h107) (by decide) h123) (by decide) ht2)⟩ hw h1 h2 h3) (fun r131 g132 l133 a134 b135 H locs hp136 hw => ?_)
    obtain ⟨h137, h138, h139⟩ := hp136
    have hr140 : hk_rg 0 255 (a134 0) := (hk_pE (P := hk_rg 0 255) (hk_pE (P := hk_rg 0 255) hr109 (h123 0 rfl)) (h139 0 rfl))
    refine lv_l2i hx hb dX6_readStart_87 rfl (jx_nm fun z141 hz141 => ?_)
    refine lv_aload_n hx hb dX6_readStart_88 rfl (lv_at hl 0 rfl) ?_
    refine hk_get (ci := 9) (C := RX6) (T := TX6) (N := 16) (v := .ref (ad 6)) hx hb hts (fun _ h => List.mem_cons_of_mem _ (wwXc_wsX60 _ h)) hown hw 25 rfl rfl 0 (by decide) (hq _ wX_399) rfl dX6_readStart_89 ?_
    refine hk_get (ci := 11) (C := RX8) (T := TX8) (N := 4) (v := .ref (ad 2)) hx hb hts (fun _ h => List.mem_cons_of_mem _ (wwXc_wsX80 _ h)) hown hw 6 rfl rfl 0 (by decide) (hq _ wX_401) rfl dX6_readStart_92 ?_
    refine lv_bipush (v := 6) hx hb dX6_readStart_95 (by decide) ?_
    refine lv_bipush (v := 8) hx hb dX6_readStart_97 (by decide) ?_
    refine jx_Si (As := [.ref (ad 2), .int 6, .int 8]) (rest := [.int z141]) ⟨hx, hb, hml, hown, hts⟩ hZ hw hA (jx_X0_crc32_2 l hlt D t3 cI cJ ad g132 l133 a134 b135 _ 6 8) (va_cwS 3 hts (jx_gS wwX_good wX_522 wX_11 wX_12 wX_13) rfl rfl rfl (by decide +kernel) ⟨Nat.le_of_ble_eq_true rfl, Nat.le_of_ble_eq_true rfl⟩) rfl hl.1 rfl (Nat.le_of_ble_eq_true rfl) dX6_readStart_99 ⟨Nat.le_of_ble_eq_true rfl, Nat.le_of_ble_eq_true rfl⟩ (fun _ _ _ _ _ _ _ _ hp _ _ _ _ => hp.elim) (fun r146 g147 l148 a149 b150 H locs hp151 hw => ?_)
    obtain ⟨h152, h153, h154⟩ := hp151
    refine lv_icmp_eq (tgt := 114) hx hb dX6_readStart_102 (by decide) (fun cc155 => ?_) (fun cc155 => ?_)
    · exact kr g147 l148 a149 b150 _ _ _ _ ⟨(hk_frT (hk_frT (hk_frT (hk_frT (hk_frG (hk_frT (hk_frT (hk_frT (hk_frT (hk_frT (hk_frT (hk_frT (hk_frT hk_fr0 (by decide) h11) (by decide) h24) (by decide) h38) (by decide) h51) (by decide) h65) (by decide) h78) (by decide) h92) (by decide) h105) (by decide) h_g110) (by decide) h121) (by decide) hfr_g126) (by decide) h137) (by decide) h152), (hk_frT (hk_frT (hk_frT (hk_frT (hk_frT (hk_frT (hk_frT (hk_frT (hk_frT (hk_frT h12 (by decide) h25) (by decide) h39) (by decide) h52) (by decide) h66) (by decide) h79) (by decide) h93) (by decide) h106) (by decide) h122) (by decide) h138) (by decide) h153), (hk_frT (hk_frT (hk_frT (hk_frT (hk_frT (hk_frT (hk_frT (hk_frT (hk_frT (hk_frT h13 (by decide) h26) (by decide) h40) (by decide) h53) (by decide) h67) (by decide) h80) (by decide) h94) (by decide) h107) (by decide) h123) (by decide) h139) (by decide) h154)⟩ hw dX6_readStart_114
    · refine lv_aload_n hx hb dX6_readStart_105 rfl (lv_at hl 0 rfl) ?_
      refine hk_get (ci := 9) (C := RX6) (T := TX6) (N := 16) (v := .ref (ad 6)) hx hb hts (fun _ h => List.mem_cons_of_mem _ (wwXc_wsX60 _ h)) hown hw 25 rfl rfl 0 (by decide) (hq _ wX_399) rfl dX6_readStart_106 ?_
      refine lv_bipush (v := 9) hx hb dX6_readStart_109 (by decide) ?_
      refine jx_Vv (As := [.int 9]) (rest := []) ⟨hx, hb, hml, hown, hts⟩ hZ hw hA (jx_X8_fail l hlt D t3 cI cJ ad g147 l148 a149 b150 _ 9) (cwV 1 hts (jx_gV wwX_good wX_403 wX_255 wX_256 wX_252 wX_257) rfl rfl rfl (by decide +kernel) ⟨Nat.le_of_ble_eq_true rfl, Nat.le_of_ble_eq_true rfl⟩) 6 (ci := 11) (T := TX8) (N := 4) rfl rfl rfl hl.1 rfl (Nat.le_of_ble_eq_true rfl) dX6_readStart_111 ⟨Nat.le_of_ble_eq_true rfl, Nat.le_of_ble_eq_true rfl⟩ (fun u156 u157 u158 u159 H locs ce q hp hw h1 h2 h3 => by obtain ⟨ht0, ht1, ht2⟩ := hp; exact kt _ _ _ _ _ _ _ _ _ _ _ ⟨(hk_frT (hk_frT (hk_frT (hk_frT (hk_frT (hk_frG (hk_frT (hk_frT (hk_frT (hk_frT (hk_frT (hk_frT (hk_frT (hk_frT hk_fr0 (by decide) h11) (by decide) h24) (by decide) h38) (by decide) h51) (by decide) h65) (by decide) h78) (by decide) h92) (by decide) h105) (by decide) h_g110) (by decide) h121) (by decide) hfr_g126) (by decide) h137) (by decide) h152) (by decide) ht0), (hk_frT (hk_frT (hk_frT (hk_frT (hk_frT (hk_frT (hk_frT (hk_frT (hk_frT (hk_frT (hk_frT h12 (by decide) h25) (by decide) h39) (by decide) h52) (by decide) h66) (by decide) h79) (by decide) h93) (by decide) h106) (by decide) h122) (by decide) h138) (by decide) h153) (by decide) ht1), (hk_frT (hk_frT (hk_frT (hk_frT (hk_frT (hk_frT (hk_frT (hk_frT (hk_frT (hk_frT (hk_frT h13 (by decide) h26) (by decide) h40) (by decide) h53) (by decide) h67) (by decide) h80) (by decide) h94) (by decide) h107) (by decide) h123) (by decide) h139) (by decide) h154) (by decide) ht2)⟩ hw h1 h2 h3) (fun g161 l162 a163 b164 H locs hp165 hw => ?_)
      obtain ⟨h166, h167, h168, h169⟩ := hp165
      exact False.elim h169
  refine lv_if_ne (tgt := 79) hx hb dX6_readStart_67 (by decide) (fun cc170 => ?_) (fun cc170 => ?_)
  · exact B125 g116 ls _ _ hk_fr0 hw (lv_sub hl [0] rfl)
  · refine lv_aload_n hx hb dX6_readStart_70 rfl (lv_at hl 0 rfl) ?_
    refine hk_get (ci := 9) (C := RX6) (T := TX6) (N := 16) (v := .ref (ad 6)) hx hb hts (fun _ h => List.mem_cons_of_mem _ (wwXc_wsX60 _ h)) hown hw 25 rfl rfl 0 (by decide) (hq _ wX_399) rfl dX6_readStart_71 ?_
    refine lv_bipush (v := 14) hx hb dX6_readStart_74 (by decide) ?_
    refine jx_Vv (As := [.int 14]) (rest := []) ⟨hx, hb, hml, hown, hts⟩ hZ hw hA (jx_X8_fail l hlt D t3 cI cJ ad g116 l117 a118 b119 _ 14) (cwV 1 hts (jx_gV wwX_good wX_403 wX_255 wX_256 wX_252 wX_257) rfl rfl rfl (by decide +kernel) ⟨Nat.le_of_ble_eq_true rfl, Nat.le_of_ble_eq_true rfl⟩) 6 (ci := 11) (T := TX8) (N := 4) rfl rfl rfl hl.1 rfl (Nat.le_of_ble_eq_true rfl) dX6_readStart_76 ⟨Nat.le_of_ble_eq_true rfl, Nat.le_of_ble_eq_true rfl⟩ (fun u171 u172 u173 u174 H locs ce q hp hw h1 h2 h3 => by obtain ⟨ht0, ht1, ht2⟩ := hp; exact kt _ _ _ _ _ _ _ _ _ _ _ ⟨(hk_frT (hk_frT (hk_frG (hk_frT (hk_frT (hk_frT (hk_frT (hk_frT (hk_frT (hk_frT (hk_frT hk_fr0 (by decide) h11) (by decide) h24) (by decide) h38) (by decide) h51) (by decide) h65) (by decide) h78) (by decide) h92) (by decide) h105) (by decide) h_g110) (by decide) h121) (by decide) ht0), (hk_frT (hk_frT (hk_frT (hk_frT (hk_frT (hk_frT (hk_frT (hk_frT (hk_frT h12 (by decide) h25) (by decide) h39) (by decide) h52) (by decide) h66) (by decide) h79) (by decide) h93) (by decide) h106) (by decide) h122) (by decide) ht1), (hk_frT (hk_frT (hk_frT (hk_frT (hk_frT (hk_frT (hk_frT (hk_frT (hk_frT h13 (by decide) h26) (by decide) h40) (by decide) h53) (by decide) h67) (by decide) h80) (by decide) h94) (by decide) h107) (by decide) h123) (by decide) ht2)⟩ hw h1 h2 h3) (fun g176 l177 a178 b179 H locs hp180 hw => ?_)
    obtain ⟨h181, h182, h183, h184⟩ := hp180
    exact False.elim h184

set_option maxHeartbeats 4000000 in
set_option maxRecDepth 100000 in
/-- X6_findBlock on (25,) -/
theorem jx_X6_findBlock (l : Launch) (hlt : l.stackTraces = false) (D : va_G) (t3 : Nat × Nat × Nat) (cI cJ : ClassId) (ad : Nat → Nat) (g : Nat → Int32) (lg : Nat → Int64) (ar : Nat → Nat → Int32) (bk : Nat → Int64) (sz : Nat) (hi_a0rg : hk_rg 0 255 (ar 0)) : JMi l yX6_findBlock (Cond.code yX6_findBlock cX6_findBlock 2 (some .boolean) :: wwX) { frames := 7, cells := 1, slots := 6, locals := 102 } t3 D xw cI cJ ad [.ref (ad 25)] (xw cI cJ ad g lg ar bk) sz 1 6 (fun (r : Int32) g' lg' ar' bk' => hk_fr [15, 17, 51, 52] g g' ∧ hk_fr [] lg lg' ∧ hk_fr [] ar ar') (fun g' lg' ar' bk' => hk_fr [15, 17, 51, 52] g g' ∧ hk_fr [] lg lg' ∧ hk_fr [] ar ar') := by
  refine jx_metz (cc := cX6_findBlock) (maxL := 2) (ret := (some .boolean)) rfl (by decide) rfl (Nat.le_of_ble_eq_true rfl) ?_
  intro p e s m args below meth c ls Q A hx hb hml hown hts hA hZ hw hl hQ kr kt
  have hq : ∀ w ∈ wwX, w.before args s = true := fun w h => hts w (List.mem_cons_of_mem _ h)
  have hl : lv_has ls 2 [(0, .ref (ad 25))] := hl
  refine lv_aload_n hx hb dX6_findBlock_0 rfl (lv_at hl 0 rfl) ?_
  refine hk_get (ci := 9) (C := RX6) (T := TX6) (N := 16) (v := .ref (ad 6)) hx hb hts (fun _ h => List.mem_cons_of_mem _ (wwXc_wsX60 _ h)) hown hw 25 rfl rfl 0 (by decide) (hq _ wX_399) rfl dX6_findBlock_1 ?_
  refine jx_Vi (As := []) (rest := []) ⟨hx, hb, hml, hown, hts⟩ hZ hw hA (jx_X8_next l hlt D t3 cI cJ ad g lg ar bk _ hi_a0rg) (cwV 0 hts (jx_gV wwX_good wX_430 wX_250 wX_251 wX_252 wX_253) rfl rfl rfl (by decide +kernel) ⟨Nat.le_of_ble_eq_true rfl, Nat.le_of_ble_eq_true rfl⟩) 6 (ci := 11) (T := TX8) (N := 4) rfl rfl rfl hl.1 rfl (Nat.le_of_ble_eq_true rfl) dX6_findBlock_4 ⟨Nat.le_of_ble_eq_true rfl, Nat.le_of_ble_eq_true rfl⟩ (fun u1 u2 u3 u4 H locs ce q hp hw h1 h2 h3 => by obtain ⟨ht0, ht1, ht2⟩ := hp; exact kt _ _ _ _ _ _ _ _ _ _ _ ⟨(hk_frT hk_fr0 (by decide) ht0), ht1, ht2⟩ hw h1 h2 h3) (fun r5 g6 l7 a8 b9 H locs hp10 hw => ?_)
  obtain ⟨h11, h12, h13, h14⟩ := hp10
  refine lv_istore_n (lv' := [(1, .int r5), (0, .ref (ad 25))]) hx hb dX6_findBlock_7 rfl hl (by decide) rfl (fun ls hl => ?_)
  refine lv_aload_n hx hb dX6_findBlock_8 rfl (lv_at hl 1 rfl) ?_
  refine hk_get (ci := 9) (C := RX6) (T := TX6) (N := 16) (v := .ref (ad 26)) hx hb hts (fun _ h => List.mem_cons_of_mem _ (wwXc_wsX60 _ h)) hown hw 25 rfl rfl 5 (by decide) (hq _ wX_423) rfl dX6_findBlock_9 ?_
  refine lv_aload_n hx hb dX6_findBlock_12 rfl (lv_at hl 1 rfl) ?_
  refine hk_get (ci := 9) (C := RX6) (T := TX6) (N := 16) (v := .ref (ad 6)) hx hb hts (fun _ h => List.mem_cons_of_mem _ (wwXc_wsX60 _ h)) hown hw 25 rfl rfl 0 (by decide) (hq _ wX_399) rfl dX6_findBlock_13 ?_
  refine hk_get (ci := 11) (C := RX8) (T := TX8) (N := 4) (v := .int (g6 15)) hx hb hts (fun _ h => List.mem_cons_of_mem _ (wwXc_wsX80 _ h)) hown hw 6 rfl rfl 1 (by decide) (hq _ wX_400) rfl dX6_findBlock_16 ?_
  refine lv_iconst (v := 1) hx hb dX6_findBlock_19 (by decide) ?_
  refine lv_isub hx hb dX6_findBlock_20 (jx_nm fun z15 hz15 => ?_)
  refine jx_putg xw (g := g6) (lg := l7) (ar := a8) (bk := b9) (x := z15) 51 (ci := 6) (C := RX3) (T := TX3) (N := 9) (ty := .int) hx hb hts (fun _ h => List.mem_cons_of_mem _ (wwXc_wsX30 _ h)) tyX3 tyX3_ok nmX3 hown hw 26 rfl rfl 4 (by decide) (hq _ wX_424) rfl (by decide +kernel) rfl rfl (Nat.le_of_ble_eq_true rfl) dX6_findBlock_21 rfl (fun H locs g16 h_g16 hw => ?_)
  refine lv_aload_n hx hb dX6_findBlock_24 rfl (lv_at hl 1 rfl) ?_
  refine hk_get (ci := 9) (C := RX6) (T := TX6) (N := 16) (v := .ref (ad 26)) hx hb hts (fun _ h => List.mem_cons_of_mem _ (wwXc_wsX60 _ h)) hown hw 25 rfl rfl 5 (by decide) (hq _ wX_423) rfl dX6_findBlock_25 ?_
  refine lv_iconst (v := 4) hx hb dX6_findBlock_28 (by decide) ?_
  refine lv_iload_n hx hb dX6_findBlock_29 rfl (lv_at hl 0 rfl) ?_
  refine lv_imul hx hb dX6_findBlock_30 (jx_nm fun z17 hz17 => ?_)
  refine lv_iconst (v := 4) hx hb dX6_findBlock_31 (by decide) ?_
  refine lv_iadd hx hb dX6_findBlock_32 (jx_nm fun z18 hz18 => ?_)
  refine jx_putg xw (g := g16) (lg := l7) (ar := a8) (bk := b9) (x := z18) 52 (ci := 6) (C := RX3) (T := TX3) (N := 9) (ty := .int) hx hb hts (fun _ h => List.mem_cons_of_mem _ (wwXc_wsX30 _ h)) tyX3 tyX3_ok nmX3 hown hw 26 rfl rfl 5 (by decide) (hq _ wX_425) rfl (by decide +kernel) rfl rfl (Nat.le_of_ble_eq_true rfl) dX6_findBlock_33 rfl (fun H locs g19 h_g19 hw => ?_)
  refine lv_iload_n hx hb dX6_findBlock_36 rfl (lv_at hl 0 rfl) ?_
  refine lv_if_eq (tgt := 44) hx hb dX6_findBlock_37 (by decide) (fun cc20 => ?_) (fun cc20 => ?_)
  · refine lv_iconst (v := 0) hx hb dX6_findBlock_44 (by decide) ?_
    exact kr 0 g19 l7 a8 b9 _ _ _ _ rfl ⟨(hk_frG (hk_frG (hk_frT hk_fr0 (by decide) h11) (by decide) h_g16) (by decide) h_g19), h12, h13⟩ hw dX6_findBlock_45
  · refine lv_iconst (v := 1) hx hb dX6_findBlock_40 (by decide) ?_
    refine lv_goto (tgt := 45) hx hb dX6_findBlock_41 (by decide) ?_
    exact kr 1 g19 l7 a8 b9 _ _ _ _ rfl ⟨(hk_frG (hk_frG (hk_frT hk_fr0 (by decide) h11) (by decide) h_g16) (by decide) h_g19), h12, h13⟩ hw dX6_findBlock_45

set_option maxHeartbeats 4000000 in
set_option maxRecDepth 100000 in
/-- X6_readHead on (25,) -/
theorem jx_X6_readHead (l : Launch) (hlt : l.stackTraces = false) (D : va_G) (t3 : Nat × Nat × Nat) (cI cJ : ClassId) (ad : Nat → Nat) (g : Nat → Int32) (lg : Nat → Int64) (ar : Nat → Nat → Int32) (bk : Nat → Int64) (sz : Nat) (hi_a0rg : hk_rg 0 255 (ar 0)) : JMv l yX6_readHead (Cond.code yX6_readHead cX6_readHead 1 none :: wwX) { frames := 11, cells := 1, slots := 6, locals := 192 } t3 D xw cI cJ ad [.ref (ad 25)] (xw cI cJ ad g lg ar bk) sz 1 6 (fun g' lg' ar' bk' => hk_fr [15, 17, 50] g g' ∧ hk_fr [4, 5, 6, 7] lg lg' ∧ hk_fr [13, 14] ar ar') (fun g' lg' ar' bk' => hk_fr [15, 17, 50] g g' ∧ hk_fr [4, 5, 6, 7] lg lg' ∧ hk_fr [13, 14] ar ar') := by
  refine jx_metv (cc := cX6_readHead) (maxL := 1) (ret := none) rfl (by decide) rfl (Nat.le_of_ble_eq_true rfl) ?_
  intro p e s m args below meth c ls Q A hx hb hml hown hts hA hZ hw hl hQ kr kt
  have hq : ∀ w ∈ wwX, w.before args s = true := fun w h => hts w (List.mem_cons_of_mem _ h)
  have hl : lv_has ls 1 [(0, .ref (ad 25))] := hl
  refine lv_aload_n hx hb dX6_readHead_0 rfl (lv_at hl 0 rfl) ?_
  refine hk_get (ci := 9) (C := RX6) (T := TX6) (N := 16) (v := .ref (ad 26)) hx hb hts (fun _ h => List.mem_cons_of_mem _ (wwXc_wsX60 _ h)) hown hw 25 rfl rfl 5 (by decide) (hq _ wX_423) rfl dX6_readHead_1 ?_
  refine jx_Vv (As := []) (rest := []) ⟨hx, hb, hml, hown, hts⟩ hZ hw hA (jx_X3_readSizes l hlt D t3 cI cJ ad g lg ar bk _ hi_a0rg) (cwV 0 hts (jx_gV wwX_good wX_529 wX_530 wX_531 wX_307 wX_532) rfl rfl rfl (by decide +kernel) ⟨Nat.le_of_ble_eq_true rfl, Nat.le_of_ble_eq_true rfl⟩) 26 (ci := 6) (T := TX3) (N := 9) rfl rfl rfl hl.1 rfl (Nat.le_of_ble_eq_true rfl) dX6_readHead_4 ⟨Nat.le_of_ble_eq_true rfl, Nat.le_of_ble_eq_true rfl⟩ (fun u1 u2 u3 u4 H locs ce q hp hw h1 h2 h3 => by obtain ⟨ht0, ht1, ht2⟩ := hp; exact kt _ _ _ _ _ _ _ _ _ _ _ ⟨ht0, (hk_frT hk_fr0 (by decide) ht1), (hk_frT hk_fr0 (by decide) ht2)⟩ hw h1 h2 h3) (fun g6 l7 a8 b9 H locs hp10 hw => ?_)
  obtain ⟨h11, h12, h13⟩ := hp10
  refine lv_aload_n hx hb dX6_readHead_7 rfl (lv_at hl 0 rfl) ?_
  refine hk_get (ci := 9) (C := RX6) (T := TX6) (N := 16) (v := .ref (ad 26)) hx hb hts (fun _ h => List.mem_cons_of_mem _ (wwXc_wsX60 _ h)) hown hw 25 rfl rfl 5 (by decide) (hq _ wX_423) rfl dX6_readHead_8 ?_
  refine jx_Vv (As := []) (rest := []) ⟨hx, hb, hml, hown, hts⟩ hZ hw hA (jx_X3_readFilters l hlt D t3 cI cJ ad g6 l7 a8 b9 _ (hk_pE (P := hk_rg 0 255) hi_a0rg (h13 0 rfl))) (cwV 0 hts (jx_gV wwX_good wX_533 wX_534 wX_535 wX_307 wX_536) rfl rfl rfl (by decide +kernel) ⟨Nat.le_of_ble_eq_true rfl, Nat.le_of_ble_eq_true rfl⟩) 26 (ci := 6) (T := TX3) (N := 9) rfl rfl rfl hl.1 rfl (Nat.le_of_ble_eq_true rfl) dX6_readHead_11 ⟨Nat.le_of_ble_eq_true rfl, Nat.le_of_ble_eq_true rfl⟩ (fun u14 u15 u16 u17 H locs ce q hp hw h1 h2 h3 => by obtain ⟨ht0, ht1, ht2⟩ := hp; exact kt _ _ _ _ _ _ _ _ _ _ _ ⟨(hk_frT h11 (by decide) ht0), (hk_frT (hk_frT hk_fr0 (by decide) h12) (by decide) ht1), (hk_frT (hk_frT hk_fr0 (by decide) h13) (by decide) ht2)⟩ hw h1 h2 h3) (fun g19 l20 a21 b22 H locs hp23 hw => ?_)
  obtain ⟨h24, h25, h26⟩ := hp23
  have hr27 : hk_rg 0 255 (a21 0) := (hk_pE (P := hk_rg 0 255) (hk_pE (P := hk_rg 0 255) hi_a0rg (h13 0 rfl)) (h26 0 rfl))
  refine lv_aload_n hx hb dX6_readHead_14 rfl (lv_at hl 0 rfl) ?_
  refine lv_aload_n hx hb dX6_readHead_15 rfl (lv_at hl 0 rfl) ?_
  refine hk_get (ci := 9) (C := RX6) (T := TX6) (N := 16) (v := .ref (ad 26)) hx hb hts (fun _ h => List.mem_cons_of_mem _ (wwXc_wsX60 _ h)) hown hw 25 rfl rfl 5 (by decide) (hq _ wX_423) rfl dX6_readHead_16 ?_
  refine hk_get (ci := 6) (C := RX3) (T := TX3) (N := 9) (v := .long (l20 7)) hx hb hts (fun _ h => List.mem_cons_of_mem _ (wwXc_wsX30 _ h)) hown hw 26 rfl rfl 8 (by decide) (hq _ wX_537) rfl dX6_readHead_19 ?_
  refine jx_Vv (As := [.long (l20 7)]) (rest := []) ⟨hx, hb, hml, hown, hts⟩ hZ hw hA (jx_X6_askMemory l hlt D t3 cI cJ ad g19 l20 a21 b22 _ (l20 7)) (cwV 1 hts (jx_gV wwX_good wX_444 wX_445 wX_446 wX_441 wX_447) rfl rfl rfl (by decide +kernel) ⟨Nat.le_of_ble_eq_true rfl, Nat.le_of_ble_eq_true rfl⟩) 25 (ci := 9) (T := TX6) (N := 16) rfl rfl rfl hl.1 rfl (Nat.le_of_ble_eq_true rfl) dX6_readHead_22 ⟨Nat.le_of_ble_eq_true rfl, Nat.le_of_ble_eq_true rfl⟩ (fun u28 u29 u30 u31 H locs ce q hp hw h1 h2 h3 => by obtain ⟨ht0, ht1, ht2⟩ := hp; exact kt _ _ _ _ _ _ _ _ _ _ _ ⟨(hk_frT (hk_frT h11 (by decide) h24) (by decide) ht0), (hk_frT (hk_frT (hk_frT hk_fr0 (by decide) h12) (by decide) h25) (by decide) ht1), (hk_frT (hk_frT (hk_frT hk_fr0 (by decide) h13) (by decide) h26) (by decide) ht2)⟩ hw h1 h2 h3) (fun g33 l34 a35 b36 H locs hp37 hw => ?_)
  obtain ⟨h38, h39, h40⟩ := hp37
  refine lv_aload_n hx hb dX6_readHead_25 rfl (lv_at hl 0 rfl) ?_
  refine hk_get (ci := 9) (C := RX6) (T := TX6) (N := 16) (v := .ref (ad 26)) hx hb hts (fun _ h => List.mem_cons_of_mem _ (wwXc_wsX60 _ h)) hown hw 25 rfl rfl 5 (by decide) (hq _ wX_423) rfl dX6_readHead_26 ?_
  refine jx_Vv (As := []) (rest := []) ⟨hx, hb, hml, hown, hts⟩ hZ hw hA (jx_X3_readRest l hlt D t3 cI cJ ad g33 l34 a35 b36 _ (hk_pE (P := hk_rg 0 255) hr27 (h40 0 rfl))) (cwV 0 hts (jx_gV wwX_good wX_538 wX_539 wX_540 wX_307 wX_541) rfl rfl rfl (by decide +kernel) ⟨Nat.le_of_ble_eq_true rfl, Nat.le_of_ble_eq_true rfl⟩) 26 (ci := 6) (T := TX3) (N := 9) rfl rfl rfl hl.1 rfl (Nat.le_of_ble_eq_true rfl) dX6_readHead_29 ⟨Nat.le_of_ble_eq_true rfl, Nat.le_of_ble_eq_true rfl⟩ (fun u41 u42 u43 u44 H locs ce q hp hw h1 h2 h3 => by obtain ⟨ht0, ht1, ht2⟩ := hp; exact kt _ _ _ _ _ _ _ _ _ _ _ ⟨(hk_frT (hk_frT (hk_frT h11 (by decide) h24) (by decide) h38) (by decide) ht0), (hk_frT (hk_frT (hk_frT (hk_frT hk_fr0 (by decide) h12) (by decide) h25) (by decide) h39) (by decide) ht1), (hk_frT (hk_frT (hk_frT (hk_frT hk_fr0 (by decide) h13) (by decide) h26) (by decide) h40) (by decide) ht2)⟩ hw h1 h2 h3) (fun g46 l47 a48 b49 H locs hp50 hw => ?_)
  obtain ⟨h51, h52, h53⟩ := hp50
  have hr54 : hk_rg 0 255 (a48 0) := (hk_pE (P := hk_rg 0 255) (hk_pE (P := hk_rg 0 255) hr27 (h40 0 rfl)) (h53 0 rfl))
  exact kr g46 l47 a48 b49 _ _ _ _ ⟨(hk_frT (hk_frT (hk_frT h11 (by decide) h24) (by decide) h38) (by decide) h51), (hk_frT (hk_frT (hk_frT (hk_frT hk_fr0 (by decide) h12) (by decide) h25) (by decide) h39) (by decide) h52), (hk_frT (hk_frT (hk_frT (hk_frT hk_fr0 (by decide) h13) (by decide) h26) (by decide) h40) (by decide) h53)⟩ hw dX6_readHead_32

set_option maxHeartbeats 4000000 in
set_option maxRecDepth 100000 in
/-- X3_undo on (26, 4) -/
theorem jx_X3_undo_4 (l : Launch) (hlt : l.stackTraces = false) (D : va_G) (t3 : Nat × Nat × Nat) (cI cJ : ClassId) (ad : Nat → Nat) (g : Nat → Int32) (lg : Nat → Int64) (ar : Nat → Nat → Int32) (bk : Nat → Int64) (sz : Nat) (y2 : Int32) (hr0 : 0 ≤ (y2).toInt ∧ (y2).toInt ≤ 3000) (hr1 : (g 14).toInt ≤ 3000) : JMv l yX3_undo (Cond.code yX3_undo cX3_undo 4 none :: wwX) { frames := 2, cells := 1, slots := 6, locals := 50 } t3 D xw cI cJ ad [.ref (ad 26), .ref (ad 4), .int y2] (xw cI cJ ad g lg ar bk) sz 1 6 (fun g' lg' ar' bk' => hk_fr [] g g' ∧ hk_fr [] lg lg' ∧ hk_fr [1] ar ar') (fun g' lg' ar' bk' => False) := by
  refine jx_metv (cc := cX3_undo) (maxL := 4) (ret := none) rfl (by decide) rfl (Nat.le_of_ble_eq_true rfl) ?_
  intro p e s m args below meth c ls Q A hx hb hml hown hts hA hZ hw hl hQ kr kt
  have hq : ∀ w ∈ wwX, w.before args s = true := fun w h => hts w (List.mem_cons_of_mem _ h)
  have hl : lv_has ls 4 [(0, .ref (ad 26)), (1, .ref (ad 4)), (2, .int y2)] := hl
  refine lv_aload_n hx hb dX3_undo_0 rfl (lv_at hl 0 rfl) ?_
  refine hk_get (ci := 6) (C := RX3) (T := TX3) (N := 9) (v := .int (g 50)) hx hb hts (fun _ h => List.mem_cons_of_mem _ (wwXc_wsX30 _ h)) hown hw 26 rfl rfl 3 (by decide) (hq _ wX_322) rfl dX3_undo_1 ?_
  refine lv_iconst (v := 2) hx hb dX3_undo_4 (by decide) ?_
  refine lv_isub hx hb dX3_undo_5 (jx_nm fun z1 hz1 => ?_)
  refine lv_istore_n (lv' := [(3, .int z1), (0, .ref (ad 26)), (1, .ref (ad 4)), (2, .int y2)]) hx hb dX3_undo_6 rfl hl (by decide) rfl (fun ls hl => ?_)
  have B2 : ∀ (k5 : Nat) (x3 : Int32) (a4 : Nat → Nat → Int32) (ls : Array Slot) (H : Heap) (locs : List Loc), (x3).toInt + 2147483649 ≤ (k5 : Int) → hk_fr [1] ar a4 → hk_W D (jT cI cJ) A s H locs (xw cI cJ ad g lg a4 bk) → lv_has ls 4 [(0, .ref (ad 26)), (1, .ref (ad 4)), (2, .int y2), (3, .int x3)] → W p l e { frames := 2, cells := 1, slots := 6, locals := 50 } s m args below meth c H locs 0 0 Q (F0 m 7 ls []) := by
    intro k5
    induction k5 with
    | zero =>
      intro x3 a4 ls H locs hrk_B2 hfr_a4 hw hl
      exact False.elim (hk_no0 (0 * (x3).toInt) (ob58 ((x3).toInt) hrk_B2 (hE_rng (x3))) (by simp))
    | succ k5 ih_B2 =>
      intro x3 a4 ls H locs hrk_B2 hfr_a4 hw hl
      have hrk_B2 := hk_rk hrk_B2
      refine lv_iload_n hx hb dX3_undo_7 rfl (lv_at hl 3 rfl) ?_
      refine lv_if_lt (tgt := 62) hx hb dX3_undo_8 (by decide) (fun cc6 => ?_) (fun cc6 => ?_)
      · exact kr g lg a4 bk _ _ _ _ ⟨hk_fr0, hk_fr0, hfr_a4⟩ hw dX3_undo_62
      · refine lv_aload_n hx hb dX3_undo_11 rfl (lv_at hl 0 rfl) ?_
        refine hk_get (ci := 6) (C := RX3) (T := TX3) (N := 9) (v := .ref (ad 27)) hx hb hts (fun _ h => List.mem_cons_of_mem _ (wwXc_wsX30 _ h)) hown hw 26 rfl rfl 1 (by decide) (hq _ wX_312) rfl dX3_undo_12 ?_
        refine lv_iload_n hx hb dX3_undo_15 rfl (lv_at hl 3 rfl) ?_
        refine lv_iconst (v := 3) hx hb dX3_undo_16 (by decide) ?_
        refine lv_iand hx hb dX3_undo_17 (jx_nm fun z7 hz7 => ?_)
        refine jx_iald hx hb hw 27 0 rfl rfl (hE_in (n := 4) (ob365 ((z7).toInt) ((x3).toInt) (k5 : Int) (((0 : Int32)).toInt) (hE_and 2 4 hz7 (by decide) (by decide) (by decide)) hrk_B2 (hE_nlt cc6) (hE_rng (z7)) (hE_rng (x3)) (by decide))) dX3_undo_18 (fun z8 hz8 => ?_)
        refine lv_iconst (v := 3) hx hb dX3_undo_19 (by decide) ?_
        have B9 : ∀  (a10 : Nat → Nat → Int32) (ls : Array Slot) (H : Heap) (locs : List Loc), hk_fr [1] a4 a10 → hk_W D (jT cI cJ) A s H locs (xw cI cJ ad g lg a10 bk) → lv_has ls 4 [(0, .ref (ad 26)), (1, .ref (ad 4)), (2, .int y2), (3, .int x3)] → W p l e { frames := 2, cells := 1, slots := 6, locals := 50 } s m args below meth c H locs 0 0 Q (F0 m 56 ls []) := by
          intro a10 ls H locs hfr_a10 hw hl
          obtain ⟨z11, hz11⟩ : ∃ z : Int32, x3 + (-1) = z := ⟨_, rfl⟩
          refine lv_iinc (v := z11) (lv' := [(3, .int z11), (0, .ref (ad 26)), (1, .ref (ad 4)), (2, .int y2)]) hx hb dX3_undo_56 hl (k := 3) rfl hz11 (by decide) rfl (fun ls hl => ?_)
          refine lv_goto (tgt := 7) hx hb dX3_undo_59 (by decide) ?_
          exact ih_B2 z11 a10 ls _ _ (ob366 ((z11).toInt) (k5 : Int) ((x3).toInt) ((((-1) : Int32)).toInt) (((0 : Int32)).toInt) ((z7).toInt) hrk_B2 (hE_add hz11) (hE_nlt cc6) (hE_and 2 4 hz7 (by decide) (by decide) (by decide)) (hE_rng (z11)) (hE_rng (x3)) (by decide) (by decide) (hE_rng (z7))) (hk_frT hfr_a4 (by decide) hfr_a10) hw (lv_sub hl [1, 2, 3, 0] rfl)
        refine lv_icmp_ne (tgt := 46) hx hb dX3_undo_20 (by decide) (fun cc12 => ?_) (fun cc12 => ?_)
        · refine lv_aload_n hx hb dX3_undo_46 rfl (lv_at hl 1 rfl) ?_
          refine lv_iload_n hx hb dX3_undo_47 rfl (lv_at hl 2 rfl) ?_
          refine lv_aload_n hx hb dX3_undo_48 rfl (lv_at hl 1 rfl) ?_
          refine hk_get (ci := 12) (C := RX9) (T := TX9) (N := 2) (v := .int (g 14)) hx hb hts (fun _ h => List.mem_cons_of_mem _ (wwXc_wsX90 _ h)) hown hw 4 rfl rfl 1 (by decide) (hq _ wX_336) rfl dX3_undo_49 ?_
          refine lv_iconst (v := 1) hx hb dX3_undo_52 (by decide) ?_
          refine jx_Vv (As := [.int y2, .int (g 14), .int 1]) (rest := []) ⟨hx, hb, hml, hown, hts⟩ hZ hw hA (jx_X9_branch_4 l hlt D t3 cI cJ ad g lg a4 bk _ y2 (g 14) 1 (ob367 ((y2).toInt) hr0 (hE_rng (y2))) (ob368 ((g 14).toInt) hr1 (hE_rng (g 14)))) (cwV 3 hts (jx_gV wwX_good wX_338 wX_187 wX_188 wX_24 wX_189) rfl rfl rfl (by decide +kernel) ⟨Nat.le_of_ble_eq_true rfl, Nat.le_of_ble_eq_true rfl⟩) 4 (ci := 12) (T := TX9) (N := 2) rfl rfl rfl hl.1 rfl (Nat.le_of_ble_eq_true rfl) dX3_undo_53 ⟨Nat.le_of_ble_eq_true rfl, Nat.le_of_ble_eq_true rfl⟩ (fun _ _ _ _ _ _ _ _ hp _ _ _ _ => hp.elim) (fun g18 l19 a20 b21 H locs hp22 hw => ?_)
          obtain ⟨h23, h24, h25⟩ := hp22
          exact B9 a20 ls _ _ h25 hw (lv_sub hl [0, 1, 2, 3] rfl)
        · refine lv_aload_n hx hb dX3_undo_23 rfl (lv_at hl 1 rfl) ?_
          refine lv_iload_n hx hb dX3_undo_24 rfl (lv_at hl 2 rfl) ?_
          refine lv_aload_n hx hb dX3_undo_25 rfl (lv_at hl 1 rfl) ?_
          refine hk_get (ci := 12) (C := RX9) (T := TX9) (N := 2) (v := .int (g 14)) hx hb hts (fun _ h => List.mem_cons_of_mem _ (wwXc_wsX90 _ h)) hown hw 4 rfl rfl 1 (by decide) (hq _ wX_336) rfl dX3_undo_26 ?_
          refine lv_aload_n hx hb dX3_undo_29 rfl (lv_at hl 0 rfl) ?_
          refine hk_get (ci := 6) (C := RX3) (T := TX3) (N := 9) (v := .ref (ad 28)) hx hb hts (fun _ h => List.mem_cons_of_mem _ (wwXc_wsX30 _ h)) hown hw 26 rfl rfl 2 (by decide) (hq _ wX_313) rfl dX3_undo_30 ?_
          refine lv_iload_n hx hb dX3_undo_33 rfl (lv_at hl 3 rfl) ?_
          refine lv_iconst (v := 3) hx hb dX3_undo_34 (by decide) ?_
          refine lv_iand hx hb dX3_undo_35 (jx_nm fun z26 hz26 => ?_)
          refine jx_iald hx hb hw 28 0 rfl rfl (hE_in (n := 4) (ob369 ((z26).toInt) ((x3).toInt) (k5 : Int) (((0 : Int32)).toInt) ((z7).toInt) (hE_and 2 4 hz26 (by decide) (by decide) (by decide)) hrk_B2 (hE_nlt cc6) (hE_and 2 4 hz7 (by decide) (by decide) (by decide)) (hE_rng (z26)) (hE_rng (x3)) (by decide) (hE_rng (z7)))) dX3_undo_36 (fun z27 hz27 => ?_)
          refine lv_iconst (v := 1) hx hb dX3_undo_37 (by decide) ?_
          refine lv_iadd hx hb dX3_undo_38 (jx_nm fun z28 hz28 => ?_)
          refine lv_iconst (v := 1) hx hb dX3_undo_39 (by decide) ?_
          refine jx_Vv (As := [.int y2, .int (g 14), .int z28, .int 1]) (rest := []) ⟨hx, hb, hml, hown, hts⟩ hZ hw hA (jx_X9_delta_4 l hlt D t3 cI cJ ad g lg a4 bk _ y2 (g 14) z28 1) (cwV 4 hts (jx_gV wwX_good wX_337 wX_183 wX_184 wX_24 wX_185) rfl rfl rfl (by decide +kernel) ⟨Nat.le_of_ble_eq_true rfl, Nat.le_of_ble_eq_true rfl⟩) 4 (ci := 12) (T := TX9) (N := 2) rfl rfl rfl hl.1 rfl (Nat.le_of_ble_eq_true rfl) dX3_undo_40 ⟨Nat.le_of_ble_eq_true rfl, Nat.le_of_ble_eq_true rfl⟩ (fun _ _ _ _ _ _ _ _ hp _ _ _ _ => hp.elim) (fun g34 l35 a36 b37 H locs hp38 hw => ?_)
          obtain ⟨h39, h40, h41⟩ := hp38
          refine lv_goto (tgt := 56) hx hb dX3_undo_43 (by decide) ?_
          exact B9 a36 ls _ _ h41 hw (lv_sub hl [0, 1, 2, 3] rfl)
  exact B2 ((z1).toInt + 2147483649).toNat z1 ar ls _ _ (Int.self_le_toNat _) hk_fr0 hw (lv_sub hl [1, 2, 3, 0] rfl)

set_option maxHeartbeats 4000000 in
set_option maxRecDepth 100000 in
/-- X0_crc64 on (4,) -/
theorem jx_X0_crc64_4 (l : Launch) (hlt : l.stackTraces = false) (D : va_G) (t3 : Nat × Nat × Nat) (cI cJ : ClassId) (ad : Nat → Nat) (g : Nat → Int32) (lg : Nat → Int64) (ar : Nat → Nat → Int32) (bk : Nat → Int64) (sz : Nat) (y1 : Int32) (y2 : Int32) : JMl l yX0_crc64 (Cond.code yX0_crc64 cX0_crc64 7 (some .long) :: wwX) { frames := 1, cells := 1, slots := 6, locals := 21 } t3 D xw cI cJ ad [.ref (ad 4), .int y1, .int y2] (xw cI cJ ad g lg ar bk) sz 1 6 (fun (r : Int64) g' lg' ar' bk' => hk_fr [] g g' ∧ hk_fr [] lg lg' ∧ hk_fr [] ar ar') (fun g' lg' ar' bk' => False) := by
  refine jx_metl (cc := cX0_crc64) (maxL := 7) (ret := (some .long)) rfl (by decide) rfl (Nat.le_of_ble_eq_true rfl) ?_
  intro p e s m args below meth c ls Q A hx hb hml hown hts hA hZ hw hl hQ kr kt
  have hq : ∀ w ∈ wwX, w.before args s = true := fun w h => hts w (List.mem_cons_of_mem _ h)
  have hl : lv_has ls 7 [(0, .ref (ad 4)), (1, .int y1), (2, .int y2)] := hl
  refine lv_ldc2 (v := (-1)) hx hb hown (hq _ wX_27) dX0_crc64_0 ?_
  refine lv_lstore_n (lv' := [(3, .long (-1)), (0, .ref (ad 4)), (1, .int y1), (2, .int y2)]) hx hb dX0_crc64_3 rfl hl (by decide) rfl (fun ls hl => ?_)
  refine lv_iload_n hx hb dX0_crc64_4 rfl (lv_at hl 2 rfl) ?_
  refine lv_istore (lv' := [(5, .int y1), (3, .long (-1)), (0, .ref (ad 4)), (1, .int y1), (2, .int y2)]) hx hb dX0_crc64_5 hl (by decide) rfl (fun ls hl => ?_)
  have B1 : ∀ (k4 : Nat) (x2 : Int64) (x3 : Int32) (ls : Array Slot) (H : Heap) (locs : List Loc), 2147483648 - (x3).toInt ≤ (k4 : Int) → hk_W D (jT cI cJ) A s H locs (xw cI cJ ad g lg ar bk) → lv_has ls 7 [(0, .ref (ad 4)), (2, .int y2), (3, .long x2), (5, .int x3)] → W p l e { frames := 1, cells := 1, slots := 6, locals := 21 } s m args below meth c H locs 0 0 Q (F0 m 7 ls []) := by
    intro k4
    induction k4 with
    | zero =>
      intro x2 x3 ls H locs hrk_B1 hw hl
      exact False.elim (hk_no0 (0 * (x3).toInt) (ob274 ((x3).toInt) hrk_B1 (hE_rng (x3))) (by simp))
    | succ k4 ih_B1 =>
      intro x2 x3 ls H locs hrk_B1 hw hl
      have hrk_B1 := hk_rk hrk_B1
      refine lv_iload hx hb dX0_crc64_7 (lv_at hl 3 rfl) ?_
      refine lv_iload_n hx hb dX0_crc64_9 rfl (lv_at hl 1 rfl) ?_
      refine lv_icmp_ge (tgt := 58) hx hb dX0_crc64_10 (by decide) (fun cc5 => ?_) (fun cc5 => ?_)
      · refine lv_lload_n hx hb dX0_crc64_58 rfl (lv_at hl 2 rfl) ?_
        refine lv_ldc2 (v := (-1)) hx hb hown (hq _ wX_27) dX0_crc64_59 ?_
        refine lv_lxor hx hb dX0_crc64_62 (jx_nl fun z6 hz6 => ?_)
        exact kr z6 g lg ar bk _ _ _ _ ⟨hk_fr0, hk_fr0, hk_fr0⟩ hw dX0_crc64_63
      · refine lv_lload_n hx hb dX0_crc64_13 rfl (lv_at hl 2 rfl) ?_
        refine lv_aload_n hx hb dX0_crc64_14 rfl (lv_at hl 0 rfl) ?_
        refine lv_iload hx hb dX0_crc64_15 (lv_at hl 3 rfl) ?_
        refine jx_Vi (As := [.int x3]) (rest := [.long x2]) ⟨hx, hb, hml, hown, hts⟩ hZ hw hA (jx_X9_get_4 l hlt D t3 cI cJ ad g lg ar bk _ x3) (cwV 1 hts (jx_gV wwX_good wX_21 wX_22 wX_23 wX_24 wX_25) rfl rfl rfl (by decide +kernel) ⟨Nat.le_of_ble_eq_true rfl, Nat.le_of_ble_eq_true rfl⟩) 4 (ci := 12) (T := TX9) (N := 2) rfl rfl rfl hl.1 rfl (Nat.le_of_ble_eq_true rfl) dX0_crc64_17 ⟨Nat.le_of_ble_eq_true rfl, Nat.le_of_ble_eq_true rfl⟩ (fun _ _ _ _ _ _ _ _ hp _ _ _ _ => hp.elim) (fun r11 g12 l13 a14 b15 H locs hp16 hw => ?_)
        obtain ⟨h17, h18, h19⟩ := hp16
        refine lv_i2l hx hb dX0_crc64_20 rfl (jx_nl fun z20 hz20 => ?_)
        refine lv_lxor hx hb dX0_crc64_21 (jx_nl fun z21 hz21 => ?_)
        refine lv_lstore_n (lv' := [(3, .long z21), (0, .ref (ad 4)), (2, .int y2), (5, .int x3)]) hx hb dX0_crc64_22 rfl hl (by decide) rfl (fun ls hl => ?_)
        refine lv_iconst (v := 0) hx hb dX0_crc64_23 (by decide) ?_
        refine lv_istore (lv' := [(6, .int 0), (3, .long z21), (0, .ref (ad 4)), (2, .int y2), (5, .int x3)]) hx hb dX0_crc64_24 hl (by decide) rfl (fun ls hl => ?_)
        have B22 : ∀ (k25 : Nat) (x23 : Int64) (x24 : Int32) (ls : Array Slot) (H : Heap) (locs : List Loc), 2147483648 - (x24).toInt ≤ (k25 : Int) → 0 ≤ (x24).toInt → hk_W D (jT cI cJ) A s H locs (xw cI cJ ad g12 l13 a14 b15) → lv_has ls 7 [(0, .ref (ad 4)), (2, .int y2), (3, .long x23), (5, .int x3), (6, .int x24)] → W p l e { frames := 1, cells := 1, slots := 6, locals := 21 } s m args below meth c H locs 0 0 Q (F0 m 26 ls []) := by
          intro k25
          induction k25 with
          | zero =>
            intro x23 x24 ls H locs hrk_B22 hf_B22_0 hw hl
            exact False.elim (hk_no0 (0 * (x24).toInt) (ob5 ((x24).toInt) hf_B22_0 hrk_B22 (hE_rng (x24))) (by simp))
          | succ k25 ih_B22 =>
            intro x23 x24 ls H locs hrk_B22 hf_B22_0 hw hl
            have hrk_B22 := hk_rk hrk_B22
            refine lv_iload hx hb dX0_crc64_26 (lv_at hl 4 rfl) ?_
            refine lv_bipush (v := 8) hx hb dX0_crc64_28 (by decide) ?_
            refine lv_icmp_ge (tgt := 52) hx hb dX0_crc64_30 (by decide) (fun cc26 => ?_) (fun cc26 => ?_)
            · obtain ⟨z27, hz27⟩ : ∃ z : Int32, x3 + 1 = z := ⟨_, rfl⟩
              refine lv_iinc (v := z27) (lv' := [(5, .int z27), (0, .ref (ad 4)), (2, .int y2), (3, .long x23), (6, .int x24)]) hx hb dX0_crc64_52 hl (k := 3) rfl hz27 (by decide) rfl (fun ls hl => ?_)
              refine lv_goto (tgt := 7) hx hb dX0_crc64_55 (by decide) ?_
              exact ih_B1 x23 z27 ls _ _ (ob291 ((z27).toInt) (k4 : Int) ((x3).toInt) (((1 : Int32)).toInt) ((y2).toInt) hrk_B1 (hE_add hz27) (hE_nle cc5) (hE_rng (z27)) (hE_rng (x3)) (by decide) (hE_rng (y2))) hw (lv_sub hl [1, 2, 3, 0] rfl)
            · refine lv_lload_n hx hb dX0_crc64_33 rfl (lv_at hl 2 rfl) ?_
              refine lv_iconst (v := 1) hx hb dX0_crc64_34 (by decide) ?_
              refine lv_lushr hx hb dX0_crc64_35 rfl (jx_nl fun z28 hz28 => ?_)
              refine lv_ldc2 (v := (-3932672073523589310)) hx hb hown (hq _ wX_28) dX0_crc64_36 ?_
              refine lv_lload_n hx hb dX0_crc64_39 rfl (lv_at hl 2 rfl) ?_
              refine lv_lconst (v := 1) hx hb dX0_crc64_40 (by decide) ?_
              refine lv_land hx hb dX0_crc64_41 (jx_nl fun z29 hz29 => ?_)
              refine lv_lneg hx hb dX0_crc64_42 (jx_nl fun z30 hz30 => ?_)
              refine lv_land hx hb dX0_crc64_43 (jx_nl fun z31 hz31 => ?_)
              refine lv_lxor hx hb dX0_crc64_44 (jx_nl fun z32 hz32 => ?_)
              refine lv_lstore_n (lv' := [(3, .long z32), (0, .ref (ad 4)), (2, .int y2), (5, .int x3), (6, .int x24)]) hx hb dX0_crc64_45 rfl hl (by decide) rfl (fun ls hl => ?_)
              obtain ⟨z33, hz33⟩ : ∃ z : Int32, x24 + 1 = z := ⟨_, rfl⟩
              refine lv_iinc (v := z33) (lv' := [(6, .int z33), (3, .long z32), (0, .ref (ad 4)), (2, .int y2), (5, .int x3)]) hx hb dX0_crc64_46 hl (k := 4) rfl hz33 (by decide) rfl (fun ls hl => ?_)
              refine lv_goto (tgt := 26) hx hb dX0_crc64_49 (by decide) ?_
              exact ih_B22 z32 z33 ls _ _ (ob154 ((z33).toInt) (k25 : Int) ((x24).toInt) (((1 : Int32)).toInt) (((8 : Int32)).toInt) hrk_B22 (hE_add hz33) hf_B22_0 (hE_nle cc26) (hE_rng (z33)) (hE_rng (x24)) (by decide) (by decide)) (ob155 ((z33).toInt) ((x24).toInt) (((1 : Int32)).toInt) (k25 : Int) (((8 : Int32)).toInt) (hE_add hz33) hf_B22_0 hrk_B22 (hE_nle cc26) (hE_rng (z33)) (hE_rng (x24)) (by decide) (by decide)) hw (lv_sub hl [2, 3, 1, 4, 0] rfl)
        exact B22 (2147483648 - ((0 : Int32)).toInt).toNat z21 0 ls _ _ (Int.self_le_toNat _) (ob10 (((0 : Int32)).toInt) (by decide)) hw (lv_sub hl [2, 3, 1, 4, 0] rfl)
  exact B1 (2147483648 - (y1).toInt).toNat (-1) y1 ls _ _ (Int.self_le_toNat _) hw (lv_sub hl [2, 4, 1, 0] rfl)

set_option maxHeartbeats 4000000 in
set_option maxRecDepth 100000 in
/-- X0_shaByte on (4,) -/
theorem jx_X0_shaByte_4 (l : Launch) (hlt : l.stackTraces = false) (D : va_G) (t3 : Nat × Nat × Nat) (cI cJ : ClassId) (ad : Nat → Nat) (g : Nat → Int32) (lg : Nat → Int64) (ar : Nat → Nat → Int32) (bk : Nat → Int64) (sz : Nat) (y1 : Int32) (y2 : Int32) (y3 : Int32) : JMi l yX0_shaByte (Cond.code yX0_shaByte cX0_shaByte 4 (some .int) :: wwX) { frames := 1, cells := 1, slots := 6, locals := 21 } t3 D xw cI cJ ad [.ref (ad 4), .int y1, .int y2, .int y3] (xw cI cJ ad g lg ar bk) sz 1 6 (fun (r : Int32) g' lg' ar' bk' => hk_fr [] g g' ∧ hk_fr [] lg lg' ∧ hk_fr [] ar ar') (fun g' lg' ar' bk' => False) := by
  refine jx_meti (cc := cX0_shaByte) (maxL := 4) (ret := (some .int)) rfl (by decide) rfl (Nat.le_of_ble_eq_true rfl) ?_
  intro p e s m args below meth c ls Q A hx hb hml hown hts hA hZ hw hl hQ kr kt
  have hq : ∀ w ∈ wwX, w.before args s = true := fun w h => hts w (List.mem_cons_of_mem _ h)
  have hl : lv_has ls 4 [(0, .ref (ad 4)), (1, .int y1), (2, .int y2), (3, .int y3)] := hl
  refine lv_iload_n hx hb dX0_shaByte_0 rfl (lv_at hl 3 rfl) ?_
  refine lv_iload_n hx hb dX0_shaByte_1 rfl (lv_at hl 2 rfl) ?_
  refine lv_icmp_ge (tgt := 15) hx hb dX0_shaByte_2 (by decide) (fun cc1 => ?_) (fun cc1 => ?_)
  · refine lv_iload_n hx hb dX0_shaByte_15 rfl (lv_at hl 3 rfl) ?_
    refine lv_iload_n hx hb dX0_shaByte_16 rfl (lv_at hl 2 rfl) ?_
    refine lv_icmp_ne (tgt := 26) hx hb dX0_shaByte_17 (by decide) (fun cc2 => ?_) (fun cc2 => ?_)
    · refine lv_iconst (v := 0) hx hb dX0_shaByte_26 (by decide) ?_
      exact kr 0 g lg ar bk _ _ _ _ ⟨hk_fr0, hk_fr0, hk_fr0⟩ hw dX0_shaByte_27
    · refine lv_sipush (v := 128) hx hb dX0_shaByte_20 (by decide) ?_
      refine lv_goto (tgt := 27) hx hb dX0_shaByte_23 (by decide) ?_
      exact kr 128 g lg ar bk _ _ _ _ ⟨hk_fr0, hk_fr0, hk_fr0⟩ hw dX0_shaByte_27
  · refine lv_aload_n hx hb dX0_shaByte_5 rfl (lv_at hl 0 rfl) ?_
    refine lv_iload_n hx hb dX0_shaByte_6 rfl (lv_at hl 1 rfl) ?_
    refine lv_iload_n hx hb dX0_shaByte_7 rfl (lv_at hl 3 rfl) ?_
    refine lv_iadd hx hb dX0_shaByte_8 (jx_nm fun z3 hz3 => ?_)
    refine jx_Vi (As := [.int z3]) (rest := []) ⟨hx, hb, hml, hown, hts⟩ hZ hw hA (jx_X9_get_4 l hlt D t3 cI cJ ad g lg ar bk _ z3) (cwV 1 hts (jx_gV wwX_good wX_21 wX_22 wX_23 wX_24 wX_25) rfl rfl rfl (by decide +kernel) ⟨Nat.le_of_ble_eq_true rfl, Nat.le_of_ble_eq_true rfl⟩) 4 (ci := 12) (T := TX9) (N := 2) rfl rfl rfl hl.1 rfl (Nat.le_of_ble_eq_true rfl) dX0_shaByte_9 ⟨Nat.le_of_ble_eq_true rfl, Nat.le_of_ble_eq_true rfl⟩ (fun _ _ _ _ _ _ _ _ hp _ _ _ _ => hp.elim) (fun r8 g9 l10 a11 b12 H locs hp13 hw => ?_)
    obtain ⟨h14, h15, h16⟩ := hp13
    refine lv_goto (tgt := 27) hx hb dX0_shaByte_12 (by decide) ?_
    exact kr r8 g9 l10 a11 b12 _ _ _ _ ⟨h14, h15, h16⟩ hw dX0_shaByte_27

set_option maxHeartbeats 4000000 in
set_option maxRecDepth 100000 in
/-- X0_sha256 on (11, 4) -/
theorem jx_X0_sha256_4 (l : Launch) (hlt : l.stackTraces = false) (D : va_G) (t3 : Nat × Nat × Nat) (cI cJ : ClassId) (ad : Nat → Nat) (g : Nat → Int32) (lg : Nat → Int64) (ar : Nat → Nat → Int32) (bk : Nat → Int64) (sz : Nat) (y2 : Int32) (y3 : Int32) : JMv l yX0_sha256 (Cond.code yX0_sha256 cX0_sha256 10 none :: wwX) { frames := 3, cells := 1, slots := 6, locals := 75 } t3 D xw cI cJ ad [.ref (ad 11), .ref (ad 4), .int y2, .int y3] (xw cI cJ ad g lg ar bk) sz 1 6 (fun g' lg' ar' bk' => hk_fr [] g g' ∧ hk_fr [] lg lg' ∧ hk_fr [3, 4, 5] ar ar') (fun g' lg' ar' bk' => False) := by
  refine jx_metv (cc := cX0_sha256) (maxL := 10) (ret := none) rfl (by decide) rfl (Nat.le_of_ble_eq_true rfl) ?_
  intro p e s m args below meth c ls Q A hx hb hml hown hts hA hZ hw hl hQ kr kt
  have hq : ∀ w ∈ wwX, w.before args s = true := fun w h => hts w (List.mem_cons_of_mem _ h)
  have hl : lv_has ls 10 [(0, .ref (ad 11)), (1, .ref (ad 4)), (2, .int y2), (3, .int y3)] := hl
  refine hk_gets hx hb hZ.2.2.2.1 hw hown (hq _ wX_43) dX0_sha256_0 ?_
  refine lv_iconst (v := 0) hx hb dX0_sha256_3 (by decide) ?_
  refine lv_aload_n hx hb dX0_sha256_4 rfl (lv_at hl 0 rfl) ?_
  refine hk_get (ci := 3) (C := RX0) (T := TX0) (N := 3) (v := .ref (ad 12)) hx hb hts (fun _ h => List.mem_cons_of_mem _ (wwXc_wsX00 _ h)) hown hw 11 rfl rfl 0 (by decide) (hq _ wX_9) rfl dX0_sha256_5 ?_
  refine lv_iconst (v := 0) hx hb dX0_sha256_8 (by decide) ?_
  refine lv_bipush (v := 8) hx hb dX0_sha256_9 (by decide) ?_
  refine hk_copyT hx hb (by rw [hml]; exact hl.1.symm) hown (hq _ wX_34) (hq _ wX_35) (hq _ wX_36) (hq _ wX_37) hw hZ.2.2.2.1 12 0 rfl rfl (by decide) (by decide) (by decide) (by decide +kernel) (by decide +kernel) (Nat.le_of_ble_eq_true rfl) (by decide +kernel) dX0_sha256_11 rfl (fun H locs hw => ?_)
  obtain ⟨a1, h_a1, hw⟩ := jx_nar xw (g := g) (lg := lg) (ar := ar) (bk := bk) 3 hw rfl
  refine lv_iload_n hx hb dX0_sha256_14 rfl (lv_at hl 3 rfl) ?_
  refine lv_iload_n hx hb dX0_sha256_15 rfl (lv_at hl 2 rfl) ?_
  refine lv_isub hx hb dX0_sha256_16 (jx_nm fun z2 hz2 => ?_)
  refine lv_istore (lv' := [(4, .int z2), (0, .ref (ad 11)), (1, .ref (ad 4)), (2, .int y2), (3, .int y3)]) hx hb dX0_sha256_17 hl (by decide) rfl (fun ls hl => ?_)
  refine lv_iload hx hb dX0_sha256_19 (lv_at hl 0 rfl) ?_
  refine lv_bipush (v := 72) hx hb dX0_sha256_21 (by decide) ?_
  refine lv_iadd hx hb dX0_sha256_23 (jx_nm fun z3 hz3 => ?_)
  refine lv_bipush (v := (-64)) hx hb dX0_sha256_24 (by decide) ?_
  refine lv_iand hx hb dX0_sha256_26 (jx_nm fun z4 hz4 => ?_)
  refine lv_istore (lv' := [(5, .int z4), (4, .int z2), (0, .ref (ad 11)), (1, .ref (ad 4)), (2, .int y2), (3, .int y3)]) hx hb dX0_sha256_27 hl (by decide) rfl (fun ls hl => ?_)
  refine lv_iconst (v := 0) hx hb dX0_sha256_29 (by decide) ?_
  refine lv_istore (lv' := [(6, .int 0), (5, .int z4), (4, .int z2), (0, .ref (ad 11)), (1, .ref (ad 4)), (2, .int y2), (3, .int y3)]) hx hb dX0_sha256_30 hl (by decide) rfl (fun ls hl => ?_)
  have B5 : ∀ (k8 : Nat) (x6 : Int32) (a7 : Nat → Nat → Int32) (ls : Array Slot) (H : Heap) (locs : List Loc), 2147483648 - (x6).toInt ≤ (k8 : Int) → (x6).toInt % 64 = 0 → 0 ≤ (x6).toInt → hk_fr [3, 4, 5] a1 a7 → hk_W D (jT cI cJ) A s H locs (xw cI cJ ad g lg a7 bk) → lv_has ls 10 [(0, .ref (ad 11)), (1, .ref (ad 4)), (2, .int y2), (4, .int z2), (5, .int z4), (6, .int x6)] → W p l e { frames := 3, cells := 1, slots := 6, locals := 75 } s m args below meth c H locs 0 0 Q (F0 m 32 ls []) := by
    intro k8
    induction k8 with
    | zero =>
      intro x6 a7 ls H locs hrk_B5 hf_B5_0 hf_B5_1 hfr_a7 hw hl
      exact False.elim (hk_no0 (0 * (x6).toInt) (ob292 ((x6).toInt) hf_B5_0 hf_B5_1 hrk_B5 (hE_rng (x6))) (by simp))
    | succ k8 ih_B5 =>
      intro x6 a7 ls H locs hrk_B5 hf_B5_0 hf_B5_1 hfr_a7 hw hl
      have hrk_B5 := hk_rk hrk_B5
      refine lv_iload hx hb dX0_sha256_32 (lv_at hl 5 rfl) ?_
      refine lv_iload hx hb dX0_sha256_34 (lv_at hl 4 rfl) ?_
      refine lv_icmp_ge (tgt := 139) hx hb dX0_sha256_36 (by decide) (fun cc9 => ?_) (fun cc9 => ?_)
      · exact kr g lg a7 bk _ _ _ _ ⟨hk_fr0, hk_fr0, (hk_frT (hk_frA hk_fr0 (by decide) h_a1) (by decide) hfr_a7)⟩ hw dX0_sha256_139
      · refine lv_iconst (v := 0) hx hb dX0_sha256_39 (by decide) ?_
        refine lv_istore (lv' := [(7, .int 0), (0, .ref (ad 11)), (1, .ref (ad 4)), (2, .int y2), (4, .int z2), (5, .int z4), (6, .int x6)]) hx hb dX0_sha256_40 hl (by decide) rfl (fun ls hl => ?_)
        have B10 : ∀ (k13 : Nat) (x11 : Int32) (a12 : Nat → Nat → Int32) (ls : Array Slot) (H : Heap) (locs : List Loc), 2147483648 - (x11).toInt ≤ (k13 : Int) → 0 ≤ (x11).toInt → hk_fr [5] a7 a12 → hk_W D (jT cI cJ) A s H locs (xw cI cJ ad g lg a12 bk) → lv_has ls 10 [(0, .ref (ad 11)), (1, .ref (ad 4)), (2, .int y2), (4, .int z2), (5, .int z4), (6, .int x6), (7, .int x11)] → W p l e { frames := 3, cells := 1, slots := 6, locals := 75 } s m args below meth c H locs 0 0 Q (F0 m 42 ls []) := by
          intro k13
          induction k13 with
          | zero =>
            intro x11 a12 ls H locs hrk_B10 hf_B10_0 hfr_a12 hw hl
            exact False.elim (hk_no0 (0 * (x11).toInt) (ob5 ((x11).toInt) hf_B10_0 hrk_B10 (hE_rng (x11))) (by simp))
          | succ k13 ih_B10 =>
            intro x11 a12 ls H locs hrk_B10 hf_B10_0 hfr_a12 hw hl
            have hrk_B10 := hk_rk hrk_B10
            refine lv_iload hx hb dX0_sha256_42 (lv_at hl 6 rfl) ?_
            refine lv_bipush (v := 16) hx hb dX0_sha256_44 (by decide) ?_
            refine lv_icmp_ge (tgt := 107) hx hb dX0_sha256_46 (by decide) (fun cc14 => ?_) (fun cc14 => ?_)
            · refine lv_iload hx hb dX0_sha256_107 (lv_at hl 5 rfl) ?_
              refine lv_bipush (v := 64) hx hb dX0_sha256_109 (by decide) ?_
              refine lv_iadd hx hb dX0_sha256_111 (jx_nm fun z15 hz15 => ?_)
              refine lv_iload hx hb dX0_sha256_112 (lv_at hl 4 rfl) ?_
              have B16 : ∀  (a17 : Nat → Nat → Int32) (ls : Array Slot) (H : Heap) (locs : List Loc), hk_fr [5] a12 a17 → hk_W D (jT cI cJ) A s H locs (xw cI cJ ad g lg a17 bk) → lv_has ls 10 [(0, .ref (ad 11)), (1, .ref (ad 4)), (2, .int y2), (4, .int z2), (5, .int z4), (6, .int x6)] → W p l e { frames := 3, cells := 1, slots := 6, locals := 75 } s m args below meth c H locs 0 0 Q (F0 m 129 ls []) := by
                intro a17 ls H locs hfr_a17 hw hl
                refine lv_aload_n hx hb dX0_sha256_129 rfl (lv_at hl 0 rfl) ?_
                refine jx_Vv (As := []) (rest := []) ⟨hx, hb, hml, hown, hts⟩ hZ hw hA (jx_X0_mixBlock l hlt D t3 cI cJ ad g lg a17 bk _) (cwV 0 hts (jx_gV wwX_good wX_47 wX_48 wX_49 wX_12 wX_50) rfl rfl rfl (by decide +kernel) ⟨Nat.le_of_ble_eq_true rfl, Nat.le_of_ble_eq_true rfl⟩) 11 (ci := 3) (T := TX0) (N := 3) rfl rfl rfl hl.1 rfl (Nat.le_of_ble_eq_true rfl) dX0_sha256_130 ⟨Nat.le_of_ble_eq_true rfl, Nat.le_of_ble_eq_true rfl⟩ (fun _ _ _ _ _ _ _ _ hp _ _ _ _ => hp.elim) (fun g23 l24 a25 b26 H locs hp27 hw => ?_)
                obtain ⟨h28, h29, h30⟩ := hp27
                obtain ⟨z31, hz31⟩ : ∃ z : Int32, x6 + 64 = z := ⟨_, rfl⟩
                refine lv_iinc (v := z31) (lv' := [(6, .int z31), (0, .ref (ad 11)), (1, .ref (ad 4)), (2, .int y2), (4, .int z2), (5, .int z4)]) hx hb dX0_sha256_133 hl (k := 5) rfl hz31 (by decide) rfl (fun ls hl => ?_)
                refine lv_goto (tgt := 32) hx hb dX0_sha256_136 (by decide) ?_
                exact ih_B5 z31 a25 ls _ _ (ob293 ((z31).toInt) (k8 : Int) ((x6).toInt) (((64 : Int32)).toInt) ((z4).toInt) ((z15).toInt) ((z3).toInt) ((z2).toInt) (((72 : Int32)).toInt) ((y3).toInt) ((y2).toInt) hrk_B5 (hE_add hz31) hf_B5_0 hf_B5_1 (hE_nle cc9) (hE_add hz15) (hE_andN 6 64 hz4 (by decide) (by decide) (by decide)) (hE_add hz3) (hE_sub hz2) (hE_rng (z31)) (hE_rng (x6)) (by decide) (hE_rng (z4)) (hE_rng (z15)) (hE_rng (z3)) (hE_rng (z2)) (by decide) (hE_rng (y3)) (hE_rng (y2))) (ob294 ((z31).toInt) ((x6).toInt) (((64 : Int32)).toInt) (k8 : Int) ((z4).toInt) ((z15).toInt) ((z3).toInt) ((z2).toInt) (((72 : Int32)).toInt) ((y3).toInt) ((y2).toInt) (hE_add hz31) hf_B5_0 hf_B5_1 hrk_B5 (hE_nle cc9) (hE_add hz15) (hE_andN 6 64 hz4 (by decide) (by decide) (by decide)) (hE_add hz3) (hE_sub hz2) (hE_rng (z31)) (hE_rng (x6)) (by decide) (hE_rng (z4)) (hE_rng (z15)) (hE_rng (z3)) (hE_rng (z2)) (by decide) (hE_rng (y3)) (hE_rng (y2))) (ob295 ((z31).toInt) ((x6).toInt) (((64 : Int32)).toInt) (k8 : Int) ((z4).toInt) ((z15).toInt) ((z3).toInt) ((z2).toInt) (((72 : Int32)).toInt) ((y3).toInt) ((y2).toInt) (hE_add hz31) hf_B5_0 hf_B5_1 hrk_B5 (hE_nle cc9) (hE_add hz15) (hE_andN 6 64 hz4 (by decide) (by decide) (by decide)) (hE_add hz3) (hE_sub hz2) (hE_rng (z31)) (hE_rng (x6)) (by decide) (hE_rng (z4)) (hE_rng (z15)) (hE_rng (z3)) (hE_rng (z2)) (by decide) (hE_rng (y3)) (hE_rng (y2))) (hk_frT (hk_frT (hk_frT hfr_a7 (by decide) hfr_a12) (by decide) hfr_a17) (by decide) h30) hw (lv_sub hl [1, 2, 3, 4, 5, 0] rfl)
              refine lv_icmp_ne (tgt := 129) hx hb dX0_sha256_114 (by decide) (fun cc32 => ?_) (fun cc32 => ?_)
              · exact B16 a12 ls _ _ hk_fr0 hw (lv_sub hl [0, 1, 2, 3, 4, 5] rfl)
              · refine lv_aload_n hx hb dX0_sha256_117 rfl (lv_at hl 0 rfl) ?_
                refine hk_get (ci := 3) (C := RX0) (T := TX0) (N := 3) (v := .ref (ad 14)) hx hb hts (fun _ h => List.mem_cons_of_mem _ (wwXc_wsX00 _ h)) hown hw 11 rfl rfl 2 (by decide) (hq _ wX_29) rfl dX0_sha256_118 ?_
                refine lv_bipush (v := 15) hx hb dX0_sha256_121 (by decide) ?_
                refine lv_iload hx hb dX0_sha256_123 (lv_at hl 3 rfl) ?_
                refine lv_bipush (v := 8) hx hb dX0_sha256_125 (by decide) ?_
                refine lv_imul hx hb dX0_sha256_127 (jx_nm fun z33 hz33 => ?_)
                refine jx_iast xw (g := g) (lg := lg) (ar := a12) (bk := bk) 5 hx hb hw 14 0 rfl rfl (show ¬ (_ ∨ _) by decide) dX0_sha256_128 rfl (fun H locs a34 h_a34 hw => ?_)
                exact B16 a34 ls _ _ (hk_frA hk_fr0 (by decide) h_a34) hw (lv_sub hl [0, 1, 2, 3, 4, 5] rfl)
            · refine lv_iconst (v := 0) hx hb dX0_sha256_49 (by decide) ?_
              refine lv_istore (lv' := [(8, .int 0), (0, .ref (ad 11)), (1, .ref (ad 4)), (2, .int y2), (4, .int z2), (5, .int z4), (6, .int x6), (7, .int x11)]) hx hb dX0_sha256_50 hl (by decide) rfl (fun ls hl => ?_)
              refine lv_iconst (v := 0) hx hb dX0_sha256_52 (by decide) ?_
              refine lv_istore (lv' := [(9, .int 0), (8, .int 0), (0, .ref (ad 11)), (1, .ref (ad 4)), (2, .int y2), (4, .int z2), (5, .int z4), (6, .int x6), (7, .int x11)]) hx hb dX0_sha256_53 hl (by decide) rfl (fun ls hl => ?_)
              have B35 : ∀ (k38 : Nat) (x36 : Int32) (x37 : Int32) (ls : Array Slot) (H : Heap) (locs : List Loc), 2147483648 - (x37).toInt ≤ (k38 : Int) → 0 ≤ (x37).toInt → hk_W D (jT cI cJ) A s H locs (xw cI cJ ad g lg a12 bk) → lv_has ls 10 [(0, .ref (ad 11)), (1, .ref (ad 4)), (2, .int y2), (4, .int z2), (5, .int z4), (6, .int x6), (7, .int x11), (8, .int x36), (9, .int x37)] → W p l e { frames := 3, cells := 1, slots := 6, locals := 75 } s m args below meth c H locs 0 0 Q (F0 m 55 ls []) := by
                intro k38
                induction k38 with
                | zero =>
                  intro x36 x37 ls H locs hrk_B35 hf_B35_0 hw hl
                  exact False.elim (hk_no0 (0 * (x37).toInt) (ob5 ((x37).toInt) hf_B35_0 hrk_B35 (hE_rng (x37))) (by simp))
                | succ k38 ih_B35 =>
                  intro x36 x37 ls H locs hrk_B35 hf_B35_0 hw hl
                  have hrk_B35 := hk_rk hrk_B35
                  refine lv_iload hx hb dX0_sha256_55 (lv_at hl 8 rfl) ?_
                  refine lv_iconst (v := 4) hx hb dX0_sha256_57 (by decide) ?_
                  refine lv_icmp_ge (tgt := 92) hx hb dX0_sha256_58 (by decide) (fun cc39 => ?_) (fun cc39 => ?_)
                  · refine lv_aload_n hx hb dX0_sha256_92 rfl (lv_at hl 0 rfl) ?_
                    refine hk_get (ci := 3) (C := RX0) (T := TX0) (N := 3) (v := .ref (ad 14)) hx hb hts (fun _ h => List.mem_cons_of_mem _ (wwXc_wsX00 _ h)) hown hw 11 rfl rfl 2 (by decide) (hq _ wX_29) rfl dX0_sha256_93 ?_
                    refine lv_iload hx hb dX0_sha256_96 (lv_at hl 6 rfl) ?_
                    refine lv_iload hx hb dX0_sha256_98 (lv_at hl 7 rfl) ?_
                    refine jx_iast xw (g := g) (lg := lg) (ar := a12) (bk := bk) 5 hx hb hw 14 0 rfl rfl (hE_in (n := 64) (ob296 ((x11).toInt) (k13 : Int) (((16 : Int32)).toInt) hf_B10_0 hrk_B10 (hE_nle cc14) (hE_rng (x11)) (by decide))) dX0_sha256_100 rfl (fun H locs a40 h_a40 hw => ?_)
                    obtain ⟨z41, hz41⟩ : ∃ z : Int32, x11 + 1 = z := ⟨_, rfl⟩
                    refine lv_iinc (v := z41) (lv' := [(7, .int z41), (0, .ref (ad 11)), (1, .ref (ad 4)), (2, .int y2), (4, .int z2), (5, .int z4), (6, .int x6), (8, .int x36), (9, .int x37)]) hx hb dX0_sha256_101 hl (k := 6) rfl hz41 (by decide) rfl (fun ls hl => ?_)
                    refine lv_goto (tgt := 42) hx hb dX0_sha256_104 (by decide) ?_
                    exact ih_B10 z41 a40 ls _ _ (ob297 ((z41).toInt) (k13 : Int) ((x11).toInt) (((1 : Int32)).toInt) (((16 : Int32)).toInt) hrk_B10 (hE_add hz41) hf_B10_0 (hE_nle cc14) (hE_rng (z41)) (hE_rng (x11)) (by decide) (by decide)) (ob298 ((z41).toInt) ((x11).toInt) (((1 : Int32)).toInt) (k13 : Int) (((16 : Int32)).toInt) (hE_add hz41) hf_B10_0 hrk_B10 (hE_nle cc14) (hE_rng (z41)) (hE_rng (x11)) (by decide) (by decide)) (hk_frA hfr_a12 (by decide) h_a40) hw (lv_sub hl [1, 2, 3, 4, 5, 6, 0] rfl)
                  · refine lv_iload hx hb dX0_sha256_61 (lv_at hl 7 rfl) ?_
                    refine lv_bipush (v := 8) hx hb dX0_sha256_63 (by decide) ?_
                    refine lv_ishl hx hb dX0_sha256_65 (jx_nm fun z42 hz42 => ?_)
                    refine lv_aload_n hx hb dX0_sha256_66 rfl (lv_at hl 1 rfl) ?_
                    refine lv_iload_n hx hb dX0_sha256_67 rfl (lv_at hl 2 rfl) ?_
                    refine lv_iload hx hb dX0_sha256_68 (lv_at hl 3 rfl) ?_
                    refine lv_iload hx hb dX0_sha256_70 (lv_at hl 5 rfl) ?_
                    refine lv_iconst (v := 4) hx hb dX0_sha256_72 (by decide) ?_
                    refine lv_iload hx hb dX0_sha256_73 (lv_at hl 6 rfl) ?_
                    refine lv_imul hx hb dX0_sha256_75 (jx_nm fun z43 hz43 => ?_)
                    refine lv_iadd hx hb dX0_sha256_76 (jx_nm fun z44 hz44 => ?_)
                    refine lv_iload hx hb dX0_sha256_77 (lv_at hl 8 rfl) ?_
                    refine lv_iadd hx hb dX0_sha256_79 (jx_nm fun z45 hz45 => ?_)
                    refine jx_Si (As := [.ref (ad 4), .int y2, .int z2, .int z45]) (rest := [.int z42]) ⟨hx, hb, hml, hown, hts⟩ hZ hw hA (jx_X0_shaByte_4 l hlt D t3 cI cJ ad g lg a12 bk _ y2 z2 z45) (va_cwS 4 hts (jx_gS wwX_good wX_44 wX_45 wX_12 wX_46) rfl rfl rfl (by decide +kernel) ⟨Nat.le_of_ble_eq_true rfl, Nat.le_of_ble_eq_true rfl⟩) rfl hl.1 rfl (Nat.le_of_ble_eq_true rfl) dX0_sha256_80 ⟨Nat.le_of_ble_eq_true rfl, Nat.le_of_ble_eq_true rfl⟩ (fun _ _ _ _ _ _ _ _ hp _ _ _ _ => hp.elim) (fun r50 g51 l52 a53 b54 H locs hp55 hw => ?_)
                    obtain ⟨h56, h57, h58⟩ := hp55
                    refine lv_ior hx hb dX0_sha256_83 (jx_nm fun z59 hz59 => ?_)
                    refine lv_istore (lv' := [(8, .int z59), (0, .ref (ad 11)), (1, .ref (ad 4)), (2, .int y2), (4, .int z2), (5, .int z4), (6, .int x6), (7, .int x11), (9, .int x37)]) hx hb dX0_sha256_84 hl (by decide) rfl (fun ls hl => ?_)
                    obtain ⟨z60, hz60⟩ : ∃ z : Int32, x37 + 1 = z := ⟨_, rfl⟩
                    refine lv_iinc (v := z60) (lv' := [(9, .int z60), (8, .int z59), (0, .ref (ad 11)), (1, .ref (ad 4)), (2, .int y2), (4, .int z2), (5, .int z4), (6, .int x6), (7, .int x11)]) hx hb dX0_sha256_86 hl (k := 8) rfl hz60 (by decide) rfl (fun ls hl => ?_)
                    refine lv_goto (tgt := 55) hx hb dX0_sha256_89 (by decide) ?_
                    exact ih_B35 z59 z60 ls _ _ (ob299 ((z60).toInt) (k38 : Int) ((x37).toInt) (((1 : Int32)).toInt) (((4 : Int32)).toInt) ((z45).toInt) ((z44).toInt) ((x6).toInt) ((z43).toInt) (k8 : Int) ((z4).toInt) ((x11).toInt) ((z3).toInt) (k13 : Int) (((16 : Int32)).toInt) hrk_B35 (hE_add hz60) hf_B35_0 (hE_nle cc39) (hE_add hz45) (hE_add hz44) hf_B5_0 hf_B5_1 hrk_B5 (hE_nle cc9) (hE_mul' 4 hz43 (by decide)) (hE_andN 6 64 hz4 (by decide) (by decide) (by decide)) hf_B10_0 hrk_B10 (hE_nle cc14) (hE_rng (z60)) (hE_rng (x37)) (by decide) (by decide) (hE_rng (z45)) (hE_rng (z44)) (hE_rng (x6)) (hE_rng (z43)) (hE_rng (z4)) (hE_rng (x11)) (hE_rng (z3)) (by decide)) (ob300 ((z60).toInt) ((x37).toInt) (((1 : Int32)).toInt) (k38 : Int) (((4 : Int32)).toInt) ((z45).toInt) ((z44).toInt) ((x6).toInt) ((z43).toInt) (k8 : Int) ((z4).toInt) ((x11).toInt) ((z3).toInt) (k13 : Int) (((16 : Int32)).toInt) (hE_add hz60) hf_B35_0 hrk_B35 (hE_nle cc39) (hE_add hz45) (hE_add hz44) hf_B5_0 hf_B5_1 hrk_B5 (hE_nle cc9) (hE_mul' 4 hz43 (by decide)) (hE_andN 6 64 hz4 (by decide) (by decide) (by decide)) hf_B10_0 hrk_B10 (hE_nle cc14) (hE_rng (z60)) (hE_rng (x37)) (by decide) (by decide) (hE_rng (z45)) (hE_rng (z44)) (hE_rng (x6)) (hE_rng (z43)) (hE_rng (z4)) (hE_rng (x11)) (hE_rng (z3)) (by decide)) hw (lv_sub hl [2, 3, 4, 5, 6, 7, 8, 1, 0] rfl)
              exact B35 (2147483648 - ((0 : Int32)).toInt).toNat 0 0 ls _ _ (Int.self_le_toNat _) (ob10 (((0 : Int32)).toInt) (by decide)) hw (lv_sub hl [2, 3, 4, 5, 6, 7, 8, 1, 0] rfl)
        exact B10 (2147483648 - ((0 : Int32)).toInt).toNat 0 a7 ls _ _ (Int.self_le_toNat _) (ob10 (((0 : Int32)).toInt) (by decide)) hk_fr0 hw (lv_sub hl [1, 2, 3, 4, 5, 6, 0] rfl)
  exact B5 (2147483648 - ((0 : Int32)).toInt).toNat 0 a1 ls _ _ (Int.self_le_toNat _) (ob301 (((0 : Int32)).toInt) (by decide)) (ob10 (((0 : Int32)).toInt) (by decide)) hk_fr0 hw (lv_sub hl [3, 4, 5, 2, 1, 0] rfl)

set_option maxHeartbeats 4000000 in
set_option maxRecDepth 100000 in
/-- X0_compute on (11, 4) -/
theorem jx_X0_compute_4 (l : Launch) (hlt : l.stackTraces = false) (D : va_G) (t3 : Nat × Nat × Nat) (cI cJ : ClassId) (ad : Nat → Nat) (g : Nat → Int32) (lg : Nat → Int64) (ar : Nat → Nat → Int32) (bk : Nat → Int64) (sz : Nat) (y1 : Int32) (y3 : Int32) (y4 : Int32) : JMv l yX0_compute (Cond.code yX0_compute cX0_compute 7 none :: wwX) { frames := 4, cells := 1, slots := 6, locals := 104 } t3 D xw cI cJ ad [.ref (ad 11), .int y1, .ref (ad 4), .int y3, .int y4] (xw cI cJ ad g lg ar bk) sz 1 6 (fun g' lg' ar' bk' => hk_fr [] g g' ∧ hk_fr [] lg lg' ∧ hk_fr [3, 4, 5] ar ar') (fun g' lg' ar' bk' => False) := by
  refine jx_metv (cc := cX0_compute) (maxL := 7) (ret := none) rfl (by decide) rfl (Nat.le_of_ble_eq_true rfl) ?_
  intro p e s m args below meth c ls Q A hx hb hml hown hts hA hZ hw hl hQ kr kt
  have hq : ∀ w ∈ wwX, w.before args s = true := fun w h => hts w (List.mem_cons_of_mem _ h)
  have hl : lv_has ls 7 [(0, .ref (ad 11)), (1, .int y1), (2, .ref (ad 4)), (3, .int y3), (4, .int y4)] := hl
  refine lv_iload_n hx hb dX0_compute_0 rfl (lv_at hl 1 rfl) ?_
  refine lv_iconst (v := 1) hx hb dX0_compute_1 (by decide) ?_
  refine lv_icmp_ne (tgt := 21) hx hb dX0_compute_2 (by decide) (fun cc1 => ?_) (fun cc1 => ?_)
  · refine lv_iload_n hx hb dX0_compute_21 rfl (lv_at hl 1 rfl) ?_
    refine lv_iconst (v := 4) hx hb dX0_compute_22 (by decide) ?_
    refine lv_icmp_ne (tgt := 59) hx hb dX0_compute_23 (by decide) (fun cc2 => ?_) (fun cc2 => ?_)
    · refine lv_iload_n hx hb dX0_compute_59 rfl (lv_at hl 1 rfl) ?_
      refine lv_bipush (v := 10) hx hb dX0_compute_60 (by decide) ?_
      refine lv_icmp_ne (tgt := 73) hx hb dX0_compute_62 (by decide) (fun cc3 => ?_) (fun cc3 => ?_)
      · exact kr g lg ar bk _ _ _ _ ⟨hk_fr0, hk_fr0, hk_fr0⟩ hw dX0_compute_73
      · refine lv_aload_n hx hb dX0_compute_65 rfl (lv_at hl 0 rfl) ?_
        refine lv_aload_n hx hb dX0_compute_66 rfl (lv_at hl 2 rfl) ?_
        refine lv_iload_n hx hb dX0_compute_67 rfl (lv_at hl 3 rfl) ?_
        refine lv_iload hx hb dX0_compute_68 (lv_at hl 4 rfl) ?_
        refine jx_Vv (As := [.ref (ad 4), .int y3, .int y4]) (rest := []) ⟨hx, hb, hml, hown, hts⟩ hZ hw hA (jx_X0_sha256_4 l hlt D t3 cI cJ ad g lg ar bk _ y3 y4) (cwV 3 hts (jx_gV wwX_good wX_17 wX_18 wX_19 wX_12 wX_20) rfl rfl rfl (by decide +kernel) ⟨Nat.le_of_ble_eq_true rfl, Nat.le_of_ble_eq_true rfl⟩) 11 (ci := 3) (T := TX0) (N := 3) rfl rfl rfl hl.1 rfl (Nat.le_of_ble_eq_true rfl) dX0_compute_70 ⟨Nat.le_of_ble_eq_true rfl, Nat.le_of_ble_eq_true rfl⟩ (fun _ _ _ _ _ _ _ _ hp _ _ _ _ => hp.elim) (fun g9 l10 a11 b12 H locs hp13 hw => ?_)
        obtain ⟨h14, h15, h16⟩ := hp13
        exact kr g9 l10 a11 b12 _ _ _ _ ⟨h14, h15, h16⟩ hw dX0_compute_73
    · refine lv_aload_n hx hb dX0_compute_26 rfl (lv_at hl 2 rfl) ?_
      refine lv_iload_n hx hb dX0_compute_27 rfl (lv_at hl 3 rfl) ?_
      refine lv_iload hx hb dX0_compute_28 (lv_at hl 4 rfl) ?_
      refine jx_Sl (As := [.ref (ad 4), .int y3, .int y4]) (rest := []) ⟨hx, hb, hml, hown, hts⟩ hZ hw hA (jx_X0_crc64_4 l hlt D t3 cI cJ ad g lg ar bk _ y3 y4) (va_cwS 3 hts (jx_gS wwX_good wX_14 wX_15 wX_12 wX_16) rfl rfl rfl (by decide +kernel) ⟨Nat.le_of_ble_eq_true rfl, Nat.le_of_ble_eq_true rfl⟩) rfl hl.1 rfl (Nat.le_of_ble_eq_true rfl) dX0_compute_30 ⟨Nat.le_of_ble_eq_true rfl, Nat.le_of_ble_eq_true rfl⟩ (fun _ _ _ _ _ _ _ _ hp _ _ _ _ => hp.elim) (fun r21 g22 l23 a24 b25 H locs hp26 hw => ?_)
      obtain ⟨h27, h28, h29⟩ := hp26
      refine lv_lstore (lv' := [(5, .long r21), (0, .ref (ad 11)), (1, .int y1), (2, .ref (ad 4)), (3, .int y3), (4, .int y4)]) hx hb dX0_compute_33 hl (by decide) rfl (fun ls hl => ?_)
      refine lv_aload_n hx hb dX0_compute_35 rfl (lv_at hl 1 rfl) ?_
      refine hk_get (ci := 3) (C := RX0) (T := TX0) (N := 3) (v := .ref (ad 12)) hx hb hts (fun _ h => List.mem_cons_of_mem _ (wwXc_wsX00 _ h)) hown hw 11 rfl rfl 0 (by decide) (hq _ wX_9) rfl dX0_compute_36 ?_
      refine lv_iconst (v := 0) hx hb dX0_compute_39 (by decide) ?_
      refine lv_lload hx hb dX0_compute_40 (lv_at hl 0 rfl) ?_
      refine lv_l2i hx hb dX0_compute_42 rfl (jx_nm fun z30 hz30 => ?_)
      refine jx_iast xw (g := g22) (lg := l23) (ar := a24) (bk := b25) 3 hx hb hw 12 0 rfl rfl (show ¬ (_ ∨ _) by decide) dX0_compute_43 rfl (fun H locs a31 h_a31 hw => ?_)
      refine lv_aload_n hx hb dX0_compute_44 rfl (lv_at hl 1 rfl) ?_
      refine hk_get (ci := 3) (C := RX0) (T := TX0) (N := 3) (v := .ref (ad 12)) hx hb hts (fun _ h => List.mem_cons_of_mem _ (wwXc_wsX00 _ h)) hown hw 11 rfl rfl 0 (by decide) (hq _ wX_9) rfl dX0_compute_45 ?_
      refine lv_iconst (v := 1) hx hb dX0_compute_48 (by decide) ?_
      refine lv_lload hx hb dX0_compute_49 (lv_at hl 0 rfl) ?_
      refine lv_bipush (v := 32) hx hb dX0_compute_51 (by decide) ?_
      refine lv_lushr hx hb dX0_compute_53 rfl (jx_nl fun z32 hz32 => ?_)
      refine lv_l2i hx hb dX0_compute_54 rfl (jx_nm fun z33 hz33 => ?_)
      refine jx_iast xw (g := g22) (lg := l23) (ar := a31) (bk := b25) 3 hx hb hw 12 0 rfl rfl (show ¬ (_ ∨ _) by decide) dX0_compute_55 rfl (fun H locs a34 h_a34 hw => ?_)
      refine lv_goto (tgt := 73) hx hb dX0_compute_56 (by decide) ?_
      exact kr g22 l23 a34 b25 _ _ _ _ ⟨h27, h28, (hk_frA (hk_frA (hk_frT hk_fr0 (by decide) h29) (by decide) h_a31) (by decide) h_a34)⟩ hw dX0_compute_73
  · refine lv_aload_n hx hb dX0_compute_5 rfl (lv_at hl 0 rfl) ?_
    refine hk_get (ci := 3) (C := RX0) (T := TX0) (N := 3) (v := .ref (ad 12)) hx hb hts (fun _ h => List.mem_cons_of_mem _ (wwXc_wsX00 _ h)) hown hw 11 rfl rfl 0 (by decide) (hq _ wX_9) rfl dX0_compute_6 ?_
    refine lv_iconst (v := 0) hx hb dX0_compute_9 (by decide) ?_
    refine lv_aload_n hx hb dX0_compute_10 rfl (lv_at hl 2 rfl) ?_
    refine lv_iload_n hx hb dX0_compute_11 rfl (lv_at hl 3 rfl) ?_
    refine lv_iload hx hb dX0_compute_12 (lv_at hl 4 rfl) ?_
    refine jx_Si (As := [.ref (ad 4), .int y3, .int y4]) (rest := [.int 0, .ref (ad 12)]) ⟨hx, hb, hml, hown, hts⟩ hZ hw hA (jx_X0_crc32_4 l hlt D t3 cI cJ ad g lg ar bk _ y3 y4) (va_cwS 3 hts (jx_gS wwX_good wX_10 wX_11 wX_12 wX_13) rfl rfl rfl (by decide +kernel) ⟨Nat.le_of_ble_eq_true rfl, Nat.le_of_ble_eq_true rfl⟩) rfl hl.1 rfl (Nat.le_of_ble_eq_true rfl) dX0_compute_14 ⟨Nat.le_of_ble_eq_true rfl, Nat.le_of_ble_eq_true rfl⟩ (fun _ _ _ _ _ _ _ _ hp _ _ _ _ => hp.elim) (fun r39 g40 l41 a42 b43 H locs hp44 hw => ?_)
    obtain ⟨h45, h46, h47⟩ := hp44
    refine jx_iast xw (g := g40) (lg := l41) (ar := a42) (bk := b43) 3 hx hb hw 12 0 rfl rfl (show ¬ (_ ∨ _) by decide) dX0_compute_17 rfl (fun H locs a48 h_a48 hw => ?_)
    refine lv_goto (tgt := 73) hx hb dX0_compute_18 (by decide) ?_
    exact kr g40 l41 a48 b43 _ _ _ _ ⟨h45, h46, (hk_frA (hk_frT hk_fr0 (by decide) h47) (by decide) h_a48)⟩ hw dX0_compute_73

set_option maxHeartbeats 4000000 in
set_option maxRecDepth 100000 in
/-- X6_readTail on (25,) -/
theorem jx_X6_readTail (l : Launch) (hlt : l.stackTraces = false) (D : va_G) (t3 : Nat × Nat × Nat) (cI cJ : ClassId) (ad : Nat → Nat) (g : Nat → Int32) (lg : Nat → Int64) (ar : Nat → Nat → Int32) (bk : Nat → Int64) (sz : Nat) (hi_g14 : 0 ≤ (g 14).toInt ∧ (g 14).toInt ≤ 3000) (hi_g45 : 0 ≤ (g 45).toInt ∧ (g 45).toInt ≤ 3000) (hi_a0rg : hk_rg 0 255 (ar 0)) : JMv l yX6_readTail (Cond.code yX6_readTail cX6_readTail 5 none :: wwX) { frames := 8, cells := 1, slots := 6, locals := 130 } t3 D xw cI cJ ad [.ref (ad 25)] (xw cI cJ ad g lg ar bk) sz 1 6 (fun g' lg' ar' bk' => hk_fr [15, 17] g g' ∧ hk_fr [] lg lg' ∧ hk_fr [1, 3, 4, 5] ar ar') (fun g' lg' ar' bk' => hk_fr [15, 17] g g' ∧ hk_fr [] lg lg' ∧ hk_fr [1, 3, 4, 5] ar ar') := by
  refine jx_metv (cc := cX6_readTail) (maxL := 5) (ret := none) rfl (by decide) rfl (Nat.le_of_ble_eq_true rfl) ?_
  intro p e s m args below meth c ls Q A hx hb hml hown hts hA hZ hw hl hQ kr kt
  have hq : ∀ w ∈ wwX, w.before args s = true := fun w h => hts w (List.mem_cons_of_mem _ h)
  have hl : lv_has ls 5 [(0, .ref (ad 25))] := hl
  refine lv_aload_n hx hb dX6_readTail_0 rfl (lv_at hl 0 rfl) ?_
  refine hk_get (ci := 9) (C := RX6) (T := TX6) (N := 16) (v := .ref (ad 4)) hx hb hts (fun _ h => List.mem_cons_of_mem _ (wwXc_wsX60 _ h)) hown hw 25 rfl rfl 1 (by decide) (hq _ wX_410) rfl dX6_readTail_1 ?_
  refine hk_get (ci := 12) (C := RX9) (T := TX9) (N := 2) (v := .int (g 14)) hx hb hts (fun _ h => List.mem_cons_of_mem _ (wwXc_wsX90 _ h)) hown hw 4 rfl rfl 1 (by decide) (hq _ wX_402) rfl dX6_readTail_4 ?_
  refine lv_aload_n hx hb dX6_readTail_7 rfl (lv_at hl 0 rfl) ?_
  refine hk_get (ci := 9) (C := RX6) (T := TX6) (N := 16) (v := .int (g 45)) hx hb hts (fun _ h => List.mem_cons_of_mem _ (wwXc_wsX60 _ h)) hown hw 25 rfl rfl 11 (by decide) (hq _ wX_432) rfl dX6_readTail_8 ?_
  refine lv_isub hx hb dX6_readTail_11 (jx_nm fun z1 hz1 => ?_)
  refine lv_istore_n (lv' := [(1, .int z1), (0, .ref (ad 25))]) hx hb dX6_readTail_12 rfl hl (by decide) rfl (fun ls hl => ?_)
  refine lv_aload_n hx hb dX6_readTail_13 rfl (lv_at hl 1 rfl) ?_
  refine hk_get (ci := 9) (C := RX6) (T := TX6) (N := 16) (v := .ref (ad 26)) hx hb hts (fun _ h => List.mem_cons_of_mem _ (wwXc_wsX60 _ h)) hown hw 25 rfl rfl 5 (by decide) (hq _ wX_423) rfl dX6_readTail_14 ?_
  refine hk_get (ci := 6) (C := RX3) (T := TX3) (N := 9) (v := .long (lg 5)) hx hb hts (fun _ h => List.mem_cons_of_mem _ (wwXc_wsX30 _ h)) hown hw 26 rfl rfl 6 (by decide) (hq _ wX_556) rfl dX6_readTail_17 ?_
  refine lv_lconst (v := 0) hx hb dX6_readTail_20 (by decide) ?_
  have B2 : ∀  (x3 : Int32) (ls : Array Slot) (H : Heap) (locs : List Loc), 0 ≤ (x3).toInt ∧ (x3).toInt ≤ 1 → hk_W D (jT cI cJ) A s H locs (xw cI cJ ad g lg ar bk) → lv_has ls 5 [(0, .ref (ad 25)), (1, .int z1)] → W p l e { frames := 8, cells := 1, slots := 6, locals := 130 } s m args below meth c H locs 0 0 Q (F0 m 46 ls [.int x3]) := by
    intro x3 ls H locs hf_B2_0 hw hl
    refine lv_istore_n (lv' := [(2, .int x3), (0, .ref (ad 25)), (1, .int z1)]) hx hb dX6_readTail_46 rfl hl (by decide) rfl (fun ls hl => ?_)
    refine lv_iload_n hx hb dX6_readTail_47 rfl (lv_at hl 0 rfl) ?_
    have B4 : ∀  (g5 : Nat → Int32) (ls : Array Slot) (H : Heap) (locs : List Loc), hk_fr [17] g g5 → hk_W D (jT cI cJ) A s H locs (xw cI cJ ad g5 lg ar bk) → lv_has ls 5 [(0, .ref (ad 25))] → W p l e { frames := 8, cells := 1, slots := 6, locals := 130 } s m args below meth c H locs 0 0 Q (F0 m 85 ls []) := by
      intro g5 ls H locs hfr_g5 hw hl
      refine lv_iconst (v := 0) hx hb dX6_readTail_85 (by decide) ?_
      refine lv_istore_n (lv' := [(3, .int 0), (0, .ref (ad 25))]) hx hb dX6_readTail_86 rfl hl (by decide) rfl (fun ls hl => ?_)
      have B6 : ∀ (k9 : Nat) (x7 : Int32) (g8 : Nat → Int32) (ls : Array Slot) (H : Heap) (locs : List Loc), 2147483648 - (x7).toInt ≤ (k9 : Int) → 0 ≤ (x7).toInt → hk_fr [15, 17] g5 g8 → hk_W D (jT cI cJ) A s H locs (xw cI cJ ad g8 lg ar bk) → lv_has ls 5 [(0, .ref (ad 25)), (3, .int x7)] → W p l e { frames := 8, cells := 1, slots := 6, locals := 130 } s m args below meth c H locs 0 0 Q (F0 m 87 ls []) := by
        intro k9
        induction k9 with
        | zero =>
          intro x7 g8 ls H locs hrk_B6 hf_B6_0 hfr_g8 hw hl
          exact False.elim (hk_no0 (0 * (x7).toInt) (ob5 ((x7).toInt) hf_B6_0 hrk_B6 (hE_rng (x7))) (by simp))
        | succ k9 ih_B6 =>
          intro x7 g8 ls H locs hrk_B6 hf_B6_0 hfr_g8 hw hl
          have hrk_B6 := hk_rk hrk_B6
          refine lv_iload_n hx hb dX6_readTail_87 rfl (lv_at hl 1 rfl) ?_
          refine lv_iconst (v := 3) hx hb dX6_readTail_88 (by decide) ?_
          have B10 : ∀  (ls : Array Slot) (H : Heap) (locs : List Loc), hk_W D (jT cI cJ) A s H locs (xw cI cJ ad g8 lg ar bk) → lv_has ls 5 [(0, .ref (ad 25))] → W p l e { frames := 8, cells := 1, slots := 6, locals := 130 } s m args below meth c H locs 0 0 Q (F0 m 125 ls []) := by
            intro ls H locs hw hl
            refine lv_aload_n hx hb dX6_readTail_125 rfl (lv_at hl 0 rfl) ?_
            refine hk_get (ci := 9) (C := RX6) (T := TX6) (N := 16) (v := .ref (ad 26)) hx hb hts (fun _ h => List.mem_cons_of_mem _ (wwXc_wsX60 _ h)) hown hw 25 rfl rfl 5 (by decide) (hq _ wX_423) rfl dX6_readTail_126 ?_
            refine lv_aload_n hx hb dX6_readTail_129 rfl (lv_at hl 0 rfl) ?_
            refine hk_get (ci := 9) (C := RX6) (T := TX6) (N := 16) (v := .ref (ad 4)) hx hb hts (fun _ h => List.mem_cons_of_mem _ (wwXc_wsX60 _ h)) hown hw 25 rfl rfl 1 (by decide) (hq _ wX_410) rfl dX6_readTail_130 ?_
            refine lv_aload_n hx hb dX6_readTail_133 rfl (lv_at hl 0 rfl) ?_
            have e_g8_45 : g8 45 = (g 45) := ((hfr_g8 45 rfl)).trans (hfr_g5 45 rfl)
            refine hk_get (ci := 9) (C := RX6) (T := TX6) (N := 16) (v := .int (g 45)) hx hb hts (fun _ h => List.mem_cons_of_mem _ (wwXc_wsX60 _ h)) hown hw 25 rfl rfl 11 (by decide) (hq _ wX_432) (congrArg (fun z => some (Value.int z)) e_g8_45) dX6_readTail_134 ?_
            have e_g8_14 : g8 14 = (g 14) := ((hfr_g8 14 rfl)).trans (hfr_g5 14 rfl)
            refine jx_Vv (As := [.ref (ad 4), .int (g 45)]) (rest := []) ⟨hx, hb, hml, hown, hts⟩ hZ hw hA (jx_X3_undo_4 l hlt D t3 cI cJ ad g8 lg ar bk _ (g 45) (ob370 ((g 45).toInt) ((z1).toInt) ((g 14).toInt) ((g8 45).toInt) hi_g45 (hE_sub hz1) (congrArg Int32.toInt e_g8_45) hi_g14 (hE_rng (g 45)) (hE_rng (z1)) (hE_rng (g 14)) (hE_rng (g8 45))) (ob371 ((g8 14).toInt) ((g 14).toInt) ((z1).toInt) ((g 45).toInt) ((g8 45).toInt) (congrArg Int32.toInt e_g8_14) hi_g14 (hE_sub hz1) hi_g45 (congrArg Int32.toInt e_g8_45) (hE_rng (g8 14)) (hE_rng (g 14)) (hE_rng (z1)) (hE_rng (g 45)) (hE_rng (g8 45)))) (cwV 2 hts (jx_gV wwX_good wX_558 wX_559 wX_560 wX_307 wX_561) rfl rfl rfl (by decide +kernel) ⟨Nat.le_of_ble_eq_true rfl, Nat.le_of_ble_eq_true rfl⟩) 26 (ci := 6) (T := TX3) (N := 9) rfl rfl rfl hl.1 rfl (Nat.le_of_ble_eq_true rfl) dX6_readTail_137 ⟨Nat.le_of_ble_eq_true rfl, Nat.le_of_ble_eq_true rfl⟩ (fun _ _ _ _ _ _ _ _ hp _ _ _ _ => hp.elim) (fun g16 l17 a18 b19 H locs hp20 hw => ?_)
            obtain ⟨h21, h22, h23⟩ := hp20
            refine lv_aload_n hx hb dX6_readTail_140 rfl (lv_at hl 0 rfl) ?_
            refine hk_get (ci := 9) (C := RX6) (T := TX6) (N := 16) (v := .ref (ad 11)) hx hb hts (fun _ h => List.mem_cons_of_mem _ (wwXc_wsX60 _ h)) hown hw 25 rfl rfl 3 (by decide) (hq _ wX_562) rfl dX6_readTail_141 ?_
            refine lv_aload_n hx hb dX6_readTail_144 rfl (lv_at hl 0 rfl) ?_
            have e_g16_44 : g16 44 = (g 44) := ((h21 44 rfl)).trans (((hfr_g8 44 rfl)).trans (hfr_g5 44 rfl))
            refine hk_get (ci := 9) (C := RX6) (T := TX6) (N := 16) (v := .int (g 44)) hx hb hts (fun _ h => List.mem_cons_of_mem _ (wwXc_wsX60 _ h)) hown hw 25 rfl rfl 10 (by decide) (hq _ wX_524) (congrArg (fun z => some (Value.int z)) e_g16_44) dX6_readTail_145 ?_
            refine lv_aload_n hx hb dX6_readTail_148 rfl (lv_at hl 0 rfl) ?_
            refine hk_get (ci := 9) (C := RX6) (T := TX6) (N := 16) (v := .ref (ad 4)) hx hb hts (fun _ h => List.mem_cons_of_mem _ (wwXc_wsX60 _ h)) hown hw 25 rfl rfl 1 (by decide) (hq _ wX_410) rfl dX6_readTail_149 ?_
            refine lv_aload_n hx hb dX6_readTail_152 rfl (lv_at hl 0 rfl) ?_
            have e_g16_45 : g16 45 = (g 45) := ((h21 45 rfl)).trans e_g8_45
            refine hk_get (ci := 9) (C := RX6) (T := TX6) (N := 16) (v := .int (g 45)) hx hb hts (fun _ h => List.mem_cons_of_mem _ (wwXc_wsX60 _ h)) hown hw 25 rfl rfl 11 (by decide) (hq _ wX_432) (congrArg (fun z => some (Value.int z)) e_g16_45) dX6_readTail_153 ?_
            refine lv_aload_n hx hb dX6_readTail_156 rfl (lv_at hl 0 rfl) ?_
            refine hk_get (ci := 9) (C := RX6) (T := TX6) (N := 16) (v := .ref (ad 4)) hx hb hts (fun _ h => List.mem_cons_of_mem _ (wwXc_wsX60 _ h)) hown hw 25 rfl rfl 1 (by decide) (hq _ wX_410) rfl dX6_readTail_157 ?_
            have e_g16_14 : g16 14 = (g 14) := ((h21 14 rfl)).trans e_g8_14
            refine hk_get (ci := 12) (C := RX9) (T := TX9) (N := 2) (v := .int (g 14)) hx hb hts (fun _ h => List.mem_cons_of_mem _ (wwXc_wsX90 _ h)) hown hw 4 rfl rfl 1 (by decide) (hq _ wX_402) (congrArg (fun z => some (Value.int z)) e_g16_14) dX6_readTail_160 ?_
            refine jx_Vv (As := [.int (g 44), .ref (ad 4), .int (g 45), .int (g 14)]) (rest := []) ⟨hx, hb, hml, hown, hts⟩ hZ hw hA (jx_X0_compute_4 l hlt D t3 cI cJ ad g16 l17 a18 b19 _ (g 44) (g 45) (g 14)) (cwV 4 hts (jx_gV wwX_good wX_563 wX_79 wX_80 wX_12 wX_81) rfl rfl rfl (by decide +kernel) ⟨Nat.le_of_ble_eq_true rfl, Nat.le_of_ble_eq_true rfl⟩) 11 (ci := 3) (T := TX0) (N := 3) rfl rfl rfl hl.1 rfl (Nat.le_of_ble_eq_true rfl) dX6_readTail_163 ⟨Nat.le_of_ble_eq_true rfl, Nat.le_of_ble_eq_true rfl⟩ (fun _ _ _ _ _ _ _ _ hp _ _ _ _ => hp.elim) (fun g29 l30 a31 b32 H locs hp33 hw => ?_)
            obtain ⟨h34, h35, h36⟩ := hp33
            have hr37 : hk_rg 0 255 (a31 0) := (hk_pE (P := hk_rg 0 255) (hk_pE (P := hk_rg 0 255) hi_a0rg (h23 0 rfl)) (h36 0 rfl))
            refine lv_iconst (v := 1) hx hb dX6_readTail_166 (by decide) ?_
            refine lv_istore_n (lv' := [(3, .int 1), (0, .ref (ad 25))]) hx hb dX6_readTail_167 rfl hl (by decide) rfl (fun ls hl => ?_)
            refine lv_iconst (v := 0) hx hb dX6_readTail_168 (by decide) ?_
            refine lv_istore (lv' := [(4, .int 0), (3, .int 1), (0, .ref (ad 25))]) hx hb dX6_readTail_169 hl (by decide) rfl (fun ls hl => ?_)
            have B38 : ∀ (k42 : Nat) (x39 : Int32) (x40 : Int32) (g41 : Nat → Int32) (ls : Array Slot) (H : Heap) (locs : List Loc), 2147483648 - (x40).toInt ≤ (k42 : Int) → 0 ≤ (x40).toInt → hk_fr [15, 17] g29 g41 → hk_W D (jT cI cJ) A s H locs (xw cI cJ ad g41 l30 a31 b32) → lv_has ls 5 [(0, .ref (ad 25)), (3, .int x39), (4, .int x40)] → W p l e { frames := 8, cells := 1, slots := 6, locals := 130 } s m args below meth c H locs 0 0 Q (F0 m 171 ls []) := by
              intro k42
              induction k42 with
              | zero =>
                intro x39 x40 g41 ls H locs hrk_B38 hf_B38_0 hfr_g41 hw hl
                exact False.elim (hk_no0 (0 * (x40).toInt) (ob5 ((x40).toInt) hf_B38_0 hrk_B38 (hE_rng (x40))) (by simp))
              | succ k42 ih_B38 =>
                intro x39 x40 g41 ls H locs hrk_B38 hf_B38_0 hfr_g41 hw hl
                have hrk_B38 := hk_rk hrk_B38
                refine lv_iload hx hb dX6_readTail_171 (lv_at hl 2 rfl) ?_
                refine lv_aload_n hx hb dX6_readTail_173 rfl (lv_at hl 0 rfl) ?_
                have e_g41_44 : g41 44 = (g 44) := ((hfr_g41 44 rfl)).trans (((h34 44 rfl)).trans e_g16_44)
                refine hk_get (ci := 9) (C := RX6) (T := TX6) (N := 16) (v := .int (g 44)) hx hb hts (fun _ h => List.mem_cons_of_mem _ (wwXc_wsX60 _ h)) hown hw 25 rfl rfl 10 (by decide) (hq _ wX_524) (congrArg (fun z => some (Value.int z)) e_g41_44) dX6_readTail_174 ?_
                refine jx_Si (As := [.int (g 44)]) (rest := [.int x40]) ⟨hx, hb, hml, hown, hts⟩ hZ hw hA (jx_X0_bytesOf l hlt D t3 cI cJ ad g41 l30 a31 b32 _ (g 44)) (va_cwS 1 hts (jx_gS wwX_good wX_542 wX_73 wX_12 wX_74) rfl rfl rfl (by decide +kernel) ⟨Nat.le_of_ble_eq_true rfl, Nat.le_of_ble_eq_true rfl⟩) rfl hl.1 rfl (Nat.le_of_ble_eq_true rfl) dX6_readTail_177 ⟨Nat.le_of_ble_eq_true rfl, Nat.le_of_ble_eq_true rfl⟩ (fun _ _ _ _ _ _ _ _ hp _ _ _ _ => hp.elim) (fun r47 g48 l49 a50 b51 H locs hp52 hw => ?_)
                obtain ⟨h53, h54, h55, h56⟩ := hp52
                refine lv_icmp_ge (tgt := 222) hx hb dX6_readTail_180 (by decide) (fun cc57 => ?_) (fun cc57 => ?_)
                · refine lv_iload_n hx hb dX6_readTail_222 rfl (lv_at hl 1 rfl) ?_
                  refine lv_if_ne (tgt := 235) hx hb dX6_readTail_223 (by decide) (fun cc58 => ?_) (fun cc58 => ?_)
                  · exact kr g48 l49 a50 b51 _ _ _ _ ⟨(hk_frT (hk_frT (hk_frT (hk_frT (hk_frT (hk_frT hk_fr0 (by decide) hfr_g5) (by decide) hfr_g8) (by decide) h21) (by decide) h34) (by decide) hfr_g41) (by decide) h53), (hk_frT (hk_frT h22 (by decide) h35) (by decide) h54), (hk_frT (hk_frT (hk_frT hk_fr0 (by decide) h23) (by decide) h36) (by decide) h55)⟩ hw dX6_readTail_235
                  · refine lv_aload_n hx hb dX6_readTail_226 rfl (lv_at hl 0 rfl) ?_
                    refine hk_get (ci := 9) (C := RX6) (T := TX6) (N := 16) (v := .ref (ad 6)) hx hb hts (fun _ h => List.mem_cons_of_mem _ (wwXc_wsX60 _ h)) hown hw 25 rfl rfl 0 (by decide) (hq _ wX_399) rfl dX6_readTail_227 ?_
                    refine lv_bipush (v := 10) hx hb dX6_readTail_230 (by decide) ?_
                    refine jx_Vv (As := [.int 10]) (rest := []) ⟨hx, hb, hml, hown, hts⟩ hZ hw hA (jx_X8_fail l hlt D t3 cI cJ ad g48 l49 a50 b51 _ 10) (cwV 1 hts (jx_gV wwX_good wX_403 wX_255 wX_256 wX_252 wX_257) rfl rfl rfl (by decide +kernel) ⟨Nat.le_of_ble_eq_true rfl, Nat.le_of_ble_eq_true rfl⟩) 6 (ci := 11) (T := TX8) (N := 4) rfl rfl rfl hl.1 rfl (Nat.le_of_ble_eq_true rfl) dX6_readTail_232 ⟨Nat.le_of_ble_eq_true rfl, Nat.le_of_ble_eq_true rfl⟩ (fun u59 u60 u61 u62 H locs ce q hp hw h1 h2 h3 => by obtain ⟨ht0, ht1, ht2⟩ := hp; exact kt _ _ _ _ _ _ _ _ _ _ _ ⟨(hk_frT (hk_frT (hk_frT (hk_frT (hk_frT (hk_frT (hk_frT hk_fr0 (by decide) hfr_g5) (by decide) hfr_g8) (by decide) h21) (by decide) h34) (by decide) hfr_g41) (by decide) h53) (by decide) ht0), (hk_frT (hk_frT (hk_frT h22 (by decide) h35) (by decide) h54) (by decide) ht1), (hk_frT (hk_frT (hk_frT (hk_frT hk_fr0 (by decide) h23) (by decide) h36) (by decide) h55) (by decide) ht2)⟩ hw h1 h2 h3) (fun g64 l65 a66 b67 H locs hp68 hw => ?_)
                    obtain ⟨h69, h70, h71, h72⟩ := hp68
                    exact False.elim h72
                · refine lv_aload_n hx hb dX6_readTail_183 rfl (lv_at hl 0 rfl) ?_
                  refine hk_get (ci := 9) (C := RX6) (T := TX6) (N := 16) (v := .ref (ad 6)) hx hb hts (fun _ h => List.mem_cons_of_mem _ (wwXc_wsX60 _ h)) hown hw 25 rfl rfl 0 (by decide) (hq _ wX_399) rfl dX6_readTail_184 ?_
                  refine jx_Vi (As := []) (rest := []) ⟨hx, hb, hml, hown, hts⟩ hZ hw hA (jx_X8_next l hlt D t3 cI cJ ad g48 l49 a50 b51 _ (hk_pE (P := hk_rg 0 255) hr37 (h55 0 rfl))) (cwV 0 hts (jx_gV wwX_good wX_430 wX_250 wX_251 wX_252 wX_253) rfl rfl rfl (by decide +kernel) ⟨Nat.le_of_ble_eq_true rfl, Nat.le_of_ble_eq_true rfl⟩) 6 (ci := 11) (T := TX8) (N := 4) rfl rfl rfl hl.1 rfl (Nat.le_of_ble_eq_true rfl) dX6_readTail_187 ⟨Nat.le_of_ble_eq_true rfl, Nat.le_of_ble_eq_true rfl⟩ (fun u73 u74 u75 u76 H locs ce q hp hw h1 h2 h3 => by obtain ⟨ht0, ht1, ht2⟩ := hp; exact kt _ _ _ _ _ _ _ _ _ _ _ ⟨(hk_frT (hk_frT (hk_frT (hk_frT (hk_frT (hk_frT (hk_frT hk_fr0 (by decide) hfr_g5) (by decide) hfr_g8) (by decide) h21) (by decide) h34) (by decide) hfr_g41) (by decide) h53) (by decide) ht0), (hk_frT (hk_frT (hk_frT h22 (by decide) h35) (by decide) h54) (by decide) ht1), (hk_frT (hk_frT (hk_frT (hk_frT hk_fr0 (by decide) h23) (by decide) h36) (by decide) h55) (by decide) ht2)⟩ hw h1 h2 h3) (fun r77 g78 l79 a80 b81 H locs hp82 hw => ?_)
                  obtain ⟨h83, h84, h85, h86⟩ := hp82
                  have hr87 : hk_rg 0 255 (a80 0) := (hk_pE (P := hk_rg 0 255) (hk_pE (P := hk_rg 0 255) hr37 (h55 0 rfl)) (h85 0 rfl))
                  refine lv_aload_n hx hb dX6_readTail_190 rfl (lv_at hl 0 rfl) ?_
                  refine hk_get (ci := 9) (C := RX6) (T := TX6) (N := 16) (v := .ref (ad 11)) hx hb hts (fun _ h => List.mem_cons_of_mem _ (wwXc_wsX60 _ h)) hown hw 25 rfl rfl 3 (by decide) (hq _ wX_562) rfl dX6_readTail_191 ?_
                  refine lv_aload_n hx hb dX6_readTail_194 rfl (lv_at hl 0 rfl) ?_
                  have e_g78_44 : g78 44 = (g 44) := ((h83 44 rfl)).trans (((h53 44 rfl)).trans e_g41_44)
                  refine hk_get (ci := 9) (C := RX6) (T := TX6) (N := 16) (v := .int (g 44)) hx hb hts (fun _ h => List.mem_cons_of_mem _ (wwXc_wsX60 _ h)) hown hw 25 rfl rfl 10 (by decide) (hq _ wX_524) (congrArg (fun z => some (Value.int z)) e_g78_44) dX6_readTail_195 ?_
                  refine lv_iload hx hb dX6_readTail_198 (lv_at hl 2 rfl) ?_
                  refine jx_Vi (As := [.int (g 44), .int x40]) (rest := [.int r77]) ⟨hx, hb, hml, hown, hts⟩ hZ hw hA (jx_X0_byteOf l hlt D t3 cI cJ ad g78 l79 a80 b81 _ (g 44) x40) (cwV 2 hts (jx_gV wwX_good wX_564 wX_565 wX_566 wX_12 wX_567) rfl rfl rfl (by decide +kernel) ⟨Nat.le_of_ble_eq_true rfl, Nat.le_of_ble_eq_true rfl⟩) 11 (ci := 3) (T := TX0) (N := 3) rfl rfl rfl hl.1 rfl (Nat.le_of_ble_eq_true rfl) dX6_readTail_200 ⟨Nat.le_of_ble_eq_true rfl, Nat.le_of_ble_eq_true rfl⟩ (fun _ _ _ _ _ _ _ _ hp _ _ _ _ => hp.elim) (fun r92 g93 l94 a95 b96 H locs hp97 hw => ?_)
                  obtain ⟨h98, h99, h100⟩ := hp97
                  have B101 : ∀  (x102 : Int32) (ls : Array Slot) (H : Heap) (locs : List Loc), 0 ≤ (x102).toInt ∧ (x102).toInt ≤ 1 → hk_W D (jT cI cJ) A s H locs (xw cI cJ ad g93 l94 a95 b96) → lv_has ls 5 [(0, .ref (ad 25)), (4, .int x40)] → W p l e { frames := 8, cells := 1, slots := 6, locals := 130 } s m args below meth c H locs 0 0 Q (F0 m 215 ls [.int x102]) := by
                    intro x102 ls H locs hf_B101_0 hw hl
                    refine lv_istore_n (lv' := [(3, .int x102), (0, .ref (ad 25)), (4, .int x40)]) hx hb dX6_readTail_215 rfl hl (by decide) rfl (fun ls hl => ?_)
                    obtain ⟨z103, hz103⟩ : ∃ z : Int32, x40 + 1 = z := ⟨_, rfl⟩
                    refine lv_iinc (v := z103) (lv' := [(4, .int z103), (3, .int x102), (0, .ref (ad 25))]) hx hb dX6_readTail_216 hl (k := 2) rfl hz103 (by decide) rfl (fun ls hl => ?_)
                    refine lv_goto (tgt := 171) hx hb dX6_readTail_219 (by decide) ?_
                    exact ih_B38 x102 z103 g93 ls _ _ (ob311 ((z103).toInt) (k42 : Int) ((x40).toInt) (((1 : Int32)).toInt) ((r47).toInt) hrk_B38 (hE_add hz103) hf_B38_0 (hE_nle cc57) h56 (hE_rng (z103)) (hE_rng (x40)) (by decide) (hE_rng (r47))) (ob312 ((z103).toInt) ((x40).toInt) (((1 : Int32)).toInt) (k42 : Int) ((r47).toInt) (hE_add hz103) hf_B38_0 hrk_B38 (hE_nle cc57) h56 (hE_rng (z103)) (hE_rng (x40)) (by decide) (hE_rng (r47))) (hk_frT (hk_frT (hk_frT hfr_g41 (by decide) h53) (by decide) h83) (by decide) h98) hw (lv_sub hl [2, 1, 0] rfl)
                  have B104 : ∀  (ls : Array Slot) (H : Heap) (locs : List Loc), hk_W D (jT cI cJ) A s H locs (xw cI cJ ad g93 l94 a95 b96) → lv_has ls 5 [(0, .ref (ad 25)), (4, .int x40)] → W p l e { frames := 8, cells := 1, slots := 6, locals := 130 } s m args below meth c H locs 0 0 Q (F0 m 214 ls []) := by
                    intro ls H locs hw hl
                    refine lv_iconst (v := 0) hx hb dX6_readTail_214 (by decide) ?_
                    exact B101 0 ls _ _ (ob36 (((0 : Int32)).toInt) (by decide)) hw (lv_sub hl [0, 1] rfl)
                  refine lv_icmp_ne (tgt := 214) hx hb dX6_readTail_203 (by decide) (fun cc105 => ?_) (fun cc105 => ?_)
                  · exact B104 ls _ _ hw (lv_sub hl [0, 2] rfl)
                  · refine lv_iload_n hx hb dX6_readTail_206 rfl (lv_at hl 1 rfl) ?_
                    refine lv_if_eq (tgt := 214) hx hb dX6_readTail_207 (by decide) (fun cc106 => ?_) (fun cc106 => ?_)
                    · exact B104 ls _ _ hw (lv_sub hl [0, 2] rfl)
                    · refine lv_iconst (v := 1) hx hb dX6_readTail_210 (by decide) ?_
                      refine lv_goto (tgt := 215) hx hb dX6_readTail_211 (by decide) ?_
                      exact B101 1 ls _ _ (ob37 (((1 : Int32)).toInt) (by decide)) hw (lv_sub hl [0, 2] rfl)
            exact B38 (2147483648 - ((0 : Int32)).toInt).toNat 1 0 g29 ls _ _ (Int.self_le_toNat _) (ob10 (((0 : Int32)).toInt) (by decide)) hk_fr0 hw (lv_sub hl [2, 1, 0] rfl)
          refine lv_icmp_ge (tgt := 125) hx hb dX6_readTail_89 (by decide) (fun cc107 => ?_) (fun cc107 => ?_)
          · exact B10 ls _ _ hw (lv_sub hl [0] rfl)
          · refine lv_aload_n hx hb dX6_readTail_92 rfl (lv_at hl 0 rfl) ?_
            refine hk_get (ci := 9) (C := RX6) (T := TX6) (N := 16) (v := .ref (ad 6)) hx hb hts (fun _ h => List.mem_cons_of_mem _ (wwXc_wsX60 _ h)) hown hw 25 rfl rfl 0 (by decide) (hq _ wX_399) rfl dX6_readTail_93 ?_
            refine hk_get (ci := 11) (C := RX8) (T := TX8) (N := 4) (v := .int (g8 15)) hx hb hts (fun _ h => List.mem_cons_of_mem _ (wwXc_wsX80 _ h)) hown hw 6 rfl rfl 1 (by decide) (hq _ wX_400) rfl dX6_readTail_96 ?_
            refine lv_aload_n hx hb dX6_readTail_99 rfl (lv_at hl 0 rfl) ?_
            refine hk_get (ci := 9) (C := RX6) (T := TX6) (N := 16) (v := .ref (ad 26)) hx hb hts (fun _ h => List.mem_cons_of_mem _ (wwXc_wsX60 _ h)) hown hw 25 rfl rfl 5 (by decide) (hq _ wX_423) rfl dX6_readTail_100 ?_
            have e_g8_51 : g8 51 = (g 51) := ((hfr_g8 51 rfl)).trans (hfr_g5 51 rfl)
            refine hk_get (ci := 6) (C := RX3) (T := TX3) (N := 9) (v := .int (g 51)) hx hb hts (fun _ h => List.mem_cons_of_mem _ (wwXc_wsX30 _ h)) hown hw 26 rfl rfl 4 (by decide) (hq _ wX_424) (congrArg (fun z => some (Value.int z)) e_g8_51) dX6_readTail_103 ?_
            refine lv_isub hx hb dX6_readTail_106 (jx_nm fun z108 hz108 => ?_)
            refine lv_iconst (v := 3) hx hb dX6_readTail_107 (by decide) ?_
            refine lv_iand hx hb dX6_readTail_108 (jx_nm fun z109 hz109 => ?_)
            refine lv_if_eq (tgt := 125) hx hb dX6_readTail_109 (by decide) (fun cc110 => ?_) (fun cc110 => ?_)
            · exact B10 ls _ _ hw (lv_sub hl [0] rfl)
            · refine lv_aload_n hx hb dX6_readTail_112 rfl (lv_at hl 0 rfl) ?_
              refine lv_iconst (v := 0) hx hb dX6_readTail_113 (by decide) ?_
              refine lv_bipush (v := 8) hx hb dX6_readTail_114 (by decide) ?_
              refine jx_Vv (As := [.int 0, .int 8]) (rest := []) ⟨hx, hb, hml, hown, hts⟩ hZ hw hA (jx_X6_expect l hlt D t3 cI cJ ad g8 lg ar bk _ 0 8 hi_a0rg) (cwV 2 hts (jx_gV wwX_good wX_525 wX_526 wX_527 wX_441 wX_528) rfl rfl rfl (by decide +kernel) ⟨Nat.le_of_ble_eq_true rfl, Nat.le_of_ble_eq_true rfl⟩) 25 (ci := 9) (T := TX6) (N := 16) rfl rfl rfl hl.1 rfl (Nat.le_of_ble_eq_true rfl) dX6_readTail_116 ⟨Nat.le_of_ble_eq_true rfl, Nat.le_of_ble_eq_true rfl⟩ (fun u111 u112 u113 u114 H locs ce q hp hw h1 h2 h3 => by obtain ⟨ht0, ht1, ht2⟩ := hp; exact kt _ _ _ _ _ _ _ _ _ _ _ ⟨(hk_frT (hk_frT (hk_frT hk_fr0 (by decide) hfr_g5) (by decide) hfr_g8) (by decide) ht0), ht1, (hk_frT hk_fr0 (by decide) ht2)⟩ hw h1 h2 h3) (fun g116 l117 a118 b119 H locs hp120 hw => ?_)
              obtain ⟨h121, h122, h123⟩ := hp120
              obtain ⟨z124, hz124⟩ : ∃ z : Int32, x7 + 1 = z := ⟨_, rfl⟩
              refine lv_iinc (v := z124) (lv' := [(3, .int z124), (0, .ref (ad 25))]) hx hb dX6_readTail_119 hl (k := 1) rfl hz124 (by decide) rfl (fun ls hl => ?_)
              refine lv_goto (tgt := 87) hx hb dX6_readTail_122 (by decide) ?_
              exact ih_B6 z124 g116 ls _ _ (ob21 ((z124).toInt) (k9 : Int) ((x7).toInt) (((1 : Int32)).toInt) (((3 : Int32)).toInt) hrk_B6 (hE_add hz124) hf_B6_0 (hE_nle cc107) (hE_rng (z124)) (hE_rng (x7)) (by decide) (by decide)) (ob22 ((z124).toInt) ((x7).toInt) (((1 : Int32)).toInt) (k9 : Int) (((3 : Int32)).toInt) (hE_add hz124) hf_B6_0 hrk_B6 (hE_nle cc107) (hE_rng (z124)) (hE_rng (x7)) (by decide) (by decide)) (hk_frT hfr_g8 (by decide) h121) hw (lv_sub hl [1, 0] rfl)
      exact B6 (2147483648 - ((0 : Int32)).toInt).toNat 0 g5 ls _ _ (Int.self_le_toNat _) (ob10 (((0 : Int32)).toInt) (by decide)) hk_fr0 hw (lv_sub hl [1, 0] rfl)
    have B125 : ∀  (ls : Array Slot) (H : Heap) (locs : List Loc), hk_W D (jT cI cJ) A s H locs (xw cI cJ ad g lg ar bk) → lv_has ls 5 [(0, .ref (ad 25))] → W p l e { frames := 8, cells := 1, slots := 6, locals := 130 } s m args below meth c H locs 0 0 Q (F0 m 76 ls []) := by
      intro ls H locs hw hl
      refine lv_aload_n hx hb dX6_readTail_76 rfl (lv_at hl 0 rfl) ?_
      refine hk_get (ci := 9) (C := RX6) (T := TX6) (N := 16) (v := .ref (ad 6)) hx hb hts (fun _ h => List.mem_cons_of_mem _ (wwXc_wsX60 _ h)) hown hw 25 rfl rfl 0 (by decide) (hq _ wX_399) rfl dX6_readTail_77 ?_
      refine lv_bipush (v := 8) hx hb dX6_readTail_80 (by decide) ?_
      refine jx_Vv (As := [.int 8]) (rest := []) ⟨hx, hb, hml, hown, hts⟩ hZ hw hA (jx_X8_fail l hlt D t3 cI cJ ad g lg ar bk _ 8) (cwV 1 hts (jx_gV wwX_good wX_403 wX_255 wX_256 wX_252 wX_257) rfl rfl rfl (by decide +kernel) ⟨Nat.le_of_ble_eq_true rfl, Nat.le_of_ble_eq_true rfl⟩) 6 (ci := 11) (T := TX8) (N := 4) rfl rfl rfl hl.1 rfl (Nat.le_of_ble_eq_true rfl) dX6_readTail_82 ⟨Nat.le_of_ble_eq_true rfl, Nat.le_of_ble_eq_true rfl⟩ (fun u126 u127 u128 u129 H locs ce q hp hw h1 h2 h3 => by obtain ⟨ht0, ht1, ht2⟩ := hp; exact kt _ _ _ _ _ _ _ _ _ _ _ ⟨(hk_frT hk_fr0 (by decide) ht0), ht1, (hk_frT hk_fr0 (by decide) ht2)⟩ hw h1 h2 h3) (fun g131 l132 a133 b134 H locs hp135 hw => ?_)
      obtain ⟨h136, h137, h138, h139⟩ := hp135
      exact False.elim h139
    refine lv_if_ne (tgt := 76) hx hb dX6_readTail_48 (by decide) (fun cc140 => ?_) (fun cc140 => ?_)
    · exact B125 ls _ _ hw (lv_sub hl [1] rfl)
    · refine lv_aload_n hx hb dX6_readTail_51 rfl (lv_at hl 1 rfl) ?_
      refine hk_get (ci := 9) (C := RX6) (T := TX6) (N := 16) (v := .ref (ad 26)) hx hb hts (fun _ h => List.mem_cons_of_mem _ (wwXc_wsX60 _ h)) hown hw 25 rfl rfl 5 (by decide) (hq _ wX_423) rfl dX6_readTail_52 ?_
      refine hk_get (ci := 6) (C := RX3) (T := TX3) (N := 9) (v := .long (lg 6)) hx hb hts (fun _ h => List.mem_cons_of_mem _ (wwXc_wsX30 _ h)) hown hw 26 rfl rfl 7 (by decide) (hq _ wX_557) rfl dX6_readTail_55 ?_
      refine lv_lconst (v := 0) hx hb dX6_readTail_58 (by decide) ?_
      refine hk_lcmp_lt (tgt := 85) hx hb dX6_readTail_59 dX6_readTail_60 (by decide) (fun cc141 => ?_) (fun cc141 => ?_)
      · exact B4 g ls _ _ hk_fr0 hw (lv_sub hl [1] rfl)
      · refine lv_aload_n hx hb dX6_readTail_63 rfl (lv_at hl 1 rfl) ?_
        refine hk_get (ci := 9) (C := RX6) (T := TX6) (N := 16) (v := .ref (ad 26)) hx hb hts (fun _ h => List.mem_cons_of_mem _ (wwXc_wsX60 _ h)) hown hw 25 rfl rfl 5 (by decide) (hq _ wX_423) rfl dX6_readTail_64 ?_
        refine hk_get (ci := 6) (C := RX3) (T := TX3) (N := 9) (v := .long (lg 6)) hx hb hts (fun _ h => List.mem_cons_of_mem _ (wwXc_wsX30 _ h)) hown hw 26 rfl rfl 7 (by decide) (hq _ wX_557) rfl dX6_readTail_67 ?_
        refine lv_iload_n hx hb dX6_readTail_70 rfl (lv_at hl 2 rfl) ?_
        refine lv_i2l hx hb dX6_readTail_71 rfl (jx_nl fun z142 hz142 => ?_)
        refine hk_lcmp_eq (tgt := 85) hx hb dX6_readTail_72 dX6_readTail_73 (by decide) (fun cc143 => ?_) (fun cc143 => ?_)
        · exact B4 g ls _ _ hk_fr0 hw (lv_sub hl [1] rfl)
        · exact B125 ls _ _ hw (lv_sub hl [1] rfl)
  have B144 : ∀  (ls : Array Slot) (H : Heap) (locs : List Loc), hk_W D (jT cI cJ) A s H locs (xw cI cJ ad g lg ar bk) → lv_has ls 5 [(0, .ref (ad 25)), (1, .int z1)] → W p l e { frames := 8, cells := 1, slots := 6, locals := 130 } s m args below meth c H locs 0 0 Q (F0 m 45 ls []) := by
    intro ls H locs hw hl
    refine lv_iconst (v := 0) hx hb dX6_readTail_45 (by decide) ?_
    exact B2 0 ls _ _ (ob36 (((0 : Int32)).toInt) (by decide)) hw (lv_sub hl [0, 1] rfl)
  refine hk_lcmp_lt (tgt := 45) hx hb dX6_readTail_21 dX6_readTail_22 (by decide) (fun cc145 => ?_) (fun cc145 => ?_)
  · exact B144 ls _ _ hw (lv_sub hl [1, 0] rfl)
  · refine lv_aload_n hx hb dX6_readTail_25 rfl (lv_at hl 1 rfl) ?_
    refine hk_get (ci := 9) (C := RX6) (T := TX6) (N := 16) (v := .ref (ad 26)) hx hb hts (fun _ h => List.mem_cons_of_mem _ (wwXc_wsX60 _ h)) hown hw 25 rfl rfl 5 (by decide) (hq _ wX_423) rfl dX6_readTail_26 ?_
    refine hk_get (ci := 6) (C := RX3) (T := TX3) (N := 9) (v := .long (lg 5)) hx hb hts (fun _ h => List.mem_cons_of_mem _ (wwXc_wsX30 _ h)) hown hw 26 rfl rfl 6 (by decide) (hq _ wX_556) rfl dX6_readTail_29 ?_
    refine lv_aload_n hx hb dX6_readTail_32 rfl (lv_at hl 1 rfl) ?_
    refine hk_get (ci := 9) (C := RX6) (T := TX6) (N := 16) (v := .int (g 49)) hx hb hts (fun _ h => List.mem_cons_of_mem _ (wwXc_wsX60 _ h)) hown hw 25 rfl rfl 15 (by decide) (hq _ wX_431) rfl dX6_readTail_33 ?_
    refine lv_i2l hx hb dX6_readTail_36 rfl (jx_nl fun z146 hz146 => ?_)
    refine hk_lcmp_eq (tgt := 45) hx hb dX6_readTail_37 dX6_readTail_38 (by decide) (fun cc147 => ?_) (fun cc147 => ?_)
    · exact B144 ls _ _ hw (lv_sub hl [1, 0] rfl)
    · refine lv_iconst (v := 1) hx hb dX6_readTail_41 (by decide) ?_
      refine lv_goto (tgt := 46) hx hb dX6_readTail_42 (by decide) ?_
      exact B2 1 ls _ _ (ob37 (((1 : Int32)).toInt) (by decide)) hw (lv_sub hl [1, 0] rfl)

set_option maxHeartbeats 4000000 in
set_option maxRecDepth 100000 in
/-- X4_putIndex on (15, 29) -/
theorem jx_X4_putIndex_29 (l : Launch) (hlt : l.stackTraces = false) (D : va_G) (t3 : Nat × Nat × Nat) (cI cJ : ClassId) (ad : Nat → Nat) (g : Nat → Int32) (lg : Nat → Int64) (ar : Nat → Nat → Int32) (bk : Nat → Int64) (sz : Nat) (y2 : Int32) (hi_a7rm : hk_rm 5 3 (-3000) 3000 (ar 7)) : JMv l yX4_putIndex (Cond.code yX4_putIndex cX4_putIndex 5 none :: wwX) { frames := 3, cells := 1, slots := 6, locals := 66 } t3 D xw cI cJ ad [.ref (ad 15), .ref (ad 29), .int y2] (xw cI cJ ad g lg ar bk) sz 1 6 (fun g' lg' ar' bk' => hk_fr [53] g g' ∧ hk_fr [] lg lg' ∧ hk_fr [15] ar ar') (fun g' lg' ar' bk' => False) := by
  refine jx_metv (cc := cX4_putIndex) (maxL := 5) (ret := none) rfl (by decide) rfl (Nat.le_of_ble_eq_true rfl) ?_
  intro p e s m args below meth c ls Q A hx hb hml hown hts hA hZ hw hl hQ kr kt
  have hq : ∀ w ∈ wwX, w.before args s = true := fun w h => hts w (List.mem_cons_of_mem _ h)
  have hl : lv_has ls 5 [(0, .ref (ad 15)), (1, .ref (ad 29)), (2, .int y2)] := hl
  refine lv_aload_n hx hb dX4_putIndex_0 rfl (lv_at hl 1 rfl) ?_
  refine hk_get (ci := 12) (C := RX9) (T := TX9) (N := 2) (v := .int (g 53)) hx hb hts (fun _ h => List.mem_cons_of_mem _ (wwXc_wsX90 _ h)) hown hw 29 rfl rfl 1 (by decide) (hq _ wX_344) rfl dX4_putIndex_1 ?_
  refine lv_istore_n (lv' := [(3, .int (g 53)), (0, .ref (ad 15)), (1, .ref (ad 29)), (2, .int y2)]) hx hb dX4_putIndex_4 rfl hl (by decide) rfl (fun ls hl => ?_)
  refine lv_aload_n hx hb dX4_putIndex_5 rfl (lv_at hl 2 rfl) ?_
  refine lv_iconst (v := 0) hx hb dX4_putIndex_6 (by decide) ?_
  refine jx_Vv (As := [.int 0]) (rest := []) ⟨hx, hb, hml, hown, hts⟩ hZ hw hA (jx_X9_put_29 l hlt D t3 cI cJ ad g lg ar bk _ 0) (cwV 1 hts (jx_gV wwX_good wX_345 wX_112 wX_113 wX_24 wX_114) rfl rfl rfl (by decide +kernel) ⟨Nat.le_of_ble_eq_true rfl, Nat.le_of_ble_eq_true rfl⟩) 29 (ci := 12) (T := TX9) (N := 2) rfl rfl rfl hl.1 rfl (Nat.le_of_ble_eq_true rfl) dX4_putIndex_7 ⟨Nat.le_of_ble_eq_true rfl, Nat.le_of_ble_eq_true rfl⟩ (fun _ _ _ _ _ _ _ _ hp _ _ _ _ => hp.elim) (fun g6 l7 a8 b9 H locs hp10 hw => ?_)
  obtain ⟨h11, h12, h13, h14⟩ := hp10
  refine lv_aload_n hx hb dX4_putIndex_10 rfl (lv_at hl 2 rfl) ?_
  refine lv_aload_n hx hb dX4_putIndex_11 rfl (lv_at hl 1 rfl) ?_
  have e_g6_26 : g6 26 = (g 26) := (h11 26 rfl)
  refine hk_get (ci := 7) (C := RX4) (T := TX4) (N := 4) (v := .int (g 26)) hx hb hts (fun _ h => List.mem_cons_of_mem _ (wwXc_wsX40 _ h)) hown hw 15 rfl rfl 3 (by decide) (hq _ wX_339) (congrArg (fun z => some (Value.int z)) e_g6_26) dX4_putIndex_12 ?_
  refine jx_Vv (As := [.int (g 26)]) (rest := []) ⟨hx, hb, hml, hown, hts⟩ hZ hw hA (jx_X9_putNumber_29 l hlt D t3 cI cJ ad g6 l7 a8 b9 _ (g 26)) (cwV 1 hts (jx_gV wwX_good wX_346 wX_347 wX_348 wX_24 wX_349) rfl rfl rfl (by decide +kernel) ⟨Nat.le_of_ble_eq_true rfl, Nat.le_of_ble_eq_true rfl⟩) 29 (ci := 12) (T := TX9) (N := 2) rfl rfl rfl hl.1 rfl (Nat.le_of_ble_eq_true rfl) dX4_putIndex_15 ⟨Nat.le_of_ble_eq_true rfl, Nat.le_of_ble_eq_true rfl⟩ (fun _ _ _ _ _ _ _ _ hp _ _ _ _ => hp.elim) (fun g20 l21 a22 b23 H locs hp24 hw => ?_)
  obtain ⟨h25, h26, h27⟩ := hp24
  have hr28 : hk_rm 5 3 (-3000) 3000 (a22 7) := (hk_pE (P := hk_rm 5 3 (-3000) 3000) (hk_pE (P := hk_rm 5 3 (-3000) 3000) hi_a7rm (h13 7 rfl)) (h27 7 rfl))
  refine lv_iconst (v := 0) hx hb dX4_putIndex_18 (by decide) ?_
  refine lv_istore (lv' := [(4, .int 0), (3, .int (g 53)), (0, .ref (ad 15)), (1, .ref (ad 29)), (2, .int y2)]) hx hb dX4_putIndex_19 hl (by decide) rfl (fun ls hl => ?_)
  have B29 : ∀ (k33 : Nat) (x30 : Int32) (g31 : Nat → Int32) (a32 : Nat → Nat → Int32) (ls : Array Slot) (H : Heap) (locs : List Loc), 2147483648 - (x30).toInt ≤ (k33 : Int) → 0 ≤ (x30).toInt → hk_fr [53] g20 g31 → hk_fr [15] a22 a32 → hk_W D (jT cI cJ) A s H locs (xw cI cJ ad g31 l21 a32 b23) → lv_has ls 5 [(0, .ref (ad 15)), (1, .ref (ad 29)), (2, .int y2), (3, .int (g 53)), (4, .int x30)] → W p l e { frames := 3, cells := 1, slots := 6, locals := 66 } s m args below meth c H locs 0 0 Q (F0 m 21 ls []) := by
    intro k33
    induction k33 with
    | zero =>
      intro x30 g31 a32 ls H locs hrk_B29 hf_B29_0 hfr_g31 hfr_a32 hw hl
      exact False.elim (hk_no0 (0 * (x30).toInt) (ob5 ((x30).toInt) hf_B29_0 hrk_B29 (hE_rng (x30))) (by simp))
    | succ k33 ih_B29 =>
      intro x30 g31 a32 ls H locs hrk_B29 hf_B29_0 hfr_g31 hfr_a32 hw hl
      have hrk_B29 := hk_rk hrk_B29
      refine lv_iload hx hb dX4_putIndex_21 (lv_at hl 4 rfl) ?_
      refine lv_aload_n hx hb dX4_putIndex_23 rfl (lv_at hl 0 rfl) ?_
      have e_g31_26 : g31 26 = (g 26) := ((hfr_g31 26 rfl)).trans (((h25 26 rfl)).trans e_g6_26)
      refine hk_get (ci := 7) (C := RX4) (T := TX4) (N := 4) (v := .int (g 26)) hx hb hts (fun _ h => List.mem_cons_of_mem _ (wwXc_wsX40 _ h)) hown hw 15 rfl rfl 3 (by decide) (hq _ wX_339) (congrArg (fun z => some (Value.int z)) e_g31_26) dX4_putIndex_24 ?_
      refine lv_icmp_ge (tgt := 68) hx hb dX4_putIndex_27 (by decide) (fun cc34 => ?_) (fun cc34 => ?_)
      · refine lv_aload_n hx hb dX4_putIndex_68 rfl (lv_at hl 1 rfl) ?_
        refine lv_iload_n hx hb dX4_putIndex_69 rfl (lv_at hl 3 rfl) ?_
        refine jx_Vv (As := [.int (g 53)]) (rest := []) ⟨hx, hb, hml, hown, hts⟩ hZ hw hA (jx_X9_putZeros_29 l hlt D t3 cI cJ ad g31 l21 a32 b23 _ (g 53)) (cwV 1 hts (jx_gV wwX_good wX_350 wX_351 wX_352 wX_24 wX_353) rfl rfl rfl (by decide +kernel) ⟨Nat.le_of_ble_eq_true rfl, Nat.le_of_ble_eq_true rfl⟩) 29 (ci := 12) (T := TX9) (N := 2) rfl rfl rfl hl.1 rfl (Nat.le_of_ble_eq_true rfl) dX4_putIndex_70 ⟨Nat.le_of_ble_eq_true rfl, Nat.le_of_ble_eq_true rfl⟩ (fun _ _ _ _ _ _ _ _ hp _ _ _ _ => hp.elim) (fun g40 l41 a42 b43 H locs hp44 hw => ?_)
        obtain ⟨h45, h46, h47⟩ := hp44
        have hr48 : hk_rm 5 3 (-3000) 3000 (a42 7) := (hk_pE (P := hk_rm 5 3 (-3000) 3000) (hk_pE (P := hk_rm 5 3 (-3000) 3000) hr28 (hfr_a32 7 rfl)) (h47 7 rfl))
        exact kr g40 l41 a42 b43 _ _ _ _ ⟨(hk_frT (hk_frT (hk_frT h11 (by decide) h25) (by decide) hfr_g31) (by decide) h45), (hk_frT (hk_frT h12 (by decide) h26) (by decide) h46), (hk_frT (hk_frT (hk_frT h13 (by decide) h27) (by decide) hfr_a32) (by decide) h47)⟩ hw dX4_putIndex_73
      · refine lv_aload_n hx hb dX4_putIndex_30 rfl (lv_at hl 1 rfl) ?_
        refine lv_aload_n hx hb dX4_putIndex_31 rfl (lv_at hl 0 rfl) ?_
        refine lv_iload hx hb dX4_putIndex_32 (lv_at hl 4 rfl) ?_
        refine lv_iconst (v := 1) hx hb dX4_putIndex_34 (by decide) ?_
        refine jx_Vi (As := [.int x30, .int 1]) (rest := [.ref (ad 29)]) ⟨hx, hb, hml, hown, hts⟩ hZ hw hA (jx_X4_blockPart l hlt D t3 cI cJ ad g31 l21 a32 b23 _ x30 1 (hk_pE (P := hk_rm 5 3 (-3000) 3000) hr28 (hfr_a32 7 rfl))) (cwV 2 hts (jx_gV wwX_good wX_343 wX_67 wX_68 wX_69 wX_70) rfl rfl rfl (by decide +kernel) ⟨Nat.le_of_ble_eq_true rfl, Nat.le_of_ble_eq_true rfl⟩) 15 (ci := 7) (T := TX4) (N := 4) rfl rfl rfl hl.1 rfl (Nat.le_of_ble_eq_true rfl) dX4_putIndex_35 ⟨Nat.le_of_ble_eq_true rfl, Nat.le_of_ble_eq_true rfl⟩ (fun _ _ _ _ _ _ _ _ hp _ _ _ _ => hp.elim) (fun r53 g54 l55 a56 b57 H locs hp58 hw => ?_)
        obtain ⟨h59, h60, h61, h62⟩ := hp58
        have hr63 : hk_rm 5 3 (-3000) 3000 (a56 7) := (hk_pE (P := hk_rm 5 3 (-3000) 3000) (hk_pE (P := hk_rm 5 3 (-3000) 3000) hr28 (hfr_a32 7 rfl)) (h61 7 rfl))
        refine lv_aload_n hx hb dX4_putIndex_38 rfl (lv_at hl 0 rfl) ?_
        refine lv_iload hx hb dX4_putIndex_39 (lv_at hl 4 rfl) ?_
        refine lv_iconst (v := 2) hx hb dX4_putIndex_41 (by decide) ?_
        refine jx_Vi (As := [.int x30, .int 2]) (rest := [.int r53, .ref (ad 29)]) ⟨hx, hb, hml, hown, hts⟩ hZ hw hA (jx_X4_blockPart l hlt D t3 cI cJ ad g54 l55 a56 b57 _ x30 2 hr63) (cwV 2 hts (jx_gV wwX_good wX_343 wX_67 wX_68 wX_69 wX_70) rfl rfl rfl (by decide +kernel) ⟨Nat.le_of_ble_eq_true rfl, Nat.le_of_ble_eq_true rfl⟩) 15 (ci := 7) (T := TX4) (N := 4) rfl rfl rfl hl.1 rfl (Nat.le_of_ble_eq_true rfl) dX4_putIndex_42 ⟨Nat.le_of_ble_eq_true rfl, Nat.le_of_ble_eq_true rfl⟩ (fun _ _ _ _ _ _ _ _ hp _ _ _ _ => hp.elim) (fun r68 g69 l70 a71 b72 H locs hp73 hw => ?_)
        obtain ⟨h74, h75, h76, h77⟩ := hp73
        refine lv_iadd hx hb dX4_putIndex_45 (jx_nm fun z78 hz78 => ?_)
        refine lv_iload_n hx hb dX4_putIndex_46 rfl (lv_at hl 2 rfl) ?_
        refine lv_iadd hx hb dX4_putIndex_47 (jx_nm fun z79 hz79 => ?_)
        refine jx_Vv (As := [.int z79]) (rest := []) ⟨hx, hb, hml, hown, hts⟩ hZ hw hA (jx_X9_putNumber_29 l hlt D t3 cI cJ ad g69 l70 a71 b72 _ z79) (cwV 1 hts (jx_gV wwX_good wX_346 wX_347 wX_348 wX_24 wX_349) rfl rfl rfl (by decide +kernel) ⟨Nat.le_of_ble_eq_true rfl, Nat.le_of_ble_eq_true rfl⟩) 29 (ci := 12) (T := TX9) (N := 2) rfl rfl rfl hl.1 rfl (Nat.le_of_ble_eq_true rfl) dX4_putIndex_48 ⟨Nat.le_of_ble_eq_true rfl, Nat.le_of_ble_eq_true rfl⟩ (fun _ _ _ _ _ _ _ _ hp _ _ _ _ => hp.elim) (fun g85 l86 a87 b88 H locs hp89 hw => ?_)
        obtain ⟨h90, h91, h92⟩ := hp89
        have hr93 : hk_rm 5 3 (-3000) 3000 (a87 7) := (hk_pE (P := hk_rm 5 3 (-3000) 3000) (hk_pE (P := hk_rm 5 3 (-3000) 3000) hr63 (h76 7 rfl)) (h92 7 rfl))
        refine lv_aload_n hx hb dX4_putIndex_51 rfl (lv_at hl 1 rfl) ?_
        refine lv_aload_n hx hb dX4_putIndex_52 rfl (lv_at hl 0 rfl) ?_
        refine lv_iload hx hb dX4_putIndex_53 (lv_at hl 4 rfl) ?_
        refine lv_iconst (v := 3) hx hb dX4_putIndex_55 (by decide) ?_
        refine jx_Vi (As := [.int x30, .int 3]) (rest := [.ref (ad 29)]) ⟨hx, hb, hml, hown, hts⟩ hZ hw hA (jx_X4_blockPart l hlt D t3 cI cJ ad g85 l86 a87 b88 _ x30 3 hr93) (cwV 2 hts (jx_gV wwX_good wX_343 wX_67 wX_68 wX_69 wX_70) rfl rfl rfl (by decide +kernel) ⟨Nat.le_of_ble_eq_true rfl, Nat.le_of_ble_eq_true rfl⟩) 15 (ci := 7) (T := TX4) (N := 4) rfl rfl rfl hl.1 rfl (Nat.le_of_ble_eq_true rfl) dX4_putIndex_56 ⟨Nat.le_of_ble_eq_true rfl, Nat.le_of_ble_eq_true rfl⟩ (fun _ _ _ _ _ _ _ _ hp _ _ _ _ => hp.elim) (fun r98 g99 l100 a101 b102 H locs hp103 hw => ?_)
        obtain ⟨h104, h105, h106, h107⟩ := hp103
        refine jx_Vv (As := [.int r98]) (rest := []) ⟨hx, hb, hml, hown, hts⟩ hZ hw hA (jx_X9_putNumber_29 l hlt D t3 cI cJ ad g99 l100 a101 b102 _ r98) (cwV 1 hts (jx_gV wwX_good wX_346 wX_347 wX_348 wX_24 wX_349) rfl rfl rfl (by decide +kernel) ⟨Nat.le_of_ble_eq_true rfl, Nat.le_of_ble_eq_true rfl⟩) 29 (ci := 12) (T := TX9) (N := 2) rfl rfl rfl hl.1 rfl (Nat.le_of_ble_eq_true rfl) dX4_putIndex_59 ⟨Nat.le_of_ble_eq_true rfl, Nat.le_of_ble_eq_true rfl⟩ (fun _ _ _ _ _ _ _ _ hp _ _ _ _ => hp.elim) (fun g113 l114 a115 b116 H locs hp117 hw => ?_)
        obtain ⟨h118, h119, h120⟩ := hp117
        have hr121 : hk_rm 5 3 (-3000) 3000 (a115 7) := (hk_pE (P := hk_rm 5 3 (-3000) 3000) (hk_pE (P := hk_rm 5 3 (-3000) 3000) hr93 (h106 7 rfl)) (h120 7 rfl))
        obtain ⟨z122, hz122⟩ : ∃ z : Int32, x30 + 1 = z := ⟨_, rfl⟩
        refine lv_iinc (v := z122) (lv' := [(4, .int z122), (0, .ref (ad 15)), (1, .ref (ad 29)), (2, .int y2), (3, .int (g 53))]) hx hb dX4_putIndex_62 hl (k := 4) rfl hz122 (by decide) rfl (fun ls hl => ?_)
        refine lv_goto (tgt := 21) hx hb dX4_putIndex_65 (by decide) ?_
        exact ih_B29 z122 g113 a115 ls _ _ (ob313 ((z122).toInt) (k33 : Int) ((x30).toInt) (((1 : Int32)).toInt) ((g 26).toInt) ((r53).toInt) ((g6 26).toInt) ((g31 26).toInt) ((z78).toInt) ((r68).toInt) (((2 : Int32)).toInt) ((z79).toInt) ((y2).toInt) hrk_B29 (hE_add hz122) hf_B29_0 (hE_nle cc34) h62 (congrArg Int32.toInt e_g6_26) (congrArg Int32.toInt e_g31_26) (hE_add hz78) h77 (hE_add hz79) (hE_rng (z122)) (hE_rng (x30)) (by decide) (hE_rng (g 26)) (hE_rng (r53)) (hE_rng (g6 26)) (hE_rng (g31 26)) (hE_rng (z78)) (hE_rng (r68)) (by decide) (hE_rng (z79)) (hE_rng (y2))) (ob314 ((z122).toInt) ((x30).toInt) (((1 : Int32)).toInt) (k33 : Int) ((g 26).toInt) ((r53).toInt) ((g6 26).toInt) ((g31 26).toInt) ((z78).toInt) ((r68).toInt) (((2 : Int32)).toInt) ((z79).toInt) ((y2).toInt) (hE_add hz122) hf_B29_0 hrk_B29 (hE_nle cc34) h62 (congrArg Int32.toInt e_g6_26) (congrArg Int32.toInt e_g31_26) (hE_add hz78) h77 (hE_add hz79) (hE_rng (z122)) (hE_rng (x30)) (by decide) (hE_rng (g 26)) (hE_rng (r53)) (hE_rng (g6 26)) (hE_rng (g31 26)) (hE_rng (z78)) (hE_rng (r68)) (by decide) (hE_rng (z79)) (hE_rng (y2))) (hk_frT (hk_frT (hk_frT (hk_frT (hk_frT hfr_g31 (by decide) h59) (by decide) h74) (by decide) h90) (by decide) h104) (by decide) h118) (hk_frT (hk_frT (hk_frT (hk_frT (hk_frT hfr_a32 (by decide) h61) (by decide) h76) (by decide) h92) (by decide) h106) (by decide) h120) hw (lv_sub hl [1, 2, 3, 4, 0] rfl)
  exact B29 (2147483648 - ((0 : Int32)).toInt).toNat 0 g20 a22 ls _ _ (Int.self_le_toNat _) (ob10 (((0 : Int32)).toInt) (by decide)) hk_fr0 hk_fr0 hw (lv_sub hl [2, 3, 4, 1, 0] rfl)

set_option maxHeartbeats 4000000 in
set_option maxRecDepth 100000 in
/-- X0_crc32 on (29,) -/
theorem jx_X0_crc32_29 (l : Launch) (hlt : l.stackTraces = false) (D : va_G) (t3 : Nat × Nat × Nat) (cI cJ : ClassId) (ad : Nat → Nat) (g : Nat → Int32) (lg : Nat → Int64) (ar : Nat → Nat → Int32) (bk : Nat → Int64) (sz : Nat) (y1 : Int32) (y2 : Int32) : JMi l yX0_crc32 (Cond.code yX0_crc32 cX0_crc32 6 (some .int) :: wwX) { frames := 1, cells := 1, slots := 6, locals := 21 } t3 D xw cI cJ ad [.ref (ad 29), .int y1, .int y2] (xw cI cJ ad g lg ar bk) sz 1 6 (fun (r : Int32) g' lg' ar' bk' => hk_fr [] g g' ∧ hk_fr [] lg lg' ∧ hk_fr [] ar ar') (fun g' lg' ar' bk' => False) := by
  refine jx_meti (cc := cX0_crc32) (maxL := 6) (ret := (some .int)) rfl (by decide) rfl (Nat.le_of_ble_eq_true rfl) ?_
  intro p e s m args below meth c ls Q A hx hb hml hown hts hA hZ hw hl hQ kr kt
  have hq : ∀ w ∈ wwX, w.before args s = true := fun w h => hts w (List.mem_cons_of_mem _ h)
  have hl : lv_has ls 6 [(0, .ref (ad 29)), (1, .int y1), (2, .int y2)] := hl
  refine lv_iconst (v := (-1)) hx hb dX0_crc32_0 (by decide) ?_
  refine lv_istore_n (lv' := [(3, .int (-1)), (0, .ref (ad 29)), (1, .int y1), (2, .int y2)]) hx hb dX0_crc32_1 rfl hl (by decide) rfl (fun ls hl => ?_)
  refine lv_iload_n hx hb dX0_crc32_2 rfl (lv_at hl 2 rfl) ?_
  refine lv_istore (lv' := [(4, .int y1), (3, .int (-1)), (0, .ref (ad 29)), (1, .int y1), (2, .int y2)]) hx hb dX0_crc32_3 hl (by decide) rfl (fun ls hl => ?_)
  have B1 : ∀ (k4 : Nat) (x2 : Int32) (x3 : Int32) (ls : Array Slot) (H : Heap) (locs : List Loc), 2147483648 - (x3).toInt ≤ (k4 : Int) → hk_W D (jT cI cJ) A s H locs (xw cI cJ ad g lg ar bk) → lv_has ls 6 [(0, .ref (ad 29)), (2, .int y2), (3, .int x2), (4, .int x3)] → W p l e { frames := 1, cells := 1, slots := 6, locals := 21 } s m args below meth c H locs 0 0 Q (F0 m 5 ls []) := by
    intro k4
    induction k4 with
    | zero =>
      intro x2 x3 ls H locs hrk_B1 hw hl
      exact False.elim (hk_no0 (0 * (x3).toInt) (ob274 ((x3).toInt) hrk_B1 (hE_rng (x3))) (by simp))
    | succ k4 ih_B1 =>
      intro x2 x3 ls H locs hrk_B1 hw hl
      have hrk_B1 := hk_rk hrk_B1
      refine lv_iload hx hb dX0_crc32_5 (lv_at hl 3 rfl) ?_
      refine lv_iload_n hx hb dX0_crc32_7 rfl (lv_at hl 1 rfl) ?_
      refine lv_icmp_ge (tgt := 54) hx hb dX0_crc32_8 (by decide) (fun cc5 => ?_) (fun cc5 => ?_)
      · refine lv_iload_n hx hb dX0_crc32_54 rfl (lv_at hl 2 rfl) ?_
        refine lv_iconst (v := (-1)) hx hb dX0_crc32_55 (by decide) ?_
        refine lv_ixor hx hb dX0_crc32_56 (jx_nm fun z6 hz6 => ?_)
        exact kr z6 g lg ar bk _ _ _ _ ⟨hk_fr0, hk_fr0, hk_fr0⟩ hw dX0_crc32_57
      · refine lv_iload_n hx hb dX0_crc32_11 rfl (lv_at hl 2 rfl) ?_
        refine lv_aload_n hx hb dX0_crc32_12 rfl (lv_at hl 0 rfl) ?_
        refine lv_iload hx hb dX0_crc32_13 (lv_at hl 3 rfl) ?_
        refine jx_Vi (As := [.int x3]) (rest := [.int x2]) ⟨hx, hb, hml, hown, hts⟩ hZ hw hA (jx_X9_get_29 l hlt D t3 cI cJ ad g lg ar bk _ x3) (cwV 1 hts (jx_gV wwX_good wX_21 wX_22 wX_23 wX_24 wX_25) rfl rfl rfl (by decide +kernel) ⟨Nat.le_of_ble_eq_true rfl, Nat.le_of_ble_eq_true rfl⟩) 29 (ci := 12) (T := TX9) (N := 2) rfl rfl rfl hl.1 rfl (Nat.le_of_ble_eq_true rfl) dX0_crc32_15 ⟨Nat.le_of_ble_eq_true rfl, Nat.le_of_ble_eq_true rfl⟩ (fun _ _ _ _ _ _ _ _ hp _ _ _ _ => hp.elim) (fun r11 g12 l13 a14 b15 H locs hp16 hw => ?_)
        obtain ⟨h17, h18, h19⟩ := hp16
        refine lv_ixor hx hb dX0_crc32_18 (jx_nm fun z20 hz20 => ?_)
        refine lv_istore_n (lv' := [(3, .int z20), (0, .ref (ad 29)), (2, .int y2), (4, .int x3)]) hx hb dX0_crc32_19 rfl hl (by decide) rfl (fun ls hl => ?_)
        refine lv_iconst (v := 0) hx hb dX0_crc32_20 (by decide) ?_
        refine lv_istore (lv' := [(5, .int 0), (3, .int z20), (0, .ref (ad 29)), (2, .int y2), (4, .int x3)]) hx hb dX0_crc32_21 hl (by decide) rfl (fun ls hl => ?_)
        have B21 : ∀ (k24 : Nat) (x22 : Int32) (x23 : Int32) (ls : Array Slot) (H : Heap) (locs : List Loc), 2147483648 - (x23).toInt ≤ (k24 : Int) → 0 ≤ (x23).toInt → hk_W D (jT cI cJ) A s H locs (xw cI cJ ad g12 l13 a14 b15) → lv_has ls 6 [(0, .ref (ad 29)), (2, .int y2), (3, .int x22), (4, .int x3), (5, .int x23)] → W p l e { frames := 1, cells := 1, slots := 6, locals := 21 } s m args below meth c H locs 0 0 Q (F0 m 23 ls []) := by
          intro k24
          induction k24 with
          | zero =>
            intro x22 x23 ls H locs hrk_B21 hf_B21_0 hw hl
            exact False.elim (hk_no0 (0 * (x23).toInt) (ob5 ((x23).toInt) hf_B21_0 hrk_B21 (hE_rng (x23))) (by simp))
          | succ k24 ih_B21 =>
            intro x22 x23 ls H locs hrk_B21 hf_B21_0 hw hl
            have hrk_B21 := hk_rk hrk_B21
            refine lv_iload hx hb dX0_crc32_23 (lv_at hl 4 rfl) ?_
            refine lv_bipush (v := 8) hx hb dX0_crc32_25 (by decide) ?_
            refine lv_icmp_ge (tgt := 48) hx hb dX0_crc32_27 (by decide) (fun cc25 => ?_) (fun cc25 => ?_)
            · obtain ⟨z26, hz26⟩ : ∃ z : Int32, x3 + 1 = z := ⟨_, rfl⟩
              refine lv_iinc (v := z26) (lv' := [(4, .int z26), (0, .ref (ad 29)), (2, .int y2), (3, .int x22), (5, .int x23)]) hx hb dX0_crc32_48 hl (k := 3) rfl hz26 (by decide) rfl (fun ls hl => ?_)
              refine lv_goto (tgt := 5) hx hb dX0_crc32_51 (by decide) ?_
              exact ih_B1 x22 z26 ls _ _ (ob291 ((z26).toInt) (k4 : Int) ((x3).toInt) (((1 : Int32)).toInt) ((y2).toInt) hrk_B1 (hE_add hz26) (hE_nle cc5) (hE_rng (z26)) (hE_rng (x3)) (by decide) (hE_rng (y2))) hw (lv_sub hl [1, 2, 3, 0] rfl)
            · refine lv_iload_n hx hb dX0_crc32_30 rfl (lv_at hl 2 rfl) ?_
              refine lv_iconst (v := 1) hx hb dX0_crc32_31 (by decide) ?_
              refine lv_iushr hx hb dX0_crc32_32 rfl (jx_nm fun z27 hz27 => ?_)
              refine lv_ldc (v := (-306674912)) hx hb hown (hq _ wX_26) dX0_crc32_33 ?_
              refine lv_iload_n hx hb dX0_crc32_35 rfl (lv_at hl 2 rfl) ?_
              refine lv_iconst (v := 1) hx hb dX0_crc32_36 (by decide) ?_
              refine lv_iand hx hb dX0_crc32_37 (jx_nm fun z28 hz28 => ?_)
              refine lv_ineg hx hb dX0_crc32_38 (jx_nm fun z29 hz29 => ?_)
              refine lv_iand hx hb dX0_crc32_39 (jx_nm fun z30 hz30 => ?_)
              refine lv_ixor hx hb dX0_crc32_40 (jx_nm fun z31 hz31 => ?_)
              refine lv_istore_n (lv' := [(3, .int z31), (0, .ref (ad 29)), (2, .int y2), (4, .int x3), (5, .int x23)]) hx hb dX0_crc32_41 rfl hl (by decide) rfl (fun ls hl => ?_)
              obtain ⟨z32, hz32⟩ : ∃ z : Int32, x23 + 1 = z := ⟨_, rfl⟩
              refine lv_iinc (v := z32) (lv' := [(5, .int z32), (3, .int z31), (0, .ref (ad 29)), (2, .int y2), (4, .int x3)]) hx hb dX0_crc32_42 hl (k := 4) rfl hz32 (by decide) rfl (fun ls hl => ?_)
              refine lv_goto (tgt := 23) hx hb dX0_crc32_45 (by decide) ?_
              exact ih_B21 z31 z32 ls _ _ (ob154 ((z32).toInt) (k24 : Int) ((x23).toInt) (((1 : Int32)).toInt) (((8 : Int32)).toInt) hrk_B21 (hE_add hz32) hf_B21_0 (hE_nle cc25) (hE_rng (z32)) (hE_rng (x23)) (by decide) (by decide)) (ob155 ((z32).toInt) ((x23).toInt) (((1 : Int32)).toInt) (k24 : Int) (((8 : Int32)).toInt) (hE_add hz32) hf_B21_0 hrk_B21 (hE_nle cc25) (hE_rng (z32)) (hE_rng (x23)) (by decide) (by decide)) hw (lv_sub hl [2, 3, 1, 4, 0] rfl)
        exact B21 (2147483648 - ((0 : Int32)).toInt).toNat z20 0 ls _ _ (Int.self_le_toNat _) (ob10 (((0 : Int32)).toInt) (by decide)) hw (lv_sub hl [2, 3, 1, 4, 0] rfl)
  exact B1 (2147483648 - (y1).toInt).toNat (-1) y1 ls _ _ (Int.self_le_toNat _) hw (lv_sub hl [2, 4, 1, 0] rfl)

set_option maxHeartbeats 4000000 in
set_option maxRecDepth 100000 in
/-- X6_readIndex on (25,) -/
theorem jx_X6_readIndex (l : Launch) (hlt : l.stackTraces = false) (D : va_G) (t3 : Nat × Nat × Nat) (cI cJ : ClassId) (ad : Nat → Nat) (g : Nat → Int32) (lg : Nat → Int64) (ar : Nat → Nat → Int32) (bk : Nat → Int64) (sz : Nat) (hi_a7rm : hk_rm 5 3 (-3000) 3000 (ar 7)) (hi_a0rg : hk_rg 0 255 (ar 0)) : JMv l yX6_readIndex (Cond.code yX6_readIndex cX6_readIndex 2 none :: wwX) { frames := 8, cells := 1, slots := 6, locals := 126 } t3 D xw cI cJ ad [.ref (ad 25)] (xw cI cJ ad g lg ar bk) sz 1 6 (fun g' lg' ar' bk' => hk_fr [15, 17, 53] g g' ∧ hk_fr [] lg lg' ∧ hk_fr [15] ar ar') (fun g' lg' ar' bk' => hk_fr [15, 17, 53] g g' ∧ hk_fr [] lg lg' ∧ hk_fr [15] ar ar') := by
  refine jx_metv (cc := cX6_readIndex) (maxL := 2) (ret := none) rfl (by decide) rfl (Nat.le_of_ble_eq_true rfl) ?_
  intro p e s m args below meth c ls Q A hx hb hml hown hts hA hZ hw hl hQ kr kt
  have hq : ∀ w ∈ wwX, w.before args s = true := fun w h => hts w (List.mem_cons_of_mem _ h)
  have hl : lv_has ls 2 [(0, .ref (ad 25))] := hl
  refine lv_aload_n hx hb dX6_readIndex_0 rfl (lv_at hl 0 rfl) ?_
  refine hk_get (ci := 9) (C := RX6) (T := TX6) (N := 16) (v := .ref (ad 29)) hx hb hts (fun _ h => List.mem_cons_of_mem _ (wwXc_wsX60 _ h)) hown hw 25 rfl rfl 6 (by decide) (hq _ wX_523) rfl dX6_readIndex_1 ?_
  refine lv_iconst (v := 0) hx hb dX6_readIndex_4 (by decide) ?_
  refine jx_putg xw (g := g) (lg := lg) (ar := ar) (bk := bk) (x := 0) 53 (ci := 12) (C := RX9) (T := TX9) (N := 2) (ty := .int) hx hb hts (fun _ h => List.mem_cons_of_mem _ (wwXc_wsX90 _ h)) tyX9 tyX9_ok nmX9 hown hw 29 rfl rfl 1 (by decide) (hq _ wX_402) rfl (by decide +kernel) rfl rfl (Nat.le_of_ble_eq_true rfl) dX6_readIndex_5 rfl (fun H locs g1 h_g1 hw => ?_)
  refine lv_aload_n hx hb dX6_readIndex_8 rfl (lv_at hl 0 rfl) ?_
  refine hk_get (ci := 9) (C := RX6) (T := TX6) (N := 16) (v := .ref (ad 15)) hx hb hts (fun _ h => List.mem_cons_of_mem _ (wwXc_wsX60 _ h)) hown hw 25 rfl rfl 4 (by decide) (hq _ wX_411) rfl dX6_readIndex_9 ?_
  refine lv_aload_n hx hb dX6_readIndex_12 rfl (lv_at hl 0 rfl) ?_
  refine hk_get (ci := 9) (C := RX6) (T := TX6) (N := 16) (v := .ref (ad 29)) hx hb hts (fun _ h => List.mem_cons_of_mem _ (wwXc_wsX60 _ h)) hown hw 25 rfl rfl 6 (by decide) (hq _ wX_523) rfl dX6_readIndex_13 ?_
  refine lv_aload_n hx hb dX6_readIndex_16 rfl (lv_at hl 0 rfl) ?_
  have e_g1_44 : g1 44 = (g 44) := (hk_upgN h_g1 44 rfl)
  refine hk_get (ci := 9) (C := RX6) (T := TX6) (N := 16) (v := .int (g 44)) hx hb hts (fun _ h => List.mem_cons_of_mem _ (wwXc_wsX60 _ h)) hown hw 25 rfl rfl 10 (by decide) (hq _ wX_524) (congrArg (fun z => some (Value.int z)) e_g1_44) dX6_readIndex_17 ?_
  refine jx_Si (As := [.int (g 44)]) (rest := [.ref (ad 29), .ref (ad 15)]) ⟨hx, hb, hml, hown, hts⟩ hZ hw hA (jx_X0_bytesOf l hlt D t3 cI cJ ad g1 lg ar bk _ (g 44)) (va_cwS 1 hts (jx_gS wwX_good wX_542 wX_73 wX_12 wX_74) rfl rfl rfl (by decide +kernel) ⟨Nat.le_of_ble_eq_true rfl, Nat.le_of_ble_eq_true rfl⟩) rfl hl.1 rfl (Nat.le_of_ble_eq_true rfl) dX6_readIndex_20 ⟨Nat.le_of_ble_eq_true rfl, Nat.le_of_ble_eq_true rfl⟩ (fun _ _ _ _ _ _ _ _ hp _ _ _ _ => hp.elim) (fun r6 g7 l8 a9 b10 H locs hp11 hw => ?_)
  obtain ⟨h12, h13, h14, h15⟩ := hp11
  refine jx_Vv (As := [.ref (ad 29), .int r6]) (rest := []) ⟨hx, hb, hml, hown, hts⟩ hZ hw hA (jx_X4_putIndex_29 l hlt D t3 cI cJ ad g7 l8 a9 b10 _ r6 (hk_pE (P := hk_rm 5 3 (-3000) 3000) hi_a7rm (h14 7 rfl))) (cwV 2 hts (jx_gV wwX_good wX_543 wX_544 wX_545 wX_69 wX_546) rfl rfl rfl (by decide +kernel) ⟨Nat.le_of_ble_eq_true rfl, Nat.le_of_ble_eq_true rfl⟩) 15 (ci := 7) (T := TX4) (N := 4) rfl rfl rfl hl.1 rfl (Nat.le_of_ble_eq_true rfl) dX6_readIndex_23 ⟨Nat.le_of_ble_eq_true rfl, Nat.le_of_ble_eq_true rfl⟩ (fun _ _ _ _ _ _ _ _ hp _ _ _ _ => hp.elim) (fun g21 l22 a23 b24 H locs hp25 hw => ?_)
  obtain ⟨h26, h27, h28⟩ := hp25
  have hr29 : hk_rm 5 3 (-3000) 3000 (a23 7) := (hk_pE (P := hk_rm 5 3 (-3000) 3000) (hk_pE (P := hk_rm 5 3 (-3000) 3000) hi_a7rm (h14 7 rfl)) (h28 7 rfl))
  have hr30 : hk_rg 0 255 (a23 0) := (hk_pE (P := hk_rg 0 255) (hk_pE (P := hk_rg 0 255) hi_a0rg (h14 0 rfl)) (h28 0 rfl))
  refine lv_iconst (v := 1) hx hb dX6_readIndex_26 (by decide) ?_
  refine lv_istore_n (lv' := [(1, .int 1), (0, .ref (ad 25))]) hx hb dX6_readIndex_27 rfl hl (by decide) rfl (fun ls hl => ?_)
  have B31 : ∀ (k34 : Nat) (x32 : Int32) (g33 : Nat → Int32) (ls : Array Slot) (H : Heap) (locs : List Loc), 2147483648 - (x32).toInt ≤ (k34 : Int) → 1 ≤ (x32).toInt → hk_fr [15, 17] g21 g33 → hk_W D (jT cI cJ) A s H locs (xw cI cJ ad g33 l22 a23 b24) → lv_has ls 2 [(0, .ref (ad 25)), (1, .int x32)] → W p l e { frames := 8, cells := 1, slots := 6, locals := 126 } s m args below meth c H locs 0 0 Q (F0 m 28 ls []) := by
    intro k34
    induction k34 with
    | zero =>
      intro x32 g33 ls H locs hrk_B31 hf_B31_0 hfr_g33 hw hl
      exact False.elim (hk_no0 (0 * (x32).toInt) (ob372 ((x32).toInt) hf_B31_0 hrk_B31 (hE_rng (x32))) (by simp))
    | succ k34 ih_B31 =>
      intro x32 g33 ls H locs hrk_B31 hf_B31_0 hfr_g33 hw hl
      have hrk_B31 := hk_rk hrk_B31
      refine lv_iload_n hx hb dX6_readIndex_28 rfl (lv_at hl 1 rfl) ?_
      refine lv_aload_n hx hb dX6_readIndex_29 rfl (lv_at hl 0 rfl) ?_
      refine hk_get (ci := 9) (C := RX6) (T := TX6) (N := 16) (v := .ref (ad 29)) hx hb hts (fun _ h => List.mem_cons_of_mem _ (wwXc_wsX60 _ h)) hown hw 25 rfl rfl 6 (by decide) (hq _ wX_523) rfl dX6_readIndex_30 ?_
      have e_g33_53 : g33 53 = (g21 53) := (hfr_g33 53 rfl)
      refine hk_get (ci := 12) (C := RX9) (T := TX9) (N := 2) (v := .int (g21 53)) hx hb hts (fun _ h => List.mem_cons_of_mem _ (wwXc_wsX90 _ h)) hown hw 29 rfl rfl 1 (by decide) (hq _ wX_402) (congrArg (fun z => some (Value.int z)) e_g33_53) dX6_readIndex_33 ?_
      refine lv_icmp_ge (tgt := 59) hx hb dX6_readIndex_36 (by decide) (fun cc35 => ?_) (fun cc35 => ?_)
      · refine lv_aload_n hx hb dX6_readIndex_59 rfl (lv_at hl 0 rfl) ?_
        refine hk_get (ci := 9) (C := RX6) (T := TX6) (N := 16) (v := .ref (ad 6)) hx hb hts (fun _ h => List.mem_cons_of_mem _ (wwXc_wsX60 _ h)) hown hw 25 rfl rfl 0 (by decide) (hq _ wX_399) rfl dX6_readIndex_60 ?_
        refine lv_iconst (v := 4) hx hb dX6_readIndex_63 (by decide) ?_
        refine jx_Vl (As := [.int 4]) (rest := []) ⟨hx, hb, hml, hown, hts⟩ hZ hw hA (jx_X8_low l hlt D t3 cI cJ ad g33 l22 a23 b24 _ 4 hr30) (cwV 1 hts (jx_gV wwX_good wX_443 wX_330 wX_331 wX_252 wX_332) rfl rfl rfl (by decide +kernel) ⟨Nat.le_of_ble_eq_true rfl, Nat.le_of_ble_eq_true rfl⟩) 6 (ci := 11) (T := TX8) (N := 4) rfl rfl rfl hl.1 rfl (Nat.le_of_ble_eq_true rfl) dX6_readIndex_64 ⟨Nat.le_of_ble_eq_true rfl, Nat.le_of_ble_eq_true rfl⟩ (fun u36 u37 u38 u39 H locs ce q hp hw h1 h2 h3 => by obtain ⟨ht0, ht1, ht2⟩ := hp; exact kt _ _ _ _ _ _ _ _ _ _ _ ⟨(hk_frT (hk_frT (hk_frT (hk_frT (hk_frG hk_fr0 (by decide) h_g1) (by decide) h12) (by decide) h26) (by decide) hfr_g33) (by decide) ht0), (hk_frT (hk_frT h13 (by decide) h27) (by decide) ht1), (hk_frT (hk_frT (hk_frT hk_fr0 (by decide) h14) (by decide) h28) (by decide) ht2)⟩ hw h1 h2 h3) (fun r40 g41 l42 a43 b44 H locs hp45 hw => ?_)
        obtain ⟨h46, h47, h48⟩ := hp45
        refine lv_l2i hx hb dX6_readIndex_67 rfl (jx_nm fun z49 hz49 => ?_)
        refine lv_aload_n hx hb dX6_readIndex_68 rfl (lv_at hl 0 rfl) ?_
        refine hk_get (ci := 9) (C := RX6) (T := TX6) (N := 16) (v := .ref (ad 29)) hx hb hts (fun _ h => List.mem_cons_of_mem _ (wwXc_wsX60 _ h)) hown hw 25 rfl rfl 6 (by decide) (hq _ wX_523) rfl dX6_readIndex_69 ?_
        refine lv_iconst (v := 0) hx hb dX6_readIndex_72 (by decide) ?_
        refine lv_aload_n hx hb dX6_readIndex_73 rfl (lv_at hl 0 rfl) ?_
        refine hk_get (ci := 9) (C := RX6) (T := TX6) (N := 16) (v := .ref (ad 29)) hx hb hts (fun _ h => List.mem_cons_of_mem _ (wwXc_wsX60 _ h)) hown hw 25 rfl rfl 6 (by decide) (hq _ wX_523) rfl dX6_readIndex_74 ?_
        have e_g41_53 : g41 53 = (g21 53) := ((h46 53 rfl)).trans e_g33_53
        refine hk_get (ci := 12) (C := RX9) (T := TX9) (N := 2) (v := .int (g21 53)) hx hb hts (fun _ h => List.mem_cons_of_mem _ (wwXc_wsX90 _ h)) hown hw 29 rfl rfl 1 (by decide) (hq _ wX_402) (congrArg (fun z => some (Value.int z)) e_g41_53) dX6_readIndex_77 ?_
        refine jx_Si (As := [.ref (ad 29), .int 0, .int (g21 53)]) (rest := [.int z49]) ⟨hx, hb, hml, hown, hts⟩ hZ hw hA (jx_X0_crc32_29 l hlt D t3 cI cJ ad g41 l42 a43 b44 _ 0 (g21 53)) (va_cwS 3 hts (jx_gS wwX_good wX_522 wX_11 wX_12 wX_13) rfl rfl rfl (by decide +kernel) ⟨Nat.le_of_ble_eq_true rfl, Nat.le_of_ble_eq_true rfl⟩) rfl hl.1 rfl (Nat.le_of_ble_eq_true rfl) dX6_readIndex_80 ⟨Nat.le_of_ble_eq_true rfl, Nat.le_of_ble_eq_true rfl⟩ (fun _ _ _ _ _ _ _ _ hp _ _ _ _ => hp.elim) (fun r54 g55 l56 a57 b58 H locs hp59 hw => ?_)
        obtain ⟨h60, h61, h62⟩ := hp59
        have hr63 : hk_rm 5 3 (-3000) 3000 (a57 7) := (hk_pE (P := hk_rm 5 3 (-3000) 3000) (hk_pE (P := hk_rm 5 3 (-3000) 3000) hr29 (h48 7 rfl)) (h62 7 rfl))
        have hr64 : hk_rg 0 255 (a57 0) := (hk_pE (P := hk_rg 0 255) (hk_pE (P := hk_rg 0 255) hr30 (h48 0 rfl)) (h62 0 rfl))
        refine lv_icmp_eq (tgt := 95) hx hb dX6_readIndex_83 (by decide) (fun cc65 => ?_) (fun cc65 => ?_)
        · exact kr g55 l56 a57 b58 _ _ _ _ ⟨(hk_frT (hk_frT (hk_frT (hk_frT (hk_frT (hk_frG hk_fr0 (by decide) h_g1) (by decide) h12) (by decide) h26) (by decide) hfr_g33) (by decide) h46) (by decide) h60), (hk_frT (hk_frT (hk_frT h13 (by decide) h27) (by decide) h47) (by decide) h61), (hk_frT (hk_frT (hk_frT (hk_frT hk_fr0 (by decide) h14) (by decide) h28) (by decide) h48) (by decide) h62)⟩ hw dX6_readIndex_95
        · refine lv_aload_n hx hb dX6_readIndex_86 rfl (lv_at hl 0 rfl) ?_
          refine hk_get (ci := 9) (C := RX6) (T := TX6) (N := 16) (v := .ref (ad 6)) hx hb hts (fun _ h => List.mem_cons_of_mem _ (wwXc_wsX60 _ h)) hown hw 25 rfl rfl 0 (by decide) (hq _ wX_399) rfl dX6_readIndex_87 ?_
          refine lv_bipush (v := 9) hx hb dX6_readIndex_90 (by decide) ?_
          refine jx_Vv (As := [.int 9]) (rest := []) ⟨hx, hb, hml, hown, hts⟩ hZ hw hA (jx_X8_fail l hlt D t3 cI cJ ad g55 l56 a57 b58 _ 9) (cwV 1 hts (jx_gV wwX_good wX_403 wX_255 wX_256 wX_252 wX_257) rfl rfl rfl (by decide +kernel) ⟨Nat.le_of_ble_eq_true rfl, Nat.le_of_ble_eq_true rfl⟩) 6 (ci := 11) (T := TX8) (N := 4) rfl rfl rfl hl.1 rfl (Nat.le_of_ble_eq_true rfl) dX6_readIndex_92 ⟨Nat.le_of_ble_eq_true rfl, Nat.le_of_ble_eq_true rfl⟩ (fun u66 u67 u68 u69 H locs ce q hp hw h1 h2 h3 => by obtain ⟨ht0, ht1, ht2⟩ := hp; exact kt _ _ _ _ _ _ _ _ _ _ _ ⟨(hk_frT (hk_frT (hk_frT (hk_frT (hk_frT (hk_frT (hk_frG hk_fr0 (by decide) h_g1) (by decide) h12) (by decide) h26) (by decide) hfr_g33) (by decide) h46) (by decide) h60) (by decide) ht0), (hk_frT (hk_frT (hk_frT (hk_frT h13 (by decide) h27) (by decide) h47) (by decide) h61) (by decide) ht1), (hk_frT (hk_frT (hk_frT (hk_frT (hk_frT hk_fr0 (by decide) h14) (by decide) h28) (by decide) h48) (by decide) h62) (by decide) ht2)⟩ hw h1 h2 h3) (fun g71 l72 a73 b74 H locs hp75 hw => ?_)
          obtain ⟨h76, h77, h78, h79⟩ := hp75
          exact False.elim h79
      · refine lv_aload_n hx hb dX6_readIndex_39 rfl (lv_at hl 0 rfl) ?_
        refine lv_aload_n hx hb dX6_readIndex_40 rfl (lv_at hl 0 rfl) ?_
        refine hk_get (ci := 9) (C := RX6) (T := TX6) (N := 16) (v := .ref (ad 29)) hx hb hts (fun _ h => List.mem_cons_of_mem _ (wwXc_wsX60 _ h)) hown hw 25 rfl rfl 6 (by decide) (hq _ wX_523) rfl dX6_readIndex_41 ?_
        refine lv_iload_n hx hb dX6_readIndex_44 rfl (lv_at hl 1 rfl) ?_
        refine jx_Vi (As := [.int x32]) (rest := [.ref (ad 25)]) ⟨hx, hb, hml, hown, hts⟩ hZ hw hA (jx_X9_get_29 l hlt D t3 cI cJ ad g33 l22 a23 b24 _ x32) (cwV 1 hts (jx_gV wwX_good wX_500 wX_22 wX_23 wX_24 wX_25) rfl rfl rfl (by decide +kernel) ⟨Nat.le_of_ble_eq_true rfl, Nat.le_of_ble_eq_true rfl⟩) 29 (ci := 12) (T := TX9) (N := 2) rfl rfl rfl hl.1 rfl (Nat.le_of_ble_eq_true rfl) dX6_readIndex_45 ⟨Nat.le_of_ble_eq_true rfl, Nat.le_of_ble_eq_true rfl⟩ (fun _ _ _ _ _ _ _ _ hp _ _ _ _ => hp.elim) (fun r84 g85 l86 a87 b88 H locs hp89 hw => ?_)
        obtain ⟨h90, h91, h92⟩ := hp89
        refine lv_bipush (v := 11) hx hb dX6_readIndex_48 (by decide) ?_
        refine jx_Vv (As := [.int r84, .int 11]) (rest := []) ⟨hx, hb, hml, hown, hts⟩ hZ hw hA (jx_X6_expect l hlt D t3 cI cJ ad g85 l86 a87 b88 _ r84 11 (hk_pE (P := hk_rg 0 255) hr30 (h92 0 rfl))) (cwV 2 hts (jx_gV wwX_good wX_525 wX_526 wX_527 wX_441 wX_528) rfl rfl rfl (by decide +kernel) ⟨Nat.le_of_ble_eq_true rfl, Nat.le_of_ble_eq_true rfl⟩) 25 (ci := 9) (T := TX6) (N := 16) rfl rfl rfl hl.1 rfl (Nat.le_of_ble_eq_true rfl) dX6_readIndex_50 ⟨Nat.le_of_ble_eq_true rfl, Nat.le_of_ble_eq_true rfl⟩ (fun u93 u94 u95 u96 H locs ce q hp hw h1 h2 h3 => by obtain ⟨ht0, ht1, ht2⟩ := hp; exact kt _ _ _ _ _ _ _ _ _ _ _ ⟨(hk_frT (hk_frT (hk_frT (hk_frT (hk_frT (hk_frG hk_fr0 (by decide) h_g1) (by decide) h12) (by decide) h26) (by decide) hfr_g33) (by decide) h90) (by decide) ht0), (hk_frT (hk_frT (hk_frT h13 (by decide) h27) (by decide) h91) (by decide) ht1), (hk_frT (hk_frT (hk_frT (hk_frT hk_fr0 (by decide) h14) (by decide) h28) (by decide) h92) (by decide) ht2)⟩ hw h1 h2 h3) (fun g98 l99 a100 b101 H locs hp102 hw => ?_)
        obtain ⟨h103, h104, h105⟩ := hp102
        have hr106 : hk_rm 5 3 (-3000) 3000 (a100 7) := (hk_pE (P := hk_rm 5 3 (-3000) 3000) (hk_pE (P := hk_rm 5 3 (-3000) 3000) hr29 (h92 7 rfl)) (h105 7 rfl))
        have hr107 : hk_rg 0 255 (a100 0) := (hk_pE (P := hk_rg 0 255) (hk_pE (P := hk_rg 0 255) hr30 (h92 0 rfl)) (h105 0 rfl))
        obtain ⟨z108, hz108⟩ : ∃ z : Int32, x32 + 1 = z := ⟨_, rfl⟩
        refine lv_iinc (v := z108) (lv' := [(1, .int z108), (0, .ref (ad 25))]) hx hb dX6_readIndex_53 hl (k := 1) rfl hz108 (by decide) rfl (fun ls hl => ?_)
        refine lv_goto (tgt := 28) hx hb dX6_readIndex_56 (by decide) ?_
        exact ih_B31 z108 g98 ls _ _ (ob373 ((z108).toInt) (k34 : Int) ((x32).toInt) (((1 : Int32)).toInt) ((g21 53).toInt) ((g33 53).toInt) hrk_B31 (hE_add hz108) hf_B31_0 (hE_nle cc35) (congrArg Int32.toInt e_g33_53) (hE_rng (z108)) (hE_rng (x32)) (by decide) (hE_rng (g21 53)) (hE_rng (g33 53))) (ob374 ((z108).toInt) ((x32).toInt) (((1 : Int32)).toInt) (k34 : Int) ((g21 53).toInt) ((g33 53).toInt) (hE_add hz108) hf_B31_0 hrk_B31 (hE_nle cc35) (congrArg Int32.toInt e_g33_53) (hE_rng (z108)) (hE_rng (x32)) (by decide) (hE_rng (g21 53)) (hE_rng (g33 53))) (hk_frT (hk_frT hfr_g33 (by decide) h90) (by decide) h103) hw (lv_sub hl [1, 0] rfl)
  exact B31 (2147483648 - ((1 : Int32)).toInt).toNat 1 g21 ls _ _ (Int.self_le_toNat _) (ob375 (((1 : Int32)).toInt) (by decide)) hk_fr0 hw (lv_sub hl [1, 0] rfl)

set_option maxHeartbeats 4000000 in
set_option maxRecDepth 100000 in
/-- X6_readFoot on (25,) -/
theorem jx_X6_readFoot (l : Launch) (hlt : l.stackTraces = false) (D : va_G) (t3 : Nat × Nat × Nat) (cI cJ : ClassId) (ad : Nat → Nat) (g : Nat → Int32) (lg : Nat → Int64) (ar : Nat → Nat → Int32) (bk : Nat → Int64) (sz : Nat) (hi_a0rg : hk_rg 0 255 (ar 0)) : JMv l yX6_readFoot (Cond.code yX6_readFoot cX6_readFoot 5 none :: wwX) { frames := 8, cells := 1, slots := 6, locals := 126 } t3 D xw cI cJ ad [.ref (ad 25)] (xw cI cJ ad g lg ar bk) sz 1 6 (fun g' lg' ar' bk' => hk_fr [15, 17] g g' ∧ hk_fr [] lg lg' ∧ hk_fr [] ar ar') (fun g' lg' ar' bk' => hk_fr [15, 17] g g' ∧ hk_fr [] lg lg' ∧ hk_fr [] ar ar') := by
  refine jx_metv (cc := cX6_readFoot) (maxL := 5) (ret := none) rfl (by decide) rfl (Nat.le_of_ble_eq_true rfl) ?_
  intro p e s m args below meth c ls Q A hx hb hml hown hts hA hZ hw hl hQ kr kt
  have hq : ∀ w ∈ wwX, w.before args s = true := fun w h => hts w (List.mem_cons_of_mem _ h)
  have hl : lv_has ls 5 [(0, .ref (ad 25))] := hl
  refine lv_aload_n hx hb dX6_readFoot_0 rfl (lv_at hl 0 rfl) ?_
  refine hk_get (ci := 9) (C := RX6) (T := TX6) (N := 16) (v := .ref (ad 6)) hx hb hts (fun _ h => List.mem_cons_of_mem _ (wwXc_wsX60 _ h)) hown hw 25 rfl rfl 0 (by decide) (hq _ wX_399) rfl dX6_readFoot_1 ?_
  refine lv_iconst (v := 4) hx hb dX6_readFoot_4 (by decide) ?_
  refine jx_Vl (As := [.int 4]) (rest := []) ⟨hx, hb, hml, hown, hts⟩ hZ hw hA (jx_X8_low l hlt D t3 cI cJ ad g lg ar bk _ 4 hi_a0rg) (cwV 1 hts (jx_gV wwX_good wX_443 wX_330 wX_331 wX_252 wX_332) rfl rfl rfl (by decide +kernel) ⟨Nat.le_of_ble_eq_true rfl, Nat.le_of_ble_eq_true rfl⟩) 6 (ci := 11) (T := TX8) (N := 4) rfl rfl rfl hl.1 rfl (Nat.le_of_ble_eq_true rfl) dX6_readFoot_5 ⟨Nat.le_of_ble_eq_true rfl, Nat.le_of_ble_eq_true rfl⟩ (fun u1 u2 u3 u4 H locs ce q hp hw h1 h2 h3 => by obtain ⟨ht0, ht1, ht2⟩ := hp; exact kt _ _ _ _ _ _ _ _ _ _ _ ⟨ht0, ht1, ht2⟩ hw h1 h2 h3) (fun r5 g6 l7 a8 b9 H locs hp10 hw => ?_)
  obtain ⟨h11, h12, h13⟩ := hp10
  refine lv_l2i hx hb dX6_readFoot_8 rfl (jx_nm fun z14 hz14 => ?_)
  refine lv_istore_n (lv' := [(1, .int z14), (0, .ref (ad 25))]) hx hb dX6_readFoot_9 rfl hl (by decide) rfl (fun ls hl => ?_)
  refine lv_aload_n hx hb dX6_readFoot_10 rfl (lv_at hl 1 rfl) ?_
  refine hk_get (ci := 9) (C := RX6) (T := TX6) (N := 16) (v := .ref (ad 6)) hx hb hts (fun _ h => List.mem_cons_of_mem _ (wwXc_wsX60 _ h)) hown hw 25 rfl rfl 0 (by decide) (hq _ wX_399) rfl dX6_readFoot_11 ?_
  refine lv_iconst (v := 4) hx hb dX6_readFoot_14 (by decide) ?_
  refine jx_Vl (As := [.int 4]) (rest := []) ⟨hx, hb, hml, hown, hts⟩ hZ hw hA (jx_X8_low l hlt D t3 cI cJ ad g6 l7 a8 b9 _ 4 (hk_pE (P := hk_rg 0 255) hi_a0rg (h13 0 rfl))) (cwV 1 hts (jx_gV wwX_good wX_443 wX_330 wX_331 wX_252 wX_332) rfl rfl rfl (by decide +kernel) ⟨Nat.le_of_ble_eq_true rfl, Nat.le_of_ble_eq_true rfl⟩) 6 (ci := 11) (T := TX8) (N := 4) rfl rfl rfl hl.1 rfl (Nat.le_of_ble_eq_true rfl) dX6_readFoot_15 ⟨Nat.le_of_ble_eq_true rfl, Nat.le_of_ble_eq_true rfl⟩ (fun u15 u16 u17 u18 H locs ce q hp hw h1 h2 h3 => by obtain ⟨ht0, ht1, ht2⟩ := hp; exact kt _ _ _ _ _ _ _ _ _ _ _ ⟨(hk_frT h11 (by decide) ht0), (hk_frT h12 (by decide) ht1), (hk_frT h13 (by decide) ht2)⟩ hw h1 h2 h3) (fun r19 g20 l21 a22 b23 H locs hp24 hw => ?_)
  obtain ⟨h25, h26, h27⟩ := hp24
  have hr28 : hk_rg 0 255 (a22 0) := (hk_pE (P := hk_rg 0 255) (hk_pE (P := hk_rg 0 255) hi_a0rg (h13 0 rfl)) (h27 0 rfl))
  refine lv_lstore_n (lv' := [(2, .long r19), (1, .int z14), (0, .ref (ad 25))]) hx hb dX6_readFoot_18 rfl hl (by decide) rfl (fun ls hl => ?_)
  refine lv_aload_n hx hb dX6_readFoot_19 rfl (lv_at hl 2 rfl) ?_
  refine hk_get (ci := 9) (C := RX6) (T := TX6) (N := 16) (v := .ref (ad 6)) hx hb hts (fun _ h => List.mem_cons_of_mem _ (wwXc_wsX60 _ h)) hown hw 25 rfl rfl 0 (by decide) (hq _ wX_399) rfl dX6_readFoot_20 ?_
  refine lv_iconst (v := 2) hx hb dX6_readFoot_23 (by decide) ?_
  refine jx_Vi (As := [.int 2]) (rest := []) ⟨hx, hb, hml, hown, hts⟩ hZ hw hA (jx_X8_high l hlt D t3 cI cJ ad g20 l21 a22 b23 _ 2 hr28) (cwV 1 hts (jx_gV wwX_good wX_502 wX_259 wX_260 wX_252 wX_261) rfl rfl rfl (by decide +kernel) ⟨Nat.le_of_ble_eq_true rfl, Nat.le_of_ble_eq_true rfl⟩) 6 (ci := 11) (T := TX8) (N := 4) rfl rfl rfl hl.1 rfl (Nat.le_of_ble_eq_true rfl) dX6_readFoot_24 ⟨Nat.le_of_ble_eq_true rfl, Nat.le_of_ble_eq_true rfl⟩ (fun u29 u30 u31 u32 H locs ce q hp hw h1 h2 h3 => by obtain ⟨ht0, ht1, ht2⟩ := hp; exact kt _ _ _ _ _ _ _ _ _ _ _ ⟨(hk_frT (hk_frT h11 (by decide) h25) (by decide) ht0), (hk_frT (hk_frT h12 (by decide) h26) (by decide) ht1), (hk_frT (hk_frT h13 (by decide) h27) (by decide) ht2)⟩ hw h1 h2 h3) (fun r33 g34 l35 a36 b37 H locs hp38 hw => ?_)
  obtain ⟨h39, h40, h41⟩ := hp38
  refine lv_istore (lv' := [(4, .int r33), (2, .long r19), (1, .int z14), (0, .ref (ad 25))]) hx hb dX6_readFoot_27 hl (by decide) rfl (fun ls hl => ?_)
  refine lv_iload_n hx hb dX6_readFoot_29 rfl (lv_at hl 2 rfl) ?_
  refine lv_aload_n hx hb dX6_readFoot_30 rfl (lv_at hl 3 rfl) ?_
  refine hk_get (ci := 9) (C := RX6) (T := TX6) (N := 16) (v := .ref (ad 6)) hx hb hts (fun _ h => List.mem_cons_of_mem _ (wwXc_wsX60 _ h)) hown hw 25 rfl rfl 0 (by decide) (hq _ wX_399) rfl dX6_readFoot_31 ?_
  refine hk_get (ci := 11) (C := RX8) (T := TX8) (N := 4) (v := .ref (ad 2)) hx hb hts (fun _ h => List.mem_cons_of_mem _ (wwXc_wsX80 _ h)) hown hw 6 rfl rfl 0 (by decide) (hq _ wX_401) rfl dX6_readFoot_34 ?_
  refine lv_aload_n hx hb dX6_readFoot_37 rfl (lv_at hl 3 rfl) ?_
  refine hk_get (ci := 9) (C := RX6) (T := TX6) (N := 16) (v := .ref (ad 6)) hx hb hts (fun _ h => List.mem_cons_of_mem _ (wwXc_wsX60 _ h)) hown hw 25 rfl rfl 0 (by decide) (hq _ wX_399) rfl dX6_readFoot_38 ?_
  refine hk_get (ci := 11) (C := RX8) (T := TX8) (N := 4) (v := .int (g34 15)) hx hb hts (fun _ h => List.mem_cons_of_mem _ (wwXc_wsX80 _ h)) hown hw 6 rfl rfl 1 (by decide) (hq _ wX_400) rfl dX6_readFoot_41 ?_
  refine lv_bipush (v := 6) hx hb dX6_readFoot_44 (by decide) ?_
  refine lv_isub hx hb dX6_readFoot_46 (jx_nm fun z42 hz42 => ?_)
  refine lv_aload_n hx hb dX6_readFoot_47 rfl (lv_at hl 3 rfl) ?_
  refine hk_get (ci := 9) (C := RX6) (T := TX6) (N := 16) (v := .ref (ad 6)) hx hb hts (fun _ h => List.mem_cons_of_mem _ (wwXc_wsX60 _ h)) hown hw 25 rfl rfl 0 (by decide) (hq _ wX_399) rfl dX6_readFoot_48 ?_
  refine hk_get (ci := 11) (C := RX8) (T := TX8) (N := 4) (v := .int (g34 15)) hx hb hts (fun _ h => List.mem_cons_of_mem _ (wwXc_wsX80 _ h)) hown hw 6 rfl rfl 1 (by decide) (hq _ wX_400) rfl dX6_readFoot_51 ?_
  refine jx_Si (As := [.ref (ad 2), .int z42, .int (g34 15)]) (rest := [.int z14]) ⟨hx, hb, hml, hown, hts⟩ hZ hw hA (jx_X0_crc32_2 l hlt D t3 cI cJ ad g34 l35 a36 b37 _ z42 (g34 15)) (va_cwS 3 hts (jx_gS wwX_good wX_522 wX_11 wX_12 wX_13) rfl rfl rfl (by decide +kernel) ⟨Nat.le_of_ble_eq_true rfl, Nat.le_of_ble_eq_true rfl⟩) rfl hl.1 rfl (Nat.le_of_ble_eq_true rfl) dX6_readFoot_54 ⟨Nat.le_of_ble_eq_true rfl, Nat.le_of_ble_eq_true rfl⟩ (fun _ _ _ _ _ _ _ _ hp _ _ _ _ => hp.elim) (fun r47 g48 l49 a50 b51 H locs hp52 hw => ?_)
  obtain ⟨h53, h54, h55⟩ := hp52
  have hr56 : hk_rg 0 255 (a50 0) := (hk_pE (P := hk_rg 0 255) (hk_pE (P := hk_rg 0 255) hr28 (h41 0 rfl)) (h55 0 rfl))
  have B57 : ∀  (g58 : Nat → Int32) (ls : Array Slot) (H : Heap) (locs : List Loc), hk_fr [17] g48 g58 → hk_W D (jT cI cJ) A s H locs (xw cI cJ ad g58 l49 a50 b51) → lv_has ls 5 [(0, .ref (ad 25)), (2, .long r19), (4, .int r33)] → W p l e { frames := 8, cells := 1, slots := 6, locals := 126 } s m args below meth c H locs 0 0 Q (F0 m 69 ls []) := by
    intro g58 ls H locs hfr_g58 hw hl
    refine lv_lload_n hx hb dX6_readFoot_69 rfl (lv_at hl 1 rfl) ?_
    refine lv_aload_n hx hb dX6_readFoot_70 rfl (lv_at hl 0 rfl) ?_
    refine hk_get (ci := 9) (C := RX6) (T := TX6) (N := 16) (v := .ref (ad 29)) hx hb hts (fun _ h => List.mem_cons_of_mem _ (wwXc_wsX60 _ h)) hown hw 25 rfl rfl 6 (by decide) (hq _ wX_523) rfl dX6_readFoot_71 ?_
    have e_g58_53 : g58 53 = (g 53) := ((hfr_g58 53 rfl)).trans (((h53 53 rfl)).trans (((h39 53 rfl)).trans (((h25 53 rfl)).trans (h11 53 rfl))))
    refine hk_get (ci := 12) (C := RX9) (T := TX9) (N := 2) (v := .int (g 53)) hx hb hts (fun _ h => List.mem_cons_of_mem _ (wwXc_wsX90 _ h)) hown hw 29 rfl rfl 1 (by decide) (hq _ wX_402) (congrArg (fun z => some (Value.int z)) e_g58_53) dX6_readFoot_74 ?_
    refine lv_iconst (v := 4) hx hb dX6_readFoot_77 (by decide) ?_
    refine lv_idiv hx hb dX6_readFoot_78 (by decide) (jx_nm fun z59 hz59 => ?_)
    refine lv_i2l hx hb dX6_readFoot_79 rfl (jx_nl fun z60 hz60 => ?_)
    have B61 : ∀  (g62 : Nat → Int32) (ls : Array Slot) (H : Heap) (locs : List Loc), hk_fr [17] g58 g62 → hk_W D (jT cI cJ) A s H locs (xw cI cJ ad g62 l49 a50 b51) → lv_has ls 5 [(0, .ref (ad 25))] → W p l e { frames := 8, cells := 1, slots := 6, locals := 126 } s m args below meth c H locs 0 0 Q (F0 m 102 ls []) := by
      intro g62 ls H locs hfr_g62 hw hl
      refine lv_aload_n hx hb dX6_readFoot_102 rfl (lv_at hl 0 rfl) ?_
      refine lv_bipush (v := 89) hx hb dX6_readFoot_103 (by decide) ?_
      refine lv_bipush (v := 11) hx hb dX6_readFoot_105 (by decide) ?_
      refine jx_Vv (As := [.int 89, .int 11]) (rest := []) ⟨hx, hb, hml, hown, hts⟩ hZ hw hA (jx_X6_expect l hlt D t3 cI cJ ad g62 l49 a50 b51 _ 89 11 hr56) (cwV 2 hts (jx_gV wwX_good wX_525 wX_526 wX_527 wX_441 wX_528) rfl rfl rfl (by decide +kernel) ⟨Nat.le_of_ble_eq_true rfl, Nat.le_of_ble_eq_true rfl⟩) 25 (ci := 9) (T := TX6) (N := 16) rfl rfl rfl hl.1 rfl (Nat.le_of_ble_eq_true rfl) dX6_readFoot_107 ⟨Nat.le_of_ble_eq_true rfl, Nat.le_of_ble_eq_true rfl⟩ (fun u63 u64 u65 u66 H locs ce q hp hw h1 h2 h3 => by obtain ⟨ht0, ht1, ht2⟩ := hp; exact kt _ _ _ _ _ _ _ _ _ _ _ ⟨(hk_frT (hk_frT (hk_frT (hk_frT (hk_frT (hk_frT h11 (by decide) h25) (by decide) h39) (by decide) h53) (by decide) hfr_g58) (by decide) hfr_g62) (by decide) ht0), (hk_frT (hk_frT (hk_frT (hk_frT h12 (by decide) h26) (by decide) h40) (by decide) h54) (by decide) ht1), (hk_frT (hk_frT (hk_frT (hk_frT h13 (by decide) h27) (by decide) h41) (by decide) h55) (by decide) ht2)⟩ hw h1 h2 h3) (fun g68 l69 a70 b71 H locs hp72 hw => ?_)
      obtain ⟨h73, h74, h75⟩ := hp72
      refine lv_aload_n hx hb dX6_readFoot_110 rfl (lv_at hl 0 rfl) ?_
      refine lv_bipush (v := 90) hx hb dX6_readFoot_111 (by decide) ?_
      refine lv_bipush (v := 11) hx hb dX6_readFoot_113 (by decide) ?_
      refine jx_Vv (As := [.int 90, .int 11]) (rest := []) ⟨hx, hb, hml, hown, hts⟩ hZ hw hA (jx_X6_expect l hlt D t3 cI cJ ad g68 l69 a70 b71 _ 90 11 (hk_pE (P := hk_rg 0 255) hr56 (h75 0 rfl))) (cwV 2 hts (jx_gV wwX_good wX_525 wX_526 wX_527 wX_441 wX_528) rfl rfl rfl (by decide +kernel) ⟨Nat.le_of_ble_eq_true rfl, Nat.le_of_ble_eq_true rfl⟩) 25 (ci := 9) (T := TX6) (N := 16) rfl rfl rfl hl.1 rfl (Nat.le_of_ble_eq_true rfl) dX6_readFoot_115 ⟨Nat.le_of_ble_eq_true rfl, Nat.le_of_ble_eq_true rfl⟩ (fun u76 u77 u78 u79 H locs ce q hp hw h1 h2 h3 => by obtain ⟨ht0, ht1, ht2⟩ := hp; exact kt _ _ _ _ _ _ _ _ _ _ _ ⟨(hk_frT (hk_frT (hk_frT (hk_frT (hk_frT (hk_frT (hk_frT h11 (by decide) h25) (by decide) h39) (by decide) h53) (by decide) hfr_g58) (by decide) hfr_g62) (by decide) h73) (by decide) ht0), (hk_frT (hk_frT (hk_frT (hk_frT (hk_frT h12 (by decide) h26) (by decide) h40) (by decide) h54) (by decide) h74) (by decide) ht1), (hk_frT (hk_frT (hk_frT (hk_frT (hk_frT h13 (by decide) h27) (by decide) h41) (by decide) h55) (by decide) h75) (by decide) ht2)⟩ hw h1 h2 h3) (fun g81 l82 a83 b84 H locs hp85 hw => ?_)
      obtain ⟨h86, h87, h88⟩ := hp85
      have hr89 : hk_rg 0 255 (a83 0) := (hk_pE (P := hk_rg 0 255) (hk_pE (P := hk_rg 0 255) hr56 (h75 0 rfl)) (h88 0 rfl))
      exact kr g81 l82 a83 b84 _ _ _ _ ⟨(hk_frT (hk_frT (hk_frT (hk_frT (hk_frT (hk_frT (hk_frT h11 (by decide) h25) (by decide) h39) (by decide) h53) (by decide) hfr_g58) (by decide) hfr_g62) (by decide) h73) (by decide) h86), (hk_frT (hk_frT (hk_frT (hk_frT (hk_frT h12 (by decide) h26) (by decide) h40) (by decide) h54) (by decide) h74) (by decide) h87), (hk_frT (hk_frT (hk_frT (hk_frT (hk_frT h13 (by decide) h27) (by decide) h41) (by decide) h55) (by decide) h75) (by decide) h88)⟩ hw dX6_readFoot_118
    have B90 : ∀  (ls : Array Slot) (H : Heap) (locs : List Loc), hk_W D (jT cI cJ) A s H locs (xw cI cJ ad g58 l49 a50 b51) → lv_has ls 5 [(0, .ref (ad 25))] → W p l e { frames := 8, cells := 1, slots := 6, locals := 126 } s m args below meth c H locs 0 0 Q (F0 m 93 ls []) := by
      intro ls H locs hw hl
      refine lv_aload_n hx hb dX6_readFoot_93 rfl (lv_at hl 0 rfl) ?_
      refine hk_get (ci := 9) (C := RX6) (T := TX6) (N := 16) (v := .ref (ad 6)) hx hb hts (fun _ h => List.mem_cons_of_mem _ (wwXc_wsX60 _ h)) hown hw 25 rfl rfl 0 (by decide) (hq _ wX_399) rfl dX6_readFoot_94 ?_
      refine lv_bipush (v := 11) hx hb dX6_readFoot_97 (by decide) ?_
      refine jx_Vv (As := [.int 11]) (rest := []) ⟨hx, hb, hml, hown, hts⟩ hZ hw hA (jx_X8_fail l hlt D t3 cI cJ ad g58 l49 a50 b51 _ 11) (cwV 1 hts (jx_gV wwX_good wX_403 wX_255 wX_256 wX_252 wX_257) rfl rfl rfl (by decide +kernel) ⟨Nat.le_of_ble_eq_true rfl, Nat.le_of_ble_eq_true rfl⟩) 6 (ci := 11) (T := TX8) (N := 4) rfl rfl rfl hl.1 rfl (Nat.le_of_ble_eq_true rfl) dX6_readFoot_99 ⟨Nat.le_of_ble_eq_true rfl, Nat.le_of_ble_eq_true rfl⟩ (fun u91 u92 u93 u94 H locs ce q hp hw h1 h2 h3 => by obtain ⟨ht0, ht1, ht2⟩ := hp; exact kt _ _ _ _ _ _ _ _ _ _ _ ⟨(hk_frT (hk_frT (hk_frT (hk_frT (hk_frT h11 (by decide) h25) (by decide) h39) (by decide) h53) (by decide) hfr_g58) (by decide) ht0), (hk_frT (hk_frT (hk_frT (hk_frT h12 (by decide) h26) (by decide) h40) (by decide) h54) (by decide) ht1), (hk_frT (hk_frT (hk_frT (hk_frT h13 (by decide) h27) (by decide) h41) (by decide) h55) (by decide) ht2)⟩ hw h1 h2 h3) (fun g96 l97 a98 b99 H locs hp100 hw => ?_)
      obtain ⟨h101, h102, h103, h104⟩ := hp100
      exact False.elim h104
    refine hk_lcmp_ne (tgt := 93) hx hb dX6_readFoot_80 dX6_readFoot_81 (by decide) (fun cc105 => ?_) (fun cc105 => ?_)
    · exact B90 ls _ _ hw (lv_sub hl [0] rfl)
    · refine lv_iload hx hb dX6_readFoot_84 (lv_at hl 2 rfl) ?_
      refine lv_aload_n hx hb dX6_readFoot_86 rfl (lv_at hl 0 rfl) ?_
      have e_g58_44 : g58 44 = (g 44) := ((hfr_g58 44 rfl)).trans (((h53 44 rfl)).trans (((h39 44 rfl)).trans (((h25 44 rfl)).trans (h11 44 rfl))))
      refine hk_get (ci := 9) (C := RX6) (T := TX6) (N := 16) (v := .int (g 44)) hx hb hts (fun _ h => List.mem_cons_of_mem _ (wwXc_wsX60 _ h)) hown hw 25 rfl rfl 10 (by decide) (hq _ wX_524) (congrArg (fun z => some (Value.int z)) e_g58_44) dX6_readFoot_87 ?_
      refine lv_icmp_eq (tgt := 102) hx hb dX6_readFoot_90 (by decide) (fun cc106 => ?_) (fun cc106 => ?_)
      · exact B61 g58 ls _ _ hk_fr0 hw (lv_sub hl [0] rfl)
      · exact B90 ls _ _ hw (lv_sub hl [0] rfl)
  refine lv_icmp_eq (tgt := 69) hx hb dX6_readFoot_57 (by decide) (fun cc107 => ?_) (fun cc107 => ?_)
  · exact B57 g48 ls _ _ hk_fr0 hw (lv_sub hl [3, 1, 0] rfl)
  · refine lv_aload_n hx hb dX6_readFoot_60 rfl (lv_at hl 3 rfl) ?_
    refine hk_get (ci := 9) (C := RX6) (T := TX6) (N := 16) (v := .ref (ad 6)) hx hb hts (fun _ h => List.mem_cons_of_mem _ (wwXc_wsX60 _ h)) hown hw 25 rfl rfl 0 (by decide) (hq _ wX_399) rfl dX6_readFoot_61 ?_
    refine lv_bipush (v := 9) hx hb dX6_readFoot_64 (by decide) ?_
    refine jx_Vv (As := [.int 9]) (rest := []) ⟨hx, hb, hml, hown, hts⟩ hZ hw hA (jx_X8_fail l hlt D t3 cI cJ ad g48 l49 a50 b51 _ 9) (cwV 1 hts (jx_gV wwX_good wX_403 wX_255 wX_256 wX_252 wX_257) rfl rfl rfl (by decide +kernel) ⟨Nat.le_of_ble_eq_true rfl, Nat.le_of_ble_eq_true rfl⟩) 6 (ci := 11) (T := TX8) (N := 4) rfl rfl rfl hl.1 rfl (Nat.le_of_ble_eq_true rfl) dX6_readFoot_66 ⟨Nat.le_of_ble_eq_true rfl, Nat.le_of_ble_eq_true rfl⟩ (fun u108 u109 u110 u111 H locs ce q hp hw h1 h2 h3 => by obtain ⟨ht0, ht1, ht2⟩ := hp; exact kt _ _ _ _ _ _ _ _ _ _ _ ⟨(hk_frT (hk_frT (hk_frT (hk_frT h11 (by decide) h25) (by decide) h39) (by decide) h53) (by decide) ht0), (hk_frT (hk_frT (hk_frT (hk_frT h12 (by decide) h26) (by decide) h40) (by decide) h54) (by decide) ht1), (hk_frT (hk_frT (hk_frT (hk_frT h13 (by decide) h27) (by decide) h41) (by decide) h55) (by decide) ht2)⟩ hw h1 h2 h3) (fun g113 l114 a115 b116 H locs hp117 hw => ?_)
    obtain ⟨h118, h119, h120, h121⟩ := hp117
    exact False.elim h121
