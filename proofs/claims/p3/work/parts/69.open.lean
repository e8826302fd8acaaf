/-! 69.open -/
theorem ob440 (v0 : Int) (h0 : v0 = 0) : 0 ≤ v0 ∧ v0 ≤ 4 := by omega
theorem ob441 (v0 : Int) (v1 : Int) (v2 : Int) (v3 : Int) (v4 : Int) (h0 : (0 ≤ v1 → v0 = v1 % 9) ∧ (v1 ≤ 0 → v0 = -(-v1 % 9))) (h1 : 0 ≤ v1 ∧ v1 ≤ 255) (h2 : (0 ≤ v1 → v2 = v1 / 9) ∧ (v1 ≤ 0 → v2 = -(-v1 / 9))) (h3 : (0 ≤ v1 → v3 = v1 / 45) ∧ (v1 ≤ 0 → v3 = -(-v1 / 45))) (h4 : (0 ≤ v2 → v4 = v2 % 5) ∧ (v2 ≤ 0 → v4 = -(-v2 % 5))) (h5 : -2147483648 ≤ v0 ∧ v0 ≤ 2147483647) (h6 : -2147483648 ≤ v1 ∧ v1 ≤ 2147483647) (h7 : -2147483648 ≤ v2 ∧ v2 ≤ 2147483647) (h8 : -2147483648 ≤ v3 ∧ v3 ≤ 2147483647) (h9 : -2147483648 ≤ v4 ∧ v4 ≤ 2147483647) : 0 ≤ v0 ∧ v0 ≤ 4 := by omega
theorem ob442 (v0 : Int) (v1 : Int) (v2 : Int) (v3 : Int) (v4 : Int) (h0 : (0 ≤ v1 → v0 = v1 % 5) ∧ (v1 ≤ 0 → v0 = -(-v1 % 5))) (h1 : (0 ≤ v2 → v1 = v2 / 9) ∧ (v2 ≤ 0 → v1 = -(-v2 / 9))) (h2 : 0 ≤ v2 ∧ v2 ≤ 255) (h3 : (0 ≤ v2 → v3 = v2 % 9) ∧ (v2 ≤ 0 → v3 = -(-v2 % 9))) (h4 : (0 ≤ v2 → v4 = v2 / 45) ∧ (v2 ≤ 0 → v4 = -(-v2 / 45))) (h5 : -2147483648 ≤ v0 ∧ v0 ≤ 2147483647) (h6 : -2147483648 ≤ v1 ∧ v1 ≤ 2147483647) (h7 : -2147483648 ≤ v2 ∧ v2 ≤ 2147483647) (h8 : -2147483648 ≤ v3 ∧ v3 ≤ 2147483647) (h9 : -2147483648 ≤ v4 ∧ v4 ≤ 2147483647) : 0 ≤ v0 ∧ v0 ≤ 4 := by omega
theorem ob443 (v0 : Int) (h0 : -2147483648 ≤ v0 ∧ v0 ≤ 2147483647) : 0 ≤ v0 ∧ v0 ≤ 3000 := by omega
theorem ob444 (v0 : Int) (v1 : Int) (v2 : Int) (v3 : Int) (h0 : v1 ≤ 2147483646 → v0 = v1 + 1) (h1 : v1 = v2) (h2 : v3 = v2) (h3 : -2147483648 ≤ v0 ∧ v0 ≤ 2147483647) (h4 : -2147483648 ≤ v1 ∧ v1 ≤ 2147483647) (h5 : -2147483648 ≤ v2 ∧ v2 ≤ 2147483647) (h6 : -2147483648 ≤ v3 ∧ v3 ≤ 2147483647) : 0 ≤ v0 ∧ v0 ≤ 3000 := by omega
theorem ob445 (v0 : Int) (v1 : Int) (v2 : Int) (h0 : v0 = v1) (h1 : v2 ≤ v1) (h2 : -2147483648 ≤ v0 ∧ v0 ≤ 2147483647) (h3 : -2147483648 ≤ v1 ∧ v1 ≤ 2147483647) (h4 : v2 = 3000) : 0 ≤ v0 ∧ v0 ≤ 3000 := by omega
theorem ob446 (v0 : Int) (v1 : Int) (h0 : 0 ≤ v0 ∧ v0 ≤ 3000) (h1 : -2147483648 ≤ v0 ∧ v0 ≤ 2147483647) (h2 : v1 = 1) : -2147483648 ≤ v0 - v1 ∧ v0 - v1 ≤ 2147483647 := by omega
theorem ob447 (v0 : Int) (v1 : Int) (v2 : Int) (v3 : Int) (v4 : Int) (v5 : Int) (h0 : -300 ≤ v1 ∧ v1 ≤ 600) (h1 : 0 ≤ v0 ∧ v0 ≤ 3000) (h2 : v2 = (v0 - v3 + 2147483648) % 4294967296 - 2147483648) (h3 : v4 = v0) (h4 : v5 = v2) (h5 : -2147483648 ≤ v0 ∧ v0 ≤ 2147483647) (h6 : -2147483648 ≤ v1 ∧ v1 ≤ 2147483647) (h7 : -2147483648 ≤ v2 ∧ v2 ≤ 2147483647) (h8 : -2147483648 ≤ v3 ∧ v3 ≤ 2147483647) (h9 : -2147483648 ≤ v4 ∧ v4 ≤ 2147483647) (h10 : -9223372036854775808 ≤ v5 ∧ v5 ≤ 9223372036854775807) : -2147483648 ≤ v0 + v1 ∧ v0 + v1 ≤ 2147483647 := by omega
theorem ob448 (v0 : Int) (v1 : Int) (v2 : Int) (v3 : Int) (v4 : Int) (v5 : Int) (v6 : Int) (v7 : Int) (h0 : -300 ≤ v1 ∧ v1 ≤ 600) (h1 : 0 ≤ v0 ∧ v0 ≤ 3000) (h2 : v2 = (v0 - v3 + 2147483648) % 4294967296 - 2147483648) (h3 : v4 = v0) (h4 : v5 = v0 + v1) (h5 : v6 = v2) (h6 : v5 ≤ v7) (h7 : -2147483648 ≤ v0 ∧ v0 ≤ 2147483647) (h8 : -2147483648 ≤ v1 ∧ v1 ≤ 2147483647) (h9 : -2147483648 ≤ v2 ∧ v2 ≤ 2147483647) (h10 : -2147483648 ≤ v3 ∧ v3 ≤ 2147483647) (h11 : -2147483648 ≤ v4 ∧ v4 ≤ 2147483647) (h12 : -2147483648 ≤ v5 ∧ v5 ≤ 2147483647) (h13 : -9223372036854775808 ≤ v6 ∧ v6 ≤ 9223372036854775807) (h14 : v7 = 3000) : v0 + v1 ≤ 3000 := by omega
theorem ob449 (v0 : Int) (v1 : Int) (v2 : Int) (v3 : Int) (v4 : Int) (v5 : Int) (v6 : Int) (h0 : 0 ≤ v1 ∧ v1 ≤ 3000) (h1 : v2 = (v1 - v3 + 2147483648) % 4294967296 - 2147483648) (h2 : v4 ≤ v0) (h3 : v5 = v1) (h4 : v6 = v2) (h5 : -2147483648 ≤ v0 ∧ v0 ≤ 2147483647) (h6 : -2147483648 ≤ v1 ∧ v1 ≤ 2147483647) (h7 : -2147483648 ≤ v2 ∧ v2 ≤ 2147483647) (h8 : -2147483648 ≤ v3 ∧ v3 ≤ 2147483647) (h9 : v4 = 0) (h10 : -2147483648 ≤ v5 ∧ v5 ≤ 2147483647) (h11 : -9223372036854775808 ≤ v6 ∧ v6 ≤ 9223372036854775807) : -2147483648 ≤ v0 - v1 ∧ v0 - v1 ≤ 2147483647 := by omega
theorem ob450 (v0 : Int) (h0 : -300 ≤ v0 ∧ v0 ≤ 600) (h1 : -2147483648 ≤ v0 ∧ v0 ≤ 2147483647) : -300 ≤ v0 ∧ v0 ≤ 600 := by omega
theorem ob451 (v0 : Int) (v1 : Int) (h0 : v0 = v1) (h1 : 0 ≤ v1 ∧ v1 ≤ 3000) (h2 : -2147483648 ≤ v0 ∧ v0 ≤ 2147483647) (h3 : -2147483648 ≤ v1 ∧ v1 ≤ 2147483647) : 0 ≤ v0 ∧ v0 ≤ 3000 := by omega
theorem ob452 (v0 : Int) (v1 : Int) (v2 : Int) (h0 : v0 = v1) (h1 : 0 ≤ v1 ∧ v1 ≤ 3000) (h2 : v2 = v1) (h3 : -2147483648 ≤ v0 ∧ v0 ≤ 2147483647) (h4 : -2147483648 ≤ v1 ∧ v1 ≤ 2147483647) (h5 : -2147483648 ≤ v2 ∧ v2 ≤ 2147483647) : 0 ≤ v0 ∧ v0 ≤ 3000 := by omega
theorem ob453 (v0 : Int) (v1 : Int) (v2 : Int) (v3 : Int) (v4 : Int) (h0 : v1 = v2 + v0) (h1 : 0 ≤ v0) (h2 : 2147483648 - v0 ≤ 0) (h3 : 0 ≤ v2 ∧ v2 ≤ 3000) (h4 : v3 = (v2 - v4 + 2147483648) % 4294967296 - 2147483648) (h5 : 0 ≤ v1 ∧ v1 ≤ 3000) (h6 : -2147483648 ≤ v0 ∧ v0 ≤ 2147483647) (h7 : -2147483648 ≤ v1 ∧ v1 ≤ 2147483647) (h8 : -2147483648 ≤ v2 ∧ v2 ≤ 2147483647) (h9 : -2147483648 ≤ v3 ∧ v3 ≤ 2147483647) (h10 : -2147483648 ≤ v4 ∧ v4 ≤ 2147483647) : (0 * v0) ≤ -1 := by omega
theorem ob454 (v0 : Int) (v1 : Int) (v2 : Int) (v3 : Int) (v4 : Int) (v5 : Int) (v6 : Int) (v7 : Int) (v8 : Int) (v9 : Int) (h0 : v0 = v1 + v2) (h1 : 0 ≤ v0 ∧ v0 ≤ 3000) (h2 : 0 ≤ v1 ∧ v1 ≤ 3000) (h3 : v3 = (v1 - v4 + 2147483648) % 4294967296 - 2147483648) (h4 : 0 ≤ v2) (h5 : 2147483648 - v2 ≤ v5 + 1) (h6 : v6 ≤ v2) (h7 : -300 ≤ v6 ∧ v6 ≤ 600) (h8 : v7 + v6 ≤ 3000) (h9 : v7 = v8) (h10 : v7 = v8) (h11 : 0 ≤ v8 ∧ v8 ≤ 3000) (h12 : v9 = v8) (h13 : -2147483648 ≤ v0 ∧ v0 ≤ 2147483647) (h14 : -2147483648 ≤ v1 ∧ v1 ≤ 2147483647) (h15 : -2147483648 ≤ v2 ∧ v2 ≤ 2147483647) (h16 : -2147483648 ≤ v3 ∧ v3 ≤ 2147483647) (h17 : -2147483648 ≤ v4 ∧ v4 ≤ 2147483647) (h18 : -2147483648 ≤ v6 ∧ v6 ≤ 2147483647) (h19 : -2147483648 ≤ v7 ∧ v7 ≤ 2147483647) (h20 : -2147483648 ≤ v8 ∧ v8 ≤ 2147483647) (h21 : -2147483648 ≤ v9 ∧ v9 ≤ 2147483647) : 0 ≤ v0 ∧ v0 ≤ 3000 := by omega
theorem ob455 (v0 : Int) (v1 : Int) (v2 : Int) (v3 : Int) (v4 : Int) (v5 : Int) (v6 : Int) (v7 : Int) (v8 : Int) (v9 : Int) (v10 : Int) (v11 : Int) (v12 : Int) (v13 : Int) (v14 : Int) (v15 : Int) (v16 : Int) (h0 : v2 = v3 + v0) (h1 : 0 ≤ v0) (h2 : 2147483648 - v0 ≤ v4 + 1) (h3 : v0 < v5) (h4 : 0 ≤ v3 ∧ v3 ≤ 3000) (h5 : v6 = (v3 - v7 + 2147483648) % 4294967296 - 2147483648) (h6 : -300 ≤ v5 ∧ v5 ≤ 600) (h7 : v8 + v5 ≤ 3000) (h8 : 0 ≤ v2 ∧ v2 ≤ 3000) (h9 : v9 = (v2 - v10 + 2147483648) % 4294967296 - 2147483648) (h10 : v2 ≤ 2147483646 → v11 = v2 + 1) (h11 : v8 = v12) (h12 : v8 = v12) (h13 : v10 = (v13 + 2147483648) % 4294967296 - 2147483648) (h14 : 0 ≤ v12 ∧ v12 ≤ 3000) (h15 : v13 ≠ v14) (h16 : v15 = v12) (h17 : v16 = (v13 + 2147483648) % 4294967296 - 2147483648) (h18 : -2147483648 ≤ v0 ∧ v0 ≤ 2147483647) (h19 : v1 = 1) (h20 : -2147483648 ≤ v2 ∧ v2 ≤ 2147483647) (h21 : -2147483648 ≤ v3 ∧ v3 ≤ 2147483647) (h22 : -2147483648 ≤ v5 ∧ v5 ≤ 2147483647) (h23 : -2147483648 ≤ v6 ∧ v6 ≤ 2147483647) (h24 : -2147483648 ≤ v7 ∧ v7 ≤ 2147483647) (h25 : -2147483648 ≤ v8 ∧ v8 ≤ 2147483647) (h26 : -2147483648 ≤ v9 ∧ v9 ≤ 2147483647) (h27 : -2147483648 ≤ v10 ∧ v10 ≤ 2147483647) (h28 : -2147483648 ≤ v11 ∧ v11 ≤ 2147483647) (h29 : -2147483648 ≤ v12 ∧ v12 ≤ 2147483647) (h30 : -9223372036854775808 ≤ v13 ∧ v13 ≤ 9223372036854775807) (h31 : v14 = 4294967296) (h32 : -2147483648 ≤ v15 ∧ v15 ≤ 2147483647) (h33 : -2147483648 ≤ v16 ∧ v16 ≤ 2147483647) : -2147483648 ≤ v0 + v1 ∧ v0 + v1 ≤ 2147483647 := by omega
theorem ob456 (v0 : Int) (v1 : Int) (v2 : Int) (v3 : Int) (v4 : Int) (v5 : Int) (v6 : Int) (v7 : Int) (v8 : Int) (v9 : Int) (v10 : Int) (v11 : Int) (v12 : Int) (v13 : Int) (v14 : Int) (v15 : Int) (v16 : Int) (v17 : Int) (h0 : 2147483648 - v2 ≤ v1 + 1) (h1 : v0 = v2 + v3) (h2 : v4 = v5 + v2) (h3 : 0 ≤ v2) (h4 : v2 < v6) (h5 : 0 ≤ v5 ∧ v5 ≤ 3000) (h6 : v7 = (v5 - v8 + 2147483648) % 4294967296 - 2147483648) (h7 : -300 ≤ v6 ∧ v6 ≤ 600) (h8 : v9 + v6 ≤ 3000) (h9 : 0 ≤ v4 ∧ v4 ≤ 3000) (h10 : v10 = (v4 - v11 + 2147483648) % 4294967296 - 2147483648) (h11 : v4 ≤ 2147483646 → v12 = v4 + 1) (h12 : v9 = v13) (h13 : v9 = v13) (h14 : v11 = (v14 + 2147483648) % 4294967296 - 2147483648) (h15 : 0 ≤ v13 ∧ v13 ≤ 3000) (h16 : v14 ≠ v15) (h17 : v16 = v13) (h18 : v17 = (v14 + 2147483648) % 4294967296 - 2147483648) (h19 : -2147483648 ≤ v0 ∧ v0 ≤ 2147483647) (h20 : -2147483648 ≤ v2 ∧ v2 ≤ 2147483647) (h21 : v3 = 1) (h22 : -2147483648 ≤ v4 ∧ v4 ≤ 2147483647) (h23 : -2147483648 ≤ v5 ∧ v5 ≤ 2147483647) (h24 : -2147483648 ≤ v6 ∧ v6 ≤ 2147483647) (h25 : -2147483648 ≤ v7 ∧ v7 ≤ 2147483647) (h26 : -2147483648 ≤ v8 ∧ v8 ≤ 2147483647) (h27 : -2147483648 ≤ v9 ∧ v9 ≤ 2147483647) (h28 : -2147483648 ≤ v10 ∧ v10 ≤ 2147483647) (h29 : -2147483648 ≤ v11 ∧ v11 ≤ 2147483647) (h30 : -2147483648 ≤ v12 ∧ v12 ≤ 2147483647) (h31 : -2147483648 ≤ v13 ∧ v13 ≤ 2147483647) (h32 : -9223372036854775808 ≤ v14 ∧ v14 ≤ 9223372036854775807) (h33 : v15 = 4294967296) (h34 : -2147483648 ≤ v16 ∧ v16 ≤ 2147483647) (h35 : -2147483648 ≤ v17 ∧ v17 ≤ 2147483647) : 2147483648 - v0 ≤ v1 := by omega
theorem ob457 (v0 : Int) (v1 : Int) (v2 : Int) (v3 : Int) (v4 : Int) (v5 : Int) (v6 : Int) (v7 : Int) (v8 : Int) (v9 : Int) (v10 : Int) (v11 : Int) (v12 : Int) (v13 : Int) (v14 : Int) (v15 : Int) (v16 : Int) (v17 : Int) (h0 : 0 ≤ v1 ∧ v1 ≤ 3000) (h1 : v3 = (v1 - v4 + 2147483648) % 4294967296 - 2147483648) (h2 : v5 = v1 + v6) (h3 : v5 ≤ 2147483646 → v0 = v5 + 1) (h4 : v2 = v6 + v7) (h5 : 0 ≤ v6) (h6 : 0 ≤ v5 ∧ v5 ≤ 3000) (h7 : 2147483648 - v6 ≤ v8 + 1) (h8 : v6 < v9) (h9 : v10 = (v5 - v11 + 2147483648) % 4294967296 - 2147483648) (h10 : -300 ≤ v9 ∧ v9 ≤ 600) (h11 : v12 + v9 ≤ 3000) (h12 : v11 = (v13 + 2147483648) % 4294967296 - 2147483648) (h13 : v13 ≠ v14) (h14 : v12 = v15) (h15 : v12 = v15) (h16 : v16 = (v13 + 2147483648) % 4294967296 - 2147483648) (h17 : 0 ≤ v15 ∧ v15 ≤ 3000) (h18 : v17 = v15) (h19 : -2147483648 ≤ v0 ∧ v0 ≤ 2147483647) (h20 : -2147483648 ≤ v1 ∧ v1 ≤ 2147483647) (h21 : -2147483648 ≤ v2 ∧ v2 ≤ 2147483647) (h22 : -2147483648 ≤ v3 ∧ v3 ≤ 2147483647) (h23 : -2147483648 ≤ v4 ∧ v4 ≤ 2147483647) (h24 : -2147483648 ≤ v5 ∧ v5 ≤ 2147483647) (h25 : -2147483648 ≤ v6 ∧ v6 ≤ 2147483647) (h26 : v7 = 1) (h27 : -2147483648 ≤ v9 ∧ v9 ≤ 2147483647) (h28 : -2147483648 ≤ v10 ∧ v10 ≤ 2147483647) (h29 : -2147483648 ≤ v11 ∧ v11 ≤ 2147483647) (h30 : -2147483648 ≤ v12 ∧ v12 ≤ 2147483647) (h31 : -9223372036854775808 ≤ v13 ∧ v13 ≤ 9223372036854775807) (h32 : v14 = 4294967296) (h33 : -2147483648 ≤ v15 ∧ v15 ≤ 2147483647) (h34 : -2147483648 ≤ v16 ∧ v16 ≤ 2147483647) (h35 : -2147483648 ≤ v17 ∧ v17 ≤ 2147483647) : v0 = v1 + v2 := by omega
theorem ob458 (v0 : Int) (v1 : Int) (v2 : Int) (v3 : Int) (v4 : Int) (v5 : Int) (v6 : Int) (v7 : Int) (v8 : Int) (v9 : Int) (v10 : Int) (v11 : Int) (v12 : Int) (v13 : Int) (v14 : Int) (v15 : Int) (v16 : Int) (v17 : Int) (h0 : v0 = v1 + v2) (h1 : v3 = v4 + v1) (h2 : 0 ≤ v1) (h3 : 2147483648 - v1 ≤ v5 + 1) (h4 : v1 < v6) (h5 : 0 ≤ v4 ∧ v4 ≤ 3000) (h6 : v7 = (v4 - v8 + 2147483648) % 4294967296 - 2147483648) (h7 : -300 ≤ v6 ∧ v6 ≤ 600) (h8 : v9 + v6 ≤ 3000) (h9 : 0 ≤ v3 ∧ v3 ≤ 3000) (h10 : v10 = (v3 - v11 + 2147483648) % 4294967296 - 2147483648) (h11 : v3 ≤ 2147483646 → v12 = v3 + 1) (h12 : v9 = v13) (h13 : v9 = v13) (h14 : v11 = (v14 + 2147483648) % 4294967296 - 2147483648) (h15 : 0 ≤ v13 ∧ v13 ≤ 3000) (h16 : v14 ≠ v15) (h17 : v16 = v13) (h18 : v17 = (v14 + 2147483648) % 4294967296 - 2147483648) (h19 : -2147483648 ≤ v0 ∧ v0 ≤ 2147483647) (h20 : -2147483648 ≤ v1 ∧ v1 ≤ 2147483647) (h21 : v2 = 1) (h22 : -2147483648 ≤ v3 ∧ v3 ≤ 2147483647) (h23 : -2147483648 ≤ v4 ∧ v4 ≤ 2147483647) (h24 : -2147483648 ≤ v6 ∧ v6 ≤ 2147483647) (h25 : -2147483648 ≤ v7 ∧ v7 ≤ 2147483647) (h26 : -2147483648 ≤ v8 ∧ v8 ≤ 2147483647) (h27 : -2147483648 ≤ v9 ∧ v9 ≤ 2147483647) (h28 : -2147483648 ≤ v10 ∧ v10 ≤ 2147483647) (h29 : -2147483648 ≤ v11 ∧ v11 ≤ 2147483647) (h30 : -2147483648 ≤ v12 ∧ v12 ≤ 2147483647) (h31 : -2147483648 ≤ v13 ∧ v13 ≤ 2147483647) (h32 : -9223372036854775808 ≤ v14 ∧ v14 ≤ 9223372036854775807) (h33 : v15 = 4294967296) (h34 : -2147483648 ≤ v16 ∧ v16 ≤ 2147483647) (h35 : -2147483648 ≤ v17 ∧ v17 ≤ 2147483647) : 0 ≤ v0 := by omega
theorem ob459 (v0 : Int) (v1 : Int) (v2 : Int) (v3 : Int) (v4 : Int) (v5 : Int) (v6 : Int) (v7 : Int) (v8 : Int) (v9 : Int) (v10 : Int) (v11 : Int) (v12 : Int) (v13 : Int) (v14 : Int) (v15 : Int) (v16 : Int) (h0 : v1 ≤ 2147483646 → v0 = v1 + 1) (h1 : v1 = v2 + v3) (h2 : 0 ≤ v1 ∧ v1 ≤ 3000) (h3 : v4 = (v1 - v5 + 2147483648) % 4294967296 - 2147483648) (h4 : 0 ≤ v2 ∧ v2 ≤ 3000) (h5 : v6 = (v2 - v7 + 2147483648) % 4294967296 - 2147483648) (h6 : 0 ≤ v3) (h7 : 2147483648 - v3 ≤ v8 + 1) (h8 : v3 < v9) (h9 : v5 = (v10 + 2147483648) % 4294967296 - 2147483648) (h10 : v11 = v3 + v12) (h11 : -300 ≤ v9 ∧ v9 ≤ 600) (h12 : v10 ≠ v13) (h13 : v14 + v9 ≤ 3000) (h14 : v15 = (v10 + 2147483648) % 4294967296 - 2147483648) (h15 : v14 = v16) (h16 : v14 = v16) (h17 : -2147483648 ≤ v0 ∧ v0 ≤ 2147483647) (h18 : -2147483648 ≤ v1 ∧ v1 ≤ 2147483647) (h19 : -2147483648 ≤ v2 ∧ v2 ≤ 2147483647) (h20 : -2147483648 ≤ v3 ∧ v3 ≤ 2147483647) (h21 : -2147483648 ≤ v4 ∧ v4 ≤ 2147483647) (h22 : -2147483648 ≤ v5 ∧ v5 ≤ 2147483647) (h23 : -2147483648 ≤ v6 ∧ v6 ≤ 2147483647) (h24 : -2147483648 ≤ v7 ∧ v7 ≤ 2147483647) (h25 : -2147483648 ≤ v9 ∧ v9 ≤ 2147483647) (h26 : -9223372036854775808 ≤ v10 ∧ v10 ≤ 9223372036854775807) (h27 : -2147483648 ≤ v11 ∧ v11 ≤ 2147483647) (h28 : v12 = 1) (h29 : v13 = 4294967296) (h30 : -2147483648 ≤ v14 ∧ v14 ≤ 2147483647) (h31 : -2147483648 ≤ v15 ∧ v15 ≤ 2147483647) (h32 : -2147483648 ≤ v16 ∧ v16 ≤ 2147483647) : 0 ≤ v0 ∧ v0 ≤ 3000 := by omega
theorem ob460 (v0 : Int) (v1 : Int) (v2 : Int) (v3 : Int) (v4 : Int) (v5 : Int) (v6 : Int) (v7 : Int) (v8 : Int) (v9 : Int) (h0 : 0 ≤ v1 ∧ v1 ≤ 3000) (h1 : v3 = (v1 - v4 + 2147483648) % 4294967296 - 2147483648) (h2 : v5 ≠ v2) (h3 : v0 = v6) (h4 : 0 ≤ v6 ∧ v6 ≤ 3000) (h5 : v7 = v6) (h6 : v7 = v6) (h7 : v8 = v6) (h8 : v7 + v9 ≤ 3000) (h9 : -300 ≤ v9 ∧ v9 ≤ 600) (h10 : -2147483648 ≤ v0 ∧ v0 ≤ 2147483647) (h11 : -2147483648 ≤ v1 ∧ v1 ≤ 2147483647) (h12 : v2 = 0) (h13 : -2147483648 ≤ v3 ∧ v3 ≤ 2147483647) (h14 : -2147483648 ≤ v4 ∧ v4 ≤ 2147483647) (h15 : -2147483648 ≤ v5 ∧ v5 ≤ 2147483647) (h16 : -2147483648 ≤ v6 ∧ v6 ≤ 2147483647) (h17 : -2147483648 ≤ v7 ∧ v7 ≤ 2147483647) (h18 : -2147483648 ≤ v8 ∧ v8 ≤ 2147483647) (h19 : -2147483648 ≤ v9 ∧ v9 ≤ 2147483647) : v0 = v1 + v2 := by omega
theorem ob461 (v0 : Int) (v1 : Int) (h0 : v1 ≠ v0) (h1 : v0 = 0) (h2 : -2147483648 ≤ v1 ∧ v1 ≤ 2147483647) : 0 ≤ v0 := by omega
theorem ob462 (v0 : Int) (v1 : Int) (v2 : Int) (v3 : Int) (v4 : Int) (h0 : v0 = v1) (h1 : 0 ≤ v1 ∧ v1 ≤ 3000) (h2 : v2 = v1) (h3 : v2 = v1) (h4 : v3 = v1) (h5 : v2 + v4 ≤ 3000) (h6 : -300 ≤ v4 ∧ v4 ≤ 600) (h7 : -2147483648 ≤ v0 ∧ v0 ≤ 2147483647) (h8 : -2147483648 ≤ v1 ∧ v1 ≤ 2147483647) (h9 : -2147483648 ≤ v2 ∧ v2 ≤ 2147483647) (h10 : -2147483648 ≤ v3 ∧ v3 ≤ 2147483647) (h11 : -2147483648 ≤ v4 ∧ v4 ≤ 2147483647) : 0 ≤ v0 ∧ v0 ≤ 3000 := by omega
theorem ob463 (v0 : Int) (v1 : Int) (v2 : Int) (h0 : v1 ≠ v0) (h1 : v0 ≤ v2) (h2 : v0 = 0) (h3 : -2147483648 ≤ v1 ∧ v1 ≤ 2147483647) (h4 : -2147483648 ≤ v2 ∧ v2 ≤ 2147483647) : 0 ≤ v0 ∧ v0 ≤ 1 := by omega
theorem ob464 (v0 : Int) (v1 : Int) (v2 : Int) (v3 : Int) (h0 : v1 ≠ v0) (h1 : v1 ≠ v2) (h2 : v1 = v3) (h3 : v0 = 1) (h4 : -2147483648 ≤ v1 ∧ v1 ≤ 2147483647) (h5 : v2 = 0) (h6 : v3 = 6) : -300 ≤ v0 ∧ v0 ≤ 600 := by omega
theorem ob465 (v0 : Int) (h0 : 0 ≤ v0 ∧ v0 ≤ 3000) (h1 : -2147483648 ≤ v0 ∧ v0 ≤ 2147483647) : 0 ≤ v0 ∧ v0 ≤ 3000 := by omega
theorem ob466 (v0 : Int) (v1 : Int) (v2 : Int) (v3 : Int) (h0 : 0 ≤ v0) (h1 : 2147483648 - v0 ≤ v2 + 1) (h2 : v0 ≤ v3) (h3 : -2147483648 ≤ v0 ∧ v0 ≤ 2147483647) (h4 : v1 = 1) (h5 : v3 = 3000) : -2147483648 ≤ v0 + v1 ∧ v0 + v1 ≤ 2147483647 := by omega
theorem ob467 (v0 : Int) (v1 : Int) (v2 : Int) (v3 : Int) (v4 : Int) (h0 : 2147483648 - v2 ≤ v1 + 1) (h1 : v0 = v2 + v3) (h2 : 0 ≤ v2) (h3 : v2 ≤ v4) (h4 : -2147483648 ≤ v0 ∧ v0 ≤ 2147483647) (h5 : -2147483648 ≤ v2 ∧ v2 ≤ 2147483647) (h6 : v3 = 1) (h7 : v4 = 3000) : 2147483648 - v0 ≤ v1 := by omega
theorem ob468 (v0 : Int) (v1 : Int) (v2 : Int) (v3 : Int) (v4 : Int) (h0 : v0 = v1 + v2) (h1 : 0 ≤ v1) (h2 : 2147483648 - v1 ≤ v3 + 1) (h3 : v1 ≤ v4) (h4 : -2147483648 ≤ v0 ∧ v0 ≤ 2147483647) (h5 : -2147483648 ≤ v1 ∧ v1 ≤ 2147483647) (h6 : v2 = 1) (h7 : v4 = 3000) : 0 ≤ v0 := by omega
theorem ob469 (v0 : Int) (v1 : Int) (v2 : Int) (v3 : Int) (h0 : 0 ≤ v0 ∧ v0 ≤ 3000) (h1 : v1 ≤ v0) (h2 : v2 ≤ v1) (h3 : v3 = v2) (h4 : -2147483648 ≤ v0 ∧ v0 ≤ 2147483647) (h5 : -2147483648 ≤ v1 ∧ v1 ≤ 2147483647) (h6 : v2 = 0) (h7 : -2147483648 ≤ v3 ∧ v3 ≤ 2147483647) : 0 ≤ v0 ∧ v0 ≤ 3000 := by omega
theorem ob470 (v0 : Int) (v1 : Int) (h0 : v0 = v1) (h1 : -2147483648 ≤ v0 ∧ v0 ≤ 2147483647) (h2 : -2147483648 ≤ v1 ∧ v1 ≤ 2147483647) : 0 ≤ v0 ∧ v0 ≤ 3000 := by omega
theorem ob471 (v0 : Int) (h0 : v0 = 1) : 1 ≤ v0 ∧ v0 ≤ 2 := by omega
theorem ob472 (v0 : Int) (v1 : Int) (v2 : Int) (v3 : Int) (v4 : Int) (h0 : v2 = (v3 + v1 + 2147483648) % 4294967296 - 2147483648) (h1 : 0 ≤ v0) (h2 : 2147483648 - v0 ≤ v4 + 1) (h3 : v0 < v2) (h4 : -2147483648 ≤ v0 ∧ v0 ≤ 2147483647) (h5 : v1 = 1) (h6 : -2147483648 ≤ v2 ∧ v2 ≤ 2147483647) (h7 : -2147483648 ≤ v3 ∧ v3 ≤ 2147483647) : -2147483648 ≤ v0 + v1 ∧ v0 + v1 ≤ 2147483647 := by omega
theorem ob473 (v0 : Int) (v1 : Int) (v2 : Int) (v3 : Int) (v4 : Int) (v5 : Int) (h0 : 2147483648 - v2 ≤ v1 + 1) (h1 : v0 = v2 + v3) (h2 : v4 = (v5 + v3 + 2147483648) % 4294967296 - 2147483648) (h3 : 0 ≤ v2) (h4 : v2 < v4) (h5 : -2147483648 ≤ v0 ∧ v0 ≤ 2147483647) (h6 : -2147483648 ≤ v2 ∧ v2 ≤ 2147483647) (h7 : v3 = 1) (h8 : -2147483648 ≤ v4 ∧ v4 ≤ 2147483647) (h9 : -2147483648 ≤ v5 ∧ v5 ≤ 2147483647) : 2147483648 - v0 ≤ v1 := by omega
theorem ob474 (v0 : Int) (v1 : Int) (v2 : Int) (v3 : Int) (v4 : Int) (v5 : Int) (h0 : v0 = v1 + v2) (h1 : v3 = (v4 + v2 + 2147483648) % 4294967296 - 2147483648) (h2 : 0 ≤ v1) (h3 : 2147483648 - v1 ≤ v5 + 1) (h4 : v1 < v3) (h5 : -2147483648 ≤ v0 ∧ v0 ≤ 2147483647) (h6 : -2147483648 ≤ v1 ∧ v1 ≤ 2147483647) (h7 : v2 = 1) (h8 : -2147483648 ≤ v3 ∧ v3 ≤ 2147483647) (h9 : -2147483648 ≤ v4 ∧ v4 ≤ 2147483647) : 0 ≤ v0 := by omega
theorem ob475 (v0 : Int) (v1 : Int) (v2 : Int) (v3 : Int) (h0 : v1 ≤ 2147483646 → v0 = v1 + 1) (h1 : v1 = v2) (h2 : 0 ≤ v2 ∧ v2 ≤ 3000) (h3 : v3 = v2) (h4 : -2147483648 ≤ v0 ∧ v0 ≤ 2147483647) (h5 : -2147483648 ≤ v1 ∧ v1 ≤ 2147483647) (h6 : -2147483648 ≤ v2 ∧ v2 ≤ 2147483647) (h7 : -2147483648 ≤ v3 ∧ v3 ≤ 2147483647) : 0 ≤ v0 ∧ v0 ≤ 3000 := by omega
theorem ob476 (v0 : Int) (v1 : Int) (v2 : Int) (v3 : Int) (h0 : v0 = v1) (h1 : 0 ≤ v1 ∧ v1 ≤ 3000) (h2 : v2 = v1) (h3 : v3 ≤ v1) (h4 : -2147483648 ≤ v0 ∧ v0 ≤ 2147483647) (h5 : -2147483648 ≤ v1 ∧ v1 ≤ 2147483647) (h6 : -2147483648 ≤ v2 ∧ v2 ≤ 2147483647) (h7 : v3 = 3000) : 0 ≤ v0 ∧ v0 ≤ 3000 := by omega
theorem ob477 (v0 : Int) (v1 : Int) (v2 : Int) (v3 : Int) (h0 : v0 = v1 % 32) (h1 : v2 = v1 / 32) (h2 : v3 = v2 % 4) (h3 : -2147483648 ≤ v0 ∧ v0 ≤ 2147483647) (h4 : -2147483648 ≤ v1 ∧ v1 ≤ 2147483647) (h5 : -2147483648 ≤ v2 ∧ v2 ≤ 2147483647) (h6 : -2147483648 ≤ v3 ∧ v3 ≤ 2147483647) : -2147483648 ≤ v0 * 65536 ∧ v0 * 65536 ≤ 2147483647 := by omega
theorem ob478 (v0 : Int) (v1 : Int) (v2 : Int) (v3 : Int) (h0 : v0 = v1) (h1 : 0 ≤ v1 ∧ v1 ≤ 3000) (h2 : v2 = v1) (h3 : v3 = v1) (h4 : -2147483648 ≤ v0 ∧ v0 ≤ 2147483647) (h5 : -2147483648 ≤ v1 ∧ v1 ≤ 2147483647) (h6 : -2147483648 ≤ v2 ∧ v2 ≤ 2147483647) (h7 : -2147483648 ≤ v3 ∧ v3 ≤ 2147483647) : 0 ≤ v0 ∧ v0 ≤ 3000 := by omega
theorem ob479 (v0 : Int) (v1 : Int) (v2 : Int) (v3 : Int) (v4 : Int) (v5 : Int) (v6 : Int) (h0 : 0 ≤ v0) (h1 : 2147483648 - v0 ≤ v2 + 1) (h2 : v0 < v3) (h3 : v4 = (v5 + v1 + 2147483648) % 4294967296 - 2147483648) (h4 : v6 = v5) (h5 : -2147483648 ≤ v0 ∧ v0 ≤ 2147483647) (h6 : v1 = 1) (h7 : v3 = 1500) (h8 : -2147483648 ≤ v4 ∧ v4 ≤ 2147483647) (h9 : -2147483648 ≤ v5 ∧ v5 ≤ 2147483647) (h10 : -2147483648 ≤ v6 ∧ v6 ≤ 2147483647) : -2147483648 ≤ v0 + v1 ∧ v0 + v1 ≤ 2147483647 := by omega
theorem ob480 (v0 : Int) (v1 : Int) (v2 : Int) (v3 : Int) (v4 : Int) (v5 : Int) (v6 : Int) (v7 : Int) (h0 : 2147483648 - v2 ≤ v1 + 1) (h1 : v0 = v2 + v3) (h2 : 0 ≤ v2) (h3 : v2 < v4) (h4 : v5 = (v6 + v3 + 2147483648) % 4294967296 - 2147483648) (h5 : v7 = v6) (h6 : -2147483648 ≤ v0 ∧ v0 ≤ 2147483647) (h7 : -2147483648 ≤ v2 ∧ v2 ≤ 2147483647) (h8 : v3 = 1) (h9 : v4 = 1500) (h10 : -2147483648 ≤ v5 ∧ v5 ≤ 2147483647) (h11 : -2147483648 ≤ v6 ∧ v6 ≤ 2147483647) (h12 : -2147483648 ≤ v7 ∧ v7 ≤ 2147483647) : 2147483648 - v0 ≤ v1 := by omega
theorem ob481 (v0 : Int) (v1 : Int) (v2 : Int) (v3 : Int) (v4 : Int) (v5 : Int) (v6 : Int) (v7 : Int) (h0 : v0 = v1 + v2) (h1 : 0 ≤ v1) (h2 : 2147483648 - v1 ≤ v3 + 1) (h3 : v1 < v4) (h4 : v5 = (v6 + v2 + 2147483648) % 4294967296 - 2147483648) (h5 : v7 = v6) (h6 : -2147483648 ≤ v0 ∧ v0 ≤ 2147483647) (h7 : -2147483648 ≤ v1 ∧ v1 ≤ 2147483647) (h8 : v2 = 1) (h9 : v4 = 1500) (h10 : -2147483648 ≤ v5 ∧ v5 ≤ 2147483647) (h11 : -2147483648 ≤ v6 ∧ v6 ≤ 2147483647) (h12 : -2147483648 ≤ v7 ∧ v7 ≤ 2147483647) : 0 ≤ v0 := by omega
theorem ob482 (v0 : Int) (v1 : Int) (v2 : Int) (v3 : Int) (v4 : Int) (h0 : v0 = v1) (h1 : 0 ≤ v1 ∧ v1 ≤ 3000) (h2 : v2 = v1) (h3 : v3 = (v1 + v4 + 2147483648) % 4294967296 - 2147483648) (h4 : -2147483648 ≤ v0 ∧ v0 ≤ 2147483647) (h5 : -2147483648 ≤ v1 ∧ v1 ≤ 2147483647) (h6 : -2147483648 ≤ v2 ∧ v2 ≤ 2147483647) (h7 : -2147483648 ≤ v3 ∧ v3 ≤ 2147483647) (h8 : -2147483648 ≤ v4 ∧ v4 ≤ 2147483647) : 0 ≤ v0 ∧ v0 ≤ 3000 := by omega
theorem ob483 (v0 : Int) (v1 : Int) (h0 : 0 ≤ v0 ∧ v0 ≤ 3000) (h1 : 0 ≤ v1 ∧ v1 ≤ 3000) (h2 : -2147483648 ≤ v0 ∧ v0 ≤ 2147483647) (h3 : -2147483648 ≤ v1 ∧ v1 ≤ 2147483647) : -2147483648 ≤ v0 - v1 ∧ v0 - v1 ≤ 2147483647 := by omega
theorem ob484 (v0 : Int) (v1 : Int) (v2 : Int) (h0 : v0 = v1 - v2) (h1 : 0 ≤ v1 ∧ v1 ≤ 3000) (h2 : 0 ≤ v2 ∧ v2 ≤ 3000) (h3 : -2147483648 ≤ v0 ∧ v0 ≤ 2147483647) (h4 : -2147483648 ≤ v1 ∧ v1 ≤ 2147483647) (h5 : -2147483648 ≤ v2 ∧ v2 ≤ 2147483647) : -3000 ≤ v0 ∧ v0 ≤ 3000 := by omega
theorem ob485 (v0 : Int) (v1 : Int) (v2 : Int) (h0 : v1 = v0) (h1 : v1 ≠ v2) (h2 : v0 = 1) (h3 : -2147483648 ≤ v1 ∧ v1 ≤ 2147483647) (h4 : v2 = 0) : 0 ≤ v0 ∧ v0 ≤ 1 := by omega
theorem ob486 (v0 : Int) (v1 : Int) (v2 : Int) (v3 : Int) (h0 : v1 ≠ v0) (h1 : v1 ≠ v2) (h2 : v1 = v3) (h3 : v0 = 1) (h4 : -2147483648 ≤ v1 ∧ v1 ≤ 2147483647) (h5 : v2 = 0) (h6 : v3 = 4) : 0 ≤ v0 ∧ v0 ≤ 1 := by omega
theorem ob487 (v0 : Int) (v1 : Int) (v2 : Int) (v3 : Int) (v4 : Int) (h0 : v1 ≠ v0) (h1 : v1 ≠ v2) (h2 : v1 ≠ v3) (h3 : v1 ≠ v4) (h4 : v0 = 0) (h5 : -2147483648 ≤ v1 ∧ v1 ≤ 2147483647) (h6 : v2 = 1) (h7 : v3 = 4) (h8 : v4 = 10) : 0 ≤ v0 ∧ v0 ≤ 1 := by omega
theorem ob488 (v0 : Int) (v1 : Int) (v2 : Int) (v3 : Int) (v4 : Int) (h0 : v1 ≠ v0) (h1 : v1 ≠ v2) (h2 : v1 ≠ v3) (h3 : v1 = v4) (h4 : v0 = 1) (h5 : -2147483648 ≤ v1 ∧ v1 ≤ 2147483647) (h6 : v2 = 0) (h7 : v3 = 4) (h8 : v4 = 10) : 0 ≤ v0 ∧ v0 ≤ 1 := by omega
theorem ob489 (v0 : Int) (h0 : 0 ≤ v0 ∧ v0 ≤ 255) (h1 : -2147483648 ≤ v0 ∧ v0 ≤ 2147483647) : -2147483648 ≤ v0 * 4 ∧ v0 * 4 ≤ 2147483647 := by omega
theorem ob490 (v0 : Int) (v1 : Int) (v2 : Int) (h0 : v0 = v2 * 4) (h1 : 0 ≤ v2 ∧ v2 ≤ 255) (h2 : -2147483648 ≤ v0 ∧ v0 ≤ 2147483647) (h3 : v1 = 4) (h4 : -2147483648 ≤ v2 ∧ v2 ≤ 2147483647) : -2147483648 ≤ v0 + v1 ∧ v0 + v1 ≤ 2147483647 := by omega
theorem ob491 (v0 : Int) (v1 : Int) (v2 : Int) (v3 : Int) (h0 : v0 = v1 % 4) (h1 : v1 + 2147483649 ≤ v2 + 1) (h2 : v3 ≤ v1) (h3 : -2147483648 ≤ v0 ∧ v0 ≤ 2147483647) (h4 : -2147483648 ≤ v1 ∧ v1 ≤ 2147483647) (h5 : v3 = 0) : 0 ≤ v0 ∧ v0 < (4 : Nat) := by omega
theorem ob492 (v0 : Int) (v1 : Int) (v2 : Int) (v3 : Int) (v4 : Int) (h0 : v0 + 2147483649 ≤ v2 + 1) (h1 : v3 ≤ v0) (h2 : v4 = v0 % 4) (h3 : -2147483648 ≤ v0 ∧ v0 ≤ 2147483647) (h4 : v1 = (-1)) (h5 : v3 = 0) (h6 : -2147483648 ≤ v4 ∧ v4 ≤ 2147483647) : -2147483648 ≤ v0 + v1 ∧ v0 + v1 ≤ 2147483647 := by omega
theorem ob493 (v0 : Int) (v1 : Int) (v2 : Int) (v3 : Int) (v4 : Int) (v5 : Int) (h0 : v2 + 2147483649 ≤ v1 + 1) (h1 : v0 = v2 + v3) (h2 : v4 ≤ v2) (h3 : v5 = v2 % 4) (h4 : -2147483648 ≤ v0 ∧ v0 ≤ 2147483647) (h5 : -2147483648 ≤ v2 ∧ v2 ≤ 2147483647) (h6 : v3 = (-1)) (h7 : v4 = 0) (h8 : -2147483648 ≤ v5 ∧ v5 ≤ 2147483647) : v0 + 2147483649 ≤ v1 := by omega
theorem ob494 (v0 : Int) (h0 : 0 ≤ v0 ∧ v0 ≤ 3000) (h1 : -2147483648 ≤ v0 ∧ v0 ≤ 2147483647) : -1000000000 ≤ v0 ∧ v0 ≤ 1000000000 := by omega
theorem ob495 (v0 : Int) (h0 : v0 ≤ 3000) (h1 : -2147483648 ≤ v0 ∧ v0 ≤ 2147483647) : v0 ≤ 1000000000 := by omega
theorem ob496 (v0 : Int) (v1 : Int) (v2 : Int) (v3 : Int) (v4 : Int) (h0 : v0 = v1 % 4) (h1 : v1 + 2147483649 ≤ v2 + 1) (h2 : v3 ≤ v1) (h3 : v4 = v1 % 4) (h4 : -2147483648 ≤ v0 ∧ v0 ≤ 2147483647) (h5 : -2147483648 ≤ v1 ∧ v1 ≤ 2147483647) (h6 : v3 = 0) (h7 : -2147483648 ≤ v4 ∧ v4 ≤ 2147483647) : 0 ≤ v0 ∧ v0 < (4 : Nat) := by omega
theorem ob497 (v0 : Int) (v1 : Int) (v2 : Int) (v3 : Int) (h0 : 0 ≤ v0 ∧ v0 ≤ 3000) (h1 : v1 = v2 - v0) (h2 : v3 = v0) (h3 : 0 ≤ v2 ∧ v2 ≤ 3000) (h4 : -2147483648 ≤ v0 ∧ v0 ≤ 2147483647) (h5 : -2147483648 ≤ v1 ∧ v1 ≤ 2147483647) (h6 : -2147483648 ≤ v2 ∧ v2 ≤ 2147483647) (h7 : -2147483648 ≤ v3 ∧ v3 ≤ 2147483647) : 0 ≤ v0 ∧ v0 ≤ 3000 := by omega
theorem ob498 (v0 : Int) (v1 : Int) (v2 : Int) (v3 : Int) (v4 : Int) (h0 : v0 = v1) (h1 : 0 ≤ v1 ∧ v1 ≤ 3000) (h2 : v2 = v1 - v3) (h3 : 0 ≤ v3 ∧ v3 ≤ 3000) (h4 : v4 = v3) (h5 : -2147483648 ≤ v0 ∧ v0 ≤ 2147483647) (h6 : -2147483648 ≤ v1 ∧ v1 ≤ 2147483647) (h7 : -2147483648 ≤ v2 ∧ v2 ≤ 2147483647) (h8 : -2147483648 ≤ v3 ∧ v3 ≤ 2147483647) (h9 : -2147483648 ≤ v4 ∧ v4 ≤ 2147483647) : v0 ≤ 3000 := by omega
theorem ob499 (v0 : Int) (h0 : 1 ≤ v0) (h1 : 2147483648 - v0 ≤ 0) (h2 : -2147483648 ≤ v0 ∧ v0 ≤ 2147483647) : (0 * v0) ≤ -1 := by omega
theorem ob500 (v0 : Int) (v1 : Int) (v2 : Int) (v3 : Int) (v4 : Int) (h0 : 1 ≤ v0) (h1 : 2147483648 - v0 ≤ v2 + 1) (h2 : v0 < v3) (h3 : v4 = v3) (h4 : -2147483648 ≤ v0 ∧ v0 ≤ 2147483647) (h5 : v1 = 1) (h6 : -2147483648 ≤ v3 ∧ v3 ≤ 2147483647) (h7 : -2147483648 ≤ v4 ∧ v4 ≤ 2147483647) : -2147483648 ≤ v0 + v1 ∧ v0 + v1 ≤ 2147483647 := by omega
theorem ob501 (v0 : Int) (v1 : Int) (v2 : Int) (v3 : Int) (v4 : Int) (v5 : Int) (h0 : 2147483648 - v2 ≤ v1 + 1) (h1 : v0 = v2 + v3) (h2 : 1 ≤ v2) (h3 : v2 < v4) (h4 : v5 = v4) (h5 : -2147483648 ≤ v0 ∧ v0 ≤ 2147483647) (h6 : -2147483648 ≤ v2 ∧ v2 ≤ 2147483647) (h7 : v3 = 1) (h8 : -2147483648 ≤ v4 ∧ v4 ≤ 2147483647) (h9 : -2147483648 ≤ v5 ∧ v5 ≤ 2147483647) : 2147483648 - v0 ≤ v1 := by omega
theorem ob502 (v0 : Int) (v1 : Int) (v2 : Int) (v3 : Int) (v4 : Int) (v5 : Int) (h0 : v0 = v1 + v2) (h1 : 1 ≤ v1) (h2 : 2147483648 - v1 ≤ v3 + 1) (h3 : v1 < v4) (h4 : v5 = v4) (h5 : -2147483648 ≤ v0 ∧ v0 ≤ 2147483647) (h6 : -2147483648 ≤ v1 ∧ v1 ≤ 2147483647) (h7 : v2 = 1) (h8 : -2147483648 ≤ v4 ∧ v4 ≤ 2147483647) (h9 : -2147483648 ≤ v5 ∧ v5 ≤ 2147483647) : 1 ≤ v0 := by omega
theorem ob503 (v0 : Int) (h0 : v0 = 1) : 1 ≤ v0 := by omega
set_option maxHeartbeats 4000000 in
set_option maxRecDepth 100000 in
/-- X6_begin on (25,) -/
theorem jx_X6_begin (l : Launch) (hlt : l.stackTraces = false) (D : va_G) (t3 : Nat × Nat × Nat) (cI cJ : ClassId) (ad : Nat → Nat) (g : Nat → Int32) (lg : Nat → Int64) (ar : Nat → Nat → Int32) (bk : Nat → Int64) (sz : Nat) (y1 : Int32) (hi_g26 : 0 ≤ (g 26).toInt ∧ (g 26).toInt ≤ 200) (hi_g21 : 0 ≤ (g 21).toInt ∧ (g 21).toInt ≤ 4) (hi_g22 : 0 ≤ (g 22).toInt ∧ (g 22).toInt ≤ 4) : JMv l yX6_begin (Cond.code yX6_begin cX6_begin 2 none :: wwX) { frames := 3, cells := 1, slots := 6, locals := 67 } t3 D xw cI cJ ad [.ref (ad 25), .int y1] (xw cI cJ ad g lg ar bk) sz 1 6 (fun g' lg' ar' bk' => hk_fr [14, 15, 16, 17, 21, 22, 23, 24, 25, 26, 43, 51, 52] g g' ∧ hk_fr [3] lg lg' ∧ hk_fr [2] ar ar' ∧ True ∧ (0 ≤ (g' 26).toInt ∧ (g' 26).toInt ≤ 200) ∧ (0 ≤ (g' 21).toInt ∧ (g' 21).toInt ≤ 4) ∧ (0 ≤ (g' 22).toInt ∧ (g' 22).toInt ≤ 4)) (fun g' lg' ar' bk' => False) := by
  refine jx_metv (cc := cX6_begin) (maxL := 2) (ret := none) rfl (by decide) rfl (Nat.le_of_ble_eq_true rfl) ?_
  intro p e s m args below meth c ls Q A hx hb hml hown hts hA hZ hw hl hQ kr kt
  have hq : ∀ w ∈ wwX, w.before args s = true := fun w h => hts w (List.mem_cons_of_mem _ h)
  have hl : lv_has ls 2 [(0, .ref (ad 25)), (1, .int y1)] := hl
  refine lv_aload_n hx hb dX6_begin_0 rfl (lv_at hl 0 rfl) ?_
  refine hk_get (ci := 9) (C := RX6) (T := TX6) (N := 16) (v := .ref (ad 6)) hx hb hts (fun _ h => List.mem_cons_of_mem _ (wwXc_wsX60 _ h)) hown hw 25 rfl rfl 0 (by decide) (hq _ wX_399) rfl dX6_begin_1 ?_
  refine jx_Vv (As := []) (rest := []) ⟨hx, hb, hml, hown, hts⟩ hZ hw hA (jx_X8_begin l hlt D t3 cI cJ ad g lg ar bk _) (cwV 0 hts (jx_gV wwX_good wX_406 wX_407 wX_408 wX_252 wX_409) rfl rfl rfl (by decide +kernel) ⟨Nat.le_of_ble_eq_true rfl, Nat.le_of_ble_eq_true rfl⟩) 6 (ci := 11) (T := TX8) (N := 4) rfl rfl rfl hl.1 rfl (Nat.le_of_ble_eq_true rfl) dX6_begin_4 ⟨Nat.le_of_ble_eq_true rfl, Nat.le_of_ble_eq_true rfl⟩ (fun _ _ _ _ _ _ _ _ hp _ _ _ _ => hp.elim) (fun g6 l7 a8 b9 H locs hp10 hw => ?_)
  obtain ⟨h11, rfl, rfl, rfl⟩ := hp10
  refine lv_aload_n hx hb dX6_begin_7 rfl (lv_at hl 0 rfl) ?_
  refine hk_get (ci := 9) (C := RX6) (T := TX6) (N := 16) (v := .ref (ad 4)) hx hb hts (fun _ h => List.mem_cons_of_mem _ (wwXc_wsX60 _ h)) hown hw 25 rfl rfl 1 (by decide) (hq _ wX_410) rfl dX6_begin_8 ?_
  refine lv_iconst (v := 0) hx hb dX6_begin_11 (by decide) ?_
  refine jx_putg xw (g := g6) (lg := lg) (ar := ar) (bk := bk) (x := 0) 14 (ci := 12) (C := RX9) (T := TX9) (N := 2) (ty := .int) hx hb hts (fun _ h => List.mem_cons_of_mem _ (wwXc_wsX90 _ h)) tyX9 tyX9_ok nmX9 hown hw 4 rfl rfl 1 (by decide) (hq _ wX_402) rfl (by decide +kernel) rfl rfl (Nat.le_of_ble_eq_true rfl) dX6_begin_12 rfl (fun H locs g15 h_g15 hw => ?_)
  refine lv_aload_n hx hb dX6_begin_15 rfl (lv_at hl 0 rfl) ?_
  refine hk_get (ci := 9) (C := RX6) (T := TX6) (N := 16) (v := .ref (ad 15)) hx hb hts (fun _ h => List.mem_cons_of_mem _ (wwXc_wsX60 _ h)) hown hw 25 rfl rfl 4 (by decide) (hq _ wX_411) rfl dX6_begin_16 ?_
  have e_g15_26 : g15 26 = (g 26) := ((hk_upgN h_g15 26 rfl)).trans (h11 26 rfl)
  refine jx_Vv (As := []) (rest := []) ⟨hx, hb, hml, hown, hts⟩ hZ hw hA (jx_X4_clear l hlt D t3 cI cJ ad g15 lg ar bk _ (ob346 ((g15 26).toInt) ((g 26).toInt) (congrArg Int32.toInt e_g15_26) hi_g26 (hE_rng (g15 26)) (hE_rng (g 26)))) (cwV 0 hts (jx_gV wwX_good wX_412 wX_108 wX_109 wX_69 wX_110) rfl rfl rfl (by decide +kernel) ⟨Nat.le_of_ble_eq_true rfl, Nat.le_of_ble_eq_true rfl⟩) 15 (ci := 7) (T := TX4) (N := 4) rfl rfl rfl hl.1 rfl (Nat.le_of_ble_eq_true rfl) dX6_begin_19 ⟨Nat.le_of_ble_eq_true rfl, Nat.le_of_ble_eq_true rfl⟩ (fun _ _ _ _ _ _ _ _ hp _ _ _ _ => hp.elim) (fun g21 l22 a23 b24 H locs hp25 hw => ?_)
  obtain ⟨h26, rfl, rfl, rfl, h30⟩ := hp25
  refine lv_aload_n hx hb dX6_begin_22 rfl (lv_at hl 0 rfl) ?_
  refine hk_get (ci := 9) (C := RX6) (T := TX6) (N := 16) (v := .ref (ad 9)) hx hb hts (fun _ h => List.mem_cons_of_mem _ (wwXc_wsX60 _ h)) hown hw 25 rfl rfl 2 (by decide) (hq _ wX_413) rfl dX6_begin_23 ?_
  refine lv_iconst (v := 0) hx hb dX6_begin_26 (by decide) ?_
  refine lv_iconst (v := 0) hx hb dX6_begin_27 (by decide) ?_
  refine lv_iconst (v := 0) hx hb dX6_begin_28 (by decide) ?_
  have e_g21_21 : g21 21 = (g 21) := ((h26 21 rfl)).trans (((hk_upgN h_g15 21 rfl)).trans (h11 21 rfl))
  have e_g21_22 : g21 22 = (g 22) := ((h26 22 rfl)).trans (((hk_upgN h_g15 22 rfl)).trans (h11 22 rfl))
  refine jx_Vv (As := [.int 0, .int 0, .int 0]) (rest := []) ⟨hx, hb, hml, hown, hts⟩ hZ hw hA (jx_X5_use l hlt D t3 cI cJ ad g21 lg ar bk _ 0 0 0 (ob440 (((0 : Int32)).toInt) (by decide)) (ob440 (((0 : Int32)).toInt) (by decide)) (ob82 ((g21 21).toInt) ((g 21).toInt) (congrArg Int32.toInt e_g21_21) hi_g21 (hE_rng (g21 21)) (hE_rng (g 21))) (ob82 ((g21 22).toInt) ((g 22).toInt) (congrArg Int32.toInt e_g21_22) hi_g22 (hE_rng (g21 22)) (hE_rng (g 22)))) (cwV 3 hts (jx_gV wwX_good wX_414 wX_415 wX_416 wX_215 wX_417) rfl rfl rfl (by decide +kernel) ⟨Nat.le_of_ble_eq_true rfl, Nat.le_of_ble_eq_true rfl⟩) 9 (ci := 8) (T := TX5) (N := 6) rfl rfl rfl hl.1 rfl (Nat.le_of_ble_eq_true rfl) dX6_begin_29 ⟨Nat.le_of_ble_eq_true rfl, Nat.le_of_ble_eq_true rfl⟩ (fun _ _ _ _ _ _ _ _ hp _ _ _ _ => hp.elim) (fun g36 l37 a38 b39 H locs hp40 hw => ?_)
  obtain ⟨h41, rfl, rfl, rfl, h45, h46⟩ := hp40
  refine lv_aload_n hx hb dX6_begin_32 rfl (lv_at hl 0 rfl) ?_
  refine hk_get (ci := 9) (C := RX6) (T := TX6) (N := 16) (v := .ref (ad 9)) hx hb hts (fun _ h => List.mem_cons_of_mem _ (wwXc_wsX60 _ h)) hown hw 25 rfl rfl 2 (by decide) (hq _ wX_413) rfl dX6_begin_33 ?_
  refine jx_Vv (As := []) (rest := []) ⟨hx, hb, hml, hown, hts⟩ hZ hw hA (jx_X5_reset l hlt D t3 cI cJ ad g36 lg ar bk _ (ob348 ((g36 21).toInt) h45 (hE_rng (g36 21))) (ob348 ((g36 22).toInt) h46 (hE_rng (g36 22)))) (cwV 0 hts (jx_gV wwX_good wX_418 wX_419 wX_420 wX_215 wX_421) rfl rfl rfl (by decide +kernel) ⟨Nat.le_of_ble_eq_true rfl, Nat.le_of_ble_eq_true rfl⟩) 9 (ci := 8) (T := TX5) (N := 6) rfl rfl rfl hl.1 rfl (Nat.le_of_ble_eq_true rfl) dX6_begin_36 ⟨Nat.le_of_ble_eq_true rfl, Nat.le_of_ble_eq_true rfl⟩ (fun _ _ _ _ _ _ _ _ hp _ _ _ _ => hp.elim) (fun g52 l53 a54 b55 H locs hp56 hw => ?_)
  obtain ⟨h57, rfl, h59, -⟩ := hp56
  refine lv_aload_n hx hb dX6_begin_39 rfl (lv_at hl 0 rfl) ?_
  refine lv_iload_n hx hb dX6_begin_40 rfl (lv_at hl 1 rfl) ?_
  refine lv_i2l hx hb dX6_begin_41 rfl (jx_nl fun z61 hz61 => ?_)
  refine jx_putl xw (g := g52) (lg := lg) (ar := a54) (bk := b55) (x := z61) 3 (ci := 9) (C := RX6) (T := TX6) (N := 16) (ty := .long) hx hb hts (fun _ h => List.mem_cons_of_mem _ (wwXc_wsX60 _ h)) tyX6 tyX6_ok nmX6 hown hw 25 rfl rfl 7 (by decide) (hq _ wX_405) rfl (by decide +kernel) rfl rfl (Nat.le_of_ble_eq_true rfl) dX6_begin_42 rfl (fun H locs l62 h_l62 hw => ?_)
  refine lv_aload_n hx hb dX6_begin_45 rfl (lv_at hl 0 rfl) ?_
  refine lv_iconst (v := 0) hx hb dX6_begin_46 (by decide) ?_
  refine jx_putg xw (g := g52) (lg := l62) (ar := a54) (bk := b55) (x := 0) 43 (ci := 9) (C := RX6) (T := TX6) (N := 16) (ty := .int) hx hb hts (fun _ h => List.mem_cons_of_mem _ (wwXc_wsX60 _ h)) tyX6 tyX6_ok nmX6 hown hw 25 rfl rfl 9 (by decide) (hq _ wX_422) rfl (by decide +kernel) rfl rfl (Nat.le_of_ble_eq_true rfl) dX6_begin_47 rfl (fun H locs g63 h_g63 hw => ?_)
  refine lv_aload_n hx hb dX6_begin_50 rfl (lv_at hl 0 rfl) ?_
  refine hk_get (ci := 9) (C := RX6) (T := TX6) (N := 16) (v := .ref (ad 26)) hx hb hts (fun _ h => List.mem_cons_of_mem _ (wwXc_wsX60 _ h)) hown hw 25 rfl rfl 5 (by decide) (hq _ wX_423) rfl dX6_begin_51 ?_
  refine lv_iconst (v := 0) hx hb dX6_begin_54 (by decide) ?_
  refine jx_putg xw (g := g63) (lg := l62) (ar := a54) (bk := b55) (x := 0) 51 (ci := 6) (C := RX3) (T := TX3) (N := 9) (ty := .int) hx hb hts (fun _ h => List.mem_cons_of_mem _ (wwXc_wsX30 _ h)) tyX3 tyX3_ok nmX3 hown hw 26 rfl rfl 4 (by decide) (hq _ wX_424) rfl (by decide +kernel) rfl rfl (Nat.le_of_ble_eq_true rfl) dX6_begin_55 rfl (fun H locs g64 h_g64 hw => ?_)
  refine lv_aload_n hx hb dX6_begin_58 rfl (lv_at hl 0 rfl) ?_
  refine hk_get (ci := 9) (C := RX6) (T := TX6) (N := 16) (v := .ref (ad 26)) hx hb hts (fun _ h => List.mem_cons_of_mem _ (wwXc_wsX60 _ h)) hown hw 25 rfl rfl 5 (by decide) (hq _ wX_423) rfl dX6_begin_59 ?_
  refine lv_iconst (v := 0) hx hb dX6_begin_62 (by decide) ?_
  refine jx_putg xw (g := g64) (lg := l62) (ar := a54) (bk := b55) (x := 0) 52 (ci := 6) (C := RX3) (T := TX3) (N := 9) (ty := .int) hx hb hts (fun _ h => List.mem_cons_of_mem _ (wwXc_wsX30 _ h)) tyX3 tyX3_ok nmX3 hown hw 26 rfl rfl 5 (by decide) (hq _ wX_425) rfl (by decide +kernel) rfl rfl (Nat.le_of_ble_eq_true rfl) dX6_begin_63 rfl (fun H locs g65 h_g65 hw => ?_)
  have e_g65_26 : g65 26 = (g21 26) := ((hk_upgN h_g65 26 rfl)).trans (((hk_upgN h_g64 26 rfl)).trans (((hk_upgN h_g63 26 rfl)).trans (((h57 26 rfl)).trans (h41 26 rfl))))
  have e_g65_21 : g65 21 = (g36 21) := ((hk_upgN h_g65 21 rfl)).trans (((hk_upgN h_g64 21 rfl)).trans (((hk_upgN h_g63 21 rfl)).trans (h57 21 rfl)))
  have e_g65_22 : g65 22 = (g36 22) := ((hk_upgN h_g65 22 rfl)).trans (((hk_upgN h_g64 22 rfl)).trans (((hk_upgN h_g63 22 rfl)).trans (h57 22 rfl)))
  exact kr g65 l62 a54 b55 _ _ _ _ ⟨(hk_frG (hk_frG (hk_frG (hk_frT (hk_frT (hk_frT (hk_frG (hk_frT hk_fr0 (by decide) h11) (by decide) h_g15) (by decide) h26) (by decide) h41) (by decide) h57) (by decide) h_g63) (by decide) h_g64) (by decide) h_g65), (hk_frL hk_fr0 (by decide) h_l62), h59, trivial, (ob346 ((g65 26).toInt) ((g21 26).toInt) (congrArg Int32.toInt e_g65_26) h30 (hE_rng (g65 26)) (hE_rng (g21 26))), (ob82 ((g65 21).toInt) ((g36 21).toInt) (congrArg Int32.toInt e_g65_21) h45 (hE_rng (g65 21)) (hE_rng (g36 21))), (ob82 ((g65 22).toInt) ((g36 22).toInt) (congrArg Int32.toInt e_g65_22) h46 (hE_rng (g65 22)) (hE_rng (g36 22)))⟩ hw dX6_begin_66

set_option maxHeartbeats 4000000 in
set_option maxRecDepth 100000 in
/-- X6_askMemory on (25,) -/
theorem jx_X6_askMemory (l : Launch) (hlt : l.stackTraces = false) (D : va_G) (t3 : Nat × Nat × Nat) (cI cJ : ClassId) (ad : Nat → Nat) (g : Nat → Int32) (lg : Nat → Int64) (ar : Nat → Nat → Int32) (bk : Nat → Int64) (sz : Nat) (y1 : Int64) : JMv l yX6_askMemory (Cond.code yX6_askMemory cX6_askMemory 3 none :: wwX) { frames := 7, cells := 1, slots := 6, locals := 102 } t3 D xw cI cJ ad [.ref (ad 25), .long y1] (xw cI cJ ad g lg ar bk) sz 1 6 (fun g' lg' ar' bk' => hk_fr [17] g g' ∧ hk_fr [4] lg lg' ∧ ar = ar' ∧ bk = bk') (fun g' lg' ar' bk' => hk_fr [17] g g' ∧ hk_fr [4] lg lg' ∧ ar = ar' ∧ bk = bk') := by
  refine jx_metv (cc := cX6_askMemory) (maxL := 3) (ret := none) rfl (by decide) rfl (Nat.le_of_ble_eq_true rfl) ?_
  intro p e s m args below meth c ls Q A hx hb hml hown hts hA hZ hw hl hQ kr kt
  have hq : ∀ w ∈ wwX, w.before args s = true := fun w h => hts w (List.mem_cons_of_mem _ h)
  have hl : lv_has ls 3 [(0, .ref (ad 25)), (1, .long y1)] := hl
  refine lv_aload_n hx hb dX6_askMemory_0 rfl (lv_at hl 0 rfl) ?_
  refine lv_lload_n hx hb dX6_askMemory_1 rfl (lv_at hl 1 rfl) ?_
  refine jx_putl xw (g := g) (lg := lg) (ar := ar) (bk := bk) (x := y1) 4 (ci := 9) (C := RX6) (T := TX6) (N := 16) (ty := .long) hx hb hts (fun _ h => List.mem_cons_of_mem _ (wwXc_wsX60 _ h)) tyX6 tyX6_ok nmX6 hown hw 25 rfl rfl 8 (by decide) (hq _ wX_404) rfl (by decide +kernel) rfl rfl (Nat.le_of_ble_eq_true rfl) dX6_askMemory_2 rfl (fun H locs l1 h_l1 hw => ?_)
  refine lv_lload_n hx hb dX6_askMemory_5 rfl (lv_at hl 1 rfl) ?_
  refine lv_aload_n hx hb dX6_askMemory_6 rfl (lv_at hl 0 rfl) ?_
  have e_l1_3 : l1 3 = (lg 3) := (hk_uplN h_l1 3 rfl)
  refine hk_get (ci := 9) (C := RX6) (T := TX6) (N := 16) (v := .long (lg 3)) hx hb hts (fun _ h => List.mem_cons_of_mem _ (wwXc_wsX60 _ h)) hown hw 25 rfl rfl 7 (by decide) (hq _ wX_405) (congrArg (fun z => some (Value.long z)) e_l1_3) dX6_askMemory_7 ?_
  refine hk_lcmp_le (tgt := 23) hx hb dX6_askMemory_10 dX6_askMemory_11 (by decide) (fun cc2 => ?_) (fun cc2 => ?_)
  · exact kr g l1 ar bk _ _ _ _ ⟨hk_fr0, (hk_frL hk_fr0 (by decide) h_l1), rfl, rfl⟩ hw dX6_askMemory_23
  · refine lv_aload_n hx hb dX6_askMemory_14 rfl (lv_at hl 0 rfl) ?_
    refine hk_get (ci := 9) (C := RX6) (T := TX6) (N := 16) (v := .ref (ad 6)) hx hb hts (fun _ h => List.mem_cons_of_mem _ (wwXc_wsX60 _ h)) hown hw 25 rfl rfl 0 (by decide) (hq _ wX_399) rfl dX6_askMemory_15 ?_
    refine lv_bipush (v := 15) hx hb dX6_askMemory_18 (by decide) ?_
    refine jx_Vv (As := [.int 15]) (rest := []) ⟨hx, hb, hml, hown, hts⟩ hZ hw hA (jx_X8_fail l hlt D t3 cI cJ ad g l1 ar bk _ 15) (cwV 1 hts (jx_gV wwX_good wX_403 wX_255 wX_256 wX_252 wX_257) rfl rfl rfl (by decide +kernel) ⟨Nat.le_of_ble_eq_true rfl, Nat.le_of_ble_eq_true rfl⟩) 6 (ci := 11) (T := TX8) (N := 4) rfl rfl rfl hl.1 rfl (Nat.le_of_ble_eq_true rfl) dX6_askMemory_20 ⟨Nat.le_of_ble_eq_true rfl, Nat.le_of_ble_eq_true rfl⟩ (fun u3 u4 u5 u6 H locs ce q hp hw h1 h2 h3 => by obtain ⟨ht0, rfl, rfl, rfl⟩ := hp; exact kt _ _ _ _ _ _ _ _ _ _ _ ⟨ht0, (hk_frL hk_fr0 (by decide) h_l1), rfl, rfl⟩ hw h1 h2 h3) (fun g8 l9 a10 b11 H locs hp12 hw => ?_)
    obtain ⟨h13, rfl, rfl, rfl, h17⟩ := hp12
    exact False.elim h17

set_option maxHeartbeats 4000000 in
set_option maxRecDepth 100000 in
/-- X6_askEnd on (25,) -/
theorem jx_X6_askEnd (l : Launch) (hlt : l.stackTraces = false) (D : va_G) (t3 : Nat × Nat × Nat) (cI cJ : ClassId) (ad : Nat → Nat) (g : Nat → Int32) (lg : Nat → Int64) (ar : Nat → Nat → Int32) (bk : Nat → Int64) (sz : Nat) : JMv l yX6_askEnd (Cond.code yX6_askEnd cX6_askEnd 1 none :: wwX) { frames := 7, cells := 1, slots := 6, locals := 102 } t3 D xw cI cJ ad [.ref (ad 25)] (xw cI cJ ad g lg ar bk) sz 1 6 (fun g' lg' ar' bk' => hk_fr [17] g g' ∧ lg = lg' ∧ ar = ar' ∧ bk = bk') (fun g' lg' ar' bk' => hk_fr [17] g g' ∧ lg = lg' ∧ ar = ar' ∧ bk = bk') := by
  refine jx_metv (cc := cX6_askEnd) (maxL := 1) (ret := none) rfl (by decide) rfl (Nat.le_of_ble_eq_true rfl) ?_
  intro p e s m args below meth c ls Q A hx hb hml hown hts hA hZ hw hl hQ kr kt
  have hq : ∀ w ∈ wwX, w.before args s = true := fun w h => hts w (List.mem_cons_of_mem _ h)
  have hl : lv_has ls 1 [(0, .ref (ad 25))] := hl
  refine lv_aload_n hx hb dX6_askEnd_0 rfl (lv_at hl 0 rfl) ?_
  refine hk_get (ci := 9) (C := RX6) (T := TX6) (N := 16) (v := .ref (ad 6)) hx hb hts (fun _ h => List.mem_cons_of_mem _ (wwXc_wsX60 _ h)) hown hw 25 rfl rfl 0 (by decide) (hq _ wX_399) rfl dX6_askEnd_1 ?_
  refine hk_get (ci := 11) (C := RX8) (T := TX8) (N := 4) (v := .int (g 15)) hx hb hts (fun _ h => List.mem_cons_of_mem _ (wwXc_wsX80 _ h)) hown hw 6 rfl rfl 1 (by decide) (hq _ wX_400) rfl dX6_askEnd_4 ?_
  refine lv_aload_n hx hb dX6_askEnd_7 rfl (lv_at hl 0 rfl) ?_
  refine hk_get (ci := 9) (C := RX6) (T := TX6) (N := 16) (v := .ref (ad 6)) hx hb hts (fun _ h => List.mem_cons_of_mem _ (wwXc_wsX60 _ h)) hown hw 25 rfl rfl 0 (by decide) (hq _ wX_399) rfl dX6_askEnd_8 ?_
  refine hk_get (ci := 11) (C := RX8) (T := TX8) (N := 4) (v := .ref (ad 2)) hx hb hts (fun _ h => List.mem_cons_of_mem _ (wwXc_wsX80 _ h)) hown hw 6 rfl rfl 0 (by decide) (hq _ wX_401) rfl dX6_askEnd_11 ?_
  refine hk_get (ci := 12) (C := RX9) (T := TX9) (N := 2) (v := .int (g 13)) hx hb hts (fun _ h => List.mem_cons_of_mem _ (wwXc_wsX90 _ h)) hown hw 2 rfl rfl 1 (by decide) (hq _ wX_402) rfl dX6_askEnd_14 ?_
  refine lv_icmp_ge (tgt := 29) hx hb dX6_askEnd_17 (by decide) (fun cc1 => ?_) (fun cc1 => ?_)
  · exact kr g lg ar bk _ _ _ _ ⟨hk_fr0, rfl, rfl, rfl⟩ hw dX6_askEnd_29
  · refine lv_aload_n hx hb dX6_askEnd_20 rfl (lv_at hl 0 rfl) ?_
    refine hk_get (ci := 9) (C := RX6) (T := TX6) (N := 16) (v := .ref (ad 6)) hx hb hts (fun _ h => List.mem_cons_of_mem _ (wwXc_wsX60 _ h)) hown hw 25 rfl rfl 0 (by decide) (hq _ wX_399) rfl dX6_askEnd_21 ?_
    refine lv_bipush (v := 12) hx hb dX6_askEnd_24 (by decide) ?_
    refine jx_Vv (As := [.int 12]) (rest := []) ⟨hx, hb, hml, hown, hts⟩ hZ hw hA (jx_X8_fail l hlt D t3 cI cJ ad g lg ar bk _ 12) (cwV 1 hts (jx_gV wwX_good wX_403 wX_255 wX_256 wX_252 wX_257) rfl rfl rfl (by decide +kernel) ⟨Nat.le_of_ble_eq_true rfl, Nat.le_of_ble_eq_true rfl⟩) 6 (ci := 11) (T := TX8) (N := 4) rfl rfl rfl hl.1 rfl (Nat.le_of_ble_eq_true rfl) dX6_askEnd_26 ⟨Nat.le_of_ble_eq_true rfl, Nat.le_of_ble_eq_true rfl⟩ (fun u2 u3 u4 u5 H locs ce q hp hw h1 h2 h3 => by obtain ⟨ht0, rfl, rfl, rfl⟩ := hp; exact kt _ _ _ _ _ _ _ _ _ _ _ ⟨ht0, rfl, rfl, rfl⟩ hw h1 h2 h3) (fun g7 l8 a9 b10 H locs hp11 hw => ?_)
    obtain ⟨h12, rfl, rfl, rfl, h16⟩ := hp11
    exact False.elim h16

set_option maxHeartbeats 4000000 in
set_option maxRecDepth 100000 in
/-- X6_readProperties on (25,) -/
theorem jx_X6_readProperties (l : Launch) (hlt : l.stackTraces = false) (D : va_G) (t3 : Nat × Nat × Nat) (cI cJ : ClassId) (ad : Nat → Nat) (g : Nat → Int32) (lg : Nat → Int64) (ar : Nat → Nat → Int32) (bk : Nat → Int64) (sz : Nat) (hi_a0rg : hk_rg 0 255 (ar 0)) (hi_g21 : 0 ≤ (g 21).toInt ∧ (g 21).toInt ≤ 4) (hi_g22 : 0 ≤ (g 22).toInt ∧ (g 22).toInt ≤ 4) : JMv l yX6_readProperties (Cond.code yX6_readProperties cX6_readProperties 4 none :: wwX) { frames := 7, cells := 1, slots := 6, locals := 102 } t3 D xw cI cJ ad [.ref (ad 25)] (xw cI cJ ad g lg ar bk) sz 1 6 (fun g' lg' ar' bk' => hk_fr [15, 17, 21, 22, 23] g g' ∧ lg = lg' ∧ ar = ar' ∧ bk = bk' ∧ (0 ≤ (g' 21).toInt ∧ (g' 21).toInt ≤ 4) ∧ (0 ≤ (g' 22).toInt ∧ (g' 22).toInt ≤ 4)) (fun g' lg' ar' bk' => hk_fr [15, 17, 21, 22, 23] g g' ∧ lg = lg' ∧ ar = ar' ∧ bk = bk' ∧ (0 ≤ (g' 21).toInt ∧ (g' 21).toInt ≤ 4) ∧ (0 ≤ (g' 22).toInt ∧ (g' 22).toInt ≤ 4)) := by
  refine jx_metv (cc := cX6_readProperties) (maxL := 4) (ret := none) rfl (by decide) rfl (Nat.le_of_ble_eq_true rfl) ?_
  intro p e s m args below meth c ls Q A hx hb hml hown hts hA hZ hw hl hQ kr kt
  have hq : ∀ w ∈ wwX, w.before args s = true := fun w h => hts w (List.mem_cons_of_mem _ h)
  have hl : lv_has ls 4 [(0, .ref (ad 25))] := hl
  refine lv_aload_n hx hb dX6_readProperties_0 rfl (lv_at hl 0 rfl) ?_
  refine hk_get (ci := 9) (C := RX6) (T := TX6) (N := 16) (v := .ref (ad 6)) hx hb hts (fun _ h => List.mem_cons_of_mem _ (wwXc_wsX60 _ h)) hown hw 25 rfl rfl 0 (by decide) (hq _ wX_399) rfl dX6_readProperties_1 ?_
  refine jx_Vi (As := []) (rest := []) ⟨hx, hb, hml, hown, hts⟩ hZ hw hA (jx_X8_next l hlt D t3 cI cJ ad g lg ar bk _ hi_a0rg) (cwV 0 hts (jx_gV wwX_good wX_430 wX_250 wX_251 wX_252 wX_253) rfl rfl rfl (by decide +kernel) ⟨Nat.le_of_ble_eq_true rfl, Nat.le_of_ble_eq_true rfl⟩) 6 (ci := 11) (T := TX8) (N := 4) rfl rfl rfl hl.1 rfl (Nat.le_of_ble_eq_true rfl) dX6_readProperties_4 ⟨Nat.le_of_ble_eq_true rfl, Nat.le_of_ble_eq_true rfl⟩ (fun u1 u2 u3 u4 H locs ce q hp hw h1 h2 h3 => by obtain ⟨ht0, rfl, rfl, rfl⟩ := hp; have e_u1_21 : u1 21 = (g 21) := (ht0 21 rfl); have e_u1_22 : u1 22 = (g 22) := (ht0 22 rfl); exact kt _ _ _ _ _ _ _ _ _ _ _ ⟨(hk_frT hk_fr0 (by decide) ht0), rfl, rfl, rfl, (ob82 ((u1 21).toInt) ((g 21).toInt) (congrArg Int32.toInt e_u1_21) hi_g21 (hE_rng (u1 21)) (hE_rng (g 21))), (ob82 ((u1 22).toInt) ((g 22).toInt) (congrArg Int32.toInt e_u1_22) hi_g22 (hE_rng (u1 22)) (hE_rng (g 22)))⟩ hw h1 h2 h3) (fun r5 g6 l7 a8 b9 H locs hp10 hw => ?_)
  obtain ⟨h11, rfl, rfl, rfl, h15⟩ := hp10
  refine lv_istore_n (lv' := [(1, .int r5), (0, .ref (ad 25))]) hx hb dX6_readProperties_7 rfl hl (by decide) rfl (fun ls hl => ?_)
  refine lv_iload_n hx hb dX6_readProperties_8 rfl (lv_at hl 0 rfl) ?_
  refine lv_bipush (v := 9) hx hb dX6_readProperties_9 (by decide) ?_
  refine lv_irem hx hb dX6_readProperties_11 (by decide) (jx_nm fun z16 hz16 => ?_)
  refine lv_istore_n (lv' := [(2, .int z16), (1, .int r5), (0, .ref (ad 25))]) hx hb dX6_readProperties_12 rfl hl (by decide) rfl (fun ls hl => ?_)
  refine lv_iload_n hx hb dX6_readProperties_13 rfl (lv_at hl 1 rfl) ?_
  refine lv_bipush (v := 9) hx hb dX6_readProperties_14 (by decide) ?_
  refine lv_idiv hx hb dX6_readProperties_16 (by decide) (jx_nm fun z17 hz17 => ?_)
  refine lv_iconst (v := 5) hx hb dX6_readProperties_17 (by decide) ?_
  refine lv_irem hx hb dX6_readProperties_18 (by decide) (jx_nm fun z18 hz18 => ?_)
  refine lv_istore_n (lv' := [(3, .int z18), (2, .int z16), (1, .int r5), (0, .ref (ad 25))]) hx hb dX6_readProperties_19 rfl hl (by decide) rfl (fun ls hl => ?_)
  refine lv_iload_n hx hb dX6_readProperties_20 rfl (lv_at hl 2 rfl) ?_
  refine lv_sipush (v := 225) hx hb dX6_readProperties_21 (by decide) ?_
  have B19 : ∀  (g20 : Nat → Int32) (ls : Array Slot) (H : Heap) (locs : List Loc), (hk_fr [17] g6 g20) → hk_W D (jT cI cJ) A s H locs (xw cI cJ ad g20 lg ar bk) → lv_has ls 4 [(0, .ref (ad 25)), (1, .int r5), (2, .int z16), (3, .int z18)] → W p l e { frames := 7, cells := 1, slots := 6, locals := 102 } s m args below meth c H locs 0 0 Q (F0 m 42 ls []) := by
    intro g20 ls H locs hfr_g20 hw hl
    refine lv_aload_n hx hb dX6_readProperties_42 rfl (lv_at hl 0 rfl) ?_
    refine hk_get (ci := 9) (C := RX6) (T := TX6) (N := 16) (v := .ref (ad 9)) hx hb hts (fun _ h => List.mem_cons_of_mem _ (wwXc_wsX60 _ h)) hown hw 25 rfl rfl 2 (by decide) (hq _ wX_413) rfl dX6_readProperties_43 ?_
    refine lv_iload_n hx hb dX6_readProperties_46 rfl (lv_at hl 2 rfl) ?_
    refine lv_iload_n hx hb dX6_readProperties_47 rfl (lv_at hl 3 rfl) ?_
    refine lv_iload_n hx hb dX6_readProperties_48 rfl (lv_at hl 1 rfl) ?_
    refine lv_bipush (v := 45) hx hb dX6_readProperties_49 (by decide) ?_
    refine lv_idiv hx hb dX6_readProperties_51 (by decide) (jx_nm fun z21 hz21 => ?_)
    have e_g20_21 : g20 21 = (g 21) := ((hfr_g20 21 rfl)).trans (h11 21 rfl)
    have e_g20_22 : g20 22 = (g 22) := ((hfr_g20 22 rfl)).trans (h11 22 rfl)
    refine jx_Vv (As := [.int z16, .int z18, .int z21]) (rest := []) ⟨hx, hb, hml, hown, hts⟩ hZ hw hA (jx_X5_use l hlt D t3 cI cJ ad g20 lg ar bk _ z16 z18 z21 (ob441 ((z16).toInt) ((r5).toInt) ((z17).toInt) ((z21).toInt) ((z18).toInt) (hE_rem 9 hz16 (by decide) (by decide)) h15 (hE_div 9 hz17 (by decide) (by decide)) (hE_div 45 hz21 (by decide) (by decide)) (hE_rem 5 hz18 (by decide) (by decide)) (hE_rng (z16)) (hE_rng (r5)) (hE_rng (z17)) (hE_rng (z21)) (hE_rng (z18))) (ob442 ((z18).toInt) ((z17).toInt) ((r5).toInt) ((z16).toInt) ((z21).toInt) (hE_rem 5 hz18 (by decide) (by decide)) (hE_div 9 hz17 (by decide) (by decide)) h15 (hE_rem 9 hz16 (by decide) (by decide)) (hE_div 45 hz21 (by decide) (by decide)) (hE_rng (z18)) (hE_rng (z17)) (hE_rng (r5)) (hE_rng (z16)) (hE_rng (z21))) (ob82 ((g20 21).toInt) ((g 21).toInt) (congrArg Int32.toInt e_g20_21) hi_g21 (hE_rng (g20 21)) (hE_rng (g 21))) (ob82 ((g20 22).toInt) ((g 22).toInt) (congrArg Int32.toInt e_g20_22) hi_g22 (hE_rng (g20 22)) (hE_rng (g 22)))) (cwV 3 hts (jx_gV wwX_good wX_414 wX_415 wX_416 wX_215 wX_417) rfl rfl rfl (by decide +kernel) ⟨Nat.le_of_ble_eq_true rfl, Nat.le_of_ble_eq_true rfl⟩) 9 (ci := 8) (T := TX5) (N := 6) rfl rfl rfl hl.1 rfl (Nat.le_of_ble_eq_true rfl) dX6_readProperties_52 ⟨Nat.le_of_ble_eq_true rfl, Nat.le_of_ble_eq_true rfl⟩ (fun _ _ _ _ _ _ _ _ hp _ _ _ _ => hp.elim) (fun g27 l28 a29 b30 H locs hp31 hw => ?_)
    obtain ⟨h32, rfl, rfl, rfl, h36, h37⟩ := hp31
    exact kr g27 lg ar bk _ _ _ _ ⟨(hk_frT (hk_frT (hk_frT hk_fr0 (by decide) h11) (by decide) hfr_g20) (by decide) h32), rfl, rfl, rfl, (ob348 ((g27 21).toInt) h36 (hE_rng (g27 21))), (ob348 ((g27 22).toInt) h37 (hE_rng (g27 22)))⟩ hw dX6_readProperties_55
  have B38 : ∀  (ls : Array Slot) (H : Heap) (locs : List Loc), hk_W D (jT cI cJ) A s H locs (xw cI cJ ad g6 lg ar bk) → lv_has ls 4 [(0, .ref (ad 25)), (1, .int r5), (2, .int z16), (3, .int z18)] → W p l e { frames := 7, cells := 1, slots := 6, locals := 102 } s m args below meth c H locs 0 0 Q (F0 m 34 ls []) := by
    intro ls H locs hw hl
    refine lv_aload_n hx hb dX6_readProperties_34 rfl (lv_at hl 0 rfl) ?_
    refine hk_get (ci := 9) (C := RX6) (T := TX6) (N := 16) (v := .ref (ad 6)) hx hb hts (fun _ h => List.mem_cons_of_mem _ (wwXc_wsX60 _ h)) hown hw 25 rfl rfl 0 (by decide) (hq _ wX_399) rfl dX6_readProperties_35 ?_
    refine lv_iconst (v := 3) hx hb dX6_readProperties_38 (by decide) ?_
    refine jx_Vv (As := [.int 3]) (rest := []) ⟨hx, hb, hml, hown, hts⟩ hZ hw hA (jx_X8_fail l hlt D t3 cI cJ ad g6 lg ar bk _ 3) (cwV 1 hts (jx_gV wwX_good wX_403 wX_255 wX_256 wX_252 wX_257) rfl rfl rfl (by decide +kernel) ⟨Nat.le_of_ble_eq_true rfl, Nat.le_of_ble_eq_true rfl⟩) 6 (ci := 11) (T := TX8) (N := 4) rfl rfl rfl hl.1 rfl (Nat.le_of_ble_eq_true rfl) dX6_readProperties_39 ⟨Nat.le_of_ble_eq_true rfl, Nat.le_of_ble_eq_true rfl⟩ (fun u39 u40 u41 u42 H locs ce q hp hw h1 h2 h3 => by obtain ⟨ht0, rfl, rfl, rfl⟩ := hp; have e_u39_21 : u39 21 = (g 21) := ((ht0 21 rfl)).trans (h11 21 rfl); have e_u39_22 : u39 22 = (g 22) := ((ht0 22 rfl)).trans (h11 22 rfl); exact kt _ _ _ _ _ _ _ _ _ _ _ ⟨(hk_frT (hk_frT hk_fr0 (by decide) h11) (by decide) ht0), rfl, rfl, rfl, (ob82 ((u39 21).toInt) ((g 21).toInt) (congrArg Int32.toInt e_u39_21) hi_g21 (hE_rng (u39 21)) (hE_rng (g 21))), (ob82 ((u39 22).toInt) ((g 22).toInt) (congrArg Int32.toInt e_u39_22) hi_g22 (hE_rng (u39 22)) (hE_rng (g 22)))⟩ hw h1 h2 h3) (fun g44 l45 a46 b47 H locs hp48 hw => ?_)
    obtain ⟨h49, rfl, rfl, rfl, h53⟩ := hp48
    exact False.elim h53
  refine lv_icmp_ge (tgt := 34) hx hb dX6_readProperties_24 (by decide) (fun cc54 => ?_) (fun cc54 => ?_)
  · exact B38 ls _ _ hw (lv_sub hl [3, 2, 1, 0] rfl)
  · refine lv_iload_n hx hb dX6_readProperties_27 rfl (lv_at hl 1 rfl) ?_
    refine lv_iload_n hx hb dX6_readProperties_28 rfl (lv_at hl 0 rfl) ?_
    refine lv_iadd hx hb dX6_readProperties_29 (jx_nm fun z55 hz55 => ?_)
    refine lv_iconst (v := 4) hx hb dX6_readProperties_30 (by decide) ?_
    refine lv_icmp_le (tgt := 42) hx hb dX6_readProperties_31 (by decide) (fun cc56 => ?_) (fun cc56 => ?_)
    · exact B19 g6 ls _ _ hk_fr0 hw (lv_sub hl [3, 2, 1, 0] rfl)
    · exact B38 ls _ _ hw (lv_sub hl [3, 2, 1, 0] rfl)

set_option maxHeartbeats 4000000 in
set_option maxRecDepth 100000 in
/-- X6_readLiteral on (25,) -/
theorem jx_X6_readLiteral (l : Launch) (hlt : l.stackTraces = false) (D : va_G) (t3 : Nat × Nat × Nat) (cI cJ : ClassId) (ad : Nat → Nat) (g : Nat → Int32) (lg : Nat → Int64) (ar : Nat → Nat → Int32) (bk : Nat → Int64) (sz : Nat) (y1 : Int32) (hi_g14 : 0 ≤ (g 14).toInt ∧ (g 14).toInt ≤ 3000) (hi_a0rg : hk_rg 0 255 (ar 0)) : JMv l yX6_readLiteral (Cond.code yX6_readLiteral cX6_readLiteral 5 none :: wwX) { frames := 9, cells := 1, slots := 6, locals := 160 } t3 D xw cI cJ ad [.ref (ad 25), .int y1] (xw cI cJ ad g lg ar bk) sz 1 6 (fun g' lg' ar' bk' => hk_fr [14, 15, 17, 19, 20, 24, 25] g g' ∧ hk_fr [0, 1, 2] lg lg' ∧ hk_fr [1, 2, 6] ar ar' ∧ True ∧ (0 ≤ (g' 14).toInt ∧ (g' 14).toInt ≤ 3000)) (fun g' lg' ar' bk' => hk_fr [14, 15, 17, 19, 20, 24, 25] g g' ∧ hk_fr [0, 1, 2] lg lg' ∧ hk_fr [1, 2, 6] ar ar' ∧ True ∧ (0 ≤ (g' 14).toInt ∧ (g' 14).toInt ≤ 3000)) := by
  refine jx_metv (cc := cX6_readLiteral) (maxL := 5) (ret := none) rfl (by decide) rfl (Nat.le_of_ble_eq_true rfl) ?_
  intro p e s m args below meth c ls Q A hx hb hml hown hts hA hZ hw hl hQ kr kt
  have hq : ∀ w ∈ wwX, w.before args s = true := fun w h => hts w (List.mem_cons_of_mem _ h)
  have hl : lv_has ls 5 [(0, .ref (ad 25)), (1, .int y1)] := hl
  refine lv_iload_n hx hb dX6_readLiteral_0 rfl (lv_at hl 1 rfl) ?_
  have B1 : ∀  (x2 : Int32) (ls : Array Slot) (H : Heap) (locs : List Loc), hk_W D (jT cI cJ) A s H locs (xw cI cJ ad g lg ar bk) → lv_has ls 5 [(0, .ref (ad 25)), (1, .int y1)] → W p l e { frames := 9, cells := 1, slots := 6, locals := 160 } s m args below meth c H locs 0 0 Q (F0 m 24 ls [.int x2]) := by
    intro x2 ls H locs hw hl
    refine lv_istore_n (lv' := [(2, .int x2), (0, .ref (ad 25)), (1, .int y1)]) hx hb dX6_readLiteral_24 rfl hl (by decide) rfl (fun ls hl => ?_)
    refine lv_aload_n hx hb dX6_readLiteral_25 rfl (lv_at hl 1 rfl) ?_
    refine hk_get (ci := 9) (C := RX6) (T := TX6) (N := 16) (v := .ref (ad 4)) hx hb hts (fun _ h => List.mem_cons_of_mem _ (wwXc_wsX60 _ h)) hown hw 25 rfl rfl 1 (by decide) (hq _ wX_410) rfl dX6_readLiteral_26 ?_
    refine lv_aload_n hx hb dX6_readLiteral_29 rfl (lv_at hl 1 rfl) ?_
    refine hk_get (ci := 9) (C := RX6) (T := TX6) (N := 16) (v := .ref (ad 4)) hx hb hts (fun _ h => List.mem_cons_of_mem _ (wwXc_wsX60 _ h)) hown hw 25 rfl rfl 1 (by decide) (hq _ wX_410) rfl dX6_readLiteral_30 ?_
    refine hk_get (ci := 12) (C := RX9) (T := TX9) (N := 2) (v := .int (g 14)) hx hb hts (fun _ h => List.mem_cons_of_mem _ (wwXc_wsX90 _ h)) hown hw 4 rfl rfl 1 (by decide) (hq _ wX_402) rfl dX6_readLiteral_33 ?_
    refine lv_aload_n hx hb dX6_readLiteral_36 rfl (lv_at hl 1 rfl) ?_
    refine hk_get (ci := 9) (C := RX6) (T := TX6) (N := 16) (v := .ref (ad 9)) hx hb hts (fun _ h => List.mem_cons_of_mem _ (wwXc_wsX60 _ h)) hown hw 25 rfl rfl 2 (by decide) (hq _ wX_413) rfl dX6_readLiteral_37 ?_
    refine lv_iconst (v := 0) hx hb dX6_readLiteral_40 (by decide) ?_
    refine jx_Vl (As := [.int 0]) (rest := [.int (g 14), .ref (ad 4)]) ⟨hx, hb, hml, hown, hts⟩ hZ hw hA (jx_X5_back l hlt D t3 cI cJ ad g lg ar bk _ 0) (cwV 1 hts (jx_gV wwX_good wX_474 wX_213 wX_214 wX_215 wX_216) rfl rfl rfl (by decide +kernel) ⟨Nat.le_of_ble_eq_true rfl, Nat.le_of_ble_eq_true rfl⟩) 9 (ci := 8) (T := TX5) (N := 6) rfl rfl rfl hl.1 rfl (Nat.le_of_ble_eq_true rfl) dX6_readLiteral_41 ⟨Nat.le_of_ble_eq_true rfl, Nat.le_of_ble_eq_true rfl⟩ (fun _ _ _ _ _ _ _ _ hp _ _ _ _ => hp.elim) (fun r7 g8 l9 a10 b11 H locs hp12 hw => ?_)
    obtain ⟨rfl, rfl, rfl, rfl⟩ := hp12
    refine lv_l2i hx hb dX6_readLiteral_44 rfl (jx_nm fun z17 hz17 => ?_)
    refine lv_isub hx hb dX6_readLiteral_45 (jx_nm fun z18 hz18 => ?_)
    refine jx_Vi (As := [.int z18]) (rest := []) ⟨hx, hb, hml, hown, hts⟩ hZ hw hA (jx_X9_get_4 l hlt D t3 cI cJ ad g lg ar bk _ z18) (cwV 1 hts (jx_gV wwX_good wX_500 wX_22 wX_23 wX_24 wX_25) rfl rfl rfl (by decide +kernel) ⟨Nat.le_of_ble_eq_true rfl, Nat.le_of_ble_eq_true rfl⟩) 4 (ci := 12) (T := TX9) (N := 2) rfl rfl rfl hl.1 rfl (Nat.le_of_ble_eq_true rfl) dX6_readLiteral_46 ⟨Nat.le_of_ble_eq_true rfl, Nat.le_of_ble_eq_true rfl⟩ (fun _ _ _ _ _ _ _ _ hp _ _ _ _ => hp.elim) (fun r23 g24 l25 a26 b27 H locs hp28 hw => ?_)
    obtain ⟨rfl, rfl, rfl, rfl⟩ := hp28
    refine lv_istore_n (lv' := [(3, .int r23), (2, .int x2), (0, .ref (ad 25)), (1, .int y1)]) hx hb dX6_readLiteral_49 rfl hl (by decide) rfl (fun ls hl => ?_)
    refine lv_aload_n hx hb dX6_readLiteral_50 rfl (lv_at hl 2 rfl) ?_
    refine hk_get (ci := 9) (C := RX6) (T := TX6) (N := 16) (v := .ref (ad 9)) hx hb hts (fun _ h => List.mem_cons_of_mem _ (wwXc_wsX60 _ h)) hown hw 25 rfl rfl 2 (by decide) (hq _ wX_413) rfl dX6_readLiteral_51 ?_
    refine lv_iconst (v := 0) hx hb dX6_readLiteral_54 (by decide) ?_
    refine lv_iload_n hx hb dX6_readLiteral_55 rfl (lv_at hl 3 rfl) ?_
    refine lv_iload_n hx hb dX6_readLiteral_56 rfl (lv_at hl 1 rfl) ?_
    refine lv_iload_n hx hb dX6_readLiteral_57 rfl (lv_at hl 0 rfl) ?_
    refine jx_Vi (As := [.int 0, .int y1, .int x2, .int r23]) (rest := []) ⟨hx, hb, hml, hown, hts⟩ hZ hw hA (jx_X5_codeLiteral l hlt D t3 cI cJ ad g lg ar bk _ 0 y1 x2 r23 hi_a0rg) (cwV 4 hts (jx_gV wwX_good wX_551 wX_552 wX_553 wX_215 wX_554) rfl rfl rfl (by decide +kernel) ⟨Nat.le_of_ble_eq_true rfl, Nat.le_of_ble_eq_true rfl⟩) 9 (ci := 8) (T := TX5) (N := 6) rfl rfl rfl hl.1 rfl (Nat.le_of_ble_eq_true rfl) dX6_readLiteral_58 ⟨Nat.le_of_ble_eq_true rfl, Nat.le_of_ble_eq_true rfl⟩ (fun u33 u34 u35 u36 H locs ce q hp hw h1 h2 h3 => by obtain ⟨ht0, ht1, ht2, rfl, ht4⟩ := hp; exact kt _ _ _ _ _ _ _ _ _ _ _ ⟨(hk_frT hk_fr0 (by decide) ht0), ht1, (hk_frT hk_fr0 (by decide) ht2), trivial, (ob443 ((u33 14).toInt) (hE_rng (u33 14)))⟩ hw h1 h2 h3) (fun r37 g38 l39 a40 b41 H locs hp42 hw => ?_)
    obtain ⟨h43, h44, h45, rfl⟩ := hp42
    refine lv_istore (lv' := [(4, .int r37), (3, .int r23), (2, .int x2), (0, .ref (ad 25)), (1, .int y1)]) hx hb dX6_readLiteral_61 hl (by decide) rfl (fun ls hl => ?_)
    refine lv_aload_n hx hb dX6_readLiteral_63 rfl (lv_at hl 3 rfl) ?_
    refine hk_get (ci := 9) (C := RX6) (T := TX6) (N := 16) (v := .ref (ad 4)) hx hb hts (fun _ h => List.mem_cons_of_mem _ (wwXc_wsX60 _ h)) hown hw 25 rfl rfl 1 (by decide) (hq _ wX_410) rfl dX6_readLiteral_64 ?_
    refine hk_get (ci := 12) (C := RX9) (T := TX9) (N := 2) (v := .int (g38 14)) hx hb hts (fun _ h => List.mem_cons_of_mem _ (wwXc_wsX90 _ h)) hown hw 4 rfl rfl 1 (by decide) (hq _ wX_402) rfl dX6_readLiteral_67 ?_
    refine lv_sipush (v := 3000) hx hb dX6_readLiteral_70 (by decide) ?_
    have B47 : ∀  (g48 : Nat → Int32) (ls : Array Slot) (H : Heap) (locs : List Loc), (hk_fr [17] g38 g48) → hk_W D (jT cI cJ) A s H locs (xw cI cJ ad g48 l39 a40 bk) → lv_has ls 5 [(0, .ref (ad 25)), (4, .int r37)] → W p l e { frames := 9, cells := 1, slots := 6, locals := 160 } s m args below meth c H locs 0 0 Q (F0 m 85 ls []) := by
      intro g48 ls H locs hfr_g48 hw hl
      refine lv_aload_n hx hb dX6_readLiteral_85 rfl (lv_at hl 0 rfl) ?_
      refine hk_get (ci := 9) (C := RX6) (T := TX6) (N := 16) (v := .ref (ad 15)) hx hb hts (fun _ h => List.mem_cons_of_mem _ (wwXc_wsX60 _ h)) hown hw 25 rfl rfl 4 (by decide) (hq _ wX_411) rfl dX6_readLiteral_86 ?_
      refine lv_iconst (v := 0) hx hb dX6_readLiteral_89 (by decide) ?_
      refine lv_aload_n hx hb dX6_readLiteral_90 rfl (lv_at hl 0 rfl) ?_
      refine hk_get (ci := 9) (C := RX6) (T := TX6) (N := 16) (v := .ref (ad 4)) hx hb hts (fun _ h => List.mem_cons_of_mem _ (wwXc_wsX60 _ h)) hown hw 25 rfl rfl 1 (by decide) (hq _ wX_410) rfl dX6_readLiteral_91 ?_
      have e_g48_14 : g48 14 = (g38 14) := (hfr_g48 14 rfl)
      refine hk_get (ci := 12) (C := RX9) (T := TX9) (N := 2) (v := .int (g38 14)) hx hb hts (fun _ h => List.mem_cons_of_mem _ (wwXc_wsX90 _ h)) hown hw 4 rfl rfl 1 (by decide) (hq _ wX_402) (congrArg (fun z => some (Value.int z)) e_g48_14) dX6_readLiteral_94 ?_
      refine lv_iconst (v := 1) hx hb dX6_readLiteral_97 (by decide) ?_
      refine lv_iconst (v := 0) hx hb dX6_readLiteral_98 (by decide) ?_
      refine jx_Vv (As := [.int 0, .int (g38 14), .int 1, .int 0]) (rest := []) ⟨hx, hb, hml, hown, hts⟩ hZ hw hA (jx_X4_addStep l hlt D t3 cI cJ ad g48 l39 a40 bk _ 0 (g38 14) 1 0) (cwV 4 hts (jx_gV wwX_good wX_496 wX_497 wX_498 wX_69 wX_499) rfl rfl rfl (by decide +kernel) ⟨Nat.le_of_ble_eq_true rfl, Nat.le_of_ble_eq_true rfl⟩) 15 (ci := 7) (T := TX4) (N := 4) rfl rfl rfl hl.1 rfl (Nat.le_of_ble_eq_true rfl) dX6_readLiteral_99 ⟨Nat.le_of_ble_eq_true rfl, Nat.le_of_ble_eq_true rfl⟩ (fun _ _ _ _ _ _ _ _ hp _ _ _ _ => hp.elim) (fun g54 l55 a56 b57 H locs hp58 hw => ?_)
      obtain ⟨h59, rfl, h61, rfl⟩ := hp58
      have hr63 : hk_rg 0 255 (a56 0) := (hk_pE (P := hk_rg 0 255) (hk_pE (P := hk_rg 0 255) hi_a0rg (h45 0 rfl)) (h61 0 rfl))
      refine lv_aload_n hx hb dX6_readLiteral_102 rfl (lv_at hl 0 rfl) ?_
      refine hk_get (ci := 9) (C := RX6) (T := TX6) (N := 16) (v := .ref (ad 9)) hx hb hts (fun _ h => List.mem_cons_of_mem _ (wwXc_wsX60 _ h)) hown hw 25 rfl rfl 2 (by decide) (hq _ wX_413) rfl dX6_readLiteral_103 ?_
      refine lv_iconst (v := 0) hx hb dX6_readLiteral_106 (by decide) ?_
      refine lv_lconst (v := 0) hx hb dX6_readLiteral_107 (by decide) ?_
      refine jx_Vv (As := [.int 0, .long 0]) (rest := []) ⟨hx, hb, hml, hown, hts⟩ hZ hw hA (jx_X5_follow l hlt D t3 cI cJ ad g54 l39 a56 bk _ 0 0) (cwV 2 hts (jx_gV wwX_good wX_483 wX_484 wX_485 wX_215 wX_486) rfl rfl rfl (by decide +kernel) ⟨Nat.le_of_ble_eq_true rfl, Nat.le_of_ble_eq_true rfl⟩) 9 (ci := 8) (T := TX5) (N := 6) rfl rfl rfl hl.1 rfl (Nat.le_of_ble_eq_true rfl) dX6_readLiteral_108 ⟨Nat.le_of_ble_eq_true rfl, Nat.le_of_ble_eq_true rfl⟩ (fun _ _ _ _ _ _ _ _ hp _ _ _ _ => hp.elim) (fun g69 l70 a71 b72 H locs hp73 hw => ?_)
      obtain ⟨h74, rfl, rfl, -⟩ := hp73
      refine lv_aload_n hx hb dX6_readLiteral_111 rfl (lv_at hl 0 rfl) ?_
      refine hk_get (ci := 9) (C := RX6) (T := TX6) (N := 16) (v := .ref (ad 4)) hx hb hts (fun _ h => List.mem_cons_of_mem _ (wwXc_wsX60 _ h)) hown hw 25 rfl rfl 1 (by decide) (hq _ wX_410) rfl dX6_readLiteral_112 ?_
      refine lv_iload hx hb dX6_readLiteral_115 (lv_at hl 1 rfl) ?_
      refine jx_Vv (As := [.int r37]) (rest := []) ⟨hx, hb, hml, hown, hts⟩ hZ hw hA (jx_X9_put_4 l hlt D t3 cI cJ ad g69 l39 a56 b72 _ r37) (cwV 1 hts (jx_gV wwX_good wX_501 wX_112 wX_113 wX_24 wX_114) rfl rfl rfl (by decide +kernel) ⟨Nat.le_of_ble_eq_true rfl, Nat.le_of_ble_eq_true rfl⟩) 4 (ci := 12) (T := TX9) (N := 2) rfl rfl rfl hl.1 rfl (Nat.le_of_ble_eq_true rfl) dX6_readLiteral_117 ⟨Nat.le_of_ble_eq_true rfl, Nat.le_of_ble_eq_true rfl⟩ (fun _ _ _ _ _ _ _ _ hp _ _ _ _ => hp.elim) (fun g83 l84 a85 b86 H locs hp87 hw => ?_)
      obtain ⟨h88, rfl, h90, rfl, h92⟩ := hp87
      have e_g69_14 : g69 14 = (g38 14) := ((h74 14 rfl)).trans (((h59 14 rfl)).trans e_g48_14)
      exact kr g83 l39 a85 b72 _ _ _ _ ⟨(hk_frT (hk_frT (hk_frT (hk_frT (hk_frT hk_fr0 (by decide) h43) (by decide) hfr_g48) (by decide) h59) (by decide) h74) (by decide) h88), h44, (hk_frT (hk_frT (hk_frT hk_fr0 (by decide) h45) (by decide) h61) (by decide) h90), trivial, (ob444 ((g83 14).toInt) ((g69 14).toInt) ((g38 14).toInt) ((g48 14).toInt) h92 (congrArg Int32.toInt e_g69_14) (congrArg Int32.toInt e_g48_14) (hE_rng (g83 14)) (hE_rng (g69 14)) (hE_rng (g38 14)) (hE_rng (g48 14)))⟩ hw dX6_readLiteral_120
    refine lv_icmp_lt (tgt := 85) hx hb dX6_readLiteral_73 (by decide) (fun cc93 => ?_) (fun cc93 => ?_)
    · exact B47 g38 ls _ _ hk_fr0 hw (lv_sub hl [3, 0] rfl)
    · refine lv_aload_n hx hb dX6_readLiteral_76 rfl (lv_at hl 3 rfl) ?_
      refine hk_get (ci := 9) (C := RX6) (T := TX6) (N := 16) (v := .ref (ad 6)) hx hb hts (fun _ h => List.mem_cons_of_mem _ (wwXc_wsX60 _ h)) hown hw 25 rfl rfl 0 (by decide) (hq _ wX_399) rfl dX6_readLiteral_77 ?_
      refine lv_bipush (v := 13) hx hb dX6_readLiteral_80 (by decide) ?_
      refine jx_Vv (As := [.int 13]) (rest := []) ⟨hx, hb, hml, hown, hts⟩ hZ hw hA (jx_X8_fail l hlt D t3 cI cJ ad g38 l39 a40 bk _ 13) (cwV 1 hts (jx_gV wwX_good wX_403 wX_255 wX_256 wX_252 wX_257) rfl rfl rfl (by decide +kernel) ⟨Nat.le_of_ble_eq_true rfl, Nat.le_of_ble_eq_true rfl⟩) 6 (ci := 11) (T := TX8) (N := 4) rfl rfl rfl hl.1 rfl (Nat.le_of_ble_eq_true rfl) dX6_readLiteral_82 ⟨Nat.le_of_ble_eq_true rfl, Nat.le_of_ble_eq_true rfl⟩ (fun u94 u95 u96 u97 H locs ce q hp hw h1 h2 h3 => by obtain ⟨ht0, rfl, rfl, rfl⟩ := hp; have e_u94_14 : u94 14 = (g38 14) := (ht0 14 rfl); exact kt _ _ _ _ _ _ _ _ _ _ _ ⟨(hk_frT (hk_frT hk_fr0 (by decide) h43) (by decide) ht0), h44, (hk_frT hk_fr0 (by decide) h45), trivial, (ob445 ((u94 14).toInt) ((g38 14).toInt) (((3000 : Int32)).toInt) (congrArg Int32.toInt e_u94_14) (hE_nlt cc93) (hE_rng (u94 14)) (hE_rng (g38 14)) (by decide))⟩ hw h1 h2 h3) (fun g99 l100 a101 b102 H locs hp103 hw => ?_)
      obtain ⟨h104, rfl, rfl, rfl, h108⟩ := hp103
      exact False.elim h108
  refine lv_if_le (tgt := 23) hx hb dX6_readLiteral_1 (by decide) (fun cc109 => ?_) (fun cc109 => ?_)
  · refine lv_iconst (v := 0) hx hb dX6_readLiteral_23 (by decide) ?_
    exact B1 0 ls _ _ hw (lv_sub hl [0, 1] rfl)
  · refine lv_aload_n hx hb dX6_readLiteral_4 rfl (lv_at hl 0 rfl) ?_
    refine hk_get (ci := 9) (C := RX6) (T := TX6) (N := 16) (v := .ref (ad 4)) hx hb hts (fun _ h => List.mem_cons_of_mem _ (wwXc_wsX60 _ h)) hown hw 25 rfl rfl 1 (by decide) (hq _ wX_410) rfl dX6_readLiteral_5 ?_
    refine lv_aload_n hx hb dX6_readLiteral_8 rfl (lv_at hl 0 rfl) ?_
    refine hk_get (ci := 9) (C := RX6) (T := TX6) (N := 16) (v := .ref (ad 4)) hx hb hts (fun _ h => List.mem_cons_of_mem _ (wwXc_wsX60 _ h)) hown hw 25 rfl rfl 1 (by decide) (hq _ wX_410) rfl dX6_readLiteral_9 ?_
    refine hk_get (ci := 12) (C := RX9) (T := TX9) (N := 2) (v := .int (g 14)) hx hb hts (fun _ h => List.mem_cons_of_mem _ (wwXc_wsX90 _ h)) hown hw 4 rfl rfl 1 (by decide) (hq _ wX_402) rfl dX6_readLiteral_12 ?_
    refine lv_iconst (v := 1) hx hb dX6_readLiteral_15 (by decide) ?_
    refine lv_isub hx hb dX6_readLiteral_16 (jx_nm fun z110 hz110 => ?_)
    have xz110 : (z110).toInt = (g 14).toInt - ((1 : Int32)).toInt := (hE_imp (hE_sub hz110) (ob446 ((g 14).toInt) (((1 : Int32)).toInt) hi_g14 (hE_rng (g 14)) (by decide)))
    refine jx_Vi (As := [.int z110]) (rest := []) ⟨hx, hb, hml, hown, hts⟩ hZ hw hA (jx_X9_get_4 l hlt D t3 cI cJ ad g lg ar bk _ z110) (cwV 1 hts (jx_gV wwX_good wX_500 wX_22 wX_23 wX_24 wX_25) rfl rfl rfl (by decide +kernel) ⟨Nat.le_of_ble_eq_true rfl, Nat.le_of_ble_eq_true rfl⟩) 4 (ci := 12) (T := TX9) (N := 2) rfl rfl rfl hl.1 rfl (Nat.le_of_ble_eq_true rfl) dX6_readLiteral_17 ⟨Nat.le_of_ble_eq_true rfl, Nat.le_of_ble_eq_true rfl⟩ (fun _ _ _ _ _ _ _ _ hp _ _ _ _ => hp.elim) (fun r115 g116 l117 a118 b119 H locs hp120 hw => ?_)
    obtain ⟨rfl, rfl, rfl, rfl⟩ := hp120
    refine lv_goto (tgt := 24) hx hb dX6_readLiteral_20 (by decide) ?_
    exact B1 r115 ls _ _ hw (lv_sub hl [0, 1] rfl)

set_option maxHeartbeats 4000000 in
set_option maxRecDepth 100000 in
/-- X6_judgeCopy on (25,) -/
theorem jx_X6_judgeCopy (l : Launch) (hlt : l.stackTraces = false) (D : va_G) (t3 : Nat × Nat × Nat) (cI cJ : ClassId) (ad : Nat → Nat) (g : Nat → Int32) (lg : Nat → Int64) (ar : Nat → Nat → Int32) (bk : Nat → Int64) (sz : Nat) (y1 : Int64) (y3 : Int32) (y4 : Int32) (hr0 : -300 ≤ (y3).toInt ∧ (y3).toInt ≤ 600) (hi_g14 : 0 ≤ (g 14).toInt ∧ (g 14).toInt ≤ 3000) : JMv l yX6_judgeCopy (Cond.code yX6_judgeCopy cX6_judgeCopy 5 none :: wwX) { frames := 7, cells := 1, slots := 6, locals := 102 } t3 D xw cI cJ ad [.ref (ad 25), .long y1, .int y3, .int y4] (xw cI cJ ad g lg ar bk) sz 1 6 (fun g' lg' ar' bk' => hk_fr [17] g g' ∧ lg = lg' ∧ ar = ar' ∧ bk = bk' ∧ ((g 14).toInt + (y3).toInt ≤ 3000)) (fun g' lg' ar' bk' => hk_fr [17] g g' ∧ lg = lg' ∧ ar = ar' ∧ bk = bk') := by
  refine jx_metv (cc := cX6_judgeCopy) (maxL := 5) (ret := none) rfl (by decide) rfl (Nat.le_of_ble_eq_true rfl) ?_
  intro p e s m args below meth c ls Q A hx hb hml hown hts hA hZ hw hl hQ kr kt
  have hq : ∀ w ∈ wwX, w.before args s = true := fun w h => hts w (List.mem_cons_of_mem _ h)
  have hl : lv_has ls 5 [(0, .ref (ad 25)), (1, .long y1), (3, .int y3), (4, .int y4)] := hl
  refine lv_lload_n hx hb dX6_judgeCopy_0 rfl (lv_at hl 1 rfl) ?_
  refine lv_aload_n hx hb dX6_judgeCopy_1 rfl (lv_at hl 0 rfl) ?_
  refine hk_get (ci := 9) (C := RX6) (T := TX6) (N := 16) (v := .ref (ad 4)) hx hb hts (fun _ h => List.mem_cons_of_mem _ (wwXc_wsX60 _ h)) hown hw 25 rfl rfl 1 (by decide) (hq _ wX_410) rfl dX6_judgeCopy_2 ?_
  refine hk_get (ci := 12) (C := RX9) (T := TX9) (N := 2) (v := .int (g 14)) hx hb hts (fun _ h => List.mem_cons_of_mem _ (wwXc_wsX90 _ h)) hown hw 4 rfl rfl 1 (by decide) (hq _ wX_402) rfl dX6_judgeCopy_5 ?_
  refine lv_aload_n hx hb dX6_judgeCopy_8 rfl (lv_at hl 0 rfl) ?_
  refine hk_get (ci := 9) (C := RX6) (T := TX6) (N := 16) (v := .int (g 43)) hx hb hts (fun _ h => List.mem_cons_of_mem _ (wwXc_wsX60 _ h)) hown hw 25 rfl rfl 9 (by decide) (hq _ wX_422) rfl dX6_judgeCopy_9 ?_
  refine lv_isub hx hb dX6_judgeCopy_12 (jx_nm fun z1 hz1 => ?_)
  refine lv_i2l hx hb dX6_judgeCopy_13 rfl (jx_nl fun z2 hz2 => ?_)
  have B3 : ∀  (g4 : Nat → Int32) (ls : Array Slot) (H : Heap) (locs : List Loc), (hk_fr [17] g g4) → hk_W D (jT cI cJ) A s H locs (xw cI cJ ad g4 lg ar bk) → lv_has ls 5 [(0, .ref (ad 25)), (3, .int y3), (4, .int y4)] → W p l e { frames := 7, cells := 1, slots := 6, locals := 102 } s m args below meth c H locs 0 0 Q (F0 m 35 ls []) := by
    intro g4 ls H locs hfr_g4 hw hl
    refine lv_iload hx hb dX6_judgeCopy_35 (lv_at hl 2 rfl) ?_
    have B5 : ∀  (g6 : Nat → Int32) (ls : Array Slot) (H : Heap) (locs : List Loc), (hk_fr [17] g4 g6) → hk_W D (jT cI cJ) A s H locs (xw cI cJ ad g6 lg ar bk) → lv_has ls 5 [(0, .ref (ad 25)), (3, .int y3)] → W p l e { frames := 7, cells := 1, slots := 6, locals := 102 } s m args below meth c H locs 0 0 Q (F0 m 63 ls []) := by
      intro g6 ls H locs hfr_g6 hw hl
      refine lv_aload_n hx hb dX6_judgeCopy_63 rfl (lv_at hl 0 rfl) ?_
      refine hk_get (ci := 9) (C := RX6) (T := TX6) (N := 16) (v := .ref (ad 4)) hx hb hts (fun _ h => List.mem_cons_of_mem _ (wwXc_wsX60 _ h)) hown hw 25 rfl rfl 1 (by decide) (hq _ wX_410) rfl dX6_judgeCopy_64 ?_
      have e_g6_14 : g6 14 = (g 14) := ((hfr_g6 14 rfl)).trans (hfr_g4 14 rfl)
      refine hk_get (ci := 12) (C := RX9) (T := TX9) (N := 2) (v := .int (g 14)) hx hb hts (fun _ h => List.mem_cons_of_mem _ (wwXc_wsX90 _ h)) hown hw 4 rfl rfl 1 (by decide) (hq _ wX_402) (congrArg (fun z => some (Value.int z)) e_g6_14) dX6_judgeCopy_67 ?_
      refine lv_iload_n hx hb dX6_judgeCopy_70 rfl (lv_at hl 1 rfl) ?_
      refine lv_iadd hx hb dX6_judgeCopy_71 (jx_nm fun z7 hz7 => ?_)
      have xz7 : (z7).toInt = (g 14).toInt + (y3).toInt := (hE_imp (hE_add hz7) (ob447 ((g 14).toInt) ((y3).toInt) ((z1).toInt) ((g 43).toInt) ((g6 14).toInt) ((z2).toInt) hr0 hi_g14 (hE_sub hz1) (congrArg Int32.toInt e_g6_14) (hE_i2l hz2) (hE_rng (g 14)) (hE_rng (y3)) (hE_rng (z1)) (hE_rng (g 43)) (hE_rng (g6 14)) (hE_rngL (z2))))
      refine lv_sipush (v := 3000) hx hb dX6_judgeCopy_72 (by decide) ?_
      refine lv_icmp_le (tgt := 87) hx hb dX6_judgeCopy_75 (by decide) (fun cc8 => ?_) (fun cc8 => ?_)
      · exact kr g6 lg ar bk _ _ _ _ ⟨(hk_frT hfr_g4 (by decide) hfr_g6), rfl, rfl, rfl, (ob448 ((g 14).toInt) ((y3).toInt) ((z1).toInt) ((g 43).toInt) ((g6 14).toInt) ((z7).toInt) ((z2).toInt) (((3000 : Int32)).toInt) hr0 hi_g14 (hE_sub hz1) (congrArg Int32.toInt e_g6_14) xz7 (hE_i2l hz2) (hE_le cc8) (hE_rng (g 14)) (hE_rng (y3)) (hE_rng (z1)) (hE_rng (g 43)) (hE_rng (g6 14)) (hE_rng (z7)) (hE_rngL (z2)) (by decide))⟩ hw dX6_judgeCopy_87
      · refine lv_aload_n hx hb dX6_judgeCopy_78 rfl (lv_at hl 0 rfl) ?_
        refine hk_get (ci := 9) (C := RX6) (T := TX6) (N := 16) (v := .ref (ad 6)) hx hb hts (fun _ h => List.mem_cons_of_mem _ (wwXc_wsX60 _ h)) hown hw 25 rfl rfl 0 (by decide) (hq _ wX_399) rfl dX6_judgeCopy_79 ?_
        refine lv_bipush (v := 13) hx hb dX6_judgeCopy_82 (by decide) ?_
        refine jx_Vv (As := [.int 13]) (rest := []) ⟨hx, hb, hml, hown, hts⟩ hZ hw hA (jx_X8_fail l hlt D t3 cI cJ ad g6 lg ar bk _ 13) (cwV 1 hts (jx_gV wwX_good wX_403 wX_255 wX_256 wX_252 wX_257) rfl rfl rfl (by decide +kernel) ⟨Nat.le_of_ble_eq_true rfl, Nat.le_of_ble_eq_true rfl⟩) 6 (ci := 11) (T := TX8) (N := 4) rfl rfl rfl hl.1 rfl (Nat.le_of_ble_eq_true rfl) dX6_judgeCopy_84 ⟨Nat.le_of_ble_eq_true rfl, Nat.le_of_ble_eq_true rfl⟩ (fun u9 u10 u11 u12 H locs ce q hp hw h1 h2 h3 => by obtain ⟨ht0, rfl, rfl, rfl⟩ := hp; exact kt _ _ _ _ _ _ _ _ _ _ _ ⟨(hk_frT (hk_frT hfr_g4 (by decide) hfr_g6) (by decide) ht0), rfl, rfl, rfl⟩ hw h1 h2 h3) (fun g14 l15 a16 b17 H locs hp18 hw => ?_)
        obtain ⟨h19, rfl, rfl, rfl, h23⟩ := hp18
        exact False.elim h23
    refine lv_if_lt (tgt := 63) hx hb dX6_judgeCopy_37 (by decide) (fun cc24 => ?_) (fun cc24 => ?_)
    · exact B5 g4 ls _ _ hk_fr0 hw (lv_sub hl [0, 1] rfl)
    · refine lv_iload_n hx hb dX6_judgeCopy_40 rfl (lv_at hl 1 rfl) ?_
      refine lv_iload hx hb dX6_judgeCopy_41 (lv_at hl 2 rfl) ?_
      refine lv_aload_n hx hb dX6_judgeCopy_43 rfl (lv_at hl 0 rfl) ?_
      refine hk_get (ci := 9) (C := RX6) (T := TX6) (N := 16) (v := .ref (ad 4)) hx hb hts (fun _ h => List.mem_cons_of_mem _ (wwXc_wsX60 _ h)) hown hw 25 rfl rfl 1 (by decide) (hq _ wX_410) rfl dX6_judgeCopy_44 ?_
      have e_g4_14 : g4 14 = (g 14) := (hfr_g4 14 rfl)
      refine hk_get (ci := 12) (C := RX9) (T := TX9) (N := 2) (v := .int (g 14)) hx hb hts (fun _ h => List.mem_cons_of_mem _ (wwXc_wsX90 _ h)) hown hw 4 rfl rfl 1 (by decide) (hq _ wX_402) (congrArg (fun z => some (Value.int z)) e_g4_14) dX6_judgeCopy_47 ?_
      refine lv_isub hx hb dX6_judgeCopy_50 (jx_nm fun z25 hz25 => ?_)
      have xz25 : (z25).toInt = (y4).toInt - (g 14).toInt := (hE_imp (hE_sub hz25) (ob449 ((y4).toInt) ((g 14).toInt) ((z1).toInt) ((g 43).toInt) (((0 : Int32)).toInt) ((g4 14).toInt) ((z2).toInt) hi_g14 (hE_sub hz1) (hE_nlt cc24) (congrArg Int32.toInt e_g4_14) (hE_i2l hz2) (hE_rng (y4)) (hE_rng (g 14)) (hE_rng (z1)) (hE_rng (g 43)) (by decide) (hE_rng (g4 14)) (hE_rngL (z2))))
      refine lv_icmp_le (tgt := 63) hx hb dX6_judgeCopy_51 (by decide) (fun cc26 => ?_) (fun cc26 => ?_)
      · exact B5 g4 ls _ _ hk_fr0 hw (lv_sub hl [0, 1] rfl)
      · refine lv_aload_n hx hb dX6_judgeCopy_54 rfl (lv_at hl 0 rfl) ?_
        refine hk_get (ci := 9) (C := RX6) (T := TX6) (N := 16) (v := .ref (ad 6)) hx hb hts (fun _ h => List.mem_cons_of_mem _ (wwXc_wsX60 _ h)) hown hw 25 rfl rfl 0 (by decide) (hq _ wX_399) rfl dX6_judgeCopy_55 ?_
        refine lv_bipush (v := 6) hx hb dX6_judgeCopy_58 (by decide) ?_
        refine jx_Vv (As := [.int 6]) (rest := []) ⟨hx, hb, hml, hown, hts⟩ hZ hw hA (jx_X8_fail l hlt D t3 cI cJ ad g4 lg ar bk _ 6) (cwV 1 hts (jx_gV wwX_good wX_403 wX_255 wX_256 wX_252 wX_257) rfl rfl rfl (by decide +kernel) ⟨Nat.le_of_ble_eq_true rfl, Nat.le_of_ble_eq_true rfl⟩) 6 (ci := 11) (T := TX8) (N := 4) rfl rfl rfl hl.1 rfl (Nat.le_of_ble_eq_true rfl) dX6_judgeCopy_60 ⟨Nat.le_of_ble_eq_true rfl, Nat.le_of_ble_eq_true rfl⟩ (fun u27 u28 u29 u30 H locs ce q hp hw h1 h2 h3 => by obtain ⟨ht0, rfl, rfl, rfl⟩ := hp; exact kt _ _ _ _ _ _ _ _ _ _ _ ⟨(hk_frT hfr_g4 (by decide) ht0), rfl, rfl, rfl⟩ hw h1 h2 h3) (fun g32 l33 a34 b35 H locs hp36 hw => ?_)
        obtain ⟨h37, rfl, rfl, rfl, h41⟩ := hp36
        exact False.elim h41
  have B42 : ∀  (ls : Array Slot) (H : Heap) (locs : List Loc), hk_W D (jT cI cJ) A s H locs (xw cI cJ ad g lg ar bk) → lv_has ls 5 [(0, .ref (ad 25)), (3, .int y3), (4, .int y4)] → W p l e { frames := 7, cells := 1, slots := 6, locals := 102 } s m args below meth c H locs 0 0 Q (F0 m 27 ls []) := by
    intro ls H locs hw hl
    refine lv_aload_n hx hb dX6_judgeCopy_27 rfl (lv_at hl 0 rfl) ?_
    refine hk_get (ci := 9) (C := RX6) (T := TX6) (N := 16) (v := .ref (ad 6)) hx hb hts (fun _ h => List.mem_cons_of_mem _ (wwXc_wsX60 _ h)) hown hw 25 rfl rfl 0 (by decide) (hq _ wX_399) rfl dX6_judgeCopy_28 ?_
    refine lv_iconst (v := 4) hx hb dX6_judgeCopy_31 (by decide) ?_
    refine jx_Vv (As := [.int 4]) (rest := []) ⟨hx, hb, hml, hown, hts⟩ hZ hw hA (jx_X8_fail l hlt D t3 cI cJ ad g lg ar bk _ 4) (cwV 1 hts (jx_gV wwX_good wX_403 wX_255 wX_256 wX_252 wX_257) rfl rfl rfl (by decide +kernel) ⟨Nat.le_of_ble_eq_true rfl, Nat.le_of_ble_eq_true rfl⟩) 6 (ci := 11) (T := TX8) (N := 4) rfl rfl rfl hl.1 rfl (Nat.le_of_ble_eq_true rfl) dX6_judgeCopy_32 ⟨Nat.le_of_ble_eq_true rfl, Nat.le_of_ble_eq_true rfl⟩ (fun u43 u44 u45 u46 H locs ce q hp hw h1 h2 h3 => by obtain ⟨ht0, rfl, rfl, rfl⟩ := hp; exact kt _ _ _ _ _ _ _ _ _ _ _ ⟨ht0, rfl, rfl, rfl⟩ hw h1 h2 h3) (fun g48 l49 a50 b51 H locs hp52 hw => ?_)
    obtain ⟨h53, rfl, rfl, rfl, h57⟩ := hp52
    exact False.elim h57
  refine hk_lcmp_gt (tgt := 27) hx hb dX6_judgeCopy_14 dX6_judgeCopy_15 (by decide) (fun cc58 => ?_) (fun cc58 => ?_)
  · exact B42 ls _ _ hw (lv_sub hl [0, 2, 3] rfl)
  · refine lv_lload_n hx hb dX6_judgeCopy_18 rfl (lv_at hl 1 rfl) ?_
    refine lv_aload_n hx hb dX6_judgeCopy_19 rfl (lv_at hl 0 rfl) ?_
    refine hk_get (ci := 9) (C := RX6) (T := TX6) (N := 16) (v := .long (lg 4)) hx hb hts (fun _ h => List.mem_cons_of_mem _ (wwXc_wsX60 _ h)) hown hw 25 rfl rfl 8 (by decide) (hq _ wX_404) rfl dX6_judgeCopy_20 ?_
    refine hk_lcmp_le (tgt := 35) hx hb dX6_judgeCopy_23 dX6_judgeCopy_24 (by decide) (fun cc59 => ?_) (fun cc59 => ?_)
    · exact B3 g ls _ _ hk_fr0 hw (lv_sub hl [0, 2, 3] rfl)
    · exact B42 ls _ _ hw (lv_sub hl [0, 2, 3] rfl)

set_option maxHeartbeats 4000000 in
set_option maxRecDepth 100000 in
/-- X6_takeMark on (25,) -/
theorem jx_X6_takeMark (l : Launch) (hlt : l.stackTraces = false) (D : va_G) (t3 : Nat × Nat × Nat) (cI cJ : ClassId) (ad : Nat → Nat) (g : Nat → Int32) (lg : Nat → Int64) (ar : Nat → Nat → Int32) (bk : Nat → Int64) (sz : Nat) (y1 : Int32) : JMv l yX6_takeMark (Cond.code yX6_takeMark cX6_takeMark 2 none :: wwX) { frames := 7, cells := 1, slots := 6, locals := 102 } t3 D xw cI cJ ad [.ref (ad 25), .int y1] (xw cI cJ ad g lg ar bk) sz 1 6 (fun g' lg' ar' bk' => hk_fr [17, 25] g g' ∧ lg = lg' ∧ hk_fr [6] ar ar' ∧ bk = bk') (fun g' lg' ar' bk' => hk_fr [17, 25] g g' ∧ lg = lg' ∧ hk_fr [6] ar ar' ∧ bk = bk') := by
  refine jx_metv (cc := cX6_takeMark) (maxL := 2) (ret := none) rfl (by decide) rfl (Nat.le_of_ble_eq_true rfl) ?_
  intro p e s m args below meth c ls Q A hx hb hml hown hts hA hZ hw hl hQ kr kt
  have hq : ∀ w ∈ wwX, w.before args s = true := fun w h => hts w (List.mem_cons_of_mem _ h)
  have hl : lv_has ls 2 [(0, .ref (ad 25)), (1, .int y1)] := hl
  refine lv_iload_n hx hb dX6_takeMark_0 rfl (lv_at hl 1 rfl) ?_
  have B1 : ∀  (g2 : Nat → Int32) (ls : Array Slot) (H : Heap) (locs : List Loc), (hk_fr [17] g g2) → hk_W D (jT cI cJ) A s H locs (xw cI cJ ad g2 lg ar bk) → lv_has ls 2 [(0, .ref (ad 25))] → W p l e { frames := 7, cells := 1, slots := 6, locals := 102 } s m args below meth c H locs 0 0 Q (F0 m 13 ls []) := by
    intro g2 ls H locs hfr_g2 hw hl
    refine lv_aload_n hx hb dX6_takeMark_13 rfl (lv_at hl 0 rfl) ?_
    refine hk_get (ci := 9) (C := RX6) (T := TX6) (N := 16) (v := .ref (ad 15)) hx hb hts (fun _ h => List.mem_cons_of_mem _ (wwXc_wsX60 _ h)) hown hw 25 rfl rfl 4 (by decide) (hq _ wX_411) rfl dX6_takeMark_14 ?_
    refine lv_bipush (v := 7) hx hb dX6_takeMark_17 (by decide) ?_
    refine lv_aload_n hx hb dX6_takeMark_19 rfl (lv_at hl 0 rfl) ?_
    refine hk_get (ci := 9) (C := RX6) (T := TX6) (N := 16) (v := .ref (ad 4)) hx hb hts (fun _ h => List.mem_cons_of_mem _ (wwXc_wsX60 _ h)) hown hw 25 rfl rfl 1 (by decide) (hq _ wX_410) rfl dX6_takeMark_20 ?_
    have e_g2_14 : g2 14 = (g 14) := (hfr_g2 14 rfl)
    refine hk_get (ci := 12) (C := RX9) (T := TX9) (N := 2) (v := .int (g 14)) hx hb hts (fun _ h => List.mem_cons_of_mem _ (wwXc_wsX90 _ h)) hown hw 4 rfl rfl 1 (by decide) (hq _ wX_402) (congrArg (fun z => some (Value.int z)) e_g2_14) dX6_takeMark_23 ?_
    refine lv_iconst (v := 0) hx hb dX6_takeMark_26 (by decide) ?_
    refine lv_iconst (v := 0) hx hb dX6_takeMark_27 (by decide) ?_
    refine jx_Vv (As := [.int 7, .int (g 14), .int 0, .int 0]) (rest := []) ⟨hx, hb, hml, hown, hts⟩ hZ hw hA (jx_X4_addStep l hlt D t3 cI cJ ad g2 lg ar bk _ 7 (g 14) 0 0) (cwV 4 hts (jx_gV wwX_good wX_496 wX_497 wX_498 wX_69 wX_499) rfl rfl rfl (by decide +kernel) ⟨Nat.le_of_ble_eq_true rfl, Nat.le_of_ble_eq_true rfl⟩) 15 (ci := 7) (T := TX4) (N := 4) rfl rfl rfl hl.1 rfl (Nat.le_of_ble_eq_true rfl) dX6_takeMark_28 ⟨Nat.le_of_ble_eq_true rfl, Nat.le_of_ble_eq_true rfl⟩ (fun _ _ _ _ _ _ _ _ hp _ _ _ _ => hp.elim) (fun g8 l9 a10 b11 H locs hp12 hw => ?_)
    obtain ⟨h13, rfl, h15, rfl⟩ := hp12
    exact kr g8 lg a10 bk _ _ _ _ ⟨(hk_frT (hk_frT hk_fr0 (by decide) hfr_g2) (by decide) h13), rfl, h15, rfl⟩ hw dX6_takeMark_31
  refine lv_if_ne (tgt := 13) hx hb dX6_takeMark_1 (by decide) (fun cc17 => ?_) (fun cc17 => ?_)
  · exact B1 g ls _ _ hk_fr0 hw (lv_sub hl [0] rfl)
  · refine lv_aload_n hx hb dX6_takeMark_4 rfl (lv_at hl 0 rfl) ?_
    refine hk_get (ci := 9) (C := RX6) (T := TX6) (N := 16) (v := .ref (ad 6)) hx hb hts (fun _ h => List.mem_cons_of_mem _ (wwXc_wsX60 _ h)) hown hw 25 rfl rfl 0 (by decide) (hq _ wX_399) rfl dX6_takeMark_5 ?_
    refine lv_bipush (v := 7) hx hb dX6_takeMark_8 (by decide) ?_
    refine jx_Vv (As := [.int 7]) (rest := []) ⟨hx, hb, hml, hown, hts⟩ hZ hw hA (jx_X8_fail l hlt D t3 cI cJ ad g lg ar bk _ 7) (cwV 1 hts (jx_gV wwX_good wX_403 wX_255 wX_256 wX_252 wX_257) rfl rfl rfl (by decide +kernel) ⟨Nat.le_of_ble_eq_true rfl, Nat.le_of_ble_eq_true rfl⟩) 6 (ci := 11) (T := TX8) (N := 4) rfl rfl rfl hl.1 rfl (Nat.le_of_ble_eq_true rfl) dX6_takeMark_10 ⟨Nat.le_of_ble_eq_true rfl, Nat.le_of_ble_eq_true rfl⟩ (fun u18 u19 u20 u21 H locs ce q hp hw h1 h2 h3 => by obtain ⟨ht0, rfl, rfl, rfl⟩ := hp; exact kt _ _ _ _ _ _ _ _ _ _ _ ⟨(hk_frT hk_fr0 (by decide) ht0), rfl, hk_fr0, rfl⟩ hw h1 h2 h3) (fun g23 l24 a25 b26 H locs hp27 hw => ?_)
    obtain ⟨h28, rfl, rfl, rfl, h32⟩ := hp27
    exact False.elim h32

set_option maxHeartbeats 4000000 in
set_option maxRecDepth 100000 in
/-- X6_readChoice on (25,) -/
theorem jx_X6_readChoice (l : Launch) (hlt : l.stackTraces = false) (D : va_G) (t3 : Nat × Nat × Nat) (cI cJ : ClassId) (ad : Nat → Nat) (g : Nat → Int32) (lg : Nat → Int64) (ar : Nat → Nat → Int32) (bk : Nat → Int64) (sz : Nat) (y1 : Int32) (hi_g14 : 0 ≤ (g 14).toInt ∧ (g 14).toInt ≤ 3000) (hi_a0rg : hk_rg 0 255 (ar 0)) : JMi l yX6_readChoice (Cond.code yX6_readChoice cX6_readChoice 8 (some .boolean) :: wwX) { frames := 10, cells := 1, slots := 6, locals := 187 } t3 D xw cI cJ ad [.ref (ad 25), .int y1] (xw cI cJ ad g lg ar bk) sz 1 6 (fun (r : Int32) g' lg' ar' bk' => hk_fr [14, 15, 17, 19, 20, 24, 25] g g' ∧ hk_fr [0, 1, 2] lg lg' ∧ hk_fr [1, 2, 6] ar ar' ∧ True ∧ (0 ≤ (g' 14).toInt ∧ (g' 14).toInt ≤ 3000)) (fun g' lg' ar' bk' => hk_fr [14, 15, 17, 19, 20, 24, 25] g g' ∧ hk_fr [0, 1, 2] lg lg' ∧ hk_fr [1, 2, 6] ar ar' ∧ True ∧ (0 ≤ (g' 14).toInt ∧ (g' 14).toInt ≤ 3000)) := by
  refine jx_metz (cc := cX6_readChoice) (maxL := 8) (ret := (some .boolean)) rfl (by decide) rfl (Nat.le_of_ble_eq_true rfl) ?_
  intro p e s m args below meth c ls Q A hx hb hml hown hts hA hZ hw hl hQ kr kt
  have hq : ∀ w ∈ wwX, w.before args s = true := fun w h => hts w (List.mem_cons_of_mem _ h)
  have hl : lv_has ls 8 [(0, .ref (ad 25)), (1, .int y1)] := hl
  refine lv_aload_n hx hb dX6_readChoice_0 rfl (lv_at hl 0 rfl) ?_
  refine hk_get (ci := 9) (C := RX6) (T := TX6) (N := 16) (v := .ref (ad 4)) hx hb hts (fun _ h => List.mem_cons_of_mem _ (wwXc_wsX60 _ h)) hown hw 25 rfl rfl 1 (by decide) (hq _ wX_410) rfl dX6_readChoice_1 ?_
  refine hk_get (ci := 12) (C := RX9) (T := TX9) (N := 2) (v := .int (g 14)) hx hb hts (fun _ h => List.mem_cons_of_mem _ (wwXc_wsX90 _ h)) hown hw 4 rfl rfl 1 (by decide) (hq _ wX_402) rfl dX6_readChoice_4 ?_
  refine lv_aload_n hx hb dX6_readChoice_7 rfl (lv_at hl 0 rfl) ?_
  refine hk_get (ci := 9) (C := RX6) (T := TX6) (N := 16) (v := .int (g 43)) hx hb hts (fun _ h => List.mem_cons_of_mem _ (wwXc_wsX60 _ h)) hown hw 25 rfl rfl 9 (by decide) (hq _ wX_422) rfl dX6_readChoice_8 ?_
  refine lv_isub hx hb dX6_readChoice_11 (jx_nm fun z1 hz1 => ?_)
  refine lv_istore_n (lv' := [(2, .int z1), (0, .ref (ad 25)), (1, .int y1)]) hx hb dX6_readChoice_12 rfl hl (by decide) rfl (fun ls hl => ?_)
  refine lv_aload_n hx hb dX6_readChoice_13 rfl (lv_at hl 1 rfl) ?_
  refine hk_get (ci := 9) (C := RX6) (T := TX6) (N := 16) (v := .ref (ad 9)) hx hb hts (fun _ h => List.mem_cons_of_mem _ (wwXc_wsX60 _ h)) hown hw 25 rfl rfl 2 (by decide) (hq _ wX_413) rfl dX6_readChoice_14 ?_
  refine lv_iconst (v := 0) hx hb dX6_readChoice_17 (by decide) ?_
  refine lv_iload_n hx hb dX6_readChoice_18 rfl (lv_at hl 0 rfl) ?_
  refine jx_Vi (As := [.int 0, .int z1]) (rest := []) ⟨hx, hb, hml, hown, hts⟩ hZ hw hA (jx_X5_codeKind l hlt D t3 cI cJ ad g lg ar bk _ 0 z1 hi_a0rg) (cwV 2 hts (jx_gV wwX_good wX_466 wX_467 wX_468 wX_215 wX_469) rfl rfl rfl (by decide +kernel) ⟨Nat.le_of_ble_eq_true rfl, Nat.le_of_ble_eq_true rfl⟩) 9 (ci := 8) (T := TX5) (N := 6) rfl rfl rfl hl.1 rfl (Nat.le_of_ble_eq_true rfl) dX6_readChoice_19 ⟨Nat.le_of_ble_eq_true rfl, Nat.le_of_ble_eq_true rfl⟩ (fun u2 u3 u4 u5 H locs ce q hp hw h1 h2 h3 => by obtain ⟨ht0, ht1, ht2, rfl, ht4⟩ := hp; exact kt _ _ _ _ _ _ _ _ _ _ _ ⟨(hk_frT hk_fr0 (by decide) ht0), ht1, (hk_frT hk_fr0 (by decide) ht2), trivial, (ob443 ((u2 14).toInt) (hE_rng (u2 14)))⟩ hw h1 h2 h3) (fun r6 g7 l8 a9 b10 H locs hp11 hw => ?_)
  obtain ⟨h12, h13, h14, rfl⟩ := hp11
  refine lv_istore_n (lv' := [(3, .int r6), (2, .int z1), (0, .ref (ad 25)), (1, .int y1)]) hx hb dX6_readChoice_22 rfl hl (by decide) rfl (fun ls hl => ?_)
  refine lv_iload_n hx hb dX6_readChoice_23 rfl (lv_at hl 0 rfl) ?_
  refine lv_if_ne (tgt := 34) hx hb dX6_readChoice_24 (by decide) (fun cc16 => ?_) (fun cc16 => ?_)
  · refine lv_iconst (v := 1) hx hb dX6_readChoice_34 (by decide) ?_
    refine lv_istore (lv' := [(4, .int 1), (3, .int r6), (2, .int z1), (0, .ref (ad 25)), (1, .int y1)]) hx hb dX6_readChoice_35 hl (by decide) rfl (fun ls hl => ?_)
    refine lv_aload_n hx hb dX6_readChoice_37 rfl (lv_at hl 3 rfl) ?_
    refine hk_get (ci := 9) (C := RX6) (T := TX6) (N := 16) (v := .ref (ad 9)) hx hb hts (fun _ h => List.mem_cons_of_mem _ (wwXc_wsX60 _ h)) hown hw 25 rfl rfl 2 (by decide) (hq _ wX_413) rfl dX6_readChoice_38 ?_
    refine lv_iload_n hx hb dX6_readChoice_41 rfl (lv_at hl 1 rfl) ?_
    refine lv_bipush (v := 6) hx hb dX6_readChoice_42 (by decide) ?_
    have B17 : ∀  (x18 : Int32) (ls : Array Slot) (H : Heap) (locs : List Loc), hk_W D (jT cI cJ) A s H locs (xw cI cJ ad g7 l8 a9 bk) → lv_has ls 8 [(0, .ref (ad 25)), (1, .int y1), (2, .int z1), (3, .int r6), (4, .int 1)] → W p l e { frames := 10, cells := 1, slots := 6, locals := 187 } s m args below meth c H locs 0 0 Q (F0 m 54 ls [.int x18, .ref (ad 9)]) := by
      intro x18 ls H locs hw hl
      refine jx_Vl (As := [.int x18]) (rest := []) ⟨hx, hb, hml, hown, hts⟩ hZ hw hA (jx_X5_back l hlt D t3 cI cJ ad g7 l8 a9 bk _ x18) (cwV 1 hts (jx_gV wwX_good wX_474 wX_213 wX_214 wX_215 wX_216) rfl rfl rfl (by decide +kernel) ⟨Nat.le_of_ble_eq_true rfl, Nat.le_of_ble_eq_true rfl⟩) 9 (ci := 8) (T := TX5) (N := 6) rfl rfl rfl hl.1 rfl (Nat.le_of_ble_eq_true rfl) dX6_readChoice_54 ⟨Nat.le_of_ble_eq_true rfl, Nat.le_of_ble_eq_true rfl⟩ (fun _ _ _ _ _ _ _ _ hp _ _ _ _ => hp.elim) (fun r23 g24 l25 a26 b27 H locs hp28 hw => ?_)
      obtain ⟨rfl, rfl, rfl, rfl⟩ := hp28
      refine lv_lstore (lv' := [(5, .long r23), (0, .ref (ad 25)), (1, .int y1), (2, .int z1), (3, .int r6), (4, .int 1)]) hx hb dX6_readChoice_57 hl (by decide) rfl (fun ls hl => ?_)
      refine lv_iload_n hx hb dX6_readChoice_59 rfl (lv_at hl 4 rfl) ?_
      refine lv_iconst (v := 1) hx hb dX6_readChoice_60 (by decide) ?_
      have B33 : ∀  (x34 : Int32) (x35 : Int64) (g36 : Nat → Int32) (l37 : Nat → Int64) (a38 : Nat → Nat → Int32) (ls : Array Slot) (H : Heap) (locs : List Loc), (-300 ≤ (x34).toInt ∧ (x34).toInt ≤ 600) → (0 ≤ (g36 14).toInt ∧ (g36 14).toInt ≤ 3000) → (hk_fr [14, 15, 17, 19, 20] g7 g36) → (hk_fr [0, 1, 2] l8 l37) → (hk_fr [1, 2] a9 a38) → hk_W D (jT cI cJ) A s H locs (xw cI cJ ad g36 l37 a38 bk) → lv_has ls 8 [(0, .ref (ad 25)), (1, .int y1), (3, .int r6), (4, .int x34), (5, .long x35)] → W p l e { frames := 10, cells := 1, slots := 6, locals := 187 } s m args below meth c H locs 0 0 Q (F0 m 113 ls []) := by
        intro x34 x35 g36 l37 a38 ls H locs hf_B33_0 hf_B33_1 hfr_g36 hfr_l37 hfr_a38 hw hl
        refine lv_aload_n hx hb dX6_readChoice_113 rfl (lv_at hl 0 rfl) ?_
        refine hk_get (ci := 9) (C := RX6) (T := TX6) (N := 16) (v := .ref (ad 9)) hx hb hts (fun _ h => List.mem_cons_of_mem _ (wwXc_wsX60 _ h)) hown hw 25 rfl rfl 2 (by decide) (hq _ wX_413) rfl dX6_readChoice_114 ?_
        refine lv_iload_n hx hb dX6_readChoice_117 rfl (lv_at hl 2 rfl) ?_
        refine lv_lload hx hb dX6_readChoice_118 (lv_at hl 4 rfl) ?_
        refine jx_Vv (As := [.int r6, .long x35]) (rest := []) ⟨hx, hb, hml, hown, hts⟩ hZ hw hA (jx_X5_follow l hlt D t3 cI cJ ad g36 l37 a38 bk _ r6 x35) (cwV 2 hts (jx_gV wwX_good wX_483 wX_484 wX_485 wX_215 wX_486) rfl rfl rfl (by decide +kernel) ⟨Nat.le_of_ble_eq_true rfl, Nat.le_of_ble_eq_true rfl⟩) 9 (ci := 8) (T := TX5) (N := 6) rfl rfl rfl hl.1 rfl (Nat.le_of_ble_eq_true rfl) dX6_readChoice_120 ⟨Nat.le_of_ble_eq_true rfl, Nat.le_of_ble_eq_true rfl⟩ (fun _ _ _ _ _ _ _ _ hp _ _ _ _ => hp.elim) (fun g44 l45 a46 b47 H locs hp48 hw => ?_)
        obtain ⟨h49, rfl, rfl, -⟩ := hp48
        have hr53 : hk_rg 0 255 (a38 0) := (hk_pE (P := hk_rg 0 255) (hk_pE (P := hk_rg 0 255) hi_a0rg (h14 0 rfl)) (hfr_a38 0 rfl))
        refine lv_lload hx hb dX6_readChoice_123 (lv_at hl 4 rfl) ?_
        refine lv_ldc2 (v := 4294967296) hx hb hown (hq _ wX_487) dX6_readChoice_125 ?_
        refine hk_lcmp_ne (tgt := 147) hx hb dX6_readChoice_128 dX6_readChoice_129 (by decide) (fun cc54 => ?_) (fun cc54 => ?_)
        · refine lv_aload_n hx hb dX6_readChoice_147 rfl (lv_at hl 0 rfl) ?_
          refine lv_lload hx hb dX6_readChoice_148 (lv_at hl 4 rfl) ?_
          refine lv_iload hx hb dX6_readChoice_150 (lv_at hl 3 rfl) ?_
          refine lv_iload_n hx hb dX6_readChoice_152 rfl (lv_at hl 1 rfl) ?_
          have e_g44_14 : g44 14 = (g36 14) := (h49 14 rfl)
          refine jx_Vv (As := [.long x35, .int x34, .int y1]) (rest := []) ⟨hx, hb, hml, hown, hts⟩ hZ hw hA (jx_X6_judgeCopy l hlt D t3 cI cJ ad g44 l37 a38 b47 _ x35 x34 y1 (ob450 ((x34).toInt) hf_B33_0 (hE_rng (x34))) (ob451 ((g44 14).toInt) ((g36 14).toInt) (congrArg Int32.toInt e_g44_14) hf_B33_1 (hE_rng (g44 14)) (hE_rng (g36 14)))) (cwV 3 hts (jx_gV wwX_good wX_492 wX_493 wX_494 wX_441 wX_495) rfl rfl rfl (by decide +kernel) ⟨Nat.le_of_ble_eq_true rfl, Nat.le_of_ble_eq_true rfl⟩) 25 (ci := 9) (T := TX6) (N := 16) rfl rfl rfl hl.1 rfl (Nat.le_of_ble_eq_true rfl) dX6_readChoice_153 ⟨Nat.le_of_ble_eq_true rfl, Nat.le_of_ble_eq_true rfl⟩ (fun u55 u56 u57 u58 H locs ce q hp hw h1 h2 h3 => by obtain ⟨ht0, rfl, rfl, rfl⟩ := hp; have e_u55_14 : u55 14 = (g36 14) := ((ht0 14 rfl)).trans e_g44_14; exact kt _ _ _ _ _ _ _ _ _ _ _ ⟨(hk_frT (hk_frT (hk_frT (hk_frT hk_fr0 (by decide) h12) (by decide) hfr_g36) (by decide) h49) (by decide) ht0), (hk_frT h13 (by decide) hfr_l37), (hk_frT (hk_frT hk_fr0 (by decide) h14) (by decide) hfr_a38), trivial, (ob452 ((u55 14).toInt) ((g36 14).toInt) ((g44 14).toInt) (congrArg Int32.toInt e_u55_14) hf_B33_1 (congrArg Int32.toInt e_g44_14) (hE_rng (u55 14)) (hE_rng (g36 14)) (hE_rng (g44 14)))⟩ hw h1 h2 h3) (fun g60 l61 a62 b63 H locs hp64 hw => ?_)
          obtain ⟨h65, rfl, rfl, rfl, h69⟩ := hp64
          have e_g44_14 : g44 14 = (g36 14) := (h49 14 rfl)
          refine lv_aload_n hx hb dX6_readChoice_156 rfl (lv_at hl 0 rfl) ?_
          refine hk_get (ci := 9) (C := RX6) (T := TX6) (N := 16) (v := .ref (ad 15)) hx hb hts (fun _ h => List.mem_cons_of_mem _ (wwXc_wsX60 _ h)) hown hw 25 rfl rfl 4 (by decide) (hq _ wX_411) rfl dX6_readChoice_157 ?_
          refine lv_iload_n hx hb dX6_readChoice_160 rfl (lv_at hl 2 rfl) ?_
          refine lv_aload_n hx hb dX6_readChoice_161 rfl (lv_at hl 0 rfl) ?_
          refine hk_get (ci := 9) (C := RX6) (T := TX6) (N := 16) (v := .ref (ad 4)) hx hb hts (fun _ h => List.mem_cons_of_mem _ (wwXc_wsX60 _ h)) hown hw 25 rfl rfl 1 (by decide) (hq _ wX_410) rfl dX6_readChoice_162 ?_
          have e_g60_14 : g60 14 = (g36 14) := ((h65 14 rfl)).trans e_g44_14
          refine hk_get (ci := 12) (C := RX9) (T := TX9) (N := 2) (v := .int (g36 14)) hx hb hts (fun _ h => List.mem_cons_of_mem _ (wwXc_wsX90 _ h)) hown hw 4 rfl rfl 1 (by decide) (hq _ wX_402) (congrArg (fun z => some (Value.int z)) e_g60_14) dX6_readChoice_165 ?_
          refine lv_iload hx hb dX6_readChoice_168 (lv_at hl 3 rfl) ?_
          refine lv_lload hx hb dX6_readChoice_170 (lv_at hl 4 rfl) ?_
          refine lv_l2i hx hb dX6_readChoice_172 rfl (jx_nm fun z70 hz70 => ?_)
          refine jx_Vv (As := [.int r6, .int (g36 14), .int x34, .int z70]) (rest := []) ⟨hx, hb, hml, hown, hts⟩ hZ hw hA (jx_X4_addStep l hlt D t3 cI cJ ad g60 l37 a38 b47 _ r6 (g36 14) x34 z70) (cwV 4 hts (jx_gV wwX_good wX_496 wX_497 wX_498 wX_69 wX_499) rfl rfl rfl (by decide +kernel) ⟨Nat.le_of_ble_eq_true rfl, Nat.le_of_ble_eq_true rfl⟩) 15 (ci := 7) (T := TX4) (N := 4) rfl rfl rfl hl.1 rfl (Nat.le_of_ble_eq_true rfl) dX6_readChoice_173 ⟨Nat.le_of_ble_eq_true rfl, Nat.le_of_ble_eq_true rfl⟩ (fun _ _ _ _ _ _ _ _ hp _ _ _ _ => hp.elim) (fun g76 l77 a78 b79 H locs hp80 hw => ?_)
          obtain ⟨h81, rfl, h83, rfl⟩ := hp80
          refine lv_iconst (v := 0) hx hb dX6_readChoice_176 (by decide) ?_
          refine lv_istore (lv' := [(7, .int 0), (0, .ref (ad 25)), (1, .int y1), (3, .int r6), (4, .int x34), (5, .long x35)]) hx hb dX6_readChoice_177 hl (by decide) rfl (fun ls hl => ?_)
          have B85 : ∀ (k89 : Nat) (x86 : Int32) (g87 : Nat → Int32) (a88 : Nat → Nat → Int32) (ls : Array Slot) (H : Heap) (locs : List Loc), (2147483648 - (x86).toInt ≤ (k89 : Int)) → ((g87 14).toInt = (g 14).toInt + (x86).toInt) → (0 ≤ (x86).toInt) → (0 ≤ (g87 14).toInt ∧ (g87 14).toInt ≤ 3000) → (hk_fr [14] g76 g87) → (hk_fr [1] a78 a88) → hk_W D (jT cI cJ) A s H locs (xw cI cJ ad g87 l37 a88 b47) → lv_has ls 8 [(0, .ref (ad 25)), (4, .int x34), (5, .long x35), (7, .int x86)] → W p l e { frames := 10, cells := 1, slots := 6, locals := 187 } s m args below meth c H locs 0 0 Q (F0 m 179 ls []) := by
            intro k89
            induction k89 with
            | zero =>
              intro x86 g87 a88 ls H locs hrk_B85 hf_B85_0 hf_B85_1 hf_B85_2 hfr_g87 hfr_a88 hw hl
              exact False.elim (hk_no0 (0 * (x86).toInt) (ob453 ((x86).toInt) ((g87 14).toInt) ((g 14).toInt) ((z1).toInt) ((g 43).toInt) hf_B85_0 hf_B85_1 hrk_B85 hi_g14 (hE_sub hz1) hf_B85_2 (hE_rng (x86)) (hE_rng (g87 14)) (hE_rng (g 14)) (hE_rng (z1)) (hE_rng (g 43))) (by simp))
            | succ k89 ih_B85 =>
              intro x86 g87 a88 ls H locs hrk_B85 hf_B85_0 hf_B85_1 hf_B85_2 hfr_g87 hfr_a88 hw hl
              have hrk_B85 := hk_rk hrk_B85
              refine lv_iload hx hb dX6_readChoice_179 (lv_at hl 3 rfl) ?_
              refine lv_iload hx hb dX6_readChoice_181 (lv_at hl 1 rfl) ?_
              refine lv_icmp_ge (tgt := 217) hx hb dX6_readChoice_183 (by decide) (fun cc90 => ?_) (fun cc90 => ?_)
              · refine lv_iconst (v := 0) hx hb dX6_readChoice_217 (by decide) ?_
                exact kr 0 g87 l37 a88 b47 _ _ _ _ rfl ⟨(hk_frT (hk_frT (hk_frT (hk_frT (hk_frT (hk_frT hk_fr0 (by decide) h12) (by decide) hfr_g36) (by decide) h49) (by decide) h65) (by decide) h81) (by decide) hfr_g87), (hk_frT h13 (by decide) hfr_l37), (hk_frT (hk_frT (hk_frT (hk_frT hk_fr0 (by decide) h14) (by decide) hfr_a38) (by decide) h83) (by decide) hfr_a88), trivial, (ob454 ((g87 14).toInt) ((g 14).toInt) ((x86).toInt) ((z1).toInt) ((g 43).toInt) (k89 : Int) ((x34).toInt) ((g44 14).toInt) ((g36 14).toInt) ((g60 14).toInt) hf_B85_0 hf_B85_2 hi_g14 (hE_sub hz1) hf_B85_1 hrk_B85 (hE_le cc90) hf_B33_0 h69 (congrArg Int32.toInt e_g44_14) (congrArg Int32.toInt e_g44_14) hf_B33_1 (congrArg Int32.toInt e_g60_14) (hE_rng (g87 14)) (hE_rng (g 14)) (hE_rng (x86)) (hE_rng (z1)) (hE_rng (g 43)) (hE_rng (x34)) (hE_rng (g44 14)) (hE_rng (g36 14)) (hE_rng (g60 14)))⟩ hw dX6_readChoice_218
              · refine lv_aload_n hx hb dX6_readChoice_186 rfl (lv_at hl 0 rfl) ?_
                refine hk_get (ci := 9) (C := RX6) (T := TX6) (N := 16) (v := .ref (ad 4)) hx hb hts (fun _ h => List.mem_cons_of_mem _ (wwXc_wsX60 _ h)) hown hw 25 rfl rfl 1 (by decide) (hq _ wX_410) rfl dX6_readChoice_187 ?_
                refine lv_aload_n hx hb dX6_readChoice_190 rfl (lv_at hl 0 rfl) ?_
                refine hk_get (ci := 9) (C := RX6) (T := TX6) (N := 16) (v := .ref (ad 4)) hx hb hts (fun _ h => List.mem_cons_of_mem _ (wwXc_wsX60 _ h)) hown hw 25 rfl rfl 1 (by decide) (hq _ wX_410) rfl dX6_readChoice_191 ?_
                refine lv_aload_n hx hb dX6_readChoice_194 rfl (lv_at hl 0 rfl) ?_
                refine hk_get (ci := 9) (C := RX6) (T := TX6) (N := 16) (v := .ref (ad 4)) hx hb hts (fun _ h => List.mem_cons_of_mem _ (wwXc_wsX60 _ h)) hown hw 25 rfl rfl 1 (by decide) (hq _ wX_410) rfl dX6_readChoice_195 ?_
                refine hk_get (ci := 12) (C := RX9) (T := TX9) (N := 2) (v := .int (g87 14)) hx hb hts (fun _ h => List.mem_cons_of_mem _ (wwXc_wsX90 _ h)) hown hw 4 rfl rfl 1 (by decide) (hq _ wX_402) rfl dX6_readChoice_198 ?_
                refine lv_lload hx hb dX6_readChoice_201 (lv_at hl 2 rfl) ?_
                refine lv_l2i hx hb dX6_readChoice_203 rfl (jx_nm fun z91 hz91 => ?_)
                refine lv_isub hx hb dX6_readChoice_204 (jx_nm fun z92 hz92 => ?_)
                refine jx_Vi (As := [.int z92]) (rest := [.ref (ad 4)]) ⟨hx, hb, hml, hown, hts⟩ hZ hw hA (jx_X9_get_4 l hlt D t3 cI cJ ad g87 l37 a88 b47 _ z92) (cwV 1 hts (jx_gV wwX_good wX_500 wX_22 wX_23 wX_24 wX_25) rfl rfl rfl (by decide +kernel) ⟨Nat.le_of_ble_eq_true rfl, Nat.le_of_ble_eq_true rfl⟩) 4 (ci := 12) (T := TX9) (N := 2) rfl rfl rfl hl.1 rfl (Nat.le_of_ble_eq_true rfl) dX6_readChoice_205 ⟨Nat.le_of_ble_eq_true rfl, Nat.le_of_ble_eq_true rfl⟩ (fun _ _ _ _ _ _ _ _ hp _ _ _ _ => hp.elim) (fun r97 g98 l99 a100 b101 H locs hp102 hw => ?_)
                obtain ⟨rfl, rfl, rfl, rfl⟩ := hp102
                have hr107 : hk_rg 0 255 (a88 0) := (hk_pE (P := hk_rg 0 255) (hk_pE (P := hk_rg 0 255) hr53 (h83 0 rfl)) (hfr_a88 0 rfl))
                refine jx_Vv (As := [.int r97]) (rest := []) ⟨hx, hb, hml, hown, hts⟩ hZ hw hA (jx_X9_put_4 l hlt D t3 cI cJ ad g87 l37 a88 b47 _ r97) (cwV 1 hts (jx_gV wwX_good wX_501 wX_112 wX_113 wX_24 wX_114) rfl rfl rfl (by decide +kernel) ⟨Nat.le_of_ble_eq_true rfl, Nat.le_of_ble_eq_true rfl⟩) 4 (ci := 12) (T := TX9) (N := 2) rfl rfl rfl hl.1 rfl (Nat.le_of_ble_eq_true rfl) dX6_readChoice_208 ⟨Nat.le_of_ble_eq_true rfl, Nat.le_of_ble_eq_true rfl⟩ (fun _ _ _ _ _ _ _ _ hp _ _ _ _ => hp.elim) (fun g113 l114 a115 b116 H locs hp117 hw => ?_)
                obtain ⟨h118, rfl, h120, rfl, h122⟩ := hp117
                obtain ⟨z123, hz123⟩ : ∃ z : Int32, x86 + 1 = z := ⟨_, rfl⟩
                refine lv_iinc (v := z123) (lv' := [(7, .int z123), (0, .ref (ad 25)), (4, .int x34), (5, .long x35)]) hx hb dX6_readChoice_211 hl (k := 3) rfl hz123 (by decide) rfl (fun ls hl => ?_)
                have xz123 : (z123).toInt = (x86).toInt + ((1 : Int32)).toInt := (hE_imp (hE_add hz123) (ob455 ((x86).toInt) (((1 : Int32)).toInt) ((g87 14).toInt) ((g 14).toInt) (k89 : Int) ((x34).toInt) ((z1).toInt) ((g 43).toInt) ((g44 14).toInt) ((z92).toInt) ((z91).toInt) ((g113 14).toInt) ((g36 14).toInt) ((x35).toInt) (((4294967296 : Int64)).toInt) ((g60 14).toInt) ((z70).toInt) hf_B85_0 hf_B85_1 hrk_B85 (hE_nle cc90) hi_g14 (hE_sub hz1) hf_B33_0 h69 hf_B85_2 (hE_sub hz92) h122 (congrArg Int32.toInt e_g44_14) (congrArg Int32.toInt e_g44_14) (hE_l2i hz91) hf_B33_1 (hE_neL cc54) (congrArg Int32.toInt e_g60_14) (hE_l2i hz70) (hE_rng (x86)) (by decide) (hE_rng (g87 14)) (hE_rng (g 14)) (hE_rng (x34)) (hE_rng (z1)) (hE_rng (g 43)) (hE_rng (g44 14)) (hE_rng (z92)) (hE_rng (z91)) (hE_rng (g113 14)) (hE_rng (g36 14)) (hE_rngL (x35)) (by decide) (hE_rng (g60 14)) (hE_rng (z70))))
                refine lv_goto (tgt := 179) hx hb dX6_readChoice_214 (by decide) ?_
                exact ih_B85 z123 g113 a115 ls _ _ (ob456 ((z123).toInt) (k89 : Int) ((x86).toInt) (((1 : Int32)).toInt) ((g87 14).toInt) ((g 14).toInt) ((x34).toInt) ((z1).toInt) ((g 43).toInt) ((g44 14).toInt) ((z92).toInt) ((z91).toInt) ((g113 14).toInt) ((g36 14).toInt) ((x35).toInt) (((4294967296 : Int64)).toInt) ((g60 14).toInt) ((z70).toInt) hrk_B85 xz123 hf_B85_0 hf_B85_1 (hE_nle cc90) hi_g14 (hE_sub hz1) hf_B33_0 h69 hf_B85_2 (hE_sub hz92) h122 (congrArg Int32.toInt e_g44_14) (congrArg Int32.toInt e_g44_14) (hE_l2i hz91) hf_B33_1 (hE_neL cc54) (congrArg Int32.toInt e_g60_14) (hE_l2i hz70) (hE_rng (z123)) (hE_rng (x86)) (by decide) (hE_rng (g87 14)) (hE_rng (g 14)) (hE_rng (x34)) (hE_rng (z1)) (hE_rng (g 43)) (hE_rng (g44 14)) (hE_rng (z92)) (hE_rng (z91)) (hE_rng (g113 14)) (hE_rng (g36 14)) (hE_rngL (x35)) (by decide) (hE_rng (g60 14)) (hE_rng (z70))) (ob457 ((g113 14).toInt) ((g 14).toInt) ((z123).toInt) ((z1).toInt) ((g 43).toInt) ((g87 14).toInt) ((x86).toInt) (((1 : Int32)).toInt) (k89 : Int) ((x34).toInt) ((z92).toInt) ((z91).toInt) ((g44 14).toInt) ((x35).toInt) (((4294967296 : Int64)).toInt) ((g36 14).toInt) ((z70).toInt) ((g60 14).toInt) hi_g14 (hE_sub hz1) hf_B85_0 h122 xz123 hf_B85_1 hf_B85_2 hrk_B85 (hE_nle cc90) (hE_sub hz92) hf_B33_0 h69 (hE_l2i hz91) (hE_neL cc54) (congrArg Int32.toInt e_g44_14) (congrArg Int32.toInt e_g44_14) (hE_l2i hz70) hf_B33_1 (congrArg Int32.toInt e_g60_14) (hE_rng (g113 14)) (hE_rng (g 14)) (hE_rng (z123)) (hE_rng (z1)) (hE_rng (g 43)) (hE_rng (g87 14)) (hE_rng (x86)) (by decide) (hE_rng (x34)) (hE_rng (z92)) (hE_rng (z91)) (hE_rng (g44 14)) (hE_rngL (x35)) (by decide) (hE_rng (g36 14)) (hE_rng (z70)) (hE_rng (g60 14))) (ob458 ((z123).toInt) ((x86).toInt) (((1 : Int32)).toInt) ((g87 14).toInt) ((g 14).toInt) (k89 : Int) ((x34).toInt) ((z1).toInt) ((g 43).toInt) ((g44 14).toInt) ((z92).toInt) ((z91).toInt) ((g113 14).toInt) ((g36 14).toInt) ((x35).toInt) (((4294967296 : Int64)).toInt) ((g60 14).toInt) ((z70).toInt) xz123 hf_B85_0 hf_B85_1 hrk_B85 (hE_nle cc90) hi_g14 (hE_sub hz1) hf_B33_0 h69 hf_B85_2 (hE_sub hz92) h122 (congrArg Int32.toInt e_g44_14) (congrArg Int32.toInt e_g44_14) (hE_l2i hz91) hf_B33_1 (hE_neL cc54) (congrArg Int32.toInt e_g60_14) (hE_l2i hz70) (hE_rng (z123)) (hE_rng (x86)) (by decide) (hE_rng (g87 14)) (hE_rng (g 14)) (hE_rng (x34)) (hE_rng (z1)) (hE_rng (g 43)) (hE_rng (g44 14)) (hE_rng (z92)) (hE_rng (z91)) (hE_rng (g113 14)) (hE_rng (g36 14)) (hE_rngL (x35)) (by decide) (hE_rng (g60 14)) (hE_rng (z70))) (ob459 ((g113 14).toInt) ((g87 14).toInt) ((g 14).toInt) ((x86).toInt) ((z92).toInt) ((z91).toInt) ((z1).toInt) ((g 43).toInt) (k89 : Int) ((x34).toInt) ((x35).toInt) ((z123).toInt) (((1 : Int32)).toInt) (((4294967296 : Int64)).toInt) ((g44 14).toInt) ((z70).toInt) ((g36 14).toInt) h122 hf_B85_0 hf_B85_2 (hE_sub hz92) hi_g14 (hE_sub hz1) hf_B85_1 hrk_B85 (hE_nle cc90) (hE_l2i hz91) xz123 hf_B33_0 (hE_neL cc54) h69 (hE_l2i hz70) (congrArg Int32.toInt e_g44_14) (congrArg Int32.toInt e_g44_14) (hE_rng (g113 14)) (hE_rng (g87 14)) (hE_rng (g 14)) (hE_rng (x86)) (hE_rng (z92)) (hE_rng (z91)) (hE_rng (z1)) (hE_rng (g 43)) (hE_rng (x34)) (hE_rngL (x35)) (hE_rng (z123)) (by decide) (by decide) (hE_rng (g44 14)) (hE_rng (z70)) (hE_rng (g36 14))) (hk_frT hfr_g87 (by decide) h118) (hk_frT hfr_a88 (by decide) h120) hw (lv_sub hl [1, 2, 3, 0] rfl)
          have e_g76_14 : g76 14 = (g36 14) := ((h81 14 rfl)).trans e_g60_14
          exact B85 (2147483648 - ((0 : Int32)).toInt).toNat 0 g76 a78 ls _ _ (Int.self_le_toNat _) (ob460 ((g76 14).toInt) ((g 14).toInt) (((0 : Int32)).toInt) ((z1).toInt) ((g 43).toInt) ((r6).toInt) ((g36 14).toInt) ((g44 14).toInt) ((g60 14).toInt) ((x34).toInt) hi_g14 (hE_sub hz1) (hE_ne cc16) (congrArg Int32.toInt e_g76_14) hf_B33_1 (congrArg Int32.toInt e_g44_14) (congrArg Int32.toInt e_g44_14) (congrArg Int32.toInt e_g60_14) h69 hf_B33_0 (hE_rng (g76 14)) (hE_rng (g 14)) (by decide) (hE_rng (z1)) (hE_rng (g 43)) (hE_rng (r6)) (hE_rng (g36 14)) (hE_rng (g44 14)) (hE_rng (g60 14)) (hE_rng (x34))) (ob461 (((0 : Int32)).toInt) ((r6).toInt) (hE_ne cc16) (by decide) (hE_rng (r6))) (ob462 ((g76 14).toInt) ((g36 14).toInt) ((g44 14).toInt) ((g60 14).toInt) ((x34).toInt) (congrArg Int32.toInt e_g76_14) hf_B33_1 (congrArg Int32.toInt e_g44_14) (congrArg Int32.toInt e_g44_14) (congrArg Int32.toInt e_g60_14) h69 hf_B33_0 (hE_rng (g76 14)) (hE_rng (g36 14)) (hE_rng (g44 14)) (hE_rng (g60 14)) (hE_rng (x34))) hk_fr0 hk_fr0 hw (lv_sub hl [1, 4, 5, 0] rfl)
        · refine lv_aload_n hx hb dX6_readChoice_132 rfl (lv_at hl 0 rfl) ?_
          refine lv_iload_n hx hb dX6_readChoice_133 rfl (lv_at hl 1 rfl) ?_
          have B124 : ∀  (x125 : Int32) (ls : Array Slot) (H : Heap) (locs : List Loc), (0 ≤ (x125).toInt ∧ (x125).toInt ≤ 1) → hk_W D (jT cI cJ) A s H locs (xw cI cJ ad g44 l37 a38 b47) → lv_has ls 8 [] → W p l e { frames := 10, cells := 1, slots := 6, locals := 187 } s m args below meth c H locs 0 0 Q (F0 m 142 ls [.int x125, .ref (ad 25)]) := by
            intro x125 ls H locs hf_B124_0 hw hl
            refine jx_Vv (As := [.int x125]) (rest := []) ⟨hx, hb, hml, hown, hts⟩ hZ hw hA (jx_X6_takeMark l hlt D t3 cI cJ ad g44 l37 a38 b47 _ x125) (cwV 1 hts (jx_gV wwX_good wX_488 wX_489 wX_490 wX_441 wX_491) rfl rfl rfl (by decide +kernel) ⟨Nat.le_of_ble_eq_true rfl, Nat.le_of_ble_eq_true rfl⟩) 25 (ci := 9) (T := TX6) (N := 16) rfl rfl rfl hl.1 rfl (Nat.le_of_ble_eq_true rfl) dX6_readChoice_142 ⟨Nat.le_of_ble_eq_true rfl, Nat.le_of_ble_eq_true rfl⟩ (fun u126 u127 u128 u129 H locs ce q hp hw h1 h2 h3 => by obtain ⟨ht0, rfl, ht2, rfl⟩ := hp; have e_u126_14 : u126 14 = (g36 14) := ((ht0 14 rfl)).trans (h49 14 rfl); exact kt _ _ _ _ _ _ _ _ _ _ _ ⟨(hk_frT (hk_frT (hk_frT (hk_frT hk_fr0 (by decide) h12) (by decide) hfr_g36) (by decide) h49) (by decide) ht0), (hk_frT h13 (by decide) hfr_l37), (hk_frT (hk_frT (hk_frT hk_fr0 (by decide) h14) (by decide) hfr_a38) (by decide) ht2), trivial, (ob451 ((u126 14).toInt) ((g36 14).toInt) (congrArg Int32.toInt e_u126_14) hf_B33_1 (hE_rng (u126 14)) (hE_rng (g36 14)))⟩ hw h1 h2 h3) (fun g131 l132 a133 b134 H locs hp135 hw => ?_)
            obtain ⟨h136, rfl, h138, rfl⟩ := hp135
            refine lv_iconst (v := 1) hx hb dX6_readChoice_145 (by decide) ?_
            have e_g131_14 : g131 14 = (g36 14) := ((h136 14 rfl)).trans (h49 14 rfl)
            exact kr 1 g131 l37 a133 b47 _ _ _ _ rfl ⟨(hk_frT (hk_frT (hk_frT (hk_frT hk_fr0 (by decide) h12) (by decide) hfr_g36) (by decide) h49) (by decide) h136), (hk_frT h13 (by decide) hfr_l37), (hk_frT (hk_frT (hk_frT hk_fr0 (by decide) h14) (by decide) hfr_a38) (by decide) h138), trivial, (ob451 ((g131 14).toInt) ((g36 14).toInt) (congrArg Int32.toInt e_g131_14) hf_B33_1 (hE_rng (g131 14)) (hE_rng (g36 14)))⟩ hw dX6_readChoice_146
          refine lv_if_ge (tgt := 141) hx hb dX6_readChoice_134 (by decide) (fun cc140 => ?_) (fun cc140 => ?_)
          · refine lv_iconst (v := 0) hx hb dX6_readChoice_141 (by decide) ?_
            exact B124 0 ls _ _ (ob463 (((0 : Int32)).toInt) ((r6).toInt) ((y1).toInt) (hE_ne cc16) (hE_le cc140) (by decide) (hE_rng (r6)) (hE_rng (y1))) hw (lv_sub hl [] rfl)
          · refine lv_iconst (v := 1) hx hb dX6_readChoice_137 (by decide) ?_
            refine lv_goto (tgt := 142) hx hb dX6_readChoice_138 (by decide) ?_
            exact B124 1 ls _ _ (ob49 (((1 : Int32)).toInt) (by decide)) hw (lv_sub hl [] rfl)
      refine lv_icmp_ne (tgt := 93) hx hb dX6_readChoice_61 (by decide) (fun cc141 => ?_) (fun cc141 => ?_)
      · refine lv_iload_n hx hb dX6_readChoice_93 rfl (lv_at hl 4 rfl) ?_
        refine lv_bipush (v := 6) hx hb dX6_readChoice_94 (by decide) ?_
        refine lv_icmp_eq (tgt := 113) hx hb dX6_readChoice_96 (by decide) (fun cc142 => ?_) (fun cc142 => ?_)
        · exact B33 1 r23 g7 l8 a9 ls _ _ (ob464 (((1 : Int32)).toInt) ((r6).toInt) (((0 : Int32)).toInt) (((6 : Int32)).toInt) (hE_ne cc141) (hE_ne cc16) (hE_eq cc142) (by decide) (hE_rng (r6)) (by decide) (by decide)) (ob443 ((g7 14).toInt) (hE_rng (g7 14))) hk_fr0 hk_fr0 hk_fr0 hw (lv_sub hl [1, 2, 4, 5, 0] rfl)
        · refine lv_aload_n hx hb dX6_readChoice_99 rfl (lv_at hl 1 rfl) ?_
          refine hk_get (ci := 9) (C := RX6) (T := TX6) (N := 16) (v := .ref (ad 9)) hx hb hts (fun _ h => List.mem_cons_of_mem _ (wwXc_wsX60 _ h)) hown hw 25 rfl rfl 2 (by decide) (hq _ wX_413) rfl dX6_readChoice_100 ?_
          refine lv_sipush (v := 1538) hx hb dX6_readChoice_103 (by decide) ?_
          refine lv_iconst (v := 0) hx hb dX6_readChoice_106 (by decide) ?_
          refine lv_iload_n hx hb dX6_readChoice_107 rfl (lv_at hl 3 rfl) ?_
          have e_g7_18 : g7 18 = (g 18) := (h12 18 rfl)
          refine jx_Vi (As := [.int 1538, .int 0, .int z1]) (rest := []) ⟨hx, hb, hml, hown, hts⟩ hZ hw hA (jx_X5_codeLength l hlt D t3 cI cJ ad g7 l8 a9 bk _ 1538 0 z1 (hk_pE (P := hk_rg 0 255) hi_a0rg (h14 0 rfl))) (cwV 3 hts (jx_gV wwX_good wX_475 wX_476 wX_477 wX_215 wX_478) rfl rfl rfl (by decide +kernel) ⟨Nat.le_of_ble_eq_true rfl, Nat.le_of_ble_eq_true rfl⟩) 9 (ci := 8) (T := TX5) (N := 6) rfl rfl rfl hl.1 rfl (Nat.le_of_ble_eq_true rfl) dX6_readChoice_108 ⟨Nat.le_of_ble_eq_true rfl, Nat.le_of_ble_eq_true rfl⟩ (fun u143 u144 u145 u146 H locs ce q hp hw h1 h2 h3 => by obtain ⟨ht0, ht1, ht2, rfl, ht4⟩ := hp; exact kt _ _ _ _ _ _ _ _ _ _ _ ⟨(hk_frT (hk_frT hk_fr0 (by decide) h12) (by decide) ht0), (hk_frT h13 (by decide) ht1), (hk_frT (hk_frT hk_fr0 (by decide) h14) (by decide) ht2), trivial, (ob443 ((u143 14).toInt) (hE_rng (u143 14)))⟩ hw h1 h2 h3) (fun r147 g148 l149 a150 b151 H locs hp152 hw => ?_)
          obtain ⟨h153, h154, h155, rfl, h157⟩ := hp152
          have hr158 : hk_rg 0 255 (a150 0) := (hk_pE (P := hk_rg 0 255) (hk_pE (P := hk_rg 0 255) hi_a0rg (h14 0 rfl)) (h155 0 rfl))
          refine lv_istore (lv' := [(4, .int r147), (5, .long r23), (0, .ref (ad 25)), (1, .int y1), (2, .int z1), (3, .int r6)]) hx hb dX6_readChoice_111 hl (by decide) rfl (fun ls hl => ?_)
          exact B33 r147 r23 g148 l149 a150 ls _ _ (ob450 ((r147).toInt) h157 (hE_rng (r147))) (ob443 ((g148 14).toInt) (hE_rng (g148 14))) h153 h154 h155 hw (lv_sub hl [2, 3, 5, 0, 1] rfl)
      · refine lv_aload_n hx hb dX6_readChoice_64 rfl (lv_at hl 1 rfl) ?_
        refine hk_get (ci := 9) (C := RX6) (T := TX6) (N := 16) (v := .ref (ad 9)) hx hb hts (fun _ h => List.mem_cons_of_mem _ (wwXc_wsX60 _ h)) hown hw 25 rfl rfl 2 (by decide) (hq _ wX_413) rfl dX6_readChoice_65 ?_
        refine lv_sipush (v := 1024) hx hb dX6_readChoice_68 (by decide) ?_
        refine lv_iconst (v := 0) hx hb dX6_readChoice_71 (by decide) ?_
        refine lv_iload_n hx hb dX6_readChoice_72 rfl (lv_at hl 3 rfl) ?_
        have e_g7_18 : g7 18 = (g 18) := (h12 18 rfl)
        refine jx_Vi (As := [.int 1024, .int 0, .int z1]) (rest := []) ⟨hx, hb, hml, hown, hts⟩ hZ hw hA (jx_X5_codeLength l hlt D t3 cI cJ ad g7 l8 a9 bk _ 1024 0 z1 (hk_pE (P := hk_rg 0 255) hi_a0rg (h14 0 rfl))) (cwV 3 hts (jx_gV wwX_good wX_475 wX_476 wX_477 wX_215 wX_478) rfl rfl rfl (by decide +kernel) ⟨Nat.le_of_ble_eq_true rfl, Nat.le_of_ble_eq_true rfl⟩) 9 (ci := 8) (T := TX5) (N := 6) rfl rfl rfl hl.1 rfl (Nat.le_of_ble_eq_true rfl) dX6_readChoice_73 ⟨Nat.le_of_ble_eq_true rfl, Nat.le_of_ble_eq_true rfl⟩ (fun u159 u160 u161 u162 H locs ce q hp hw h1 h2 h3 => by obtain ⟨ht0, ht1, ht2, rfl, ht4⟩ := hp; exact kt _ _ _ _ _ _ _ _ _ _ _ ⟨(hk_frT (hk_frT hk_fr0 (by decide) h12) (by decide) ht0), (hk_frT h13 (by decide) ht1), (hk_frT (hk_frT hk_fr0 (by decide) h14) (by decide) ht2), trivial, (ob443 ((u159 14).toInt) (hE_rng (u159 14)))⟩ hw h1 h2 h3) (fun r163 g164 l165 a166 b167 H locs hp168 hw => ?_)
        obtain ⟨h169, h170, h171, rfl, h173⟩ := hp168
        have hr174 : hk_rg 0 255 (a166 0) := (hk_pE (P := hk_rg 0 255) (hk_pE (P := hk_rg 0 255) hi_a0rg (h14 0 rfl)) (h171 0 rfl))
        refine lv_istore (lv' := [(4, .int r163), (5, .long r23), (0, .ref (ad 25)), (1, .int y1), (2, .int z1), (3, .int r6)]) hx hb dX6_readChoice_76 hl (by decide) rfl (fun ls hl => ?_)
        refine lv_aload_n hx hb dX6_readChoice_78 rfl (lv_at hl 2 rfl) ?_
        refine hk_get (ci := 9) (C := RX6) (T := TX6) (N := 16) (v := .ref (ad 9)) hx hb hts (fun _ h => List.mem_cons_of_mem _ (wwXc_wsX60 _ h)) hown hw 25 rfl rfl 2 (by decide) (hq _ wX_413) rfl dX6_readChoice_79 ?_
        refine lv_lconst (v := 0) hx hb dX6_readChoice_82 (by decide) ?_
        refine lv_iload hx hb dX6_readChoice_83 (lv_at hl 0 rfl) ?_
        have e_g164_18 : g164 18 = (g 18) := ((h169 18 rfl)).trans e_g7_18
        refine jx_Vl (As := [.long 0, .int r163]) (rest := []) ⟨hx, hb, hml, hown, hts⟩ hZ hw hA (jx_X5_codeFar l hlt D t3 cI cJ ad g164 l165 a166 bk _ 0 r163 hr174) (cwV 2 hts (jx_gV wwX_good wX_479 wX_480 wX_481 wX_215 wX_482) rfl rfl rfl (by decide +kernel) ⟨Nat.le_of_ble_eq_true rfl, Nat.le_of_ble_eq_true rfl⟩) 9 (ci := 8) (T := TX5) (N := 6) rfl rfl rfl hl.1 rfl (Nat.le_of_ble_eq_true rfl) dX6_readChoice_85 ⟨Nat.le_of_ble_eq_true rfl, Nat.le_of_ble_eq_true rfl⟩ (fun u175 u176 u177 u178 H locs ce q hp hw h1 h2 h3 => by obtain ⟨ht0, ht1, ht2, rfl, ht4⟩ := hp; exact kt _ _ _ _ _ _ _ _ _ _ _ ⟨(hk_frT (hk_frT (hk_frT hk_fr0 (by decide) h12) (by decide) h169) (by decide) ht0), (hk_frT (hk_frT h13 (by decide) h170) (by decide) ht1), (hk_frT (hk_frT (hk_frT hk_fr0 (by decide) h14) (by decide) h171) (by decide) ht2), trivial, (ob443 ((u175 14).toInt) (hE_rng (u175 14)))⟩ hw h1 h2 h3) (fun r179 g180 l181 a182 b183 H locs hp184 hw => ?_)
        obtain ⟨h185, h186, h187, rfl⟩ := hp184
        refine lv_lstore (lv' := [(5, .long r179), (4, .int r163), (0, .ref (ad 25)), (1, .int y1), (2, .int z1), (3, .int r6)]) hx hb dX6_readChoice_88 hl (by decide) rfl (fun ls hl => ?_)
        refine lv_goto (tgt := 113) hx hb dX6_readChoice_90 (by decide) ?_
        exact B33 r163 r179 g180 l181 a182 ls _ _ (ob450 ((r163).toInt) h173 (hE_rng (r163))) (ob443 ((g180 14).toInt) (hE_rng (g180 14))) (hk_frT h169 (by decide) h185) (hk_frT h170 (by decide) h186) (hk_frT h171 (by decide) h187) hw (lv_sub hl [2, 3, 5, 1, 0] rfl)
    refine lv_icmp_ne (tgt := 51) hx hb dX6_readChoice_44 (by decide) (fun cc189 => ?_) (fun cc189 => ?_)
    · refine lv_iload_n hx hb dX6_readChoice_51 rfl (lv_at hl 1 rfl) ?_
      refine lv_iconst (v := 2) hx hb dX6_readChoice_52 (by decide) ?_
      refine lv_isub hx hb dX6_readChoice_53 (jx_nm fun z190 hz190 => ?_)
      exact B17 z190 ls _ _ hw (lv_sub hl [3, 4, 2, 1, 0] rfl)
    · refine lv_iconst (v := 0) hx hb dX6_readChoice_47 (by decide) ?_
      refine lv_goto (tgt := 54) hx hb dX6_readChoice_48 (by decide) ?_
      exact B17 0 ls _ _ hw (lv_sub hl [3, 4, 2, 1, 0] rfl)
  · refine lv_aload_n hx hb dX6_readChoice_27 rfl (lv_at hl 2 rfl) ?_
    refine lv_iload_n hx hb dX6_readChoice_28 rfl (lv_at hl 1 rfl) ?_
    refine jx_Vv (As := [.int z1]) (rest := []) ⟨hx, hb, hml, hown, hts⟩ hZ hw hA (jx_X6_readLiteral l hlt D t3 cI cJ ad g7 l8 a9 bk _ z1 (ob443 ((g7 14).toInt) (hE_rng (g7 14))) (hk_pE (P := hk_rg 0 255) hi_a0rg (h14 0 rfl))) (cwV 1 hts (jx_gV wwX_good wX_470 wX_471 wX_472 wX_441 wX_473) rfl rfl rfl (by decide +kernel) ⟨Nat.le_of_ble_eq_true rfl, Nat.le_of_ble_eq_true rfl⟩) 25 (ci := 9) (T := TX6) (N := 16) rfl rfl rfl hl.1 rfl (Nat.le_of_ble_eq_true rfl) dX6_readChoice_29 ⟨Nat.le_of_ble_eq_true rfl, Nat.le_of_ble_eq_true rfl⟩ (fun u191 u192 u193 u194 H locs ce q hp hw h1 h2 h3 => by obtain ⟨ht0, ht1, ht2, -, ht4⟩ := hp; exact kt _ _ _ _ _ _ _ _ _ _ _ ⟨(hk_frT (hk_frT hk_fr0 (by decide) h12) (by decide) ht0), (hk_frT h13 (by decide) ht1), (hk_frT (hk_frT hk_fr0 (by decide) h14) (by decide) ht2), trivial, (ob465 ((u191 14).toInt) ht4 (hE_rng (u191 14)))⟩ hw h1 h2 h3) (fun g196 l197 a198 b199 H locs hp200 hw => ?_)
    obtain ⟨h201, h202, h203, -, h205⟩ := hp200
    have hr206 : hk_rg 0 255 (a198 0) := (hk_pE (P := hk_rg 0 255) (hk_pE (P := hk_rg 0 255) hi_a0rg (h14 0 rfl)) (h203 0 rfl))
    refine lv_iconst (v := 0) hx hb dX6_readChoice_32 (by decide) ?_
    exact kr 0 g196 l197 a198 b199 _ _ _ _ rfl ⟨(hk_frT (hk_frT hk_fr0 (by decide) h12) (by decide) h201), (hk_frT h13 (by decide) h202), (hk_frT (hk_frT hk_fr0 (by decide) h14) (by decide) h203), trivial, (ob465 ((g196 14).toInt) h205 (hE_rng (g196 14)))⟩ hw dX6_readChoice_33

set_option maxHeartbeats 4000000 in
set_option maxRecDepth 100000 in
/-- X6_readBits on (25,) -/
theorem jx_X6_readBits (l : Launch) (hlt : l.stackTraces = false) (D : va_G) (t3 : Nat × Nat × Nat) (cI cJ : ClassId) (ad : Nat → Nat) (g : Nat → Int32) (lg : Nat → Int64) (ar : Nat → Nat → Int32) (bk : Nat → Int64) (sz : Nat) (y1 : Int32) (hi_g14 : 0 ≤ (g 14).toInt ∧ (g 14).toInt ≤ 3000) (hi_a0rg : hk_rg 0 255 (ar 0)) : JMv l yX6_readBits (Cond.code yX6_readBits cX6_readBits 4 none :: wwX) { frames := 11, cells := 1, slots := 6, locals := 214 } t3 D xw cI cJ ad [.ref (ad 25), .int y1] (xw cI cJ ad g lg ar bk) sz 1 6 (fun g' lg' ar' bk' => hk_fr [14, 15, 17, 18, 19, 20, 24, 25] g g' ∧ hk_fr [0, 1, 2] lg lg' ∧ hk_fr [1, 2, 6] ar ar' ∧ True ∧ (0 ≤ (g' 14).toInt ∧ (g' 14).toInt ≤ 3000)) (fun g' lg' ar' bk' => hk_fr [14, 15, 17, 18, 19, 20, 24, 25] g g' ∧ hk_fr [0, 1, 2] lg lg' ∧ hk_fr [1, 2, 6] ar ar' ∧ True ∧ (0 ≤ (g' 14).toInt ∧ (g' 14).toInt ≤ 3000)) := by
  refine jx_metv (cc := cX6_readBits) (maxL := 4) (ret := none) rfl (by decide) rfl (Nat.le_of_ble_eq_true rfl) ?_
  intro p e s m args below meth c ls Q A hx hb hml hown hts hA hZ hw hl hQ kr kt
  have hq : ∀ w ∈ wwX, w.before args s = true := fun w h => hts w (List.mem_cons_of_mem _ h)
  have hl : lv_has ls 4 [(0, .ref (ad 25)), (1, .int y1)] := hl
  refine lv_aload_n hx hb dX6_readBits_0 rfl (lv_at hl 0 rfl) ?_
  refine hk_get (ci := 9) (C := RX6) (T := TX6) (N := 16) (v := .ref (ad 9)) hx hb hts (fun _ h => List.mem_cons_of_mem _ (wwXc_wsX60 _ h)) hown hw 25 rfl rfl 2 (by decide) (hq _ wX_413) rfl dX6_readBits_1 ?_
  refine hk_get (ci := 8) (C := RX5) (T := TX5) (N := 6) (v := .ref (ad 7)) hx hb hts (fun _ h => List.mem_cons_of_mem _ (wwXc_wsX50 _ h)) hown hw 9 rfl rfl 0 (by decide) (hq _ wX_426) rfl dX6_readBits_4 ?_
  refine jx_Vv (As := []) (rest := []) ⟨hx, hb, hml, hown, hts⟩ hZ hw hA (jx_X2_beginOpening l hlt D t3 cI cJ ad g lg ar bk _ hi_a0rg) (cwV 0 hts (jx_gV wwX_good wX_458 wX_459 wX_460 wX_270 wX_461) rfl rfl rfl (by decide +kernel) ⟨Nat.le_of_ble_eq_true rfl, Nat.le_of_ble_eq_true rfl⟩) 7 (ci := 5) (T := TX2) (N := 9) rfl rfl rfl hl.1 rfl (Nat.le_of_ble_eq_true rfl) dX6_readBits_7 ⟨Nat.le_of_ble_eq_true rfl, Nat.le_of_ble_eq_true rfl⟩ (fun u1 u2 u3 u4 H locs ce q hp hw h1 h2 h3 => by obtain ⟨ht0, ht1, rfl, rfl⟩ := hp; have e_u1_14 : u1 14 = (g 14) := (ht0 14 rfl); exact kt _ _ _ _ _ _ _ _ _ _ _ ⟨(hk_frT hk_fr0 (by decide) ht0), (hk_frT hk_fr0 (by decide) ht1), hk_fr0, trivial, (ob451 ((u1 14).toInt) ((g 14).toInt) (congrArg Int32.toInt e_u1_14) hi_g14 (hE_rng (u1 14)) (hE_rng (g 14)))⟩ hw h1 h2 h3) (fun g6 l7 a8 b9 H locs hp10 hw => ?_)
  obtain ⟨h11, h12, rfl, rfl⟩ := hp10
  refine lv_iconst (v := 0) hx hb dX6_readBits_10 (by decide) ?_
  refine lv_istore_n (lv' := [(2, .int 0), (0, .ref (ad 25)), (1, .int y1)]) hx hb dX6_readBits_11 rfl hl (by decide) rfl (fun ls hl => ?_)
  refine lv_iconst (v := 0) hx hb dX6_readBits_12 (by decide) ?_
  refine lv_istore_n (lv' := [(3, .int 0), (2, .int 0), (0, .ref (ad 25)), (1, .int y1)]) hx hb dX6_readBits_13 rfl hl (by decide) rfl (fun ls hl => ?_)
  have B15 : ∀ (k22 : Nat) (x16 : Int32) (x17 : Int32) (g18 : Nat → Int32) (l19 : Nat → Int64) (a20 : Nat → Nat → Int32) (b21 : Nat → Int64) (ls : Array Slot) (H : Heap) (locs : List Loc), (2147483648 - (x17).toInt ≤ (k22 : Int)) → (0 ≤ (x17).toInt) → (0 ≤ (g18 14).toInt ∧ (g18 14).toInt ≤ 3000) → (hk_fr [14, 15, 17, 19, 20, 24, 25] g6 g18) → (hk_fr [0, 1, 2] l7 l19) → (hk_fr [1, 2, 6] ar a20) → hk_W D (jT cI cJ) A s H locs (xw cI cJ ad g18 l19 a20 b21) → lv_has ls 4 [(0, .ref (ad 25)), (1, .int y1), (2, .int x16), (3, .int x17)] → W p l e { frames := 11, cells := 1, slots := 6, locals := 214 } s m args below meth c H locs 0 0 Q (F0 m 14 ls []) := by
    intro k22
    induction k22 with
    | zero =>
      intro x16 x17 g18 l19 a20 b21 ls H locs hrk_B15 hf_B15_0 hf_B15_1 hfr_g18 hfr_l19 hfr_a20 hw hl
      exact False.elim (hk_no0 (0 * (x17).toInt) (ob5 ((x17).toInt) hf_B15_0 hrk_B15 (hE_rng (x17))) (by simp))
    | succ k22 ih_B15 =>
      intro x16 x17 g18 l19 a20 b21 ls H locs hrk_B15 hf_B15_0 hf_B15_1 hfr_g18 hfr_l19 hfr_a20 hw hl
      have hrk_B15 := hk_rk hrk_B15
      refine lv_iload_n hx hb dX6_readBits_14 rfl (lv_at hl 3 rfl) ?_
      refine lv_sipush (v := 3000) hx hb dX6_readBits_15 (by decide) ?_
      refine lv_icmp_gt (tgt := 52) hx hb dX6_readBits_18 (by decide) (fun cc23 => ?_) (fun cc23 => ?_)
      · exact kr g18 l19 a20 b21 _ _ _ _ ⟨(hk_frT (hk_frT hk_fr0 (by decide) h11) (by decide) hfr_g18), (hk_frT (hk_frT hk_fr0 (by decide) h12) (by decide) hfr_l19), hfr_a20, trivial, (ob465 ((g18 14).toInt) hf_B15_1 (hE_rng (g18 14)))⟩ hw dX6_readBits_52
      · refine lv_iload_n hx hb dX6_readBits_21 rfl (lv_at hl 2 rfl) ?_
        refine lv_if_ne (tgt := 52) hx hb dX6_readBits_22 (by decide) (fun cc24 => ?_) (fun cc24 => ?_)
        · exact kr g18 l19 a20 b21 _ _ _ _ ⟨(hk_frT (hk_frT hk_fr0 (by decide) h11) (by decide) hfr_g18), (hk_frT (hk_frT hk_fr0 (by decide) h12) (by decide) hfr_l19), hfr_a20, trivial, (ob465 ((g18 14).toInt) hf_B15_1 (hE_rng (g18 14)))⟩ hw dX6_readBits_52
        · refine lv_iload_n hx hb dX6_readBits_25 rfl (lv_at hl 1 rfl) ?_
          have B25 : ∀  (ls : Array Slot) (H : Heap) (locs : List Loc), hk_W D (jT cI cJ) A s H locs (xw cI cJ ad g18 l19 a20 b21) → lv_has ls 4 [(0, .ref (ad 25)), (1, .int y1), (3, .int x17)] → W p l e { frames := 11, cells := 1, slots := 6, locals := 214 } s m args below meth c H locs 0 0 Q (F0 m 40 ls []) := by
            intro ls H locs hw hl
            refine lv_aload_n hx hb dX6_readBits_40 rfl (lv_at hl 0 rfl) ?_
            refine lv_iload_n hx hb dX6_readBits_41 rfl (lv_at hl 1 rfl) ?_
            refine jx_Vi (As := [.int y1]) (rest := []) ⟨hx, hb, hml, hown, hts⟩ hZ hw hA (jx_X6_readChoice l hlt D t3 cI cJ ad g18 l19 a20 b21 _ y1 (ob465 ((g18 14).toInt) hf_B15_1 (hE_rng (g18 14))) (hk_pE (P := hk_rg 0 255) hi_a0rg (hfr_a20 0 rfl))) (cwV 1 hts (jx_gV wwX_good wX_462 wX_463 wX_464 wX_441 wX_465) rfl rfl rfl (by decide +kernel) ⟨Nat.le_of_ble_eq_true rfl, Nat.le_of_ble_eq_true rfl⟩) 25 (ci := 9) (T := TX6) (N := 16) rfl rfl rfl hl.1 rfl (Nat.le_of_ble_eq_true rfl) dX6_readBits_42 ⟨Nat.le_of_ble_eq_true rfl, Nat.le_of_ble_eq_true rfl⟩ (fun u26 u27 u28 u29 H locs ce q hp hw h1 h2 h3 => by obtain ⟨ht0, ht1, ht2, -, ht4⟩ := hp; exact kt _ _ _ _ _ _ _ _ _ _ _ ⟨(hk_frT (hk_frT (hk_frT hk_fr0 (by decide) h11) (by decide) hfr_g18) (by decide) ht0), (hk_frT (hk_frT (hk_frT hk_fr0 (by decide) h12) (by decide) hfr_l19) (by decide) ht1), (hk_frT hfr_a20 (by decide) ht2), trivial, (ob465 ((u26 14).toInt) ht4 (hE_rng (u26 14)))⟩ hw h1 h2 h3) (fun r30 g31 l32 a33 b34 H locs hp35 hw => ?_)
            obtain ⟨h36, h37, h38, -, h40⟩ := hp35
            have hr41 : hk_rg 0 255 (a33 0) := (hk_pE (P := hk_rg 0 255) (hk_pE (P := hk_rg 0 255) hi_a0rg (hfr_a20 0 rfl)) (h38 0 rfl))
            refine lv_istore_n (lv' := [(2, .int r30), (0, .ref (ad 25)), (1, .int y1), (3, .int x17)]) hx hb dX6_readBits_45 rfl hl (by decide) rfl (fun ls hl => ?_)
            obtain ⟨z42, hz42⟩ : ∃ z : Int32, x17 + 1 = z := ⟨_, rfl⟩
            refine lv_iinc (v := z42) (lv' := [(3, .int z42), (2, .int r30), (0, .ref (ad 25)), (1, .int y1)]) hx hb dX6_readBits_46 hl (k := 3) rfl hz42 (by decide) rfl (fun ls hl => ?_)
            have xz42 : (z42).toInt = (x17).toInt + ((1 : Int32)).toInt := (hE_imp (hE_add hz42) (ob466 ((x17).toInt) (((1 : Int32)).toInt) (k22 : Int) (((3000 : Int32)).toInt) hf_B15_0 hrk_B15 (hE_nlt cc23) (hE_rng (x17)) (by decide) (by decide)))
            refine lv_goto (tgt := 14) hx hb dX6_readBits_49 (by decide) ?_
            exact ih_B15 r30 z42 g31 l32 a33 b34 ls _ _ (ob467 ((z42).toInt) (k22 : Int) ((x17).toInt) (((1 : Int32)).toInt) (((3000 : Int32)).toInt) hrk_B15 xz42 hf_B15_0 (hE_nlt cc23) (hE_rng (z42)) (hE_rng (x17)) (by decide) (by decide)) (ob468 ((z42).toInt) ((x17).toInt) (((1 : Int32)).toInt) (k22 : Int) (((3000 : Int32)).toInt) xz42 hf_B15_0 hrk_B15 (hE_nlt cc23) (hE_rng (z42)) (hE_rng (x17)) (by decide) (by decide)) (ob465 ((g31 14).toInt) h40 (hE_rng (g31 14))) (hk_frT hfr_g18 (by decide) h36) (hk_frT hfr_l19 (by decide) h37) (hk_frT hfr_a20 (by decide) h38) hw (lv_sub hl [2, 3, 1, 0] rfl)
          refine lv_if_lt (tgt := 40) hx hb dX6_readBits_26 (by decide) (fun cc43 => ?_) (fun cc43 => ?_)
          · exact B25 ls _ _ hw (lv_sub hl [0, 1, 3] rfl)
          · refine lv_aload_n hx hb dX6_readBits_29 rfl (lv_at hl 0 rfl) ?_
            refine hk_get (ci := 9) (C := RX6) (T := TX6) (N := 16) (v := .ref (ad 4)) hx hb hts (fun _ h => List.mem_cons_of_mem _ (wwXc_wsX60 _ h)) hown hw 25 rfl rfl 1 (by decide) (hq _ wX_410) rfl dX6_readBits_30 ?_
            refine hk_get (ci := 12) (C := RX9) (T := TX9) (N := 2) (v := .int (g18 14)) hx hb hts (fun _ h => List.mem_cons_of_mem _ (wwXc_wsX90 _ h)) hown hw 4 rfl rfl 1 (by decide) (hq _ wX_402) rfl dX6_readBits_33 ?_
            refine lv_iload_n hx hb dX6_readBits_36 rfl (lv_at hl 1 rfl) ?_
            refine lv_icmp_ge (tgt := 52) hx hb dX6_readBits_37 (by decide) (fun cc44 => ?_) (fun cc44 => ?_)
            · exact kr g18 l19 a20 b21 _ _ _ _ ⟨(hk_frT (hk_frT hk_fr0 (by decide) h11) (by decide) hfr_g18), (hk_frT (hk_frT hk_fr0 (by decide) h12) (by decide) hfr_l19), hfr_a20, trivial, (ob469 ((g18 14).toInt) ((y1).toInt) (((0 : Int32)).toInt) ((x16).toInt) hf_B15_1 (hE_le cc44) (hE_nlt cc43) (hE_eq cc24) (hE_rng (g18 14)) (hE_rng (y1)) (by decide) (hE_rng (x16)))⟩ hw dX6_readBits_52
            · exact B25 ls _ _ hw (lv_sub hl [0, 1, 3] rfl)
  have e_g6_14 : g6 14 = (g 14) := (h11 14 rfl)
  exact B15 (2147483648 - ((0 : Int32)).toInt).toNat 0 0 g6 l7 ar bk ls _ _ (Int.self_le_toNat _) (ob9 (((0 : Int32)).toInt) (by decide)) (ob451 ((g6 14).toInt) ((g 14).toInt) (congrArg Int32.toInt e_g6_14) hi_g14 (hE_rng (g6 14)) (hE_rng (g 14))) hk_fr0 hk_fr0 hk_fr0 hw (lv_sub hl [2, 3, 1, 0] rfl)

set_option maxHeartbeats 4000000 in
set_option maxRecDepth 100000 in
/-- X6_readLateMark on (25,) -/
theorem jx_X6_readLateMark (l : Launch) (hlt : l.stackTraces = false) (D : va_G) (t3 : Nat × Nat × Nat) (cI cJ : ClassId) (ad : Nat → Nat) (g : Nat → Int32) (lg : Nat → Int64) (ar : Nat → Nat → Int32) (bk : Nat → Int64) (sz : Nat) (hi_g14 : 0 ≤ (g 14).toInt ∧ (g 14).toInt ≤ 3000) (hi_a0rg : hk_rg 0 255 (ar 0)) : JMv l yX6_readLateMark (Cond.code yX6_readLateMark cX6_readLateMark 5 none :: wwX) { frames := 10, cells := 1, slots := 6, locals := 187 } t3 D xw cI cJ ad [.ref (ad 25)] (xw cI cJ ad g lg ar bk) sz 1 6 (fun g' lg' ar' bk' => hk_fr [14, 15, 17, 19, 20, 24, 25] g g' ∧ hk_fr [0, 1, 2] lg lg' ∧ hk_fr [1, 2, 6] ar ar' ∧ True ∧ (0 ≤ (g' 14).toInt ∧ (g' 14).toInt ≤ 3000)) (fun g' lg' ar' bk' => hk_fr [14, 15, 17, 19, 20, 24, 25] g g' ∧ hk_fr [0, 1, 2] lg lg' ∧ hk_fr [1, 2, 6] ar ar' ∧ True ∧ (0 ≤ (g' 14).toInt ∧ (g' 14).toInt ≤ 3000)) := by
  refine jx_metv (cc := cX6_readLateMark) (maxL := 5) (ret := none) rfl (by decide) rfl (Nat.le_of_ble_eq_true rfl) ?_
  intro p e s m args below meth c ls Q A hx hb hml hown hts hA hZ hw hl hQ kr kt
  have hq : ∀ w ∈ wwX, w.before args s = true := fun w h => hts w (List.mem_cons_of_mem _ h)
  have hl : lv_has ls 5 [(0, .ref (ad 25))] := hl
  refine lv_aload_n hx hb dX6_readLateMark_0 rfl (lv_at hl 0 rfl) ?_
  refine hk_get (ci := 9) (C := RX6) (T := TX6) (N := 16) (v := .ref (ad 4)) hx hb hts (fun _ h => List.mem_cons_of_mem _ (wwXc_wsX60 _ h)) hown hw 25 rfl rfl 1 (by decide) (hq _ wX_410) rfl dX6_readLateMark_1 ?_
  refine hk_get (ci := 12) (C := RX9) (T := TX9) (N := 2) (v := .int (g 14)) hx hb hts (fun _ h => List.mem_cons_of_mem _ (wwXc_wsX90 _ h)) hown hw 4 rfl rfl 1 (by decide) (hq _ wX_402) rfl dX6_readLateMark_4 ?_
  refine lv_aload_n hx hb dX6_readLateMark_7 rfl (lv_at hl 0 rfl) ?_
  refine hk_get (ci := 9) (C := RX6) (T := TX6) (N := 16) (v := .int (g 43)) hx hb hts (fun _ h => List.mem_cons_of_mem _ (wwXc_wsX60 _ h)) hown hw 25 rfl rfl 9 (by decide) (hq _ wX_422) rfl dX6_readLateMark_8 ?_
  refine lv_isub hx hb dX6_readLateMark_11 (jx_nm fun z1 hz1 => ?_)
  refine lv_istore_n (lv' := [(1, .int z1), (0, .ref (ad 25))]) hx hb dX6_readLateMark_12 rfl hl (by decide) rfl (fun ls hl => ?_)
  refine lv_aload_n hx hb dX6_readLateMark_13 rfl (lv_at hl 1 rfl) ?_
  refine hk_get (ci := 9) (C := RX6) (T := TX6) (N := 16) (v := .ref (ad 9)) hx hb hts (fun _ h => List.mem_cons_of_mem _ (wwXc_wsX60 _ h)) hown hw 25 rfl rfl 2 (by decide) (hq _ wX_413) rfl dX6_readLateMark_14 ?_
  refine lv_iload_n hx hb dX6_readLateMark_17 rfl (lv_at hl 0 rfl) ?_
  refine jx_Vi (As := [.int z1]) (rest := []) ⟨hx, hb, hml, hown, hts⟩ hZ hw hA (jx_X5_codeMatch l hlt D t3 cI cJ ad g lg ar bk _ z1 hi_a0rg) (cwV 1 hts (jx_gV wwX_good wX_547 wX_548 wX_549 wX_215 wX_550) rfl rfl rfl (by decide +kernel) ⟨Nat.le_of_ble_eq_true rfl, Nat.le_of_ble_eq_true rfl⟩) 9 (ci := 8) (T := TX5) (N := 6) rfl rfl rfl hl.1 rfl (Nat.le_of_ble_eq_true rfl) dX6_readLateMark_18 ⟨Nat.le_of_ble_eq_true rfl, Nat.le_of_ble_eq_true rfl⟩ (fun u2 u3 u4 u5 H locs ce q hp hw h1 h2 h3 => by obtain ⟨ht0, ht1, ht2, rfl, ht4⟩ := hp; exact kt _ _ _ _ _ _ _ _ _ _ _ ⟨(hk_frT hk_fr0 (by decide) ht0), ht1, (hk_frT hk_fr0 (by decide) ht2), trivial, (ob443 ((u2 14).toInt) (hE_rng (u2 14)))⟩ hw h1 h2 h3) (fun r6 g7 l8 a9 b10 H locs hp11 hw => ?_)
  obtain ⟨h12, h13, h14, rfl⟩ := hp11
  have B16 : ∀  (g17 : Nat → Int32) (ls : Array Slot) (H : Heap) (locs : List Loc), (hk_fr [17] g7 g17) → hk_W D (jT cI cJ) A s H locs (xw cI cJ ad g17 l8 a9 bk) → lv_has ls 5 [(0, .ref (ad 25)), (1, .int z1)] → W p l e { frames := 10, cells := 1, slots := 6, locals := 187 } s m args below meth c H locs 0 0 Q (F0 m 33 ls []) := by
    intro g17 ls H locs hfr_g17 hw hl
    refine lv_aload_n hx hb dX6_readLateMark_33 rfl (lv_at hl 0 rfl) ?_
    refine hk_get (ci := 9) (C := RX6) (T := TX6) (N := 16) (v := .ref (ad 9)) hx hb hts (fun _ h => List.mem_cons_of_mem _ (wwXc_wsX60 _ h)) hown hw 25 rfl rfl 2 (by decide) (hq _ wX_413) rfl dX6_readLateMark_34 ?_
    refine lv_sipush (v := 1024) hx hb dX6_readLateMark_37 (by decide) ?_
    refine lv_iconst (v := 0) hx hb dX6_readLateMark_40 (by decide) ?_
    refine lv_iload_n hx hb dX6_readLateMark_41 rfl (lv_at hl 1 rfl) ?_
    have e_g17_18 : g17 18 = (g 18) := ((hfr_g17 18 rfl)).trans (h12 18 rfl)
    refine jx_Vi (As := [.int 1024, .int 0, .int z1]) (rest := []) ⟨hx, hb, hml, hown, hts⟩ hZ hw hA (jx_X5_codeLength l hlt D t3 cI cJ ad g17 l8 a9 bk _ 1024 0 z1 (hk_pE (P := hk_rg 0 255) hi_a0rg (h14 0 rfl))) (cwV 3 hts (jx_gV wwX_good wX_475 wX_476 wX_477 wX_215 wX_478) rfl rfl rfl (by decide +kernel) ⟨Nat.le_of_ble_eq_true rfl, Nat.le_of_ble_eq_true rfl⟩) 9 (ci := 8) (T := TX5) (N := 6) rfl rfl rfl hl.1 rfl (Nat.le_of_ble_eq_true rfl) dX6_readLateMark_42 ⟨Nat.le_of_ble_eq_true rfl, Nat.le_of_ble_eq_true rfl⟩ (fun u18 u19 u20 u21 H locs ce q hp hw h1 h2 h3 => by obtain ⟨ht0, ht1, ht2, rfl, ht4⟩ := hp; exact kt _ _ _ _ _ _ _ _ _ _ _ ⟨(hk_frT (hk_frT (hk_frT hk_fr0 (by decide) h12) (by decide) hfr_g17) (by decide) ht0), (hk_frT h13 (by decide) ht1), (hk_frT (hk_frT hk_fr0 (by decide) h14) (by decide) ht2), trivial, (ob443 ((u18 14).toInt) (hE_rng (u18 14)))⟩ hw h1 h2 h3) (fun r22 g23 l24 a25 b26 H locs hp27 hw => ?_)
    obtain ⟨h28, h29, h30, rfl, h32⟩ := hp27
    have hr33 : hk_rg 0 255 (a25 0) := (hk_pE (P := hk_rg 0 255) (hk_pE (P := hk_rg 0 255) hi_a0rg (h14 0 rfl)) (h30 0 rfl))
    refine lv_istore_n (lv' := [(2, .int r22), (0, .ref (ad 25)), (1, .int z1)]) hx hb dX6_readLateMark_45 rfl hl (by decide) rfl (fun ls hl => ?_)
    refine lv_aload_n hx hb dX6_readLateMark_46 rfl (lv_at hl 1 rfl) ?_
    refine hk_get (ci := 9) (C := RX6) (T := TX6) (N := 16) (v := .ref (ad 9)) hx hb hts (fun _ h => List.mem_cons_of_mem _ (wwXc_wsX60 _ h)) hown hw 25 rfl rfl 2 (by decide) (hq _ wX_413) rfl dX6_readLateMark_47 ?_
    refine lv_lconst (v := 0) hx hb dX6_readLateMark_50 (by decide) ?_
    refine lv_iload_n hx hb dX6_readLateMark_51 rfl (lv_at hl 0 rfl) ?_
    have e_g23_18 : g23 18 = (g 18) := ((h28 18 rfl)).trans e_g17_18
    refine jx_Vl (As := [.long 0, .int r22]) (rest := []) ⟨hx, hb, hml, hown, hts⟩ hZ hw hA (jx_X5_codeFar l hlt D t3 cI cJ ad g23 l24 a25 bk _ 0 r22 hr33) (cwV 2 hts (jx_gV wwX_good wX_479 wX_480 wX_481 wX_215 wX_482) rfl rfl rfl (by decide +kernel) ⟨Nat.le_of_ble_eq_true rfl, Nat.le_of_ble_eq_true rfl⟩) 9 (ci := 8) (T := TX5) (N := 6) rfl rfl rfl hl.1 rfl (Nat.le_of_ble_eq_true rfl) dX6_readLateMark_52 ⟨Nat.le_of_ble_eq_true rfl, Nat.le_of_ble_eq_true rfl⟩ (fun u34 u35 u36 u37 H locs ce q hp hw h1 h2 h3 => by obtain ⟨ht0, ht1, ht2, rfl, ht4⟩ := hp; exact kt _ _ _ _ _ _ _ _ _ _ _ ⟨(hk_frT (hk_frT (hk_frT (hk_frT hk_fr0 (by decide) h12) (by decide) hfr_g17) (by decide) h28) (by decide) ht0), (hk_frT (hk_frT h13 (by decide) h29) (by decide) ht1), (hk_frT (hk_frT (hk_frT hk_fr0 (by decide) h14) (by decide) h30) (by decide) ht2), trivial, (ob443 ((u34 14).toInt) (hE_rng (u34 14)))⟩ hw h1 h2 h3) (fun r38 g39 l40 a41 b42 H locs hp43 hw => ?_)
    obtain ⟨h44, h45, h46, rfl⟩ := hp43
    refine lv_lstore_n (lv' := [(3, .long r38), (2, .int r22), (0, .ref (ad 25)), (1, .int z1)]) hx hb dX6_readLateMark_55 rfl hl (by decide) rfl (fun ls hl => ?_)
    refine lv_aload_n hx hb dX6_readLateMark_56 rfl (lv_at hl 2 rfl) ?_
    refine hk_get (ci := 9) (C := RX6) (T := TX6) (N := 16) (v := .ref (ad 9)) hx hb hts (fun _ h => List.mem_cons_of_mem _ (wwXc_wsX60 _ h)) hown hw 25 rfl rfl 2 (by decide) (hq _ wX_413) rfl dX6_readLateMark_57 ?_
    refine lv_iconst (v := 1) hx hb dX6_readLateMark_60 (by decide) ?_
    refine lv_lload_n hx hb dX6_readLateMark_61 rfl (lv_at hl 0 rfl) ?_
    refine jx_Vv (As := [.int 1, .long r38]) (rest := []) ⟨hx, hb, hml, hown, hts⟩ hZ hw hA (jx_X5_follow l hlt D t3 cI cJ ad g39 l40 a41 bk _ 1 r38) (cwV 2 hts (jx_gV wwX_good wX_483 wX_484 wX_485 wX_215 wX_486) rfl rfl rfl (by decide +kernel) ⟨Nat.le_of_ble_eq_true rfl, Nat.le_of_ble_eq_true rfl⟩) 9 (ci := 8) (T := TX5) (N := 6) rfl rfl rfl hl.1 rfl (Nat.le_of_ble_eq_true rfl) dX6_readLateMark_62 ⟨Nat.le_of_ble_eq_true rfl, Nat.le_of_ble_eq_true rfl⟩ (fun _ _ _ _ _ _ _ _ hp _ _ _ _ => hp.elim) (fun g53 l54 a55 b56 H locs hp57 hw => ?_)
    obtain ⟨h58, rfl, rfl, -⟩ := hp57
    refine lv_aload_n hx hb dX6_readLateMark_65 rfl (lv_at hl 2 rfl) ?_
    refine lv_lload_n hx hb dX6_readLateMark_66 rfl (lv_at hl 0 rfl) ?_
    refine lv_ldc2 (v := 4294967296) hx hb hown (hq _ wX_487) dX6_readLateMark_67 ?_
    have B62 : ∀  (x63 : Int32) (ls : Array Slot) (H : Heap) (locs : List Loc), (0 ≤ (x63).toInt ∧ (x63).toInt ≤ 1) → hk_W D (jT cI cJ) A s H locs (xw cI cJ ad g53 l40 a41 b56) → lv_has ls 5 [] → W p l e { frames := 10, cells := 1, slots := 6, locals := 187 } s m args below meth c H locs 0 0 Q (F0 m 79 ls [.int x63, .ref (ad 25)]) := by
      intro x63 ls H locs hf_B62_0 hw hl
      refine jx_Vv (As := [.int x63]) (rest := []) ⟨hx, hb, hml, hown, hts⟩ hZ hw hA (jx_X6_takeMark l hlt D t3 cI cJ ad g53 l40 a41 b56 _ x63) (cwV 1 hts (jx_gV wwX_good wX_488 wX_489 wX_490 wX_441 wX_491) rfl rfl rfl (by decide +kernel) ⟨Nat.le_of_ble_eq_true rfl, Nat.le_of_ble_eq_true rfl⟩) 25 (ci := 9) (T := TX6) (N := 16) rfl rfl rfl hl.1 rfl (Nat.le_of_ble_eq_true rfl) dX6_readLateMark_79 ⟨Nat.le_of_ble_eq_true rfl, Nat.le_of_ble_eq_true rfl⟩ (fun u64 u65 u66 u67 H locs ce q hp hw h1 h2 h3 => by obtain ⟨ht0, rfl, ht2, rfl⟩ := hp; have e_u64_14 : u64 14 = (g39 14) := ((ht0 14 rfl)).trans (h58 14 rfl); exact kt _ _ _ _ _ _ _ _ _ _ _ ⟨(hk_frT (hk_frT (hk_frT (hk_frT (hk_frT (hk_frT hk_fr0 (by decide) h12) (by decide) hfr_g17) (by decide) h28) (by decide) h44) (by decide) h58) (by decide) ht0), (hk_frT (hk_frT h13 (by decide) h29) (by decide) h45), (hk_frT (hk_frT (hk_frT (hk_frT hk_fr0 (by decide) h14) (by decide) h30) (by decide) h46) (by decide) ht2), trivial, (ob470 ((u64 14).toInt) ((g39 14).toInt) (congrArg Int32.toInt e_u64_14) (hE_rng (u64 14)) (hE_rng (g39 14)))⟩ hw h1 h2 h3) (fun g69 l70 a71 b72 H locs hp73 hw => ?_)
      obtain ⟨h74, rfl, h76, rfl⟩ := hp73
      have hr78 : hk_rg 0 255 (a71 0) := (hk_pE (P := hk_rg 0 255) (hk_pE (P := hk_rg 0 255) hr33 (h46 0 rfl)) (h76 0 rfl))
      have e_g69_14 : g69 14 = (g39 14) := ((h74 14 rfl)).trans (h58 14 rfl)
      exact kr g69 l40 a71 b56 _ _ _ _ ⟨(hk_frT (hk_frT (hk_frT (hk_frT (hk_frT (hk_frT hk_fr0 (by decide) h12) (by decide) hfr_g17) (by decide) h28) (by decide) h44) (by decide) h58) (by decide) h74), (hk_frT (hk_frT h13 (by decide) h29) (by decide) h45), (hk_frT (hk_frT (hk_frT (hk_frT hk_fr0 (by decide) h14) (by decide) h30) (by decide) h46) (by decide) h76), trivial, (ob470 ((g69 14).toInt) ((g39 14).toInt) (congrArg Int32.toInt e_g69_14) (hE_rng (g69 14)) (hE_rng (g39 14)))⟩ hw dX6_readLateMark_82
    refine hk_lcmp_ne (tgt := 78) hx hb dX6_readLateMark_70 dX6_readLateMark_71 (by decide) (fun cc79 => ?_) (fun cc79 => ?_)
    · refine lv_iconst (v := 0) hx hb dX6_readLateMark_78 (by decide) ?_
      exact B62 0 ls _ _ (ob48 (((0 : Int32)).toInt) (by decide)) hw (lv_sub hl [] rfl)
    · refine lv_iconst (v := 1) hx hb dX6_readLateMark_74 (by decide) ?_
      refine lv_goto (tgt := 79) hx hb dX6_readLateMark_75 (by decide) ?_
      exact B62 1 ls _ _ (ob49 (((1 : Int32)).toInt) (by decide)) hw (lv_sub hl [] rfl)
  refine lv_if_ne (tgt := 33) hx hb dX6_readLateMark_21 (by decide) (fun cc80 => ?_) (fun cc80 => ?_)
  · exact B16 g7 ls _ _ hk_fr0 hw (lv_sub hl [1, 0] rfl)
  · refine lv_aload_n hx hb dX6_readLateMark_24 rfl (lv_at hl 1 rfl) ?_
    refine hk_get (ci := 9) (C := RX6) (T := TX6) (N := 16) (v := .ref (ad 6)) hx hb hts (fun _ h => List.mem_cons_of_mem _ (wwXc_wsX60 _ h)) hown hw 25 rfl rfl 0 (by decide) (hq _ wX_399) rfl dX6_readLateMark_25 ?_
    refine lv_bipush (v := 7) hx hb dX6_readLateMark_28 (by decide) ?_
    refine jx_Vv (As := [.int 7]) (rest := []) ⟨hx, hb, hml, hown, hts⟩ hZ hw hA (jx_X8_fail l hlt D t3 cI cJ ad g7 l8 a9 bk _ 7) (cwV 1 hts (jx_gV wwX_good wX_403 wX_255 wX_256 wX_252 wX_257) rfl rfl rfl (by decide +kernel) ⟨Nat.le_of_ble_eq_true rfl, Nat.le_of_ble_eq_true rfl⟩) 6 (ci := 11) (T := TX8) (N := 4) rfl rfl rfl hl.1 rfl (Nat.le_of_ble_eq_true rfl) dX6_readLateMark_30 ⟨Nat.le_of_ble_eq_true rfl, Nat.le_of_ble_eq_true rfl⟩ (fun u81 u82 u83 u84 H locs ce q hp hw h1 h2 h3 => by obtain ⟨ht0, rfl, rfl, rfl⟩ := hp; have e_u81_14 : u81 14 = (g7 14) := (ht0 14 rfl); exact kt _ _ _ _ _ _ _ _ _ _ _ ⟨(hk_frT (hk_frT hk_fr0 (by decide) h12) (by decide) ht0), h13, (hk_frT hk_fr0 (by decide) h14), trivial, (ob470 ((u81 14).toInt) ((g7 14).toInt) (congrArg Int32.toInt e_u81_14) (hE_rng (u81 14)) (hE_rng (g7 14)))⟩ hw h1 h2 h3) (fun g86 l87 a88 b89 H locs hp90 hw => ?_)
    obtain ⟨h91, rfl, rfl, rfl, h95⟩ := hp90
    exact False.elim h95

set_option maxHeartbeats 4000000 in
set_option maxRecDepth 100000 in
/-- X6_readAlone on (25,) -/
theorem jx_X6_readAlone (l : Launch) (hlt : l.stackTraces = false) (D : va_G) (t3 : Nat × Nat × Nat) (cI cJ : ClassId) (ad : Nat → Nat) (g : Nat → Int32) (lg : Nat → Int64) (ar : Nat → Nat → Int32) (bk : Nat → Int64) (sz : Nat) (hi_g14 : 0 ≤ (g 14).toInt ∧ (g 14).toInt ≤ 3000) (hi_a0rg : hk_rg 0 255 (ar 0)) (hi_g21 : 0 ≤ (g 21).toInt ∧ (g 21).toInt ≤ 4) (hi_g22 : 0 ≤ (g 22).toInt ∧ (g 22).toInt ≤ 4) : JMv l yX6_readAlone (Cond.code yX6_readAlone cX6_readAlone 3 none :: wwX) { frames := 12, cells := 1, slots := 6, locals := 237 } t3 D xw cI cJ ad [.ref (ad 25)] (xw cI cJ ad g lg ar bk) sz 1 6 (fun g' lg' ar' bk' => hk_fr [14, 15, 17, 18, 19, 20, 21, 22, 23, 24, 25] g g' ∧ hk_fr [0, 1, 2, 4] lg lg' ∧ hk_fr [1, 2, 6] ar ar' ∧ True ∧ (0 ≤ (g' 14).toInt ∧ (g' 14).toInt ≤ 3000) ∧ (0 ≤ (g' 21).toInt ∧ (g' 21).toInt ≤ 4) ∧ (0 ≤ (g' 22).toInt ∧ (g' 22).toInt ≤ 4)) (fun g' lg' ar' bk' => hk_fr [14, 15, 17, 18, 19, 20, 21, 22, 23, 24, 25] g g' ∧ hk_fr [0, 1, 2, 4] lg lg' ∧ hk_fr [1, 2, 6] ar ar' ∧ True ∧ (0 ≤ (g' 14).toInt ∧ (g' 14).toInt ≤ 3000) ∧ (0 ≤ (g' 21).toInt ∧ (g' 21).toInt ≤ 4) ∧ (0 ≤ (g' 22).toInt ∧ (g' 22).toInt ≤ 4)) := by
  refine jx_metv (cc := cX6_readAlone) (maxL := 3) (ret := none) rfl (by decide) rfl (Nat.le_of_ble_eq_true rfl) ?_
  intro p e s m args below meth c ls Q A hx hb hml hown hts hA hZ hw hl hQ kr kt
  have hq : ∀ w ∈ wwX, w.before args s = true := fun w h => hts w (List.mem_cons_of_mem _ h)
  have hl : lv_has ls 3 [(0, .ref (ad 25))] := hl
  refine lv_aload_n hx hb dX6_readAlone_0 rfl (lv_at hl 0 rfl) ?_
  refine jx_Vv (As := []) (rest := []) ⟨hx, hb, hml, hown, hts⟩ hZ hw hA (jx_X6_readProperties l hlt D t3 cI cJ ad g lg ar bk _ hi_a0rg (ob348 ((g 21).toInt) hi_g21 (hE_rng (g 21))) (ob348 ((g 22).toInt) hi_g22 (hE_rng (g 22)))) (cwV 0 hts (jx_gV wwX_good wX_438 wX_439 wX_440 wX_441 wX_442) rfl rfl rfl (by decide +kernel) ⟨Nat.le_of_ble_eq_true rfl, Nat.le_of_ble_eq_true rfl⟩) 25 (ci := 9) (T := TX6) (N := 16) rfl rfl rfl hl.1 rfl (Nat.le_of_ble_eq_true rfl) dX6_readAlone_1 ⟨Nat.le_of_ble_eq_true rfl, Nat.le_of_ble_eq_true rfl⟩ (fun u1 u2 u3 u4 H locs ce q hp hw h1 h2 h3 => by obtain ⟨ht0, rfl, rfl, rfl, ht4, ht5⟩ := hp; have e_u1_14 : u1 14 = (g 14) := (ht0 14 rfl); exact kt _ _ _ _ _ _ _ _ _ _ _ ⟨(hk_frT hk_fr0 (by decide) ht0), hk_fr0, hk_fr0, trivial, (ob451 ((u1 14).toInt) ((g 14).toInt) (congrArg Int32.toInt e_u1_14) hi_g14 (hE_rng (u1 14)) (hE_rng (g 14))), (ob348 ((u1 21).toInt) ht4 (hE_rng (u1 21))), (ob348 ((u1 22).toInt) ht5 (hE_rng (u1 22)))⟩ hw h1 h2 h3) (fun g6 l7 a8 b9 H locs hp10 hw => ?_)
  obtain ⟨h11, rfl, rfl, rfl, h15, h16⟩ := hp10
  refine lv_aload_n hx hb dX6_readAlone_4 rfl (lv_at hl 0 rfl) ?_
  refine lv_aload_n hx hb dX6_readAlone_5 rfl (lv_at hl 0 rfl) ?_
  refine hk_get (ci := 9) (C := RX6) (T := TX6) (N := 16) (v := .ref (ad 6)) hx hb hts (fun _ h => List.mem_cons_of_mem _ (wwXc_wsX60 _ h)) hown hw 25 rfl rfl 0 (by decide) (hq _ wX_399) rfl dX6_readAlone_6 ?_
  refine lv_iconst (v := 4) hx hb dX6_readAlone_9 (by decide) ?_
  refine jx_Vl (As := [.int 4]) (rest := [.ref (ad 25)]) ⟨hx, hb, hml, hown, hts⟩ hZ hw hA (jx_X8_low l hlt D t3 cI cJ ad g6 lg ar bk _ 4 hi_a0rg) (cwV 1 hts (jx_gV wwX_good wX_443 wX_330 wX_331 wX_252 wX_332) rfl rfl rfl (by decide +kernel) ⟨Nat.le_of_ble_eq_true rfl, Nat.le_of_ble_eq_true rfl⟩) 6 (ci := 11) (T := TX8) (N := 4) rfl rfl rfl hl.1 rfl (Nat.le_of_ble_eq_true rfl) dX6_readAlone_10 ⟨Nat.le_of_ble_eq_true rfl, Nat.le_of_ble_eq_true rfl⟩ (fun u17 u18 u19 u20 H locs ce q hp hw h1 h2 h3 => by obtain ⟨ht0, rfl, rfl, rfl⟩ := hp; have e_u17_14 : u17 14 = (g 14) := ((ht0 14 rfl)).trans (h11 14 rfl); have e_u17_21 : u17 21 = (g6 21) := (ht0 21 rfl); have e_u17_22 : u17 22 = (g6 22) := (ht0 22 rfl); exact kt _ _ _ _ _ _ _ _ _ _ _ ⟨(hk_frT (hk_frT hk_fr0 (by decide) h11) (by decide) ht0), hk_fr0, hk_fr0, trivial, (ob451 ((u17 14).toInt) ((g 14).toInt) (congrArg Int32.toInt e_u17_14) hi_g14 (hE_rng (u17 14)) (hE_rng (g 14))), (ob82 ((u17 21).toInt) ((g6 21).toInt) (congrArg Int32.toInt e_u17_21) h15 (hE_rng (u17 21)) (hE_rng (g6 21))), (ob82 ((u17 22).toInt) ((g6 22).toInt) (congrArg Int32.toInt e_u17_22) h16 (hE_rng (u17 22)) (hE_rng (g6 22)))⟩ hw h1 h2 h3) (fun r21 g22 l23 a24 b25 H locs hp26 hw => ?_)
  obtain ⟨h27, rfl, rfl, rfl⟩ := hp26
  refine jx_Vv (As := [.long r21]) (rest := []) ⟨hx, hb, hml, hown, hts⟩ hZ hw hA (jx_X6_askMemory l hlt D t3 cI cJ ad g22 lg ar bk _ r21) (cwV 1 hts (jx_gV wwX_good wX_444 wX_445 wX_446 wX_441 wX_447) rfl rfl rfl (by decide +kernel) ⟨Nat.le_of_ble_eq_true rfl, Nat.le_of_ble_eq_true rfl⟩) 25 (ci := 9) (T := TX6) (N := 16) rfl rfl rfl hl.1 rfl (Nat.le_of_ble_eq_true rfl) dX6_readAlone_13 ⟨Nat.le_of_ble_eq_true rfl, Nat.le_of_ble_eq_true rfl⟩ (fun u31 u32 u33 u34 H locs ce q hp hw h1 h2 h3 => by obtain ⟨ht0, ht1, rfl, rfl⟩ := hp; have e_u31_14 : u31 14 = (g 14) := ((ht0 14 rfl)).trans (((h27 14 rfl)).trans (h11 14 rfl)); have e_u31_21 : u31 21 = (g6 21) := ((ht0 21 rfl)).trans (h27 21 rfl); have e_u31_22 : u31 22 = (g6 22) := ((ht0 22 rfl)).trans (h27 22 rfl); exact kt _ _ _ _ _ _ _ _ _ _ _ ⟨(hk_frT (hk_frT (hk_frT hk_fr0 (by decide) h11) (by decide) h27) (by decide) ht0), (hk_frT hk_fr0 (by decide) ht1), hk_fr0, trivial, (ob451 ((u31 14).toInt) ((g 14).toInt) (congrArg Int32.toInt e_u31_14) hi_g14 (hE_rng (u31 14)) (hE_rng (g 14))), (ob82 ((u31 21).toInt) ((g6 21).toInt) (congrArg Int32.toInt e_u31_21) h15 (hE_rng (u31 21)) (hE_rng (g6 21))), (ob82 ((u31 22).toInt) ((g6 22).toInt) (congrArg Int32.toInt e_u31_22) h16 (hE_rng (u31 22)) (hE_rng (g6 22)))⟩ hw h1 h2 h3) (fun g36 l37 a38 b39 H locs hp40 hw => ?_)
  obtain ⟨h41, h42, rfl, rfl⟩ := hp40
  refine lv_aload_n hx hb dX6_readAlone_16 rfl (lv_at hl 0 rfl) ?_
  refine hk_get (ci := 9) (C := RX6) (T := TX6) (N := 16) (v := .ref (ad 6)) hx hb hts (fun _ h => List.mem_cons_of_mem _ (wwXc_wsX60 _ h)) hown hw 25 rfl rfl 0 (by decide) (hq _ wX_399) rfl dX6_readAlone_17 ?_
  refine lv_bipush (v := 8) hx hb dX6_readAlone_20 (by decide) ?_
  refine jx_Vl (As := [.int 8]) (rest := []) ⟨hx, hb, hml, hown, hts⟩ hZ hw hA (jx_X8_low l hlt D t3 cI cJ ad g36 l37 ar bk _ 8 hi_a0rg) (cwV 1 hts (jx_gV wwX_good wX_443 wX_330 wX_331 wX_252 wX_332) rfl rfl rfl (by decide +kernel) ⟨Nat.le_of_ble_eq_true rfl, Nat.le_of_ble_eq_true rfl⟩) 6 (ci := 11) (T := TX8) (N := 4) rfl rfl rfl hl.1 rfl (Nat.le_of_ble_eq_true rfl) dX6_readAlone_22 ⟨Nat.le_of_ble_eq_true rfl, Nat.le_of_ble_eq_true rfl⟩ (fun u45 u46 u47 u48 H locs ce q hp hw h1 h2 h3 => by obtain ⟨ht0, rfl, rfl, rfl⟩ := hp; have e_u45_14 : u45 14 = (g 14) := ((ht0 14 rfl)).trans (((h41 14 rfl)).trans (((h27 14 rfl)).trans (h11 14 rfl))); have e_u45_21 : u45 21 = (g6 21) := ((ht0 21 rfl)).trans (((h41 21 rfl)).trans (h27 21 rfl)); have e_u45_22 : u45 22 = (g6 22) := ((ht0 22 rfl)).trans (((h41 22 rfl)).trans (h27 22 rfl)); exact kt _ _ _ _ _ _ _ _ _ _ _ ⟨(hk_frT (hk_frT (hk_frT (hk_frT hk_fr0 (by decide) h11) (by decide) h27) (by decide) h41) (by decide) ht0), (hk_frT hk_fr0 (by decide) h42), hk_fr0, trivial, (ob451 ((u45 14).toInt) ((g 14).toInt) (congrArg Int32.toInt e_u45_14) hi_g14 (hE_rng (u45 14)) (hE_rng (g 14))), (ob82 ((u45 21).toInt) ((g6 21).toInt) (congrArg Int32.toInt e_u45_21) h15 (hE_rng (u45 21)) (hE_rng (g6 21))), (ob82 ((u45 22).toInt) ((g6 22).toInt) (congrArg Int32.toInt e_u45_22) h16 (hE_rng (u45 22)) (hE_rng (g6 22)))⟩ hw h1 h2 h3) (fun r49 g50 l51 a52 b53 H locs hp54 hw => ?_)
  obtain ⟨h55, rfl, rfl, rfl⟩ := hp54
  refine lv_lstore_n (lv' := [(1, .long r49), (0, .ref (ad 25))]) hx hb dX6_readAlone_25 rfl hl (by decide) rfl (fun ls hl => ?_)
  refine lv_lload_n hx hb dX6_readAlone_26 rfl (lv_at hl 0 rfl) ?_
  refine lv_ldc2 (v := (-1)) hx hb hown (hq _ wX_448) dX6_readAlone_27 ?_
  have B59 : ∀  (g60 : Nat → Int32) (ls : Array Slot) (H : Heap) (locs : List Loc), (hk_fr [17] g50 g60) → hk_W D (jT cI cJ) A s H locs (xw cI cJ ad g60 l37 ar bk) → lv_has ls 3 [(0, .ref (ad 25)), (1, .long r49)] → W p l e { frames := 12, cells := 1, slots := 6, locals := 237 } s m args below meth c H locs 0 0 Q (F0 m 51 ls []) := by
    intro g60 ls H locs hfr_g60 hw hl
    refine lv_aload_n hx hb dX6_readAlone_51 rfl (lv_at hl 0 rfl) ?_
    refine hk_get (ci := 9) (C := RX6) (T := TX6) (N := 16) (v := .ref (ad 9)) hx hb hts (fun _ h => List.mem_cons_of_mem _ (wwXc_wsX60 _ h)) hown hw 25 rfl rfl 2 (by decide) (hq _ wX_413) rfl dX6_readAlone_52 ?_
    have e_g60_21 : g60 21 = (g6 21) := ((hfr_g60 21 rfl)).trans (((h55 21 rfl)).trans (((h41 21 rfl)).trans (h27 21 rfl)))
    have e_g60_22 : g60 22 = (g6 22) := ((hfr_g60 22 rfl)).trans (((h55 22 rfl)).trans (((h41 22 rfl)).trans (h27 22 rfl)))
    refine jx_Vv (As := []) (rest := []) ⟨hx, hb, hml, hown, hts⟩ hZ hw hA (jx_X5_reset l hlt D t3 cI cJ ad g60 l37 ar bk _ (ob82 ((g60 21).toInt) ((g6 21).toInt) (congrArg Int32.toInt e_g60_21) h15 (hE_rng (g60 21)) (hE_rng (g6 21))) (ob82 ((g60 22).toInt) ((g6 22).toInt) (congrArg Int32.toInt e_g60_22) h16 (hE_rng (g60 22)) (hE_rng (g6 22)))) (cwV 0 hts (jx_gV wwX_good wX_418 wX_419 wX_420 wX_215 wX_421) rfl rfl rfl (by decide +kernel) ⟨Nat.le_of_ble_eq_true rfl, Nat.le_of_ble_eq_true rfl⟩) 9 (ci := 8) (T := TX5) (N := 6) rfl rfl rfl hl.1 rfl (Nat.le_of_ble_eq_true rfl) dX6_readAlone_55 ⟨Nat.le_of_ble_eq_true rfl, Nat.le_of_ble_eq_true rfl⟩ (fun _ _ _ _ _ _ _ _ hp _ _ _ _ => hp.elim) (fun g66 l67 a68 b69 H locs hp70 hw => ?_)
    obtain ⟨h71, rfl, h73, -⟩ := hp70
    refine lv_aload_n hx hb dX6_readAlone_58 rfl (lv_at hl 0 rfl) ?_
    refine lv_lload_n hx hb dX6_readAlone_59 rfl (lv_at hl 1 rfl) ?_
    refine lv_l2i hx hb dX6_readAlone_60 rfl (jx_nm fun z75 hz75 => ?_)
    have e_g66_14 : g66 14 = (g 14) := ((h71 14 rfl)).trans (((hfr_g60 14 rfl)).trans (((h55 14 rfl)).trans (((h41 14 rfl)).trans (((h27 14 rfl)).trans (h11 14 rfl)))))
    refine jx_Vv (As := [.int z75]) (rest := []) ⟨hx, hb, hml, hown, hts⟩ hZ hw hA (jx_X6_readBits l hlt D t3 cI cJ ad g66 l37 a68 b69 _ z75 (ob451 ((g66 14).toInt) ((g 14).toInt) (congrArg Int32.toInt e_g66_14) hi_g14 (hE_rng (g66 14)) (hE_rng (g 14))) (hk_pE (P := hk_rg 0 255) hi_a0rg (h73 0 rfl))) (cwV 1 hts (jx_gV wwX_good wX_450 wX_451 wX_452 wX_441 wX_453) rfl rfl rfl (by decide +kernel) ⟨Nat.le_of_ble_eq_true rfl, Nat.le_of_ble_eq_true rfl⟩) 25 (ci := 9) (T := TX6) (N := 16) rfl rfl rfl hl.1 rfl (Nat.le_of_ble_eq_true rfl) dX6_readAlone_61 ⟨Nat.le_of_ble_eq_true rfl, Nat.le_of_ble_eq_true rfl⟩ (fun u76 u77 u78 u79 H locs ce q hp hw h1 h2 h3 => by obtain ⟨ht0, ht1, ht2, -, ht4⟩ := hp; have e_u76_21 : u76 21 = (g6 21) := ((ht0 21 rfl)).trans (((h71 21 rfl)).trans e_g60_21); have e_u76_22 : u76 22 = (g6 22) := ((ht0 22 rfl)).trans (((h71 22 rfl)).trans e_g60_22); exact kt _ _ _ _ _ _ _ _ _ _ _ ⟨(hk_frT (hk_frT (hk_frT (hk_frT (hk_frT (hk_frT (hk_frT hk_fr0 (by decide) h11) (by decide) h27) (by decide) h41) (by decide) h55) (by decide) hfr_g60) (by decide) h71) (by decide) ht0), (hk_frT (hk_frT hk_fr0 (by decide) h42) (by decide) ht1), (hk_frT (hk_frT hk_fr0 (by decide) h73) (by decide) ht2), trivial, (ob465 ((u76 14).toInt) ht4 (hE_rng (u76 14))), (ob380 ((u76 21).toInt) ((g6 21).toInt) ((g60 21).toInt) (congrArg Int32.toInt e_u76_21) h15 (congrArg Int32.toInt e_g60_21) (hE_rng (u76 21)) (hE_rng (g6 21)) (hE_rng (g60 21))), (ob380 ((u76 22).toInt) ((g6 22).toInt) ((g60 22).toInt) (congrArg Int32.toInt e_u76_22) h16 (congrArg Int32.toInt e_g60_22) (hE_rng (u76 22)) (hE_rng (g6 22)) (hE_rng (g60 22)))⟩ hw h1 h2 h3) (fun g81 l82 a83 b84 H locs hp85 hw => ?_)
    obtain ⟨h86, h87, h88, -, h90⟩ := hp85
    have hr91 : hk_rg 0 255 (a83 0) := (hk_pE (P := hk_rg 0 255) (hk_pE (P := hk_rg 0 255) hi_a0rg (h73 0 rfl)) (h88 0 rfl))
    refine lv_lload_n hx hb dX6_readAlone_64 rfl (lv_at hl 1 rfl) ?_
    refine lv_lconst (v := 0) hx hb dX6_readAlone_65 (by decide) ?_
    have B92 : ∀  (g93 : Nat → Int32) (l94 : Nat → Int64) (a95 : Nat → Nat → Int32) (b96 : Nat → Int64) (ls : Array Slot) (H : Heap) (locs : List Loc), (0 ≤ (g93 14).toInt ∧ (g93 14).toInt ≤ 3000) → (hk_fr [14, 15, 17, 19, 20, 24, 25] g81 g93) → (hk_fr [0, 1, 2] l82 l94) → (hk_fr [1, 2, 6] a83 a95) → hk_W D (jT cI cJ) A s H locs (xw cI cJ ad g93 l94 a95 b96) → lv_has ls 3 [(0, .ref (ad 25))] → W p l e { frames := 12, cells := 1, slots := 6, locals := 237 } s m args below meth c H locs 0 0 Q (F0 m 89 ls []) := by
      intro g93 l94 a95 b96 ls H locs hf_B92_0 hfr_g93 hfr_l94 hfr_a95 hw hl
      refine lv_aload_n hx hb dX6_readAlone_89 rfl (lv_at hl 0 rfl) ?_
      refine hk_get (ci := 9) (C := RX6) (T := TX6) (N := 16) (v := .ref (ad 9)) hx hb hts (fun _ h => List.mem_cons_of_mem _ (wwXc_wsX60 _ h)) hown hw 25 rfl rfl 2 (by decide) (hq _ wX_413) rfl dX6_readAlone_90 ?_
      refine hk_get (ci := 8) (C := RX5) (T := TX5) (N := 6) (v := .ref (ad 7)) hx hb hts (fun _ h => List.mem_cons_of_mem _ (wwXc_wsX50 _ h)) hown hw 9 rfl rfl 0 (by decide) (hq _ wX_426) rfl dX6_readAlone_93 ?_
      refine hk_get (ci := 5) (C := RX2) (T := TX2) (N := 9) (v := .long (l94 2)) hx hb hts (fun _ h => List.mem_cons_of_mem _ (wwXc_wsX20 _ h)) hown hw 7 rfl rfl 6 (by decide) (hq _ wX_427) rfl dX6_readAlone_96 ?_
      refine lv_lconst (v := 0) hx hb dX6_readAlone_99 (by decide) ?_
      refine hk_lcmp_eq (tgt := 113) hx hb dX6_readAlone_100 dX6_readAlone_101 (by decide) (fun cc97 => ?_) (fun cc97 => ?_)
      · have e_g93_21 : g93 21 = (g6 21) := ((hfr_g93 21 rfl)).trans (((h86 21 rfl)).trans (((h71 21 rfl)).trans e_g60_21))
        have e_g93_22 : g93 22 = (g6 22) := ((hfr_g93 22 rfl)).trans (((h86 22 rfl)).trans (((h71 22 rfl)).trans e_g60_22))
        exact kr g93 l94 a95 b96 _ _ _ _ ⟨(hk_frT (hk_frT (hk_frT (hk_frT (hk_frT (hk_frT (hk_frT (hk_frT hk_fr0 (by decide) h11) (by decide) h27) (by decide) h41) (by decide) h55) (by decide) hfr_g60) (by decide) h71) (by decide) h86) (by decide) hfr_g93), (hk_frT (hk_frT (hk_frT hk_fr0 (by decide) h42) (by decide) h87) (by decide) hfr_l94), (hk_frT (hk_frT (hk_frT hk_fr0 (by decide) h73) (by decide) h88) (by decide) hfr_a95), trivial, (ob465 ((g93 14).toInt) hf_B92_0 (hE_rng (g93 14))), (ob380 ((g93 21).toInt) ((g6 21).toInt) ((g60 21).toInt) (congrArg Int32.toInt e_g93_21) h15 (congrArg Int32.toInt e_g60_21) (hE_rng (g93 21)) (hE_rng (g6 21)) (hE_rng (g60 21))), (ob380 ((g93 22).toInt) ((g6 22).toInt) ((g60 22).toInt) (congrArg Int32.toInt e_g93_22) h16 (congrArg Int32.toInt e_g60_22) (hE_rng (g93 22)) (hE_rng (g6 22)) (hE_rng (g60 22)))⟩ hw dX6_readAlone_113
      · refine lv_aload_n hx hb dX6_readAlone_104 rfl (lv_at hl 0 rfl) ?_
        refine hk_get (ci := 9) (C := RX6) (T := TX6) (N := 16) (v := .ref (ad 6)) hx hb hts (fun _ h => List.mem_cons_of_mem _ (wwXc_wsX60 _ h)) hown hw 25 rfl rfl 0 (by decide) (hq _ wX_399) rfl dX6_readAlone_105 ?_
        refine lv_bipush (v := 7) hx hb dX6_readAlone_108 (by decide) ?_
        refine jx_Vv (As := [.int 7]) (rest := []) ⟨hx, hb, hml, hown, hts⟩ hZ hw hA (jx_X8_fail l hlt D t3 cI cJ ad g93 l94 a95 b96 _ 7) (cwV 1 hts (jx_gV wwX_good wX_403 wX_255 wX_256 wX_252 wX_257) rfl rfl rfl (by decide +kernel) ⟨Nat.le_of_ble_eq_true rfl, Nat.le_of_ble_eq_true rfl⟩) 6 (ci := 11) (T := TX8) (N := 4) rfl rfl rfl hl.1 rfl (Nat.le_of_ble_eq_true rfl) dX6_readAlone_110 ⟨Nat.le_of_ble_eq_true rfl, Nat.le_of_ble_eq_true rfl⟩ (fun u98 u99 u100 u101 H locs ce q hp hw h1 h2 h3 => by obtain ⟨ht0, rfl, rfl, rfl⟩ := hp; have e_u98_14 : u98 14 = (g93 14) := (ht0 14 rfl); have e_u98_21 : u98 21 = (g6 21) := ((ht0 21 rfl)).trans (((hfr_g93 21 rfl)).trans (((h86 21 rfl)).trans (((h71 21 rfl)).trans e_g60_21))); have e_u98_22 : u98 22 = (g6 22) := ((ht0 22 rfl)).trans (((hfr_g93 22 rfl)).trans (((h86 22 rfl)).trans (((h71 22 rfl)).trans e_g60_22))); exact kt _ _ _ _ _ _ _ _ _ _ _ ⟨(hk_frT (hk_frT (hk_frT (hk_frT (hk_frT (hk_frT (hk_frT (hk_frT (hk_frT hk_fr0 (by decide) h11) (by decide) h27) (by decide) h41) (by decide) h55) (by decide) hfr_g60) (by decide) h71) (by decide) h86) (by decide) hfr_g93) (by decide) ht0), (hk_frT (hk_frT (hk_frT hk_fr0 (by decide) h42) (by decide) h87) (by decide) hfr_l94), (hk_frT (hk_frT (hk_frT hk_fr0 (by decide) h73) (by decide) h88) (by decide) hfr_a95), trivial, (ob451 ((u98 14).toInt) ((g93 14).toInt) (congrArg Int32.toInt e_u98_14) hf_B92_0 (hE_rng (u98 14)) (hE_rng (g93 14))), (ob380 ((u98 21).toInt) ((g6 21).toInt) ((g60 21).toInt) (congrArg Int32.toInt e_u98_21) h15 (congrArg Int32.toInt e_g60_21) (hE_rng (u98 21)) (hE_rng (g6 21)) (hE_rng (g60 21))), (ob380 ((u98 22).toInt) ((g6 22).toInt) ((g60 22).toInt) (congrArg Int32.toInt e_u98_22) h16 (congrArg Int32.toInt e_g60_22) (hE_rng (u98 22)) (hE_rng (g6 22)) (hE_rng (g60 22)))⟩ hw h1 h2 h3) (fun g103 l104 a105 b106 H locs hp107 hw => ?_)
        obtain ⟨h108, rfl, rfl, rfl, h112⟩ := hp107
        exact False.elim h112
    refine hk_lcmp_lt (tgt := 89) hx hb dX6_readAlone_66 dX6_readAlone_67 (by decide) (fun cc113 => ?_) (fun cc113 => ?_)
    · exact B92 g81 l82 a83 b84 ls _ _ (ob465 ((g81 14).toInt) h90 (hE_rng (g81 14))) hk_fr0 hk_fr0 hk_fr0 hw (lv_sub hl [0] rfl)
    · refine lv_aload_n hx hb dX6_readAlone_70 rfl (lv_at hl 0 rfl) ?_
      refine hk_get (ci := 9) (C := RX6) (T := TX6) (N := 16) (v := .ref (ad 9)) hx hb hts (fun _ h => List.mem_cons_of_mem _ (wwXc_wsX60 _ h)) hown hw 25 rfl rfl 2 (by decide) (hq _ wX_413) rfl dX6_readAlone_71 ?_
      refine hk_get (ci := 8) (C := RX5) (T := TX5) (N := 6) (v := .ref (ad 7)) hx hb hts (fun _ h => List.mem_cons_of_mem _ (wwXc_wsX50 _ h)) hown hw 9 rfl rfl 0 (by decide) (hq _ wX_426) rfl dX6_readAlone_74 ?_
      refine hk_get (ci := 5) (C := RX2) (T := TX2) (N := 9) (v := .long (l82 2)) hx hb hts (fun _ h => List.mem_cons_of_mem _ (wwXc_wsX20 _ h)) hown hw 7 rfl rfl 6 (by decide) (hq _ wX_427) rfl dX6_readAlone_77 ?_
      refine lv_lconst (v := 0) hx hb dX6_readAlone_80 (by decide) ?_
      refine hk_lcmp_eq (tgt := 89) hx hb dX6_readAlone_81 dX6_readAlone_82 (by decide) (fun cc114 => ?_) (fun cc114 => ?_)
      · exact B92 g81 l82 a83 b84 ls _ _ (ob465 ((g81 14).toInt) h90 (hE_rng (g81 14))) hk_fr0 hk_fr0 hk_fr0 hw (lv_sub hl [0] rfl)
      · refine lv_aload_n hx hb dX6_readAlone_85 rfl (lv_at hl 0 rfl) ?_
        refine jx_Vv (As := []) (rest := []) ⟨hx, hb, hml, hown, hts⟩ hZ hw hA (jx_X6_readLateMark l hlt D t3 cI cJ ad g81 l82 a83 b84 _ (ob465 ((g81 14).toInt) h90 (hE_rng (g81 14))) hr91) (cwV 0 hts (jx_gV wwX_good wX_454 wX_455 wX_456 wX_441 wX_457) rfl rfl rfl (by decide +kernel) ⟨Nat.le_of_ble_eq_true rfl, Nat.le_of_ble_eq_true rfl⟩) 25 (ci := 9) (T := TX6) (N := 16) rfl rfl rfl hl.1 rfl (Nat.le_of_ble_eq_true rfl) dX6_readAlone_86 ⟨Nat.le_of_ble_eq_true rfl, Nat.le_of_ble_eq_true rfl⟩ (fun u115 u116 u117 u118 H locs ce q hp hw h1 h2 h3 => by obtain ⟨ht0, ht1, ht2, -, ht4⟩ := hp; have e_u115_21 : u115 21 = (g6 21) := ((ht0 21 rfl)).trans (((h86 21 rfl)).trans (((h71 21 rfl)).trans e_g60_21)); have e_u115_22 : u115 22 = (g6 22) := ((ht0 22 rfl)).trans (((h86 22 rfl)).trans (((h71 22 rfl)).trans e_g60_22)); exact kt _ _ _ _ _ _ _ _ _ _ _ ⟨(hk_frT (hk_frT (hk_frT (hk_frT (hk_frT (hk_frT (hk_frT (hk_frT hk_fr0 (by decide) h11) (by decide) h27) (by decide) h41) (by decide) h55) (by decide) hfr_g60) (by decide) h71) (by decide) h86) (by decide) ht0), (hk_frT (hk_frT (hk_frT hk_fr0 (by decide) h42) (by decide) h87) (by decide) ht1), (hk_frT (hk_frT (hk_frT hk_fr0 (by decide) h73) (by decide) h88) (by decide) ht2), trivial, (ob465 ((u115 14).toInt) ht4 (hE_rng (u115 14))), (ob380 ((u115 21).toInt) ((g6 21).toInt) ((g60 21).toInt) (congrArg Int32.toInt e_u115_21) h15 (congrArg Int32.toInt e_g60_21) (hE_rng (u115 21)) (hE_rng (g6 21)) (hE_rng (g60 21))), (ob380 ((u115 22).toInt) ((g6 22).toInt) ((g60 22).toInt) (congrArg Int32.toInt e_u115_22) h16 (congrArg Int32.toInt e_g60_22) (hE_rng (u115 22)) (hE_rng (g6 22)) (hE_rng (g60 22)))⟩ hw h1 h2 h3) (fun g120 l121 a122 b123 H locs hp124 hw => ?_)
        obtain ⟨h125, h126, h127, -, h129⟩ := hp124
        exact B92 g120 l121 a122 b123 ls _ _ (ob465 ((g120 14).toInt) h129 (hE_rng (g120 14))) h125 h126 h127 hw (lv_sub hl [0] rfl)
  have B130 : ∀  (ls : Array Slot) (H : Heap) (locs : List Loc), hk_W D (jT cI cJ) A s H locs (xw cI cJ ad g50 l37 ar bk) → lv_has ls 3 [(0, .ref (ad 25)), (1, .long r49)] → W p l e { frames := 12, cells := 1, slots := 6, locals := 237 } s m args below meth c H locs 0 0 Q (F0 m 42 ls []) := by
    intro ls H locs hw hl
    refine lv_aload_n hx hb dX6_readAlone_42 rfl (lv_at hl 0 rfl) ?_
    refine hk_get (ci := 9) (C := RX6) (T := TX6) (N := 16) (v := .ref (ad 6)) hx hb hts (fun _ h => List.mem_cons_of_mem _ (wwXc_wsX60 _ h)) hown hw 25 rfl rfl 0 (by decide) (hq _ wX_399) rfl dX6_readAlone_43 ?_
    refine lv_bipush (v := 13) hx hb dX6_readAlone_46 (by decide) ?_
    refine jx_Vv (As := [.int 13]) (rest := []) ⟨hx, hb, hml, hown, hts⟩ hZ hw hA (jx_X8_fail l hlt D t3 cI cJ ad g50 l37 ar bk _ 13) (cwV 1 hts (jx_gV wwX_good wX_403 wX_255 wX_256 wX_252 wX_257) rfl rfl rfl (by decide +kernel) ⟨Nat.le_of_ble_eq_true rfl, Nat.le_of_ble_eq_true rfl⟩) 6 (ci := 11) (T := TX8) (N := 4) rfl rfl rfl hl.1 rfl (Nat.le_of_ble_eq_true rfl) dX6_readAlone_48 ⟨Nat.le_of_ble_eq_true rfl, Nat.le_of_ble_eq_true rfl⟩ (fun u131 u132 u133 u134 H locs ce q hp hw h1 h2 h3 => by obtain ⟨ht0, rfl, rfl, rfl⟩ := hp; have e_u131_14 : u131 14 = (g 14) := ((ht0 14 rfl)).trans (((h55 14 rfl)).trans (((h41 14 rfl)).trans (((h27 14 rfl)).trans (h11 14 rfl)))); have e_u131_21 : u131 21 = (g6 21) := ((ht0 21 rfl)).trans (((h55 21 rfl)).trans (((h41 21 rfl)).trans (h27 21 rfl))); have e_u131_22 : u131 22 = (g6 22) := ((ht0 22 rfl)).trans (((h55 22 rfl)).trans (((h41 22 rfl)).trans (h27 22 rfl))); exact kt _ _ _ _ _ _ _ _ _ _ _ ⟨(hk_frT (hk_frT (hk_frT (hk_frT (hk_frT hk_fr0 (by decide) h11) (by decide) h27) (by decide) h41) (by decide) h55) (by decide) ht0), (hk_frT hk_fr0 (by decide) h42), hk_fr0, trivial, (ob451 ((u131 14).toInt) ((g 14).toInt) (congrArg Int32.toInt e_u131_14) hi_g14 (hE_rng (u131 14)) (hE_rng (g 14))), (ob82 ((u131 21).toInt) ((g6 21).toInt) (congrArg Int32.toInt e_u131_21) h15 (hE_rng (u131 21)) (hE_rng (g6 21))), (ob82 ((u131 22).toInt) ((g6 22).toInt) (congrArg Int32.toInt e_u131_22) h16 (hE_rng (u131 22)) (hE_rng (g6 22)))⟩ hw h1 h2 h3) (fun g136 l137 a138 b139 H locs hp140 hw => ?_)
    obtain ⟨h141, rfl, rfl, rfl, h145⟩ := hp140
    exact False.elim h145
  refine hk_lcmp_lt (tgt := 42) hx hb dX6_readAlone_30 dX6_readAlone_31 (by decide) (fun cc146 => ?_) (fun cc146 => ?_)
  · exact B130 ls _ _ hw (lv_sub hl [1, 0] rfl)
  · refine lv_lload_n hx hb dX6_readAlone_34 rfl (lv_at hl 0 rfl) ?_
    refine lv_ldc2 (v := 3000) hx hb hown (hq _ wX_449) dX6_readAlone_35 ?_
    refine hk_lcmp_le (tgt := 51) hx hb dX6_readAlone_38 dX6_readAlone_39 (by decide) (fun cc147 => ?_) (fun cc147 => ?_)
    · exact B59 g50 ls _ _ hk_fr0 hw (lv_sub hl [1, 0] rfl)
    · exact B130 ls _ _ hw (lv_sub hl [1, 0] rfl)

set_option maxHeartbeats 4000000 in
set_option maxRecDepth 100000 in
/-- X6_judgeControl on (25,) -/
theorem jx_X6_judgeControl (l : Launch) (hlt : l.stackTraces = false) (D : va_G) (t3 : Nat × Nat × Nat) (cI cJ : ClassId) (ad : Nat → Nat) (g : Nat → Int32) (lg : Nat → Int64) (ar : Nat → Nat → Int32) (bk : Nat → Int64) (sz : Nat) (y1 : Int32) (y2 : Int32) : JMv l yX6_judgeControl (Cond.code yX6_judgeControl cX6_judgeControl 5 none :: wwX) { frames := 7, cells := 1, slots := 6, locals := 102 } t3 D xw cI cJ ad [.ref (ad 25), .int y1, .int y2] (xw cI cJ ad g lg ar bk) sz 1 6 (fun g' lg' ar' bk' => hk_fr [17] g g' ∧ lg = lg' ∧ ar = ar' ∧ bk = bk') (fun g' lg' ar' bk' => hk_fr [17] g g' ∧ lg = lg' ∧ ar = ar' ∧ bk = bk') := by
  refine jx_metv (cc := cX6_judgeControl) (maxL := 5) (ret := none) rfl (by decide) rfl (Nat.le_of_ble_eq_true rfl) ?_
  intro p e s m args below meth c ls Q A hx hb hml hown hts hA hZ hw hl hQ kr kt
  have hq : ∀ w ∈ wwX, w.before args s = true := fun w h => hts w (List.mem_cons_of_mem _ h)
  have hl : lv_has ls 5 [(0, .ref (ad 25)), (1, .int y1), (2, .int y2)] := hl
  refine lv_iload_n hx hb dX6_judgeControl_0 rfl (lv_at hl 2 rfl) ?_
  refine lv_iconst (v := 3) hx hb dX6_judgeControl_1 (by decide) ?_
  have B1 : ∀  (x2 : Int32) (ls : Array Slot) (H : Heap) (locs : List Loc), (0 ≤ (x2).toInt ∧ (x2).toInt ≤ 1) → hk_W D (jT cI cJ) A s H locs (xw cI cJ ad g lg ar bk) → lv_has ls 5 [(0, .ref (ad 25)), (1, .int y1), (2, .int y2)] → W p l e { frames := 7, cells := 1, slots := 6, locals := 102 } s m args below meth c H locs 0 0 Q (F0 m 10 ls [.int x2]) := by
    intro x2 ls H locs hf_B1_0 hw hl
    refine lv_istore_n (lv' := [(3, .int x2), (0, .ref (ad 25)), (1, .int y1), (2, .int y2)]) hx hb dX6_judgeControl_10 rfl hl (by decide) rfl (fun ls hl => ?_)
    refine lv_iload_n hx hb dX6_judgeControl_11 rfl (lv_at hl 2 rfl) ?_
    refine lv_sipush (v := 128) hx hb dX6_judgeControl_12 (by decide) ?_
    have B3 : ∀  (x4 : Int32) (ls : Array Slot) (H : Heap) (locs : List Loc), (0 ≤ (x4).toInt ∧ (x4).toInt ≤ 1) → hk_W D (jT cI cJ) A s H locs (xw cI cJ ad g lg ar bk) → lv_has ls 5 [(0, .ref (ad 25))] → W p l e { frames := 7, cells := 1, slots := 6, locals := 102 } s m args below meth c H locs 0 0 Q (F0 m 53 ls [.int x4]) := by
      intro x4 ls H locs hf_B3_0 hw hl
      refine lv_istore (lv' := [(4, .int x4), (0, .ref (ad 25))]) hx hb dX6_judgeControl_53 hl (by decide) rfl (fun ls hl => ?_)
      refine lv_iload hx hb dX6_judgeControl_55 (lv_at hl 0 rfl) ?_
      refine lv_if_eq (tgt := 68) hx hb dX6_judgeControl_57 (by decide) (fun cc5 => ?_) (fun cc5 => ?_)
      · exact kr g lg ar bk _ _ _ _ ⟨hk_fr0, rfl, rfl, rfl⟩ hw dX6_judgeControl_68
      · refine lv_aload_n hx hb dX6_judgeControl_60 rfl (lv_at hl 1 rfl) ?_
        refine hk_get (ci := 9) (C := RX6) (T := TX6) (N := 16) (v := .ref (ad 6)) hx hb hts (fun _ h => List.mem_cons_of_mem _ (wwXc_wsX60 _ h)) hown hw 25 rfl rfl 0 (by decide) (hq _ wX_399) rfl dX6_judgeControl_61 ?_
        refine lv_iconst (v := 5) hx hb dX6_judgeControl_64 (by decide) ?_
        refine jx_Vv (As := [.int 5]) (rest := []) ⟨hx, hb, hml, hown, hts⟩ hZ hw hA (jx_X8_fail l hlt D t3 cI cJ ad g lg ar bk _ 5) (cwV 1 hts (jx_gV wwX_good wX_403 wX_255 wX_256 wX_252 wX_257) rfl rfl rfl (by decide +kernel) ⟨Nat.le_of_ble_eq_true rfl, Nat.le_of_ble_eq_true rfl⟩) 6 (ci := 11) (T := TX8) (N := 4) rfl rfl rfl hl.1 rfl (Nat.le_of_ble_eq_true rfl) dX6_judgeControl_65 ⟨Nat.le_of_ble_eq_true rfl, Nat.le_of_ble_eq_true rfl⟩ (fun u6 u7 u8 u9 H locs ce q hp hw h1 h2 h3 => by obtain ⟨ht0, rfl, rfl, rfl⟩ := hp; exact kt _ _ _ _ _ _ _ _ _ _ _ ⟨ht0, rfl, rfl, rfl⟩ hw h1 h2 h3) (fun g11 l12 a13 b14 H locs hp15 hw => ?_)
        obtain ⟨h16, rfl, rfl, rfl, h20⟩ := hp15
        exact False.elim h20
    refine lv_icmp_ge (tgt := 39) hx hb dX6_judgeControl_15 (by decide) (fun cc21 => ?_) (fun cc21 => ?_)
    · refine lv_iload_n hx hb dX6_judgeControl_39 rfl (lv_at hl 2 rfl) ?_
      refine lv_iconst (v := 5) hx hb dX6_judgeControl_40 (by decide) ?_
      refine lv_ishr hx hb dX6_judgeControl_41 (jx_nm fun z22 hz22 => ?_)
      refine lv_iconst (v := 3) hx hb dX6_judgeControl_42 (by decide) ?_
      refine lv_iand hx hb dX6_judgeControl_43 (jx_nm fun z23 hz23 => ?_)
      refine lv_iload_n hx hb dX6_judgeControl_44 rfl (lv_at hl 3 rfl) ?_
      refine lv_icmp_ge (tgt := 52) hx hb dX6_judgeControl_45 (by decide) (fun cc24 => ?_) (fun cc24 => ?_)
      · refine lv_iconst (v := 0) hx hb dX6_judgeControl_52 (by decide) ?_
        exact B3 0 ls _ _ (ob48 (((0 : Int32)).toInt) (by decide)) hw (lv_sub hl [1] rfl)
      · refine lv_iconst (v := 1) hx hb dX6_judgeControl_48 (by decide) ?_
        refine lv_goto (tgt := 53) hx hb dX6_judgeControl_49 (by decide) ?_
        exact B3 1 ls _ _ (ob49 (((1 : Int32)).toInt) (by decide)) hw (lv_sub hl [1] rfl)
    · refine lv_iload_n hx hb dX6_judgeControl_18 rfl (lv_at hl 2 rfl) ?_
      refine lv_iload_n hx hb dX6_judgeControl_19 rfl (lv_at hl 0 rfl) ?_
      have B25 : ∀  (x26 : Int32) (ls : Array Slot) (H : Heap) (locs : List Loc), (1 ≤ (x26).toInt ∧ (x26).toInt ≤ 2) → hk_W D (jT cI cJ) A s H locs (xw cI cJ ad g lg ar bk) → lv_has ls 5 [(0, .ref (ad 25))] → W p l e { frames := 7, cells := 1, slots := 6, locals := 102 } s m args below meth c H locs 0 0 Q (F0 m 28 ls [.int x26, .int y1]) := by
        intro x26 ls H locs hf_B25_0 hw hl
        refine lv_icmp_le (tgt := 35) hx hb dX6_judgeControl_28 (by decide) (fun cc27 => ?_) (fun cc27 => ?_)
        · refine lv_iconst (v := 0) hx hb dX6_judgeControl_35 (by decide) ?_
          refine lv_goto (tgt := 53) hx hb dX6_judgeControl_36 (by decide) ?_
          exact B3 0 ls _ _ (ob48 (((0 : Int32)).toInt) (by decide)) hw (lv_sub hl [0] rfl)
        · refine lv_iconst (v := 1) hx hb dX6_judgeControl_31 (by decide) ?_
          refine lv_goto (tgt := 53) hx hb dX6_judgeControl_32 (by decide) ?_
          exact B3 1 ls _ _ (ob49 (((1 : Int32)).toInt) (by decide)) hw (lv_sub hl [0] rfl)
      refine lv_if_eq (tgt := 27) hx hb dX6_judgeControl_20 (by decide) (fun cc28 => ?_) (fun cc28 => ?_)
      · refine lv_iconst (v := 2) hx hb dX6_judgeControl_27 (by decide) ?_
        exact B25 2 ls _ _ (ob378 (((2 : Int32)).toInt) (by decide)) hw (lv_sub hl [1] rfl)
      · refine lv_iconst (v := 1) hx hb dX6_judgeControl_23 (by decide) ?_
        refine lv_goto (tgt := 28) hx hb dX6_judgeControl_24 (by decide) ?_
        exact B25 1 ls _ _ (ob471 (((1 : Int32)).toInt) (by decide)) hw (lv_sub hl [1] rfl)
  refine lv_icmp_ne (tgt := 9) hx hb dX6_judgeControl_2 (by decide) (fun cc29 => ?_) (fun cc29 => ?_)
  · refine lv_iconst (v := 0) hx hb dX6_judgeControl_9 (by decide) ?_
    exact B1 0 ls _ _ (ob48 (((0 : Int32)).toInt) (by decide)) hw (lv_sub hl [0, 1, 2] rfl)
  · refine lv_iconst (v := 1) hx hb dX6_judgeControl_5 (by decide) ?_
    refine lv_goto (tgt := 10) hx hb dX6_judgeControl_6 (by decide) ?_
    exact B1 1 ls _ _ (ob49 (((1 : Int32)).toInt) (by decide)) hw (lv_sub hl [0, 1, 2] rfl)

set_option maxHeartbeats 4000000 in
set_option maxRecDepth 100000 in
/-- X6_readPlain on (25,) -/
theorem jx_X6_readPlain (l : Launch) (hlt : l.stackTraces = false) (D : va_G) (t3 : Nat × Nat × Nat) (cI cJ : ClassId) (ad : Nat → Nat) (g : Nat → Int32) (lg : Nat → Int64) (ar : Nat → Nat → Int32) (bk : Nat → Int64) (sz : Nat) (y1 : Int32) (hi_g14 : 0 ≤ (g 14).toInt ∧ (g 14).toInt ≤ 3000) (hi_a0rg : hk_rg 0 255 (ar 0)) : JMv l yX6_readPlain (Cond.code yX6_readPlain cX6_readPlain 5 none :: wwX) { frames := 8, cells := 1, slots := 6, locals := 125 } t3 D xw cI cJ ad [.ref (ad 25), .int y1] (xw cI cJ ad g lg ar bk) sz 1 6 (fun g' lg' ar' bk' => hk_fr [14, 15, 17, 43] g g' ∧ lg = lg' ∧ hk_fr [1] ar ar' ∧ bk = bk' ∧ (0 ≤ (g' 14).toInt ∧ (g' 14).toInt ≤ 3000)) (fun g' lg' ar' bk' => hk_fr [14, 15, 17, 43] g g' ∧ lg = lg' ∧ hk_fr [1] ar ar' ∧ bk = bk' ∧ (0 ≤ (g' 14).toInt ∧ (g' 14).toInt ≤ 3000)) := by
  refine jx_metv (cc := cX6_readPlain) (maxL := 5) (ret := none) rfl (by decide) rfl (Nat.le_of_ble_eq_true rfl) ?_
  intro p e s m args below meth c ls Q A hx hb hml hown hts hA hZ hw hl hQ kr kt
  have hq : ∀ w ∈ wwX, w.before args s = true := fun w h => hts w (List.mem_cons_of_mem _ h)
  have hl : lv_has ls 5 [(0, .ref (ad 25)), (1, .int y1)] := hl
  refine lv_aload_n hx hb dX6_readPlain_0 rfl (lv_at hl 0 rfl) ?_
  refine hk_get (ci := 9) (C := RX6) (T := TX6) (N := 16) (v := .ref (ad 6)) hx hb hts (fun _ h => List.mem_cons_of_mem _ (wwXc_wsX60 _ h)) hown hw 25 rfl rfl 0 (by decide) (hq _ wX_399) rfl dX6_readPlain_1 ?_
  refine lv_iconst (v := 2) hx hb dX6_readPlain_4 (by decide) ?_
  refine jx_Vi (As := [.int 2]) (rest := []) ⟨hx, hb, hml, hown, hts⟩ hZ hw hA (jx_X8_high l hlt D t3 cI cJ ad g lg ar bk _ 2 hi_a0rg) (cwV 1 hts (jx_gV wwX_good wX_502 wX_259 wX_260 wX_252 wX_261) rfl rfl rfl (by decide +kernel) ⟨Nat.le_of_ble_eq_true rfl, Nat.le_of_ble_eq_true rfl⟩) 6 (ci := 11) (T := TX8) (N := 4) rfl rfl rfl hl.1 rfl (Nat.le_of_ble_eq_true rfl) dX6_readPlain_5 ⟨Nat.le_of_ble_eq_true rfl, Nat.le_of_ble_eq_true rfl⟩ (fun u1 u2 u3 u4 H locs ce q hp hw h1 h2 h3 => by obtain ⟨ht0, rfl, rfl, rfl⟩ := hp; have e_u1_14 : u1 14 = (g 14) := (ht0 14 rfl); exact kt _ _ _ _ _ _ _ _ _ _ _ ⟨(hk_frT hk_fr0 (by decide) ht0), rfl, hk_fr0, rfl, (ob451 ((u1 14).toInt) ((g 14).toInt) (congrArg Int32.toInt e_u1_14) hi_g14 (hE_rng (u1 14)) (hE_rng (g 14)))⟩ hw h1 h2 h3) (fun r5 g6 l7 a8 b9 H locs hp10 hw => ?_)
  obtain ⟨h11, rfl, rfl, rfl⟩ := hp10
  refine lv_iconst (v := 1) hx hb dX6_readPlain_8 (by decide) ?_
  refine lv_iadd hx hb dX6_readPlain_9 (jx_nm fun z15 hz15 => ?_)
  refine lv_istore_n (lv' := [(2, .int z15), (0, .ref (ad 25)), (1, .int y1)]) hx hb dX6_readPlain_10 rfl hl (by decide) rfl (fun ls hl => ?_)
  refine lv_iload_n hx hb dX6_readPlain_11 rfl (lv_at hl 2 rfl) ?_
  refine lv_iconst (v := 1) hx hb dX6_readPlain_12 (by decide) ?_
  have B16 : ∀  (g17 : Nat → Int32) (ls : Array Slot) (H : Heap) (locs : List Loc), (hk_fr [43] g6 g17) → hk_W D (jT cI cJ) A s H locs (xw cI cJ ad g17 lg ar bk) → lv_has ls 5 [(0, .ref (ad 25)), (2, .int z15)] → W p l e { frames := 8, cells := 1, slots := 6, locals := 125 } s m args below meth c H locs 0 0 Q (F0 m 27 ls []) := by
    intro g17 ls H locs hfr_g17 hw hl
    refine lv_iconst (v := 0) hx hb dX6_readPlain_27 (by decide) ?_
    refine lv_istore_n (lv' := [(3, .int 0), (0, .ref (ad 25)), (2, .int z15)]) hx hb dX6_readPlain_28 rfl hl (by decide) rfl (fun ls hl => ?_)
    have B18 : ∀ (k22 : Nat) (x19 : Int32) (g20 : Nat → Int32) (a21 : Nat → Nat → Int32) (ls : Array Slot) (H : Heap) (locs : List Loc), (2147483648 - (x19).toInt ≤ (k22 : Int)) → (0 ≤ (x19).toInt) → (0 ≤ (g20 14).toInt ∧ (g20 14).toInt ≤ 3000) → (hk_fr [14, 15, 17] g17 g20) → (hk_fr [1] ar a21) → hk_W D (jT cI cJ) A s H locs (xw cI cJ ad g20 lg a21 bk) → lv_has ls 5 [(0, .ref (ad 25)), (2, .int z15), (3, .int x19)] → W p l e { frames := 8, cells := 1, slots := 6, locals := 125 } s m args below meth c H locs 0 0 Q (F0 m 29 ls []) := by
      intro k22
      induction k22 with
      | zero =>
        intro x19 g20 a21 ls H locs hrk_B18 hf_B18_0 hf_B18_1 hfr_g20 hfr_a21 hw hl
        exact False.elim (hk_no0 (0 * (x19).toInt) (ob5 ((x19).toInt) hf_B18_0 hrk_B18 (hE_rng (x19))) (by simp))
      | succ k22 ih_B18 =>
        intro x19 g20 a21 ls H locs hrk_B18 hf_B18_0 hf_B18_1 hfr_g20 hfr_a21 hw hl
        have hrk_B18 := hk_rk hrk_B18
        refine lv_iload_n hx hb dX6_readPlain_29 rfl (lv_at hl 2 rfl) ?_
        refine lv_iload_n hx hb dX6_readPlain_30 rfl (lv_at hl 1 rfl) ?_
        refine lv_icmp_ge (tgt := 80) hx hb dX6_readPlain_31 (by decide) (fun cc23 => ?_) (fun cc23 => ?_)
        · exact kr g20 lg a21 bk _ _ _ _ ⟨(hk_frT (hk_frT (hk_frT hk_fr0 (by decide) h11) (by decide) hfr_g17) (by decide) hfr_g20), rfl, hfr_a21, rfl, (ob465 ((g20 14).toInt) hf_B18_1 (hE_rng (g20 14)))⟩ hw dX6_readPlain_80
        · refine lv_aload_n hx hb dX6_readPlain_34 rfl (lv_at hl 0 rfl) ?_
          refine hk_get (ci := 9) (C := RX6) (T := TX6) (N := 16) (v := .ref (ad 6)) hx hb hts (fun _ h => List.mem_cons_of_mem _ (wwXc_wsX60 _ h)) hown hw 25 rfl rfl 0 (by decide) (hq _ wX_399) rfl dX6_readPlain_35 ?_
          refine jx_Vi (As := []) (rest := []) ⟨hx, hb, hml, hown, hts⟩ hZ hw hA (jx_X8_next l hlt D t3 cI cJ ad g20 lg a21 bk _ (hk_pE (P := hk_rg 0 255) hi_a0rg (hfr_a21 0 rfl))) (cwV 0 hts (jx_gV wwX_good wX_430 wX_250 wX_251 wX_252 wX_253) rfl rfl rfl (by decide +kernel) ⟨Nat.le_of_ble_eq_true rfl, Nat.le_of_ble_eq_true rfl⟩) 6 (ci := 11) (T := TX8) (N := 4) rfl rfl rfl hl.1 rfl (Nat.le_of_ble_eq_true rfl) dX6_readPlain_38 ⟨Nat.le_of_ble_eq_true rfl, Nat.le_of_ble_eq_true rfl⟩ (fun u24 u25 u26 u27 H locs ce q hp hw h1 h2 h3 => by obtain ⟨ht0, rfl, rfl, rfl⟩ := hp; have e_u24_14 : u24 14 = (g20 14) := (ht0 14 rfl); exact kt _ _ _ _ _ _ _ _ _ _ _ ⟨(hk_frT (hk_frT (hk_frT (hk_frT hk_fr0 (by decide) h11) (by decide) hfr_g17) (by decide) hfr_g20) (by decide) ht0), rfl, hfr_a21, rfl, (ob451 ((u24 14).toInt) ((g20 14).toInt) (congrArg Int32.toInt e_u24_14) hf_B18_1 (hE_rng (u24 14)) (hE_rng (g20 14)))⟩ hw h1 h2 h3) (fun r28 g29 l30 a31 b32 H locs hp33 hw => ?_)
          obtain ⟨h34, rfl, rfl, rfl, h38⟩ := hp33
          refine lv_istore (lv' := [(4, .int r28), (0, .ref (ad 25)), (2, .int z15), (3, .int x19)]) hx hb dX6_readPlain_41 hl (by decide) rfl (fun ls hl => ?_)
          refine lv_aload_n hx hb dX6_readPlain_43 rfl (lv_at hl 1 rfl) ?_
          refine hk_get (ci := 9) (C := RX6) (T := TX6) (N := 16) (v := .ref (ad 4)) hx hb hts (fun _ h => List.mem_cons_of_mem _ (wwXc_wsX60 _ h)) hown hw 25 rfl rfl 1 (by decide) (hq _ wX_410) rfl dX6_readPlain_44 ?_
          have e_g29_14 : g29 14 = (g20 14) := (h34 14 rfl)
          refine hk_get (ci := 12) (C := RX9) (T := TX9) (N := 2) (v := .int (g20 14)) hx hb hts (fun _ h => List.mem_cons_of_mem _ (wwXc_wsX90 _ h)) hown hw 4 rfl rfl 1 (by decide) (hq _ wX_402) (congrArg (fun z => some (Value.int z)) e_g29_14) dX6_readPlain_47 ?_
          refine lv_sipush (v := 3000) hx hb dX6_readPlain_50 (by decide) ?_
          have B39 : ∀  (g40 : Nat → Int32) (ls : Array Slot) (H : Heap) (locs : List Loc), (hk_fr [17] g29 g40) → hk_W D (jT cI cJ) A s H locs (xw cI cJ ad g40 lg a21 bk) → lv_has ls 5 [(0, .ref (ad 25)), (2, .int z15), (3, .int x19), (4, .int r28)] → W p l e { frames := 8, cells := 1, slots := 6, locals := 125 } s m args below meth c H locs 0 0 Q (F0 m 65 ls []) := by
            intro g40 ls H locs hfr_g40 hw hl
            refine lv_aload_n hx hb dX6_readPlain_65 rfl (lv_at hl 0 rfl) ?_
            refine hk_get (ci := 9) (C := RX6) (T := TX6) (N := 16) (v := .ref (ad 4)) hx hb hts (fun _ h => List.mem_cons_of_mem _ (wwXc_wsX60 _ h)) hown hw 25 rfl rfl 1 (by decide) (hq _ wX_410) rfl dX6_readPlain_66 ?_
            refine lv_iload hx hb dX6_readPlain_69 (lv_at hl 3 rfl) ?_
            refine jx_Vv (As := [.int r28]) (rest := []) ⟨hx, hb, hml, hown, hts⟩ hZ hw hA (jx_X9_put_4 l hlt D t3 cI cJ ad g40 lg a21 bk _ r28) (cwV 1 hts (jx_gV wwX_good wX_501 wX_112 wX_113 wX_24 wX_114) rfl rfl rfl (by decide +kernel) ⟨Nat.le_of_ble_eq_true rfl, Nat.le_of_ble_eq_true rfl⟩) 4 (ci := 12) (T := TX9) (N := 2) rfl rfl rfl hl.1 rfl (Nat.le_of_ble_eq_true rfl) dX6_readPlain_71 ⟨Nat.le_of_ble_eq_true rfl, Nat.le_of_ble_eq_true rfl⟩ (fun _ _ _ _ _ _ _ _ hp _ _ _ _ => hp.elim) (fun g46 l47 a48 b49 H locs hp50 hw => ?_)
            obtain ⟨h51, rfl, h53, rfl, h55⟩ := hp50
            have e_g40_14 : g40 14 = (g20 14) := ((hfr_g40 14 rfl)).trans e_g29_14
            have hr56 : hk_rg 0 255 (a48 0) := (hk_pE (P := hk_rg 0 255) (hk_pE (P := hk_rg 0 255) hi_a0rg (hfr_a21 0 rfl)) (h53 0 rfl))
            obtain ⟨z57, hz57⟩ : ∃ z : Int32, x19 + 1 = z := ⟨_, rfl⟩
            refine lv_iinc (v := z57) (lv' := [(3, .int z57), (0, .ref (ad 25)), (2, .int z15), (4, .int r28)]) hx hb dX6_readPlain_74 hl (k := 2) rfl hz57 (by decide) rfl (fun ls hl => ?_)
            have xz57 : (z57).toInt = (x19).toInt + ((1 : Int32)).toInt := (hE_imp (hE_add hz57) (ob472 ((x19).toInt) (((1 : Int32)).toInt) ((z15).toInt) ((r5).toInt) (k22 : Int) (hE_add hz15) hf_B18_0 hrk_B18 (hE_nle cc23) (hE_rng (x19)) (by decide) (hE_rng (z15)) (hE_rng (r5))))
            refine lv_goto (tgt := 29) hx hb dX6_readPlain_77 (by decide) ?_
            exact ih_B18 z57 g46 a48 ls _ _ (ob473 ((z57).toInt) (k22 : Int) ((x19).toInt) (((1 : Int32)).toInt) ((z15).toInt) ((r5).toInt) hrk_B18 xz57 (hE_add hz15) hf_B18_0 (hE_nle cc23) (hE_rng (z57)) (hE_rng (x19)) (by decide) (hE_rng (z15)) (hE_rng (r5))) (ob474 ((z57).toInt) ((x19).toInt) (((1 : Int32)).toInt) ((z15).toInt) ((r5).toInt) (k22 : Int) xz57 (hE_add hz15) hf_B18_0 hrk_B18 (hE_nle cc23) (hE_rng (z57)) (hE_rng (x19)) (by decide) (hE_rng (z15)) (hE_rng (r5))) (ob475 ((g46 14).toInt) ((g40 14).toInt) ((g20 14).toInt) ((g29 14).toInt) h55 (congrArg Int32.toInt e_g40_14) hf_B18_1 (congrArg Int32.toInt e_g29_14) (hE_rng (g46 14)) (hE_rng (g40 14)) (hE_rng (g20 14)) (hE_rng (g29 14))) (hk_frT (hk_frT (hk_frT hfr_g20 (by decide) h34) (by decide) hfr_g40) (by decide) h51) (hk_frT hfr_a21 (by decide) h53) hw (lv_sub hl [1, 2, 0] rfl)
          refine lv_icmp_lt (tgt := 65) hx hb dX6_readPlain_53 (by decide) (fun cc58 => ?_) (fun cc58 => ?_)
          · exact B39 g29 ls _ _ hk_fr0 hw (lv_sub hl [1, 2, 3, 0] rfl)
          · refine lv_aload_n hx hb dX6_readPlain_56 rfl (lv_at hl 1 rfl) ?_
            refine hk_get (ci := 9) (C := RX6) (T := TX6) (N := 16) (v := .ref (ad 6)) hx hb hts (fun _ h => List.mem_cons_of_mem _ (wwXc_wsX60 _ h)) hown hw 25 rfl rfl 0 (by decide) (hq _ wX_399) rfl dX6_readPlain_57 ?_
            refine lv_bipush (v := 13) hx hb dX6_readPlain_60 (by decide) ?_
            refine jx_Vv (As := [.int 13]) (rest := []) ⟨hx, hb, hml, hown, hts⟩ hZ hw hA (jx_X8_fail l hlt D t3 cI cJ ad g29 lg a21 bk _ 13) (cwV 1 hts (jx_gV wwX_good wX_403 wX_255 wX_256 wX_252 wX_257) rfl rfl rfl (by decide +kernel) ⟨Nat.le_of_ble_eq_true rfl, Nat.le_of_ble_eq_true rfl⟩) 6 (ci := 11) (T := TX8) (N := 4) rfl rfl rfl hl.1 rfl (Nat.le_of_ble_eq_true rfl) dX6_readPlain_62 ⟨Nat.le_of_ble_eq_true rfl, Nat.le_of_ble_eq_true rfl⟩ (fun u59 u60 u61 u62 H locs ce q hp hw h1 h2 h3 => by obtain ⟨ht0, rfl, rfl, rfl⟩ := hp; have e_u59_14 : u59 14 = (g20 14) := ((ht0 14 rfl)).trans e_g29_14; exact kt _ _ _ _ _ _ _ _ _ _ _ ⟨(hk_frT (hk_frT (hk_frT (hk_frT (hk_frT hk_fr0 (by decide) h11) (by decide) hfr_g17) (by decide) hfr_g20) (by decide) h34) (by decide) ht0), rfl, hfr_a21, rfl, (ob476 ((u59 14).toInt) ((g20 14).toInt) ((g29 14).toInt) (((3000 : Int32)).toInt) (congrArg Int32.toInt e_u59_14) hf_B18_1 (congrArg Int32.toInt e_g29_14) (hE_nlt cc58) (hE_rng (u59 14)) (hE_rng (g20 14)) (hE_rng (g29 14)) (by decide))⟩ hw h1 h2 h3) (fun g64 l65 a66 b67 H locs hp68 hw => ?_)
            obtain ⟨h69, rfl, rfl, rfl, h73⟩ := hp68
            exact False.elim h73
    have e_g17_14 : g17 14 = (g 14) := ((hfr_g17 14 rfl)).trans (h11 14 rfl)
    exact B18 (2147483648 - ((0 : Int32)).toInt).toNat 0 g17 ar ls _ _ (Int.self_le_toNat _) (ob9 (((0 : Int32)).toInt) (by decide)) (ob451 ((g17 14).toInt) ((g 14).toInt) (congrArg Int32.toInt e_g17_14) hi_g14 (hE_rng (g17 14)) (hE_rng (g 14))) hk_fr0 hk_fr0 hw (lv_sub hl [1, 2, 0] rfl)
  refine lv_icmp_ne (tgt := 27) hx hb dX6_readPlain_13 (by decide) (fun cc74 => ?_) (fun cc74 => ?_)
  · exact B16 g6 ls _ _ hk_fr0 hw (lv_sub hl [1, 0] rfl)
  · refine lv_aload_n hx hb dX6_readPlain_16 rfl (lv_at hl 1 rfl) ?_
    refine lv_aload_n hx hb dX6_readPlain_17 rfl (lv_at hl 1 rfl) ?_
    refine hk_get (ci := 9) (C := RX6) (T := TX6) (N := 16) (v := .ref (ad 4)) hx hb hts (fun _ h => List.mem_cons_of_mem _ (wwXc_wsX60 _ h)) hown hw 25 rfl rfl 1 (by decide) (hq _ wX_410) rfl dX6_readPlain_18 ?_
    have e_g6_14 : g6 14 = (g 14) := (h11 14 rfl)
    refine hk_get (ci := 12) (C := RX9) (T := TX9) (N := 2) (v := .int (g 14)) hx hb hts (fun _ h => List.mem_cons_of_mem _ (wwXc_wsX90 _ h)) hown hw 4 rfl rfl 1 (by decide) (hq _ wX_402) (congrArg (fun z => some (Value.int z)) e_g6_14) dX6_readPlain_21 ?_
    refine jx_putg xw (g := g6) (lg := lg) (ar := ar) (bk := bk) (x := (g 14)) 43 (ci := 9) (C := RX6) (T := TX6) (N := 16) (ty := .int) hx hb hts (fun _ h => List.mem_cons_of_mem _ (wwXc_wsX60 _ h)) tyX6 tyX6_ok nmX6 hown hw 25 rfl rfl 9 (by decide) (hq _ wX_422) rfl (by decide +kernel) rfl rfl (Nat.le_of_ble_eq_true rfl) dX6_readPlain_24 rfl (fun H locs g75 h_g75 hw => ?_)
    exact B16 g75 ls _ _ (hk_frG hk_fr0 (by decide) h_g75) hw (lv_sub hl [1, 0] rfl)

set_option maxHeartbeats 4000000 in
set_option maxRecDepth 100000 in
/-- X6_readChunkHead on (25,) -/
theorem jx_X6_readChunkHead (l : Launch) (hlt : l.stackTraces = false) (D : va_G) (t3 : Nat × Nat × Nat) (cI cJ : ClassId) (ad : Nat → Nat) (g : Nat → Int32) (lg : Nat → Int64) (ar : Nat → Nat → Int32) (bk : Nat → Int64) (sz : Nat) (y1 : Int32) (hi_a0rg : hk_rg 0 255 (ar 0)) (hi_g21 : 0 ≤ (g 21).toInt ∧ (g 21).toInt ≤ 4) (hi_g22 : 0 ≤ (g 22).toInt ∧ (g 22).toInt ≤ 4) : JMi l yX6_readChunkHead (Cond.code yX6_readChunkHead cX6_readChunkHead 5 (some .int) :: wwX) { frames := 8, cells := 1, slots := 6, locals := 125 } t3 D xw cI cJ ad [.ref (ad 25), .int y1] (xw cI cJ ad g lg ar bk) sz 1 6 (fun (r : Int32) g' lg' ar' bk' => hk_fr [15, 16, 17, 21, 22, 23, 24, 43, 47] g g' ∧ lg = lg' ∧ hk_fr [2] ar ar' ∧ True ∧ (0 ≤ (g' 21).toInt ∧ (g' 21).toInt ≤ 4) ∧ (0 ≤ (g' 22).toInt ∧ (g' 22).toInt ≤ 4)) (fun g' lg' ar' bk' => hk_fr [15, 16, 17, 21, 22, 23, 24, 43, 47] g g' ∧ lg = lg' ∧ hk_fr [2] ar ar' ∧ True ∧ (0 ≤ (g' 21).toInt ∧ (g' 21).toInt ≤ 4) ∧ (0 ≤ (g' 22).toInt ∧ (g' 22).toInt ≤ 4)) := by
  refine jx_meti (cc := cX6_readChunkHead) (maxL := 5) (ret := (some .int)) rfl (by decide) rfl (Nat.le_of_ble_eq_true rfl) ?_
  intro p e s m args below meth c ls Q A hx hb hml hown hts hA hZ hw hl hQ kr kt
  have hq : ∀ w ∈ wwX, w.before args s = true := fun w h => hts w (List.mem_cons_of_mem _ h)
  have hl : lv_has ls 5 [(0, .ref (ad 25)), (1, .int y1)] := hl
  refine lv_iload_n hx hb dX6_readChunkHead_0 rfl (lv_at hl 1 rfl) ?_
  refine lv_iconst (v := 5) hx hb dX6_readChunkHead_1 (by decide) ?_
  refine lv_ishr hx hb dX6_readChunkHead_2 (jx_nm fun z1 hz1 => ?_)
  refine lv_iconst (v := 3) hx hb dX6_readChunkHead_3 (by decide) ?_
  refine lv_iand hx hb dX6_readChunkHead_4 (jx_nm fun z2 hz2 => ?_)
  refine lv_istore_n (lv' := [(2, .int z2), (0, .ref (ad 25)), (1, .int y1)]) hx hb dX6_readChunkHead_5 rfl hl (by decide) rfl (fun ls hl => ?_)
  refine lv_iload_n hx hb dX6_readChunkHead_6 rfl (lv_at hl 2 rfl) ?_
  refine lv_bipush (v := 31) hx hb dX6_readChunkHead_7 (by decide) ?_
  refine lv_iand hx hb dX6_readChunkHead_9 (jx_nm fun z3 hz3 => ?_)
  refine lv_bipush (v := 16) hx hb dX6_readChunkHead_10 (by decide) ?_
  refine lv_ishl hx hb dX6_readChunkHead_12 (jx_nm fun z4 hz4 => ?_)
  have xz4 : (z4).toInt = (z3).toInt * 65536 := (hE_imp (hE_shl 16 65536 hz4 (by decide) (by decide) (by decide)) (ob477 ((z3).toInt) ((y1).toInt) ((z1).toInt) ((z2).toInt) (hE_and 5 32 hz3 (by decide) (by decide) (by decide)) (hE_shr 5 32 hz1 (by decide) (by decide) (by decide)) (hE_and 2 4 hz2 (by decide) (by decide) (by decide)) (hE_rng (z3)) (hE_rng (y1)) (hE_rng (z1)) (hE_rng (z2))))
  refine lv_aload_n hx hb dX6_readChunkHead_13 rfl (lv_at hl 1 rfl) ?_
  refine hk_get (ci := 9) (C := RX6) (T := TX6) (N := 16) (v := .ref (ad 6)) hx hb hts (fun _ h => List.mem_cons_of_mem _ (wwXc_wsX60 _ h)) hown hw 25 rfl rfl 0 (by decide) (hq _ wX_399) rfl dX6_readChunkHead_14 ?_
  refine lv_iconst (v := 2) hx hb dX6_readChunkHead_17 (by decide) ?_
  refine jx_Vi (As := [.int 2]) (rest := [.int z4]) ⟨hx, hb, hml, hown, hts⟩ hZ hw hA (jx_X8_high l hlt D t3 cI cJ ad g lg ar bk _ 2 hi_a0rg) (cwV 1 hts (jx_gV wwX_good wX_502 wX_259 wX_260 wX_252 wX_261) rfl rfl rfl (by decide +kernel) ⟨Nat.le_of_ble_eq_true rfl, Nat.le_of_ble_eq_true rfl⟩) 6 (ci := 11) (T := TX8) (N := 4) rfl rfl rfl hl.1 rfl (Nat.le_of_ble_eq_true rfl) dX6_readChunkHead_18 ⟨Nat.le_of_ble_eq_true rfl, Nat.le_of_ble_eq_true rfl⟩ (fun u5 u6 u7 u8 H locs ce q hp hw h1 h2 h3 => by obtain ⟨ht0, rfl, rfl, rfl⟩ := hp; have e_u5_21 : u5 21 = (g 21) := (ht0 21 rfl); have e_u5_22 : u5 22 = (g 22) := (ht0 22 rfl); exact kt _ _ _ _ _ _ _ _ _ _ _ ⟨(hk_frT hk_fr0 (by decide) ht0), rfl, hk_fr0, trivial, (ob82 ((u5 21).toInt) ((g 21).toInt) (congrArg Int32.toInt e_u5_21) hi_g21 (hE_rng (u5 21)) (hE_rng (g 21))), (ob82 ((u5 22).toInt) ((g 22).toInt) (congrArg Int32.toInt e_u5_22) hi_g22 (hE_rng (u5 22)) (hE_rng (g 22)))⟩ hw h1 h2 h3) (fun r9 g10 l11 a12 b13 H locs hp14 hw => ?_)
  obtain ⟨h15, rfl, rfl, rfl⟩ := hp14
  refine lv_ior hx hb dX6_readChunkHead_21 (jx_nm fun z19 hz19 => ?_)
  refine lv_iconst (v := 1) hx hb dX6_readChunkHead_22 (by decide) ?_
  refine lv_iadd hx hb dX6_readChunkHead_23 (jx_nm fun z20 hz20 => ?_)
  refine lv_istore_n (lv' := [(3, .int z20), (2, .int z2), (0, .ref (ad 25)), (1, .int y1)]) hx hb dX6_readChunkHead_24 rfl hl (by decide) rfl (fun ls hl => ?_)
  refine lv_aload_n hx hb dX6_readChunkHead_25 rfl (lv_at hl 2 rfl) ?_
  refine hk_get (ci := 9) (C := RX6) (T := TX6) (N := 16) (v := .ref (ad 6)) hx hb hts (fun _ h => List.mem_cons_of_mem _ (wwXc_wsX60 _ h)) hown hw 25 rfl rfl 0 (by decide) (hq _ wX_399) rfl dX6_readChunkHead_26 ?_
  refine lv_iconst (v := 2) hx hb dX6_readChunkHead_29 (by decide) ?_
  refine jx_Vi (As := [.int 2]) (rest := []) ⟨hx, hb, hml, hown, hts⟩ hZ hw hA (jx_X8_high l hlt D t3 cI cJ ad g10 lg ar bk _ 2 hi_a0rg) (cwV 1 hts (jx_gV wwX_good wX_502 wX_259 wX_260 wX_252 wX_261) rfl rfl rfl (by decide +kernel) ⟨Nat.le_of_ble_eq_true rfl, Nat.le_of_ble_eq_true rfl⟩) 6 (ci := 11) (T := TX8) (N := 4) rfl rfl rfl hl.1 rfl (Nat.le_of_ble_eq_true rfl) dX6_readChunkHead_30 ⟨Nat.le_of_ble_eq_true rfl, Nat.le_of_ble_eq_true rfl⟩ (fun u21 u22 u23 u24 H locs ce q hp hw h1 h2 h3 => by obtain ⟨ht0, rfl, rfl, rfl⟩ := hp; have e_u21_21 : u21 21 = (g 21) := ((ht0 21 rfl)).trans (h15 21 rfl); have e_u21_22 : u21 22 = (g 22) := ((ht0 22 rfl)).trans (h15 22 rfl); exact kt _ _ _ _ _ _ _ _ _ _ _ ⟨(hk_frT (hk_frT hk_fr0 (by decide) h15) (by decide) ht0), rfl, hk_fr0, trivial, (ob82 ((u21 21).toInt) ((g 21).toInt) (congrArg Int32.toInt e_u21_21) hi_g21 (hE_rng (u21 21)) (hE_rng (g 21))), (ob82 ((u21 22).toInt) ((g 22).toInt) (congrArg Int32.toInt e_u21_22) hi_g22 (hE_rng (u21 22)) (hE_rng (g 22)))⟩ hw h1 h2 h3) (fun r25 g26 l27 a28 b29 H locs hp30 hw => ?_)
  obtain ⟨h31, rfl, rfl, rfl⟩ := hp30
  refine lv_iconst (v := 1) hx hb dX6_readChunkHead_33 (by decide) ?_
  refine lv_iadd hx hb dX6_readChunkHead_34 (jx_nm fun z35 hz35 => ?_)
  refine lv_istore (lv' := [(4, .int z35), (3, .int z20), (2, .int z2), (0, .ref (ad 25)), (1, .int y1)]) hx hb dX6_readChunkHead_35 hl (by decide) rfl (fun ls hl => ?_)
  refine lv_iload_n hx hb dX6_readChunkHead_37 rfl (lv_at hl 2 rfl) ?_
  refine lv_iconst (v := 1) hx hb dX6_readChunkHead_38 (by decide) ?_
  have B36 : ∀  (g37 : Nat → Int32) (ls : Array Slot) (H : Heap) (locs : List Loc), (0 ≤ (g37 21).toInt ∧ (g37 21).toInt ≤ 4) → (0 ≤ (g37 22).toInt ∧ (g37 22).toInt ≤ 4) → (hk_fr [15, 17, 21, 22, 23] g26 g37) → hk_W D (jT cI cJ) A s H locs (xw cI cJ ad g37 lg ar bk) → lv_has ls 5 [(0, .ref (ad 25)), (2, .int z2), (3, .int z20), (4, .int z35)] → W p l e { frames := 8, cells := 1, slots := 6, locals := 125 } s m args below meth c H locs 0 0 Q (F0 m 46 ls []) := by
    intro g37 ls H locs hf_B36_0 hf_B36_1 hfr_g37 hw hl
    refine lv_iload_n hx hb dX6_readChunkHead_46 rfl (lv_at hl 1 rfl) ?_
    have B38 : ∀  (g39 : Nat → Int32) (a40 : Nat → Nat → Int32) (b41 : Nat → Int64) (ls : Array Slot) (H : Heap) (locs : List Loc), (hk_fr [24] g37 g39) → (hk_fr [2] ar a40) → hk_W D (jT cI cJ) A s H locs (xw cI cJ ad g39 lg a40 b41) → lv_has ls 5 [(0, .ref (ad 25)), (2, .int z2), (3, .int z20), (4, .int z35)] → W p l e { frames := 8, cells := 1, slots := 6, locals := 125 } s m args below meth c H locs 0 0 Q (F0 m 57 ls []) := by
      intro g39 a40 b41 ls H locs hfr_g39 hfr_a40 hw hl
      refine lv_iload_n hx hb dX6_readChunkHead_57 rfl (lv_at hl 1 rfl) ?_
      refine lv_iconst (v := 3) hx hb dX6_readChunkHead_58 (by decide) ?_
      have B42 : ∀  (g43 : Nat → Int32) (ls : Array Slot) (H : Heap) (locs : List Loc), (hk_fr [43] g39 g43) → hk_W D (jT cI cJ) A s H locs (xw cI cJ ad g43 lg a40 b41) → lv_has ls 5 [(0, .ref (ad 25)), (3, .int z20), (4, .int z35)] → W p l e { frames := 8, cells := 1, slots := 6, locals := 125 } s m args below meth c H locs 0 0 Q (F0 m 73 ls []) := by
        intro g43 ls H locs hfr_g43 hw hl
        refine lv_aload_n hx hb dX6_readChunkHead_73 rfl (lv_at hl 0 rfl) ?_
        refine lv_aload_n hx hb dX6_readChunkHead_74 rfl (lv_at hl 0 rfl) ?_
        refine hk_get (ci := 9) (C := RX6) (T := TX6) (N := 16) (v := .ref (ad 6)) hx hb hts (fun _ h => List.mem_cons_of_mem _ (wwXc_wsX60 _ h)) hown hw 25 rfl rfl 0 (by decide) (hq _ wX_399) rfl dX6_readChunkHead_75 ?_
        have e_g43_15 : g43 15 = (g37 15) := ((hfr_g43 15 rfl)).trans (hfr_g39 15 rfl)
        refine hk_get (ci := 11) (C := RX8) (T := TX8) (N := 4) (v := .int (g37 15)) hx hb hts (fun _ h => List.mem_cons_of_mem _ (wwXc_wsX80 _ h)) hown hw 6 rfl rfl 1 (by decide) (hq _ wX_400) (congrArg (fun z => some (Value.int z)) e_g43_15) dX6_readChunkHead_78 ?_
        refine lv_iload hx hb dX6_readChunkHead_81 (lv_at hl 2 rfl) ?_
        refine lv_iadd hx hb dX6_readChunkHead_83 (jx_nm fun z44 hz44 => ?_)
        refine jx_putg xw (g := g43) (lg := lg) (ar := a40) (bk := b41) (x := z44) 47 (ci := 9) (C := RX6) (T := TX6) (N := 16) (ty := .int) hx hb hts (fun _ h => List.mem_cons_of_mem _ (wwXc_wsX60 _ h)) tyX6 tyX6_ok nmX6 hown hw 25 rfl rfl 13 (by decide) (hq _ wX_428) rfl (by decide +kernel) rfl rfl (Nat.le_of_ble_eq_true rfl) dX6_readChunkHead_84 rfl (fun H locs g45 h_g45 hw => ?_)
        refine lv_aload_n hx hb dX6_readChunkHead_87 rfl (lv_at hl 0 rfl) ?_
        refine hk_get (ci := 9) (C := RX6) (T := TX6) (N := 16) (v := .ref (ad 6)) hx hb hts (fun _ h => List.mem_cons_of_mem _ (wwXc_wsX60 _ h)) hown hw 25 rfl rfl 0 (by decide) (hq _ wX_399) rfl dX6_readChunkHead_88 ?_
        refine lv_aload_n hx hb dX6_readChunkHead_91 rfl (lv_at hl 0 rfl) ?_
        have e_g45_47 : g45 47 = z44 := (hk_upgS h_g45)
        refine hk_get (ci := 9) (C := RX6) (T := TX6) (N := 16) (v := .int z44) hx hb hts (fun _ h => List.mem_cons_of_mem _ (wwXc_wsX60 _ h)) hown hw 25 rfl rfl 13 (by decide) (hq _ wX_428) (congrArg (fun z => some (Value.int z)) e_g45_47) dX6_readChunkHead_92 ?_
        refine lv_aload_n hx hb dX6_readChunkHead_95 rfl (lv_at hl 0 rfl) ?_
        refine hk_get (ci := 9) (C := RX6) (T := TX6) (N := 16) (v := .ref (ad 6)) hx hb hts (fun _ h => List.mem_cons_of_mem _ (wwXc_wsX60 _ h)) hown hw 25 rfl rfl 0 (by decide) (hq _ wX_399) rfl dX6_readChunkHead_96 ?_
        refine hk_get (ci := 11) (C := RX8) (T := TX8) (N := 4) (v := .ref (ad 2)) hx hb hts (fun _ h => List.mem_cons_of_mem _ (wwXc_wsX80 _ h)) hown hw 6 rfl rfl 0 (by decide) (hq _ wX_401) rfl dX6_readChunkHead_99 ?_
        have e_g45_13 : g45 13 = (g 13) := ((hk_upgN h_g45 13 rfl)).trans (((hfr_g43 13 rfl)).trans (((hfr_g39 13 rfl)).trans (((hfr_g37 13 rfl)).trans (((h31 13 rfl)).trans (h15 13 rfl)))))
        refine hk_get (ci := 12) (C := RX9) (T := TX9) (N := 2) (v := .int (g 13)) hx hb hts (fun _ h => List.mem_cons_of_mem _ (wwXc_wsX90 _ h)) hown hw 2 rfl rfl 1 (by decide) (hq _ wX_402) (congrArg (fun z => some (Value.int z)) e_g45_13) dX6_readChunkHead_102 ?_
        refine va_mmin hx hb (by rw [hml]; exact hl.1.symm) hown (hq _ wX_503) (hq _ wX_146) (hq _ wX_143) (hq _ wX_147) (Nat.le_of_ble_eq_true rfl) (Nat.le_of_ble_eq_true rfl) (Nat.le_of_ble_eq_true rfl) (Nat.le_of_ble_eq_true rfl) dX6_readChunkHead_105 (jx_nm fun z46 hz46 => ?_)
        refine jx_putg xw (g := g45) (lg := lg) (ar := a40) (bk := b41) (x := z46) 16 (ci := 11) (C := RX8) (T := TX8) (N := 4) (ty := .int) hx hb hts (fun _ h => List.mem_cons_of_mem _ (wwXc_wsX80 _ h)) tyX8 tyX8_ok nmX8 hown hw 6 rfl rfl 2 (by decide) (hq _ wX_429) rfl (by decide +kernel) rfl rfl (Nat.le_of_ble_eq_true rfl) dX6_readChunkHead_108 rfl (fun H locs g47 h_g47 hw => ?_)
        refine lv_iload_n hx hb dX6_readChunkHead_111 rfl (lv_at hl 1 rfl) ?_
        have e_g47_21 : g47 21 = (g37 21) := ((hk_upgN h_g47 21 rfl)).trans (((hk_upgN h_g45 21 rfl)).trans (((hfr_g43 21 rfl)).trans (hfr_g39 21 rfl)))
        have e_g47_22 : g47 22 = (g37 22) := ((hk_upgN h_g47 22 rfl)).trans (((hk_upgN h_g45 22 rfl)).trans (((hfr_g43 22 rfl)).trans (hfr_g39 22 rfl)))
        exact kr z20 g47 lg a40 b41 _ _ _ _ ⟨(hk_frG (hk_frG (hk_frT (hk_frT (hk_frT (hk_frT (hk_frT hk_fr0 (by decide) h15) (by decide) h31) (by decide) hfr_g37) (by decide) hfr_g39) (by decide) hfr_g43) (by decide) h_g45) (by decide) h_g47), rfl, hfr_a40, trivial, (ob82 ((g47 21).toInt) ((g37 21).toInt) (congrArg Int32.toInt e_g47_21) hf_B36_0 (hE_rng (g47 21)) (hE_rng (g37 21))), (ob82 ((g47 22).toInt) ((g37 22).toInt) (congrArg Int32.toInt e_g47_22) hf_B36_1 (hE_rng (g47 22)) (hE_rng (g37 22)))⟩ hw dX6_readChunkHead_112
      refine lv_icmp_ne (tgt := 73) hx hb dX6_readChunkHead_59 (by decide) (fun cc48 => ?_) (fun cc48 => ?_)
      · exact B42 g39 ls _ _ hk_fr0 hw (lv_sub hl [0, 2, 3] rfl)
      · refine lv_aload_n hx hb dX6_readChunkHead_62 rfl (lv_at hl 0 rfl) ?_
        refine lv_aload_n hx hb dX6_readChunkHead_63 rfl (lv_at hl 0 rfl) ?_
        refine hk_get (ci := 9) (C := RX6) (T := TX6) (N := 16) (v := .ref (ad 4)) hx hb hts (fun _ h => List.mem_cons_of_mem _ (wwXc_wsX60 _ h)) hown hw 25 rfl rfl 1 (by decide) (hq _ wX_410) rfl dX6_readChunkHead_64 ?_
        have e_g39_14 : g39 14 = (g 14) := ((hfr_g39 14 rfl)).trans (((hfr_g37 14 rfl)).trans (((h31 14 rfl)).trans (h15 14 rfl)))
        refine hk_get (ci := 12) (C := RX9) (T := TX9) (N := 2) (v := .int (g 14)) hx hb hts (fun _ h => List.mem_cons_of_mem _ (wwXc_wsX90 _ h)) hown hw 4 rfl rfl 1 (by decide) (hq _ wX_402) (congrArg (fun z => some (Value.int z)) e_g39_14) dX6_readChunkHead_67 ?_
        refine jx_putg xw (g := g39) (lg := lg) (ar := a40) (bk := b41) (x := (g 14)) 43 (ci := 9) (C := RX6) (T := TX6) (N := 16) (ty := .int) hx hb hts (fun _ h => List.mem_cons_of_mem _ (wwXc_wsX60 _ h)) tyX6 tyX6_ok nmX6 hown hw 25 rfl rfl 9 (by decide) (hq _ wX_422) rfl (by decide +kernel) rfl rfl (Nat.le_of_ble_eq_true rfl) dX6_readChunkHead_70 rfl (fun H locs g49 h_g49 hw => ?_)
        exact B42 g49 ls _ _ (hk_frG hk_fr0 (by decide) h_g49) hw (lv_sub hl [0, 2, 3] rfl)
    refine lv_if_le (tgt := 57) hx hb dX6_readChunkHead_47 (by decide) (fun cc50 => ?_) (fun cc50 => ?_)
    · exact B38 g37 ar bk ls _ _ hk_fr0 hk_fr0 hw (lv_sub hl [0, 1, 2, 3] rfl)
    · refine lv_aload_n hx hb dX6_readChunkHead_50 rfl (lv_at hl 0 rfl) ?_
      refine hk_get (ci := 9) (C := RX6) (T := TX6) (N := 16) (v := .ref (ad 9)) hx hb hts (fun _ h => List.mem_cons_of_mem _ (wwXc_wsX60 _ h)) hown hw 25 rfl rfl 2 (by decide) (hq _ wX_413) rfl dX6_readChunkHead_51 ?_
      refine jx_Vv (As := []) (rest := []) ⟨hx, hb, hml, hown, hts⟩ hZ hw hA (jx_X5_reset l hlt D t3 cI cJ ad g37 lg ar bk _ (ob348 ((g37 21).toInt) hf_B36_0 (hE_rng (g37 21))) (ob348 ((g37 22).toInt) hf_B36_1 (hE_rng (g37 22)))) (cwV 0 hts (jx_gV wwX_good wX_418 wX_419 wX_420 wX_215 wX_421) rfl rfl rfl (by decide +kernel) ⟨Nat.le_of_ble_eq_true rfl, Nat.le_of_ble_eq_true rfl⟩) 9 (ci := 8) (T := TX5) (N := 6) rfl rfl rfl hl.1 rfl (Nat.le_of_ble_eq_true rfl) dX6_readChunkHead_54 ⟨Nat.le_of_ble_eq_true rfl, Nat.le_of_ble_eq_true rfl⟩ (fun _ _ _ _ _ _ _ _ hp _ _ _ _ => hp.elim) (fun g56 l57 a58 b59 H locs hp60 hw => ?_)
      obtain ⟨h61, rfl, h63, -⟩ := hp60
      exact B38 g56 a58 b59 ls _ _ h61 h63 hw (lv_sub hl [0, 1, 2, 3] rfl)
  refine lv_icmp_le (tgt := 46) hx hb dX6_readChunkHead_39 (by decide) (fun cc65 => ?_) (fun cc65 => ?_)
  · have e_g26_21 : g26 21 = (g 21) := ((h31 21 rfl)).trans (h15 21 rfl)
    have e_g26_22 : g26 22 = (g 22) := ((h31 22 rfl)).trans (h15 22 rfl)
    exact B36 g26 ls _ _ (ob82 ((g26 21).toInt) ((g 21).toInt) (congrArg Int32.toInt e_g26_21) hi_g21 (hE_rng (g26 21)) (hE_rng (g 21))) (ob82 ((g26 22).toInt) ((g 22).toInt) (congrArg Int32.toInt e_g26_22) hi_g22 (hE_rng (g26 22)) (hE_rng (g 22))) hk_fr0 hw (lv_sub hl [3, 2, 1, 0] rfl)
  · refine lv_aload_n hx hb dX6_readChunkHead_42 rfl (lv_at hl 3 rfl) ?_
    have e_g26_21 : g26 21 = (g 21) := ((h31 21 rfl)).trans (h15 21 rfl)
    have e_g26_22 : g26 22 = (g 22) := ((h31 22 rfl)).trans (h15 22 rfl)
    refine jx_Vv (As := []) (rest := []) ⟨hx, hb, hml, hown, hts⟩ hZ hw hA (jx_X6_readProperties l hlt D t3 cI cJ ad g26 lg ar bk _ hi_a0rg (ob82 ((g26 21).toInt) ((g 21).toInt) (congrArg Int32.toInt e_g26_21) hi_g21 (hE_rng (g26 21)) (hE_rng (g 21))) (ob82 ((g26 22).toInt) ((g 22).toInt) (congrArg Int32.toInt e_g26_22) hi_g22 (hE_rng (g26 22)) (hE_rng (g 22)))) (cwV 0 hts (jx_gV wwX_good wX_438 wX_439 wX_440 wX_441 wX_442) rfl rfl rfl (by decide +kernel) ⟨Nat.le_of_ble_eq_true rfl, Nat.le_of_ble_eq_true rfl⟩) 25 (ci := 9) (T := TX6) (N := 16) rfl rfl rfl hl.1 rfl (Nat.le_of_ble_eq_true rfl) dX6_readChunkHead_43 ⟨Nat.le_of_ble_eq_true rfl, Nat.le_of_ble_eq_true rfl⟩ (fun u66 u67 u68 u69 H locs ce q hp hw h1 h2 h3 => by obtain ⟨ht0, rfl, rfl, rfl, ht4, ht5⟩ := hp; exact kt _ _ _ _ _ _ _ _ _ _ _ ⟨(hk_frT (hk_frT (hk_frT hk_fr0 (by decide) h15) (by decide) h31) (by decide) ht0), rfl, hk_fr0, trivial, (ob348 ((u66 21).toInt) ht4 (hE_rng (u66 21))), (ob348 ((u66 22).toInt) ht5 (hE_rng (u66 22)))⟩ hw h1 h2 h3) (fun g71 l72 a73 b74 H locs hp75 hw => ?_)
    obtain ⟨h76, rfl, rfl, rfl, h80, h81⟩ := hp75
    exact B36 g71 ls _ _ (ob348 ((g71 21).toInt) h80 (hE_rng (g71 21))) (ob348 ((g71 22).toInt) h81 (hE_rng (g71 22))) h76 hw (lv_sub hl [3, 2, 1, 0] rfl)

set_option maxHeartbeats 4000000 in
set_option maxRecDepth 100000 in
/-- X6_endChunk on (25,) -/
theorem jx_X6_endChunk (l : Launch) (hlt : l.stackTraces = false) (D : va_G) (t3 : Nat × Nat × Nat) (cI cJ : ClassId) (ad : Nat → Nat) (g : Nat → Int32) (lg : Nat → Int64) (ar : Nat → Nat → Int32) (bk : Nat → Int64) (sz : Nat) : JMv l yX6_endChunk (Cond.code yX6_endChunk cX6_endChunk 1 none :: wwX) { frames := 7, cells := 1, slots := 6, locals := 102 } t3 D xw cI cJ ad [.ref (ad 25)] (xw cI cJ ad g lg ar bk) sz 1 6 (fun g' lg' ar' bk' => hk_fr [16, 17] g g' ∧ lg = lg' ∧ ar = ar' ∧ bk = bk') (fun g' lg' ar' bk' => hk_fr [16, 17] g g' ∧ lg = lg' ∧ ar = ar' ∧ bk = bk') := by
  refine jx_metv (cc := cX6_endChunk) (maxL := 1) (ret := none) rfl (by decide) rfl (Nat.le_of_ble_eq_true rfl) ?_
  intro p e s m args below meth c ls Q A hx hb hml hown hts hA hZ hw hl hQ kr kt
  have hq : ∀ w ∈ wwX, w.before args s = true := fun w h => hts w (List.mem_cons_of_mem _ h)
  have hl : lv_has ls 1 [(0, .ref (ad 25))] := hl
  refine lv_aload_n hx hb dX6_endChunk_0 rfl (lv_at hl 0 rfl) ?_
  refine hk_get (ci := 9) (C := RX6) (T := TX6) (N := 16) (v := .ref (ad 9)) hx hb hts (fun _ h => List.mem_cons_of_mem _ (wwXc_wsX60 _ h)) hown hw 25 rfl rfl 2 (by decide) (hq _ wX_413) rfl dX6_endChunk_1 ?_
  refine hk_get (ci := 8) (C := RX5) (T := TX5) (N := 6) (v := .ref (ad 7)) hx hb hts (fun _ h => List.mem_cons_of_mem _ (wwXc_wsX50 _ h)) hown hw 9 rfl rfl 0 (by decide) (hq _ wX_426) rfl dX6_endChunk_4 ?_
  refine hk_get (ci := 5) (C := RX2) (T := TX2) (N := 9) (v := .long (lg 2)) hx hb hts (fun _ h => List.mem_cons_of_mem _ (wwXc_wsX20 _ h)) hown hw 7 rfl rfl 6 (by decide) (hq _ wX_427) rfl dX6_endChunk_7 ?_
  refine lv_lconst (v := 0) hx hb dX6_endChunk_10 (by decide) ?_
  have B1 : ∀  (g2 : Nat → Int32) (ls : Array Slot) (H : Heap) (locs : List Loc), (hk_fr [17] g g2) → hk_W D (jT cI cJ) A s H locs (xw cI cJ ad g2 lg ar bk) → lv_has ls 1 [(0, .ref (ad 25))] → W p l e { frames := 7, cells := 1, slots := 6, locals := 102 } s m args below meth c H locs 0 0 Q (F0 m 24 ls []) := by
    intro g2 ls H locs hfr_g2 hw hl
    refine lv_aload_n hx hb dX6_endChunk_24 rfl (lv_at hl 0 rfl) ?_
    refine hk_get (ci := 9) (C := RX6) (T := TX6) (N := 16) (v := .ref (ad 6)) hx hb hts (fun _ h => List.mem_cons_of_mem _ (wwXc_wsX60 _ h)) hown hw 25 rfl rfl 0 (by decide) (hq _ wX_399) rfl dX6_endChunk_25 ?_
    have e_g2_15 : g2 15 = (g 15) := (hfr_g2 15 rfl)
    refine hk_get (ci := 11) (C := RX8) (T := TX8) (N := 4) (v := .int (g 15)) hx hb hts (fun _ h => List.mem_cons_of_mem _ (wwXc_wsX80 _ h)) hown hw 6 rfl rfl 1 (by decide) (hq _ wX_400) (congrArg (fun z => some (Value.int z)) e_g2_15) dX6_endChunk_28 ?_
    refine lv_aload_n hx hb dX6_endChunk_31 rfl (lv_at hl 0 rfl) ?_
    have e_g2_47 : g2 47 = (g 47) := (hfr_g2 47 rfl)
    refine hk_get (ci := 9) (C := RX6) (T := TX6) (N := 16) (v := .int (g 47)) hx hb hts (fun _ h => List.mem_cons_of_mem _ (wwXc_wsX60 _ h)) hown hw 25 rfl rfl 13 (by decide) (hq _ wX_428) (congrArg (fun z => some (Value.int z)) e_g2_47) dX6_endChunk_32 ?_
    have B3 : ∀  (g4 : Nat → Int32) (ls : Array Slot) (H : Heap) (locs : List Loc), (hk_fr [17] g2 g4) → hk_W D (jT cI cJ) A s H locs (xw cI cJ ad g4 lg ar bk) → lv_has ls 1 [(0, .ref (ad 25))] → W p l e { frames := 7, cells := 1, slots := 6, locals := 102 } s m args below meth c H locs 0 0 Q (F0 m 46 ls []) := by
      intro g4 ls H locs hfr_g4 hw hl
      refine lv_aload_n hx hb dX6_endChunk_46 rfl (lv_at hl 0 rfl) ?_
      refine hk_get (ci := 9) (C := RX6) (T := TX6) (N := 16) (v := .ref (ad 6)) hx hb hts (fun _ h => List.mem_cons_of_mem _ (wwXc_wsX60 _ h)) hown hw 25 rfl rfl 0 (by decide) (hq _ wX_399) rfl dX6_endChunk_47 ?_
      refine lv_aload_n hx hb dX6_endChunk_50 rfl (lv_at hl 0 rfl) ?_
      refine hk_get (ci := 9) (C := RX6) (T := TX6) (N := 16) (v := .ref (ad 6)) hx hb hts (fun _ h => List.mem_cons_of_mem _ (wwXc_wsX60 _ h)) hown hw 25 rfl rfl 0 (by decide) (hq _ wX_399) rfl dX6_endChunk_51 ?_
      refine hk_get (ci := 11) (C := RX8) (T := TX8) (N := 4) (v := .ref (ad 2)) hx hb hts (fun _ h => List.mem_cons_of_mem _ (wwXc_wsX80 _ h)) hown hw 6 rfl rfl 0 (by decide) (hq _ wX_401) rfl dX6_endChunk_54 ?_
      have e_g4_13 : g4 13 = (g 13) := ((hfr_g4 13 rfl)).trans (hfr_g2 13 rfl)
      refine hk_get (ci := 12) (C := RX9) (T := TX9) (N := 2) (v := .int (g 13)) hx hb hts (fun _ h => List.mem_cons_of_mem _ (wwXc_wsX90 _ h)) hown hw 2 rfl rfl 1 (by decide) (hq _ wX_402) (congrArg (fun z => some (Value.int z)) e_g4_13) dX6_endChunk_57 ?_
      refine jx_putg xw (g := g4) (lg := lg) (ar := ar) (bk := bk) (x := (g 13)) 16 (ci := 11) (C := RX8) (T := TX8) (N := 4) (ty := .int) hx hb hts (fun _ h => List.mem_cons_of_mem _ (wwXc_wsX80 _ h)) tyX8 tyX8_ok nmX8 hown hw 6 rfl rfl 2 (by decide) (hq _ wX_429) rfl (by decide +kernel) rfl rfl (Nat.le_of_ble_eq_true rfl) dX6_endChunk_60 rfl (fun H locs g5 h_g5 hw => ?_)
      exact kr g5 lg ar bk _ _ _ _ ⟨(hk_frG (hk_frT (hk_frT hk_fr0 (by decide) hfr_g2) (by decide) hfr_g4) (by decide) h_g5), rfl, rfl, rfl⟩ hw dX6_endChunk_63
    refine lv_icmp_eq (tgt := 46) hx hb dX6_endChunk_35 (by decide) (fun cc6 => ?_) (fun cc6 => ?_)
    · exact B3 g2 ls _ _ hk_fr0 hw (lv_sub hl [0] rfl)
    · refine lv_aload_n hx hb dX6_endChunk_38 rfl (lv_at hl 0 rfl) ?_
      refine hk_get (ci := 9) (C := RX6) (T := TX6) (N := 16) (v := .ref (ad 6)) hx hb hts (fun _ h => List.mem_cons_of_mem _ (wwXc_wsX60 _ h)) hown hw 25 rfl rfl 0 (by decide) (hq _ wX_399) rfl dX6_endChunk_39 ?_
      refine lv_iconst (v := 5) hx hb dX6_endChunk_42 (by decide) ?_
      refine jx_Vv (As := [.int 5]) (rest := []) ⟨hx, hb, hml, hown, hts⟩ hZ hw hA (jx_X8_fail l hlt D t3 cI cJ ad g2 lg ar bk _ 5) (cwV 1 hts (jx_gV wwX_good wX_403 wX_255 wX_256 wX_252 wX_257) rfl rfl rfl (by decide +kernel) ⟨Nat.le_of_ble_eq_true rfl, Nat.le_of_ble_eq_true rfl⟩) 6 (ci := 11) (T := TX8) (N := 4) rfl rfl rfl hl.1 rfl (Nat.le_of_ble_eq_true rfl) dX6_endChunk_43 ⟨Nat.le_of_ble_eq_true rfl, Nat.le_of_ble_eq_true rfl⟩ (fun u7 u8 u9 u10 H locs ce q hp hw h1 h2 h3 => by obtain ⟨ht0, rfl, rfl, rfl⟩ := hp; exact kt _ _ _ _ _ _ _ _ _ _ _ ⟨(hk_frT (hk_frT hk_fr0 (by decide) hfr_g2) (by decide) ht0), rfl, rfl, rfl⟩ hw h1 h2 h3) (fun g12 l13 a14 b15 H locs hp16 hw => ?_)
      obtain ⟨h17, rfl, rfl, rfl, h21⟩ := hp16
      exact False.elim h21
  refine hk_lcmp_eq (tgt := 24) hx hb dX6_endChunk_11 dX6_endChunk_12 (by decide) (fun cc22 => ?_) (fun cc22 => ?_)
  · exact B1 g ls _ _ hk_fr0 hw (lv_sub hl [0] rfl)
  · refine lv_aload_n hx hb dX6_endChunk_15 rfl (lv_at hl 0 rfl) ?_
    refine hk_get (ci := 9) (C := RX6) (T := TX6) (N := 16) (v := .ref (ad 6)) hx hb hts (fun _ h => List.mem_cons_of_mem _ (wwXc_wsX60 _ h)) hown hw 25 rfl rfl 0 (by decide) (hq _ wX_399) rfl dX6_endChunk_16 ?_
    refine lv_bipush (v := 7) hx hb dX6_endChunk_19 (by decide) ?_
    refine jx_Vv (As := [.int 7]) (rest := []) ⟨hx, hb, hml, hown, hts⟩ hZ hw hA (jx_X8_fail l hlt D t3 cI cJ ad g lg ar bk _ 7) (cwV 1 hts (jx_gV wwX_good wX_403 wX_255 wX_256 wX_252 wX_257) rfl rfl rfl (by decide +kernel) ⟨Nat.le_of_ble_eq_true rfl, Nat.le_of_ble_eq_true rfl⟩) 6 (ci := 11) (T := TX8) (N := 4) rfl rfl rfl hl.1 rfl (Nat.le_of_ble_eq_true rfl) dX6_endChunk_21 ⟨Nat.le_of_ble_eq_true rfl, Nat.le_of_ble_eq_true rfl⟩ (fun u23 u24 u25 u26 H locs ce q hp hw h1 h2 h3 => by obtain ⟨ht0, rfl, rfl, rfl⟩ := hp; exact kt _ _ _ _ _ _ _ _ _ _ _ ⟨(hk_frT hk_fr0 (by decide) ht0), rfl, rfl, rfl⟩ hw h1 h2 h3) (fun g28 l29 a30 b31 H locs hp32 hw => ?_)
    obtain ⟨h33, rfl, rfl, rfl, h37⟩ := hp32
    exact False.elim h37

set_option maxHeartbeats 4000000 in
set_option maxRecDepth 100000 in
/-- X6_readChunks on (25,) -/
theorem jx_X6_readChunks (l : Launch) (hlt : l.stackTraces = false) (D : va_G) (t3 : Nat × Nat × Nat) (cI cJ : ClassId) (ad : Nat → Nat) (g : Nat → Int32) (lg : Nat → Int64) (ar : Nat → Nat → Int32) (bk : Nat → Int64) (sz : Nat) (hi_g14 : 0 ≤ (g 14).toInt ∧ (g 14).toInt ≤ 3000) (hi_g45 : 0 ≤ (g 45).toInt ∧ (g 45).toInt ≤ 3000) (hi_g21 : 0 ≤ (g 21).toInt ∧ (g 21).toInt ≤ 4) (hi_g22 : 0 ≤ (g 22).toInt ∧ (g 22).toInt ≤ 4) (hi_a0rg : hk_rg 0 255 (ar 0)) : JMv l yX6_readChunks (Cond.code yX6_readChunks cX6_readChunks 4 none :: wwX) { frames := 12, cells := 1, slots := 6, locals := 237 } t3 D xw cI cJ ad [.ref (ad 25)] (xw cI cJ ad g lg ar bk) sz 1 6 (fun g' lg' ar' bk' => hk_fr [14, 15, 16, 17, 18, 19, 20, 21, 22, 23, 24, 25, 43, 45, 46, 47, 48, 49] g g' ∧ hk_fr [0, 1, 2] lg lg' ∧ hk_fr [1, 2, 6] ar ar' ∧ True ∧ (0 ≤ (g' 14).toInt ∧ (g' 14).toInt ≤ 3000) ∧ (0 ≤ (g' 45).toInt ∧ (g' 45).toInt ≤ 3000) ∧ (0 ≤ (g' 21).toInt ∧ (g' 21).toInt ≤ 4) ∧ (0 ≤ (g' 22).toInt ∧ (g' 22).toInt ≤ 4)) (fun g' lg' ar' bk' => hk_fr [14, 15, 16, 17, 18, 19, 20, 21, 22, 23, 24, 25, 43, 45, 46, 47, 48, 49] g g' ∧ hk_fr [0, 1, 2] lg lg' ∧ hk_fr [1, 2, 6] ar ar' ∧ True ∧ (0 ≤ (g' 14).toInt ∧ (g' 14).toInt ≤ 3000) ∧ (0 ≤ (g' 45).toInt ∧ (g' 45).toInt ≤ 3000) ∧ (0 ≤ (g' 21).toInt ∧ (g' 21).toInt ≤ 4) ∧ (0 ≤ (g' 22).toInt ∧ (g' 22).toInt ≤ 4)) := by
  refine jx_metv (cc := cX6_readChunks) (maxL := 4) (ret := none) rfl (by decide) rfl (Nat.le_of_ble_eq_true rfl) ?_
  intro p e s m args below meth c ls Q A hx hb hml hown hts hA hZ hw hl hQ kr kt
  have hq : ∀ w ∈ wwX, w.before args s = true := fun w h => hts w (List.mem_cons_of_mem _ h)
  have hl : lv_has ls 4 [(0, .ref (ad 25))] := hl
  refine lv_aload_n hx hb dX6_readChunks_0 rfl (lv_at hl 0 rfl) ?_
  refine lv_aload_n hx hb dX6_readChunks_1 rfl (lv_at hl 0 rfl) ?_
  refine hk_get (ci := 9) (C := RX6) (T := TX6) (N := 16) (v := .ref (ad 4)) hx hb hts (fun _ h => List.mem_cons_of_mem _ (wwXc_wsX60 _ h)) hown hw 25 rfl rfl 1 (by decide) (hq _ wX_410) rfl dX6_readChunks_2 ?_
  refine hk_get (ci := 12) (C := RX9) (T := TX9) (N := 2) (v := .int (g 14)) hx hb hts (fun _ h => List.mem_cons_of_mem _ (wwXc_wsX90 _ h)) hown hw 4 rfl rfl 1 (by decide) (hq _ wX_402) rfl dX6_readChunks_5 ?_
  refine jx_putg xw (g := g) (lg := lg) (ar := ar) (bk := bk) (x := (g 14)) 45 (ci := 9) (C := RX6) (T := TX6) (N := 16) (ty := .int) hx hb hts (fun _ h => List.mem_cons_of_mem _ (wwXc_wsX60 _ h)) tyX6 tyX6_ok nmX6 hown hw 25 rfl rfl 11 (by decide) (hq _ wX_432) rfl (by decide +kernel) rfl rfl (Nat.le_of_ble_eq_true rfl) dX6_readChunks_8 rfl (fun H locs g1 h_g1 hw => ?_)
  refine lv_aload_n hx hb dX6_readChunks_11 rfl (lv_at hl 0 rfl) ?_
  refine lv_aload_n hx hb dX6_readChunks_12 rfl (lv_at hl 0 rfl) ?_
  refine hk_get (ci := 9) (C := RX6) (T := TX6) (N := 16) (v := .ref (ad 4)) hx hb hts (fun _ h => List.mem_cons_of_mem _ (wwXc_wsX60 _ h)) hown hw 25 rfl rfl 1 (by decide) (hq _ wX_410) rfl dX6_readChunks_13 ?_
  have e_g1_14 : g1 14 = (g 14) := (hk_upgN h_g1 14 rfl)
  refine hk_get (ci := 12) (C := RX9) (T := TX9) (N := 2) (v := .int (g 14)) hx hb hts (fun _ h => List.mem_cons_of_mem _ (wwXc_wsX90 _ h)) hown hw 4 rfl rfl 1 (by decide) (hq _ wX_402) (congrArg (fun z => some (Value.int z)) e_g1_14) dX6_readChunks_16 ?_
  refine jx_putg xw (g := g1) (lg := lg) (ar := ar) (bk := bk) (x := (g 14)) 43 (ci := 9) (C := RX6) (T := TX6) (N := 16) (ty := .int) hx hb hts (fun _ h => List.mem_cons_of_mem _ (wwXc_wsX60 _ h)) tyX6 tyX6_ok nmX6 hown hw 25 rfl rfl 9 (by decide) (hq _ wX_422) rfl (by decide +kernel) rfl rfl (Nat.le_of_ble_eq_true rfl) dX6_readChunks_19 rfl (fun H locs g2 h_g2 hw => ?_)
  refine lv_aload_n hx hb dX6_readChunks_22 rfl (lv_at hl 0 rfl) ?_
  refine lv_aload_n hx hb dX6_readChunks_23 rfl (lv_at hl 0 rfl) ?_
  refine hk_get (ci := 9) (C := RX6) (T := TX6) (N := 16) (v := .ref (ad 6)) hx hb hts (fun _ h => List.mem_cons_of_mem _ (wwXc_wsX60 _ h)) hown hw 25 rfl rfl 0 (by decide) (hq _ wX_399) rfl dX6_readChunks_24 ?_
  have e_g2_15 : g2 15 = (g 15) := ((hk_upgN h_g2 15 rfl)).trans (hk_upgN h_g1 15 rfl)
  refine hk_get (ci := 11) (C := RX8) (T := TX8) (N := 4) (v := .int (g 15)) hx hb hts (fun _ h => List.mem_cons_of_mem _ (wwXc_wsX80 _ h)) hown hw 6 rfl rfl 1 (by decide) (hq _ wX_400) (congrArg (fun z => some (Value.int z)) e_g2_15) dX6_readChunks_27 ?_
  refine jx_putg xw (g := g2) (lg := lg) (ar := ar) (bk := bk) (x := (g 15)) 46 (ci := 9) (C := RX6) (T := TX6) (N := 16) (ty := .int) hx hb hts (fun _ h => List.mem_cons_of_mem _ (wwXc_wsX60 _ h)) tyX6 tyX6_ok nmX6 hown hw 25 rfl rfl 12 (by decide) (hq _ wX_504) rfl (by decide +kernel) rfl rfl (Nat.le_of_ble_eq_true rfl) dX6_readChunks_30 rfl (fun H locs g3 h_g3 hw => ?_)
  refine lv_aload_n hx hb dX6_readChunks_33 rfl (lv_at hl 0 rfl) ?_
  refine lv_iconst (v := 0) hx hb dX6_readChunks_34 (by decide) ?_
  refine jx_putg xw (g := g3) (lg := lg) (ar := ar) (bk := bk) (x := 0) 48 (ci := 9) (C := RX6) (T := TX6) (N := 16) (ty := .int) hx hb hts (fun _ h => List.mem_cons_of_mem _ (wwXc_wsX60 _ h)) tyX6 tyX6_ok nmX6 hown hw 25 rfl rfl 14 (by decide) (hq _ wX_433) rfl (by decide +kernel) rfl rfl (Nat.le_of_ble_eq_true rfl) dX6_readChunks_35 rfl (fun H locs g4 h_g4 hw => ?_)
  refine lv_aload_n hx hb dX6_readChunks_38 rfl (lv_at hl 0 rfl) ?_
  refine hk_get (ci := 9) (C := RX6) (T := TX6) (N := 16) (v := .ref (ad 9)) hx hb hts (fun _ h => List.mem_cons_of_mem _ (wwXc_wsX60 _ h)) hown hw 25 rfl rfl 2 (by decide) (hq _ wX_413) rfl dX6_readChunks_39 ?_
  have e_g4_21 : g4 21 = (g 21) := ((hk_upgN h_g4 21 rfl)).trans (((hk_upgN h_g3 21 rfl)).trans (((hk_upgN h_g2 21 rfl)).trans (hk_upgN h_g1 21 rfl)))
  have e_g4_22 : g4 22 = (g 22) := ((hk_upgN h_g4 22 rfl)).trans (((hk_upgN h_g3 22 rfl)).trans (((hk_upgN h_g2 22 rfl)).trans (hk_upgN h_g1 22 rfl)))
  refine jx_Vv (As := []) (rest := []) ⟨hx, hb, hml, hown, hts⟩ hZ hw hA (jx_X5_reset l hlt D t3 cI cJ ad g4 lg ar bk _ (ob82 ((g4 21).toInt) ((g 21).toInt) (congrArg Int32.toInt e_g4_21) hi_g21 (hE_rng (g4 21)) (hE_rng (g 21))) (ob82 ((g4 22).toInt) ((g 22).toInt) (congrArg Int32.toInt e_g4_22) hi_g22 (hE_rng (g4 22)) (hE_rng (g 22)))) (cwV 0 hts (jx_gV wwX_good wX_418 wX_419 wX_420 wX_215 wX_421) rfl rfl rfl (by decide +kernel) ⟨Nat.le_of_ble_eq_true rfl, Nat.le_of_ble_eq_true rfl⟩) 9 (ci := 8) (T := TX5) (N := 6) rfl rfl rfl hl.1 rfl (Nat.le_of_ble_eq_true rfl) dX6_readChunks_42 ⟨Nat.le_of_ble_eq_true rfl, Nat.le_of_ble_eq_true rfl⟩ (fun _ _ _ _ _ _ _ _ hp _ _ _ _ => hp.elim) (fun g10 l11 a12 b13 H locs hp14 hw => ?_)
  obtain ⟨h15, rfl, h17, -⟩ := hp14
  refine lv_iconst (v := 3) hx hb dX6_readChunks_45 (by decide) ?_
  refine lv_istore_n (lv' := [(1, .int 3), (0, .ref (ad 25))]) hx hb dX6_readChunks_46 rfl hl (by decide) rfl (fun ls hl => ?_)
  refine lv_aload_n hx hb dX6_readChunks_47 rfl (lv_at hl 1 rfl) ?_
  refine hk_get (ci := 9) (C := RX6) (T := TX6) (N := 16) (v := .ref (ad 6)) hx hb hts (fun _ h => List.mem_cons_of_mem _ (wwXc_wsX60 _ h)) hown hw 25 rfl rfl 0 (by decide) (hq _ wX_399) rfl dX6_readChunks_48 ?_
  refine jx_Vi (As := []) (rest := []) ⟨hx, hb, hml, hown, hts⟩ hZ hw hA (jx_X8_next l hlt D t3 cI cJ ad g10 lg a12 b13 _ (hk_pE (P := hk_rg 0 255) hi_a0rg (h17 0 rfl))) (cwV 0 hts (jx_gV wwX_good wX_430 wX_250 wX_251 wX_252 wX_253) rfl rfl rfl (by decide +kernel) ⟨Nat.le_of_ble_eq_true rfl, Nat.le_of_ble_eq_true rfl⟩) 6 (ci := 11) (T := TX8) (N := 4) rfl rfl rfl hl.1 rfl (Nat.le_of_ble_eq_true rfl) dX6_readChunks_51 ⟨Nat.le_of_ble_eq_true rfl, Nat.le_of_ble_eq_true rfl⟩ (fun u19 u20 u21 u22 H locs ce q hp hw h1 h2 h3 => by obtain ⟨ht0, rfl, rfl, rfl⟩ := hp; have e_u19_14 : u19 14 = (g 14) := ((ht0 14 rfl)).trans (((h15 14 rfl)).trans (((hk_upgN h_g4 14 rfl)).trans (((hk_upgN h_g3 14 rfl)).trans (((hk_upgN h_g2 14 rfl)).trans e_g1_14)))); have e_u19_45 : u19 45 = (g 14) := ((ht0 45 rfl)).trans (((h15 45 rfl)).trans (((hk_upgN h_g4 45 rfl)).trans (((hk_upgN h_g3 45 rfl)).trans (((hk_upgN h_g2 45 rfl)).trans (hk_upgS h_g1))))); have e_u19_21 : u19 21 = (g 21) := ((ht0 21 rfl)).trans (((h15 21 rfl)).trans e_g4_21); have e_u19_22 : u19 22 = (g 22) := ((ht0 22 rfl)).trans (((h15 22 rfl)).trans e_g4_22); exact kt _ _ _ _ _ _ _ _ _ _ _ ⟨(hk_frT (hk_frT (hk_frG (hk_frG (hk_frG (hk_frG hk_fr0 (by decide) h_g1) (by decide) h_g2) (by decide) h_g3) (by decide) h_g4) (by decide) h15) (by decide) ht0), hk_fr0, (hk_frT hk_fr0 (by decide) h17), trivial, (ob452 ((u19 14).toInt) ((g 14).toInt) ((g1 14).toInt) (congrArg Int32.toInt e_u19_14) hi_g14 (congrArg Int32.toInt e_g1_14) (hE_rng (u19 14)) (hE_rng (g 14)) (hE_rng (g1 14))), (ob478 ((u19 45).toInt) ((g 14).toInt) ((g1 14).toInt) ((u19 14).toInt) (congrArg Int32.toInt e_u19_45) hi_g14 (congrArg Int32.toInt e_g1_14) (congrArg Int32.toInt e_u19_14) (hE_rng (u19 45)) (hE_rng (g 14)) (hE_rng (g1 14)) (hE_rng (u19 14))), (ob380 ((u19 21).toInt) ((g 21).toInt) ((g4 21).toInt) (congrArg Int32.toInt e_u19_21) hi_g21 (congrArg Int32.toInt e_g4_21) (hE_rng (u19 21)) (hE_rng (g 21)) (hE_rng (g4 21))), (ob380 ((u19 22).toInt) ((g 22).toInt) ((g4 22).toInt) (congrArg Int32.toInt e_u19_22) hi_g22 (congrArg Int32.toInt e_g4_22) (hE_rng (u19 22)) (hE_rng (g 22)) (hE_rng (g4 22)))⟩ hw h1 h2 h3) (fun r23 g24 l25 a26 b27 H locs hp28 hw => ?_)
  obtain ⟨h29, rfl, rfl, rfl, h33⟩ := hp28
  refine lv_istore_n (lv' := [(2, .int r23), (1, .int 3), (0, .ref (ad 25))]) hx hb dX6_readChunks_54 rfl hl (by decide) rfl (fun ls hl => ?_)
  refine lv_iconst (v := 0) hx hb dX6_readChunks_55 (by decide) ?_
  refine lv_istore_n (lv' := [(3, .int 0), (2, .int r23), (1, .int 3), (0, .ref (ad 25))]) hx hb dX6_readChunks_56 rfl hl (by decide) rfl (fun ls hl => ?_)
  have B34 : ∀ (k42 : Nat) (x35 : Int32) (x36 : Int32) (x37 : Int32) (g38 : Nat → Int32) (l39 : Nat → Int64) (a40 : Nat → Nat → Int32) (b41 : Nat → Int64) (ls : Array Slot) (H : Heap) (locs : List Loc), (2147483648 - (x37).toInt ≤ (k42 : Int)) → (0 ≤ (x37).toInt) → (0 ≤ (g38 14).toInt ∧ (g38 14).toInt ≤ 3000) → (0 ≤ (g38 21).toInt ∧ (g38 21).toInt ≤ 4) → (0 ≤ (g38 22).toInt ∧ (g38 22).toInt ≤ 4) → (hk_fr [14, 15, 16, 17, 18, 19, 20, 21, 22, 23, 24, 25, 43, 47, 48] g24 g38) → (hk_fr [0, 1, 2] lg l39) → (hk_fr [1, 2, 6] a12 a40) → hk_W D (jT cI cJ) A s H locs (xw cI cJ ad g38 l39 a40 b41) → lv_has ls 4 [(0, .ref (ad 25)), (1, .int x35), (2, .int x36), (3, .int x37)] → W p l e { frames := 12, cells := 1, slots := 6, locals := 237 } s m args below meth c H locs 0 0 Q (F0 m 57 ls []) := by
    intro k42
    induction k42 with
    | zero =>
      intro x35 x36 x37 g38 l39 a40 b41 ls H locs hrk_B34 hf_B34_0 hf_B34_1 hf_B34_2 hf_B34_3 hfr_g38 hfr_l39 hfr_a40 hw hl
      exact False.elim (hk_no0 (0 * (x37).toInt) (ob5 ((x37).toInt) hf_B34_0 hrk_B34 (hE_rng (x37))) (by simp))
    | succ k42 ih_B34 =>
      intro x35 x36 x37 g38 l39 a40 b41 ls H locs hrk_B34 hf_B34_0 hf_B34_1 hf_B34_2 hf_B34_3 hfr_g38 hfr_l39 hfr_a40 hw hl
      have hrk_B34 := hk_rk hrk_B34
      refine lv_iload_n hx hb dX6_readChunks_57 rfl (lv_at hl 3 rfl) ?_
      refine lv_sipush (v := 1500) hx hb dX6_readChunks_58 (by decide) ?_
      have B43 : ∀  (ls : Array Slot) (H : Heap) (locs : List Loc), hk_W D (jT cI cJ) A s H locs (xw cI cJ ad g38 l39 a40 b41) → lv_has ls 4 [(0, .ref (ad 25))] → W p l e { frames := 12, cells := 1, slots := 6, locals := 237 } s m args below meth c H locs 0 0 Q (F0 m 151 ls []) := by
        intro ls H locs hw hl
        refine lv_aload_n hx hb dX6_readChunks_151 rfl (lv_at hl 0 rfl) ?_
        refine lv_aload_n hx hb dX6_readChunks_152 rfl (lv_at hl 0 rfl) ?_
        refine hk_get (ci := 9) (C := RX6) (T := TX6) (N := 16) (v := .ref (ad 6)) hx hb hts (fun _ h => List.mem_cons_of_mem _ (wwXc_wsX60 _ h)) hown hw 25 rfl rfl 0 (by decide) (hq _ wX_399) rfl dX6_readChunks_153 ?_
        refine hk_get (ci := 11) (C := RX8) (T := TX8) (N := 4) (v := .int (g38 15)) hx hb hts (fun _ h => List.mem_cons_of_mem _ (wwXc_wsX80 _ h)) hown hw 6 rfl rfl 1 (by decide) (hq _ wX_400) rfl dX6_readChunks_156 ?_
        refine lv_aload_n hx hb dX6_readChunks_159 rfl (lv_at hl 0 rfl) ?_
        have e_g38_46 : g38 46 = (g 15) := ((hfr_g38 46 rfl)).trans (((h29 46 rfl)).trans (((h15 46 rfl)).trans (((hk_upgN h_g4 46 rfl)).trans (hk_upgS h_g3))))
        refine hk_get (ci := 9) (C := RX6) (T := TX6) (N := 16) (v := .int (g 15)) hx hb hts (fun _ h => List.mem_cons_of_mem _ (wwXc_wsX60 _ h)) hown hw 25 rfl rfl 12 (by decide) (hq _ wX_504) (congrArg (fun z => some (Value.int z)) e_g38_46) dX6_readChunks_160 ?_
        refine lv_isub hx hb dX6_readChunks_163 (jx_nm fun z44 hz44 => ?_)
        refine jx_putg xw (g := g38) (lg := l39) (ar := a40) (bk := b41) (x := z44) 49 (ci := 9) (C := RX6) (T := TX6) (N := 16) (ty := .int) hx hb hts (fun _ h => List.mem_cons_of_mem _ (wwXc_wsX60 _ h)) tyX6 tyX6_ok nmX6 hown hw 25 rfl rfl 15 (by decide) (hq _ wX_431) rfl (by decide +kernel) rfl rfl (Nat.le_of_ble_eq_true rfl) dX6_readChunks_164 rfl (fun H locs g45 h_g45 hw => ?_)
        have e_g45_14 : g45 14 = (g38 14) := (hk_upgN h_g45 14 rfl)
        have e_g45_45 : g45 45 = (g 14) := ((hk_upgN h_g45 45 rfl)).trans (((hfr_g38 45 rfl)).trans (((h29 45 rfl)).trans (((h15 45 rfl)).trans (((hk_upgN h_g4 45 rfl)).trans (((hk_upgN h_g3 45 rfl)).trans (((hk_upgN h_g2 45 rfl)).trans (hk_upgS h_g1)))))))
        have e_g45_21 : g45 21 = (g38 21) := (hk_upgN h_g45 21 rfl)
        have e_g45_22 : g45 22 = (g38 22) := (hk_upgN h_g45 22 rfl)
        exact kr g45 l39 a40 b41 _ _ _ _ ⟨(hk_frG (hk_frT (hk_frT (hk_frT (hk_frG (hk_frG (hk_frG (hk_frG hk_fr0 (by decide) h_g1) (by decide) h_g2) (by decide) h_g3) (by decide) h_g4) (by decide) h15) (by decide) h29) (by decide) hfr_g38) (by decide) h_g45), hfr_l39, (hk_frT (hk_frT hk_fr0 (by decide) h17) (by decide) hfr_a40), trivial, (ob451 ((g45 14).toInt) ((g38 14).toInt) (congrArg Int32.toInt e_g45_14) hf_B34_1 (hE_rng (g45 14)) (hE_rng (g38 14))), (ob452 ((g45 45).toInt) ((g 14).toInt) ((g1 14).toInt) (congrArg Int32.toInt e_g45_45) hi_g14 (congrArg Int32.toInt e_g1_14) (hE_rng (g45 45)) (hE_rng (g 14)) (hE_rng (g1 14))), (ob82 ((g45 21).toInt) ((g38 21).toInt) (congrArg Int32.toInt e_g45_21) hf_B34_2 (hE_rng (g45 21)) (hE_rng (g38 21))), (ob82 ((g45 22).toInt) ((g38 22).toInt) (congrArg Int32.toInt e_g45_22) hf_B34_3 (hE_rng (g45 22)) (hE_rng (g38 22)))⟩ hw dX6_readChunks_167
      refine lv_icmp_ge (tgt := 151) hx hb dX6_readChunks_61 (by decide) (fun cc46 => ?_) (fun cc46 => ?_)
      · exact B43 ls _ _ hw (lv_sub hl [0] rfl)
      · refine lv_iload_n hx hb dX6_readChunks_64 rfl (lv_at hl 2 rfl) ?_
        refine lv_if_eq (tgt := 151) hx hb dX6_readChunks_65 (by decide) (fun cc47 => ?_) (fun cc47 => ?_)
        · exact B43 ls _ _ hw (lv_sub hl [0] rfl)
        · refine lv_aload_n hx hb dX6_readChunks_68 rfl (lv_at hl 0 rfl) ?_
          refine lv_iload_n hx hb dX6_readChunks_69 rfl (lv_at hl 2 rfl) ?_
          refine lv_iload_n hx hb dX6_readChunks_70 rfl (lv_at hl 1 rfl) ?_
          refine jx_Vv (As := [.int x36, .int x35]) (rest := []) ⟨hx, hb, hml, hown, hts⟩ hZ hw hA (jx_X6_judgeControl l hlt D t3 cI cJ ad g38 l39 a40 b41 _ x36 x35) (cwV 2 hts (jx_gV wwX_good wX_505 wX_506 wX_507 wX_441 wX_508) rfl rfl rfl (by decide +kernel) ⟨Nat.le_of_ble_eq_true rfl, Nat.le_of_ble_eq_true rfl⟩) 25 (ci := 9) (T := TX6) (N := 16) rfl rfl rfl hl.1 rfl (Nat.le_of_ble_eq_true rfl) dX6_readChunks_71 ⟨Nat.le_of_ble_eq_true rfl, Nat.le_of_ble_eq_true rfl⟩ (fun u48 u49 u50 u51 H locs ce q hp hw h1 h2 h3 => by obtain ⟨ht0, rfl, rfl, rfl⟩ := hp; have e_u48_14 : u48 14 = (g38 14) := (ht0 14 rfl); have e_u48_45 : u48 45 = (g 14) := ((ht0 45 rfl)).trans (((hfr_g38 45 rfl)).trans (((h29 45 rfl)).trans (((h15 45 rfl)).trans (((hk_upgN h_g4 45 rfl)).trans (((hk_upgN h_g3 45 rfl)).trans (((hk_upgN h_g2 45 rfl)).trans (hk_upgS h_g1))))))); have e_u48_21 : u48 21 = (g38 21) := (ht0 21 rfl); have e_u48_22 : u48 22 = (g38 22) := (ht0 22 rfl); exact kt _ _ _ _ _ _ _ _ _ _ _ ⟨(hk_frT (hk_frT (hk_frT (hk_frT (hk_frG (hk_frG (hk_frG (hk_frG hk_fr0 (by decide) h_g1) (by decide) h_g2) (by decide) h_g3) (by decide) h_g4) (by decide) h15) (by decide) h29) (by decide) hfr_g38) (by decide) ht0), hfr_l39, (hk_frT (hk_frT hk_fr0 (by decide) h17) (by decide) hfr_a40), trivial, (ob451 ((u48 14).toInt) ((g38 14).toInt) (congrArg Int32.toInt e_u48_14) hf_B34_1 (hE_rng (u48 14)) (hE_rng (g38 14))), (ob452 ((u48 45).toInt) ((g 14).toInt) ((g1 14).toInt) (congrArg Int32.toInt e_u48_45) hi_g14 (congrArg Int32.toInt e_g1_14) (hE_rng (u48 45)) (hE_rng (g 14)) (hE_rng (g1 14))), (ob82 ((u48 21).toInt) ((g38 21).toInt) (congrArg Int32.toInt e_u48_21) hf_B34_2 (hE_rng (u48 21)) (hE_rng (g38 21))), (ob82 ((u48 22).toInt) ((g38 22).toInt) (congrArg Int32.toInt e_u48_22) hf_B34_3 (hE_rng (u48 22)) (hE_rng (g38 22)))⟩ hw h1 h2 h3) (fun g53 l54 a55 b56 H locs hp57 hw => ?_)
          obtain ⟨h58, rfl, rfl, rfl⟩ := hp57
          have hr62 : hk_rg 0 255 (a40 0) := (hk_pE (P := hk_rg 0 255) (hk_pE (P := hk_rg 0 255) hi_a0rg (h17 0 rfl)) (hfr_a40 0 rfl))
          refine lv_iload_n hx hb dX6_readChunks_74 rfl (lv_at hl 2 rfl) ?_
          refine lv_sipush (v := 128) hx hb dX6_readChunks_75 (by decide) ?_
          have B63 : ∀  (x64 : Int32) (g65 : Nat → Int32) (l66 : Nat → Int64) (a67 : Nat → Nat → Int32) (b68 : Nat → Int64) (ls : Array Slot) (H : Heap) (locs : List Loc), (0 ≤ (g65 14).toInt ∧ (g65 14).toInt ≤ 3000) → (0 ≤ (g65 21).toInt ∧ (g65 21).toInt ≤ 4) → (0 ≤ (g65 22).toInt ∧ (g65 22).toInt ≤ 4) → (hk_fr [14, 15, 16, 17, 18, 19, 20, 21, 22, 23, 24, 25, 43, 47] g53 g65) → (hk_fr [0, 1, 2] l39 l66) → (hk_fr [1, 2, 6] a40 a67) → hk_W D (jT cI cJ) A s H locs (xw cI cJ ad g65 l66 a67 b68) → lv_has ls 4 [(0, .ref (ad 25)), (1, .int x64), (3, .int x37)] → W p l e { frames := 12, cells := 1, slots := 6, locals := 237 } s m args below meth c H locs 0 0 Q (F0 m 127 ls []) := by
            intro x64 g65 l66 a67 b68 ls H locs hf_B63_0 hf_B63_1 hf_B63_2 hfr_g65 hfr_l66 hfr_a67 hw hl
            refine lv_aload_n hx hb dX6_readChunks_127 rfl (lv_at hl 0 rfl) ?_
            refine lv_dup hx hb dX6_readChunks_128 rfl ?_
            have e_g65_48 : g65 48 = (g38 48) := ((hfr_g65 48 rfl)).trans (h58 48 rfl)
            refine hk_get (ci := 9) (C := RX6) (T := TX6) (N := 16) (v := .int (g38 48)) hx hb hts (fun _ h => List.mem_cons_of_mem _ (wwXc_wsX60 _ h)) hown hw 25 rfl rfl 14 (by decide) (hq _ wX_433) (congrArg (fun z => some (Value.int z)) e_g65_48) dX6_readChunks_129 ?_
            refine lv_iconst (v := 1) hx hb dX6_readChunks_132 (by decide) ?_
            refine lv_iadd hx hb dX6_readChunks_133 (jx_nm fun z69 hz69 => ?_)
            refine jx_putg xw (g := g65) (lg := l66) (ar := a67) (bk := b68) (x := z69) 48 (ci := 9) (C := RX6) (T := TX6) (N := 16) (ty := .int) hx hb hts (fun _ h => List.mem_cons_of_mem _ (wwXc_wsX60 _ h)) tyX6 tyX6_ok nmX6 hown hw 25 rfl rfl 14 (by decide) (hq _ wX_433) rfl (by decide +kernel) rfl rfl (Nat.le_of_ble_eq_true rfl) dX6_readChunks_134 rfl (fun H locs g70 h_g70 hw => ?_)
            refine lv_aload_n hx hb dX6_readChunks_137 rfl (lv_at hl 0 rfl) ?_
            refine hk_get (ci := 9) (C := RX6) (T := TX6) (N := 16) (v := .ref (ad 6)) hx hb hts (fun _ h => List.mem_cons_of_mem _ (wwXc_wsX60 _ h)) hown hw 25 rfl rfl 0 (by decide) (hq _ wX_399) rfl dX6_readChunks_138 ?_
            refine jx_Vi (As := []) (rest := []) ⟨hx, hb, hml, hown, hts⟩ hZ hw hA (jx_X8_next l hlt D t3 cI cJ ad g70 l66 a67 b68 _ (hk_pE (P := hk_rg 0 255) hr62 (hfr_a67 0 rfl))) (cwV 0 hts (jx_gV wwX_good wX_430 wX_250 wX_251 wX_252 wX_253) rfl rfl rfl (by decide +kernel) ⟨Nat.le_of_ble_eq_true rfl, Nat.le_of_ble_eq_true rfl⟩) 6 (ci := 11) (T := TX8) (N := 4) rfl rfl rfl hl.1 rfl (Nat.le_of_ble_eq_true rfl) dX6_readChunks_141 ⟨Nat.le_of_ble_eq_true rfl, Nat.le_of_ble_eq_true rfl⟩ (fun u71 u72 u73 u74 H locs ce q hp hw h1 h2 h3 => by obtain ⟨ht0, rfl, rfl, rfl⟩ := hp; have e_u71_14 : u71 14 = (g65 14) := ((ht0 14 rfl)).trans (hk_upgN h_g70 14 rfl); have e_u71_45 : u71 45 = (g 14) := ((ht0 45 rfl)).trans (((hk_upgN h_g70 45 rfl)).trans (((hfr_g65 45 rfl)).trans (((h58 45 rfl)).trans (((hfr_g38 45 rfl)).trans (((h29 45 rfl)).trans (((h15 45 rfl)).trans (((hk_upgN h_g4 45 rfl)).trans (((hk_upgN h_g3 45 rfl)).trans (((hk_upgN h_g2 45 rfl)).trans (hk_upgS h_g1)))))))))); have e_u71_21 : u71 21 = (g65 21) := ((ht0 21 rfl)).trans (hk_upgN h_g70 21 rfl); have e_u71_22 : u71 22 = (g65 22) := ((ht0 22 rfl)).trans (hk_upgN h_g70 22 rfl); exact kt _ _ _ _ _ _ _ _ _ _ _ ⟨(hk_frT (hk_frG (hk_frT (hk_frT (hk_frT (hk_frT (hk_frT (hk_frG (hk_frG (hk_frG (hk_frG hk_fr0 (by decide) h_g1) (by decide) h_g2) (by decide) h_g3) (by decide) h_g4) (by decide) h15) (by decide) h29) (by decide) hfr_g38) (by decide) h58) (by decide) hfr_g65) (by decide) h_g70) (by decide) ht0), (hk_frT hfr_l39 (by decide) hfr_l66), (hk_frT (hk_frT (hk_frT hk_fr0 (by decide) h17) (by decide) hfr_a40) (by decide) hfr_a67), trivial, (ob451 ((u71 14).toInt) ((g65 14).toInt) (congrArg Int32.toInt e_u71_14) hf_B63_0 (hE_rng (u71 14)) (hE_rng (g65 14))), (ob452 ((u71 45).toInt) ((g 14).toInt) ((g1 14).toInt) (congrArg Int32.toInt e_u71_45) hi_g14 (congrArg Int32.toInt e_g1_14) (hE_rng (u71 45)) (hE_rng (g 14)) (hE_rng (g1 14))), (ob82 ((u71 21).toInt) ((g65 21).toInt) (congrArg Int32.toInt e_u71_21) hf_B63_1 (hE_rng (u71 21)) (hE_rng (g65 21))), (ob82 ((u71 22).toInt) ((g65 22).toInt) (congrArg Int32.toInt e_u71_22) hf_B63_2 (hE_rng (u71 22)) (hE_rng (g65 22)))⟩ hw h1 h2 h3) (fun r75 g76 l77 a78 b79 H locs hp80 hw => ?_)
            obtain ⟨h81, rfl, rfl, rfl, h85⟩ := hp80
            refine lv_istore_n (lv' := [(2, .int r75), (0, .ref (ad 25)), (1, .int x64), (3, .int x37)]) hx hb dX6_readChunks_144 rfl hl (by decide) rfl (fun ls hl => ?_)
            obtain ⟨z86, hz86⟩ : ∃ z : Int32, x37 + 1 = z := ⟨_, rfl⟩
            refine lv_iinc (v := z86) (lv' := [(3, .int z86), (2, .int r75), (0, .ref (ad 25)), (1, .int x64)]) hx hb dX6_readChunks_145 hl (k := 3) rfl hz86 (by decide) rfl (fun ls hl => ?_)
            have xz86 : (z86).toInt = (x37).toInt + ((1 : Int32)).toInt := (hE_imp (hE_add hz86) (ob479 ((x37).toInt) (((1 : Int32)).toInt) (k42 : Int) (((1500 : Int32)).toInt) ((z69).toInt) ((g38 48).toInt) ((g65 48).toInt) hf_B34_0 hrk_B34 (hE_nle cc46) (hE_add hz69) (congrArg Int32.toInt e_g65_48) (hE_rng (x37)) (by decide) (by decide) (hE_rng (z69)) (hE_rng (g38 48)) (hE_rng (g65 48))))
            refine lv_goto (tgt := 57) hx hb dX6_readChunks_148 (by decide) ?_
            have e_g76_14 : g76 14 = (g65 14) := ((h81 14 rfl)).trans (hk_upgN h_g70 14 rfl)
            have e_g76_21 : g76 21 = (g65 21) := ((h81 21 rfl)).trans (hk_upgN h_g70 21 rfl)
            have e_g76_22 : g76 22 = (g65 22) := ((h81 22 rfl)).trans (hk_upgN h_g70 22 rfl)
            exact ih_B34 x64 r75 z86 g76 l66 a67 b68 ls _ _ (ob480 ((z86).toInt) (k42 : Int) ((x37).toInt) (((1 : Int32)).toInt) (((1500 : Int32)).toInt) ((z69).toInt) ((g38 48).toInt) ((g65 48).toInt) hrk_B34 xz86 hf_B34_0 (hE_nle cc46) (hE_add hz69) (congrArg Int32.toInt e_g65_48) (hE_rng (z86)) (hE_rng (x37)) (by decide) (by decide) (hE_rng (z69)) (hE_rng (g38 48)) (hE_rng (g65 48))) (ob481 ((z86).toInt) ((x37).toInt) (((1 : Int32)).toInt) (k42 : Int) (((1500 : Int32)).toInt) ((z69).toInt) ((g38 48).toInt) ((g65 48).toInt) xz86 hf_B34_0 hrk_B34 (hE_nle cc46) (hE_add hz69) (congrArg Int32.toInt e_g65_48) (hE_rng (z86)) (hE_rng (x37)) (by decide) (by decide) (hE_rng (z69)) (hE_rng (g38 48)) (hE_rng (g65 48))) (ob451 ((g76 14).toInt) ((g65 14).toInt) (congrArg Int32.toInt e_g76_14) hf_B63_0 (hE_rng (g76 14)) (hE_rng (g65 14))) (ob82 ((g76 21).toInt) ((g65 21).toInt) (congrArg Int32.toInt e_g76_21) hf_B63_1 (hE_rng (g76 21)) (hE_rng (g65 21))) (ob82 ((g76 22).toInt) ((g65 22).toInt) (congrArg Int32.toInt e_g76_22) hf_B63_2 (hE_rng (g76 22)) (hE_rng (g65 22))) (hk_frT (hk_frG (hk_frT (hk_frT hfr_g38 (by decide) h58) (by decide) hfr_g65) (by decide) h_g70) (by decide) h81) (hk_frT hfr_l39 (by decide) hfr_l66) (hk_frT hfr_a40 (by decide) hfr_a67) hw (lv_sub hl [2, 3, 1, 0] rfl)
          refine lv_icmp_ge (tgt := 104) hx hb dX6_readChunks_78 (by decide) (fun cc87 => ?_) (fun cc87 => ?_)
          · refine lv_aload_n hx hb dX6_readChunks_104 rfl (lv_at hl 0 rfl) ?_
            refine lv_aload_n hx hb dX6_readChunks_105 rfl (lv_at hl 0 rfl) ?_
            refine hk_get (ci := 9) (C := RX6) (T := TX6) (N := 16) (v := .ref (ad 4)) hx hb hts (fun _ h => List.mem_cons_of_mem _ (wwXc_wsX60 _ h)) hown hw 25 rfl rfl 1 (by decide) (hq _ wX_410) rfl dX6_readChunks_106 ?_
            have e_g53_14 : g53 14 = (g38 14) := (h58 14 rfl)
            refine hk_get (ci := 12) (C := RX9) (T := TX9) (N := 2) (v := .int (g38 14)) hx hb hts (fun _ h => List.mem_cons_of_mem _ (wwXc_wsX90 _ h)) hown hw 4 rfl rfl 1 (by decide) (hq _ wX_402) (congrArg (fun z => some (Value.int z)) e_g53_14) dX6_readChunks_109 ?_
            refine lv_aload_n hx hb dX6_readChunks_112 rfl (lv_at hl 0 rfl) ?_
            refine lv_iload_n hx hb dX6_readChunks_113 rfl (lv_at hl 2 rfl) ?_
            have e_g53_21 : g53 21 = (g38 21) := (h58 21 rfl)
            have e_g53_22 : g53 22 = (g38 22) := (h58 22 rfl)
            refine jx_Vi (As := [.int x36]) (rest := [.int (g38 14), .ref (ad 25)]) ⟨hx, hb, hml, hown, hts⟩ hZ hw hA (jx_X6_readChunkHead l hlt D t3 cI cJ ad g53 l39 a40 b41 _ x36 hr62 (ob82 ((g53 21).toInt) ((g38 21).toInt) (congrArg Int32.toInt e_g53_21) hf_B34_2 (hE_rng (g53 21)) (hE_rng (g38 21))) (ob82 ((g53 22).toInt) ((g38 22).toInt) (congrArg Int32.toInt e_g53_22) hf_B34_3 (hE_rng (g53 22)) (hE_rng (g38 22)))) (cwV 1 hts (jx_gV wwX_good wX_514 wX_515 wX_516 wX_441 wX_517) rfl rfl rfl (by decide +kernel) ⟨Nat.le_of_ble_eq_true rfl, Nat.le_of_ble_eq_true rfl⟩) 25 (ci := 9) (T := TX6) (N := 16) rfl rfl rfl hl.1 rfl (Nat.le_of_ble_eq_true rfl) dX6_readChunks_114 ⟨Nat.le_of_ble_eq_true rfl, Nat.le_of_ble_eq_true rfl⟩ (fun u88 u89 u90 u91 H locs ce q hp hw h1 h2 h3 => by obtain ⟨ht0, rfl, ht2, -, ht4, ht5⟩ := hp; have e_u88_14 : u88 14 = (g38 14) := ((ht0 14 rfl)).trans e_g53_14; have e_u88_45 : u88 45 = (g 14) := ((ht0 45 rfl)).trans (((h58 45 rfl)).trans (((hfr_g38 45 rfl)).trans (((h29 45 rfl)).trans (((h15 45 rfl)).trans (((hk_upgN h_g4 45 rfl)).trans (((hk_upgN h_g3 45 rfl)).trans (((hk_upgN h_g2 45 rfl)).trans (hk_upgS h_g1)))))))); exact kt _ _ _ _ _ _ _ _ _ _ _ ⟨(hk_frT (hk_frT (hk_frT (hk_frT (hk_frT (hk_frG (hk_frG (hk_frG (hk_frG hk_fr0 (by decide) h_g1) (by decide) h_g2) (by decide) h_g3) (by decide) h_g4) (by decide) h15) (by decide) h29) (by decide) hfr_g38) (by decide) h58) (by decide) ht0), hfr_l39, (hk_frT (hk_frT (hk_frT hk_fr0 (by decide) h17) (by decide) hfr_a40) (by decide) ht2), trivial, (ob452 ((u88 14).toInt) ((g38 14).toInt) ((g53 14).toInt) (congrArg Int32.toInt e_u88_14) hf_B34_1 (congrArg Int32.toInt e_g53_14) (hE_rng (u88 14)) (hE_rng (g38 14)) (hE_rng (g53 14))), (ob452 ((u88 45).toInt) ((g 14).toInt) ((g1 14).toInt) (congrArg Int32.toInt e_u88_45) hi_g14 (congrArg Int32.toInt e_g1_14) (hE_rng (u88 45)) (hE_rng (g 14)) (hE_rng (g1 14))), (ob348 ((u88 21).toInt) ht4 (hE_rng (u88 21))), (ob348 ((u88 22).toInt) ht5 (hE_rng (u88 22)))⟩ hw h1 h2 h3) (fun r92 g93 l94 a95 b96 H locs hp97 hw => ?_)
            obtain ⟨h98, rfl, h100, -, h102, h103⟩ := hp97
            refine lv_iadd hx hb dX6_readChunks_117 (jx_nm fun z104 hz104 => ?_)
            have e_g93_14 : g93 14 = (g38 14) := ((h98 14 rfl)).trans e_g53_14
            refine jx_Vv (As := [.int z104]) (rest := []) ⟨hx, hb, hml, hown, hts⟩ hZ hw hA (jx_X6_readBits l hlt D t3 cI cJ ad g93 l39 a95 b96 _ z104 (ob482 ((g93 14).toInt) ((g38 14).toInt) ((g53 14).toInt) ((z104).toInt) ((r92).toInt) (congrArg Int32.toInt e_g93_14) hf_B34_1 (congrArg Int32.toInt e_g53_14) (hE_add hz104) (hE_rng (g93 14)) (hE_rng (g38 14)) (hE_rng (g53 14)) (hE_rng (z104)) (hE_rng (r92))) (hk_pE (P := hk_rg 0 255) hr62 (h100 0 rfl))) (cwV 1 hts (jx_gV wwX_good wX_450 wX_451 wX_452 wX_441 wX_453) rfl rfl rfl (by decide +kernel) ⟨Nat.le_of_ble_eq_true rfl, Nat.le_of_ble_eq_true rfl⟩) 25 (ci := 9) (T := TX6) (N := 16) rfl rfl rfl hl.1 rfl (Nat.le_of_ble_eq_true rfl) dX6_readChunks_118 ⟨Nat.le_of_ble_eq_true rfl, Nat.le_of_ble_eq_true rfl⟩ (fun u105 u106 u107 u108 H locs ce q hp hw h1 h2 h3 => by obtain ⟨ht0, ht1, ht2, -, ht4⟩ := hp; have e_u105_45 : u105 45 = (g 14) := ((ht0 45 rfl)).trans (((h98 45 rfl)).trans (((h58 45 rfl)).trans (((hfr_g38 45 rfl)).trans (((h29 45 rfl)).trans (((h15 45 rfl)).trans (((hk_upgN h_g4 45 rfl)).trans (((hk_upgN h_g3 45 rfl)).trans (((hk_upgN h_g2 45 rfl)).trans (hk_upgS h_g1))))))))); have e_u105_21 : u105 21 = (g93 21) := (ht0 21 rfl); have e_u105_22 : u105 22 = (g93 22) := (ht0 22 rfl); exact kt _ _ _ _ _ _ _ _ _ _ _ ⟨(hk_frT (hk_frT (hk_frT (hk_frT (hk_frT (hk_frT (hk_frG (hk_frG (hk_frG (hk_frG hk_fr0 (by decide) h_g1) (by decide) h_g2) (by decide) h_g3) (by decide) h_g4) (by decide) h15) (by decide) h29) (by decide) hfr_g38) (by decide) h58) (by decide) h98) (by decide) ht0), (hk_frT hfr_l39 (by decide) ht1), (hk_frT (hk_frT (hk_frT (hk_frT hk_fr0 (by decide) h17) (by decide) hfr_a40) (by decide) h100) (by decide) ht2), trivial, (ob465 ((u105 14).toInt) ht4 (hE_rng (u105 14))), (ob452 ((u105 45).toInt) ((g 14).toInt) ((g1 14).toInt) (congrArg Int32.toInt e_u105_45) hi_g14 (congrArg Int32.toInt e_g1_14) (hE_rng (u105 45)) (hE_rng (g 14)) (hE_rng (g1 14))), (ob82 ((u105 21).toInt) ((g93 21).toInt) (congrArg Int32.toInt e_u105_21) h102 (hE_rng (u105 21)) (hE_rng (g93 21))), (ob82 ((u105 22).toInt) ((g93 22).toInt) (congrArg Int32.toInt e_u105_22) h103 (hE_rng (u105 22)) (hE_rng (g93 22)))⟩ hw h1 h2 h3) (fun g110 l111 a112 b113 H locs hp114 hw => ?_)
            obtain ⟨h115, h116, h117, -, h119⟩ := hp114
            have hr120 : hk_rg 0 255 (a112 0) := (hk_pE (P := hk_rg 0 255) (hk_pE (P := hk_rg 0 255) hr62 (h100 0 rfl)) (h117 0 rfl))
            refine lv_aload_n hx hb dX6_readChunks_121 rfl (lv_at hl 0 rfl) ?_
            refine jx_Vv (As := []) (rest := []) ⟨hx, hb, hml, hown, hts⟩ hZ hw hA (jx_X6_endChunk l hlt D t3 cI cJ ad g110 l111 a112 b113 _) (cwV 0 hts (jx_gV wwX_good wX_518 wX_519 wX_520 wX_441 wX_521) rfl rfl rfl (by decide +kernel) ⟨Nat.le_of_ble_eq_true rfl, Nat.le_of_ble_eq_true rfl⟩) 25 (ci := 9) (T := TX6) (N := 16) rfl rfl rfl hl.1 rfl (Nat.le_of_ble_eq_true rfl) dX6_readChunks_122 ⟨Nat.le_of_ble_eq_true rfl, Nat.le_of_ble_eq_true rfl⟩ (fun u121 u122 u123 u124 H locs ce q hp hw h1 h2 h3 => by obtain ⟨ht0, rfl, rfl, rfl⟩ := hp; have e_u121_14 : u121 14 = (g110 14) := (ht0 14 rfl); have e_u121_45 : u121 45 = (g 14) := ((ht0 45 rfl)).trans (((h115 45 rfl)).trans (((h98 45 rfl)).trans (((h58 45 rfl)).trans (((hfr_g38 45 rfl)).trans (((h29 45 rfl)).trans (((h15 45 rfl)).trans (((hk_upgN h_g4 45 rfl)).trans (((hk_upgN h_g3 45 rfl)).trans (((hk_upgN h_g2 45 rfl)).trans (hk_upgS h_g1)))))))))); have e_u121_21 : u121 21 = (g93 21) := ((ht0 21 rfl)).trans (h115 21 rfl); have e_u121_22 : u121 22 = (g93 22) := ((ht0 22 rfl)).trans (h115 22 rfl); exact kt _ _ _ _ _ _ _ _ _ _ _ ⟨(hk_frT (hk_frT (hk_frT (hk_frT (hk_frT (hk_frT (hk_frT (hk_frG (hk_frG (hk_frG (hk_frG hk_fr0 (by decide) h_g1) (by decide) h_g2) (by decide) h_g3) (by decide) h_g4) (by decide) h15) (by decide) h29) (by decide) hfr_g38) (by decide) h58) (by decide) h98) (by decide) h115) (by decide) ht0), (hk_frT hfr_l39 (by decide) h116), (hk_frT (hk_frT (hk_frT (hk_frT hk_fr0 (by decide) h17) (by decide) hfr_a40) (by decide) h100) (by decide) h117), trivial, (ob451 ((u121 14).toInt) ((g110 14).toInt) (congrArg Int32.toInt e_u121_14) h119 (hE_rng (u121 14)) (hE_rng (g110 14))), (ob452 ((u121 45).toInt) ((g 14).toInt) ((g1 14).toInt) (congrArg Int32.toInt e_u121_45) hi_g14 (congrArg Int32.toInt e_g1_14) (hE_rng (u121 45)) (hE_rng (g 14)) (hE_rng (g1 14))), (ob82 ((u121 21).toInt) ((g93 21).toInt) (congrArg Int32.toInt e_u121_21) h102 (hE_rng (u121 21)) (hE_rng (g93 21))), (ob82 ((u121 22).toInt) ((g93 22).toInt) (congrArg Int32.toInt e_u121_22) h103 (hE_rng (u121 22)) (hE_rng (g93 22)))⟩ hw h1 h2 h3) (fun g126 l127 a128 b129 H locs hp130 hw => ?_)
            obtain ⟨h131, rfl, rfl, rfl⟩ := hp130
            refine lv_iconst (v := 0) hx hb dX6_readChunks_125 (by decide) ?_
            refine lv_istore_n (lv' := [(1, .int 0), (0, .ref (ad 25)), (2, .int x36), (3, .int x37)]) hx hb dX6_readChunks_126 rfl hl (by decide) rfl (fun ls hl => ?_)
            have e_g126_14 : g126 14 = (g110 14) := (h131 14 rfl)
            have e_g126_21 : g126 21 = (g93 21) := ((h131 21 rfl)).trans (h115 21 rfl)
            have e_g126_22 : g126 22 = (g93 22) := ((h131 22 rfl)).trans (h115 22 rfl)
            exact B63 0 g126 l111 a112 b113 ls _ _ (ob451 ((g126 14).toInt) ((g110 14).toInt) (congrArg Int32.toInt e_g126_14) h119 (hE_rng (g126 14)) (hE_rng (g110 14))) (ob82 ((g126 21).toInt) ((g93 21).toInt) (congrArg Int32.toInt e_g126_21) h102 (hE_rng (g126 21)) (hE_rng (g93 21))) (ob82 ((g126 22).toInt) ((g93 22).toInt) (congrArg Int32.toInt e_g126_22) h103 (hE_rng (g126 22)) (hE_rng (g93 22))) (hk_frT (hk_frT (hk_frT hk_fr0 (by decide) h98) (by decide) h115) (by decide) h131) h116 (hk_frT (hk_frT hk_fr0 (by decide) h100) (by decide) h117) hw (lv_sub hl [1, 0, 3] rfl)
          · refine lv_aload_n hx hb dX6_readChunks_81 rfl (lv_at hl 0 rfl) ?_
            refine lv_iload_n hx hb dX6_readChunks_82 rfl (lv_at hl 2 rfl) ?_
            have e_g53_14 : g53 14 = (g38 14) := (h58 14 rfl)
            refine jx_Vv (As := [.int x36]) (rest := []) ⟨hx, hb, hml, hown, hts⟩ hZ hw hA (jx_X6_readPlain l hlt D t3 cI cJ ad g53 l39 a40 b41 _ x36 (ob451 ((g53 14).toInt) ((g38 14).toInt) (congrArg Int32.toInt e_g53_14) hf_B34_1 (hE_rng (g53 14)) (hE_rng (g38 14))) hr62) (cwV 1 hts (jx_gV wwX_good wX_509 wX_510 wX_511 wX_441 wX_512) rfl rfl rfl (by decide +kernel) ⟨Nat.le_of_ble_eq_true rfl, Nat.le_of_ble_eq_true rfl⟩) 25 (ci := 9) (T := TX6) (N := 16) rfl rfl rfl hl.1 rfl (Nat.le_of_ble_eq_true rfl) dX6_readChunks_83 ⟨Nat.le_of_ble_eq_true rfl, Nat.le_of_ble_eq_true rfl⟩ (fun u135 u136 u137 u138 H locs ce q hp hw h1 h2 h3 => by obtain ⟨ht0, rfl, ht2, rfl, ht4⟩ := hp; have e_u135_45 : u135 45 = (g 14) := ((ht0 45 rfl)).trans (((h58 45 rfl)).trans (((hfr_g38 45 rfl)).trans (((h29 45 rfl)).trans (((h15 45 rfl)).trans (((hk_upgN h_g4 45 rfl)).trans (((hk_upgN h_g3 45 rfl)).trans (((hk_upgN h_g2 45 rfl)).trans (hk_upgS h_g1)))))))); have e_u135_21 : u135 21 = (g38 21) := ((ht0 21 rfl)).trans (h58 21 rfl); have e_u135_22 : u135 22 = (g38 22) := ((ht0 22 rfl)).trans (h58 22 rfl); exact kt _ _ _ _ _ _ _ _ _ _ _ ⟨(hk_frT (hk_frT (hk_frT (hk_frT (hk_frT (hk_frG (hk_frG (hk_frG (hk_frG hk_fr0 (by decide) h_g1) (by decide) h_g2) (by decide) h_g3) (by decide) h_g4) (by decide) h15) (by decide) h29) (by decide) hfr_g38) (by decide) h58) (by decide) ht0), hfr_l39, (hk_frT (hk_frT (hk_frT hk_fr0 (by decide) h17) (by decide) hfr_a40) (by decide) ht2), trivial, (ob465 ((u135 14).toInt) ht4 (hE_rng (u135 14))), (ob452 ((u135 45).toInt) ((g 14).toInt) ((g1 14).toInt) (congrArg Int32.toInt e_u135_45) hi_g14 (congrArg Int32.toInt e_g1_14) (hE_rng (u135 45)) (hE_rng (g 14)) (hE_rng (g1 14))), (ob82 ((u135 21).toInt) ((g38 21).toInt) (congrArg Int32.toInt e_u135_21) hf_B34_2 (hE_rng (u135 21)) (hE_rng (g38 21))), (ob82 ((u135 22).toInt) ((g38 22).toInt) (congrArg Int32.toInt e_u135_22) hf_B34_3 (hE_rng (u135 22)) (hE_rng (g38 22)))⟩ hw h1 h2 h3) (fun g140 l141 a142 b143 H locs hp144 hw => ?_)
            obtain ⟨h145, rfl, h147, rfl, h149⟩ := hp144
            refine lv_iload_n hx hb dX6_readChunks_86 rfl (lv_at hl 2 rfl) ?_
            refine lv_iconst (v := 1) hx hb dX6_readChunks_87 (by decide) ?_
            have B150 : ∀  (x151 : Int32) (ls : Array Slot) (H : Heap) (locs : List Loc), hk_W D (jT cI cJ) A s H locs (xw cI cJ ad g140 l39 a142 b41) → lv_has ls 4 [(0, .ref (ad 25)), (3, .int x37)] → W p l e { frames := 12, cells := 1, slots := 6, locals := 237 } s m args below meth c H locs 0 0 Q (F0 m 100 ls [.int x151]) := by
              intro x151 ls H locs hw hl
              refine lv_istore_n (lv' := [(1, .int x151), (0, .ref (ad 25)), (3, .int x37)]) hx hb dX6_readChunks_100 rfl hl (by decide) rfl (fun ls hl => ?_)
              refine lv_goto (tgt := 127) hx hb dX6_readChunks_101 (by decide) ?_
              have e_g140_21 : g140 21 = (g38 21) := ((h145 21 rfl)).trans (h58 21 rfl)
              have e_g140_22 : g140 22 = (g38 22) := ((h145 22 rfl)).trans (h58 22 rfl)
              exact B63 x151 g140 l39 a142 b41 ls _ _ (ob465 ((g140 14).toInt) h149 (hE_rng (g140 14))) (ob82 ((g140 21).toInt) ((g38 21).toInt) (congrArg Int32.toInt e_g140_21) hf_B34_2 (hE_rng (g140 21)) (hE_rng (g38 21))) (ob82 ((g140 22).toInt) ((g38 22).toInt) (congrArg Int32.toInt e_g140_22) hf_B34_3 (hE_rng (g140 22)) (hE_rng (g38 22))) (hk_frT hk_fr0 (by decide) h145) hk_fr0 (hk_frT hk_fr0 (by decide) h147) hw (lv_sub hl [1, 0, 2] rfl)
            refine lv_icmp_ne (tgt := 95) hx hb dX6_readChunks_88 (by decide) (fun cc152 => ?_) (fun cc152 => ?_)
            · refine lv_iload_n hx hb dX6_readChunks_95 rfl (lv_at hl 1 rfl) ?_
              refine lv_iconst (v := 1) hx hb dX6_readChunks_96 (by decide) ?_
              refine va_mmax hx hb (by rw [hml]; exact hl.1.symm) hown (hq _ wX_513) (hq _ wX_142) (hq _ wX_143) (hq _ wX_144) (Nat.le_of_ble_eq_true rfl) (Nat.le_of_ble_eq_true rfl) (Nat.le_of_ble_eq_true rfl) (Nat.le_of_ble_eq_true rfl) dX6_readChunks_97 (jx_nm fun z153 hz153 => ?_)
              exact B150 z153 ls _ _ hw (lv_sub hl [0, 3] rfl)
            · refine lv_iconst (v := 2) hx hb dX6_readChunks_91 (by decide) ?_
              refine lv_goto (tgt := 100) hx hb dX6_readChunks_92 (by decide) ?_
              exact B150 2 ls _ _ hw (lv_sub hl [0, 3] rfl)
  have e_g24_14 : g24 14 = (g 14) := ((h29 14 rfl)).trans (((h15 14 rfl)).trans (((hk_upgN h_g4 14 rfl)).trans (((hk_upgN h_g3 14 rfl)).trans (((hk_upgN h_g2 14 rfl)).trans e_g1_14))))
  have e_g24_21 : g24 21 = (g 21) := ((h29 21 rfl)).trans (((h15 21 rfl)).trans e_g4_21)
  have e_g24_22 : g24 22 = (g 22) := ((h29 22 rfl)).trans (((h15 22 rfl)).trans e_g4_22)
  exact B34 (2147483648 - ((0 : Int32)).toInt).toNat 3 r23 0 g24 lg a12 b13 ls _ _ (Int.self_le_toNat _) (ob9 (((0 : Int32)).toInt) (by decide)) (ob452 ((g24 14).toInt) ((g 14).toInt) ((g1 14).toInt) (congrArg Int32.toInt e_g24_14) hi_g14 (congrArg Int32.toInt e_g1_14) (hE_rng (g24 14)) (hE_rng (g 14)) (hE_rng (g1 14))) (ob380 ((g24 21).toInt) ((g 21).toInt) ((g4 21).toInt) (congrArg Int32.toInt e_g24_21) hi_g21 (congrArg Int32.toInt e_g4_21) (hE_rng (g24 21)) (hE_rng (g 21)) (hE_rng (g4 21))) (ob380 ((g24 22).toInt) ((g 22).toInt) ((g4 22).toInt) (congrArg Int32.toInt e_g24_22) hi_g22 (congrArg Int32.toInt e_g4_22) (hE_rng (g24 22)) (hE_rng (g 22)) (hE_rng (g4 22))) hk_fr0 hk_fr0 hk_fr0 hw (lv_sub hl [3, 2, 1, 0] rfl)

set_option maxHeartbeats 4000000 in
set_option maxRecDepth 100000 in
/-- X6_noteBlock on (25,) -/
theorem jx_X6_noteBlock (l : Launch) (hlt : l.stackTraces = false) (D : va_G) (t3 : Nat × Nat × Nat) (cI cJ : ClassId) (ad : Nat → Nat) (g : Nat → Int32) (lg : Nat → Int64) (ar : Nat → Nat → Int32) (bk : Nat → Int64) (sz : Nat) (hi_g14 : 0 ≤ (g 14).toInt ∧ (g 14).toInt ≤ 3000) (hi_g45 : 0 ≤ (g 45).toInt ∧ (g 45).toInt ≤ 3000) (hi_g26 : 0 ≤ (g 26).toInt ∧ (g 26).toInt ≤ 200) (hi_a7rm : hk_rm 5 3 (-3000) 3000 (ar 7)) : JMv l yX6_noteBlock (Cond.code yX6_noteBlock cX6_noteBlock 1 none :: wwX) { frames := 1, cells := 1, slots := 6, locals := 26 } t3 D xw cI cJ ad [.ref (ad 25)] (xw cI cJ ad g lg ar bk) sz 1 6 (fun g' lg' ar' bk' => hk_fr [26] g g' ∧ lg = lg' ∧ hk_fr [7] ar ar' ∧ bk = bk' ∧ (0 ≤ (g' 26).toInt ∧ (g' 26).toInt ≤ 200) ∧ hk_rm 5 3 (-3000) 3000 (ar' 7)) (fun g' lg' ar' bk' => False) := by
  refine jx_metv (cc := cX6_noteBlock) (maxL := 1) (ret := none) rfl (by decide) rfl (Nat.le_of_ble_eq_true rfl) ?_
  intro p e s m args below meth c ls Q A hx hb hml hown hts hA hZ hw hl hQ kr kt
  have hq : ∀ w ∈ wwX, w.before args s = true := fun w h => hts w (List.mem_cons_of_mem _ h)
  have hl : lv_has ls 1 [(0, .ref (ad 25))] := hl
  refine lv_aload_n hx hb dX6_noteBlock_0 rfl (lv_at hl 0 rfl) ?_
  refine hk_get (ci := 9) (C := RX6) (T := TX6) (N := 16) (v := .ref (ad 15)) hx hb hts (fun _ h => List.mem_cons_of_mem _ (wwXc_wsX60 _ h)) hown hw 25 rfl rfl 4 (by decide) (hq _ wX_411) rfl dX6_noteBlock_1 ?_
  refine lv_aload_n hx hb dX6_noteBlock_4 rfl (lv_at hl 0 rfl) ?_
  refine hk_get (ci := 9) (C := RX6) (T := TX6) (N := 16) (v := .ref (ad 26)) hx hb hts (fun _ h => List.mem_cons_of_mem _ (wwXc_wsX60 _ h)) hown hw 25 rfl rfl 5 (by decide) (hq _ wX_423) rfl dX6_noteBlock_5 ?_
  refine hk_get (ci := 6) (C := RX3) (T := TX3) (N := 9) (v := .int (g 51)) hx hb hts (fun _ h => List.mem_cons_of_mem _ (wwXc_wsX30 _ h)) hown hw 26 rfl rfl 4 (by decide) (hq _ wX_424) rfl dX6_noteBlock_8 ?_
  refine lv_aload_n hx hb dX6_noteBlock_11 rfl (lv_at hl 0 rfl) ?_
  refine hk_get (ci := 9) (C := RX6) (T := TX6) (N := 16) (v := .ref (ad 26)) hx hb hts (fun _ h => List.mem_cons_of_mem _ (wwXc_wsX60 _ h)) hown hw 25 rfl rfl 5 (by decide) (hq _ wX_423) rfl dX6_noteBlock_12 ?_
  refine hk_get (ci := 6) (C := RX3) (T := TX3) (N := 9) (v := .int (g 52)) hx hb hts (fun _ h => List.mem_cons_of_mem _ (wwXc_wsX30 _ h)) hown hw 26 rfl rfl 5 (by decide) (hq _ wX_425) rfl dX6_noteBlock_15 ?_
  refine lv_aload_n hx hb dX6_noteBlock_18 rfl (lv_at hl 0 rfl) ?_
  refine hk_get (ci := 9) (C := RX6) (T := TX6) (N := 16) (v := .int (g 49)) hx hb hts (fun _ h => List.mem_cons_of_mem _ (wwXc_wsX60 _ h)) hown hw 25 rfl rfl 15 (by decide) (hq _ wX_431) rfl dX6_noteBlock_19 ?_
  refine lv_aload_n hx hb dX6_noteBlock_22 rfl (lv_at hl 0 rfl) ?_
  refine hk_get (ci := 9) (C := RX6) (T := TX6) (N := 16) (v := .ref (ad 4)) hx hb hts (fun _ h => List.mem_cons_of_mem _ (wwXc_wsX60 _ h)) hown hw 25 rfl rfl 1 (by decide) (hq _ wX_410) rfl dX6_noteBlock_23 ?_
  refine hk_get (ci := 12) (C := RX9) (T := TX9) (N := 2) (v := .int (g 14)) hx hb hts (fun _ h => List.mem_cons_of_mem _ (wwXc_wsX90 _ h)) hown hw 4 rfl rfl 1 (by decide) (hq _ wX_402) rfl dX6_noteBlock_26 ?_
  refine lv_aload_n hx hb dX6_noteBlock_29 rfl (lv_at hl 0 rfl) ?_
  refine hk_get (ci := 9) (C := RX6) (T := TX6) (N := 16) (v := .int (g 45)) hx hb hts (fun _ h => List.mem_cons_of_mem _ (wwXc_wsX60 _ h)) hown hw 25 rfl rfl 11 (by decide) (hq _ wX_432) rfl dX6_noteBlock_30 ?_
  refine lv_isub hx hb dX6_noteBlock_33 (jx_nm fun z1 hz1 => ?_)
  have xz1 : (z1).toInt = (g 14).toInt - (g 45).toInt := (hE_imp (hE_sub hz1) (ob483 ((g 14).toInt) ((g 45).toInt) hi_g14 hi_g45 (hE_rng (g 14)) (hE_rng (g 45))))
  refine lv_aload_n hx hb dX6_noteBlock_34 rfl (lv_at hl 0 rfl) ?_
  refine hk_get (ci := 9) (C := RX6) (T := TX6) (N := 16) (v := .int (g 48)) hx hb hts (fun _ h => List.mem_cons_of_mem _ (wwXc_wsX60 _ h)) hown hw 25 rfl rfl 14 (by decide) (hq _ wX_433) rfl dX6_noteBlock_35 ?_
  refine jx_Vv (As := [.int (g 51), .int (g 52), .int (g 49), .int z1, .int (g 48)]) (rest := []) ⟨hx, hb, hml, hown, hts⟩ hZ hw hA (jx_X4_addBlock l hlt D t3 cI cJ ad g lg ar bk _ (g 51) (g 52) (g 49) z1 (g 48) (ob484 ((z1).toInt) ((g 14).toInt) ((g 45).toInt) xz1 hi_g14 hi_g45 (hE_rng (z1)) (hE_rng (g 14)) (hE_rng (g 45))) (ob387 ((g 26).toInt) hi_g26 (hE_rng (g 26))) hi_a7rm) (cwV 5 hts (jx_gV wwX_good wX_434 wX_435 wX_436 wX_69 wX_437) rfl rfl rfl (by decide +kernel) ⟨Nat.le_of_ble_eq_true rfl, Nat.le_of_ble_eq_true rfl⟩) 15 (ci := 7) (T := TX4) (N := 4) rfl rfl rfl hl.1 rfl (Nat.le_of_ble_eq_true rfl) dX6_noteBlock_38 ⟨Nat.le_of_ble_eq_true rfl, Nat.le_of_ble_eq_true rfl⟩ (fun _ _ _ _ _ _ _ _ hp _ _ _ _ => hp.elim) (fun g7 l8 a9 b10 H locs hp11 hw => ?_)
  obtain ⟨h12, rfl, h14, rfl, h16, h17⟩ := hp11
  exact kr g7 lg a9 bk _ _ _ _ ⟨h12, rfl, h14, rfl, (ob387 ((g7 26).toInt) h16 (hE_rng (g7 26))), h17⟩ hw dX6_noteBlock_41

set_option maxHeartbeats 4000000 in
set_option maxRecDepth 100000 in
/-- X6_expect on (25,) -/
theorem jx_X6_expect (l : Launch) (hlt : l.stackTraces = false) (D : va_G) (t3 : Nat × Nat × Nat) (cI cJ : ClassId) (ad : Nat → Nat) (g : Nat → Int32) (lg : Nat → Int64) (ar : Nat → Nat → Int32) (bk : Nat → Int64) (sz : Nat) (y1 : Int32) (y2 : Int32) (hi_a0rg : hk_rg 0 255 (ar 0)) : JMv l yX6_expect (Cond.code yX6_expect cX6_expect 3 none :: wwX) { frames := 7, cells := 1, slots := 6, locals := 102 } t3 D xw cI cJ ad [.ref (ad 25), .int y1, .int y2] (xw cI cJ ad g lg ar bk) sz 1 6 (fun g' lg' ar' bk' => hk_fr [15, 17] g g' ∧ lg = lg' ∧ ar = ar' ∧ bk = bk') (fun g' lg' ar' bk' => hk_fr [15, 17] g g' ∧ lg = lg' ∧ ar = ar' ∧ bk = bk') := by
  refine jx_metv (cc := cX6_expect) (maxL := 3) (ret := none) rfl (by decide) rfl (Nat.le_of_ble_eq_true rfl) ?_
  intro p e s m args below meth c ls Q A hx hb hml hown hts hA hZ hw hl hQ kr kt
  have hq : ∀ w ∈ wwX, w.before args s = true := fun w h => hts w (List.mem_cons_of_mem _ h)
  have hl : lv_has ls 3 [(0, .ref (ad 25)), (1, .int y1), (2, .int y2)] := hl
  refine lv_aload_n hx hb dX6_expect_0 rfl (lv_at hl 0 rfl) ?_
  refine hk_get (ci := 9) (C := RX6) (T := TX6) (N := 16) (v := .ref (ad 6)) hx hb hts (fun _ h => List.mem_cons_of_mem _ (wwXc_wsX60 _ h)) hown hw 25 rfl rfl 0 (by decide) (hq _ wX_399) rfl dX6_expect_1 ?_
  refine jx_Vi (As := []) (rest := []) ⟨hx, hb, hml, hown, hts⟩ hZ hw hA (jx_X8_next l hlt D t3 cI cJ ad g lg ar bk _ hi_a0rg) (cwV 0 hts (jx_gV wwX_good wX_430 wX_250 wX_251 wX_252 wX_253) rfl rfl rfl (by decide +kernel) ⟨Nat.le_of_ble_eq_true rfl, Nat.le_of_ble_eq_true rfl⟩) 6 (ci := 11) (T := TX8) (N := 4) rfl rfl rfl hl.1 rfl (Nat.le_of_ble_eq_true rfl) dX6_expect_4 ⟨Nat.le_of_ble_eq_true rfl, Nat.le_of_ble_eq_true rfl⟩ (fun u1 u2 u3 u4 H locs ce q hp hw h1 h2 h3 => by obtain ⟨ht0, rfl, rfl, rfl⟩ := hp; exact kt _ _ _ _ _ _ _ _ _ _ _ ⟨ht0, rfl, rfl, rfl⟩ hw h1 h2 h3) (fun r5 g6 l7 a8 b9 H locs hp10 hw => ?_)
  obtain ⟨h11, rfl, rfl, rfl, h15⟩ := hp10
  refine lv_iload_n hx hb dX6_expect_7 rfl (lv_at hl 1 rfl) ?_
  refine lv_icmp_eq (tgt := 19) hx hb dX6_expect_8 (by decide) (fun cc16 => ?_) (fun cc16 => ?_)
  · exact kr g6 lg ar bk _ _ _ _ ⟨h11, rfl, rfl, rfl⟩ hw dX6_expect_19
  · refine lv_aload_n hx hb dX6_expect_11 rfl (lv_at hl 0 rfl) ?_
    refine hk_get (ci := 9) (C := RX6) (T := TX6) (N := 16) (v := .ref (ad 6)) hx hb hts (fun _ h => List.mem_cons_of_mem _ (wwXc_wsX60 _ h)) hown hw 25 rfl rfl 0 (by decide) (hq _ wX_399) rfl dX6_expect_12 ?_
    refine lv_iload_n hx hb dX6_expect_15 rfl (lv_at hl 2 rfl) ?_
    refine jx_Vv (As := [.int y2]) (rest := []) ⟨hx, hb, hml, hown, hts⟩ hZ hw hA (jx_X8_fail l hlt D t3 cI cJ ad g6 lg ar bk _ y2) (cwV 1 hts (jx_gV wwX_good wX_403 wX_255 wX_256 wX_252 wX_257) rfl rfl rfl (by decide +kernel) ⟨Nat.le_of_ble_eq_true rfl, Nat.le_of_ble_eq_true rfl⟩) 6 (ci := 11) (T := TX8) (N := 4) rfl rfl rfl hl.1 rfl (Nat.le_of_ble_eq_true rfl) dX6_expect_16 ⟨Nat.le_of_ble_eq_true rfl, Nat.le_of_ble_eq_true rfl⟩ (fun u17 u18 u19 u20 H locs ce q hp hw h1 h2 h3 => by obtain ⟨ht0, rfl, rfl, rfl⟩ := hp; exact kt _ _ _ _ _ _ _ _ _ _ _ ⟨(hk_frT h11 (by decide) ht0), rfl, rfl, rfl⟩ hw h1 h2 h3) (fun g22 l23 a24 b25 H locs hp26 hw => ?_)
    obtain ⟨h27, rfl, rfl, rfl, h31⟩ := hp26
    exact False.elim h31

set_option maxHeartbeats 4000000 in
set_option maxRecDepth 100000 in
/-- X0_isKind -/
theorem jx_X0_isKind (l : Launch) (hlt : l.stackTraces = false) (D : va_G) (t3 : Nat × Nat × Nat) (cI cJ : ClassId) (ad : Nat → Nat) (g : Nat → Int32) (lg : Nat → Int64) (ar : Nat → Nat → Int32) (bk : Nat → Int64) (sz : Nat) (y0 : Int32) : JMi l yX0_isKind (Cond.code yX0_isKind cX0_isKind 1 (some .boolean) :: wwX) { frames := 0, cells := 1, slots := 6, locals := 0 } t3 D xw cI cJ ad [.int y0] (xw cI cJ ad g lg ar bk) sz 1 6 (fun (r : Int32) g' lg' ar' bk' => g = g' ∧ lg = lg' ∧ ar = ar' ∧ bk = bk' ∧ (0 ≤ (r).toInt ∧ (r).toInt ≤ 1)) (fun g' lg' ar' bk' => False) := by
  refine jx_metz (cc := cX0_isKind) (maxL := 1) (ret := (some .boolean)) rfl (by decide) rfl (Nat.le_of_ble_eq_true rfl) ?_
  intro p e s m args below meth c ls Q A hx hb hml hown hts hA hZ hw hl hQ kr kt
  have hq : ∀ w ∈ wwX, w.before args s = true := fun w h => hts w (List.mem_cons_of_mem _ h)
  have hl : lv_has ls 1 [(0, .int y0)] := hl
  refine lv_iload_n hx hb dX0_isKind_0 rfl (lv_at hl 0 rfl) ?_
  refine lv_if_eq (tgt := 20) hx hb dX0_isKind_1 (by decide) (fun cc1 => ?_) (fun cc1 => ?_)
  · refine lv_iconst (v := 1) hx hb dX0_isKind_20 (by decide) ?_
    refine lv_goto (tgt := 25) hx hb dX0_isKind_21 (by decide) ?_
    exact kr 1 g lg ar bk _ _ _ _ rfl ⟨rfl, rfl, rfl, rfl, (ob49 (((1 : Int32)).toInt) (by decide))⟩ hw dX0_isKind_25
  · refine lv_iload_n hx hb dX0_isKind_4 rfl (lv_at hl 0 rfl) ?_
    refine lv_iconst (v := 1) hx hb dX0_isKind_5 (by decide) ?_
    refine lv_icmp_eq (tgt := 20) hx hb dX0_isKind_6 (by decide) (fun cc2 => ?_) (fun cc2 => ?_)
    · refine lv_iconst (v := 1) hx hb dX0_isKind_20 (by decide) ?_
      refine lv_goto (tgt := 25) hx hb dX0_isKind_21 (by decide) ?_
      exact kr 1 g lg ar bk _ _ _ _ rfl ⟨rfl, rfl, rfl, rfl, (ob485 (((1 : Int32)).toInt) ((y0).toInt) (((0 : Int32)).toInt) (hE_eq cc2) (hE_ne cc1) (by decide) (hE_rng (y0)) (by decide))⟩ hw dX0_isKind_25
    · refine lv_iload_n hx hb dX0_isKind_9 rfl (lv_at hl 0 rfl) ?_
      refine lv_iconst (v := 4) hx hb dX0_isKind_10 (by decide) ?_
      refine lv_icmp_eq (tgt := 20) hx hb dX0_isKind_11 (by decide) (fun cc3 => ?_) (fun cc3 => ?_)
      · refine lv_iconst (v := 1) hx hb dX0_isKind_20 (by decide) ?_
        refine lv_goto (tgt := 25) hx hb dX0_isKind_21 (by decide) ?_
        exact kr 1 g lg ar bk _ _ _ _ rfl ⟨rfl, rfl, rfl, rfl, (ob486 (((1 : Int32)).toInt) ((y0).toInt) (((0 : Int32)).toInt) (((4 : Int32)).toInt) (hE_ne cc2) (hE_ne cc1) (hE_eq cc3) (by decide) (hE_rng (y0)) (by decide) (by decide))⟩ hw dX0_isKind_25
      · refine lv_iload_n hx hb dX0_isKind_14 rfl (lv_at hl 0 rfl) ?_
        refine lv_bipush (v := 10) hx hb dX0_isKind_15 (by decide) ?_
        refine lv_icmp_ne (tgt := 24) hx hb dX0_isKind_17 (by decide) (fun cc4 => ?_) (fun cc4 => ?_)
        · refine lv_iconst (v := 0) hx hb dX0_isKind_24 (by decide) ?_
          exact kr 0 g lg ar bk _ _ _ _ rfl ⟨rfl, rfl, rfl, rfl, (ob487 (((0 : Int32)).toInt) ((y0).toInt) (((1 : Int32)).toInt) (((4 : Int32)).toInt) (((10 : Int32)).toInt) (hE_ne cc1) (hE_ne cc2) (hE_ne cc3) (hE_ne cc4) (by decide) (hE_rng (y0)) (by decide) (by decide) (by decide))⟩ hw dX0_isKind_25
        · refine lv_iconst (v := 1) hx hb dX0_isKind_20 (by decide) ?_
          refine lv_goto (tgt := 25) hx hb dX0_isKind_21 (by decide) ?_
          exact kr 1 g lg ar bk _ _ _ _ rfl ⟨rfl, rfl, rfl, rfl, (ob488 (((1 : Int32)).toInt) ((y0).toInt) (((0 : Int32)).toInt) (((4 : Int32)).toInt) (((10 : Int32)).toInt) (hE_ne cc2) (hE_ne cc1) (hE_ne cc3) (hE_eq cc4) (by decide) (hE_rng (y0)) (by decide) (by decide) (by decide))⟩ hw dX0_isKind_25

set_option maxHeartbeats 4000000 in
set_option maxRecDepth 100000 in
/-- X6_readStart on (25,) -/
theorem jx_X6_readStart (l : Launch) (hlt : l.stackTraces = false) (D : va_G) (t3 : Nat × Nat × Nat) (cI cJ : ClassId) (ad : Nat → Nat) (g : Nat → Int32) (lg : Nat → Int64) (ar : Nat → Nat → Int32) (bk : Nat → Int64) (sz : Nat) (hi_a0rg : hk_rg 0 255 (ar 0)) : JMv l yX6_readStart (Cond.code yX6_readStart cX6_readStart 1 none :: wwX) { frames := 8, cells := 1, slots := 6, locals := 126 } t3 D xw cI cJ ad [.ref (ad 25)] (xw cI cJ ad g lg ar bk) sz 1 6 (fun g' lg' ar' bk' => hk_fr [15, 17, 44] g g' ∧ lg = lg' ∧ ar = ar' ∧ bk = bk') (fun g' lg' ar' bk' => hk_fr [15, 17, 44] g g' ∧ lg = lg' ∧ ar = ar' ∧ bk = bk') := by
  refine jx_metv (cc := cX6_readStart) (maxL := 1) (ret := none) rfl (by decide) rfl (Nat.le_of_ble_eq_true rfl) ?_
  intro p e s m args below meth c ls Q A hx hb hml hown hts hA hZ hw hl hQ kr kt
  have hq : ∀ w ∈ wwX, w.before args s = true := fun w h => hts w (List.mem_cons_of_mem _ h)
  have hl : lv_has ls 1 [(0, .ref (ad 25))] := hl
  refine lv_aload_n hx hb dX6_readStart_0 rfl (lv_at hl 0 rfl) ?_
  refine lv_sipush (v := 253) hx hb dX6_readStart_1 (by decide) ?_
  refine lv_iconst (v := 2) hx hb dX6_readStart_4 (by decide) ?_
  refine jx_Vv (As := [.int 253, .int 2]) (rest := []) ⟨hx, hb, hml, hown, hts⟩ hZ hw hA (jx_X6_expect l hlt D t3 cI cJ ad g lg ar bk _ 253 2 hi_a0rg) (cwV 2 hts (jx_gV wwX_good wX_525 wX_526 wX_527 wX_441 wX_528) rfl rfl rfl (by decide +kernel) ⟨Nat.le_of_ble_eq_true rfl, Nat.le_of_ble_eq_true rfl⟩) 25 (ci := 9) (T := TX6) (N := 16) rfl rfl rfl hl.1 rfl (Nat.le_of_ble_eq_true rfl) dX6_readStart_5 ⟨Nat.le_of_ble_eq_true rfl, Nat.le_of_ble_eq_true rfl⟩ (fun u1 u2 u3 u4 H locs ce q hp hw h1 h2 h3 => by obtain ⟨ht0, rfl, rfl, rfl⟩ := hp; exact kt _ _ _ _ _ _ _ _ _ _ _ ⟨(hk_frT hk_fr0 (by decide) ht0), rfl, rfl, rfl⟩ hw h1 h2 h3) (fun g6 l7 a8 b9 H locs hp10 hw => ?_)
  obtain ⟨h11, rfl, rfl, rfl⟩ := hp10
  refine lv_aload_n hx hb dX6_readStart_8 rfl (lv_at hl 0 rfl) ?_
  refine lv_bipush (v := 55) hx hb dX6_readStart_9 (by decide) ?_
  refine lv_iconst (v := 2) hx hb dX6_readStart_11 (by decide) ?_
  refine jx_Vv (As := [.int 55, .int 2]) (rest := []) ⟨hx, hb, hml, hown, hts⟩ hZ hw hA (jx_X6_expect l hlt D t3 cI cJ ad g6 lg ar bk _ 55 2 hi_a0rg) (cwV 2 hts (jx_gV wwX_good wX_525 wX_526 wX_527 wX_441 wX_528) rfl rfl rfl (by decide +kernel) ⟨Nat.le_of_ble_eq_true rfl, Nat.le_of_ble_eq_true rfl⟩) 25 (ci := 9) (T := TX6) (N := 16) rfl rfl rfl hl.1 rfl (Nat.le_of_ble_eq_true rfl) dX6_readStart_12 ⟨Nat.le_of_ble_eq_true rfl, Nat.le_of_ble_eq_true rfl⟩ (fun u15 u16 u17 u18 H locs ce q hp hw h1 h2 h3 => by obtain ⟨ht0, rfl, rfl, rfl⟩ := hp; exact kt _ _ _ _ _ _ _ _ _ _ _ ⟨(hk_frT (hk_frT hk_fr0 (by decide) h11) (by decide) ht0), rfl, rfl, rfl⟩ hw h1 h2 h3) (fun g20 l21 a22 b23 H locs hp24 hw => ?_)
  obtain ⟨h25, rfl, rfl, rfl⟩ := hp24
  refine lv_aload_n hx hb dX6_readStart_15 rfl (lv_at hl 0 rfl) ?_
  refine lv_bipush (v := 122) hx hb dX6_readStart_16 (by decide) ?_
  refine lv_iconst (v := 2) hx hb dX6_readStart_18 (by decide) ?_
  refine jx_Vv (As := [.int 122, .int 2]) (rest := []) ⟨hx, hb, hml, hown, hts⟩ hZ hw hA (jx_X6_expect l hlt D t3 cI cJ ad g20 lg ar bk _ 122 2 hi_a0rg) (cwV 2 hts (jx_gV wwX_good wX_525 wX_526 wX_527 wX_441 wX_528) rfl rfl rfl (by decide +kernel) ⟨Nat.le_of_ble_eq_true rfl, Nat.le_of_ble_eq_true rfl⟩) 25 (ci := 9) (T := TX6) (N := 16) rfl rfl rfl hl.1 rfl (Nat.le_of_ble_eq_true rfl) dX6_readStart_19 ⟨Nat.le_of_ble_eq_true rfl, Nat.le_of_ble_eq_true rfl⟩ (fun u29 u30 u31 u32 H locs ce q hp hw h1 h2 h3 => by obtain ⟨ht0, rfl, rfl, rfl⟩ := hp; exact kt _ _ _ _ _ _ _ _ _ _ _ ⟨(hk_frT (hk_frT (hk_frT hk_fr0 (by decide) h11) (by decide) h25) (by decide) ht0), rfl, rfl, rfl⟩ hw h1 h2 h3) (fun g34 l35 a36 b37 H locs hp38 hw => ?_)
  obtain ⟨h39, rfl, rfl, rfl⟩ := hp38
  refine lv_aload_n hx hb dX6_readStart_22 rfl (lv_at hl 0 rfl) ?_
  refine lv_bipush (v := 88) hx hb dX6_readStart_23 (by decide) ?_
  refine lv_iconst (v := 2) hx hb dX6_readStart_25 (by decide) ?_
  refine jx_Vv (As := [.int 88, .int 2]) (rest := []) ⟨hx, hb, hml, hown, hts⟩ hZ hw hA (jx_X6_expect l hlt D t3 cI cJ ad g34 lg ar bk _ 88 2 hi_a0rg) (cwV 2 hts (jx_gV wwX_good wX_525 wX_526 wX_527 wX_441 wX_528) rfl rfl rfl (by decide +kernel) ⟨Nat.le_of_ble_eq_true rfl, Nat.le_of_ble_eq_true rfl⟩) 25 (ci := 9) (T := TX6) (N := 16) rfl rfl rfl hl.1 rfl (Nat.le_of_ble_eq_true rfl) dX6_readStart_26 ⟨Nat.le_of_ble_eq_true rfl, Nat.le_of_ble_eq_true rfl⟩ (fun u43 u44 u45 u46 H locs ce q hp hw h1 h2 h3 => by obtain ⟨ht0, rfl, rfl, rfl⟩ := hp; exact kt _ _ _ _ _ _ _ _ _ _ _ ⟨(hk_frT (hk_frT (hk_frT (hk_frT hk_fr0 (by decide) h11) (by decide) h25) (by decide) h39) (by decide) ht0), rfl, rfl, rfl⟩ hw h1 h2 h3) (fun g48 l49 a50 b51 H locs hp52 hw => ?_)
  obtain ⟨h53, rfl, rfl, rfl⟩ := hp52
  refine lv_aload_n hx hb dX6_readStart_29 rfl (lv_at hl 0 rfl) ?_
  refine lv_bipush (v := 90) hx hb dX6_readStart_30 (by decide) ?_
  refine lv_iconst (v := 2) hx hb dX6_readStart_32 (by decide) ?_
  refine jx_Vv (As := [.int 90, .int 2]) (rest := []) ⟨hx, hb, hml, hown, hts⟩ hZ hw hA (jx_X6_expect l hlt D t3 cI cJ ad g48 lg ar bk _ 90 2 hi_a0rg) (cwV 2 hts (jx_gV wwX_good wX_525 wX_526 wX_527 wX_441 wX_528) rfl rfl rfl (by decide +kernel) ⟨Nat.le_of_ble_eq_true rfl, Nat.le_of_ble_eq_true rfl⟩) 25 (ci := 9) (T := TX6) (N := 16) rfl rfl rfl hl.1 rfl (Nat.le_of_ble_eq_true rfl) dX6_readStart_33 ⟨Nat.le_of_ble_eq_true rfl, Nat.le_of_ble_eq_true rfl⟩ (fun u57 u58 u59 u60 H locs ce q hp hw h1 h2 h3 => by obtain ⟨ht0, rfl, rfl, rfl⟩ := hp; exact kt _ _ _ _ _ _ _ _ _ _ _ ⟨(hk_frT (hk_frT (hk_frT (hk_frT (hk_frT hk_fr0 (by decide) h11) (by decide) h25) (by decide) h39) (by decide) h53) (by decide) ht0), rfl, rfl, rfl⟩ hw h1 h2 h3) (fun g62 l63 a64 b65 H locs hp66 hw => ?_)
  obtain ⟨h67, rfl, rfl, rfl⟩ := hp66
  refine lv_aload_n hx hb dX6_readStart_36 rfl (lv_at hl 0 rfl) ?_
  refine lv_iconst (v := 0) hx hb dX6_readStart_37 (by decide) ?_
  refine lv_iconst (v := 2) hx hb dX6_readStart_38 (by decide) ?_
  refine jx_Vv (As := [.int 0, .int 2]) (rest := []) ⟨hx, hb, hml, hown, hts⟩ hZ hw hA (jx_X6_expect l hlt D t3 cI cJ ad g62 lg ar bk _ 0 2 hi_a0rg) (cwV 2 hts (jx_gV wwX_good wX_525 wX_526 wX_527 wX_441 wX_528) rfl rfl rfl (by decide +kernel) ⟨Nat.le_of_ble_eq_true rfl, Nat.le_of_ble_eq_true rfl⟩) 25 (ci := 9) (T := TX6) (N := 16) rfl rfl rfl hl.1 rfl (Nat.le_of_ble_eq_true rfl) dX6_readStart_39 ⟨Nat.le_of_ble_eq_true rfl, Nat.le_of_ble_eq_true rfl⟩ (fun u71 u72 u73 u74 H locs ce q hp hw h1 h2 h3 => by obtain ⟨ht0, rfl, rfl, rfl⟩ := hp; exact kt _ _ _ _ _ _ _ _ _ _ _ ⟨(hk_frT (hk_frT (hk_frT (hk_frT (hk_frT (hk_frT hk_fr0 (by decide) h11) (by decide) h25) (by decide) h39) (by decide) h53) (by decide) h67) (by decide) ht0), rfl, rfl, rfl⟩ hw h1 h2 h3) (fun g76 l77 a78 b79 H locs hp80 hw => ?_)
  obtain ⟨h81, rfl, rfl, rfl⟩ := hp80
  refine lv_aload_n hx hb dX6_readStart_42 rfl (lv_at hl 0 rfl) ?_
  refine lv_iconst (v := 0) hx hb dX6_readStart_43 (by decide) ?_
  refine lv_bipush (v := 8) hx hb dX6_readStart_44 (by decide) ?_
  refine jx_Vv (As := [.int 0, .int 8]) (rest := []) ⟨hx, hb, hml, hown, hts⟩ hZ hw hA (jx_X6_expect l hlt D t3 cI cJ ad g76 lg ar bk _ 0 8 hi_a0rg) (cwV 2 hts (jx_gV wwX_good wX_525 wX_526 wX_527 wX_441 wX_528) rfl rfl rfl (by decide +kernel) ⟨Nat.le_of_ble_eq_true rfl, Nat.le_of_ble_eq_true rfl⟩) 25 (ci := 9) (T := TX6) (N := 16) rfl rfl rfl hl.1 rfl (Nat.le_of_ble_eq_true rfl) dX6_readStart_46 ⟨Nat.le_of_ble_eq_true rfl, Nat.le_of_ble_eq_true rfl⟩ (fun u85 u86 u87 u88 H locs ce q hp hw h1 h2 h3 => by obtain ⟨ht0, rfl, rfl, rfl⟩ := hp; exact kt _ _ _ _ _ _ _ _ _ _ _ ⟨(hk_frT (hk_frT (hk_frT (hk_frT (hk_frT (hk_frT (hk_frT hk_fr0 (by decide) h11) (by decide) h25) (by decide) h39) (by decide) h53) (by decide) h67) (by decide) h81) (by decide) ht0), rfl, rfl, rfl⟩ hw h1 h2 h3) (fun g90 l91 a92 b93 H locs hp94 hw => ?_)
  obtain ⟨h95, rfl, rfl, rfl⟩ := hp94
  refine lv_aload_n hx hb dX6_readStart_49 rfl (lv_at hl 0 rfl) ?_
  refine lv_aload_n hx hb dX6_readStart_50 rfl (lv_at hl 0 rfl) ?_
  refine hk_get (ci := 9) (C := RX6) (T := TX6) (N := 16) (v := .ref (ad 6)) hx hb hts (fun _ h => List.mem_cons_of_mem _ (wwXc_wsX60 _ h)) hown hw 25 rfl rfl 0 (by decide) (hq _ wX_399) rfl dX6_readStart_51 ?_
  refine jx_Vi (As := []) (rest := [.ref (ad 25)]) ⟨hx, hb, hml, hown, hts⟩ hZ hw hA (jx_X8_next l hlt D t3 cI cJ ad g90 lg ar bk _ hi_a0rg) (cwV 0 hts (jx_gV wwX_good wX_430 wX_250 wX_251 wX_252 wX_253) rfl rfl rfl (by decide +kernel) ⟨Nat.le_of_ble_eq_true rfl, Nat.le_of_ble_eq_true rfl⟩) 6 (ci := 11) (T := TX8) (N := 4) rfl rfl rfl hl.1 rfl (Nat.le_of_ble_eq_true rfl) dX6_readStart_54 ⟨Nat.le_of_ble_eq_true rfl, Nat.le_of_ble_eq_true rfl⟩ (fun u99 u100 u101 u102 H locs ce q hp hw h1 h2 h3 => by obtain ⟨ht0, rfl, rfl, rfl⟩ := hp; exact kt _ _ _ _ _ _ _ _ _ _ _ ⟨(hk_frT (hk_frT (hk_frT (hk_frT (hk_frT (hk_frT (hk_frT (hk_frT hk_fr0 (by decide) h11) (by decide) h25) (by decide) h39) (by decide) h53) (by decide) h67) (by decide) h81) (by decide) h95) (by decide) ht0), rfl, rfl, rfl⟩ hw h1 h2 h3) (fun r103 g104 l105 a106 b107 H locs hp108 hw => ?_)
  obtain ⟨h109, rfl, rfl, rfl, h113⟩ := hp108
  refine jx_putg xw (g := g104) (lg := lg) (ar := ar) (bk := bk) (x := r103) 44 (ci := 9) (C := RX6) (T := TX6) (N := 16) (ty := .int) hx hb hts (fun _ h => List.mem_cons_of_mem _ (wwXc_wsX60 _ h)) tyX6 tyX6_ok nmX6 hown hw 25 rfl rfl 10 (by decide) (hq _ wX_524) rfl (by decide +kernel) rfl rfl (Nat.le_of_ble_eq_true rfl) dX6_readStart_57 rfl (fun H locs g114 h_g114 hw => ?_)
  refine lv_aload_n hx hb dX6_readStart_60 rfl (lv_at hl 0 rfl) ?_
  have e_g114_44 : g114 44 = r103 := (hk_upgS h_g114)
  refine hk_get (ci := 9) (C := RX6) (T := TX6) (N := 16) (v := .int r103) hx hb hts (fun _ h => List.mem_cons_of_mem _ (wwXc_wsX60 _ h)) hown hw 25 rfl rfl 10 (by decide) (hq _ wX_524) (congrArg (fun z => some (Value.int z)) e_g114_44) dX6_readStart_61 ?_
  refine jx_Si (As := [.int r103]) (rest := []) ⟨hx, hb, hml, hown, hts⟩ hZ hw hA (jx_X0_isKind l hlt D t3 cI cJ ad g114 lg ar bk _ r103) (va_cwS 1 hts (jx_gS wwX_good wX_555 wX_60 wX_12 wX_61) rfl rfl rfl (by decide +kernel) ⟨Nat.le_of_ble_eq_true rfl, Nat.le_of_ble_eq_true rfl⟩) rfl hl.1 rfl (Nat.le_of_ble_eq_true rfl) dX6_readStart_64 ⟨Nat.le_of_ble_eq_true rfl, Nat.le_of_ble_eq_true rfl⟩ (fun _ _ _ _ _ _ _ _ hp _ _ _ _ => hp.elim) (fun r119 g120 l121 a122 b123 H locs hp124 hw => ?_)
  obtain ⟨rfl, rfl, rfl, rfl, h129⟩ := hp124
  have B130 : ∀  (g131 : Nat → Int32) (ls : Array Slot) (H : Heap) (locs : List Loc), (hk_fr [17] g114 g131) → hk_W D (jT cI cJ) A s H locs (xw cI cJ ad g131 lg ar bk) → lv_has ls 1 [(0, .ref (ad 25))] → W p l e { frames := 8, cells := 1, slots := 6, locals := 126 } s m args below meth c H locs 0 0 Q (F0 m 79 ls []) := by
    intro g131 ls H locs hfr_g131 hw hl
    refine lv_aload_n hx hb dX6_readStart_79 rfl (lv_at hl 0 rfl) ?_
    refine hk_get (ci := 9) (C := RX6) (T := TX6) (N := 16) (v := .ref (ad 6)) hx hb hts (fun _ h => List.mem_cons_of_mem _ (wwXc_wsX60 _ h)) hown hw 25 rfl rfl 0 (by decide) (hq _ wX_399) rfl dX6_readStart_80 ?_
    refine lv_iconst (v := 4) hx hb dX6_readStart_83 (by decide) ?_
    refine jx_Vl (As := [.int 4]) (rest := []) ⟨hx, hb, hml, hown, hts⟩ hZ hw hA (jx_X8_low l hlt D t3 cI cJ ad g131 lg ar bk _ 4 hi_a0rg) (cwV 1 hts (jx_gV wwX_good wX_443 wX_330 wX_331 wX_252 wX_332) rfl rfl rfl (by decide +kernel) ⟨Nat.le_of_ble_eq_true rfl, Nat.le_of_ble_eq_true rfl⟩) 6 (ci := 11) (T := TX8) (N := 4) rfl rfl rfl hl.1 rfl (Nat.le_of_ble_eq_true rfl) dX6_readStart_84 ⟨Nat.le_of_ble_eq_true rfl, Nat.le_of_ble_eq_true rfl⟩ (fun u132 u133 u134 u135 H locs ce q hp hw h1 h2 h3 => by obtain ⟨ht0, rfl, rfl, rfl⟩ := hp; exact kt _ _ _ _ _ _ _ _ _ _ _ ⟨(hk_frT (hk_frT (hk_frG (hk_frT (hk_frT (hk_frT (hk_frT (hk_frT (hk_frT (hk_frT (hk_frT hk_fr0 (by decide) h11) (by decide) h25) (by decide) h39) (by decide) h53) (by decide) h67) (by decide) h81) (by decide) h95) (by decide) h109) (by decide) h_g114) (by decide) hfr_g131) (by decide) ht0), rfl, rfl, rfl⟩ hw h1 h2 h3) (fun r136 g137 l138 a139 b140 H locs hp141 hw => ?_)
    obtain ⟨h142, rfl, rfl, rfl⟩ := hp141
    refine lv_l2i hx hb dX6_readStart_87 rfl (jx_nm fun z146 hz146 => ?_)
    refine lv_aload_n hx hb dX6_readStart_88 rfl (lv_at hl 0 rfl) ?_
    refine hk_get (ci := 9) (C := RX6) (T := TX6) (N := 16) (v := .ref (ad 6)) hx hb hts (fun _ h => List.mem_cons_of_mem _ (wwXc_wsX60 _ h)) hown hw 25 rfl rfl 0 (by decide) (hq _ wX_399) rfl dX6_readStart_89 ?_
    refine hk_get (ci := 11) (C := RX8) (T := TX8) (N := 4) (v := .ref (ad 2)) hx hb hts (fun _ h => List.mem_cons_of_mem _ (wwXc_wsX80 _ h)) hown hw 6 rfl rfl 0 (by decide) (hq _ wX_401) rfl dX6_readStart_92 ?_
    refine lv_bipush (v := 6) hx hb dX6_readStart_95 (by decide) ?_
    refine lv_bipush (v := 8) hx hb dX6_readStart_97 (by decide) ?_
    refine jx_Si (As := [.ref (ad 2), .int 6, .int 8]) (rest := [.int z146]) ⟨hx, hb, hml, hown, hts⟩ hZ hw hA (jx_X0_crc32_2 l hlt D t3 cI cJ ad g137 lg ar bk _ 6 8) (va_cwS 3 hts (jx_gS wwX_good wX_522 wX_11 wX_12 wX_13) rfl rfl rfl (by decide +kernel) ⟨Nat.le_of_ble_eq_true rfl, Nat.le_of_ble_eq_true rfl⟩) rfl hl.1 rfl (Nat.le_of_ble_eq_true rfl) dX6_readStart_99 ⟨Nat.le_of_ble_eq_true rfl, Nat.le_of_ble_eq_true rfl⟩ (fun _ _ _ _ _ _ _ _ hp _ _ _ _ => hp.elim) (fun r151 g152 l153 a154 b155 H locs hp156 hw => ?_)
    obtain ⟨rfl, rfl, rfl, rfl⟩ := hp156
    refine lv_icmp_eq (tgt := 114) hx hb dX6_readStart_102 (by decide) (fun cc161 => ?_) (fun cc161 => ?_)
    · exact kr g137 lg ar bk _ _ _ _ ⟨(hk_frT (hk_frT (hk_frG (hk_frT (hk_frT (hk_frT (hk_frT (hk_frT (hk_frT (hk_frT (hk_frT hk_fr0 (by decide) h11) (by decide) h25) (by decide) h39) (by decide) h53) (by decide) h67) (by decide) h81) (by decide) h95) (by decide) h109) (by decide) h_g114) (by decide) hfr_g131) (by decide) h142), rfl, rfl, rfl⟩ hw dX6_readStart_114
    · refine lv_aload_n hx hb dX6_readStart_105 rfl (lv_at hl 0 rfl) ?_
      refine hk_get (ci := 9) (C := RX6) (T := TX6) (N := 16) (v := .ref (ad 6)) hx hb hts (fun _ h => List.mem_cons_of_mem _ (wwXc_wsX60 _ h)) hown hw 25 rfl rfl 0 (by decide) (hq _ wX_399) rfl dX6_readStart_106 ?_
      refine lv_bipush (v := 9) hx hb dX6_readStart_109 (by decide) ?_
      refine jx_Vv (As := [.int 9]) (rest := []) ⟨hx, hb, hml, hown, hts⟩ hZ hw hA (jx_X8_fail l hlt D t3 cI cJ ad g137 lg ar bk _ 9) (cwV 1 hts (jx_gV wwX_good wX_403 wX_255 wX_256 wX_252 wX_257) rfl rfl rfl (by decide +kernel) ⟨Nat.le_of_ble_eq_true rfl, Nat.le_of_ble_eq_true rfl⟩) 6 (ci := 11) (T := TX8) (N := 4) rfl rfl rfl hl.1 rfl (Nat.le_of_ble_eq_true rfl) dX6_readStart_111 ⟨Nat.le_of_ble_eq_true rfl, Nat.le_of_ble_eq_true rfl⟩ (fun u162 u163 u164 u165 H locs ce q hp hw h1 h2 h3 => by obtain ⟨ht0, rfl, rfl, rfl⟩ := hp; exact kt _ _ _ _ _ _ _ _ _ _ _ ⟨(hk_frT (hk_frT (hk_frT (hk_frG (hk_frT (hk_frT (hk_frT (hk_frT (hk_frT (hk_frT (hk_frT (hk_frT hk_fr0 (by decide) h11) (by decide) h25) (by decide) h39) (by decide) h53) (by decide) h67) (by decide) h81) (by decide) h95) (by decide) h109) (by decide) h_g114) (by decide) hfr_g131) (by decide) h142) (by decide) ht0), rfl, rfl, rfl⟩ hw h1 h2 h3) (fun g167 l168 a169 b170 H locs hp171 hw => ?_)
      obtain ⟨h172, rfl, rfl, rfl, h176⟩ := hp171
      exact False.elim h176
  refine lv_if_ne (tgt := 79) hx hb dX6_readStart_67 (by decide) (fun cc177 => ?_) (fun cc177 => ?_)
  · exact B130 g114 ls _ _ hk_fr0 hw (lv_sub hl [0] rfl)
  · refine lv_aload_n hx hb dX6_readStart_70 rfl (lv_at hl 0 rfl) ?_
    refine hk_get (ci := 9) (C := RX6) (T := TX6) (N := 16) (v := .ref (ad 6)) hx hb hts (fun _ h => List.mem_cons_of_mem _ (wwXc_wsX60 _ h)) hown hw 25 rfl rfl 0 (by decide) (hq _ wX_399) rfl dX6_readStart_71 ?_
    refine lv_bipush (v := 14) hx hb dX6_readStart_74 (by decide) ?_
    refine jx_Vv (As := [.int 14]) (rest := []) ⟨hx, hb, hml, hown, hts⟩ hZ hw hA (jx_X8_fail l hlt D t3 cI cJ ad g114 lg ar bk _ 14) (cwV 1 hts (jx_gV wwX_good wX_403 wX_255 wX_256 wX_252 wX_257) rfl rfl rfl (by decide +kernel) ⟨Nat.le_of_ble_eq_true rfl, Nat.le_of_ble_eq_true rfl⟩) 6 (ci := 11) (T := TX8) (N := 4) rfl rfl rfl hl.1 rfl (Nat.le_of_ble_eq_true rfl) dX6_readStart_76 ⟨Nat.le_of_ble_eq_true rfl, Nat.le_of_ble_eq_true rfl⟩ (fun u178 u179 u180 u181 H locs ce q hp hw h1 h2 h3 => by obtain ⟨ht0, rfl, rfl, rfl⟩ := hp; exact kt _ _ _ _ _ _ _ _ _ _ _ ⟨(hk_frT (hk_frG (hk_frT (hk_frT (hk_frT (hk_frT (hk_frT (hk_frT (hk_frT (hk_frT hk_fr0 (by decide) h11) (by decide) h25) (by decide) h39) (by decide) h53) (by decide) h67) (by decide) h81) (by decide) h95) (by decide) h109) (by decide) h_g114) (by decide) ht0), rfl, rfl, rfl⟩ hw h1 h2 h3) (fun g183 l184 a185 b186 H locs hp187 hw => ?_)
    obtain ⟨h188, rfl, rfl, rfl, h192⟩ := hp187
    exact False.elim h192

set_option maxHeartbeats 4000000 in
set_option maxRecDepth 100000 in
/-- X6_findBlock on (25,) -/
theorem jx_X6_findBlock (l : Launch) (hlt : l.stackTraces = false) (D : va_G) (t3 : Nat × Nat × Nat) (cI cJ : ClassId) (ad : Nat → Nat) (g : Nat → Int32) (lg : Nat → Int64) (ar : Nat → Nat → Int32) (bk : Nat → Int64) (sz : Nat) (hi_a0rg : hk_rg 0 255 (ar 0)) : JMi l yX6_findBlock (Cond.code yX6_findBlock cX6_findBlock 2 (some .boolean) :: wwX) { frames := 7, cells := 1, slots := 6, locals := 102 } t3 D xw cI cJ ad [.ref (ad 25)] (xw cI cJ ad g lg ar bk) sz 1 6 (fun (r : Int32) g' lg' ar' bk' => hk_fr [15, 17, 51, 52] g g' ∧ lg = lg' ∧ ar = ar' ∧ bk = bk') (fun g' lg' ar' bk' => hk_fr [15, 17, 51, 52] g g' ∧ lg = lg' ∧ ar = ar' ∧ bk = bk') := by
  refine jx_metz (cc := cX6_findBlock) (maxL := 2) (ret := (some .boolean)) rfl (by decide) rfl (Nat.le_of_ble_eq_true rfl) ?_
  intro p e s m args below meth c ls Q A hx hb hml hown hts hA hZ hw hl hQ kr kt
  have hq : ∀ w ∈ wwX, w.before args s = true := fun w h => hts w (List.mem_cons_of_mem _ h)
  have hl : lv_has ls 2 [(0, .ref (ad 25))] := hl
  refine lv_aload_n hx hb dX6_findBlock_0 rfl (lv_at hl 0 rfl) ?_
  refine hk_get (ci := 9) (C := RX6) (T := TX6) (N := 16) (v := .ref (ad 6)) hx hb hts (fun _ h => List.mem_cons_of_mem _ (wwXc_wsX60 _ h)) hown hw 25 rfl rfl 0 (by decide) (hq _ wX_399) rfl dX6_findBlock_1 ?_
  refine jx_Vi (As := []) (rest := []) ⟨hx, hb, hml, hown, hts⟩ hZ hw hA (jx_X8_next l hlt D t3 cI cJ ad g lg ar bk _ hi_a0rg) (cwV 0 hts (jx_gV wwX_good wX_430 wX_250 wX_251 wX_252 wX_253) rfl rfl rfl (by decide +kernel) ⟨Nat.le_of_ble_eq_true rfl, Nat.le_of_ble_eq_true rfl⟩) 6 (ci := 11) (T := TX8) (N := 4) rfl rfl rfl hl.1 rfl (Nat.le_of_ble_eq_true rfl) dX6_findBlock_4 ⟨Nat.le_of_ble_eq_true rfl, Nat.le_of_ble_eq_true rfl⟩ (fun u1 u2 u3 u4 H locs ce q hp hw h1 h2 h3 => by obtain ⟨ht0, rfl, rfl, rfl⟩ := hp; exact kt _ _ _ _ _ _ _ _ _ _ _ ⟨(hk_frT hk_fr0 (by decide) ht0), rfl, rfl, rfl⟩ hw h1 h2 h3) (fun r5 g6 l7 a8 b9 H locs hp10 hw => ?_)
  obtain ⟨h11, rfl, rfl, rfl, h15⟩ := hp10
  refine lv_istore_n (lv' := [(1, .int r5), (0, .ref (ad 25))]) hx hb dX6_findBlock_7 rfl hl (by decide) rfl (fun ls hl => ?_)
  refine lv_aload_n hx hb dX6_findBlock_8 rfl (lv_at hl 1 rfl) ?_
  refine hk_get (ci := 9) (C := RX6) (T := TX6) (N := 16) (v := .ref (ad 26)) hx hb hts (fun _ h => List.mem_cons_of_mem _ (wwXc_wsX60 _ h)) hown hw 25 rfl rfl 5 (by decide) (hq _ wX_423) rfl dX6_findBlock_9 ?_
  refine lv_aload_n hx hb dX6_findBlock_12 rfl (lv_at hl 1 rfl) ?_
  refine hk_get (ci := 9) (C := RX6) (T := TX6) (N := 16) (v := .ref (ad 6)) hx hb hts (fun _ h => List.mem_cons_of_mem _ (wwXc_wsX60 _ h)) hown hw 25 rfl rfl 0 (by decide) (hq _ wX_399) rfl dX6_findBlock_13 ?_
  refine hk_get (ci := 11) (C := RX8) (T := TX8) (N := 4) (v := .int (g6 15)) hx hb hts (fun _ h => List.mem_cons_of_mem _ (wwXc_wsX80 _ h)) hown hw 6 rfl rfl 1 (by decide) (hq _ wX_400) rfl dX6_findBlock_16 ?_
  refine lv_iconst (v := 1) hx hb dX6_findBlock_19 (by decide) ?_
  refine lv_isub hx hb dX6_findBlock_20 (jx_nm fun z16 hz16 => ?_)
  refine jx_putg xw (g := g6) (lg := lg) (ar := ar) (bk := bk) (x := z16) 51 (ci := 6) (C := RX3) (T := TX3) (N := 9) (ty := .int) hx hb hts (fun _ h => List.mem_cons_of_mem _ (wwXc_wsX30 _ h)) tyX3 tyX3_ok nmX3 hown hw 26 rfl rfl 4 (by decide) (hq _ wX_424) rfl (by decide +kernel) rfl rfl (Nat.le_of_ble_eq_true rfl) dX6_findBlock_21 rfl (fun H locs g17 h_g17 hw => ?_)
  refine lv_aload_n hx hb dX6_findBlock_24 rfl (lv_at hl 1 rfl) ?_
  refine hk_get (ci := 9) (C := RX6) (T := TX6) (N := 16) (v := .ref (ad 26)) hx hb hts (fun _ h => List.mem_cons_of_mem _ (wwXc_wsX60 _ h)) hown hw 25 rfl rfl 5 (by decide) (hq _ wX_423) rfl dX6_findBlock_25 ?_
  refine lv_iconst (v := 4) hx hb dX6_findBlock_28 (by decide) ?_
  refine lv_iload_n hx hb dX6_findBlock_29 rfl (lv_at hl 0 rfl) ?_
  refine lv_imul hx hb dX6_findBlock_30 (jx_nm fun z18 hz18 => ?_)
  have xz18 : (z18).toInt = (r5).toInt * 4 := (hE_imp (hE_mul' 4 hz18 (by decide)) (ob489 ((r5).toInt) h15 (hE_rng (r5))))
  refine lv_iconst (v := 4) hx hb dX6_findBlock_31 (by decide) ?_
  refine lv_iadd hx hb dX6_findBlock_32 (jx_nm fun z19 hz19 => ?_)
  have xz19 : (z19).toInt = (z18).toInt + ((4 : Int32)).toInt := (hE_imp (hE_add hz19) (ob490 ((z18).toInt) (((4 : Int32)).toInt) ((r5).toInt) xz18 h15 (hE_rng (z18)) (by decide) (hE_rng (r5))))
  refine jx_putg xw (g := g17) (lg := lg) (ar := ar) (bk := bk) (x := z19) 52 (ci := 6) (C := RX3) (T := TX3) (N := 9) (ty := .int) hx hb hts (fun _ h => List.mem_cons_of_mem _ (wwXc_wsX30 _ h)) tyX3 tyX3_ok nmX3 hown hw 26 rfl rfl 5 (by decide) (hq _ wX_425) rfl (by decide +kernel) rfl rfl (Nat.le_of_ble_eq_true rfl) dX6_findBlock_33 rfl (fun H locs g20 h_g20 hw => ?_)
  refine lv_iload_n hx hb dX6_findBlock_36 rfl (lv_at hl 0 rfl) ?_
  refine lv_if_eq (tgt := 44) hx hb dX6_findBlock_37 (by decide) (fun cc21 => ?_) (fun cc21 => ?_)
  · refine lv_iconst (v := 0) hx hb dX6_findBlock_44 (by decide) ?_
    exact kr 0 g20 lg ar bk _ _ _ _ rfl ⟨(hk_frG (hk_frG (hk_frT hk_fr0 (by decide) h11) (by decide) h_g17) (by decide) h_g20), rfl, rfl, rfl⟩ hw dX6_findBlock_45
  · refine lv_iconst (v := 1) hx hb dX6_findBlock_40 (by decide) ?_
    refine lv_goto (tgt := 45) hx hb dX6_findBlock_41 (by decide) ?_
    exact kr 1 g20 lg ar bk _ _ _ _ rfl ⟨(hk_frG (hk_frG (hk_frT hk_fr0 (by decide) h11) (by decide) h_g17) (by decide) h_g20), rfl, rfl, rfl⟩ hw dX6_findBlock_45

set_option maxHeartbeats 4000000 in
set_option maxRecDepth 100000 in
/-- X6_readHead on (25,) -/
theorem jx_X6_readHead (l : Launch) (hlt : l.stackTraces = false) (D : va_G) (t3 : Nat × Nat × Nat) (cI cJ : ClassId) (ad : Nat → Nat) (g : Nat → Int32) (lg : Nat → Int64) (ar : Nat → Nat → Int32) (bk : Nat → Int64) (sz : Nat) (hi_a0rg : hk_rg 0 255 (ar 0)) : JMv l yX6_readHead (Cond.code yX6_readHead cX6_readHead 1 none :: wwX) { frames := 11, cells := 1, slots := 6, locals := 192 } t3 D xw cI cJ ad [.ref (ad 25)] (xw cI cJ ad g lg ar bk) sz 1 6 (fun g' lg' ar' bk' => hk_fr [15, 17, 50] g g' ∧ hk_fr [4, 5, 6, 7] lg lg' ∧ hk_fr [13, 14] ar ar' ∧ bk = bk') (fun g' lg' ar' bk' => hk_fr [15, 17, 50] g g' ∧ hk_fr [4, 5, 6, 7] lg lg' ∧ hk_fr [13, 14] ar ar' ∧ bk = bk') := by
  refine jx_metv (cc := cX6_readHead) (maxL := 1) (ret := none) rfl (by decide) rfl (Nat.le_of_ble_eq_true rfl) ?_
  intro p e s m args below meth c ls Q A hx hb hml hown hts hA hZ hw hl hQ kr kt
  have hq : ∀ w ∈ wwX, w.before args s = true := fun w h => hts w (List.mem_cons_of_mem _ h)
  have hl : lv_has ls 1 [(0, .ref (ad 25))] := hl
  refine lv_aload_n hx hb dX6_readHead_0 rfl (lv_at hl 0 rfl) ?_
  refine hk_get (ci := 9) (C := RX6) (T := TX6) (N := 16) (v := .ref (ad 26)) hx hb hts (fun _ h => List.mem_cons_of_mem _ (wwXc_wsX60 _ h)) hown hw 25 rfl rfl 5 (by decide) (hq _ wX_423) rfl dX6_readHead_1 ?_
  refine jx_Vv (As := []) (rest := []) ⟨hx, hb, hml, hown, hts⟩ hZ hw hA (jx_X3_readSizes l hlt D t3 cI cJ ad g lg ar bk _ hi_a0rg) (cwV 0 hts (jx_gV wwX_good wX_529 wX_530 wX_531 wX_307 wX_532) rfl rfl rfl (by decide +kernel) ⟨Nat.le_of_ble_eq_true rfl, Nat.le_of_ble_eq_true rfl⟩) 26 (ci := 6) (T := TX3) (N := 9) rfl rfl rfl hl.1 rfl (Nat.le_of_ble_eq_true rfl) dX6_readHead_4 ⟨Nat.le_of_ble_eq_true rfl, Nat.le_of_ble_eq_true rfl⟩ (fun u1 u2 u3 u4 H locs ce q hp hw h1 h2 h3 => by obtain ⟨ht0, ht1, rfl, rfl⟩ := hp; exact kt _ _ _ _ _ _ _ _ _ _ _ ⟨ht0, (hk_frT hk_fr0 (by decide) ht1), hk_fr0, rfl⟩ hw h1 h2 h3) (fun g6 l7 a8 b9 H locs hp10 hw => ?_)
  obtain ⟨h11, h12, rfl, rfl⟩ := hp10
  refine lv_aload_n hx hb dX6_readHead_7 rfl (lv_at hl 0 rfl) ?_
  refine hk_get (ci := 9) (C := RX6) (T := TX6) (N := 16) (v := .ref (ad 26)) hx hb hts (fun _ h => List.mem_cons_of_mem _ (wwXc_wsX60 _ h)) hown hw 25 rfl rfl 5 (by decide) (hq _ wX_423) rfl dX6_readHead_8 ?_
  refine jx_Vv (As := []) (rest := []) ⟨hx, hb, hml, hown, hts⟩ hZ hw hA (jx_X3_readFilters l hlt D t3 cI cJ ad g6 l7 ar bk _ hi_a0rg) (cwV 0 hts (jx_gV wwX_good wX_533 wX_534 wX_535 wX_307 wX_536) rfl rfl rfl (by decide +kernel) ⟨Nat.le_of_ble_eq_true rfl, Nat.le_of_ble_eq_true rfl⟩) 26 (ci := 6) (T := TX3) (N := 9) rfl rfl rfl hl.1 rfl (Nat.le_of_ble_eq_true rfl) dX6_readHead_11 ⟨Nat.le_of_ble_eq_true rfl, Nat.le_of_ble_eq_true rfl⟩ (fun u15 u16 u17 u18 H locs ce q hp hw h1 h2 h3 => by obtain ⟨ht0, ht1, ht2, rfl⟩ := hp; exact kt _ _ _ _ _ _ _ _ _ _ _ ⟨(hk_frT h11 (by decide) ht0), (hk_frT (hk_frT hk_fr0 (by decide) h12) (by decide) ht1), ht2, rfl⟩ hw h1 h2 h3) (fun g20 l21 a22 b23 H locs hp24 hw => ?_)
  obtain ⟨h25, h26, h27, rfl⟩ := hp24
  refine lv_aload_n hx hb dX6_readHead_14 rfl (lv_at hl 0 rfl) ?_
  refine lv_aload_n hx hb dX6_readHead_15 rfl (lv_at hl 0 rfl) ?_
  refine hk_get (ci := 9) (C := RX6) (T := TX6) (N := 16) (v := .ref (ad 26)) hx hb hts (fun _ h => List.mem_cons_of_mem _ (wwXc_wsX60 _ h)) hown hw 25 rfl rfl 5 (by decide) (hq _ wX_423) rfl dX6_readHead_16 ?_
  refine hk_get (ci := 6) (C := RX3) (T := TX3) (N := 9) (v := .long (l21 7)) hx hb hts (fun _ h => List.mem_cons_of_mem _ (wwXc_wsX30 _ h)) hown hw 26 rfl rfl 8 (by decide) (hq _ wX_537) rfl dX6_readHead_19 ?_
  refine jx_Vv (As := [.long (l21 7)]) (rest := []) ⟨hx, hb, hml, hown, hts⟩ hZ hw hA (jx_X6_askMemory l hlt D t3 cI cJ ad g20 l21 a22 bk _ (l21 7)) (cwV 1 hts (jx_gV wwX_good wX_444 wX_445 wX_446 wX_441 wX_447) rfl rfl rfl (by decide +kernel) ⟨Nat.le_of_ble_eq_true rfl, Nat.le_of_ble_eq_true rfl⟩) 25 (ci := 9) (T := TX6) (N := 16) rfl rfl rfl hl.1 rfl (Nat.le_of_ble_eq_true rfl) dX6_readHead_22 ⟨Nat.le_of_ble_eq_true rfl, Nat.le_of_ble_eq_true rfl⟩ (fun u29 u30 u31 u32 H locs ce q hp hw h1 h2 h3 => by obtain ⟨ht0, ht1, rfl, rfl⟩ := hp; exact kt _ _ _ _ _ _ _ _ _ _ _ ⟨(hk_frT (hk_frT h11 (by decide) h25) (by decide) ht0), (hk_frT (hk_frT (hk_frT hk_fr0 (by decide) h12) (by decide) h26) (by decide) ht1), h27, rfl⟩ hw h1 h2 h3) (fun g34 l35 a36 b37 H locs hp38 hw => ?_)
  obtain ⟨h39, h40, rfl, rfl⟩ := hp38
  refine lv_aload_n hx hb dX6_readHead_25 rfl (lv_at hl 0 rfl) ?_
  refine hk_get (ci := 9) (C := RX6) (T := TX6) (N := 16) (v := .ref (ad 26)) hx hb hts (fun _ h => List.mem_cons_of_mem _ (wwXc_wsX60 _ h)) hown hw 25 rfl rfl 5 (by decide) (hq _ wX_423) rfl dX6_readHead_26 ?_
  refine jx_Vv (As := []) (rest := []) ⟨hx, hb, hml, hown, hts⟩ hZ hw hA (jx_X3_readRest l hlt D t3 cI cJ ad g34 l35 a22 bk _ (hk_pE (P := hk_rg 0 255) hi_a0rg (h27 0 rfl))) (cwV 0 hts (jx_gV wwX_good wX_538 wX_539 wX_540 wX_307 wX_541) rfl rfl rfl (by decide +kernel) ⟨Nat.le_of_ble_eq_true rfl, Nat.le_of_ble_eq_true rfl⟩) 26 (ci := 6) (T := TX3) (N := 9) rfl rfl rfl hl.1 rfl (Nat.le_of_ble_eq_true rfl) dX6_readHead_29 ⟨Nat.le_of_ble_eq_true rfl, Nat.le_of_ble_eq_true rfl⟩ (fun u43 u44 u45 u46 H locs ce q hp hw h1 h2 h3 => by obtain ⟨ht0, rfl, rfl, rfl⟩ := hp; exact kt _ _ _ _ _ _ _ _ _ _ _ ⟨(hk_frT (hk_frT (hk_frT h11 (by decide) h25) (by decide) h39) (by decide) ht0), (hk_frT (hk_frT (hk_frT hk_fr0 (by decide) h12) (by decide) h26) (by decide) h40), h27, rfl⟩ hw h1 h2 h3) (fun g48 l49 a50 b51 H locs hp52 hw => ?_)
  obtain ⟨h53, rfl, rfl, rfl⟩ := hp52
  exact kr g48 l35 a22 bk _ _ _ _ ⟨(hk_frT (hk_frT (hk_frT h11 (by decide) h25) (by decide) h39) (by decide) h53), (hk_frT (hk_frT (hk_frT hk_fr0 (by decide) h12) (by decide) h26) (by decide) h40), h27, rfl⟩ hw dX6_readHead_32

set_option maxHeartbeats 4000000 in
set_option maxRecDepth 100000 in
/-- X3_undo on (26, 4) -/
theorem jx_X3_undo_4 (l : Launch) (hlt : l.stackTraces = false) (D : va_G) (t3 : Nat × Nat × Nat) (cI cJ : ClassId) (ad : Nat → Nat) (g : Nat → Int32) (lg : Nat → Int64) (ar : Nat → Nat → Int32) (bk : Nat → Int64) (sz : Nat) (y2 : Int32) (hr0 : 0 ≤ (y2).toInt ∧ (y2).toInt ≤ 3000) (hr1 : (g 14).toInt ≤ 3000) : JMv l yX3_undo (Cond.code yX3_undo cX3_undo 4 none :: wwX) { frames := 2, cells := 1, slots := 6, locals := 50 } t3 D xw cI cJ ad [.ref (ad 26), .ref (ad 4), .int y2] (xw cI cJ ad g lg ar bk) sz 1 6 (fun g' lg' ar' bk' => g = g' ∧ lg = lg' ∧ hk_fr [1] ar ar' ∧ bk = bk') (fun g' lg' ar' bk' => False) := by
  refine jx_metv (cc := cX3_undo) (maxL := 4) (ret := none) rfl (by decide) rfl (Nat.le_of_ble_eq_true rfl) ?_
  intro p e s m args below meth c ls Q A hx hb hml hown hts hA hZ hw hl hQ kr kt
  have hq : ∀ w ∈ wwX, w.before args s = true := fun w h => hts w (List.mem_cons_of_mem _ h)
  have hl : lv_has ls 4 [(0, .ref (ad 26)), (1, .ref (ad 4)), (2, .int y2)] := hl
  refine lv_aload_n hx hb dX3_undo_0 rfl (lv_at hl 0 rfl) ?_
  refine hk_get (ci := 6) (C := RX3) (T := TX3) (N := 9) (v := .int (g 50)) hx hb hts (fun _ h => List.mem_cons_of_mem _ (wwXc_wsX30 _ h)) hown hw 26 rfl rfl 3 (by decide) (hq _ wX_322) rfl dX3_undo_1 ?_
  refine lv_iconst (v := 2) hx hb dX3_undo_4 (by decide) ?_
  refine lv_isub hx hb dX3_undo_5 (jx_nm fun z1 hz1 => ?_)
  refine lv_istore_n (lv' := [(3, .int z1), (0, .ref (ad 26)), (1, .ref (ad 4)), (2, .int y2)]) hx hb dX3_undo_6 rfl hl (by decide) rfl (fun ls hl => ?_)
  have B2 : ∀ (k5 : Nat) (x3 : Int32) (a4 : Nat → Nat → Int32) (ls : Array Slot) (H : Heap) (locs : List Loc), ((x3).toInt + 2147483649 ≤ (k5 : Int)) → (hk_fr [1] ar a4) → hk_W D (jT cI cJ) A s H locs (xw cI cJ ad g lg a4 bk) → lv_has ls 4 [(0, .ref (ad 26)), (1, .ref (ad 4)), (2, .int y2), (3, .int x3)] → W p l e { frames := 2, cells := 1, slots := 6, locals := 50 } s m args below meth c H locs 0 0 Q (F0 m 7 ls []) := by
    intro k5
    induction k5 with
    | zero =>
      intro x3 a4 ls H locs hrk_B2 hfr_a4 hw hl
      exact False.elim (hk_no0 (0 * (x3).toInt) (ob78 ((x3).toInt) hrk_B2 (hE_rng (x3))) (by simp))
    | succ k5 ih_B2 =>
      intro x3 a4 ls H locs hrk_B2 hfr_a4 hw hl
      have hrk_B2 := hk_rk hrk_B2
      refine lv_iload_n hx hb dX3_undo_7 rfl (lv_at hl 3 rfl) ?_
      refine lv_if_lt (tgt := 62) hx hb dX3_undo_8 (by decide) (fun cc6 => ?_) (fun cc6 => ?_)
      · exact kr g lg a4 bk _ _ _ _ ⟨rfl, rfl, hfr_a4, rfl⟩ hw dX3_undo_62
      · refine lv_aload_n hx hb dX3_undo_11 rfl (lv_at hl 0 rfl) ?_
        refine hk_get (ci := 6) (C := RX3) (T := TX3) (N := 9) (v := .ref (ad 27)) hx hb hts (fun _ h => List.mem_cons_of_mem _ (wwXc_wsX30 _ h)) hown hw 26 rfl rfl 1 (by decide) (hq _ wX_312) rfl dX3_undo_12 ?_
        refine lv_iload_n hx hb dX3_undo_15 rfl (lv_at hl 3 rfl) ?_
        refine lv_iconst (v := 3) hx hb dX3_undo_16 (by decide) ?_
        refine lv_iand hx hb dX3_undo_17 (jx_nm fun z7 hz7 => ?_)
        refine jx_iald hx hb hw 27 0 rfl rfl (hE_in (n := 4) (ob491 ((z7).toInt) ((x3).toInt) (k5 : Int) (((0 : Int32)).toInt) (hE_and 2 4 hz7 (by decide) (by decide) (by decide)) hrk_B2 (hE_nlt cc6) (hE_rng (z7)) (hE_rng (x3)) (by decide))) dX3_undo_18 (fun z8 hz8 => ?_)
        refine lv_iconst (v := 3) hx hb dX3_undo_19 (by decide) ?_
        have B9 : ∀  (a10 : Nat → Nat → Int32) (ls : Array Slot) (H : Heap) (locs : List Loc), (hk_fr [1] a4 a10) → hk_W D (jT cI cJ) A s H locs (xw cI cJ ad g lg a10 bk) → lv_has ls 4 [(0, .ref (ad 26)), (1, .ref (ad 4)), (2, .int y2), (3, .int x3)] → W p l e { frames := 2, cells := 1, slots := 6, locals := 50 } s m args below meth c H locs 0 0 Q (F0 m 56 ls []) := by
          intro a10 ls H locs hfr_a10 hw hl
          obtain ⟨z11, hz11⟩ : ∃ z : Int32, x3 + (-1) = z := ⟨_, rfl⟩
          refine lv_iinc (v := z11) (lv' := [(3, .int z11), (0, .ref (ad 26)), (1, .ref (ad 4)), (2, .int y2)]) hx hb dX3_undo_56 hl (k := 3) rfl hz11 (by decide) rfl (fun ls hl => ?_)
          have xz11 : (z11).toInt = (x3).toInt + (((-1) : Int32)).toInt := (hE_imp (hE_add hz11) (ob492 ((x3).toInt) ((((-1) : Int32)).toInt) (k5 : Int) (((0 : Int32)).toInt) ((z7).toInt) hrk_B2 (hE_nlt cc6) (hE_and 2 4 hz7 (by decide) (by decide) (by decide)) (hE_rng (x3)) (by decide) (by decide) (hE_rng (z7))))
          refine lv_goto (tgt := 7) hx hb dX3_undo_59 (by decide) ?_
          exact ih_B2 z11 a10 ls _ _ (ob493 ((z11).toInt) (k5 : Int) ((x3).toInt) ((((-1) : Int32)).toInt) (((0 : Int32)).toInt) ((z7).toInt) hrk_B2 xz11 (hE_nlt cc6) (hE_and 2 4 hz7 (by decide) (by decide) (by decide)) (hE_rng (z11)) (hE_rng (x3)) (by decide) (by decide) (hE_rng (z7))) (hk_frT hfr_a4 (by decide) hfr_a10) hw (lv_sub hl [1, 2, 3, 0] rfl)
        refine lv_icmp_ne (tgt := 46) hx hb dX3_undo_20 (by decide) (fun cc12 => ?_) (fun cc12 => ?_)
        · refine lv_aload_n hx hb dX3_undo_46 rfl (lv_at hl 1 rfl) ?_
          refine lv_iload_n hx hb dX3_undo_47 rfl (lv_at hl 2 rfl) ?_
          refine lv_aload_n hx hb dX3_undo_48 rfl (lv_at hl 1 rfl) ?_
          refine hk_get (ci := 12) (C := RX9) (T := TX9) (N := 2) (v := .int (g 14)) hx hb hts (fun _ h => List.mem_cons_of_mem _ (wwXc_wsX90 _ h)) hown hw 4 rfl rfl 1 (by decide) (hq _ wX_336) rfl dX3_undo_49 ?_
          refine lv_iconst (v := 1) hx hb dX3_undo_52 (by decide) ?_
          refine jx_Vv (As := [.int y2, .int (g 14), .int 1]) (rest := []) ⟨hx, hb, hml, hown, hts⟩ hZ hw hA (jx_X9_branch_4 l hlt D t3 cI cJ ad g lg a4 bk _ y2 (g 14) 1 (ob494 ((y2).toInt) hr0 (hE_rng (y2))) (ob495 ((g 14).toInt) hr1 (hE_rng (g 14)))) (cwV 3 hts (jx_gV wwX_good wX_338 wX_187 wX_188 wX_24 wX_189) rfl rfl rfl (by decide +kernel) ⟨Nat.le_of_ble_eq_true rfl, Nat.le_of_ble_eq_true rfl⟩) 4 (ci := 12) (T := TX9) (N := 2) rfl rfl rfl hl.1 rfl (Nat.le_of_ble_eq_true rfl) dX3_undo_53 ⟨Nat.le_of_ble_eq_true rfl, Nat.le_of_ble_eq_true rfl⟩ (fun _ _ _ _ _ _ _ _ hp _ _ _ _ => hp.elim) (fun g18 l19 a20 b21 H locs hp22 hw => ?_)
          obtain ⟨rfl, rfl, h25, rfl⟩ := hp22
          exact B9 a20 ls _ _ h25 hw (lv_sub hl [0, 1, 2, 3] rfl)
        · refine lv_aload_n hx hb dX3_undo_23 rfl (lv_at hl 1 rfl) ?_
          refine lv_iload_n hx hb dX3_undo_24 rfl (lv_at hl 2 rfl) ?_
          refine lv_aload_n hx hb dX3_undo_25 rfl (lv_at hl 1 rfl) ?_
          refine hk_get (ci := 12) (C := RX9) (T := TX9) (N := 2) (v := .int (g 14)) hx hb hts (fun _ h => List.mem_cons_of_mem _ (wwXc_wsX90 _ h)) hown hw 4 rfl rfl 1 (by decide) (hq _ wX_336) rfl dX3_undo_26 ?_
          refine lv_aload_n hx hb dX3_undo_29 rfl (lv_at hl 0 rfl) ?_
          refine hk_get (ci := 6) (C := RX3) (T := TX3) (N := 9) (v := .ref (ad 28)) hx hb hts (fun _ h => List.mem_cons_of_mem _ (wwXc_wsX30 _ h)) hown hw 26 rfl rfl 2 (by decide) (hq _ wX_313) rfl dX3_undo_30 ?_
          refine lv_iload_n hx hb dX3_undo_33 rfl (lv_at hl 3 rfl) ?_
          refine lv_iconst (v := 3) hx hb dX3_undo_34 (by decide) ?_
          refine lv_iand hx hb dX3_undo_35 (jx_nm fun z27 hz27 => ?_)
          refine jx_iald hx hb hw 28 0 rfl rfl (hE_in (n := 4) (ob496 ((z27).toInt) ((x3).toInt) (k5 : Int) (((0 : Int32)).toInt) ((z7).toInt) (hE_and 2 4 hz27 (by decide) (by decide) (by decide)) hrk_B2 (hE_nlt cc6) (hE_and 2 4 hz7 (by decide) (by decide) (by decide)) (hE_rng (z27)) (hE_rng (x3)) (by decide) (hE_rng (z7)))) dX3_undo_36 (fun z28 hz28 => ?_)
          refine lv_iconst (v := 1) hx hb dX3_undo_37 (by decide) ?_
          refine lv_iadd hx hb dX3_undo_38 (jx_nm fun z29 hz29 => ?_)
          refine lv_iconst (v := 1) hx hb dX3_undo_39 (by decide) ?_
          refine jx_Vv (As := [.int y2, .int (g 14), .int z29, .int 1]) (rest := []) ⟨hx, hb, hml, hown, hts⟩ hZ hw hA (jx_X9_delta_4 l hlt D t3 cI cJ ad g lg a4 bk _ y2 (g 14) z29 1) (cwV 4 hts (jx_gV wwX_good wX_337 wX_183 wX_184 wX_24 wX_185) rfl rfl rfl (by decide +kernel) ⟨Nat.le_of_ble_eq_true rfl, Nat.le_of_ble_eq_true rfl⟩) 4 (ci := 12) (T := TX9) (N := 2) rfl rfl rfl hl.1 rfl (Nat.le_of_ble_eq_true rfl) dX3_undo_40 ⟨Nat.le_of_ble_eq_true rfl, Nat.le_of_ble_eq_true rfl⟩ (fun _ _ _ _ _ _ _ _ hp _ _ _ _ => hp.elim) (fun g35 l36 a37 b38 H locs hp39 hw => ?_)
          obtain ⟨rfl, rfl, h42, rfl⟩ := hp39
          refine lv_goto (tgt := 56) hx hb dX3_undo_43 (by decide) ?_
          exact B9 a37 ls _ _ h42 hw (lv_sub hl [0, 1, 2, 3] rfl)
  exact B2 ((z1).toInt + 2147483649).toNat z1 ar ls _ _ (Int.self_le_toNat _) hk_fr0 hw (lv_sub hl [1, 2, 3, 0] rfl)

set_option maxHeartbeats 4000000 in
set_option maxRecDepth 100000 in
/-- X0_crc64 on (4,) -/
theorem jx_X0_crc64_4 (l : Launch) (hlt : l.stackTraces = false) (D : va_G) (t3 : Nat × Nat × Nat) (cI cJ : ClassId) (ad : Nat → Nat) (g : Nat → Int32) (lg : Nat → Int64) (ar : Nat → Nat → Int32) (bk : Nat → Int64) (sz : Nat) (y1 : Int32) (y2 : Int32) : JMl l yX0_crc64 (Cond.code yX0_crc64 cX0_crc64 7 (some .long) :: wwX) { frames := 1, cells := 1, slots := 6, locals := 21 } t3 D xw cI cJ ad [.ref (ad 4), .int y1, .int y2] (xw cI cJ ad g lg ar bk) sz 1 6 (fun (r : Int64) g' lg' ar' bk' => g = g' ∧ lg = lg' ∧ ar = ar' ∧ bk = bk') (fun g' lg' ar' bk' => False) := by
  refine jx_metl (cc := cX0_crc64) (maxL := 7) (ret := (some .long)) rfl (by decide) rfl (Nat.le_of_ble_eq_true rfl) ?_
  intro p e s m args below meth c ls Q A hx hb hml hown hts hA hZ hw hl hQ kr kt
  have hq : ∀ w ∈ wwX, w.before args s = true := fun w h => hts w (List.mem_cons_of_mem _ h)
  have hl : lv_has ls 7 [(0, .ref (ad 4)), (1, .int y1), (2, .int y2)] := hl
  refine lv_ldc2 (v := (-1)) hx hb hown (hq _ wX_27) dX0_crc64_0 ?_
  refine lv_lstore_n (lv' := [(3, .long (-1)), (0, .ref (ad 4)), (1, .int y1), (2, .int y2)]) hx hb dX0_crc64_3 rfl hl (by decide) rfl (fun ls hl => ?_)
  refine lv_iload_n hx hb dX0_crc64_4 rfl (lv_at hl 2 rfl) ?_
  refine lv_istore (lv' := [(5, .int y1), (3, .long (-1)), (0, .ref (ad 4)), (1, .int y1), (2, .int y2)]) hx hb dX0_crc64_5 hl (by decide) rfl (fun ls hl => ?_)
  have B1 : ∀ (k4 : Nat) (x2 : Int64) (x3 : Int32) (ls : Array Slot) (H : Heap) (locs : List Loc), (2147483648 - (x3).toInt ≤ (k4 : Int)) → hk_W D (jT cI cJ) A s H locs (xw cI cJ ad g lg ar bk) → lv_has ls 7 [(0, .ref (ad 4)), (2, .int y2), (3, .long x2), (5, .int x3)] → W p l e { frames := 1, cells := 1, slots := 6, locals := 21 } s m args below meth c H locs 0 0 Q (F0 m 7 ls []) := by
    intro k4
    induction k4 with
    | zero =>
      intro x2 x3 ls H locs hrk_B1 hw hl
      exact False.elim (hk_no0 (0 * (x3).toInt) (ob370 ((x3).toInt) hrk_B1 (hE_rng (x3))) (by simp))
    | succ k4 ih_B1 =>
      intro x2 x3 ls H locs hrk_B1 hw hl
      have hrk_B1 := hk_rk hrk_B1
      refine lv_iload hx hb dX0_crc64_7 (lv_at hl 3 rfl) ?_
      refine lv_iload_n hx hb dX0_crc64_9 rfl (lv_at hl 1 rfl) ?_
      refine lv_icmp_ge (tgt := 58) hx hb dX0_crc64_10 (by decide) (fun cc5 => ?_) (fun cc5 => ?_)
      · refine lv_lload_n hx hb dX0_crc64_58 rfl (lv_at hl 2 rfl) ?_
        refine lv_ldc2 (v := (-1)) hx hb hown (hq _ wX_27) dX0_crc64_59 ?_
        refine lv_lxor hx hb dX0_crc64_62 (jx_nl fun z6 hz6 => ?_)
        exact kr z6 g lg ar bk _ _ _ _ ⟨rfl, rfl, rfl, rfl⟩ hw dX0_crc64_63
      · refine lv_lload_n hx hb dX0_crc64_13 rfl (lv_at hl 2 rfl) ?_
        refine lv_aload_n hx hb dX0_crc64_14 rfl (lv_at hl 0 rfl) ?_
        refine lv_iload hx hb dX0_crc64_15 (lv_at hl 3 rfl) ?_
        refine jx_Vi (As := [.int x3]) (rest := [.long x2]) ⟨hx, hb, hml, hown, hts⟩ hZ hw hA (jx_X9_get_4 l hlt D t3 cI cJ ad g lg ar bk _ x3) (cwV 1 hts (jx_gV wwX_good wX_21 wX_22 wX_23 wX_24 wX_25) rfl rfl rfl (by decide +kernel) ⟨Nat.le_of_ble_eq_true rfl, Nat.le_of_ble_eq_true rfl⟩) 4 (ci := 12) (T := TX9) (N := 2) rfl rfl rfl hl.1 rfl (Nat.le_of_ble_eq_true rfl) dX0_crc64_17 ⟨Nat.le_of_ble_eq_true rfl, Nat.le_of_ble_eq_true rfl⟩ (fun _ _ _ _ _ _ _ _ hp _ _ _ _ => hp.elim) (fun r11 g12 l13 a14 b15 H locs hp16 hw => ?_)
        obtain ⟨rfl, rfl, rfl, rfl⟩ := hp16
        refine lv_i2l hx hb dX0_crc64_20 rfl (jx_nl fun z21 hz21 => ?_)
        refine lv_lxor hx hb dX0_crc64_21 (jx_nl fun z22 hz22 => ?_)
        refine lv_lstore_n (lv' := [(3, .long z22), (0, .ref (ad 4)), (2, .int y2), (5, .int x3)]) hx hb dX0_crc64_22 rfl hl (by decide) rfl (fun ls hl => ?_)
        refine lv_iconst (v := 0) hx hb dX0_crc64_23 (by decide) ?_
        refine lv_istore (lv' := [(6, .int 0), (3, .long z22), (0, .ref (ad 4)), (2, .int y2), (5, .int x3)]) hx hb dX0_crc64_24 hl (by decide) rfl (fun ls hl => ?_)
        have B23 : ∀ (k26 : Nat) (x24 : Int64) (x25 : Int32) (ls : Array Slot) (H : Heap) (locs : List Loc), (2147483648 - (x25).toInt ≤ (k26 : Int)) → (0 ≤ (x25).toInt) → hk_W D (jT cI cJ) A s H locs (xw cI cJ ad g lg ar bk) → lv_has ls 7 [(0, .ref (ad 4)), (2, .int y2), (3, .long x24), (5, .int x3), (6, .int x25)] → W p l e { frames := 1, cells := 1, slots := 6, locals := 21 } s m args below meth c H locs 0 0 Q (F0 m 26 ls []) := by
          intro k26
          induction k26 with
          | zero =>
            intro x24 x25 ls H locs hrk_B23 hf_B23_0 hw hl
            exact False.elim (hk_no0 (0 * (x25).toInt) (ob5 ((x25).toInt) hf_B23_0 hrk_B23 (hE_rng (x25))) (by simp))
          | succ k26 ih_B23 =>
            intro x24 x25 ls H locs hrk_B23 hf_B23_0 hw hl
            have hrk_B23 := hk_rk hrk_B23
            refine lv_iload hx hb dX0_crc64_26 (lv_at hl 4 rfl) ?_
            refine lv_bipush (v := 8) hx hb dX0_crc64_28 (by decide) ?_
            refine lv_icmp_ge (tgt := 52) hx hb dX0_crc64_30 (by decide) (fun cc27 => ?_) (fun cc27 => ?_)
            · obtain ⟨z28, hz28⟩ : ∃ z : Int32, x3 + 1 = z := ⟨_, rfl⟩
              refine lv_iinc (v := z28) (lv' := [(5, .int z28), (0, .ref (ad 4)), (2, .int y2), (3, .long x24), (6, .int x25)]) hx hb dX0_crc64_52 hl (k := 3) rfl hz28 (by decide) rfl (fun ls hl => ?_)
              have xz28 : (z28).toInt = (x3).toInt + ((1 : Int32)).toInt := (hE_imp (hE_add hz28) (ob388 ((x3).toInt) (((1 : Int32)).toInt) (k4 : Int) ((y2).toInt) hrk_B1 (hE_nle cc5) (hE_rng (x3)) (by decide) (hE_rng (y2))))
              refine lv_goto (tgt := 7) hx hb dX0_crc64_55 (by decide) ?_
              exact ih_B1 x24 z28 ls _ _ (ob389 ((z28).toInt) (k4 : Int) ((x3).toInt) (((1 : Int32)).toInt) ((y2).toInt) hrk_B1 xz28 (hE_nle cc5) (hE_rng (z28)) (hE_rng (x3)) (by decide) (hE_rng (y2))) hw (lv_sub hl [1, 2, 3, 0] rfl)
            · refine lv_lload_n hx hb dX0_crc64_33 rfl (lv_at hl 2 rfl) ?_
              refine lv_iconst (v := 1) hx hb dX0_crc64_34 (by decide) ?_
              refine lv_lushr hx hb dX0_crc64_35 rfl (jx_nl fun z29 hz29 => ?_)
              refine lv_ldc2 (v := (-3932672073523589310)) hx hb hown (hq _ wX_28) dX0_crc64_36 ?_
              refine lv_lload_n hx hb dX0_crc64_39 rfl (lv_at hl 2 rfl) ?_
              refine lv_lconst (v := 1) hx hb dX0_crc64_40 (by decide) ?_
              refine lv_land hx hb dX0_crc64_41 (jx_nl fun z30 hz30 => ?_)
              refine lv_lneg hx hb dX0_crc64_42 (jx_nl fun z31 hz31 => ?_)
              refine lv_land hx hb dX0_crc64_43 (jx_nl fun z32 hz32 => ?_)
              refine lv_lxor hx hb dX0_crc64_44 (jx_nl fun z33 hz33 => ?_)
              refine lv_lstore_n (lv' := [(3, .long z33), (0, .ref (ad 4)), (2, .int y2), (5, .int x3), (6, .int x25)]) hx hb dX0_crc64_45 rfl hl (by decide) rfl (fun ls hl => ?_)
              obtain ⟨z34, hz34⟩ : ∃ z : Int32, x25 + 1 = z := ⟨_, rfl⟩
              refine lv_iinc (v := z34) (lv' := [(6, .int z34), (3, .long z33), (0, .ref (ad 4)), (2, .int y2), (5, .int x3)]) hx hb dX0_crc64_46 hl (k := 4) rfl hz34 (by decide) rfl (fun ls hl => ?_)
              have xz34 : (z34).toInt = (x25).toInt + ((1 : Int32)).toInt := (hE_imp (hE_add hz34) (ob211 ((x25).toInt) (((1 : Int32)).toInt) (k26 : Int) (((8 : Int32)).toInt) hf_B23_0 hrk_B23 (hE_nle cc27) (hE_rng (x25)) (by decide) (by decide)))
              refine lv_goto (tgt := 26) hx hb dX0_crc64_49 (by decide) ?_
              exact ih_B23 z33 z34 ls _ _ (ob212 ((z34).toInt) (k26 : Int) ((x25).toInt) (((1 : Int32)).toInt) (((8 : Int32)).toInt) hrk_B23 xz34 hf_B23_0 (hE_nle cc27) (hE_rng (z34)) (hE_rng (x25)) (by decide) (by decide)) (ob213 ((z34).toInt) ((x25).toInt) (((1 : Int32)).toInt) (k26 : Int) (((8 : Int32)).toInt) xz34 hf_B23_0 hrk_B23 (hE_nle cc27) (hE_rng (z34)) (hE_rng (x25)) (by decide) (by decide)) hw (lv_sub hl [2, 3, 1, 4, 0] rfl)
        exact B23 (2147483648 - ((0 : Int32)).toInt).toNat z22 0 ls _ _ (Int.self_le_toNat _) (ob9 (((0 : Int32)).toInt) (by decide)) hw (lv_sub hl [2, 3, 1, 4, 0] rfl)
  exact B1 (2147483648 - (y1).toInt).toNat (-1) y1 ls _ _ (Int.self_le_toNat _) hw (lv_sub hl [2, 4, 1, 0] rfl)

set_option maxHeartbeats 4000000 in
set_option maxRecDepth 100000 in
/-- X0_shaByte on (4,) -/
theorem jx_X0_shaByte_4 (l : Launch) (hlt : l.stackTraces = false) (D : va_G) (t3 : Nat × Nat × Nat) (cI cJ : ClassId) (ad : Nat → Nat) (g : Nat → Int32) (lg : Nat → Int64) (ar : Nat → Nat → Int32) (bk : Nat → Int64) (sz : Nat) (y1 : Int32) (y2 : Int32) (y3 : Int32) : JMi l yX0_shaByte (Cond.code yX0_shaByte cX0_shaByte 4 (some .int) :: wwX) { frames := 1, cells := 1, slots := 6, locals := 21 } t3 D xw cI cJ ad [.ref (ad 4), .int y1, .int y2, .int y3] (xw cI cJ ad g lg ar bk) sz 1 6 (fun (r : Int32) g' lg' ar' bk' => g = g' ∧ lg = lg' ∧ ar = ar' ∧ bk = bk') (fun g' lg' ar' bk' => False) := by
  refine jx_meti (cc := cX0_shaByte) (maxL := 4) (ret := (some .int)) rfl (by decide) rfl (Nat.le_of_ble_eq_true rfl) ?_
  intro p e s m args below meth c ls Q A hx hb hml hown hts hA hZ hw hl hQ kr kt
  have hq : ∀ w ∈ wwX, w.before args s = true := fun w h => hts w (List.mem_cons_of_mem _ h)
  have hl : lv_has ls 4 [(0, .ref (ad 4)), (1, .int y1), (2, .int y2), (3, .int y3)] := hl
  refine lv_iload_n hx hb dX0_shaByte_0 rfl (lv_at hl 3 rfl) ?_
  refine lv_iload_n hx hb dX0_shaByte_1 rfl (lv_at hl 2 rfl) ?_
  refine lv_icmp_ge (tgt := 15) hx hb dX0_shaByte_2 (by decide) (fun cc1 => ?_) (fun cc1 => ?_)
  · refine lv_iload_n hx hb dX0_shaByte_15 rfl (lv_at hl 3 rfl) ?_
    refine lv_iload_n hx hb dX0_shaByte_16 rfl (lv_at hl 2 rfl) ?_
    refine lv_icmp_ne (tgt := 26) hx hb dX0_shaByte_17 (by decide) (fun cc2 => ?_) (fun cc2 => ?_)
    · refine lv_iconst (v := 0) hx hb dX0_shaByte_26 (by decide) ?_
      exact kr 0 g lg ar bk _ _ _ _ ⟨rfl, rfl, rfl, rfl⟩ hw dX0_shaByte_27
    · refine lv_sipush (v := 128) hx hb dX0_shaByte_20 (by decide) ?_
      refine lv_goto (tgt := 27) hx hb dX0_shaByte_23 (by decide) ?_
      exact kr 128 g lg ar bk _ _ _ _ ⟨rfl, rfl, rfl, rfl⟩ hw dX0_shaByte_27
  · refine lv_aload_n hx hb dX0_shaByte_5 rfl (lv_at hl 0 rfl) ?_
    refine lv_iload_n hx hb dX0_shaByte_6 rfl (lv_at hl 1 rfl) ?_
    refine lv_iload_n hx hb dX0_shaByte_7 rfl (lv_at hl 3 rfl) ?_
    refine lv_iadd hx hb dX0_shaByte_8 (jx_nm fun z3 hz3 => ?_)
    refine jx_Vi (As := [.int z3]) (rest := []) ⟨hx, hb, hml, hown, hts⟩ hZ hw hA (jx_X9_get_4 l hlt D t3 cI cJ ad g lg ar bk _ z3) (cwV 1 hts (jx_gV wwX_good wX_21 wX_22 wX_23 wX_24 wX_25) rfl rfl rfl (by decide +kernel) ⟨Nat.le_of_ble_eq_true rfl, Nat.le_of_ble_eq_true rfl⟩) 4 (ci := 12) (T := TX9) (N := 2) rfl rfl rfl hl.1 rfl (Nat.le_of_ble_eq_true rfl) dX0_shaByte_9 ⟨Nat.le_of_ble_eq_true rfl, Nat.le_of_ble_eq_true rfl⟩ (fun _ _ _ _ _ _ _ _ hp _ _ _ _ => hp.elim) (fun r8 g9 l10 a11 b12 H locs hp13 hw => ?_)
    obtain ⟨rfl, rfl, rfl, rfl⟩ := hp13
    refine lv_goto (tgt := 27) hx hb dX0_shaByte_12 (by decide) ?_
    exact kr r8 g lg ar bk _ _ _ _ ⟨rfl, rfl, rfl, rfl⟩ hw dX0_shaByte_27

set_option maxHeartbeats 4000000 in
set_option maxRecDepth 100000 in
/-- X0_sha256 on (11, 4) -/
theorem jx_X0_sha256_4 (l : Launch) (hlt : l.stackTraces = false) (D : va_G) (t3 : Nat × Nat × Nat) (cI cJ : ClassId) (ad : Nat → Nat) (g : Nat → Int32) (lg : Nat → Int64) (ar : Nat → Nat → Int32) (bk : Nat → Int64) (sz : Nat) (y2 : Int32) (y3 : Int32) : JMv l yX0_sha256 (Cond.code yX0_sha256 cX0_sha256 10 none :: wwX) { frames := 3, cells := 1, slots := 6, locals := 75 } t3 D xw cI cJ ad [.ref (ad 11), .ref (ad 4), .int y2, .int y3] (xw cI cJ ad g lg ar bk) sz 1 6 (fun g' lg' ar' bk' => g = g' ∧ lg = lg' ∧ hk_fr [3, 4, 5] ar ar' ∧ bk = bk') (fun g' lg' ar' bk' => False) := by
  refine jx_metv (cc := cX0_sha256) (maxL := 10) (ret := none) rfl (by decide) rfl (Nat.le_of_ble_eq_true rfl) ?_
  intro p e s m args below meth c ls Q A hx hb hml hown hts hA hZ hw hl hQ kr kt
  have hq : ∀ w ∈ wwX, w.before args s = true := fun w h => hts w (List.mem_cons_of_mem _ h)
  have hl : lv_has ls 10 [(0, .ref (ad 11)), (1, .ref (ad 4)), (2, .int y2), (3, .int y3)] := hl
  refine hk_gets hx hb hZ.2.2.2.1 hw hown (hq _ wX_43) dX0_sha256_0 ?_
  refine lv_iconst (v := 0) hx hb dX0_sha256_3 (by decide) ?_
  refine lv_aload_n hx hb dX0_sha256_4 rfl (lv_at hl 0 rfl) ?_
  refine hk_get (ci := 3) (C := RX0) (T := TX0) (N := 3) (v := .ref (ad 12)) hx hb hts (fun _ h => List.mem_cons_of_mem _ (wwXc_wsX00 _ h)) hown hw 11 rfl rfl 0 (by decide) (hq _ wX_9) rfl dX0_sha256_5 ?_
  refine lv_iconst (v := 0) hx hb dX0_sha256_8 (by decide) ?_
  refine lv_bipush (v := 8) hx hb dX0_sha256_9 (by decide) ?_
  refine hk_copyT hx hb (by rw [hml]; exact hl.1.symm) hown (hq _ wX_34) (hq _ wX_35) (hq _ wX_36) (hq _ wX_37) hw hZ.2.2.2.1 12 0 rfl rfl (by decide) (by decide) (by decide) (by decide +kernel) (by decide +kernel) (Nat.le_of_ble_eq_true rfl) (by decide +kernel) dX0_sha256_11 rfl (fun H locs hw => ?_)
  obtain ⟨a1, h_a1, hw⟩ := jx_nar xw (g := g) (lg := lg) (ar := ar) (bk := bk) 3 hw rfl
  refine lv_iload_n hx hb dX0_sha256_14 rfl (lv_at hl 3 rfl) ?_
  refine lv_iload_n hx hb dX0_sha256_15 rfl (lv_at hl 2 rfl) ?_
  refine lv_isub hx hb dX0_sha256_16 (jx_nm fun z2 hz2 => ?_)
  refine lv_istore (lv' := [(4, .int z2), (0, .ref (ad 11)), (1, .ref (ad 4)), (2, .int y2), (3, .int y3)]) hx hb dX0_sha256_17 hl (by decide) rfl (fun ls hl => ?_)
  refine lv_iload hx hb dX0_sha256_19 (lv_at hl 0 rfl) ?_
  refine lv_bipush (v := 72) hx hb dX0_sha256_21 (by decide) ?_
  refine lv_iadd hx hb dX0_sha256_23 (jx_nm fun z3 hz3 => ?_)
  refine lv_bipush (v := (-64)) hx hb dX0_sha256_24 (by decide) ?_
  refine lv_iand hx hb dX0_sha256_26 (jx_nm fun z4 hz4 => ?_)
  refine lv_istore (lv' := [(5, .int z4), (4, .int z2), (0, .ref (ad 11)), (1, .ref (ad 4)), (2, .int y2), (3, .int y3)]) hx hb dX0_sha256_27 hl (by decide) rfl (fun ls hl => ?_)
  refine lv_iconst (v := 0) hx hb dX0_sha256_29 (by decide) ?_
  refine lv_istore (lv' := [(6, .int 0), (5, .int z4), (4, .int z2), (0, .ref (ad 11)), (1, .ref (ad 4)), (2, .int y2), (3, .int y3)]) hx hb dX0_sha256_30 hl (by decide) rfl (fun ls hl => ?_)
  have B5 : ∀ (k8 : Nat) (x6 : Int32) (a7 : Nat → Nat → Int32) (ls : Array Slot) (H : Heap) (locs : List Loc), (2147483648 - (x6).toInt ≤ (k8 : Int)) → ((x6).toInt % 64 = 0) → (0 ≤ (x6).toInt) → (hk_fr [3, 4, 5] a1 a7) → hk_W D (jT cI cJ) A s H locs (xw cI cJ ad g lg a7 bk) → lv_has ls 10 [(0, .ref (ad 11)), (1, .ref (ad 4)), (2, .int y2), (4, .int z2), (5, .int z4), (6, .int x6)] → W p l e { frames := 3, cells := 1, slots := 6, locals := 75 } s m args below meth c H locs 0 0 Q (F0 m 32 ls []) := by
    intro k8
    induction k8 with
    | zero =>
      intro x6 a7 ls H locs hrk_B5 hf_B5_0 hf_B5_1 hfr_a7 hw hl
      exact False.elim (hk_no0 (0 * (x6).toInt) (ob390 ((x6).toInt) hf_B5_0 hf_B5_1 hrk_B5 (hE_rng (x6))) (by simp))
    | succ k8 ih_B5 =>
      intro x6 a7 ls H locs hrk_B5 hf_B5_0 hf_B5_1 hfr_a7 hw hl
      have hrk_B5 := hk_rk hrk_B5
      refine lv_iload hx hb dX0_sha256_32 (lv_at hl 5 rfl) ?_
      refine lv_iload hx hb dX0_sha256_34 (lv_at hl 4 rfl) ?_
      refine lv_icmp_ge (tgt := 139) hx hb dX0_sha256_36 (by decide) (fun cc9 => ?_) (fun cc9 => ?_)
      · exact kr g lg a7 bk _ _ _ _ ⟨rfl, rfl, (hk_frT (hk_frA hk_fr0 (by decide) h_a1) (by decide) hfr_a7), rfl⟩ hw dX0_sha256_139
      · refine lv_iconst (v := 0) hx hb dX0_sha256_39 (by decide) ?_
        refine lv_istore (lv' := [(7, .int 0), (0, .ref (ad 11)), (1, .ref (ad 4)), (2, .int y2), (4, .int z2), (5, .int z4), (6, .int x6)]) hx hb dX0_sha256_40 hl (by decide) rfl (fun ls hl => ?_)
        have B10 : ∀ (k13 : Nat) (x11 : Int32) (a12 : Nat → Nat → Int32) (ls : Array Slot) (H : Heap) (locs : List Loc), (2147483648 - (x11).toInt ≤ (k13 : Int)) → (0 ≤ (x11).toInt) → (hk_fr [5] a7 a12) → hk_W D (jT cI cJ) A s H locs (xw cI cJ ad g lg a12 bk) → lv_has ls 10 [(0, .ref (ad 11)), (1, .ref (ad 4)), (2, .int y2), (4, .int z2), (5, .int z4), (6, .int x6), (7, .int x11)] → W p l e { frames := 3, cells := 1, slots := 6, locals := 75 } s m args below meth c H locs 0 0 Q (F0 m 42 ls []) := by
          intro k13
          induction k13 with
          | zero =>
            intro x11 a12 ls H locs hrk_B10 hf_B10_0 hfr_a12 hw hl
            exact False.elim (hk_no0 (0 * (x11).toInt) (ob5 ((x11).toInt) hf_B10_0 hrk_B10 (hE_rng (x11))) (by simp))
          | succ k13 ih_B10 =>
            intro x11 a12 ls H locs hrk_B10 hf_B10_0 hfr_a12 hw hl
            have hrk_B10 := hk_rk hrk_B10
            refine lv_iload hx hb dX0_sha256_42 (lv_at hl 6 rfl) ?_
            refine lv_bipush (v := 16) hx hb dX0_sha256_44 (by decide) ?_
            refine lv_icmp_ge (tgt := 107) hx hb dX0_sha256_46 (by decide) (fun cc14 => ?_) (fun cc14 => ?_)
            · refine lv_iload hx hb dX0_sha256_107 (lv_at hl 5 rfl) ?_
              refine lv_bipush (v := 64) hx hb dX0_sha256_109 (by decide) ?_
              refine lv_iadd hx hb dX0_sha256_111 (jx_nm fun z15 hz15 => ?_)
              refine lv_iload hx hb dX0_sha256_112 (lv_at hl 4 rfl) ?_
              have B16 : ∀  (a17 : Nat → Nat → Int32) (ls : Array Slot) (H : Heap) (locs : List Loc), (hk_fr [5] a12 a17) → hk_W D (jT cI cJ) A s H locs (xw cI cJ ad g lg a17 bk) → lv_has ls 10 [(0, .ref (ad 11)), (1, .ref (ad 4)), (2, .int y2), (4, .int z2), (5, .int z4), (6, .int x6)] → W p l e { frames := 3, cells := 1, slots := 6, locals := 75 } s m args below meth c H locs 0 0 Q (F0 m 129 ls []) := by
                intro a17 ls H locs hfr_a17 hw hl
                refine lv_aload_n hx hb dX0_sha256_129 rfl (lv_at hl 0 rfl) ?_
                refine jx_Vv (As := []) (rest := []) ⟨hx, hb, hml, hown, hts⟩ hZ hw hA (jx_X0_mixBlock l hlt D t3 cI cJ ad g lg a17 bk _) (cwV 0 hts (jx_gV wwX_good wX_47 wX_48 wX_49 wX_12 wX_50) rfl rfl rfl (by decide +kernel) ⟨Nat.le_of_ble_eq_true rfl, Nat.le_of_ble_eq_true rfl⟩) 11 (ci := 3) (T := TX0) (N := 3) rfl rfl rfl hl.1 rfl (Nat.le_of_ble_eq_true rfl) dX0_sha256_130 ⟨Nat.le_of_ble_eq_true rfl, Nat.le_of_ble_eq_true rfl⟩ (fun _ _ _ _ _ _ _ _ hp _ _ _ _ => hp.elim) (fun g23 l24 a25 b26 H locs hp27 hw => ?_)
                obtain ⟨rfl, rfl, h30, rfl⟩ := hp27
                obtain ⟨z32, hz32⟩ : ∃ z : Int32, x6 + 64 = z := ⟨_, rfl⟩
                refine lv_iinc (v := z32) (lv' := [(6, .int z32), (0, .ref (ad 11)), (1, .ref (ad 4)), (2, .int y2), (4, .int z2), (5, .int z4)]) hx hb dX0_sha256_133 hl (k := 5) rfl hz32 (by decide) rfl (fun ls hl => ?_)
                refine lv_goto (tgt := 32) hx hb dX0_sha256_136 (by decide) ?_
                exact ih_B5 z32 a25 ls _ _ (ob391 ((z32).toInt) (k8 : Int) ((x6).toInt) (((64 : Int32)).toInt) ((z4).toInt) ((z15).toInt) ((z3).toInt) ((z2).toInt) (((72 : Int32)).toInt) ((y3).toInt) ((y2).toInt) hrk_B5 (hE_add hz32) hf_B5_0 hf_B5_1 (hE_nle cc9) (hE_add hz15) (hE_andN 6 64 hz4 (by decide) (by decide) (by decide)) (hE_add hz3) (hE_sub hz2) (hE_rng (z32)) (hE_rng (x6)) (by decide) (hE_rng (z4)) (hE_rng (z15)) (hE_rng (z3)) (hE_rng (z2)) (by decide) (hE_rng (y3)) (hE_rng (y2))) (ob392 ((z32).toInt) ((x6).toInt) (((64 : Int32)).toInt) (k8 : Int) ((z4).toInt) ((z15).toInt) ((z3).toInt) ((z2).toInt) (((72 : Int32)).toInt) ((y3).toInt) ((y2).toInt) (hE_add hz32) hf_B5_0 hf_B5_1 hrk_B5 (hE_nle cc9) (hE_add hz15) (hE_andN 6 64 hz4 (by decide) (by decide) (by decide)) (hE_add hz3) (hE_sub hz2) (hE_rng (z32)) (hE_rng (x6)) (by decide) (hE_rng (z4)) (hE_rng (z15)) (hE_rng (z3)) (hE_rng (z2)) (by decide) (hE_rng (y3)) (hE_rng (y2))) (ob393 ((z32).toInt) ((x6).toInt) (((64 : Int32)).toInt) (k8 : Int) ((z4).toInt) ((z15).toInt) ((z3).toInt) ((z2).toInt) (((72 : Int32)).toInt) ((y3).toInt) ((y2).toInt) (hE_add hz32) hf_B5_0 hf_B5_1 hrk_B5 (hE_nle cc9) (hE_add hz15) (hE_andN 6 64 hz4 (by decide) (by decide) (by decide)) (hE_add hz3) (hE_sub hz2) (hE_rng (z32)) (hE_rng (x6)) (by decide) (hE_rng (z4)) (hE_rng (z15)) (hE_rng (z3)) (hE_rng (z2)) (by decide) (hE_rng (y3)) (hE_rng (y2))) (hk_frT (hk_frT (hk_frT hfr_a7 (by decide) hfr_a12) (by decide) hfr_a17) (by decide) h30) hw (lv_sub hl [1, 2, 3, 4, 5, 0] rfl)
              refine lv_icmp_ne (tgt := 129) hx hb dX0_sha256_114 (by decide) (fun cc33 => ?_) (fun cc33 => ?_)
              · exact B16 a12 ls _ _ hk_fr0 hw (lv_sub hl [0, 1, 2, 3, 4, 5] rfl)
              · refine lv_aload_n hx hb dX0_sha256_117 rfl (lv_at hl 0 rfl) ?_
                refine hk_get (ci := 3) (C := RX0) (T := TX0) (N := 3) (v := .ref (ad 14)) hx hb hts (fun _ h => List.mem_cons_of_mem _ (wwXc_wsX00 _ h)) hown hw 11 rfl rfl 2 (by decide) (hq _ wX_29) rfl dX0_sha256_118 ?_
                refine lv_bipush (v := 15) hx hb dX0_sha256_121 (by decide) ?_
                refine lv_iload hx hb dX0_sha256_123 (lv_at hl 3 rfl) ?_
                refine lv_bipush (v := 8) hx hb dX0_sha256_125 (by decide) ?_
                refine lv_imul hx hb dX0_sha256_127 (jx_nm fun z34 hz34 => ?_)
                refine jx_iast xw (g := g) (lg := lg) (ar := a12) (bk := bk) 5 hx hb hw 14 0 rfl rfl (show ¬ (_ ∨ _) by decide) dX0_sha256_128 rfl (fun H locs a35 h_a35 hw => ?_)
                exact B16 a35 ls _ _ (hk_frA hk_fr0 (by decide) h_a35) hw (lv_sub hl [0, 1, 2, 3, 4, 5] rfl)
            · refine lv_iconst (v := 0) hx hb dX0_sha256_49 (by decide) ?_
              refine lv_istore (lv' := [(8, .int 0), (0, .ref (ad 11)), (1, .ref (ad 4)), (2, .int y2), (4, .int z2), (5, .int z4), (6, .int x6), (7, .int x11)]) hx hb dX0_sha256_50 hl (by decide) rfl (fun ls hl => ?_)
              refine lv_iconst (v := 0) hx hb dX0_sha256_52 (by decide) ?_
              refine lv_istore (lv' := [(9, .int 0), (8, .int 0), (0, .ref (ad 11)), (1, .ref (ad 4)), (2, .int y2), (4, .int z2), (5, .int z4), (6, .int x6), (7, .int x11)]) hx hb dX0_sha256_53 hl (by decide) rfl (fun ls hl => ?_)
              have B36 : ∀ (k39 : Nat) (x37 : Int32) (x38 : Int32) (ls : Array Slot) (H : Heap) (locs : List Loc), (2147483648 - (x38).toInt ≤ (k39 : Int)) → (0 ≤ (x38).toInt) → hk_W D (jT cI cJ) A s H locs (xw cI cJ ad g lg a12 bk) → lv_has ls 10 [(0, .ref (ad 11)), (1, .ref (ad 4)), (2, .int y2), (4, .int z2), (5, .int z4), (6, .int x6), (7, .int x11), (8, .int x37), (9, .int x38)] → W p l e { frames := 3, cells := 1, slots := 6, locals := 75 } s m args below meth c H locs 0 0 Q (F0 m 55 ls []) := by
                intro k39
                induction k39 with
                | zero =>
                  intro x37 x38 ls H locs hrk_B36 hf_B36_0 hw hl
                  exact False.elim (hk_no0 (0 * (x38).toInt) (ob5 ((x38).toInt) hf_B36_0 hrk_B36 (hE_rng (x38))) (by simp))
                | succ k39 ih_B36 =>
                  intro x37 x38 ls H locs hrk_B36 hf_B36_0 hw hl
                  have hrk_B36 := hk_rk hrk_B36
                  refine lv_iload hx hb dX0_sha256_55 (lv_at hl 8 rfl) ?_
                  refine lv_iconst (v := 4) hx hb dX0_sha256_57 (by decide) ?_
                  refine lv_icmp_ge (tgt := 92) hx hb dX0_sha256_58 (by decide) (fun cc40 => ?_) (fun cc40 => ?_)
                  · refine lv_aload_n hx hb dX0_sha256_92 rfl (lv_at hl 0 rfl) ?_
                    refine hk_get (ci := 3) (C := RX0) (T := TX0) (N := 3) (v := .ref (ad 14)) hx hb hts (fun _ h => List.mem_cons_of_mem _ (wwXc_wsX00 _ h)) hown hw 11 rfl rfl 2 (by decide) (hq _ wX_29) rfl dX0_sha256_93 ?_
                    refine lv_iload hx hb dX0_sha256_96 (lv_at hl 6 rfl) ?_
                    refine lv_iload hx hb dX0_sha256_98 (lv_at hl 7 rfl) ?_
                    refine jx_iast xw (g := g) (lg := lg) (ar := a12) (bk := bk) 5 hx hb hw 14 0 rfl rfl (hE_in (n := 64) (ob394 ((x11).toInt) (k13 : Int) (((16 : Int32)).toInt) hf_B10_0 hrk_B10 (hE_nle cc14) (hE_rng (x11)) (by decide))) dX0_sha256_100 rfl (fun H locs a41 h_a41 hw => ?_)
                    obtain ⟨z42, hz42⟩ : ∃ z : Int32, x11 + 1 = z := ⟨_, rfl⟩
                    refine lv_iinc (v := z42) (lv' := [(7, .int z42), (0, .ref (ad 11)), (1, .ref (ad 4)), (2, .int y2), (4, .int z2), (5, .int z4), (6, .int x6), (8, .int x37), (9, .int x38)]) hx hb dX0_sha256_101 hl (k := 6) rfl hz42 (by decide) rfl (fun ls hl => ?_)
                    have xz42 : (z42).toInt = (x11).toInt + ((1 : Int32)).toInt := (hE_imp (hE_add hz42) (ob395 ((x11).toInt) (((1 : Int32)).toInt) (k13 : Int) (((16 : Int32)).toInt) hf_B10_0 hrk_B10 (hE_nle cc14) (hE_rng (x11)) (by decide) (by decide)))
                    refine lv_goto (tgt := 42) hx hb dX0_sha256_104 (by decide) ?_
                    exact ih_B10 z42 a41 ls _ _ (ob396 ((z42).toInt) (k13 : Int) ((x11).toInt) (((1 : Int32)).toInt) (((16 : Int32)).toInt) hrk_B10 xz42 hf_B10_0 (hE_nle cc14) (hE_rng (z42)) (hE_rng (x11)) (by decide) (by decide)) (ob397 ((z42).toInt) ((x11).toInt) (((1 : Int32)).toInt) (k13 : Int) (((16 : Int32)).toInt) xz42 hf_B10_0 hrk_B10 (hE_nle cc14) (hE_rng (z42)) (hE_rng (x11)) (by decide) (by decide)) (hk_frA hfr_a12 (by decide) h_a41) hw (lv_sub hl [1, 2, 3, 4, 5, 6, 0] rfl)
                  · refine lv_iload hx hb dX0_sha256_61 (lv_at hl 7 rfl) ?_
                    refine lv_bipush (v := 8) hx hb dX0_sha256_63 (by decide) ?_
                    refine lv_ishl hx hb dX0_sha256_65 (jx_nm fun z43 hz43 => ?_)
                    refine lv_aload_n hx hb dX0_sha256_66 rfl (lv_at hl 1 rfl) ?_
                    refine lv_iload_n hx hb dX0_sha256_67 rfl (lv_at hl 2 rfl) ?_
                    refine lv_iload hx hb dX0_sha256_68 (lv_at hl 3 rfl) ?_
                    refine lv_iload hx hb dX0_sha256_70 (lv_at hl 5 rfl) ?_
                    refine lv_iconst (v := 4) hx hb dX0_sha256_72 (by decide) ?_
                    refine lv_iload hx hb dX0_sha256_73 (lv_at hl 6 rfl) ?_
                    refine lv_imul hx hb dX0_sha256_75 (jx_nm fun z44 hz44 => ?_)
                    have xz44 : (z44).toInt = (x11).toInt * 4 := (hE_imp (hE_mul' 4 hz44 (by decide)) (ob398 ((x11).toInt) (k13 : Int) (((16 : Int32)).toInt) hf_B10_0 hrk_B10 (hE_nle cc14) (hE_rng (x11)) (by decide)))
                    refine lv_iadd hx hb dX0_sha256_76 (jx_nm fun z45 hz45 => ?_)
                    refine lv_iload hx hb dX0_sha256_77 (lv_at hl 8 rfl) ?_
                    refine lv_iadd hx hb dX0_sha256_79 (jx_nm fun z46 hz46 => ?_)
                    refine jx_Si (As := [.ref (ad 4), .int y2, .int z2, .int z46]) (rest := [.int z43]) ⟨hx, hb, hml, hown, hts⟩ hZ hw hA (jx_X0_shaByte_4 l hlt D t3 cI cJ ad g lg a12 bk _ y2 z2 z46) (va_cwS 4 hts (jx_gS wwX_good wX_44 wX_45 wX_12 wX_46) rfl rfl rfl (by decide +kernel) ⟨Nat.le_of_ble_eq_true rfl, Nat.le_of_ble_eq_true rfl⟩) rfl hl.1 rfl (Nat.le_of_ble_eq_true rfl) dX0_sha256_80 ⟨Nat.le_of_ble_eq_true rfl, Nat.le_of_ble_eq_true rfl⟩ (fun _ _ _ _ _ _ _ _ hp _ _ _ _ => hp.elim) (fun r51 g52 l53 a54 b55 H locs hp56 hw => ?_)
                    obtain ⟨rfl, rfl, rfl, rfl⟩ := hp56
                    refine lv_ior hx hb dX0_sha256_83 (jx_nm fun z61 hz61 => ?_)
                    refine lv_istore (lv' := [(8, .int z61), (0, .ref (ad 11)), (1, .ref (ad 4)), (2, .int y2), (4, .int z2), (5, .int z4), (6, .int x6), (7, .int x11), (9, .int x38)]) hx hb dX0_sha256_84 hl (by decide) rfl (fun ls hl => ?_)
                    obtain ⟨z62, hz62⟩ : ∃ z : Int32, x38 + 1 = z := ⟨_, rfl⟩
                    refine lv_iinc (v := z62) (lv' := [(9, .int z62), (8, .int z61), (0, .ref (ad 11)), (1, .ref (ad 4)), (2, .int y2), (4, .int z2), (5, .int z4), (6, .int x6), (7, .int x11)]) hx hb dX0_sha256_86 hl (k := 8) rfl hz62 (by decide) rfl (fun ls hl => ?_)
                    have xz62 : (z62).toInt = (x38).toInt + ((1 : Int32)).toInt := (hE_imp (hE_add hz62) (ob399 ((x38).toInt) (((1 : Int32)).toInt) (k39 : Int) (((4 : Int32)).toInt) ((z46).toInt) ((z45).toInt) ((x6).toInt) ((z44).toInt) (k8 : Int) ((z4).toInt) ((x11).toInt) ((z3).toInt) (k13 : Int) (((16 : Int32)).toInt) ((z2).toInt) (((72 : Int32)).toInt) hf_B36_0 hrk_B36 (hE_nle cc40) (hE_add hz46) (hE_add hz45) hf_B5_0 hf_B5_1 hrk_B5 (hE_nle cc9) xz44 (hE_andN 6 64 hz4 (by decide) (by decide) (by decide)) hf_B10_0 hrk_B10 (hE_nle cc14) (hE_add hz3) (hE_rng (x38)) (by decide) (by decide) (hE_rng (z46)) (hE_rng (z45)) (hE_rng (x6)) (hE_rng (z44)) (hE_rng (z4)) (hE_rng (x11)) (hE_rng (z3)) (by decide) (hE_rng (z2)) (by decide)))
                    refine lv_goto (tgt := 55) hx hb dX0_sha256_89 (by decide) ?_
                    exact ih_B36 z61 z62 ls _ _ (ob400 ((z62).toInt) (k39 : Int) ((x38).toInt) (((1 : Int32)).toInt) (((4 : Int32)).toInt) ((z46).toInt) ((z45).toInt) ((x6).toInt) ((z44).toInt) (k8 : Int) ((z4).toInt) ((x11).toInt) ((z3).toInt) (k13 : Int) (((16 : Int32)).toInt) hrk_B36 xz62 hf_B36_0 (hE_nle cc40) (hE_add hz46) (hE_add hz45) hf_B5_0 hf_B5_1 hrk_B5 (hE_nle cc9) xz44 (hE_andN 6 64 hz4 (by decide) (by decide) (by decide)) hf_B10_0 hrk_B10 (hE_nle cc14) (hE_rng (z62)) (hE_rng (x38)) (by decide) (by decide) (hE_rng (z46)) (hE_rng (z45)) (hE_rng (x6)) (hE_rng (z44)) (hE_rng (z4)) (hE_rng (x11)) (hE_rng (z3)) (by decide)) (ob401 ((z62).toInt) ((x38).toInt) (((1 : Int32)).toInt) (k39 : Int) (((4 : Int32)).toInt) ((z46).toInt) ((z45).toInt) ((x6).toInt) ((z44).toInt) (k8 : Int) ((z4).toInt) ((x11).toInt) ((z3).toInt) (k13 : Int) (((16 : Int32)).toInt) xz62 hf_B36_0 hrk_B36 (hE_nle cc40) (hE_add hz46) (hE_add hz45) hf_B5_0 hf_B5_1 hrk_B5 (hE_nle cc9) xz44 (hE_andN 6 64 hz4 (by decide) (by decide) (by decide)) hf_B10_0 hrk_B10 (hE_nle cc14) (hE_rng (z62)) (hE_rng (x38)) (by decide) (by decide) (hE_rng (z46)) (hE_rng (z45)) (hE_rng (x6)) (hE_rng (z44)) (hE_rng (z4)) (hE_rng (x11)) (hE_rng (z3)) (by decide)) hw (lv_sub hl [2, 3, 4, 5, 6, 7, 8, 1, 0] rfl)
              exact B36 (2147483648 - ((0 : Int32)).toInt).toNat 0 0 ls _ _ (Int.self_le_toNat _) (ob9 (((0 : Int32)).toInt) (by decide)) hw (lv_sub hl [2, 3, 4, 5, 6, 7, 8, 1, 0] rfl)
        exact B10 (2147483648 - ((0 : Int32)).toInt).toNat 0 a7 ls _ _ (Int.self_le_toNat _) (ob9 (((0 : Int32)).toInt) (by decide)) hk_fr0 hw (lv_sub hl [1, 2, 3, 4, 5, 6, 0] rfl)
  exact B5 (2147483648 - ((0 : Int32)).toInt).toNat 0 a1 ls _ _ (Int.self_le_toNat _) (ob402 (((0 : Int32)).toInt) (by decide)) (ob9 (((0 : Int32)).toInt) (by decide)) hk_fr0 hw (lv_sub hl [3, 4, 5, 2, 1, 0] rfl)

set_option maxHeartbeats 4000000 in
set_option maxRecDepth 100000 in
/-- X0_compute on (11, 4) -/
theorem jx_X0_compute_4 (l : Launch) (hlt : l.stackTraces = false) (D : va_G) (t3 : Nat × Nat × Nat) (cI cJ : ClassId) (ad : Nat → Nat) (g : Nat → Int32) (lg : Nat → Int64) (ar : Nat → Nat → Int32) (bk : Nat → Int64) (sz : Nat) (y1 : Int32) (y3 : Int32) (y4 : Int32) : JMv l yX0_compute (Cond.code yX0_compute cX0_compute 7 none :: wwX) { frames := 4, cells := 1, slots := 6, locals := 104 } t3 D xw cI cJ ad [.ref (ad 11), .int y1, .ref (ad 4), .int y3, .int y4] (xw cI cJ ad g lg ar bk) sz 1 6 (fun g' lg' ar' bk' => g = g' ∧ lg = lg' ∧ hk_fr [3, 4, 5] ar ar' ∧ bk = bk') (fun g' lg' ar' bk' => False) := by
  refine jx_metv (cc := cX0_compute) (maxL := 7) (ret := none) rfl (by decide) rfl (Nat.le_of_ble_eq_true rfl) ?_
  intro p e s m args below meth c ls Q A hx hb hml hown hts hA hZ hw hl hQ kr kt
  have hq : ∀ w ∈ wwX, w.before args s = true := fun w h => hts w (List.mem_cons_of_mem _ h)
  have hl : lv_has ls 7 [(0, .ref (ad 11)), (1, .int y1), (2, .ref (ad 4)), (3, .int y3), (4, .int y4)] := hl
  refine lv_iload_n hx hb dX0_compute_0 rfl (lv_at hl 1 rfl) ?_
  refine lv_iconst (v := 1) hx hb dX0_compute_1 (by decide) ?_
  refine lv_icmp_ne (tgt := 21) hx hb dX0_compute_2 (by decide) (fun cc1 => ?_) (fun cc1 => ?_)
  · refine lv_iload_n hx hb dX0_compute_21 rfl (lv_at hl 1 rfl) ?_
    refine lv_iconst (v := 4) hx hb dX0_compute_22 (by decide) ?_
    refine lv_icmp_ne (tgt := 59) hx hb dX0_compute_23 (by decide) (fun cc2 => ?_) (fun cc2 => ?_)
    · refine lv_iload_n hx hb dX0_compute_59 rfl (lv_at hl 1 rfl) ?_
      refine lv_bipush (v := 10) hx hb dX0_compute_60 (by decide) ?_
      refine lv_icmp_ne (tgt := 73) hx hb dX0_compute_62 (by decide) (fun cc3 => ?_) (fun cc3 => ?_)
      · exact kr g lg ar bk _ _ _ _ ⟨rfl, rfl, hk_fr0, rfl⟩ hw dX0_compute_73
      · refine lv_aload_n hx hb dX0_compute_65 rfl (lv_at hl 0 rfl) ?_
        refine lv_aload_n hx hb dX0_compute_66 rfl (lv_at hl 2 rfl) ?_
        refine lv_iload_n hx hb dX0_compute_67 rfl (lv_at hl 3 rfl) ?_
        refine lv_iload hx hb dX0_compute_68 (lv_at hl 4 rfl) ?_
        refine jx_Vv (As := [.ref (ad 4), .int y3, .int y4]) (rest := []) ⟨hx, hb, hml, hown, hts⟩ hZ hw hA (jx_X0_sha256_4 l hlt D t3 cI cJ ad g lg ar bk _ y3 y4) (cwV 3 hts (jx_gV wwX_good wX_17 wX_18 wX_19 wX_12 wX_20) rfl rfl rfl (by decide +kernel) ⟨Nat.le_of_ble_eq_true rfl, Nat.le_of_ble_eq_true rfl⟩) 11 (ci := 3) (T := TX0) (N := 3) rfl rfl rfl hl.1 rfl (Nat.le_of_ble_eq_true rfl) dX0_compute_70 ⟨Nat.le_of_ble_eq_true rfl, Nat.le_of_ble_eq_true rfl⟩ (fun _ _ _ _ _ _ _ _ hp _ _ _ _ => hp.elim) (fun g9 l10 a11 b12 H locs hp13 hw => ?_)
        obtain ⟨rfl, rfl, h16, rfl⟩ := hp13
        exact kr g lg a11 bk _ _ _ _ ⟨rfl, rfl, h16, rfl⟩ hw dX0_compute_73
    · refine lv_aload_n hx hb dX0_compute_26 rfl (lv_at hl 2 rfl) ?_
      refine lv_iload_n hx hb dX0_compute_27 rfl (lv_at hl 3 rfl) ?_
      refine lv_iload hx hb dX0_compute_28 (lv_at hl 4 rfl) ?_
      refine jx_Sl (As := [.ref (ad 4), .int y3, .int y4]) (rest := []) ⟨hx, hb, hml, hown, hts⟩ hZ hw hA (jx_X0_crc64_4 l hlt D t3 cI cJ ad g lg ar bk _ y3 y4) (va_cwS 3 hts (jx_gS wwX_good wX_14 wX_15 wX_12 wX_16) rfl rfl rfl (by decide +kernel) ⟨Nat.le_of_ble_eq_true rfl, Nat.le_of_ble_eq_true rfl⟩) rfl hl.1 rfl (Nat.le_of_ble_eq_true rfl) dX0_compute_30 ⟨Nat.le_of_ble_eq_true rfl, Nat.le_of_ble_eq_true rfl⟩ (fun _ _ _ _ _ _ _ _ hp _ _ _ _ => hp.elim) (fun r22 g23 l24 a25 b26 H locs hp27 hw => ?_)
      obtain ⟨rfl, rfl, rfl, rfl⟩ := hp27
      refine lv_lstore (lv' := [(5, .long r22), (0, .ref (ad 11)), (1, .int y1), (2, .ref (ad 4)), (3, .int y3), (4, .int y4)]) hx hb dX0_compute_33 hl (by decide) rfl (fun ls hl => ?_)
      refine lv_aload_n hx hb dX0_compute_35 rfl (lv_at hl 1 rfl) ?_
      refine hk_get (ci := 3) (C := RX0) (T := TX0) (N := 3) (v := .ref (ad 12)) hx hb hts (fun _ h => List.mem_cons_of_mem _ (wwXc_wsX00 _ h)) hown hw 11 rfl rfl 0 (by decide) (hq _ wX_9) rfl dX0_compute_36 ?_
      refine lv_iconst (v := 0) hx hb dX0_compute_39 (by decide) ?_
      refine lv_lload hx hb dX0_compute_40 (lv_at hl 0 rfl) ?_
      refine lv_l2i hx hb dX0_compute_42 rfl (jx_nm fun z32 hz32 => ?_)
      refine jx_iast xw (g := g) (lg := lg) (ar := ar) (bk := bk) 3 hx hb hw 12 0 rfl rfl (show ¬ (_ ∨ _) by decide) dX0_compute_43 rfl (fun H locs a33 h_a33 hw => ?_)
      refine lv_aload_n hx hb dX0_compute_44 rfl (lv_at hl 1 rfl) ?_
      refine hk_get (ci := 3) (C := RX0) (T := TX0) (N := 3) (v := .ref (ad 12)) hx hb hts (fun _ h => List.mem_cons_of_mem _ (wwXc_wsX00 _ h)) hown hw 11 rfl rfl 0 (by decide) (hq _ wX_9) rfl dX0_compute_45 ?_
      refine lv_iconst (v := 1) hx hb dX0_compute_48 (by decide) ?_
      refine lv_lload hx hb dX0_compute_49 (lv_at hl 0 rfl) ?_
      refine lv_bipush (v := 32) hx hb dX0_compute_51 (by decide) ?_
      refine lv_lushr hx hb dX0_compute_53 rfl (jx_nl fun z34 hz34 => ?_)
      refine lv_l2i hx hb dX0_compute_54 rfl (jx_nm fun z35 hz35 => ?_)
      refine jx_iast xw (g := g) (lg := lg) (ar := a33) (bk := bk) 3 hx hb hw 12 0 rfl rfl (show ¬ (_ ∨ _) by decide) dX0_compute_55 rfl (fun H locs a36 h_a36 hw => ?_)
      refine lv_goto (tgt := 73) hx hb dX0_compute_56 (by decide) ?_
      exact kr g lg a36 bk _ _ _ _ ⟨rfl, rfl, (hk_frA (hk_frA hk_fr0 (by decide) h_a33) (by decide) h_a36), rfl⟩ hw dX0_compute_73
  · refine lv_aload_n hx hb dX0_compute_5 rfl (lv_at hl 0 rfl) ?_
    refine hk_get (ci := 3) (C := RX0) (T := TX0) (N := 3) (v := .ref (ad 12)) hx hb hts (fun _ h => List.mem_cons_of_mem _ (wwXc_wsX00 _ h)) hown hw 11 rfl rfl 0 (by decide) (hq _ wX_9) rfl dX0_compute_6 ?_
    refine lv_iconst (v := 0) hx hb dX0_compute_9 (by decide) ?_
    refine lv_aload_n hx hb dX0_compute_10 rfl (lv_at hl 2 rfl) ?_
    refine lv_iload_n hx hb dX0_compute_11 rfl (lv_at hl 3 rfl) ?_
    refine lv_iload hx hb dX0_compute_12 (lv_at hl 4 rfl) ?_
    refine jx_Si (As := [.ref (ad 4), .int y3, .int y4]) (rest := [.int 0, .ref (ad 12)]) ⟨hx, hb, hml, hown, hts⟩ hZ hw hA (jx_X0_crc32_4 l hlt D t3 cI cJ ad g lg ar bk _ y3 y4) (va_cwS 3 hts (jx_gS wwX_good wX_10 wX_11 wX_12 wX_13) rfl rfl rfl (by decide +kernel) ⟨Nat.le_of_ble_eq_true rfl, Nat.le_of_ble_eq_true rfl⟩) rfl hl.1 rfl (Nat.le_of_ble_eq_true rfl) dX0_compute_14 ⟨Nat.le_of_ble_eq_true rfl, Nat.le_of_ble_eq_true rfl⟩ (fun _ _ _ _ _ _ _ _ hp _ _ _ _ => hp.elim) (fun r41 g42 l43 a44 b45 H locs hp46 hw => ?_)
    obtain ⟨rfl, rfl, rfl, rfl⟩ := hp46
    refine jx_iast xw (g := g) (lg := lg) (ar := ar) (bk := bk) 3 hx hb hw 12 0 rfl rfl (show ¬ (_ ∨ _) by decide) dX0_compute_17 rfl (fun H locs a51 h_a51 hw => ?_)
    refine lv_goto (tgt := 73) hx hb dX0_compute_18 (by decide) ?_
    exact kr g lg a51 bk _ _ _ _ ⟨rfl, rfl, (hk_frA hk_fr0 (by decide) h_a51), rfl⟩ hw dX0_compute_73

set_option maxHeartbeats 4000000 in
set_option maxRecDepth 100000 in
/-- X6_readTail on (25,) -/
theorem jx_X6_readTail (l : Launch) (hlt : l.stackTraces = false) (D : va_G) (t3 : Nat × Nat × Nat) (cI cJ : ClassId) (ad : Nat → Nat) (g : Nat → Int32) (lg : Nat → Int64) (ar : Nat → Nat → Int32) (bk : Nat → Int64) (sz : Nat) (hi_g14 : 0 ≤ (g 14).toInt ∧ (g 14).toInt ≤ 3000) (hi_g45 : 0 ≤ (g 45).toInt ∧ (g 45).toInt ≤ 3000) (hi_a0rg : hk_rg 0 255 (ar 0)) : JMv l yX6_readTail (Cond.code yX6_readTail cX6_readTail 5 none :: wwX) { frames := 8, cells := 1, slots := 6, locals := 130 } t3 D xw cI cJ ad [.ref (ad 25)] (xw cI cJ ad g lg ar bk) sz 1 6 (fun g' lg' ar' bk' => hk_fr [15, 17] g g' ∧ lg = lg' ∧ hk_fr [1, 3, 4, 5] ar ar' ∧ bk = bk') (fun g' lg' ar' bk' => hk_fr [15, 17] g g' ∧ lg = lg' ∧ hk_fr [1, 3, 4, 5] ar ar' ∧ bk = bk') := by
  refine jx_metv (cc := cX6_readTail) (maxL := 5) (ret := none) rfl (by decide) rfl (Nat.le_of_ble_eq_true rfl) ?_
  intro p e s m args below meth c ls Q A hx hb hml hown hts hA hZ hw hl hQ kr kt
  have hq : ∀ w ∈ wwX, w.before args s = true := fun w h => hts w (List.mem_cons_of_mem _ h)
  have hl : lv_has ls 5 [(0, .ref (ad 25))] := hl
  refine lv_aload_n hx hb dX6_readTail_0 rfl (lv_at hl 0 rfl) ?_
  refine hk_get (ci := 9) (C := RX6) (T := TX6) (N := 16) (v := .ref (ad 4)) hx hb hts (fun _ h => List.mem_cons_of_mem _ (wwXc_wsX60 _ h)) hown hw 25 rfl rfl 1 (by decide) (hq _ wX_410) rfl dX6_readTail_1 ?_
  refine hk_get (ci := 12) (C := RX9) (T := TX9) (N := 2) (v := .int (g 14)) hx hb hts (fun _ h => List.mem_cons_of_mem _ (wwXc_wsX90 _ h)) hown hw 4 rfl rfl 1 (by decide) (hq _ wX_402) rfl dX6_readTail_4 ?_
  refine lv_aload_n hx hb dX6_readTail_7 rfl (lv_at hl 0 rfl) ?_
  refine hk_get (ci := 9) (C := RX6) (T := TX6) (N := 16) (v := .int (g 45)) hx hb hts (fun _ h => List.mem_cons_of_mem _ (wwXc_wsX60 _ h)) hown hw 25 rfl rfl 11 (by decide) (hq _ wX_432) rfl dX6_readTail_8 ?_
  refine lv_isub hx hb dX6_readTail_11 (jx_nm fun z1 hz1 => ?_)
  have xz1 : (z1).toInt = (g 14).toInt - (g 45).toInt := (hE_imp (hE_sub hz1) (ob483 ((g 14).toInt) ((g 45).toInt) hi_g14 hi_g45 (hE_rng (g 14)) (hE_rng (g 45))))
  refine lv_istore_n (lv' := [(1, .int z1), (0, .ref (ad 25))]) hx hb dX6_readTail_12 rfl hl (by decide) rfl (fun ls hl => ?_)
  refine lv_aload_n hx hb dX6_readTail_13 rfl (lv_at hl 1 rfl) ?_
  refine hk_get (ci := 9) (C := RX6) (T := TX6) (N := 16) (v := .ref (ad 26)) hx hb hts (fun _ h => List.mem_cons_of_mem _ (wwXc_wsX60 _ h)) hown hw 25 rfl rfl 5 (by decide) (hq _ wX_423) rfl dX6_readTail_14 ?_
  refine hk_get (ci := 6) (C := RX3) (T := TX3) (N := 9) (v := .long (lg 5)) hx hb hts (fun _ h => List.mem_cons_of_mem _ (wwXc_wsX30 _ h)) hown hw 26 rfl rfl 6 (by decide) (hq _ wX_556) rfl dX6_readTail_17 ?_
  refine lv_lconst (v := 0) hx hb dX6_readTail_20 (by decide) ?_
  have B2 : ∀  (x3 : Int32) (ls : Array Slot) (H : Heap) (locs : List Loc), (0 ≤ (x3).toInt ∧ (x3).toInt ≤ 1) → hk_W D (jT cI cJ) A s H locs (xw cI cJ ad g lg ar bk) → lv_has ls 5 [(0, .ref (ad 25)), (1, .int z1)] → W p l e { frames := 8, cells := 1, slots := 6, locals := 130 } s m args below meth c H locs 0 0 Q (F0 m 46 ls [.int x3]) := by
    intro x3 ls H locs hf_B2_0 hw hl
    refine lv_istore_n (lv' := [(2, .int x3), (0, .ref (ad 25)), (1, .int z1)]) hx hb dX6_readTail_46 rfl hl (by decide) rfl (fun ls hl => ?_)
    refine lv_iload_n hx hb dX6_readTail_47 rfl (lv_at hl 0 rfl) ?_
    have B4 : ∀  (g5 : Nat → Int32) (ls : Array Slot) (H : Heap) (locs : List Loc), (hk_fr [17] g g5) → hk_W D (jT cI cJ) A s H locs (xw cI cJ ad g5 lg ar bk) → lv_has ls 5 [(0, .ref (ad 25))] → W p l e { frames := 8, cells := 1, slots := 6, locals := 130 } s m args below meth c H locs 0 0 Q (F0 m 85 ls []) := by
      intro g5 ls H locs hfr_g5 hw hl
      refine lv_iconst (v := 0) hx hb dX6_readTail_85 (by decide) ?_
      refine lv_istore_n (lv' := [(3, .int 0), (0, .ref (ad 25))]) hx hb dX6_readTail_86 rfl hl (by decide) rfl (fun ls hl => ?_)
      have B6 : ∀ (k9 : Nat) (x7 : Int32) (g8 : Nat → Int32) (ls : Array Slot) (H : Heap) (locs : List Loc), (2147483648 - (x7).toInt ≤ (k9 : Int)) → (0 ≤ (x7).toInt) → (hk_fr [15, 17] g5 g8) → hk_W D (jT cI cJ) A s H locs (xw cI cJ ad g8 lg ar bk) → lv_has ls 5 [(0, .ref (ad 25)), (3, .int x7)] → W p l e { frames := 8, cells := 1, slots := 6, locals := 130 } s m args below meth c H locs 0 0 Q (F0 m 87 ls []) := by
        intro k9
        induction k9 with
        | zero =>
          intro x7 g8 ls H locs hrk_B6 hf_B6_0 hfr_g8 hw hl
          exact False.elim (hk_no0 (0 * (x7).toInt) (ob5 ((x7).toInt) hf_B6_0 hrk_B6 (hE_rng (x7))) (by simp))
        | succ k9 ih_B6 =>
          intro x7 g8 ls H locs hrk_B6 hf_B6_0 hfr_g8 hw hl
          have hrk_B6 := hk_rk hrk_B6
          refine lv_iload_n hx hb dX6_readTail_87 rfl (lv_at hl 1 rfl) ?_
          refine lv_iconst (v := 3) hx hb dX6_readTail_88 (by decide) ?_
          have B10 : ∀  (ls : Array Slot) (H : Heap) (locs : List Loc), hk_W D (jT cI cJ) A s H locs (xw cI cJ ad g8 lg ar bk) → lv_has ls 5 [(0, .ref (ad 25))] → W p l e { frames := 8, cells := 1, slots := 6, locals := 130 } s m args below meth c H locs 0 0 Q (F0 m 125 ls []) := by
            intro ls H locs hw hl
            refine lv_aload_n hx hb dX6_readTail_125 rfl (lv_at hl 0 rfl) ?_
            refine hk_get (ci := 9) (C := RX6) (T := TX6) (N := 16) (v := .ref (ad 26)) hx hb hts (fun _ h => List.mem_cons_of_mem _ (wwXc_wsX60 _ h)) hown hw 25 rfl rfl 5 (by decide) (hq _ wX_423) rfl dX6_readTail_126 ?_
            refine lv_aload_n hx hb dX6_readTail_129 rfl (lv_at hl 0 rfl) ?_
            refine hk_get (ci := 9) (C := RX6) (T := TX6) (N := 16) (v := .ref (ad 4)) hx hb hts (fun _ h => List.mem_cons_of_mem _ (wwXc_wsX60 _ h)) hown hw 25 rfl rfl 1 (by decide) (hq _ wX_410) rfl dX6_readTail_130 ?_
            refine lv_aload_n hx hb dX6_readTail_133 rfl (lv_at hl 0 rfl) ?_
            have e_g8_45 : g8 45 = (g 45) := ((hfr_g8 45 rfl)).trans (hfr_g5 45 rfl)
            refine hk_get (ci := 9) (C := RX6) (T := TX6) (N := 16) (v := .int (g 45)) hx hb hts (fun _ h => List.mem_cons_of_mem _ (wwXc_wsX60 _ h)) hown hw 25 rfl rfl 11 (by decide) (hq _ wX_432) (congrArg (fun z => some (Value.int z)) e_g8_45) dX6_readTail_134 ?_
            have e_g8_14 : g8 14 = (g 14) := ((hfr_g8 14 rfl)).trans (hfr_g5 14 rfl)
            refine jx_Vv (As := [.ref (ad 4), .int (g 45)]) (rest := []) ⟨hx, hb, hml, hown, hts⟩ hZ hw hA (jx_X3_undo_4 l hlt D t3 cI cJ ad g8 lg ar bk _ (g 45) (ob497 ((g 45).toInt) ((z1).toInt) ((g 14).toInt) ((g8 45).toInt) hi_g45 xz1 (congrArg Int32.toInt e_g8_45) hi_g14 (hE_rng (g 45)) (hE_rng (z1)) (hE_rng (g 14)) (hE_rng (g8 45))) (ob498 ((g8 14).toInt) ((g 14).toInt) ((z1).toInt) ((g 45).toInt) ((g8 45).toInt) (congrArg Int32.toInt e_g8_14) hi_g14 xz1 hi_g45 (congrArg Int32.toInt e_g8_45) (hE_rng (g8 14)) (hE_rng (g 14)) (hE_rng (z1)) (hE_rng (g 45)) (hE_rng (g8 45)))) (cwV 2 hts (jx_gV wwX_good wX_558 wX_559 wX_560 wX_307 wX_561) rfl rfl rfl (by decide +kernel) ⟨Nat.le_of_ble_eq_true rfl, Nat.le_of_ble_eq_true rfl⟩) 26 (ci := 6) (T := TX3) (N := 9) rfl rfl rfl hl.1 rfl (Nat.le_of_ble_eq_true rfl) dX6_readTail_137 ⟨Nat.le_of_ble_eq_true rfl, Nat.le_of_ble_eq_true rfl⟩ (fun _ _ _ _ _ _ _ _ hp _ _ _ _ => hp.elim) (fun g16 l17 a18 b19 H locs hp20 hw => ?_)
            obtain ⟨rfl, rfl, h23, rfl⟩ := hp20
            refine lv_aload_n hx hb dX6_readTail_140 rfl (lv_at hl 0 rfl) ?_
            refine hk_get (ci := 9) (C := RX6) (T := TX6) (N := 16) (v := .ref (ad 11)) hx hb hts (fun _ h => List.mem_cons_of_mem _ (wwXc_wsX60 _ h)) hown hw 25 rfl rfl 3 (by decide) (hq _ wX_562) rfl dX6_readTail_141 ?_
            refine lv_aload_n hx hb dX6_readTail_144 rfl (lv_at hl 0 rfl) ?_
            have e_g8_44 : g8 44 = (g 44) := ((hfr_g8 44 rfl)).trans (hfr_g5 44 rfl)
            refine hk_get (ci := 9) (C := RX6) (T := TX6) (N := 16) (v := .int (g 44)) hx hb hts (fun _ h => List.mem_cons_of_mem _ (wwXc_wsX60 _ h)) hown hw 25 rfl rfl 10 (by decide) (hq _ wX_524) (congrArg (fun z => some (Value.int z)) e_g8_44) dX6_readTail_145 ?_
            refine lv_aload_n hx hb dX6_readTail_148 rfl (lv_at hl 0 rfl) ?_
            refine hk_get (ci := 9) (C := RX6) (T := TX6) (N := 16) (v := .ref (ad 4)) hx hb hts (fun _ h => List.mem_cons_of_mem _ (wwXc_wsX60 _ h)) hown hw 25 rfl rfl 1 (by decide) (hq _ wX_410) rfl dX6_readTail_149 ?_
            refine lv_aload_n hx hb dX6_readTail_152 rfl (lv_at hl 0 rfl) ?_
            refine hk_get (ci := 9) (C := RX6) (T := TX6) (N := 16) (v := .int (g 45)) hx hb hts (fun _ h => List.mem_cons_of_mem _ (wwXc_wsX60 _ h)) hown hw 25 rfl rfl 11 (by decide) (hq _ wX_432) (congrArg (fun z => some (Value.int z)) e_g8_45) dX6_readTail_153 ?_
            refine lv_aload_n hx hb dX6_readTail_156 rfl (lv_at hl 0 rfl) ?_
            refine hk_get (ci := 9) (C := RX6) (T := TX6) (N := 16) (v := .ref (ad 4)) hx hb hts (fun _ h => List.mem_cons_of_mem _ (wwXc_wsX60 _ h)) hown hw 25 rfl rfl 1 (by decide) (hq _ wX_410) rfl dX6_readTail_157 ?_
            refine hk_get (ci := 12) (C := RX9) (T := TX9) (N := 2) (v := .int (g 14)) hx hb hts (fun _ h => List.mem_cons_of_mem _ (wwXc_wsX90 _ h)) hown hw 4 rfl rfl 1 (by decide) (hq _ wX_402) (congrArg (fun z => some (Value.int z)) e_g8_14) dX6_readTail_160 ?_
            refine jx_Vv (As := [.int (g 44), .ref (ad 4), .int (g 45), .int (g 14)]) (rest := []) ⟨hx, hb, hml, hown, hts⟩ hZ hw hA (jx_X0_compute_4 l hlt D t3 cI cJ ad g8 lg a18 bk _ (g 44) (g 45) (g 14)) (cwV 4 hts (jx_gV wwX_good wX_563 wX_79 wX_80 wX_12 wX_81) rfl rfl rfl (by decide +kernel) ⟨Nat.le_of_ble_eq_true rfl, Nat.le_of_ble_eq_true rfl⟩) 11 (ci := 3) (T := TX0) (N := 3) rfl rfl rfl hl.1 rfl (Nat.le_of_ble_eq_true rfl) dX6_readTail_163 ⟨Nat.le_of_ble_eq_true rfl, Nat.le_of_ble_eq_true rfl⟩ (fun _ _ _ _ _ _ _ _ hp _ _ _ _ => hp.elim) (fun g30 l31 a32 b33 H locs hp34 hw => ?_)
            obtain ⟨rfl, rfl, h37, rfl⟩ := hp34
            have hr39 : hk_rg 0 255 (a32 0) := (hk_pE (P := hk_rg 0 255) (hk_pE (P := hk_rg 0 255) hi_a0rg (h23 0 rfl)) (h37 0 rfl))
            refine lv_iconst (v := 1) hx hb dX6_readTail_166 (by decide) ?_
            refine lv_istore_n (lv' := [(3, .int 1), (0, .ref (ad 25))]) hx hb dX6_readTail_167 rfl hl (by decide) rfl (fun ls hl => ?_)
            refine lv_iconst (v := 0) hx hb dX6_readTail_168 (by decide) ?_
            refine lv_istore (lv' := [(4, .int 0), (3, .int 1), (0, .ref (ad 25))]) hx hb dX6_readTail_169 hl (by decide) rfl (fun ls hl => ?_)
            have B40 : ∀ (k44 : Nat) (x41 : Int32) (x42 : Int32) (g43 : Nat → Int32) (ls : Array Slot) (H : Heap) (locs : List Loc), (2147483648 - (x42).toInt ≤ (k44 : Int)) → (0 ≤ (x42).toInt) → (hk_fr [15, 17] g8 g43) → hk_W D (jT cI cJ) A s H locs (xw cI cJ ad g43 lg a32 bk) → lv_has ls 5 [(0, .ref (ad 25)), (3, .int x41), (4, .int x42)] → W p l e { frames := 8, cells := 1, slots := 6, locals := 130 } s m args below meth c H locs 0 0 Q (F0 m 171 ls []) := by
              intro k44
              induction k44 with
              | zero =>
                intro x41 x42 g43 ls H locs hrk_B40 hf_B40_0 hfr_g43 hw hl
                exact False.elim (hk_no0 (0 * (x42).toInt) (ob5 ((x42).toInt) hf_B40_0 hrk_B40 (hE_rng (x42))) (by simp))
              | succ k44 ih_B40 =>
                intro x41 x42 g43 ls H locs hrk_B40 hf_B40_0 hfr_g43 hw hl
                have hrk_B40 := hk_rk hrk_B40
                refine lv_iload hx hb dX6_readTail_171 (lv_at hl 2 rfl) ?_
                refine lv_aload_n hx hb dX6_readTail_173 rfl (lv_at hl 0 rfl) ?_
                have e_g43_44 : g43 44 = (g 44) := ((hfr_g43 44 rfl)).trans e_g8_44
                refine hk_get (ci := 9) (C := RX6) (T := TX6) (N := 16) (v := .int (g 44)) hx hb hts (fun _ h => List.mem_cons_of_mem _ (wwXc_wsX60 _ h)) hown hw 25 rfl rfl 10 (by decide) (hq _ wX_524) (congrArg (fun z => some (Value.int z)) e_g43_44) dX6_readTail_174 ?_
                refine jx_Si (As := [.int (g 44)]) (rest := [.int x42]) ⟨hx, hb, hml, hown, hts⟩ hZ hw hA (jx_X0_bytesOf l hlt D t3 cI cJ ad g43 lg a32 bk _ (g 44)) (va_cwS 1 hts (jx_gS wwX_good wX_542 wX_73 wX_12 wX_74) rfl rfl rfl (by decide +kernel) ⟨Nat.le_of_ble_eq_true rfl, Nat.le_of_ble_eq_true rfl⟩) rfl hl.1 rfl (Nat.le_of_ble_eq_true rfl) dX6_readTail_177 ⟨Nat.le_of_ble_eq_true rfl, Nat.le_of_ble_eq_true rfl⟩ (fun _ _ _ _ _ _ _ _ hp _ _ _ _ => hp.elim) (fun r49 g50 l51 a52 b53 H locs hp54 hw => ?_)
                obtain ⟨rfl, rfl, rfl, rfl, h59⟩ := hp54
                refine lv_icmp_ge (tgt := 222) hx hb dX6_readTail_180 (by decide) (fun cc60 => ?_) (fun cc60 => ?_)
                · refine lv_iload_n hx hb dX6_readTail_222 rfl (lv_at hl 1 rfl) ?_
                  refine lv_if_ne (tgt := 235) hx hb dX6_readTail_223 (by decide) (fun cc61 => ?_) (fun cc61 => ?_)
                  · exact kr g43 lg a32 bk _ _ _ _ ⟨(hk_frT (hk_frT (hk_frT hk_fr0 (by decide) hfr_g5) (by decide) hfr_g8) (by decide) hfr_g43), rfl, (hk_frT (hk_frT hk_fr0 (by decide) h23) (by decide) h37), rfl⟩ hw dX6_readTail_235
                  · refine lv_aload_n hx hb dX6_readTail_226 rfl (lv_at hl 0 rfl) ?_
                    refine hk_get (ci := 9) (C := RX6) (T := TX6) (N := 16) (v := .ref (ad 6)) hx hb hts (fun _ h => List.mem_cons_of_mem _ (wwXc_wsX60 _ h)) hown hw 25 rfl rfl 0 (by decide) (hq _ wX_399) rfl dX6_readTail_227 ?_
                    refine lv_bipush (v := 10) hx hb dX6_readTail_230 (by decide) ?_
                    refine jx_Vv (As := [.int 10]) (rest := []) ⟨hx, hb, hml, hown, hts⟩ hZ hw hA (jx_X8_fail l hlt D t3 cI cJ ad g43 lg a32 bk _ 10) (cwV 1 hts (jx_gV wwX_good wX_403 wX_255 wX_256 wX_252 wX_257) rfl rfl rfl (by decide +kernel) ⟨Nat.le_of_ble_eq_true rfl, Nat.le_of_ble_eq_true rfl⟩) 6 (ci := 11) (T := TX8) (N := 4) rfl rfl rfl hl.1 rfl (Nat.le_of_ble_eq_true rfl) dX6_readTail_232 ⟨Nat.le_of_ble_eq_true rfl, Nat.le_of_ble_eq_true rfl⟩ (fun u62 u63 u64 u65 H locs ce q hp hw h1 h2 h3 => by obtain ⟨ht0, rfl, rfl, rfl⟩ := hp; exact kt _ _ _ _ _ _ _ _ _ _ _ ⟨(hk_frT (hk_frT (hk_frT (hk_frT hk_fr0 (by decide) hfr_g5) (by decide) hfr_g8) (by decide) hfr_g43) (by decide) ht0), rfl, (hk_frT (hk_frT hk_fr0 (by decide) h23) (by decide) h37), rfl⟩ hw h1 h2 h3) (fun g67 l68 a69 b70 H locs hp71 hw => ?_)
                    obtain ⟨h72, rfl, rfl, rfl, h76⟩ := hp71
                    exact False.elim h76
                · refine lv_aload_n hx hb dX6_readTail_183 rfl (lv_at hl 0 rfl) ?_
                  refine hk_get (ci := 9) (C := RX6) (T := TX6) (N := 16) (v := .ref (ad 6)) hx hb hts (fun _ h => List.mem_cons_of_mem _ (wwXc_wsX60 _ h)) hown hw 25 rfl rfl 0 (by decide) (hq _ wX_399) rfl dX6_readTail_184 ?_
                  refine jx_Vi (As := []) (rest := []) ⟨hx, hb, hml, hown, hts⟩ hZ hw hA (jx_X8_next l hlt D t3 cI cJ ad g43 lg a32 bk _ hr39) (cwV 0 hts (jx_gV wwX_good wX_430 wX_250 wX_251 wX_252 wX_253) rfl rfl rfl (by decide +kernel) ⟨Nat.le_of_ble_eq_true rfl, Nat.le_of_ble_eq_true rfl⟩) 6 (ci := 11) (T := TX8) (N := 4) rfl rfl rfl hl.1 rfl (Nat.le_of_ble_eq_true rfl) dX6_readTail_187 ⟨Nat.le_of_ble_eq_true rfl, Nat.le_of_ble_eq_true rfl⟩ (fun u77 u78 u79 u80 H locs ce q hp hw h1 h2 h3 => by obtain ⟨ht0, rfl, rfl, rfl⟩ := hp; exact kt _ _ _ _ _ _ _ _ _ _ _ ⟨(hk_frT (hk_frT (hk_frT (hk_frT hk_fr0 (by decide) hfr_g5) (by decide) hfr_g8) (by decide) hfr_g43) (by decide) ht0), rfl, (hk_frT (hk_frT hk_fr0 (by decide) h23) (by decide) h37), rfl⟩ hw h1 h2 h3) (fun r81 g82 l83 a84 b85 H locs hp86 hw => ?_)
                  obtain ⟨h87, rfl, rfl, rfl, h91⟩ := hp86
                  refine lv_aload_n hx hb dX6_readTail_190 rfl (lv_at hl 0 rfl) ?_
                  refine hk_get (ci := 9) (C := RX6) (T := TX6) (N := 16) (v := .ref (ad 11)) hx hb hts (fun _ h => List.mem_cons_of_mem _ (wwXc_wsX60 _ h)) hown hw 25 rfl rfl 3 (by decide) (hq _ wX_562) rfl dX6_readTail_191 ?_
                  refine lv_aload_n hx hb dX6_readTail_194 rfl (lv_at hl 0 rfl) ?_
                  have e_g82_44 : g82 44 = (g 44) := ((h87 44 rfl)).trans e_g43_44
                  refine hk_get (ci := 9) (C := RX6) (T := TX6) (N := 16) (v := .int (g 44)) hx hb hts (fun _ h => List.mem_cons_of_mem _ (wwXc_wsX60 _ h)) hown hw 25 rfl rfl 10 (by decide) (hq _ wX_524) (congrArg (fun z => some (Value.int z)) e_g82_44) dX6_readTail_195 ?_
                  refine lv_iload hx hb dX6_readTail_198 (lv_at hl 2 rfl) ?_
                  refine jx_Vi (As := [.int (g 44), .int x42]) (rest := [.int r81]) ⟨hx, hb, hml, hown, hts⟩ hZ hw hA (jx_X0_byteOf l hlt D t3 cI cJ ad g82 lg a32 bk _ (g 44) x42) (cwV 2 hts (jx_gV wwX_good wX_564 wX_565 wX_566 wX_12 wX_567) rfl rfl rfl (by decide +kernel) ⟨Nat.le_of_ble_eq_true rfl, Nat.le_of_ble_eq_true rfl⟩) 11 (ci := 3) (T := TX0) (N := 3) rfl rfl rfl hl.1 rfl (Nat.le_of_ble_eq_true rfl) dX6_readTail_200 ⟨Nat.le_of_ble_eq_true rfl, Nat.le_of_ble_eq_true rfl⟩ (fun _ _ _ _ _ _ _ _ hp _ _ _ _ => hp.elim) (fun r96 g97 l98 a99 b100 H locs hp101 hw => ?_)
                  obtain ⟨rfl, rfl, rfl, rfl⟩ := hp101
                  have B106 : ∀  (x107 : Int32) (ls : Array Slot) (H : Heap) (locs : List Loc), (0 ≤ (x107).toInt ∧ (x107).toInt ≤ 1) → hk_W D (jT cI cJ) A s H locs (xw cI cJ ad g82 lg a32 bk) → lv_has ls 5 [(0, .ref (ad 25)), (4, .int x42)] → W p l e { frames := 8, cells := 1, slots := 6, locals := 130 } s m args below meth c H locs 0 0 Q (F0 m 215 ls [.int x107]) := by
                    intro x107 ls H locs hf_B106_0 hw hl
                    refine lv_istore_n (lv' := [(3, .int x107), (0, .ref (ad 25)), (4, .int x42)]) hx hb dX6_readTail_215 rfl hl (by decide) rfl (fun ls hl => ?_)
                    obtain ⟨z108, hz108⟩ : ∃ z : Int32, x42 + 1 = z := ⟨_, rfl⟩
                    refine lv_iinc (v := z108) (lv' := [(4, .int z108), (3, .int x107), (0, .ref (ad 25))]) hx hb dX6_readTail_216 hl (k := 2) rfl hz108 (by decide) rfl (fun ls hl => ?_)
                    have xz108 : (z108).toInt = (x42).toInt + ((1 : Int32)).toInt := (hE_imp (hE_add hz108) (ob415 ((x42).toInt) (((1 : Int32)).toInt) (k44 : Int) ((r49).toInt) hf_B40_0 hrk_B40 (hE_nle cc60) h59 (hE_rng (x42)) (by decide) (hE_rng (r49))))
                    refine lv_goto (tgt := 171) hx hb dX6_readTail_219 (by decide) ?_
                    exact ih_B40 x107 z108 g82 ls _ _ (ob416 ((z108).toInt) (k44 : Int) ((x42).toInt) (((1 : Int32)).toInt) ((r49).toInt) hrk_B40 xz108 hf_B40_0 (hE_nle cc60) h59 (hE_rng (z108)) (hE_rng (x42)) (by decide) (hE_rng (r49))) (ob417 ((z108).toInt) ((x42).toInt) (((1 : Int32)).toInt) (k44 : Int) ((r49).toInt) xz108 hf_B40_0 hrk_B40 (hE_nle cc60) h59 (hE_rng (z108)) (hE_rng (x42)) (by decide) (hE_rng (r49))) (hk_frT hfr_g43 (by decide) h87) hw (lv_sub hl [2, 1, 0] rfl)
                  have B109 : ∀  (ls : Array Slot) (H : Heap) (locs : List Loc), hk_W D (jT cI cJ) A s H locs (xw cI cJ ad g82 lg a32 bk) → lv_has ls 5 [(0, .ref (ad 25)), (4, .int x42)] → W p l e { frames := 8, cells := 1, slots := 6, locals := 130 } s m args below meth c H locs 0 0 Q (F0 m 214 ls []) := by
                    intro ls H locs hw hl
                    refine lv_iconst (v := 0) hx hb dX6_readTail_214 (by decide) ?_
                    exact B106 0 ls _ _ (ob48 (((0 : Int32)).toInt) (by decide)) hw (lv_sub hl [0, 1] rfl)
                  refine lv_icmp_ne (tgt := 214) hx hb dX6_readTail_203 (by decide) (fun cc110 => ?_) (fun cc110 => ?_)
                  · exact B109 ls _ _ hw (lv_sub hl [0, 2] rfl)
                  · refine lv_iload_n hx hb dX6_readTail_206 rfl (lv_at hl 1 rfl) ?_
                    refine lv_if_eq (tgt := 214) hx hb dX6_readTail_207 (by decide) (fun cc111 => ?_) (fun cc111 => ?_)
                    · exact B109 ls _ _ hw (lv_sub hl [0, 2] rfl)
                    · refine lv_iconst (v := 1) hx hb dX6_readTail_210 (by decide) ?_
                      refine lv_goto (tgt := 215) hx hb dX6_readTail_211 (by decide) ?_
                      exact B106 1 ls _ _ (ob49 (((1 : Int32)).toInt) (by decide)) hw (lv_sub hl [0, 2] rfl)
            exact B40 (2147483648 - ((0 : Int32)).toInt).toNat 1 0 g8 ls _ _ (Int.self_le_toNat _) (ob9 (((0 : Int32)).toInt) (by decide)) hk_fr0 hw (lv_sub hl [2, 1, 0] rfl)
          refine lv_icmp_ge (tgt := 125) hx hb dX6_readTail_89 (by decide) (fun cc112 => ?_) (fun cc112 => ?_)
          · exact B10 ls _ _ hw (lv_sub hl [0] rfl)
          · refine lv_aload_n hx hb dX6_readTail_92 rfl (lv_at hl 0 rfl) ?_
            refine hk_get (ci := 9) (C := RX6) (T := TX6) (N := 16) (v := .ref (ad 6)) hx hb hts (fun _ h => List.mem_cons_of_mem _ (wwXc_wsX60 _ h)) hown hw 25 rfl rfl 0 (by decide) (hq _ wX_399) rfl dX6_readTail_93 ?_
            refine hk_get (ci := 11) (C := RX8) (T := TX8) (N := 4) (v := .int (g8 15)) hx hb hts (fun _ h => List.mem_cons_of_mem _ (wwXc_wsX80 _ h)) hown hw 6 rfl rfl 1 (by decide) (hq _ wX_400) rfl dX6_readTail_96 ?_
            refine lv_aload_n hx hb dX6_readTail_99 rfl (lv_at hl 0 rfl) ?_
            refine hk_get (ci := 9) (C := RX6) (T := TX6) (N := 16) (v := .ref (ad 26)) hx hb hts (fun _ h => List.mem_cons_of_mem _ (wwXc_wsX60 _ h)) hown hw 25 rfl rfl 5 (by decide) (hq _ wX_423) rfl dX6_readTail_100 ?_
            have e_g8_51 : g8 51 = (g 51) := ((hfr_g8 51 rfl)).trans (hfr_g5 51 rfl)
            refine hk_get (ci := 6) (C := RX3) (T := TX3) (N := 9) (v := .int (g 51)) hx hb hts (fun _ h => List.mem_cons_of_mem _ (wwXc_wsX30 _ h)) hown hw 26 rfl rfl 4 (by decide) (hq _ wX_424) (congrArg (fun z => some (Value.int z)) e_g8_51) dX6_readTail_103 ?_
            refine lv_isub hx hb dX6_readTail_106 (jx_nm fun z113 hz113 => ?_)
            refine lv_iconst (v := 3) hx hb dX6_readTail_107 (by decide) ?_
            refine lv_iand hx hb dX6_readTail_108 (jx_nm fun z114 hz114 => ?_)
            refine lv_if_eq (tgt := 125) hx hb dX6_readTail_109 (by decide) (fun cc115 => ?_) (fun cc115 => ?_)
            · exact B10 ls _ _ hw (lv_sub hl [0] rfl)
            · refine lv_aload_n hx hb dX6_readTail_112 rfl (lv_at hl 0 rfl) ?_
              refine lv_iconst (v := 0) hx hb dX6_readTail_113 (by decide) ?_
              refine lv_bipush (v := 8) hx hb dX6_readTail_114 (by decide) ?_
              refine jx_Vv (As := [.int 0, .int 8]) (rest := []) ⟨hx, hb, hml, hown, hts⟩ hZ hw hA (jx_X6_expect l hlt D t3 cI cJ ad g8 lg ar bk _ 0 8 hi_a0rg) (cwV 2 hts (jx_gV wwX_good wX_525 wX_526 wX_527 wX_441 wX_528) rfl rfl rfl (by decide +kernel) ⟨Nat.le_of_ble_eq_true rfl, Nat.le_of_ble_eq_true rfl⟩) 25 (ci := 9) (T := TX6) (N := 16) rfl rfl rfl hl.1 rfl (Nat.le_of_ble_eq_true rfl) dX6_readTail_116 ⟨Nat.le_of_ble_eq_true rfl, Nat.le_of_ble_eq_true rfl⟩ (fun u116 u117 u118 u119 H locs ce q hp hw h1 h2 h3 => by obtain ⟨ht0, rfl, rfl, rfl⟩ := hp; exact kt _ _ _ _ _ _ _ _ _ _ _ ⟨(hk_frT (hk_frT (hk_frT hk_fr0 (by decide) hfr_g5) (by decide) hfr_g8) (by decide) ht0), rfl, hk_fr0, rfl⟩ hw h1 h2 h3) (fun g121 l122 a123 b124 H locs hp125 hw => ?_)
              obtain ⟨h126, rfl, rfl, rfl⟩ := hp125
              obtain ⟨z130, hz130⟩ : ∃ z : Int32, x7 + 1 = z := ⟨_, rfl⟩
              refine lv_iinc (v := z130) (lv' := [(3, .int z130), (0, .ref (ad 25))]) hx hb dX6_readTail_119 hl (k := 1) rfl hz130 (by decide) rfl (fun ls hl => ?_)
              have xz130 : (z130).toInt = (x7).toInt + ((1 : Int32)).toInt := (hE_imp (hE_add hz130) (ob22 ((x7).toInt) (((1 : Int32)).toInt) (k9 : Int) (((3 : Int32)).toInt) hf_B6_0 hrk_B6 (hE_nle cc112) (hE_rng (x7)) (by decide) (by decide)))
              refine lv_goto (tgt := 87) hx hb dX6_readTail_122 (by decide) ?_
              exact ih_B6 z130 g121 ls _ _ (ob23 ((z130).toInt) (k9 : Int) ((x7).toInt) (((1 : Int32)).toInt) (((3 : Int32)).toInt) hrk_B6 xz130 hf_B6_0 (hE_nle cc112) (hE_rng (z130)) (hE_rng (x7)) (by decide) (by decide)) (ob24 ((z130).toInt) ((x7).toInt) (((1 : Int32)).toInt) (k9 : Int) (((3 : Int32)).toInt) xz130 hf_B6_0 hrk_B6 (hE_nle cc112) (hE_rng (z130)) (hE_rng (x7)) (by decide) (by decide)) (hk_frT hfr_g8 (by decide) h126) hw (lv_sub hl [1, 0] rfl)
      exact B6 (2147483648 - ((0 : Int32)).toInt).toNat 0 g5 ls _ _ (Int.self_le_toNat _) (ob9 (((0 : Int32)).toInt) (by decide)) hk_fr0 hw (lv_sub hl [1, 0] rfl)
    have B131 : ∀  (ls : Array Slot) (H : Heap) (locs : List Loc), hk_W D (jT cI cJ) A s H locs (xw cI cJ ad g lg ar bk) → lv_has ls 5 [(0, .ref (ad 25))] → W p l e { frames := 8, cells := 1, slots := 6, locals := 130 } s m args below meth c H locs 0 0 Q (F0 m 76 ls []) := by
      intro ls H locs hw hl
      refine lv_aload_n hx hb dX6_readTail_76 rfl (lv_at hl 0 rfl) ?_
      refine hk_get (ci := 9) (C := RX6) (T := TX6) (N := 16) (v := .ref (ad 6)) hx hb hts (fun _ h => List.mem_cons_of_mem _ (wwXc_wsX60 _ h)) hown hw 25 rfl rfl 0 (by decide) (hq _ wX_399) rfl dX6_readTail_77 ?_
      refine lv_bipush (v := 8) hx hb dX6_readTail_80 (by decide) ?_
      refine jx_Vv (As := [.int 8]) (rest := []) ⟨hx, hb, hml, hown, hts⟩ hZ hw hA (jx_X8_fail l hlt D t3 cI cJ ad g lg ar bk _ 8) (cwV 1 hts (jx_gV wwX_good wX_403 wX_255 wX_256 wX_252 wX_257) rfl rfl rfl (by decide +kernel) ⟨Nat.le_of_ble_eq_true rfl, Nat.le_of_ble_eq_true rfl⟩) 6 (ci := 11) (T := TX8) (N := 4) rfl rfl rfl hl.1 rfl (Nat.le_of_ble_eq_true rfl) dX6_readTail_82 ⟨Nat.le_of_ble_eq_true rfl, Nat.le_of_ble_eq_true rfl⟩ (fun u132 u133 u134 u135 H locs ce q hp hw h1 h2 h3 => by obtain ⟨ht0, rfl, rfl, rfl⟩ := hp; exact kt _ _ _ _ _ _ _ _ _ _ _ ⟨(hk_frT hk_fr0 (by decide) ht0), rfl, hk_fr0, rfl⟩ hw h1 h2 h3) (fun g137 l138 a139 b140 H locs hp141 hw => ?_)
      obtain ⟨h142, rfl, rfl, rfl, h146⟩ := hp141
      exact False.elim h146
    refine lv_if_ne (tgt := 76) hx hb dX6_readTail_48 (by decide) (fun cc147 => ?_) (fun cc147 => ?_)
    · exact B131 ls _ _ hw (lv_sub hl [1] rfl)
    · refine lv_aload_n hx hb dX6_readTail_51 rfl (lv_at hl 1 rfl) ?_
      refine hk_get (ci := 9) (C := RX6) (T := TX6) (N := 16) (v := .ref (ad 26)) hx hb hts (fun _ h => List.mem_cons_of_mem _ (wwXc_wsX60 _ h)) hown hw 25 rfl rfl 5 (by decide) (hq _ wX_423) rfl dX6_readTail_52 ?_
      refine hk_get (ci := 6) (C := RX3) (T := TX3) (N := 9) (v := .long (lg 6)) hx hb hts (fun _ h => List.mem_cons_of_mem _ (wwXc_wsX30 _ h)) hown hw 26 rfl rfl 7 (by decide) (hq _ wX_557) rfl dX6_readTail_55 ?_
      refine lv_lconst (v := 0) hx hb dX6_readTail_58 (by decide) ?_
      refine hk_lcmp_lt (tgt := 85) hx hb dX6_readTail_59 dX6_readTail_60 (by decide) (fun cc148 => ?_) (fun cc148 => ?_)
      · exact B4 g ls _ _ hk_fr0 hw (lv_sub hl [1] rfl)
      · refine lv_aload_n hx hb dX6_readTail_63 rfl (lv_at hl 1 rfl) ?_
        refine hk_get (ci := 9) (C := RX6) (T := TX6) (N := 16) (v := .ref (ad 26)) hx hb hts (fun _ h => List.mem_cons_of_mem _ (wwXc_wsX60 _ h)) hown hw 25 rfl rfl 5 (by decide) (hq _ wX_423) rfl dX6_readTail_64 ?_
        refine hk_get (ci := 6) (C := RX3) (T := TX3) (N := 9) (v := .long (lg 6)) hx hb hts (fun _ h => List.mem_cons_of_mem _ (wwXc_wsX30 _ h)) hown hw 26 rfl rfl 7 (by decide) (hq _ wX_557) rfl dX6_readTail_67 ?_
        refine lv_iload_n hx hb dX6_readTail_70 rfl (lv_at hl 2 rfl) ?_
        refine lv_i2l hx hb dX6_readTail_71 rfl (jx_nl fun z149 hz149 => ?_)
        refine hk_lcmp_eq (tgt := 85) hx hb dX6_readTail_72 dX6_readTail_73 (by decide) (fun cc150 => ?_) (fun cc150 => ?_)
        · exact B4 g ls _ _ hk_fr0 hw (lv_sub hl [1] rfl)
        · exact B131 ls _ _ hw (lv_sub hl [1] rfl)
  have B151 : ∀  (ls : Array Slot) (H : Heap) (locs : List Loc), hk_W D (jT cI cJ) A s H locs (xw cI cJ ad g lg ar bk) → lv_has ls 5 [(0, .ref (ad 25)), (1, .int z1)] → W p l e { frames := 8, cells := 1, slots := 6, locals := 130 } s m args below meth c H locs 0 0 Q (F0 m 45 ls []) := by
    intro ls H locs hw hl
    refine lv_iconst (v := 0) hx hb dX6_readTail_45 (by decide) ?_
    exact B2 0 ls _ _ (ob48 (((0 : Int32)).toInt) (by decide)) hw (lv_sub hl [0, 1] rfl)
  refine hk_lcmp_lt (tgt := 45) hx hb dX6_readTail_21 dX6_readTail_22 (by decide) (fun cc152 => ?_) (fun cc152 => ?_)
  · exact B151 ls _ _ hw (lv_sub hl [1, 0] rfl)
  · refine lv_aload_n hx hb dX6_readTail_25 rfl (lv_at hl 1 rfl) ?_
    refine hk_get (ci := 9) (C := RX6) (T := TX6) (N := 16) (v := .ref (ad 26)) hx hb hts (fun _ h => List.mem_cons_of_mem _ (wwXc_wsX60 _ h)) hown hw 25 rfl rfl 5 (by decide) (hq _ wX_423) rfl dX6_readTail_26 ?_
    refine hk_get (ci := 6) (C := RX3) (T := TX3) (N := 9) (v := .long (lg 5)) hx hb hts (fun _ h => List.mem_cons_of_mem _ (wwXc_wsX30 _ h)) hown hw 26 rfl rfl 6 (by decide) (hq _ wX_556) rfl dX6_readTail_29 ?_
    refine lv_aload_n hx hb dX6_readTail_32 rfl (lv_at hl 1 rfl) ?_
    refine hk_get (ci := 9) (C := RX6) (T := TX6) (N := 16) (v := .int (g 49)) hx hb hts (fun _ h => List.mem_cons_of_mem _ (wwXc_wsX60 _ h)) hown hw 25 rfl rfl 15 (by decide) (hq _ wX_431) rfl dX6_readTail_33 ?_
    refine lv_i2l hx hb dX6_readTail_36 rfl (jx_nl fun z153 hz153 => ?_)
    refine hk_lcmp_eq (tgt := 45) hx hb dX6_readTail_37 dX6_readTail_38 (by decide) (fun cc154 => ?_) (fun cc154 => ?_)
    · exact B151 ls _ _ hw (lv_sub hl [1, 0] rfl)
    · refine lv_iconst (v := 1) hx hb dX6_readTail_41 (by decide) ?_
      refine lv_goto (tgt := 46) hx hb dX6_readTail_42 (by decide) ?_
      exact B2 1 ls _ _ (ob49 (((1 : Int32)).toInt) (by decide)) hw (lv_sub hl [1, 0] rfl)

set_option maxHeartbeats 4000000 in
set_option maxRecDepth 100000 in
/-- X4_putIndex on (15, 29) -/
theorem jx_X4_putIndex_29 (l : Launch) (hlt : l.stackTraces = false) (D : va_G) (t3 : Nat × Nat × Nat) (cI cJ : ClassId) (ad : Nat → Nat) (g : Nat → Int32) (lg : Nat → Int64) (ar : Nat → Nat → Int32) (bk : Nat → Int64) (sz : Nat) (y2 : Int32) (hi_a7rm : hk_rm 5 3 (-3000) 3000 (ar 7)) : JMv l yX4_putIndex (Cond.code yX4_putIndex cX4_putIndex 5 none :: wwX) { frames := 3, cells := 1, slots := 6, locals := 66 } t3 D xw cI cJ ad [.ref (ad 15), .ref (ad 29), .int y2] (xw cI cJ ad g lg ar bk) sz 1 6 (fun g' lg' ar' bk' => hk_fr [53] g g' ∧ lg = lg' ∧ hk_fr [15] ar ar' ∧ bk = bk') (fun g' lg' ar' bk' => False) := by
  refine jx_metv (cc := cX4_putIndex) (maxL := 5) (ret := none) rfl (by decide) rfl (Nat.le_of_ble_eq_true rfl) ?_
  intro p e s m args below meth c ls Q A hx hb hml hown hts hA hZ hw hl hQ kr kt
  have hq : ∀ w ∈ wwX, w.before args s = true := fun w h => hts w (List.mem_cons_of_mem _ h)
  have hl : lv_has ls 5 [(0, .ref (ad 15)), (1, .ref (ad 29)), (2, .int y2)] := hl
  refine lv_aload_n hx hb dX4_putIndex_0 rfl (lv_at hl 1 rfl) ?_
  refine hk_get (ci := 12) (C := RX9) (T := TX9) (N := 2) (v := .int (g 53)) hx hb hts (fun _ h => List.mem_cons_of_mem _ (wwXc_wsX90 _ h)) hown hw 29 rfl rfl 1 (by decide) (hq _ wX_344) rfl dX4_putIndex_1 ?_
  refine lv_istore_n (lv' := [(3, .int (g 53)), (0, .ref (ad 15)), (1, .ref (ad 29)), (2, .int y2)]) hx hb dX4_putIndex_4 rfl hl (by decide) rfl (fun ls hl => ?_)
  refine lv_aload_n hx hb dX4_putIndex_5 rfl (lv_at hl 2 rfl) ?_
  refine lv_iconst (v := 0) hx hb dX4_putIndex_6 (by decide) ?_
  refine jx_Vv (As := [.int 0]) (rest := []) ⟨hx, hb, hml, hown, hts⟩ hZ hw hA (jx_X9_put_29 l hlt D t3 cI cJ ad g lg ar bk _ 0) (cwV 1 hts (jx_gV wwX_good wX_345 wX_112 wX_113 wX_24 wX_114) rfl rfl rfl (by decide +kernel) ⟨Nat.le_of_ble_eq_true rfl, Nat.le_of_ble_eq_true rfl⟩) 29 (ci := 12) (T := TX9) (N := 2) rfl rfl rfl hl.1 rfl (Nat.le_of_ble_eq_true rfl) dX4_putIndex_7 ⟨Nat.le_of_ble_eq_true rfl, Nat.le_of_ble_eq_true rfl⟩ (fun _ _ _ _ _ _ _ _ hp _ _ _ _ => hp.elim) (fun g6 l7 a8 b9 H locs hp10 hw => ?_)
  obtain ⟨h11, rfl, h13, rfl, h15⟩ := hp10
  refine lv_aload_n hx hb dX4_putIndex_10 rfl (lv_at hl 2 rfl) ?_
  refine lv_aload_n hx hb dX4_putIndex_11 rfl (lv_at hl 1 rfl) ?_
  have e_g6_26 : g6 26 = (g 26) := (h11 26 rfl)
  refine hk_get (ci := 7) (C := RX4) (T := TX4) (N := 4) (v := .int (g 26)) hx hb hts (fun _ h => List.mem_cons_of_mem _ (wwXc_wsX40 _ h)) hown hw 15 rfl rfl 3 (by decide) (hq _ wX_339) (congrArg (fun z => some (Value.int z)) e_g6_26) dX4_putIndex_12 ?_
  refine jx_Vv (As := [.int (g 26)]) (rest := []) ⟨hx, hb, hml, hown, hts⟩ hZ hw hA (jx_X9_putNumber_29 l hlt D t3 cI cJ ad g6 lg a8 bk _ (g 26)) (cwV 1 hts (jx_gV wwX_good wX_346 wX_347 wX_348 wX_24 wX_349) rfl rfl rfl (by decide +kernel) ⟨Nat.le_of_ble_eq_true rfl, Nat.le_of_ble_eq_true rfl⟩) 29 (ci := 12) (T := TX9) (N := 2) rfl rfl rfl hl.1 rfl (Nat.le_of_ble_eq_true rfl) dX4_putIndex_15 ⟨Nat.le_of_ble_eq_true rfl, Nat.le_of_ble_eq_true rfl⟩ (fun _ _ _ _ _ _ _ _ hp _ _ _ _ => hp.elim) (fun g21 l22 a23 b24 H locs hp25 hw => ?_)
  obtain ⟨h26, rfl, h28, rfl⟩ := hp25
  have hr30 : hk_rm 5 3 (-3000) 3000 (a23 7) := (hk_pE (P := hk_rm 5 3 (-3000) 3000) (hk_pE (P := hk_rm 5 3 (-3000) 3000) hi_a7rm (h13 7 rfl)) (h28 7 rfl))
  refine lv_iconst (v := 0) hx hb dX4_putIndex_18 (by decide) ?_
  refine lv_istore (lv' := [(4, .int 0), (3, .int (g 53)), (0, .ref (ad 15)), (1, .ref (ad 29)), (2, .int y2)]) hx hb dX4_putIndex_19 hl (by decide) rfl (fun ls hl => ?_)
  have B31 : ∀ (k35 : Nat) (x32 : Int32) (g33 : Nat → Int32) (a34 : Nat → Nat → Int32) (ls : Array Slot) (H : Heap) (locs : List Loc), (2147483648 - (x32).toInt ≤ (k35 : Int)) → (0 ≤ (x32).toInt) → (hk_fr [53] g21 g33) → (hk_fr [15] a23 a34) → hk_W D (jT cI cJ) A s H locs (xw cI cJ ad g33 lg a34 bk) → lv_has ls 5 [(0, .ref (ad 15)), (1, .ref (ad 29)), (2, .int y2), (3, .int (g 53)), (4, .int x32)] → W p l e { frames := 3, cells := 1, slots := 6, locals := 66 } s m args below meth c H locs 0 0 Q (F0 m 21 ls []) := by
    intro k35
    induction k35 with
    | zero =>
      intro x32 g33 a34 ls H locs hrk_B31 hf_B31_0 hfr_g33 hfr_a34 hw hl
      exact False.elim (hk_no0 (0 * (x32).toInt) (ob5 ((x32).toInt) hf_B31_0 hrk_B31 (hE_rng (x32))) (by simp))
    | succ k35 ih_B31 =>
      intro x32 g33 a34 ls H locs hrk_B31 hf_B31_0 hfr_g33 hfr_a34 hw hl
      have hrk_B31 := hk_rk hrk_B31
      refine lv_iload hx hb dX4_putIndex_21 (lv_at hl 4 rfl) ?_
      refine lv_aload_n hx hb dX4_putIndex_23 rfl (lv_at hl 0 rfl) ?_
      have e_g33_26 : g33 26 = (g 26) := ((hfr_g33 26 rfl)).trans (((h26 26 rfl)).trans e_g6_26)
      refine hk_get (ci := 7) (C := RX4) (T := TX4) (N := 4) (v := .int (g 26)) hx hb hts (fun _ h => List.mem_cons_of_mem _ (wwXc_wsX40 _ h)) hown hw 15 rfl rfl 3 (by decide) (hq _ wX_339) (congrArg (fun z => some (Value.int z)) e_g33_26) dX4_putIndex_24 ?_
      refine lv_icmp_ge (tgt := 68) hx hb dX4_putIndex_27 (by decide) (fun cc36 => ?_) (fun cc36 => ?_)
      · refine lv_aload_n hx hb dX4_putIndex_68 rfl (lv_at hl 1 rfl) ?_
        refine lv_iload_n hx hb dX4_putIndex_69 rfl (lv_at hl 3 rfl) ?_
        refine jx_Vv (As := [.int (g 53)]) (rest := []) ⟨hx, hb, hml, hown, hts⟩ hZ hw hA (jx_X9_putZeros_29 l hlt D t3 cI cJ ad g33 lg a34 bk _ (g 53)) (cwV 1 hts (jx_gV wwX_good wX_350 wX_351 wX_352 wX_24 wX_353) rfl rfl rfl (by decide +kernel) ⟨Nat.le_of_ble_eq_true rfl, Nat.le_of_ble_eq_true rfl⟩) 29 (ci := 12) (T := TX9) (N := 2) rfl rfl rfl hl.1 rfl (Nat.le_of_ble_eq_true rfl) dX4_putIndex_70 ⟨Nat.le_of_ble_eq_true rfl, Nat.le_of_ble_eq_true rfl⟩ (fun _ _ _ _ _ _ _ _ hp _ _ _ _ => hp.elim) (fun g42 l43 a44 b45 H locs hp46 hw => ?_)
        obtain ⟨h47, rfl, h49, rfl⟩ := hp46
        have hr51 : hk_rm 5 3 (-3000) 3000 (a44 7) := (hk_pE (P := hk_rm 5 3 (-3000) 3000) (hk_pE (P := hk_rm 5 3 (-3000) 3000) hr30 (hfr_a34 7 rfl)) (h49 7 rfl))
        exact kr g42 lg a44 bk _ _ _ _ ⟨(hk_frT (hk_frT (hk_frT h11 (by decide) h26) (by decide) hfr_g33) (by decide) h47), rfl, (hk_frT (hk_frT (hk_frT h13 (by decide) h28) (by decide) hfr_a34) (by decide) h49), rfl⟩ hw dX4_putIndex_73
      · refine lv_aload_n hx hb dX4_putIndex_30 rfl (lv_at hl 1 rfl) ?_
        refine lv_aload_n hx hb dX4_putIndex_31 rfl (lv_at hl 0 rfl) ?_
        refine lv_iload hx hb dX4_putIndex_32 (lv_at hl 4 rfl) ?_
        refine lv_iconst (v := 1) hx hb dX4_putIndex_34 (by decide) ?_
        refine jx_Vi (As := [.int x32, .int 1]) (rest := [.ref (ad 29)]) ⟨hx, hb, hml, hown, hts⟩ hZ hw hA (jx_X4_blockPart l hlt D t3 cI cJ ad g33 lg a34 bk _ x32 1 (hk_pE (P := hk_rm 5 3 (-3000) 3000) hr30 (hfr_a34 7 rfl))) (cwV 2 hts (jx_gV wwX_good wX_343 wX_67 wX_68 wX_69 wX_70) rfl rfl rfl (by decide +kernel) ⟨Nat.le_of_ble_eq_true rfl, Nat.le_of_ble_eq_true rfl⟩) 15 (ci := 7) (T := TX4) (N := 4) rfl rfl rfl hl.1 rfl (Nat.le_of_ble_eq_true rfl) dX4_putIndex_35 ⟨Nat.le_of_ble_eq_true rfl, Nat.le_of_ble_eq_true rfl⟩ (fun _ _ _ _ _ _ _ _ hp _ _ _ _ => hp.elim) (fun r56 g57 l58 a59 b60 H locs hp61 hw => ?_)
        obtain ⟨rfl, rfl, rfl, rfl, h66⟩ := hp61
        refine lv_aload_n hx hb dX4_putIndex_38 rfl (lv_at hl 0 rfl) ?_
        refine lv_iload hx hb dX4_putIndex_39 (lv_at hl 4 rfl) ?_
        refine lv_iconst (v := 2) hx hb dX4_putIndex_41 (by decide) ?_
        refine jx_Vi (As := [.int x32, .int 2]) (rest := [.int r56, .ref (ad 29)]) ⟨hx, hb, hml, hown, hts⟩ hZ hw hA (jx_X4_blockPart l hlt D t3 cI cJ ad g33 lg a34 bk _ x32 2 (hk_pE (P := hk_rm 5 3 (-3000) 3000) hr30 (hfr_a34 7 rfl))) (cwV 2 hts (jx_gV wwX_good wX_343 wX_67 wX_68 wX_69 wX_70) rfl rfl rfl (by decide +kernel) ⟨Nat.le_of_ble_eq_true rfl, Nat.le_of_ble_eq_true rfl⟩) 15 (ci := 7) (T := TX4) (N := 4) rfl rfl rfl hl.1 rfl (Nat.le_of_ble_eq_true rfl) dX4_putIndex_42 ⟨Nat.le_of_ble_eq_true rfl, Nat.le_of_ble_eq_true rfl⟩ (fun _ _ _ _ _ _ _ _ hp _ _ _ _ => hp.elim) (fun r71 g72 l73 a74 b75 H locs hp76 hw => ?_)
        obtain ⟨rfl, rfl, rfl, rfl, h81⟩ := hp76
        refine lv_iadd hx hb dX4_putIndex_45 (jx_nm fun z82 hz82 => ?_)
        refine lv_iload_n hx hb dX4_putIndex_46 rfl (lv_at hl 2 rfl) ?_
        refine lv_iadd hx hb dX4_putIndex_47 (jx_nm fun z83 hz83 => ?_)
        refine jx_Vv (As := [.int z83]) (rest := []) ⟨hx, hb, hml, hown, hts⟩ hZ hw hA (jx_X9_putNumber_29 l hlt D t3 cI cJ ad g33 lg a34 bk _ z83) (cwV 1 hts (jx_gV wwX_good wX_346 wX_347 wX_348 wX_24 wX_349) rfl rfl rfl (by decide +kernel) ⟨Nat.le_of_ble_eq_true rfl, Nat.le_of_ble_eq_true rfl⟩) 29 (ci := 12) (T := TX9) (N := 2) rfl rfl rfl hl.1 rfl (Nat.le_of_ble_eq_true rfl) dX4_putIndex_48 ⟨Nat.le_of_ble_eq_true rfl, Nat.le_of_ble_eq_true rfl⟩ (fun _ _ _ _ _ _ _ _ hp _ _ _ _ => hp.elim) (fun g89 l90 a91 b92 H locs hp93 hw => ?_)
        obtain ⟨h94, rfl, h96, rfl⟩ := hp93
        have hr98 : hk_rm 5 3 (-3000) 3000 (a91 7) := (hk_pE (P := hk_rm 5 3 (-3000) 3000) (hk_pE (P := hk_rm 5 3 (-3000) 3000) hr30 (hfr_a34 7 rfl)) (h96 7 rfl))
        refine lv_aload_n hx hb dX4_putIndex_51 rfl (lv_at hl 1 rfl) ?_
        refine lv_aload_n hx hb dX4_putIndex_52 rfl (lv_at hl 0 rfl) ?_
        refine lv_iload hx hb dX4_putIndex_53 (lv_at hl 4 rfl) ?_
        refine lv_iconst (v := 3) hx hb dX4_putIndex_55 (by decide) ?_
        refine jx_Vi (As := [.int x32, .int 3]) (rest := [.ref (ad 29)]) ⟨hx, hb, hml, hown, hts⟩ hZ hw hA (jx_X4_blockPart l hlt D t3 cI cJ ad g89 lg a91 bk _ x32 3 hr98) (cwV 2 hts (jx_gV wwX_good wX_343 wX_67 wX_68 wX_69 wX_70) rfl rfl rfl (by decide +kernel) ⟨Nat.le_of_ble_eq_true rfl, Nat.le_of_ble_eq_true rfl⟩) 15 (ci := 7) (T := TX4) (N := 4) rfl rfl rfl hl.1 rfl (Nat.le_of_ble_eq_true rfl) dX4_putIndex_56 ⟨Nat.le_of_ble_eq_true rfl, Nat.le_of_ble_eq_true rfl⟩ (fun _ _ _ _ _ _ _ _ hp _ _ _ _ => hp.elim) (fun r103 g104 l105 a106 b107 H locs hp108 hw => ?_)
        obtain ⟨rfl, rfl, rfl, rfl, h113⟩ := hp108
        refine jx_Vv (As := [.int r103]) (rest := []) ⟨hx, hb, hml, hown, hts⟩ hZ hw hA (jx_X9_putNumber_29 l hlt D t3 cI cJ ad g89 lg a91 bk _ r103) (cwV 1 hts (jx_gV wwX_good wX_346 wX_347 wX_348 wX_24 wX_349) rfl rfl rfl (by decide +kernel) ⟨Nat.le_of_ble_eq_true rfl, Nat.le_of_ble_eq_true rfl⟩) 29 (ci := 12) (T := TX9) (N := 2) rfl rfl rfl hl.1 rfl (Nat.le_of_ble_eq_true rfl) dX4_putIndex_59 ⟨Nat.le_of_ble_eq_true rfl, Nat.le_of_ble_eq_true rfl⟩ (fun _ _ _ _ _ _ _ _ hp _ _ _ _ => hp.elim) (fun g119 l120 a121 b122 H locs hp123 hw => ?_)
        obtain ⟨h124, rfl, h126, rfl⟩ := hp123
        obtain ⟨z128, hz128⟩ : ∃ z : Int32, x32 + 1 = z := ⟨_, rfl⟩
        refine lv_iinc (v := z128) (lv' := [(4, .int z128), (0, .ref (ad 15)), (1, .ref (ad 29)), (2, .int y2), (3, .int (g 53))]) hx hb dX4_putIndex_62 hl (k := 4) rfl hz128 (by decide) rfl (fun ls hl => ?_)
        have xz128 : (z128).toInt = (x32).toInt + ((1 : Int32)).toInt := (hE_imp (hE_add hz128) (ob418 ((x32).toInt) (((1 : Int32)).toInt) (k35 : Int) ((g 26).toInt) ((r56).toInt) ((g6 26).toInt) ((g33 26).toInt) ((z82).toInt) ((r71).toInt) (((2 : Int32)).toInt) ((z83).toInt) ((y2).toInt) hf_B31_0 hrk_B31 (hE_nle cc36) h66 (congrArg Int32.toInt e_g6_26) (congrArg Int32.toInt e_g33_26) (hE_add hz82) h81 (hE_add hz83) (hE_rng (x32)) (by decide) (hE_rng (g 26)) (hE_rng (r56)) (hE_rng (g6 26)) (hE_rng (g33 26)) (hE_rng (z82)) (hE_rng (r71)) (by decide) (hE_rng (z83)) (hE_rng (y2))))
        refine lv_goto (tgt := 21) hx hb dX4_putIndex_65 (by decide) ?_
        exact ih_B31 z128 g119 a121 ls _ _ (ob419 ((z128).toInt) (k35 : Int) ((x32).toInt) (((1 : Int32)).toInt) ((g 26).toInt) ((r56).toInt) ((g6 26).toInt) ((g33 26).toInt) ((z82).toInt) ((r71).toInt) (((2 : Int32)).toInt) ((z83).toInt) ((y2).toInt) hrk_B31 xz128 hf_B31_0 (hE_nle cc36) h66 (congrArg Int32.toInt e_g6_26) (congrArg Int32.toInt e_g33_26) (hE_add hz82) h81 (hE_add hz83) (hE_rng (z128)) (hE_rng (x32)) (by decide) (hE_rng (g 26)) (hE_rng (r56)) (hE_rng (g6 26)) (hE_rng (g33 26)) (hE_rng (z82)) (hE_rng (r71)) (by decide) (hE_rng (z83)) (hE_rng (y2))) (ob420 ((z128).toInt) ((x32).toInt) (((1 : Int32)).toInt) (k35 : Int) ((g 26).toInt) ((r56).toInt) ((g6 26).toInt) ((g33 26).toInt) ((z82).toInt) ((r71).toInt) (((2 : Int32)).toInt) ((z83).toInt) ((y2).toInt) xz128 hf_B31_0 hrk_B31 (hE_nle cc36) h66 (congrArg Int32.toInt e_g6_26) (congrArg Int32.toInt e_g33_26) (hE_add hz82) h81 (hE_add hz83) (hE_rng (z128)) (hE_rng (x32)) (by decide) (hE_rng (g 26)) (hE_rng (r56)) (hE_rng (g6 26)) (hE_rng (g33 26)) (hE_rng (z82)) (hE_rng (r71)) (by decide) (hE_rng (z83)) (hE_rng (y2))) (hk_frT (hk_frT hfr_g33 (by decide) h94) (by decide) h124) (hk_frT (hk_frT hfr_a34 (by decide) h96) (by decide) h126) hw (lv_sub hl [1, 2, 3, 4, 0] rfl)
  exact B31 (2147483648 - ((0 : Int32)).toInt).toNat 0 g21 a23 ls _ _ (Int.self_le_toNat _) (ob9 (((0 : Int32)).toInt) (by decide)) hk_fr0 hk_fr0 hw (lv_sub hl [2, 3, 4, 1, 0] rfl)

set_option maxHeartbeats 4000000 in
set_option maxRecDepth 100000 in
/-- X0_crc32 on (29,) -/
theorem jx_X0_crc32_29 (l : Launch) (hlt : l.stackTraces = false) (D : va_G) (t3 : Nat × Nat × Nat) (cI cJ : ClassId) (ad : Nat → Nat) (g : Nat → Int32) (lg : Nat → Int64) (ar : Nat → Nat → Int32) (bk : Nat → Int64) (sz : Nat) (y1 : Int32) (y2 : Int32) : JMi l yX0_crc32 (Cond.code yX0_crc32 cX0_crc32 6 (some .int) :: wwX) { frames := 1, cells := 1, slots := 6, locals := 21 } t3 D xw cI cJ ad [.ref (ad 29), .int y1, .int y2] (xw cI cJ ad g lg ar bk) sz 1 6 (fun (r : Int32) g' lg' ar' bk' => g = g' ∧ lg = lg' ∧ ar = ar' ∧ bk = bk') (fun g' lg' ar' bk' => False) := by
  refine jx_meti (cc := cX0_crc32) (maxL := 6) (ret := (some .int)) rfl (by decide) rfl (Nat.le_of_ble_eq_true rfl) ?_
  intro p e s m args below meth c ls Q A hx hb hml hown hts hA hZ hw hl hQ kr kt
  have hq : ∀ w ∈ wwX, w.before args s = true := fun w h => hts w (List.mem_cons_of_mem _ h)
  have hl : lv_has ls 6 [(0, .ref (ad 29)), (1, .int y1), (2, .int y2)] := hl
  refine lv_iconst (v := (-1)) hx hb dX0_crc32_0 (by decide) ?_
  refine lv_istore_n (lv' := [(3, .int (-1)), (0, .ref (ad 29)), (1, .int y1), (2, .int y2)]) hx hb dX0_crc32_1 rfl hl (by decide) rfl (fun ls hl => ?_)
  refine lv_iload_n hx hb dX0_crc32_2 rfl (lv_at hl 2 rfl) ?_
  refine lv_istore (lv' := [(4, .int y1), (3, .int (-1)), (0, .ref (ad 29)), (1, .int y1), (2, .int y2)]) hx hb dX0_crc32_3 hl (by decide) rfl (fun ls hl => ?_)
  have B1 : ∀ (k4 : Nat) (x2 : Int32) (x3 : Int32) (ls : Array Slot) (H : Heap) (locs : List Loc), (2147483648 - (x3).toInt ≤ (k4 : Int)) → hk_W D (jT cI cJ) A s H locs (xw cI cJ ad g lg ar bk) → lv_has ls 6 [(0, .ref (ad 29)), (2, .int y2), (3, .int x2), (4, .int x3)] → W p l e { frames := 1, cells := 1, slots := 6, locals := 21 } s m args below meth c H locs 0 0 Q (F0 m 5 ls []) := by
    intro k4
    induction k4 with
    | zero =>
      intro x2 x3 ls H locs hrk_B1 hw hl
      exact False.elim (hk_no0 (0 * (x3).toInt) (ob370 ((x3).toInt) hrk_B1 (hE_rng (x3))) (by simp))
    | succ k4 ih_B1 =>
      intro x2 x3 ls H locs hrk_B1 hw hl
      have hrk_B1 := hk_rk hrk_B1
      refine lv_iload hx hb dX0_crc32_5 (lv_at hl 3 rfl) ?_
      refine lv_iload_n hx hb dX0_crc32_7 rfl (lv_at hl 1 rfl) ?_
      refine lv_icmp_ge (tgt := 54) hx hb dX0_crc32_8 (by decide) (fun cc5 => ?_) (fun cc5 => ?_)
      · refine lv_iload_n hx hb dX0_crc32_54 rfl (lv_at hl 2 rfl) ?_
        refine lv_iconst (v := (-1)) hx hb dX0_crc32_55 (by decide) ?_
        refine lv_ixor hx hb dX0_crc32_56 (jx_nm fun z6 hz6 => ?_)
        exact kr z6 g lg ar bk _ _ _ _ ⟨rfl, rfl, rfl, rfl⟩ hw dX0_crc32_57
      · refine lv_iload_n hx hb dX0_crc32_11 rfl (lv_at hl 2 rfl) ?_
        refine lv_aload_n hx hb dX0_crc32_12 rfl (lv_at hl 0 rfl) ?_
        refine lv_iload hx hb dX0_crc32_13 (lv_at hl 3 rfl) ?_
        refine jx_Vi (As := [.int x3]) (rest := [.int x2]) ⟨hx, hb, hml, hown, hts⟩ hZ hw hA (jx_X9_get_29 l hlt D t3 cI cJ ad g lg ar bk _ x3) (cwV 1 hts (jx_gV wwX_good wX_21 wX_22 wX_23 wX_24 wX_25) rfl rfl rfl (by decide +kernel) ⟨Nat.le_of_ble_eq_true rfl, Nat.le_of_ble_eq_true rfl⟩) 29 (ci := 12) (T := TX9) (N := 2) rfl rfl rfl hl.1 rfl (Nat.le_of_ble_eq_true rfl) dX0_crc32_15 ⟨Nat.le_of_ble_eq_true rfl, Nat.le_of_ble_eq_true rfl⟩ (fun _ _ _ _ _ _ _ _ hp _ _ _ _ => hp.elim) (fun r11 g12 l13 a14 b15 H locs hp16 hw => ?_)
        obtain ⟨rfl, rfl, rfl, rfl⟩ := hp16
        refine lv_ixor hx hb dX0_crc32_18 (jx_nm fun z21 hz21 => ?_)
        refine lv_istore_n (lv' := [(3, .int z21), (0, .ref (ad 29)), (2, .int y2), (4, .int x3)]) hx hb dX0_crc32_19 rfl hl (by decide) rfl (fun ls hl => ?_)
        refine lv_iconst (v := 0) hx hb dX0_crc32_20 (by decide) ?_
        refine lv_istore (lv' := [(5, .int 0), (3, .int z21), (0, .ref (ad 29)), (2, .int y2), (4, .int x3)]) hx hb dX0_crc32_21 hl (by decide) rfl (fun ls hl => ?_)
        have B22 : ∀ (k25 : Nat) (x23 : Int32) (x24 : Int32) (ls : Array Slot) (H : Heap) (locs : List Loc), (2147483648 - (x24).toInt ≤ (k25 : Int)) → (0 ≤ (x24).toInt) → hk_W D (jT cI cJ) A s H locs (xw cI cJ ad g lg ar bk) → lv_has ls 6 [(0, .ref (ad 29)), (2, .int y2), (3, .int x23), (4, .int x3), (5, .int x24)] → W p l e { frames := 1, cells := 1, slots := 6, locals := 21 } s m args below meth c H locs 0 0 Q (F0 m 23 ls []) := by
          intro k25
          induction k25 with
          | zero =>
            intro x23 x24 ls H locs hrk_B22 hf_B22_0 hw hl
            exact False.elim (hk_no0 (0 * (x24).toInt) (ob5 ((x24).toInt) hf_B22_0 hrk_B22 (hE_rng (x24))) (by simp))
          | succ k25 ih_B22 =>
            intro x23 x24 ls H locs hrk_B22 hf_B22_0 hw hl
            have hrk_B22 := hk_rk hrk_B22
            refine lv_iload hx hb dX0_crc32_23 (lv_at hl 4 rfl) ?_
            refine lv_bipush (v := 8) hx hb dX0_crc32_25 (by decide) ?_
            refine lv_icmp_ge (tgt := 48) hx hb dX0_crc32_27 (by decide) (fun cc26 => ?_) (fun cc26 => ?_)
            · obtain ⟨z27, hz27⟩ : ∃ z : Int32, x3 + 1 = z := ⟨_, rfl⟩
              refine lv_iinc (v := z27) (lv' := [(4, .int z27), (0, .ref (ad 29)), (2, .int y2), (3, .int x23), (5, .int x24)]) hx hb dX0_crc32_48 hl (k := 3) rfl hz27 (by decide) rfl (fun ls hl => ?_)
              have xz27 : (z27).toInt = (x3).toInt + ((1 : Int32)).toInt := (hE_imp (hE_add hz27) (ob388 ((x3).toInt) (((1 : Int32)).toInt) (k4 : Int) ((y2).toInt) hrk_B1 (hE_nle cc5) (hE_rng (x3)) (by decide) (hE_rng (y2))))
              refine lv_goto (tgt := 5) hx hb dX0_crc32_51 (by decide) ?_
              exact ih_B1 x23 z27 ls _ _ (ob389 ((z27).toInt) (k4 : Int) ((x3).toInt) (((1 : Int32)).toInt) ((y2).toInt) hrk_B1 xz27 (hE_nle cc5) (hE_rng (z27)) (hE_rng (x3)) (by decide) (hE_rng (y2))) hw (lv_sub hl [1, 2, 3, 0] rfl)
            · refine lv_iload_n hx hb dX0_crc32_30 rfl (lv_at hl 2 rfl) ?_
              refine lv_iconst (v := 1) hx hb dX0_crc32_31 (by decide) ?_
              refine lv_iushr hx hb dX0_crc32_32 rfl (jx_nm fun z28 hz28 => ?_)
              refine lv_ldc (v := (-306674912)) hx hb hown (hq _ wX_26) dX0_crc32_33 ?_
              refine lv_iload_n hx hb dX0_crc32_35 rfl (lv_at hl 2 rfl) ?_
              refine lv_iconst (v := 1) hx hb dX0_crc32_36 (by decide) ?_
              refine lv_iand hx hb dX0_crc32_37 (jx_nm fun z29 hz29 => ?_)
              refine lv_ineg hx hb dX0_crc32_38 (jx_nm fun z30 hz30 => ?_)
              refine lv_iand hx hb dX0_crc32_39 (jx_nm fun z31 hz31 => ?_)
              refine lv_ixor hx hb dX0_crc32_40 (jx_nm fun z32 hz32 => ?_)
              refine lv_istore_n (lv' := [(3, .int z32), (0, .ref (ad 29)), (2, .int y2), (4, .int x3), (5, .int x24)]) hx hb dX0_crc32_41 rfl hl (by decide) rfl (fun ls hl => ?_)
              obtain ⟨z33, hz33⟩ : ∃ z : Int32, x24 + 1 = z := ⟨_, rfl⟩
              refine lv_iinc (v := z33) (lv' := [(5, .int z33), (3, .int z32), (0, .ref (ad 29)), (2, .int y2), (4, .int x3)]) hx hb dX0_crc32_42 hl (k := 4) rfl hz33 (by decide) rfl (fun ls hl => ?_)
              have xz33 : (z33).toInt = (x24).toInt + ((1 : Int32)).toInt := (hE_imp (hE_add hz33) (ob211 ((x24).toInt) (((1 : Int32)).toInt) (k25 : Int) (((8 : Int32)).toInt) hf_B22_0 hrk_B22 (hE_nle cc26) (hE_rng (x24)) (by decide) (by decide)))
              refine lv_goto (tgt := 23) hx hb dX0_crc32_45 (by decide) ?_
              exact ih_B22 z32 z33 ls _ _ (ob212 ((z33).toInt) (k25 : Int) ((x24).toInt) (((1 : Int32)).toInt) (((8 : Int32)).toInt) hrk_B22 xz33 hf_B22_0 (hE_nle cc26) (hE_rng (z33)) (hE_rng (x24)) (by decide) (by decide)) (ob213 ((z33).toInt) ((x24).toInt) (((1 : Int32)).toInt) (k25 : Int) (((8 : Int32)).toInt) xz33 hf_B22_0 hrk_B22 (hE_nle cc26) (hE_rng (z33)) (hE_rng (x24)) (by decide) (by decide)) hw (lv_sub hl [2, 3, 1, 4, 0] rfl)
        exact B22 (2147483648 - ((0 : Int32)).toInt).toNat z21 0 ls _ _ (Int.self_le_toNat _) (ob9 (((0 : Int32)).toInt) (by decide)) hw (lv_sub hl [2, 3, 1, 4, 0] rfl)
  exact B1 (2147483648 - (y1).toInt).toNat (-1) y1 ls _ _ (Int.self_le_toNat _) hw (lv_sub hl [2, 4, 1, 0] rfl)

set_option maxHeartbeats 4000000 in
set_option maxRecDepth 100000 in
/-- X6_readIndex on (25,) -/
theorem jx_X6_readIndex (l : Launch) (hlt : l.stackTraces = false) (D : va_G) (t3 : Nat × Nat × Nat) (cI cJ : ClassId) (ad : Nat → Nat) (g : Nat → Int32) (lg : Nat → Int64) (ar : Nat → Nat → Int32) (bk : Nat → Int64) (sz : Nat) (hi_a7rm : hk_rm 5 3 (-3000) 3000 (ar 7)) (hi_a0rg : hk_rg 0 255 (ar 0)) : JMv l yX6_readIndex (Cond.code yX6_readIndex cX6_readIndex 2 none :: wwX) { frames := 8, cells := 1, slots := 6, locals := 126 } t3 D xw cI cJ ad [.ref (ad 25)] (xw cI cJ ad g lg ar bk) sz 1 6 (fun g' lg' ar' bk' => hk_fr [15, 17, 53] g g' ∧ lg = lg' ∧ hk_fr [15] ar ar' ∧ bk = bk') (fun g' lg' ar' bk' => hk_fr [15, 17, 53] g g' ∧ lg = lg' ∧ hk_fr [15] ar ar' ∧ bk = bk') := by
  refine jx_metv (cc := cX6_readIndex) (maxL := 2) (ret := none) rfl (by decide) rfl (Nat.le_of_ble_eq_true rfl) ?_
  intro p e s m args below meth c ls Q A hx hb hml hown hts hA hZ hw hl hQ kr kt
  have hq : ∀ w ∈ wwX, w.before args s = true := fun w h => hts w (List.mem_cons_of_mem _ h)
  have hl : lv_has ls 2 [(0, .ref (ad 25))] := hl
  refine lv_aload_n hx hb dX6_readIndex_0 rfl (lv_at hl 0 rfl) ?_
  refine hk_get (ci := 9) (C := RX6) (T := TX6) (N := 16) (v := .ref (ad 29)) hx hb hts (fun _ h => List.mem_cons_of_mem _ (wwXc_wsX60 _ h)) hown hw 25 rfl rfl 6 (by decide) (hq _ wX_523) rfl dX6_readIndex_1 ?_
  refine lv_iconst (v := 0) hx hb dX6_readIndex_4 (by decide) ?_
  refine jx_putg xw (g := g) (lg := lg) (ar := ar) (bk := bk) (x := 0) 53 (ci := 12) (C := RX9) (T := TX9) (N := 2) (ty := .int) hx hb hts (fun _ h => List.mem_cons_of_mem _ (wwXc_wsX90 _ h)) tyX9 tyX9_ok nmX9 hown hw 29 rfl rfl 1 (by decide) (hq _ wX_402) rfl (by decide +kernel) rfl rfl (Nat.le_of_ble_eq_true rfl) dX6_readIndex_5 rfl (fun H locs g1 h_g1 hw => ?_)
  refine lv_aload_n hx hb dX6_readIndex_8 rfl (lv_at hl 0 rfl) ?_
  refine hk_get (ci := 9) (C := RX6) (T := TX6) (N := 16) (v := .ref (ad 15)) hx hb hts (fun _ h => List.mem_cons_of_mem _ (wwXc_wsX60 _ h)) hown hw 25 rfl rfl 4 (by decide) (hq _ wX_411) rfl dX6_readIndex_9 ?_
  refine lv_aload_n hx hb dX6_readIndex_12 rfl (lv_at hl 0 rfl) ?_
  refine hk_get (ci := 9) (C := RX6) (T := TX6) (N := 16) (v := .ref (ad 29)) hx hb hts (fun _ h => List.mem_cons_of_mem _ (wwXc_wsX60 _ h)) hown hw 25 rfl rfl 6 (by decide) (hq _ wX_523) rfl dX6_readIndex_13 ?_
  refine lv_aload_n hx hb dX6_readIndex_16 rfl (lv_at hl 0 rfl) ?_
  have e_g1_44 : g1 44 = (g 44) := (hk_upgN h_g1 44 rfl)
  refine hk_get (ci := 9) (C := RX6) (T := TX6) (N := 16) (v := .int (g 44)) hx hb hts (fun _ h => List.mem_cons_of_mem _ (wwXc_wsX60 _ h)) hown hw 25 rfl rfl 10 (by decide) (hq _ wX_524) (congrArg (fun z => some (Value.int z)) e_g1_44) dX6_readIndex_17 ?_
  refine jx_Si (As := [.int (g 44)]) (rest := [.ref (ad 29), .ref (ad 15)]) ⟨hx, hb, hml, hown, hts⟩ hZ hw hA (jx_X0_bytesOf l hlt D t3 cI cJ ad g1 lg ar bk _ (g 44)) (va_cwS 1 hts (jx_gS wwX_good wX_542 wX_73 wX_12 wX_74) rfl rfl rfl (by decide +kernel) ⟨Nat.le_of_ble_eq_true rfl, Nat.le_of_ble_eq_true rfl⟩) rfl hl.1 rfl (Nat.le_of_ble_eq_true rfl) dX6_readIndex_20 ⟨Nat.le_of_ble_eq_true rfl, Nat.le_of_ble_eq_true rfl⟩ (fun _ _ _ _ _ _ _ _ hp _ _ _ _ => hp.elim) (fun r6 g7 l8 a9 b10 H locs hp11 hw => ?_)
  obtain ⟨rfl, rfl, rfl, rfl, h16⟩ := hp11
  refine jx_Vv (As := [.ref (ad 29), .int r6]) (rest := []) ⟨hx, hb, hml, hown, hts⟩ hZ hw hA (jx_X4_putIndex_29 l hlt D t3 cI cJ ad g1 lg ar bk _ r6 hi_a7rm) (cwV 2 hts (jx_gV wwX_good wX_543 wX_544 wX_545 wX_69 wX_546) rfl rfl rfl (by decide +kernel) ⟨Nat.le_of_ble_eq_true rfl, Nat.le_of_ble_eq_true rfl⟩) 15 (ci := 7) (T := TX4) (N := 4) rfl rfl rfl hl.1 rfl (Nat.le_of_ble_eq_true rfl) dX6_readIndex_23 ⟨Nat.le_of_ble_eq_true rfl, Nat.le_of_ble_eq_true rfl⟩ (fun _ _ _ _ _ _ _ _ hp _ _ _ _ => hp.elim) (fun g22 l23 a24 b25 H locs hp26 hw => ?_)
  obtain ⟨h27, rfl, h29, rfl⟩ := hp26
  refine lv_iconst (v := 1) hx hb dX6_readIndex_26 (by decide) ?_
  refine lv_istore_n (lv' := [(1, .int 1), (0, .ref (ad 25))]) hx hb dX6_readIndex_27 rfl hl (by decide) rfl (fun ls hl => ?_)
  have B31 : ∀ (k34 : Nat) (x32 : Int32) (g33 : Nat → Int32) (ls : Array Slot) (H : Heap) (locs : List Loc), (2147483648 - (x32).toInt ≤ (k34 : Int)) → (1 ≤ (x32).toInt) → (hk_fr [15, 17] g22 g33) → hk_W D (jT cI cJ) A s H locs (xw cI cJ ad g33 lg a24 bk) → lv_has ls 2 [(0, .ref (ad 25)), (1, .int x32)] → W p l e { frames := 8, cells := 1, slots := 6, locals := 126 } s m args below meth c H locs 0 0 Q (F0 m 28 ls []) := by
    intro k34
    induction k34 with
    | zero =>
      intro x32 g33 ls H locs hrk_B31 hf_B31_0 hfr_g33 hw hl
      exact False.elim (hk_no0 (0 * (x32).toInt) (ob499 ((x32).toInt) hf_B31_0 hrk_B31 (hE_rng (x32))) (by simp))
    | succ k34 ih_B31 =>
      intro x32 g33 ls H locs hrk_B31 hf_B31_0 hfr_g33 hw hl
      have hrk_B31 := hk_rk hrk_B31
      refine lv_iload_n hx hb dX6_readIndex_28 rfl (lv_at hl 1 rfl) ?_
      refine lv_aload_n hx hb dX6_readIndex_29 rfl (lv_at hl 0 rfl) ?_
      refine hk_get (ci := 9) (C := RX6) (T := TX6) (N := 16) (v := .ref (ad 29)) hx hb hts (fun _ h => List.mem_cons_of_mem _ (wwXc_wsX60 _ h)) hown hw 25 rfl rfl 6 (by decide) (hq _ wX_523) rfl dX6_readIndex_30 ?_
      have e_g33_53 : g33 53 = (g22 53) := (hfr_g33 53 rfl)
      refine hk_get (ci := 12) (C := RX9) (T := TX9) (N := 2) (v := .int (g22 53)) hx hb hts (fun _ h => List.mem_cons_of_mem _ (wwXc_wsX90 _ h)) hown hw 29 rfl rfl 1 (by decide) (hq _ wX_402) (congrArg (fun z => some (Value.int z)) e_g33_53) dX6_readIndex_33 ?_
      refine lv_icmp_ge (tgt := 59) hx hb dX6_readIndex_36 (by decide) (fun cc35 => ?_) (fun cc35 => ?_)
      · refine lv_aload_n hx hb dX6_readIndex_59 rfl (lv_at hl 0 rfl) ?_
        refine hk_get (ci := 9) (C := RX6) (T := TX6) (N := 16) (v := .ref (ad 6)) hx hb hts (fun _ h => List.mem_cons_of_mem _ (wwXc_wsX60 _ h)) hown hw 25 rfl rfl 0 (by decide) (hq _ wX_399) rfl dX6_readIndex_60 ?_
        refine lv_iconst (v := 4) hx hb dX6_readIndex_63 (by decide) ?_
        refine jx_Vl (As := [.int 4]) (rest := []) ⟨hx, hb, hml, hown, hts⟩ hZ hw hA (jx_X8_low l hlt D t3 cI cJ ad g33 lg a24 bk _ 4 (hk_pE (P := hk_rg 0 255) hi_a0rg (h29 0 rfl))) (cwV 1 hts (jx_gV wwX_good wX_443 wX_330 wX_331 wX_252 wX_332) rfl rfl rfl (by decide +kernel) ⟨Nat.le_of_ble_eq_true rfl, Nat.le_of_ble_eq_true rfl⟩) 6 (ci := 11) (T := TX8) (N := 4) rfl rfl rfl hl.1 rfl (Nat.le_of_ble_eq_true rfl) dX6_readIndex_64 ⟨Nat.le_of_ble_eq_true rfl, Nat.le_of_ble_eq_true rfl⟩ (fun u36 u37 u38 u39 H locs ce q hp hw h1 h2 h3 => by obtain ⟨ht0, rfl, rfl, rfl⟩ := hp; exact kt _ _ _ _ _ _ _ _ _ _ _ ⟨(hk_frT (hk_frT (hk_frT (hk_frG hk_fr0 (by decide) h_g1) (by decide) h27) (by decide) hfr_g33) (by decide) ht0), rfl, h29, rfl⟩ hw h1 h2 h3) (fun r40 g41 l42 a43 b44 H locs hp45 hw => ?_)
        obtain ⟨h46, rfl, rfl, rfl⟩ := hp45
        refine lv_l2i hx hb dX6_readIndex_67 rfl (jx_nm fun z50 hz50 => ?_)
        refine lv_aload_n hx hb dX6_readIndex_68 rfl (lv_at hl 0 rfl) ?_
        refine hk_get (ci := 9) (C := RX6) (T := TX6) (N := 16) (v := .ref (ad 29)) hx hb hts (fun _ h => List.mem_cons_of_mem _ (wwXc_wsX60 _ h)) hown hw 25 rfl rfl 6 (by decide) (hq _ wX_523) rfl dX6_readIndex_69 ?_
        refine lv_iconst (v := 0) hx hb dX6_readIndex_72 (by decide) ?_
        refine lv_aload_n hx hb dX6_readIndex_73 rfl (lv_at hl 0 rfl) ?_
        refine hk_get (ci := 9) (C := RX6) (T := TX6) (N := 16) (v := .ref (ad 29)) hx hb hts (fun _ h => List.mem_cons_of_mem _ (wwXc_wsX60 _ h)) hown hw 25 rfl rfl 6 (by decide) (hq _ wX_523) rfl dX6_readIndex_74 ?_
        have e_g41_53 : g41 53 = (g22 53) := ((h46 53 rfl)).trans e_g33_53
        refine hk_get (ci := 12) (C := RX9) (T := TX9) (N := 2) (v := .int (g22 53)) hx hb hts (fun _ h => List.mem_cons_of_mem _ (wwXc_wsX90 _ h)) hown hw 29 rfl rfl 1 (by decide) (hq _ wX_402) (congrArg (fun z => some (Value.int z)) e_g41_53) dX6_readIndex_77 ?_
        refine jx_Si (As := [.ref (ad 29), .int 0, .int (g22 53)]) (rest := [.int z50]) ⟨hx, hb, hml, hown, hts⟩ hZ hw hA (jx_X0_crc32_29 l hlt D t3 cI cJ ad g41 lg a24 bk _ 0 (g22 53)) (va_cwS 3 hts (jx_gS wwX_good wX_522 wX_11 wX_12 wX_13) rfl rfl rfl (by decide +kernel) ⟨Nat.le_of_ble_eq_true rfl, Nat.le_of_ble_eq_true rfl⟩) rfl hl.1 rfl (Nat.le_of_ble_eq_true rfl) dX6_readIndex_80 ⟨Nat.le_of_ble_eq_true rfl, Nat.le_of_ble_eq_true rfl⟩ (fun _ _ _ _ _ _ _ _ hp _ _ _ _ => hp.elim) (fun r55 g56 l57 a58 b59 H locs hp60 hw => ?_)
        obtain ⟨rfl, rfl, rfl, rfl⟩ := hp60
        refine lv_icmp_eq (tgt := 95) hx hb dX6_readIndex_83 (by decide) (fun cc65 => ?_) (fun cc65 => ?_)
        · exact kr g41 lg a24 bk _ _ _ _ ⟨(hk_frT (hk_frT (hk_frT (hk_frG hk_fr0 (by decide) h_g1) (by decide) h27) (by decide) hfr_g33) (by decide) h46), rfl, h29, rfl⟩ hw dX6_readIndex_95
        · refine lv_aload_n hx hb dX6_readIndex_86 rfl (lv_at hl 0 rfl) ?_
          refine hk_get (ci := 9) (C := RX6) (T := TX6) (N := 16) (v := .ref (ad 6)) hx hb hts (fun _ h => List.mem_cons_of_mem _ (wwXc_wsX60 _ h)) hown hw 25 rfl rfl 0 (by decide) (hq _ wX_399) rfl dX6_readIndex_87 ?_
          refine lv_bipush (v := 9) hx hb dX6_readIndex_90 (by decide) ?_
          refine jx_Vv (As := [.int 9]) (rest := []) ⟨hx, hb, hml, hown, hts⟩ hZ hw hA (jx_X8_fail l hlt D t3 cI cJ ad g41 lg a24 bk _ 9) (cwV 1 hts (jx_gV wwX_good wX_403 wX_255 wX_256 wX_252 wX_257) rfl rfl rfl (by decide +kernel) ⟨Nat.le_of_ble_eq_true rfl, Nat.le_of_ble_eq_true rfl⟩) 6 (ci := 11) (T := TX8) (N := 4) rfl rfl rfl hl.1 rfl (Nat.le_of_ble_eq_true rfl) dX6_readIndex_92 ⟨Nat.le_of_ble_eq_true rfl, Nat.le_of_ble_eq_true rfl⟩ (fun u66 u67 u68 u69 H locs ce q hp hw h1 h2 h3 => by obtain ⟨ht0, rfl, rfl, rfl⟩ := hp; exact kt _ _ _ _ _ _ _ _ _ _ _ ⟨(hk_frT (hk_frT (hk_frT (hk_frT (hk_frG hk_fr0 (by decide) h_g1) (by decide) h27) (by decide) hfr_g33) (by decide) h46) (by decide) ht0), rfl, h29, rfl⟩ hw h1 h2 h3) (fun g71 l72 a73 b74 H locs hp75 hw => ?_)
          obtain ⟨h76, rfl, rfl, rfl, h80⟩ := hp75
          exact False.elim h80
      · refine lv_aload_n hx hb dX6_readIndex_39 rfl (lv_at hl 0 rfl) ?_
        refine lv_aload_n hx hb dX6_readIndex_40 rfl (lv_at hl 0 rfl) ?_
        refine hk_get (ci := 9) (C := RX6) (T := TX6) (N := 16) (v := .ref (ad 29)) hx hb hts (fun _ h => List.mem_cons_of_mem _ (wwXc_wsX60 _ h)) hown hw 25 rfl rfl 6 (by decide) (hq _ wX_523) rfl dX6_readIndex_41 ?_
        refine lv_iload_n hx hb dX6_readIndex_44 rfl (lv_at hl 1 rfl) ?_
        refine jx_Vi (As := [.int x32]) (rest := [.ref (ad 25)]) ⟨hx, hb, hml, hown, hts⟩ hZ hw hA (jx_X9_get_29 l hlt D t3 cI cJ ad g33 lg a24 bk _ x32) (cwV 1 hts (jx_gV wwX_good wX_500 wX_22 wX_23 wX_24 wX_25) rfl rfl rfl (by decide +kernel) ⟨Nat.le_of_ble_eq_true rfl, Nat.le_of_ble_eq_true rfl⟩) 29 (ci := 12) (T := TX9) (N := 2) rfl rfl rfl hl.1 rfl (Nat.le_of_ble_eq_true rfl) dX6_readIndex_45 ⟨Nat.le_of_ble_eq_true rfl, Nat.le_of_ble_eq_true rfl⟩ (fun _ _ _ _ _ _ _ _ hp _ _ _ _ => hp.elim) (fun r85 g86 l87 a88 b89 H locs hp90 hw => ?_)
        obtain ⟨rfl, rfl, rfl, rfl⟩ := hp90
        refine lv_bipush (v := 11) hx hb dX6_readIndex_48 (by decide) ?_
        refine jx_Vv (As := [.int r85, .int 11]) (rest := []) ⟨hx, hb, hml, hown, hts⟩ hZ hw hA (jx_X6_expect l hlt D t3 cI cJ ad g33 lg a24 bk _ r85 11 (hk_pE (P := hk_rg 0 255) hi_a0rg (h29 0 rfl))) (cwV 2 hts (jx_gV wwX_good wX_525 wX_526 wX_527 wX_441 wX_528) rfl rfl rfl (by decide +kernel) ⟨Nat.le_of_ble_eq_true rfl, Nat.le_of_ble_eq_true rfl⟩) 25 (ci := 9) (T := TX6) (N := 16) rfl rfl rfl hl.1 rfl (Nat.le_of_ble_eq_true rfl) dX6_readIndex_50 ⟨Nat.le_of_ble_eq_true rfl, Nat.le_of_ble_eq_true rfl⟩ (fun u95 u96 u97 u98 H locs ce q hp hw h1 h2 h3 => by obtain ⟨ht0, rfl, rfl, rfl⟩ := hp; exact kt _ _ _ _ _ _ _ _ _ _ _ ⟨(hk_frT (hk_frT (hk_frT (hk_frG hk_fr0 (by decide) h_g1) (by decide) h27) (by decide) hfr_g33) (by decide) ht0), rfl, h29, rfl⟩ hw h1 h2 h3) (fun g100 l101 a102 b103 H locs hp104 hw => ?_)
        obtain ⟨h105, rfl, rfl, rfl⟩ := hp104
        obtain ⟨z109, hz109⟩ : ∃ z : Int32, x32 + 1 = z := ⟨_, rfl⟩
        refine lv_iinc (v := z109) (lv' := [(1, .int z109), (0, .ref (ad 25))]) hx hb dX6_readIndex_53 hl (k := 1) rfl hz109 (by decide) rfl (fun ls hl => ?_)
        have xz109 : (z109).toInt = (x32).toInt + ((1 : Int32)).toInt := (hE_imp (hE_add hz109) (ob500 ((x32).toInt) (((1 : Int32)).toInt) (k34 : Int) ((g22 53).toInt) ((g33 53).toInt) hf_B31_0 hrk_B31 (hE_nle cc35) (congrArg Int32.toInt e_g33_53) (hE_rng (x32)) (by decide) (hE_rng (g22 53)) (hE_rng (g33 53))))
        refine lv_goto (tgt := 28) hx hb dX6_readIndex_56 (by decide) ?_
        exact ih_B31 z109 g100 ls _ _ (ob501 ((z109).toInt) (k34 : Int) ((x32).toInt) (((1 : Int32)).toInt) ((g22 53).toInt) ((g33 53).toInt) hrk_B31 xz109 hf_B31_0 (hE_nle cc35) (congrArg Int32.toInt e_g33_53) (hE_rng (z109)) (hE_rng (x32)) (by decide) (hE_rng (g22 53)) (hE_rng (g33 53))) (ob502 ((z109).toInt) ((x32).toInt) (((1 : Int32)).toInt) (k34 : Int) ((g22 53).toInt) ((g33 53).toInt) xz109 hf_B31_0 hrk_B31 (hE_nle cc35) (congrArg Int32.toInt e_g33_53) (hE_rng (z109)) (hE_rng (x32)) (by decide) (hE_rng (g22 53)) (hE_rng (g33 53))) (hk_frT hfr_g33 (by decide) h105) hw (lv_sub hl [1, 0] rfl)
  exact B31 (2147483648 - ((1 : Int32)).toInt).toNat 1 g22 ls _ _ (Int.self_le_toNat _) (ob503 (((1 : Int32)).toInt) (by decide)) hk_fr0 hw (lv_sub hl [1, 0] rfl)

set_option maxHeartbeats 4000000 in
set_option maxRecDepth 100000 in
/-- X6_readFoot on (25,) -/
theorem jx_X6_readFoot (l : Launch) (hlt : l.stackTraces = false) (D : va_G) (t3 : Nat × Nat × Nat) (cI cJ : ClassId) (ad : Nat → Nat) (g : Nat → Int32) (lg : Nat → Int64) (ar : Nat → Nat → Int32) (bk : Nat → Int64) (sz : Nat) (hi_a0rg : hk_rg 0 255 (ar 0)) : JMv l yX6_readFoot (Cond.code yX6_readFoot cX6_readFoot 5 none :: wwX) { frames := 8, cells := 1, slots := 6, locals := 126 } t3 D xw cI cJ ad [.ref (ad 25)] (xw cI cJ ad g lg ar bk) sz 1 6 (fun g' lg' ar' bk' => hk_fr [15, 17] g g' ∧ lg = lg' ∧ ar = ar' ∧ bk = bk') (fun g' lg' ar' bk' => hk_fr [15, 17] g g' ∧ lg = lg' ∧ ar = ar' ∧ bk = bk') := by
  refine jx_metv (cc := cX6_readFoot) (maxL := 5) (ret := none) rfl (by decide) rfl (Nat.le_of_ble_eq_true rfl) ?_
  intro p e s m args below meth c ls Q A hx hb hml hown hts hA hZ hw hl hQ kr kt
  have hq : ∀ w ∈ wwX, w.before args s = true := fun w h => hts w (List.mem_cons_of_mem _ h)
  have hl : lv_has ls 5 [(0, .ref (ad 25))] := hl
  refine lv_aload_n hx hb dX6_readFoot_0 rfl (lv_at hl 0 rfl) ?_
  refine hk_get (ci := 9) (C := RX6) (T := TX6) (N := 16) (v := .ref (ad 6)) hx hb hts (fun _ h => List.mem_cons_of_mem _ (wwXc_wsX60 _ h)) hown hw 25 rfl rfl 0 (by decide) (hq _ wX_399) rfl dX6_readFoot_1 ?_
  refine lv_iconst (v := 4) hx hb dX6_readFoot_4 (by decide) ?_
  refine jx_Vl (As := [.int 4]) (rest := []) ⟨hx, hb, hml, hown, hts⟩ hZ hw hA (jx_X8_low l hlt D t3 cI cJ ad g lg ar bk _ 4 hi_a0rg) (cwV 1 hts (jx_gV wwX_good wX_443 wX_330 wX_331 wX_252 wX_332) rfl rfl rfl (by decide +kernel) ⟨Nat.le_of_ble_eq_true rfl, Nat.le_of_ble_eq_true rfl⟩) 6 (ci := 11) (T := TX8) (N := 4) rfl rfl rfl hl.1 rfl (Nat.le_of_ble_eq_true rfl) dX6_readFoot_5 ⟨Nat.le_of_ble_eq_true rfl, Nat.le_of_ble_eq_true rfl⟩ (fun u1 u2 u3 u4 H locs ce q hp hw h1 h2 h3 => by obtain ⟨ht0, rfl, rfl, rfl⟩ := hp; exact kt _ _ _ _ _ _ _ _ _ _ _ ⟨ht0, rfl, rfl, rfl⟩ hw h1 h2 h3) (fun r5 g6 l7 a8 b9 H locs hp10 hw => ?_)
  obtain ⟨h11, rfl, rfl, rfl⟩ := hp10
  refine lv_l2i hx hb dX6_readFoot_8 rfl (jx_nm fun z15 hz15 => ?_)
  refine lv_istore_n (lv' := [(1, .int z15), (0, .ref (ad 25))]) hx hb dX6_readFoot_9 rfl hl (by decide) rfl (fun ls hl => ?_)
  refine lv_aload_n hx hb dX6_readFoot_10 rfl (lv_at hl 1 rfl) ?_
  refine hk_get (ci := 9) (C := RX6) (T := TX6) (N := 16) (v := .ref (ad 6)) hx hb hts (fun _ h => List.mem_cons_of_mem _ (wwXc_wsX60 _ h)) hown hw 25 rfl rfl 0 (by decide) (hq _ wX_399) rfl dX6_readFoot_11 ?_
  refine lv_iconst (v := 4) hx hb dX6_readFoot_14 (by decide) ?_
  refine jx_Vl (As := [.int 4]) (rest := []) ⟨hx, hb, hml, hown, hts⟩ hZ hw hA (jx_X8_low l hlt D t3 cI cJ ad g6 lg ar bk _ 4 hi_a0rg) (cwV 1 hts (jx_gV wwX_good wX_443 wX_330 wX_331 wX_252 wX_332) rfl rfl rfl (by decide +kernel) ⟨Nat.le_of_ble_eq_true rfl, Nat.le_of_ble_eq_true rfl⟩) 6 (ci := 11) (T := TX8) (N := 4) rfl rfl rfl hl.1 rfl (Nat.le_of_ble_eq_true rfl) dX6_readFoot_15 ⟨Nat.le_of_ble_eq_true rfl, Nat.le_of_ble_eq_true rfl⟩ (fun u16 u17 u18 u19 H locs ce q hp hw h1 h2 h3 => by obtain ⟨ht0, rfl, rfl, rfl⟩ := hp; exact kt _ _ _ _ _ _ _ _ _ _ _ ⟨(hk_frT h11 (by decide) ht0), rfl, rfl, rfl⟩ hw h1 h2 h3) (fun r20 g21 l22 a23 b24 H locs hp25 hw => ?_)
  obtain ⟨h26, rfl, rfl, rfl⟩ := hp25
  refine lv_lstore_n (lv' := [(2, .long r20), (1, .int z15), (0, .ref (ad 25))]) hx hb dX6_readFoot_18 rfl hl (by decide) rfl (fun ls hl => ?_)
  refine lv_aload_n hx hb dX6_readFoot_19 rfl (lv_at hl 2 rfl) ?_
  refine hk_get (ci := 9) (C := RX6) (T := TX6) (N := 16) (v := .ref (ad 6)) hx hb hts (fun _ h => List.mem_cons_of_mem _ (wwXc_wsX60 _ h)) hown hw 25 rfl rfl 0 (by decide) (hq _ wX_399) rfl dX6_readFoot_20 ?_
  refine lv_iconst (v := 2) hx hb dX6_readFoot_23 (by decide) ?_
  refine jx_Vi (As := [.int 2]) (rest := []) ⟨hx, hb, hml, hown, hts⟩ hZ hw hA (jx_X8_high l hlt D t3 cI cJ ad g21 lg ar bk _ 2 hi_a0rg) (cwV 1 hts (jx_gV wwX_good wX_502 wX_259 wX_260 wX_252 wX_261) rfl rfl rfl (by decide +kernel) ⟨Nat.le_of_ble_eq_true rfl, Nat.le_of_ble_eq_true rfl⟩) 6 (ci := 11) (T := TX8) (N := 4) rfl rfl rfl hl.1 rfl (Nat.le_of_ble_eq_true rfl) dX6_readFoot_24 ⟨Nat.le_of_ble_eq_true rfl, Nat.le_of_ble_eq_true rfl⟩ (fun u30 u31 u32 u33 H locs ce q hp hw h1 h2 h3 => by obtain ⟨ht0, rfl, rfl, rfl⟩ := hp; exact kt _ _ _ _ _ _ _ _ _ _ _ ⟨(hk_frT (hk_frT h11 (by decide) h26) (by decide) ht0), rfl, rfl, rfl⟩ hw h1 h2 h3) (fun r34 g35 l36 a37 b38 H locs hp39 hw => ?_)
  obtain ⟨h40, rfl, rfl, rfl⟩ := hp39
  refine lv_istore (lv' := [(4, .int r34), (2, .long r20), (1, .int z15), (0, .ref (ad 25))]) hx hb dX6_readFoot_27 hl (by decide) rfl (fun ls hl => ?_)
  refine lv_iload_n hx hb dX6_readFoot_29 rfl (lv_at hl 2 rfl) ?_
  refine lv_aload_n hx hb dX6_readFoot_30 rfl (lv_at hl 3 rfl) ?_
  refine hk_get (ci := 9) (C := RX6) (T := TX6) (N := 16) (v := .ref (ad 6)) hx hb hts (fun _ h => List.mem_cons_of_mem _ (wwXc_wsX60 _ h)) hown hw 25 rfl rfl 0 (by decide) (hq _ wX_399) rfl dX6_readFoot_31 ?_
  refine hk_get (ci := 11) (C := RX8) (T := TX8) (N := 4) (v := .ref (ad 2)) hx hb hts (fun _ h => List.mem_cons_of_mem _ (wwXc_wsX80 _ h)) hown hw 6 rfl rfl 0 (by decide) (hq _ wX_401) rfl dX6_readFoot_34 ?_
  refine lv_aload_n hx hb dX6_readFoot_37 rfl (lv_at hl 3 rfl) ?_
  refine hk_get (ci := 9) (C := RX6) (T := TX6) (N := 16) (v := .ref (ad 6)) hx hb hts (fun _ h => List.mem_cons_of_mem _ (wwXc_wsX60 _ h)) hown hw 25 rfl rfl 0 (by decide) (hq _ wX_399) rfl dX6_readFoot_38 ?_
  refine hk_get (ci := 11) (C := RX8) (T := TX8) (N := 4) (v := .int (g35 15)) hx hb hts (fun _ h => List.mem_cons_of_mem _ (wwXc_wsX80 _ h)) hown hw 6 rfl rfl 1 (by decide) (hq _ wX_400) rfl dX6_readFoot_41 ?_
  refine lv_bipush (v := 6) hx hb dX6_readFoot_44 (by decide) ?_
  refine lv_isub hx hb dX6_readFoot_46 (jx_nm fun z44 hz44 => ?_)
  refine lv_aload_n hx hb dX6_readFoot_47 rfl (lv_at hl 3 rfl) ?_
  refine hk_get (ci := 9) (C := RX6) (T := TX6) (N := 16) (v := .ref (ad 6)) hx hb hts (fun _ h => List.mem_cons_of_mem _ (wwXc_wsX60 _ h)) hown hw 25 rfl rfl 0 (by decide) (hq _ wX_399) rfl dX6_readFoot_48 ?_
  refine hk_get (ci := 11) (C := RX8) (T := TX8) (N := 4) (v := .int (g35 15)) hx hb hts (fun _ h => List.mem_cons_of_mem _ (wwXc_wsX80 _ h)) hown hw 6 rfl rfl 1 (by decide) (hq _ wX_400) rfl dX6_readFoot_51 ?_
  refine jx_Si (As := [.ref (ad 2), .int z44, .int (g35 15)]) (rest := [.int z15]) ⟨hx, hb, hml, hown, hts⟩ hZ hw hA (jx_X0_crc32_2 l hlt D t3 cI cJ ad g35 lg ar bk _ z44 (g35 15)) (va_cwS 3 hts (jx_gS wwX_good wX_522 wX_11 wX_12 wX_13) rfl rfl rfl (by decide +kernel) ⟨Nat.le_of_ble_eq_true rfl, Nat.le_of_ble_eq_true rfl⟩) rfl hl.1 rfl (Nat.le_of_ble_eq_true rfl) dX6_readFoot_54 ⟨Nat.le_of_ble_eq_true rfl, Nat.le_of_ble_eq_true rfl⟩ (fun _ _ _ _ _ _ _ _ hp _ _ _ _ => hp.elim) (fun r49 g50 l51 a52 b53 H locs hp54 hw => ?_)
  obtain ⟨rfl, rfl, rfl, rfl⟩ := hp54
  have B59 : ∀  (g60 : Nat → Int32) (ls : Array Slot) (H : Heap) (locs : List Loc), (hk_fr [17] g35 g60) → hk_W D (jT cI cJ) A s H locs (xw cI cJ ad g60 lg ar bk) → lv_has ls 5 [(0, .ref (ad 25)), (2, .long r20), (4, .int r34)] → W p l e { frames := 8, cells := 1, slots := 6, locals := 126 } s m args below meth c H locs 0 0 Q (F0 m 69 ls []) := by
    intro g60 ls H locs hfr_g60 hw hl
    refine lv_lload_n hx hb dX6_readFoot_69 rfl (lv_at hl 1 rfl) ?_
    refine lv_aload_n hx hb dX6_readFoot_70 rfl (lv_at hl 0 rfl) ?_
    refine hk_get (ci := 9) (C := RX6) (T := TX6) (N := 16) (v := .ref (ad 29)) hx hb hts (fun _ h => List.mem_cons_of_mem _ (wwXc_wsX60 _ h)) hown hw 25 rfl rfl 6 (by decide) (hq _ wX_523) rfl dX6_readFoot_71 ?_
    have e_g60_53 : g60 53 = (g 53) := ((hfr_g60 53 rfl)).trans (((h40 53 rfl)).trans (((h26 53 rfl)).trans (h11 53 rfl)))
    refine hk_get (ci := 12) (C := RX9) (T := TX9) (N := 2) (v := .int (g 53)) hx hb hts (fun _ h => List.mem_cons_of_mem _ (wwXc_wsX90 _ h)) hown hw 29 rfl rfl 1 (by decide) (hq _ wX_402) (congrArg (fun z => some (Value.int z)) e_g60_53) dX6_readFoot_74 ?_
    refine lv_iconst (v := 4) hx hb dX6_readFoot_77 (by decide) ?_
    refine lv_idiv hx hb dX6_readFoot_78 (by decide) (jx_nm fun z61 hz61 => ?_)
    refine lv_i2l hx hb dX6_readFoot_79 rfl (jx_nl fun z62 hz62 => ?_)
    have B63 : ∀  (g64 : Nat → Int32) (ls : Array Slot) (H : Heap) (locs : List Loc), (hk_fr [17] g60 g64) → hk_W D (jT cI cJ) A s H locs (xw cI cJ ad g64 lg ar bk) → lv_has ls 5 [(0, .ref (ad 25))] → W p l e { frames := 8, cells := 1, slots := 6, locals := 126 } s m args below meth c H locs 0 0 Q (F0 m 102 ls []) := by
      intro g64 ls H locs hfr_g64 hw hl
      refine lv_aload_n hx hb dX6_readFoot_102 rfl (lv_at hl 0 rfl) ?_
      refine lv_bipush (v := 89) hx hb dX6_readFoot_103 (by decide) ?_
      refine lv_bipush (v := 11) hx hb dX6_readFoot_105 (by decide) ?_
      refine jx_Vv (As := [.int 89, .int 11]) (rest := []) ⟨hx, hb, hml, hown, hts⟩ hZ hw hA (jx_X6_expect l hlt D t3 cI cJ ad g64 lg ar bk _ 89 11 hi_a0rg) (cwV 2 hts (jx_gV wwX_good wX_525 wX_526 wX_527 wX_441 wX_528) rfl rfl rfl (by decide +kernel) ⟨Nat.le_of_ble_eq_true rfl, Nat.le_of_ble_eq_true rfl⟩) 25 (ci := 9) (T := TX6) (N := 16) rfl rfl rfl hl.1 rfl (Nat.le_of_ble_eq_true rfl) dX6_readFoot_107 ⟨Nat.le_of_ble_eq_true rfl, Nat.le_of_ble_eq_true rfl⟩ (fun u65 u66 u67 u68 H locs ce q hp hw h1 h2 h3 => by obtain ⟨ht0, rfl, rfl, rfl⟩ := hp; exact kt _ _ _ _ _ _ _ _ _ _ _ ⟨(hk_frT (hk_frT (hk_frT (hk_frT (hk_frT h11 (by decide) h26) (by decide) h40) (by decide) hfr_g60) (by decide) hfr_g64) (by decide) ht0), rfl, rfl, rfl⟩ hw h1 h2 h3) (fun g70 l71 a72 b73 H locs hp74 hw => ?_)
      obtain ⟨h75, rfl, rfl, rfl⟩ := hp74
      refine lv_aload_n hx hb dX6_readFoot_110 rfl (lv_at hl 0 rfl) ?_
      refine lv_bipush (v := 90) hx hb dX6_readFoot_111 (by decide) ?_
      refine lv_bipush (v := 11) hx hb dX6_readFoot_113 (by decide) ?_
      refine jx_Vv (As := [.int 90, .int 11]) (rest := []) ⟨hx, hb, hml, hown, hts⟩ hZ hw hA (jx_X6_expect l hlt D t3 cI cJ ad g70 lg ar bk _ 90 11 hi_a0rg) (cwV 2 hts (jx_gV wwX_good wX_525 wX_526 wX_527 wX_441 wX_528) rfl rfl rfl (by decide +kernel) ⟨Nat.le_of_ble_eq_true rfl, Nat.le_of_ble_eq_true rfl⟩) 25 (ci := 9) (T := TX6) (N := 16) rfl rfl rfl hl.1 rfl (Nat.le_of_ble_eq_true rfl) dX6_readFoot_115 ⟨Nat.le_of_ble_eq_true rfl, Nat.le_of_ble_eq_true rfl⟩ (fun u79 u80 u81 u82 H locs ce q hp hw h1 h2 h3 => by obtain ⟨ht0, rfl, rfl, rfl⟩ := hp; exact kt _ _ _ _ _ _ _ _ _ _ _ ⟨(hk_frT (hk_frT (hk_frT (hk_frT (hk_frT (hk_frT h11 (by decide) h26) (by decide) h40) (by decide) hfr_g60) (by decide) hfr_g64) (by decide) h75) (by decide) ht0), rfl, rfl, rfl⟩ hw h1 h2 h3) (fun g84 l85 a86 b87 H locs hp88 hw => ?_)
      obtain ⟨h89, rfl, rfl, rfl⟩ := hp88
      exact kr g84 lg ar bk _ _ _ _ ⟨(hk_frT (hk_frT (hk_frT (hk_frT (hk_frT (hk_frT h11 (by decide) h26) (by decide) h40) (by decide) hfr_g60) (by decide) hfr_g64) (by decide) h75) (by decide) h89), rfl, rfl, rfl⟩ hw dX6_readFoot_118
    have B93 : ∀  (ls : Array Slot) (H : Heap) (locs : List Loc), hk_W D (jT cI cJ) A s H locs (xw cI cJ ad g60 lg ar bk) → lv_has ls 5 [(0, .ref (ad 25))] → W p l e { frames := 8, cells := 1, slots := 6, locals := 126 } s m args below meth c H locs 0 0 Q (F0 m 93 ls []) := by
      intro ls H locs hw hl
      refine lv_aload_n hx hb dX6_readFoot_93 rfl (lv_at hl 0 rfl) ?_
      refine hk_get (ci := 9) (C := RX6) (T := TX6) (N := 16) (v := .ref (ad 6)) hx hb hts (fun _ h => List.mem_cons_of_mem _ (wwXc_wsX60 _ h)) hown hw 25 rfl rfl 0 (by decide) (hq _ wX_399) rfl dX6_readFoot_94 ?_
      refine lv_bipush (v := 11) hx hb dX6_readFoot_97 (by decide) ?_
      refine jx_Vv (As := [.int 11]) (rest := []) ⟨hx, hb, hml, hown, hts⟩ hZ hw hA (jx_X8_fail l hlt D t3 cI cJ ad g60 lg ar bk _ 11) (cwV 1 hts (jx_gV wwX_good wX_403 wX_255 wX_256 wX_252 wX_257) rfl rfl rfl (by decide +kernel) ⟨Nat.le_of_ble_eq_true rfl, Nat.le_of_ble_eq_true rfl⟩) 6 (ci := 11) (T := TX8) (N := 4) rfl rfl rfl hl.1 rfl (Nat.le_of_ble_eq_true rfl) dX6_readFoot_99 ⟨Nat.le_of_ble_eq_true rfl, Nat.le_of_ble_eq_true rfl⟩ (fun u94 u95 u96 u97 H locs ce q hp hw h1 h2 h3 => by obtain ⟨ht0, rfl, rfl, rfl⟩ := hp; exact kt _ _ _ _ _ _ _ _ _ _ _ ⟨(hk_frT (hk_frT (hk_frT (hk_frT h11 (by decide) h26) (by decide) h40) (by decide) hfr_g60) (by decide) ht0), rfl, rfl, rfl⟩ hw h1 h2 h3) (fun g99 l100 a101 b102 H locs hp103 hw => ?_)
      obtain ⟨h104, rfl, rfl, rfl, h108⟩ := hp103
      exact False.elim h108
    refine hk_lcmp_ne (tgt := 93) hx hb dX6_readFoot_80 dX6_readFoot_81 (by decide) (fun cc109 => ?_) (fun cc109 => ?_)
    · exact B93 ls _ _ hw (lv_sub hl [0] rfl)
    · refine lv_iload hx hb dX6_readFoot_84 (lv_at hl 2 rfl) ?_
      refine lv_aload_n hx hb dX6_readFoot_86 rfl (lv_at hl 0 rfl) ?_
      have e_g60_44 : g60 44 = (g 44) := ((hfr_g60 44 rfl)).trans (((h40 44 rfl)).trans (((h26 44 rfl)).trans (h11 44 rfl)))
      refine hk_get (ci := 9) (C := RX6) (T := TX6) (N := 16) (v := .int (g 44)) hx hb hts (fun _ h => List.mem_cons_of_mem _ (wwXc_wsX60 _ h)) hown hw 25 rfl rfl 10 (by decide) (hq _ wX_524) (congrArg (fun z => some (Value.int z)) e_g60_44) dX6_readFoot_87 ?_
      refine lv_icmp_eq (tgt := 102) hx hb dX6_readFoot_90 (by decide) (fun cc110 => ?_) (fun cc110 => ?_)
      · exact B63 g60 ls _ _ hk_fr0 hw (lv_sub hl [0] rfl)
      · exact B93 ls _ _ hw (lv_sub hl [0] rfl)
  refine lv_icmp_eq (tgt := 69) hx hb dX6_readFoot_57 (by decide) (fun cc111 => ?_) (fun cc111 => ?_)
  · exact B59 g35 ls _ _ hk_fr0 hw (lv_sub hl [3, 1, 0] rfl)
  · refine lv_aload_n hx hb dX6_readFoot_60 rfl (lv_at hl 3 rfl) ?_
    refine hk_get (ci := 9) (C := RX6) (T := TX6) (N := 16) (v := .ref (ad 6)) hx hb hts (fun _ h => List.mem_cons_of_mem _ (wwXc_wsX60 _ h)) hown hw 25 rfl rfl 0 (by decide) (hq _ wX_399) rfl dX6_readFoot_61 ?_
    refine lv_bipush (v := 9) hx hb dX6_readFoot_64 (by decide) ?_
    refine jx_Vv (As := [.int 9]) (rest := []) ⟨hx, hb, hml, hown, hts⟩ hZ hw hA (jx_X8_fail l hlt D t3 cI cJ ad g35 lg ar bk _ 9) (cwV 1 hts (jx_gV wwX_good wX_403 wX_255 wX_256 wX_252 wX_257) rfl rfl rfl (by decide +kernel) ⟨Nat.le_of_ble_eq_true rfl, Nat.le_of_ble_eq_true rfl⟩) 6 (ci := 11) (T := TX8) (N := 4) rfl rfl rfl hl.1 rfl (Nat.le_of_ble_eq_true rfl) dX6_readFoot_66 ⟨Nat.le_of_ble_eq_true rfl, Nat.le_of_ble_eq_true rfl⟩ (fun u112 u113 u114 u115 H locs ce q hp hw h1 h2 h3 => by obtain ⟨ht0, rfl, rfl, rfl⟩ := hp; exact kt _ _ _ _ _ _ _ _ _ _ _ ⟨(hk_frT (hk_frT (hk_frT h11 (by decide) h26) (by decide) h40) (by decide) ht0), rfl, rfl, rfl⟩ hw h1 h2 h3) (fun g117 l118 a119 b120 H locs hp121 hw => ?_)
    obtain ⟨h122, rfl, rfl, rfl, h126⟩ := hp121
    exact False.elim h126
