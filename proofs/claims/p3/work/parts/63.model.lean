/-! 63.model -/
theorem ob61 (v0 : Int) (v1 : Int) (h0 : v0 = v1) (h1 : 0 ≤ v1 ∧ v1 ≤ 4) (h2 : -2147483648 ≤ v0 ∧ v0 ≤ 2147483647) (h3 : -2147483648 ≤ v1 ∧ v1 ≤ 2147483647) : 0 ≤ v0 ∧ v0 ≤ 4 := by omega
theorem ob62 (v0 : Int) (v1 : Int) (h0 : v0 < v1) (h1 : -2147483648 ≤ v0 ∧ v0 ≤ 2147483647) (h2 : -2147483648 ≤ v1 ∧ v1 ≤ 2147483647) : v0 ≤ v1 ∧ v0 ≤ v0 ∧ (v0 = v1 ∨ v0 = v0) := by omega
theorem ob63 (v0 : Int) (v1 : Int) (h0 : v0 ≤ v1) (h1 : -2147483648 ≤ v0 ∧ v0 ≤ 2147483647) (h2 : -2147483648 ≤ v1 ∧ v1 ≤ 2147483647) : v0 ≤ v0 ∧ v0 ≤ v1 ∧ (v0 = v0 ∨ v0 = v1) := by omega
theorem ob64 (v0 : Int) (v1 : Int) (v2 : Int) (v3 : Int) (h0 : 0 ≤ v0) (h1 : v0 ≤ v1) (h2 : v1 ≤ v2) (h3 : v0 ≤ v1) (h4 : v3 ≤ v0) (h5 : v2 < v1) (h6 : -2147483648 ≤ v0 ∧ v0 ≤ 2147483647) (h7 : -2147483648 ≤ v1 ∧ v1 ≤ 2147483647) (h8 : -2147483648 ≤ v2 ∧ v2 ≤ 2147483647) (h9 : v3 = 0) : (0 * v0 + 0 * v1 + 0 * v2 + 0 * v3) ≤ -1 := by omega
theorem ob65 (v0 : Int) (v1 : Int) (v2 : Int) (v3 : Int) (h0 : 0 ≤ v0) (h1 : v0 ≤ v1) (h2 : v1 ≤ v2) (h3 : v0 ≤ v1) (h4 : v0 < v3) (h5 : -2147483648 ≤ v0 ∧ v0 ≤ 2147483647) (h6 : -2147483648 ≤ v1 ∧ v1 ≤ 2147483647) (h7 : -2147483648 ≤ v2 ∧ v2 ≤ 2147483647) (h8 : v3 = 0) : (0 * v0 + 0 * v1 + 0 * v2 + 0 * v3) ≤ -1 := by omega
theorem ob66 (v0 : Int) (v1 : Int) (v2 : Int) (h0 : 0 ≤ v0) (h1 : v0 ≤ v1) (h2 : v1 ≤ v2) (h3 : v1 < v0) (h4 : -2147483648 ≤ v0 ∧ v0 ≤ 2147483647) (h5 : -2147483648 ≤ v1 ∧ v1 ≤ 2147483647) (h6 : -2147483648 ≤ v2 ∧ v2 ≤ 2147483647) : (0 * v0 + 0 * v1 + 0 * v2) ≤ -1 := by omega
theorem ob67 (v0 : Int) (v1 : Int) (h0 : 0 ≤ v0) (h1 : v0 ≤ v1) (h2 : v1 ≤ 14340) (h3 : -2147483648 ≤ v0 ∧ v0 ≤ 2147483647) (h4 : -2147483648 ≤ v1 ∧ v1 ≤ 2147483647) : 0 ≤ v0 := by omega
theorem ob68 (v0 : Int) (v1 : Int) (h0 : 0 ≤ v0) (h1 : v0 ≤ v1) (h2 : v1 ≤ 14340) (h3 : -2147483648 ≤ v0 ∧ v0 ≤ 2147483647) (h4 : -2147483648 ≤ v1 ∧ v1 ≤ 2147483647) : v0 ≤ v1 := by omega
theorem ob69 (v0 : Int) (v1 : Int) (v2 : Int) (h0 : v2 ≤ v0) (h1 : v0 ≤ 14340) (h2 : 0 ≤ v2) (h3 : -2147483648 ≤ v0 ∧ v0 ≤ 2147483647) (h4 : v1 = 14340) (h5 : -2147483648 ≤ v2 ∧ v2 ≤ 2147483647) : v0 ≤ v1 := by omega
theorem ob70 (v0 : Int) (v1 : Int) (v2 : Int) (v3 : Int) (h0 : 0 ≤ v0) (h1 : 2147483648 - v0 ≤ v1 + 1) (h2 : v0 < v2) (h3 : v3 ≤ v2) (h4 : v2 ≤ 14340) (h5 : 0 ≤ v3) (h6 : -2147483648 ≤ v0 ∧ v0 ≤ 2147483647) (h7 : -2147483648 ≤ v2 ∧ v2 ≤ 2147483647) (h8 : -2147483648 ≤ v3 ∧ v3 ≤ 2147483647) : 0 ≤ v0 ∧ v0 < (14340 : Nat) := by omega
theorem ob71 (v0 : Int) (v1 : Int) (v2 : Int) (v3 : Int) (v4 : Int) (v5 : Int) (h0 : 2147483648 - v2 ≤ v1 + 1) (h1 : v0 = (v2 + v3 + 2147483648) % 4294967296 - 2147483648) (h2 : 0 ≤ v2) (h3 : v2 < v4) (h4 : v5 ≤ v4) (h5 : v4 ≤ 14340) (h6 : 0 ≤ v5) (h7 : -2147483648 ≤ v0 ∧ v0 ≤ 2147483647) (h8 : -2147483648 ≤ v2 ∧ v2 ≤ 2147483647) (h9 : v3 = 1) (h10 : -2147483648 ≤ v4 ∧ v4 ≤ 2147483647) (h11 : -2147483648 ≤ v5 ∧ v5 ≤ 2147483647) : 2147483648 - v0 ≤ v1 := by omega
theorem ob72 (v0 : Int) (v1 : Int) (v2 : Int) (v3 : Int) (v4 : Int) (v5 : Int) (h0 : v0 = (v1 + v2 + 2147483648) % 4294967296 - 2147483648) (h1 : 0 ≤ v1) (h2 : 2147483648 - v1 ≤ v3 + 1) (h3 : v1 < v4) (h4 : v5 ≤ v4) (h5 : v4 ≤ 14340) (h6 : 0 ≤ v5) (h7 : -2147483648 ≤ v0 ∧ v0 ≤ 2147483647) (h8 : -2147483648 ≤ v1 ∧ v1 ≤ 2147483647) (h9 : v2 = 1) (h10 : -2147483648 ≤ v4 ∧ v4 ≤ 2147483647) (h11 : -2147483648 ≤ v5 ∧ v5 ≤ 2147483647) : 0 ≤ v0 := by omega
theorem ob73 (v0 : Int) (v1 : Int) (v2 : Int) (h0 : 0 ≤ v0) (h1 : 2147483648 - v0 ≤ v1 + 1) (h2 : v0 < v2) (h3 : -2147483648 ≤ v0 ∧ v0 ≤ 2147483647) (h4 : v2 = 4) : 0 ≤ v0 ∧ v0 < (4 : Nat) := by omega
theorem ob74 (v0 : Int) (v1 : Int) (v2 : Int) (v3 : Int) (v4 : Int) (v5 : Int) (h0 : v1 ≤ v2 ∧ v1 ≤ v3 ∧ (v1 = v2 ∨ v1 = v3)) (h1 : v2 = (v4 + v5 + 2147483648) % 4294967296 - 2147483648) (h2 : v0 = 0) (h3 : -2147483648 ≤ v1 ∧ v1 ≤ 2147483647) (h4 : -2147483648 ≤ v2 ∧ v2 ≤ 2147483647) (h5 : v3 = 14340) (h6 : v4 = 2052) (h7 : -2147483648 ≤ v5 ∧ v5 ≤ 2147483647) : v0 ≤ v1 := by omega
theorem ob75 (v0 : Int) (v1 : Int) (v2 : Int) (v3 : Int) (v4 : Int) (h0 : v0 ≤ v1 ∧ v0 ≤ v2 ∧ (v0 = v1 ∨ v0 = v2)) (h1 : v1 = (v3 + v4 + 2147483648) % 4294967296 - 2147483648) (h2 : -2147483648 ≤ v0 ∧ v0 ≤ 2147483647) (h3 : -2147483648 ≤ v1 ∧ v1 ≤ 2147483647) (h4 : v2 = 14340) (h5 : v3 = 2052) (h6 : -2147483648 ≤ v4 ∧ v4 ≤ 2147483647) : v0 ≤ 14340 := by omega
theorem ob76 (v0 : Int) (v1 : Int) (v2 : Int) (h0 : v1 ≤ v0) (h1 : v0 < v2) (h2 : -2147483648 ≤ v0 ∧ v0 ≤ 2147483647) (h3 : v1 = 0) (h4 : v2 = 4) : 0 ≤ v0 ∧ v0 < (4 : Nat) := by omega
theorem ob77 (v0 : Int) (v1 : Int) (h0 : v1 = v0) (h1 : -2147483648 ≤ v0 ∧ v0 ≤ 2147483647) (h2 : -2147483648 ≤ v1 ∧ v1 ≤ 2147483647) : v0 ≠ 0 := by omega
theorem ob78 (v0 : Int) (v1 : Int) (v2 : Int) (h0 : v1 = v0) (h1 : v2 = v0) (h2 : -2147483648 ≤ v0 ∧ v0 ≤ 2147483647) (h3 : -2147483648 ≤ v1 ∧ v1 ≤ 2147483647) (h4 : -2147483648 ≤ v2 ∧ v2 ≤ 2147483647) : v0 ≠ 0 := by omega
theorem ob79 (v0 : Int) (v1 : Int) (v2 : Int) (v3 : Int) (h0 : v1 = v0) (h1 : v2 = v0) (h2 : v3 = v0) (h3 : -2147483648 ≤ v0 ∧ v0 ≤ 2147483647) (h4 : -2147483648 ≤ v1 ∧ v1 ≤ 2147483647) (h5 : -2147483648 ≤ v2 ∧ v2 ≤ 2147483647) (h6 : -2147483648 ≤ v3 ∧ v3 ≤ 2147483647) : v0 ≠ 0 := by omega
theorem ob80 (v0 : Int) (v1 : Int) (v2 : Int) (v3 : Int) (v4 : Int) (h0 : v1 = v0) (h1 : v2 = v0) (h2 : v3 = v0) (h3 : v4 = v0) (h4 : -2147483648 ≤ v0 ∧ v0 ≤ 2147483647) (h5 : -2147483648 ≤ v1 ∧ v1 ≤ 2147483647) (h6 : -2147483648 ≤ v2 ∧ v2 ≤ 2147483647) (h7 : -2147483648 ≤ v3 ∧ v3 ≤ 2147483647) (h8 : -2147483648 ≤ v4 ∧ v4 ≤ 2147483647) : v0 ≠ 0 := by omega
theorem ob81 (v0 : Int) (v1 : Int) (v2 : Int) (v3 : Int) (v4 : Int) (v5 : Int) (v6 : Int) (v7 : Int) (v8 : Int) (v9 : Int) (v10 : Int) (v11 : Int) (v12 : Int) (v13 : Int) (v14 : Int) (v15 : Int) (v16 : Int) (v17 : Int) (v18 : Int) (v19 : Int) (v20 : Int) (v21 : Int) (v22 : Int) (h0 : v1 = (v0 + v2 + 2147483648) % 4294967296 - 2147483648) (h1 : v3 ≠ v0) (h2 : v4 ≠ v0) (h3 : v5 ≠ v0) (h4 : v6 ≠ v0) (h5 : v2 = (v7 * 16 + 2147483648) % 4294967296 - 2147483648) (h6 : v8 = (v1 + v9 + 2147483648) % 4294967296 - 2147483648) (h7 : 0 ≤ v3 ∧ v3 ≤ 1) (h8 : 0 ≤ v4 ∧ v4 ≤ 1) (h9 : 0 ≤ v5 ∧ v5 ≤ 1) (h10 : 0 ≤ v6 ∧ v6 ≤ 1) (h11 : v10 = v7) (h12 : v11 = v7) (h13 : v12 = (v13 + v7 + 2147483648) % 4294967296 - 2147483648) (h14 : v14 = v7) (h15 : v15 = (v16 + v7 + 2147483648) % 4294967296 - 2147483648) (h16 : v17 = v7) (h17 : v18 = (v19 + v7 + 2147483648) % 4294967296 - 2147483648) (h18 : v20 = v7) (h19 : v21 = (v22 + v7 + 2147483648) % 4294967296 - 2147483648) (h20 : v0 = 0) (h21 : -2147483648 ≤ v1 ∧ v1 ≤ 2147483647) (h22 : -2147483648 ≤ v2 ∧ v2 ≤ 2147483647) (h23 : -2147483648 ≤ v3 ∧ v3 ≤ 2147483647) (h24 : -2147483648 ≤ v4 ∧ v4 ≤ 2147483647) (h25 : -2147483648 ≤ v5 ∧ v5 ≤ 2147483647) (h26 : -2147483648 ≤ v6 ∧ v6 ≤ 2147483647) (h27 : -2147483648 ≤ v7 ∧ v7 ≤ 2147483647) (h28 : -2147483648 ≤ v8 ∧ v8 ≤ 2147483647) (h29 : -2147483648 ≤ v9 ∧ v9 ≤ 2147483647) (h30 : -2147483648 ≤ v10 ∧ v10 ≤ 2147483647) (h31 : -2147483648 ≤ v11 ∧ v11 ≤ 2147483647) (h32 : -2147483648 ≤ v12 ∧ v12 ≤ 2147483647) (h33 : v13 = 192) (h34 : -2147483648 ≤ v14 ∧ v14 ≤ 2147483647) (h35 : -2147483648 ≤ v15 ∧ v15 ≤ 2147483647) (h36 : v16 = 204) (h37 : -2147483648 ≤ v17 ∧ v17 ≤ 2147483647) (h38 : -2147483648 ≤ v18 ∧ v18 ≤ 2147483647) (h39 : v19 = 216) (h40 : -2147483648 ≤ v20 ∧ v20 ≤ 2147483647) (h41 : -2147483648 ≤ v21 ∧ v21 ≤ 2147483647) (h42 : v22 = 228) : 0 ≤ v0 ∧ v0 ≤ 1 := by omega
theorem ob82 (v0 : Int) (v1 : Int) (v2 : Int) (v3 : Int) (v4 : Int) (v5 : Int) (v6 : Int) (v7 : Int) (v8 : Int) (v9 : Int) (v10 : Int) (v11 : Int) (v12 : Int) (v13 : Int) (v14 : Int) (v15 : Int) (v16 : Int) (v17 : Int) (v18 : Int) (h0 : v1 = (v0 + v2 + 2147483648) % 4294967296 - 2147483648) (h1 : v3 ≠ v0) (h2 : v4 ≠ v0) (h3 : v5 ≠ v0) (h4 : v2 = (v6 * 16 + 2147483648) % 4294967296 - 2147483648) (h5 : v7 = (v1 + v8 + 2147483648) % 4294967296 - 2147483648) (h6 : 0 ≤ v3 ∧ v3 ≤ 1) (h7 : 0 ≤ v4 ∧ v4 ≤ 1) (h8 : 0 ≤ v5 ∧ v5 ≤ 1) (h9 : v9 = v6) (h10 : v10 = v6) (h11 : v11 = (v12 + v6 + 2147483648) % 4294967296 - 2147483648) (h12 : v13 = v6) (h13 : v14 = (v15 + v6 + 2147483648) % 4294967296 - 2147483648) (h14 : v16 = v6) (h15 : v17 = (v18 + v6 + 2147483648) % 4294967296 - 2147483648) (h16 : v0 = 0) (h17 : -2147483648 ≤ v1 ∧ v1 ≤ 2147483647) (h18 : -2147483648 ≤ v2 ∧ v2 ≤ 2147483647) (h19 : -2147483648 ≤ v3 ∧ v3 ≤ 2147483647) (h20 : -2147483648 ≤ v4 ∧ v4 ≤ 2147483647) (h21 : -2147483648 ≤ v5 ∧ v5 ≤ 2147483647) (h22 : -2147483648 ≤ v6 ∧ v6 ≤ 2147483647) (h23 : -2147483648 ≤ v7 ∧ v7 ≤ 2147483647) (h24 : -2147483648 ≤ v8 ∧ v8 ≤ 2147483647) (h25 : -2147483648 ≤ v9 ∧ v9 ≤ 2147483647) (h26 : -2147483648 ≤ v10 ∧ v10 ≤ 2147483647) (h27 : -2147483648 ≤ v11 ∧ v11 ≤ 2147483647) (h28 : v12 = 192) (h29 : -2147483648 ≤ v13 ∧ v13 ≤ 2147483647) (h30 : -2147483648 ≤ v14 ∧ v14 ≤ 2147483647) (h31 : v15 = 204) (h32 : -2147483648 ≤ v16 ∧ v16 ≤ 2147483647) (h33 : -2147483648 ≤ v17 ∧ v17 ≤ 2147483647) (h34 : v18 = 216) : 0 ≤ v0 ∧ v0 ≤ 1 := by omega
theorem ob83 (v0 : Int) (v1 : Int) (v2 : Int) (v3 : Int) (v4 : Int) (v5 : Int) (v6 : Int) (v7 : Int) (v8 : Int) (v9 : Int) (v10 : Int) (v11 : Int) (v12 : Int) (v13 : Int) (v14 : Int) (v15 : Int) (v16 : Int) (v17 : Int) (v18 : Int) (v19 : Int) (v20 : Int) (h0 : v1 = (v0 + v2 + 2147483648) % 4294967296 - 2147483648) (h1 : v3 ≠ v0) (h2 : v4 ≠ v0) (h3 : v5 = v0) (h4 : v2 = (v6 * 16 + 2147483648) % 4294967296 - 2147483648) (h5 : v7 = (v1 + v8 + 2147483648) % 4294967296 - 2147483648) (h6 : 0 ≤ v3 ∧ v3 ≤ 1) (h7 : 0 ≤ v4 ∧ v4 ≤ 1) (h8 : 0 ≤ v5 ∧ v5 ≤ 1) (h9 : v9 = v6) (h10 : v10 = v6) (h11 : v11 = (v12 + v6 + 2147483648) % 4294967296 - 2147483648) (h12 : v13 = v6) (h13 : v14 = (v15 + v6 + 2147483648) % 4294967296 - 2147483648) (h14 : v16 = v6) (h15 : v17 = (v6 * 16 + 2147483648) % 4294967296 - 2147483648) (h16 : v18 = (v19 + v8 + 2147483648) % 4294967296 - 2147483648) (h17 : v19 = (v20 + v17 + 2147483648) % 4294967296 - 2147483648) (h18 : v0 = 0) (h19 : -2147483648 ≤ v1 ∧ v1 ≤ 2147483647) (h20 : -2147483648 ≤ v2 ∧ v2 ≤ 2147483647) (h21 : -2147483648 ≤ v3 ∧ v3 ≤ 2147483647) (h22 : -2147483648 ≤ v4 ∧ v4 ≤ 2147483647) (h23 : -2147483648 ≤ v5 ∧ v5 ≤ 2147483647) (h24 : -2147483648 ≤ v6 ∧ v6 ≤ 2147483647) (h25 : -2147483648 ≤ v7 ∧ v7 ≤ 2147483647) (h26 : -2147483648 ≤ v8 ∧ v8 ≤ 2147483647) (h27 : -2147483648 ≤ v9 ∧ v9 ≤ 2147483647) (h28 : -2147483648 ≤ v10 ∧ v10 ≤ 2147483647) (h29 : -2147483648 ≤ v11 ∧ v11 ≤ 2147483647) (h30 : v12 = 192) (h31 : -2147483648 ≤ v13 ∧ v13 ≤ 2147483647) (h32 : -2147483648 ≤ v14 ∧ v14 ≤ 2147483647) (h33 : v15 = 204) (h34 : -2147483648 ≤ v16 ∧ v16 ≤ 2147483647) (h35 : -2147483648 ≤ v17 ∧ v17 ≤ 2147483647) (h36 : -2147483648 ≤ v18 ∧ v18 ≤ 2147483647) (h37 : -2147483648 ≤ v19 ∧ v19 ≤ 2147483647) (h38 : v20 = 240) : 0 ≤ v0 ∧ v0 ≤ 1 := by omega
theorem ob84 (v0 : Int) (v1 : Int) (v2 : Int) (v3 : Int) (v4 : Int) (v5 : Int) (v6 : Int) (v7 : Int) (v8 : Int) (v9 : Int) (v10 : Int) (v11 : Int) (v12 : Int) (v13 : Int) (v14 : Int) (h0 : v1 = (v0 + v2 + 2147483648) % 4294967296 - 2147483648) (h1 : v3 ≠ v0) (h2 : v4 ≠ v0) (h3 : v2 = (v5 * 16 + 2147483648) % 4294967296 - 2147483648) (h4 : v6 = (v1 + v7 + 2147483648) % 4294967296 - 2147483648) (h5 : 0 ≤ v3 ∧ v3 ≤ 1) (h6 : 0 ≤ v4 ∧ v4 ≤ 1) (h7 : v8 = v5) (h8 : v9 = v5) (h9 : v10 = (v11 + v5 + 2147483648) % 4294967296 - 2147483648) (h10 : v12 = v5) (h11 : v13 = (v14 + v5 + 2147483648) % 4294967296 - 2147483648) (h12 : v0 = 0) (h13 : -2147483648 ≤ v1 ∧ v1 ≤ 2147483647) (h14 : -2147483648 ≤ v2 ∧ v2 ≤ 2147483647) (h15 : -2147483648 ≤ v3 ∧ v3 ≤ 2147483647) (h16 : -2147483648 ≤ v4 ∧ v4 ≤ 2147483647) (h17 : -2147483648 ≤ v5 ∧ v5 ≤ 2147483647) (h18 : -2147483648 ≤ v6 ∧ v6 ≤ 2147483647) (h19 : -2147483648 ≤ v7 ∧ v7 ≤ 2147483647) (h20 : -2147483648 ≤ v8 ∧ v8 ≤ 2147483647) (h21 : -2147483648 ≤ v9 ∧ v9 ≤ 2147483647) (h22 : -2147483648 ≤ v10 ∧ v10 ≤ 2147483647) (h23 : v11 = 192) (h24 : -2147483648 ≤ v12 ∧ v12 ≤ 2147483647) (h25 : -2147483648 ≤ v13 ∧ v13 ≤ 2147483647) (h26 : v14 = 204) : 0 ≤ v0 ∧ v0 ≤ 1 := by omega
theorem ob85 (v0 : Int) (v1 : Int) (v2 : Int) (v3 : Int) (v4 : Int) (v5 : Int) (v6 : Int) (v7 : Int) (v8 : Int) (v9 : Int) (v10 : Int) (h0 : v1 = (v0 + v2 + 2147483648) % 4294967296 - 2147483648) (h1 : v3 ≠ v0) (h2 : v2 = (v4 * 16 + 2147483648) % 4294967296 - 2147483648) (h3 : v5 = (v1 + v6 + 2147483648) % 4294967296 - 2147483648) (h4 : 0 ≤ v3 ∧ v3 ≤ 1) (h5 : v7 = v4) (h6 : v8 = v4) (h7 : v9 = (v10 + v4 + 2147483648) % 4294967296 - 2147483648) (h8 : v0 = 0) (h9 : -2147483648 ≤ v1 ∧ v1 ≤ 2147483647) (h10 : -2147483648 ≤ v2 ∧ v2 ≤ 2147483647) (h11 : -2147483648 ≤ v3 ∧ v3 ≤ 2147483647) (h12 : -2147483648 ≤ v4 ∧ v4 ≤ 2147483647) (h13 : -2147483648 ≤ v5 ∧ v5 ≤ 2147483647) (h14 : -2147483648 ≤ v6 ∧ v6 ≤ 2147483647) (h15 : -2147483648 ≤ v7 ∧ v7 ≤ 2147483647) (h16 : -2147483648 ≤ v8 ∧ v8 ≤ 2147483647) (h17 : -2147483648 ≤ v9 ∧ v9 ≤ 2147483647) (h18 : v10 = 192) : 0 ≤ v0 ∧ v0 ≤ 1 := by omega
theorem ob86 (v0 : Int) (v1 : Int) (v2 : Int) (h0 : v1 ≠ v0) (h1 : v1 ≠ v2) (h2 : v0 = 1) (h3 : -2147483648 ≤ v1 ∧ v1 ≤ 2147483647) (h4 : v2 = 7) : 0 ≤ v0 ∧ v0 ≤ 1 := by omega
theorem ob87 (v0 : Int) (v1 : Int) (v2 : Int) (v3 : Int) (v4 : Int) (v5 : Int) (v6 : Int) (v7 : Int) (h0 : v1 = (v0 + v2 + 2147483648) % 4294967296 - 2147483648) (h1 : v3 = v0) (h2 : v2 = (v4 * 16 + 2147483648) % 4294967296 - 2147483648) (h3 : v5 = (v1 + v6 + 2147483648) % 4294967296 - 2147483648) (h4 : v7 = v4) (h5 : v0 = 0) (h6 : -2147483648 ≤ v1 ∧ v1 ≤ 2147483647) (h7 : -2147483648 ≤ v2 ∧ v2 ≤ 2147483647) (h8 : -2147483648 ≤ v3 ∧ v3 ≤ 2147483647) (h9 : -2147483648 ≤ v4 ∧ v4 ≤ 2147483647) (h10 : -2147483648 ≤ v5 ∧ v5 ≤ 2147483647) (h11 : -2147483648 ≤ v6 ∧ v6 ≤ 2147483647) (h12 : -2147483648 ≤ v7 ∧ v7 ≤ 2147483647) : 0 ≤ v0 ∧ v0 ≤ 1 := by omega
theorem ob88 (v0 : Int) (v1 : Int) (v2 : Int) (v3 : Int) (v4 : Int) (v5 : Int) (v6 : Int) (v7 : Int) (v8 : Int) (h0 : v1 = (v0 + v2 + 2147483648) % 4294967296 - 2147483648) (h1 : v2 = (v3 * 16 + 2147483648) % 4294967296 - 2147483648) (h2 : v4 = (v1 + v5 + 2147483648) % 4294967296 - 2147483648) (h3 : v6 = v3) (h4 : v7 = (v8 + v3 + 2147483648) % 4294967296 - 2147483648) (h5 : v0 = 0) (h6 : -2147483648 ≤ v1 ∧ v1 ≤ 2147483647) (h7 : -2147483648 ≤ v2 ∧ v2 ≤ 2147483647) (h8 : -2147483648 ≤ v3 ∧ v3 ≤ 2147483647) (h9 : -2147483648 ≤ v4 ∧ v4 ≤ 2147483647) (h10 : -2147483648 ≤ v5 ∧ v5 ≤ 2147483647) (h11 : -2147483648 ≤ v6 ∧ v6 ≤ 2147483647) (h12 : -2147483648 ≤ v7 ∧ v7 ≤ 2147483647) (h13 : v8 = 192) : 0 ≤ v0 ∧ v0 ≤ 1 := by omega
theorem ob89 (v0 : Int) (h0 : v0 ≤ 7) (h1 : v0 + 2147483649 ≤ 0) (h2 : -2147483648 ≤ v0 ∧ v0 ≤ 2147483647) : (0 * v0) ≤ -1 := by omega
theorem ob90 (v0 : Int) (v1 : Int) (v2 : Int) (v3 : Int) (v4 : Int) (h0 : v2 + 2147483649 ≤ v1 + 1) (h1 : v0 = (v2 + v3 + 2147483648) % 4294967296 - 2147483648) (h2 : v2 ≤ 7) (h3 : v4 ≤ v2) (h4 : -2147483648 ≤ v0 ∧ v0 ≤ 2147483647) (h5 : -2147483648 ≤ v2 ∧ v2 ≤ 2147483647) (h6 : v3 = (-1)) (h7 : v4 = 0) : v0 + 2147483649 ≤ v1 := by omega
theorem ob91 (v0 : Int) (v1 : Int) (v2 : Int) (v3 : Int) (v4 : Int) (h0 : v0 = (v1 + v2 + 2147483648) % 4294967296 - 2147483648) (h1 : v1 ≤ 7) (h2 : v1 + 2147483649 ≤ v3 + 1) (h3 : v4 ≤ v1) (h4 : -2147483648 ≤ v0 ∧ v0 ≤ 2147483647) (h5 : -2147483648 ≤ v1 ∧ v1 ≤ 2147483647) (h6 : v2 = (-1)) (h7 : v4 = 0) : v0 ≤ 7 := by omega
theorem ob92 (v0 : Int) (v1 : Int) (v2 : Int) (h0 : v0 ≤ v1) (h1 : v1 ≤ 7) (h2 : v1 + 2147483649 ≤ v2 + 1) (h3 : v0 = 0) (h4 : -2147483648 ≤ v1 ∧ v1 ≤ 2147483647) : 0 ≤ v0 ∧ v0 ≤ 1 := by omega
theorem ob93 (v0 : Int) (v1 : Int) (v2 : Int) (v3 : Int) (v4 : Int) (h0 : v1 = (v2 - v0 + 2147483648) % 4294967296 - 2147483648) (h1 : (0 ≤ v4 → 0 ≤ v3 ∧ v3 ≤ v4) ∧ (0 ≤ v1 → 0 ≤ v3 ∧ v3 ≤ v1)) (h2 : v0 = 1) (h3 : -2147483648 ≤ v1 ∧ v1 ≤ 2147483647) (h4 : -2147483648 ≤ v2 ∧ v2 ≤ 2147483647) (h5 : -2147483648 ≤ v3 ∧ v3 ≤ 2147483647) (h6 : -2147483648 ≤ v4 ∧ v4 ≤ 2147483647) : 0 ≤ v0 ∧ v0 ≤ 1 := by omega
theorem ob94 (v0 : Int) (h0 : v0 = 7) : v0 ≤ 7 := by omega
theorem ob95 (v0 : Int) (h0 : v0 = 8) : 0 ≤ v0 ∧ v0 ≤ 8 := by omega
theorem ob96 (v0 : Int) (v1 : Int) (v2 : Int) (h0 : v0 = (v1 + v2 + 2147483648) % 4294967296 - 2147483648) (h1 : -256 ≤ v2 ∧ v2 ≤ 511) (h2 : -2147483648 ≤ v0 ∧ v0 ≤ 2147483647) (h3 : v1 = 18) (h4 : -2147483648 ≤ v2 ∧ v2 ≤ 2147483647) : -300 ≤ v0 ∧ v0 ≤ 600 := by omega
theorem ob97 (v0 : Int) (h0 : v0 = 3) : 0 ≤ v0 ∧ v0 ≤ 8 := by omega
theorem ob98 (v0 : Int) (v1 : Int) (v2 : Int) (h0 : v0 = (v1 + v2 + 2147483648) % 4294967296 - 2147483648) (h1 : -256 ≤ v2 ∧ v2 ≤ 511) (h2 : -2147483648 ≤ v0 ∧ v0 ≤ 2147483647) (h3 : v1 = 10) (h4 : -2147483648 ≤ v2 ∧ v2 ≤ 2147483647) : -300 ≤ v0 ∧ v0 ≤ 600 := by omega
theorem ob99 (v0 : Int) (v1 : Int) (v2 : Int) (h0 : v1 = (v2 + v0 + 2147483648) % 4294967296 - 2147483648) (h1 : v0 = 1) (h2 : -2147483648 ≤ v1 ∧ v1 ≤ 2147483647) (h3 : -2147483648 ≤ v2 ∧ v2 ≤ 2147483647) : 0 ≤ v0 ∧ v0 ≤ 1 := by omega
theorem ob100 (v0 : Int) (v1 : Int) (h0 : v1 ≠ v0) (h1 : 0 ≤ v1 ∧ v1 ≤ 1) (h2 : v0 = 0) (h3 : -2147483648 ≤ v1 ∧ v1 ≤ 2147483647) : 0 ≤ v0 ∧ v0 ≤ 1 := by omega
theorem ob101 (v0 : Int) (v1 : Int) (v2 : Int) (v3 : Int) (v4 : Int) (v5 : Int) (v6 : Int) (v7 : Int) (v8 : Int) (v9 : Int) (h0 : v0 = (v1 + v2 + 2147483648) % 4294967296 - 2147483648) (h1 : v3 = (v4 - v1 + 2147483648) % 4294967296 - 2147483648) (h2 : v5 = (v6 + v1 + 2147483648) % 4294967296 - 2147483648) (h3 : -256 ≤ v2 ∧ v2 ≤ 511) (h4 : v7 = (v5 + v8 + 2147483648) % 4294967296 - 2147483648) (h5 : v8 = (v9 * 8 + 2147483648) % 4294967296 - 2147483648) (h6 : -2147483648 ≤ v0 ∧ v0 ≤ 2147483647) (h7 : v1 = 2) (h8 : -2147483648 ≤ v2 ∧ v2 ≤ 2147483647) (h9 : -2147483648 ≤ v3 ∧ v3 ≤ 2147483647) (h10 : -2147483648 ≤ v4 ∧ v4 ≤ 2147483647) (h11 : -2147483648 ≤ v5 ∧ v5 ≤ 2147483647) (h12 : -2147483648 ≤ v6 ∧ v6 ≤ 2147483647) (h13 : -2147483648 ≤ v7 ∧ v7 ≤ 2147483647) (h14 : -2147483648 ≤ v8 ∧ v8 ≤ 2147483647) (h15 : -2147483648 ≤ v9 ∧ v9 ≤ 2147483647) : -300 ≤ v0 ∧ v0 ≤ 600 := by omega
theorem ob102 (v0 : Int) (v1 : Int) (h0 : v0 < v1) (h1 : -2147483648 ≤ v0 ∧ v0 ≤ 2147483647) (h2 : -2147483648 ≤ v1 ∧ v1 ≤ 2147483647) : v0 ≤ v1 ∧ v1 ≤ v1 ∧ (v1 = v0 ∨ v1 = v1) := by omega
theorem ob103 (v0 : Int) (v1 : Int) (h0 : v1 ≤ v0) (h1 : -2147483648 ≤ v0 ∧ v0 ≤ 2147483647) (h2 : -2147483648 ≤ v1 ∧ v1 ≤ 2147483647) : v0 ≤ v0 ∧ v1 ≤ v0 ∧ (v0 = v0 ∨ v0 = v1) := by omega
theorem ob104 (v0 : Int) (h0 : v0 = 6) : 0 ≤ v0 ∧ v0 ≤ 8 := by omega
theorem ob105 (v0 : Int) (v1 : Int) (v2 : Int) (v3 : Int) (v4 : Int) (h0 : v0 = (v1 - v2 + 2147483648) % 4294967296 - 2147483648) (h1 : v1 + 2147483649 ≤ v3 + 1) (h2 : v4 < v1) (h3 : -2147483648 ≤ v0 ∧ v0 ≤ 2147483647) (h4 : -2147483648 ≤ v1 ∧ v1 ≤ 2147483647) (h5 : v2 = 1) (h6 : v4 = 0) : 0 ≤ v0 ∧ v0 < (4 : Nat) := by omega
theorem ob106 (v0 : Int) (v1 : Int) (v2 : Int) (v3 : Int) (v4 : Int) (h0 : v0 + 2147483649 ≤ v1 + 1) (h1 : v2 < v0) (h2 : v3 = (v0 - v4 + 2147483648) % 4294967296 - 2147483648) (h3 : -2147483648 ≤ v0 ∧ v0 ≤ 2147483647) (h4 : v2 = 0) (h5 : -2147483648 ≤ v3 ∧ v3 ≤ 2147483647) (h6 : v4 = 1) : 0 ≤ v0 ∧ v0 < (4 : Nat) := by omega
theorem ob107 (v0 : Int) (v1 : Int) (v2 : Int) (v3 : Int) (v4 : Int) (v5 : Int) (v6 : Int) (h0 : v2 + 2147483649 ≤ v1 + 1) (h1 : v0 = (v2 + v3 + 2147483648) % 4294967296 - 2147483648) (h2 : v4 < v2) (h3 : v5 = (v2 - v6 + 2147483648) % 4294967296 - 2147483648) (h4 : -2147483648 ≤ v0 ∧ v0 ≤ 2147483647) (h5 : -2147483648 ≤ v2 ∧ v2 ≤ 2147483647) (h6 : v3 = (-1)) (h7 : v4 = 0) (h8 : -2147483648 ≤ v5 ∧ v5 ≤ 2147483647) (h9 : v6 = 1) : v0 + 2147483649 ≤ v1 := by omega
theorem ob108 (v0 : Int) (h0 : v0 = 10) : 7 ≤ v0 ∧ v0 ≤ 10 := by omega
theorem ob109 (v0 : Int) (v1 : Int) (v2 : Int) (h0 : v1 < v0) (h1 : v2 = v1) (h2 : v0 = 7) (h3 : -2147483648 ≤ v1 ∧ v1 ≤ 2147483647) (h4 : -2147483648 ≤ v2 ∧ v2 ≤ 2147483647) : 7 ≤ v0 ∧ v0 ≤ 10 := by omega
theorem ob110 (v0 : Int) (h0 : v0 = 11) : 8 ≤ v0 ∧ v0 ≤ 11 := by omega
theorem ob111 (v0 : Int) (h0 : v0 = 8) : 8 ≤ v0 ∧ v0 ≤ 11 := by omega
theorem ob112 (v0 : Int) (h0 : v0 = 11) : 9 ≤ v0 ∧ v0 ≤ 11 := by omega
theorem ob113 (v0 : Int) (h0 : v0 = 9) : 9 ≤ v0 ∧ v0 ≤ 11 := by omega
set_option maxHeartbeats 4000000 in
set_option maxRecDepth 100000 in
/-- X5_use on (9,) -/
theorem jx_X5_use (l : Launch) (hlt : l.stackTraces = false) (D : va_G) (t3 : Nat × Nat × Nat) (cI cJ : ClassId) (ad : Nat → Nat) (g : Nat → Int32) (lg : Nat → Int64) (ar : Nat → Nat → Int32) (bk : Nat → Int64) (sz : Nat) (y1 : Int32) (y2 : Int32) (y3 : Int32) (hr0 : 0 ≤ (y1).toInt ∧ (y1).toInt ≤ 4) (hr1 : 0 ≤ (y2).toInt ∧ (y2).toInt ≤ 4) (hi_g21 : 0 ≤ (g 21).toInt ∧ (g 21).toInt ≤ 4) (hi_g22 : 0 ≤ (g 22).toInt ∧ (g 22).toInt ≤ 4) : JMv l yX5_use (Cond.code yX5_use cX5_use 4 none :: wwX) { frames := 0, cells := 1, slots := 6, locals := 0 } t3 D xw cI cJ ad [.ref (ad 9), .int y1, .int y2, .int y3] (xw cI cJ ad g lg ar bk) sz 1 6 (fun g' lg' ar' bk' => hk_fr [21, 22, 23] g g' ∧ hk_fr [] lg lg' ∧ hk_fr [] ar ar' ∧ (0 ≤ (g' 21).toInt ∧ (g' 21).toInt ≤ 4) ∧ (0 ≤ (g' 22).toInt ∧ (g' 22).toInt ≤ 4)) (fun g' lg' ar' bk' => False) := by
  refine jx_metv (cc := cX5_use) (maxL := 4) (ret := none) rfl (by decide) rfl (Nat.le_of_ble_eq_true rfl) ?_
  intro p e s m args below meth c ls Q A hx hb hml hown hts hA hZ hw hl hQ kr kt
  have hq : ∀ w ∈ wwX, w.before args s = true := fun w h => hts w (List.mem_cons_of_mem _ h)
  have hl : lv_has ls 4 [(0, .ref (ad 9)), (1, .int y1), (2, .int y2), (3, .int y3)] := hl
  refine lv_aload_n hx hb dX5_use_0 rfl (lv_at hl 0 rfl) ?_
  refine lv_iload_n hx hb dX5_use_1 rfl (lv_at hl 1 rfl) ?_
  refine jx_putg xw (g := g) (lg := lg) (ar := ar) (bk := bk) (x := y1) 21 (ci := 8) (C := RX5) (T := TX5) (N := 6) (ty := .int) hx hb hts (fun _ h => List.mem_cons_of_mem _ (wwXc_wsX50 _ h)) tyX5 tyX5_ok nmX5 hown hw 9 rfl rfl 2 (by decide) (hq _ wX_381) rfl (by decide +kernel) rfl rfl (Nat.le_of_ble_eq_true rfl) dX5_use_2 rfl (fun H locs g1 h_g1 hw => ?_)
  refine lv_aload_n hx hb dX5_use_5 rfl (lv_at hl 0 rfl) ?_
  refine lv_iload_n hx hb dX5_use_6 rfl (lv_at hl 2 rfl) ?_
  refine jx_putg xw (g := g1) (lg := lg) (ar := ar) (bk := bk) (x := y2) 22 (ci := 8) (C := RX5) (T := TX5) (N := 6) (ty := .int) hx hb hts (fun _ h => List.mem_cons_of_mem _ (wwXc_wsX50 _ h)) tyX5 tyX5_ok nmX5 hown hw 9 rfl rfl 3 (by decide) (hq _ wX_380) rfl (by decide +kernel) rfl rfl (Nat.le_of_ble_eq_true rfl) dX5_use_7 rfl (fun H locs g2 h_g2 hw => ?_)
  refine lv_aload_n hx hb dX5_use_10 rfl (lv_at hl 0 rfl) ?_
  refine lv_iload_n hx hb dX5_use_11 rfl (lv_at hl 3 rfl) ?_
  refine jx_putg xw (g := g2) (lg := lg) (ar := ar) (bk := bk) (x := y3) 23 (ci := 8) (C := RX5) (T := TX5) (N := 6) (ty := .int) hx hb hts (fun _ h => List.mem_cons_of_mem _ (wwXc_wsX50 _ h)) tyX5 tyX5_ok nmX5 hown hw 9 rfl rfl 4 (by decide) (hq _ wX_398) rfl (by decide +kernel) rfl rfl (Nat.le_of_ble_eq_true rfl) dX5_use_12 rfl (fun H locs g3 h_g3 hw => ?_)
  have e_g3_21 : g3 21 = y1 := ((hk_upgN h_g3 21 rfl)).trans (((hk_upgN h_g2 21 rfl)).trans (hk_upgS h_g1))
  have e_g3_22 : g3 22 = y2 := ((hk_upgN h_g3 22 rfl)).trans (hk_upgS h_g2)
  exact kr g3 lg ar bk _ _ _ _ ⟨(hk_frG (hk_frG (hk_frG hk_fr0 (by decide) h_g1) (by decide) h_g2) (by decide) h_g3), hk_fr0, hk_fr0, (ob61 ((g3 21).toInt) ((y1).toInt) (congrArg Int32.toInt e_g3_21) hr0 (hE_rng (g3 21)) (hE_rng (y1))), (ob61 ((g3 22).toInt) ((y2).toInt) (congrArg Int32.toInt e_g3_22) hr1 (hE_rng (g3 22)) (hE_rng (y2)))⟩ hw dX5_use_15

set_option maxHeartbeats 4000000 in
set_option maxRecDepth 100000 in
/-- J9_min_7cf53 -/
theorem jx_J9_min_7cf53 (l : Launch) (hlt : l.stackTraces = false) (D : va_G) (t3 : Nat × Nat × Nat) (cI cJ : ClassId) (ad : Nat → Nat) (g : Nat → Int32) (lg : Nat → Int64) (ar : Nat → Nat → Int32) (bk : Nat → Int64) (sz : Nat) (y0 : Int32) (y1 : Int32) : JMi l yJ9_min_7cf53 (Cond.code yJ9_min_7cf53 cJ9_min_7cf53 2 (some .int) :: wwX) { frames := 0, cells := 1, slots := 6, locals := 0 } t3 D xw cI cJ ad [.int y0, .int y1] (xw cI cJ ad g lg ar bk) sz 1 6 (fun (r : Int32) g' lg' ar' bk' => hk_fr [] g g' ∧ hk_fr [] lg lg' ∧ hk_fr [] ar ar' ∧ ((r).toInt ≤ (y0).toInt ∧ (r).toInt ≤ (y1).toInt ∧ ((r).toInt = (y0).toInt ∨ (r).toInt = (y1).toInt))) (fun g' lg' ar' bk' => False) := by
  refine jx_meti (cc := cJ9_min_7cf53) (maxL := 2) (ret := (some .int)) rfl (by decide) rfl (Nat.le_of_ble_eq_true rfl) ?_
  intro p e s m args below meth c ls Q A hx hb hml hown hts hA hZ hw hl hQ kr kt
  have hq : ∀ w ∈ wwX, w.before args s = true := fun w h => hts w (List.mem_cons_of_mem _ h)
  have hl : lv_has ls 2 [(0, .int y0), (1, .int y1)] := hl
  refine lv_iload_n hx hb dJ9_min_7cf53_0 rfl (lv_at hl 0 rfl) ?_
  refine lv_iload_n hx hb dJ9_min_7cf53_1 rfl (lv_at hl 1 rfl) ?_
  refine lv_icmp_gt (tgt := 9) hx hb dJ9_min_7cf53_2 (by decide) (fun cc1 => ?_) (fun cc1 => ?_)
  · refine lv_iload_n hx hb dJ9_min_7cf53_9 rfl (lv_at hl 1 rfl) ?_
    exact kr y1 g lg ar bk _ _ _ _ ⟨hk_fr0, hk_fr0, hk_fr0, (ob62 ((y1).toInt) ((y0).toInt) (hE_lt cc1) (hE_rng (y1)) (hE_rng (y0)))⟩ hw dJ9_min_7cf53_10
  · refine lv_iload_n hx hb dJ9_min_7cf53_5 rfl (lv_at hl 0 rfl) ?_
    refine lv_goto (tgt := 10) hx hb dJ9_min_7cf53_6 (by decide) ?_
    exact kr y0 g lg ar bk _ _ _ _ ⟨hk_fr0, hk_fr0, hk_fr0, (ob63 ((y0).toInt) ((y1).toInt) (hE_nlt cc1) (hE_rng (y0)) (hE_rng (y1)))⟩ hw dJ9_min_7cf53_10

set_option maxHeartbeats 4000000 in
set_option maxRecDepth 100000 in
/-- J7_rangeCheck_23922 -/
theorem jx_J7_rangeCheck_23922 (l : Launch) (hlt : l.stackTraces = false) (D : va_G) (t3 : Nat × Nat × Nat) (cI cJ : ClassId) (ad : Nat → Nat) (g : Nat → Int32) (lg : Nat → Int64) (ar : Nat → Nat → Int32) (bk : Nat → Int64) (sz : Nat) (y0 : Int32) (y1 : Int32) (y2 : Int32) (hr0 : 0 ≤ (y1).toInt) (hr1 : (y1).toInt ≤ (y2).toInt) (hr2 : (y2).toInt ≤ (y0).toInt) : JMv l yJ7_rangeCheck_23922 (Cond.code yJ7_rangeCheck_23922 cJ7_rangeCheck_23922 3 none :: wwX) { frames := 0, cells := 1, slots := 6, locals := 0 } t3 D xw cI cJ ad [.int y0, .int y1, .int y2] (xw cI cJ ad g lg ar bk) sz 1 6 (fun g' lg' ar' bk' => hk_fr [] g g' ∧ hk_fr [] lg lg' ∧ hk_fr [] ar ar') (fun g' lg' ar' bk' => False) := by
  refine jx_metv (cc := cJ7_rangeCheck_23922) (maxL := 3) (ret := none) rfl (by decide) rfl (Nat.le_of_ble_eq_true rfl) ?_
  intro p e s m args below meth c ls Q A hx hb hml hown hts hA hZ hw hl hQ kr kt
  have hq : ∀ w ∈ wwX, w.before args s = true := fun w h => hts w (List.mem_cons_of_mem _ h)
  have hl : lv_has ls 3 [(0, .int y0), (1, .int y1), (2, .int y2)] := hl
  refine lv_iload_n hx hb dJ7_rangeCheck_23922_0 rfl (lv_at hl 1 rfl) ?_
  refine lv_iload_n hx hb dJ7_rangeCheck_23922_1 rfl (lv_at hl 2 rfl) ?_
  refine lv_icmp_le (tgt := 46) hx hb dJ7_rangeCheck_23922_2 (by decide) (fun cc1 => ?_) (fun cc1 => ?_)
  · refine lv_iload_n hx hb dJ7_rangeCheck_23922_46 rfl (lv_at hl 1 rfl) ?_
    refine lv_if_ge (tgt := 59) hx hb dJ7_rangeCheck_23922_47 (by decide) (fun cc2 => ?_) (fun cc2 => ?_)
    · refine lv_iload_n hx hb dJ7_rangeCheck_23922_59 rfl (lv_at hl 2 rfl) ?_
      refine lv_iload_n hx hb dJ7_rangeCheck_23922_60 rfl (lv_at hl 0 rfl) ?_
      refine lv_icmp_le (tgt := 73) hx hb dJ7_rangeCheck_23922_61 (by decide) (fun cc3 => ?_) (fun cc3 => ?_)
      · exact kr g lg ar bk _ _ _ _ ⟨hk_fr0, hk_fr0, hk_fr0⟩ hw dJ7_rangeCheck_23922_73
      · exact False.elim (hk_no0 (0 * (y1).toInt + 0 * (y2).toInt + 0 * (y0).toInt + 0 * ((0 : Int32)).toInt) (ob64 ((y1).toInt) ((y2).toInt) ((y0).toInt) (((0 : Int32)).toInt) hr0 hr1 hr2 (hE_le cc1) (hE_le cc2) (hE_nle cc3) (hE_rng (y1)) (hE_rng (y2)) (hE_rng (y0)) (by decide)) (by simp))
    · exact False.elim (hk_no0 (0 * (y1).toInt + 0 * (y2).toInt + 0 * (y0).toInt + 0 * ((0 : Int32)).toInt) (ob65 ((y1).toInt) ((y2).toInt) ((y0).toInt) (((0 : Int32)).toInt) hr0 hr1 hr2 (hE_le cc1) (hE_nle cc2) (hE_rng (y1)) (hE_rng (y2)) (hE_rng (y0)) (by decide)) (by simp))
  · exact False.elim (hk_no0 (0 * (y1).toInt + 0 * (y2).toInt + 0 * (y0).toInt) (ob66 ((y1).toInt) ((y2).toInt) ((y0).toInt) hr0 hr1 hr2 (hE_nle cc1) (hE_rng (y1)) (hE_rng (y2)) (hE_rng (y0))) (by simp))

set_option maxHeartbeats 4000000 in
set_option maxRecDepth 100000 in
/-- J7_fill_fda19 on (8,) -/
theorem jx_J7_fill_fda19_8 (l : Launch) (hlt : l.stackTraces = false) (D : va_G) (t3 : Nat × Nat × Nat) (cI cJ : ClassId) (ad : Nat → Nat) (g : Nat → Int32) (lg : Nat → Int64) (ar : Nat → Nat → Int32) (bk : Nat → Int64) (sz : Nat) (y1 : Int32) (y2 : Int32) (y3 : Int32) (hr0 : 0 ≤ (y1).toInt) (hr1 : (y1).toInt ≤ (y2).toInt) (hr2 : (y2).toInt ≤ 14340) : JMv l yJ7_fill_fda19 (Cond.code yJ7_fill_fda19 cJ7_fill_fda19 5 none :: wwX) { frames := 1, cells := 1, slots := 6, locals := 22 } t3 D xw cI cJ ad [.ref (ad 8), .int y1, .int y2, .int y3] (xw cI cJ ad g lg ar bk) sz 1 6 (fun g' lg' ar' bk' => hk_fr [] g g' ∧ hk_fr [] lg lg' ∧ hk_fr [2] ar ar') (fun g' lg' ar' bk' => False) := by
  refine jx_metv (cc := cJ7_fill_fda19) (maxL := 5) (ret := none) rfl (by decide) rfl (Nat.le_of_ble_eq_true rfl) ?_
  intro p e s m args below meth c ls Q A hx hb hml hown hts hA hZ hw hl hQ kr kt
  have hq : ∀ w ∈ wwX, w.before args s = true := fun w h => hts w (List.mem_cons_of_mem _ h)
  have hl : lv_has ls 5 [(0, .ref (ad 8)), (1, .int y1), (2, .int y2), (3, .int y3)] := hl
  refine lv_aload_n hx hb dJ7_fill_fda19_0 rfl (lv_at hl 0 rfl) ?_
  refine hk_alen (v := 14340) hx hb hw 8 0 rfl rfl rfl dJ7_fill_fda19_1 ?_
  refine lv_iload_n hx hb dJ7_fill_fda19_2 rfl (lv_at hl 1 rfl) ?_
  refine lv_iload_n hx hb dJ7_fill_fda19_3 rfl (lv_at hl 2 rfl) ?_
  refine jx_Sv (As := [.int 14340, .int y1, .int y2]) (rest := []) ⟨hx, hb, hml, hown, hts⟩ hZ hw hA (jx_J7_rangeCheck_23922 l hlt D t3 cI cJ ad g lg ar bk _ 14340 y1 y2 (ob67 ((y1).toInt) ((y2).toInt) hr0 hr1 hr2 (hE_rng (y1)) (hE_rng (y2))) (ob68 ((y1).toInt) ((y2).toInt) hr0 hr1 hr2 (hE_rng (y1)) (hE_rng (y2))) (ob69 ((y2).toInt) (((14340 : Int32)).toInt) ((y1).toInt) hr1 hr2 hr0 (hE_rng (y2)) (by decide) (hE_rng (y1)))) (va_cwS 3 hts (jx_gS wwX_good wX_5 wX_6 wX_7 wX_8) rfl rfl rfl (by decide +kernel) ⟨Nat.le_of_ble_eq_true rfl, Nat.le_of_ble_eq_true rfl⟩) rfl hl.1 rfl (Nat.le_of_ble_eq_true rfl) dJ7_fill_fda19_4 ⟨Nat.le_of_ble_eq_true rfl, Nat.le_of_ble_eq_true rfl⟩ (fun _ _ _ _ _ _ _ _ hp _ _ _ _ => hp.elim) (fun g6 l7 a8 b9 H locs hp10 hw => ?_)
  obtain ⟨h11, h12, h13⟩ := hp10
  refine lv_iload_n hx hb dJ7_fill_fda19_7 rfl (lv_at hl 1 rfl) ?_
  refine lv_istore (lv' := [(4, .int y1), (0, .ref (ad 8)), (1, .int y1), (2, .int y2), (3, .int y3)]) hx hb dJ7_fill_fda19_8 hl (by decide) rfl (fun ls hl => ?_)
  have B14 : ∀ (k17 : Nat) (x15 : Int32) (a16 : Nat → Nat → Int32) (ls : Array Slot) (H : Heap) (locs : List Loc), 2147483648 - (x15).toInt ≤ (k17 : Int) → 0 ≤ (x15).toInt → hk_fr [2] a8 a16 → hk_W D (jT cI cJ) A s H locs (xw cI cJ ad g6 l7 a16 b9) → lv_has ls 5 [(0, .ref (ad 8)), (2, .int y2), (3, .int y3), (4, .int x15)] → W p l e { frames := 1, cells := 1, slots := 6, locals := 22 } s m args below meth c H locs 0 0 Q (F0 m 10 ls []) := by
    intro k17
    induction k17 with
    | zero =>
      intro x15 a16 ls H locs hrk_B14 hf_B14_0 hfr_a16 hw hl
      exact False.elim (hk_no0 (0 * (x15).toInt) (ob5 ((x15).toInt) hf_B14_0 hrk_B14 (hE_rng (x15))) (by simp))
    | succ k17 ih_B14 =>
      intro x15 a16 ls H locs hrk_B14 hf_B14_0 hfr_a16 hw hl
      have hrk_B14 := hk_rk hrk_B14
      refine lv_iload hx hb dJ7_fill_fda19_10 (lv_at hl 3 rfl) ?_
      refine lv_iload_n hx hb dJ7_fill_fda19_12 rfl (lv_at hl 1 rfl) ?_
      refine lv_icmp_ge (tgt := 27) hx hb dJ7_fill_fda19_13 (by decide) (fun cc18 => ?_) (fun cc18 => ?_)
      · exact kr g6 l7 a16 b9 _ _ _ _ ⟨h11, h12, (hk_frT (hk_frT hk_fr0 (by decide) h13) (by decide) hfr_a16)⟩ hw dJ7_fill_fda19_27
      · refine lv_aload_n hx hb dJ7_fill_fda19_16 rfl (lv_at hl 0 rfl) ?_
        refine lv_iload hx hb dJ7_fill_fda19_17 (lv_at hl 3 rfl) ?_
        refine lv_iload_n hx hb dJ7_fill_fda19_19 rfl (lv_at hl 2 rfl) ?_
        refine jx_iast xw (g := g6) (lg := l7) (ar := a16) (bk := b9) 2 hx hb hw 8 0 rfl rfl (hE_in (n := 14340) (ob70 ((x15).toInt) (k17 : Int) ((y2).toInt) ((y1).toInt) hf_B14_0 hrk_B14 (hE_nle cc18) hr1 hr2 hr0 (hE_rng (x15)) (hE_rng (y2)) (hE_rng (y1)))) dJ7_fill_fda19_20 rfl (fun H locs a19 h_a19 hw => ?_)
        obtain ⟨z20, hz20⟩ : ∃ z : Int32, x15 + 1 = z := ⟨_, rfl⟩
        refine lv_iinc (v := z20) (lv' := [(4, .int z20), (0, .ref (ad 8)), (2, .int y2), (3, .int y3)]) hx hb dJ7_fill_fda19_21 hl (k := 3) rfl hz20 (by decide) rfl (fun ls hl => ?_)
        refine lv_goto (tgt := 10) hx hb dJ7_fill_fda19_24 (by decide) ?_
        exact ih_B14 z20 a19 ls _ _ (ob71 ((z20).toInt) (k17 : Int) ((x15).toInt) (((1 : Int32)).toInt) ((y2).toInt) ((y1).toInt) hrk_B14 (hE_add hz20) hf_B14_0 (hE_nle cc18) hr1 hr2 hr0 (hE_rng (z20)) (hE_rng (x15)) (by decide) (hE_rng (y2)) (hE_rng (y1))) (ob72 ((z20).toInt) ((x15).toInt) (((1 : Int32)).toInt) (k17 : Int) ((y2).toInt) ((y1).toInt) (hE_add hz20) hf_B14_0 hrk_B14 (hE_nle cc18) hr1 hr2 hr0 (hE_rng (z20)) (hE_rng (x15)) (by decide) (hE_rng (y2)) (hE_rng (y1))) (hk_frA hfr_a16 (by decide) h_a19) hw (lv_sub hl [1, 2, 3, 0] rfl)
  exact B14 (2147483648 - (y1).toInt).toNat y1 a8 ls _ _ (Int.self_le_toNat _) (ob67 ((y1).toInt) ((y2).toInt) hr0 hr1 hr2 (hE_rng (y1)) (hE_rng (y2))) hk_fr0 hw (lv_sub hl [1, 3, 4, 0] rfl)

set_option maxHeartbeats 4000000 in
set_option maxRecDepth 100000 in
/-- J7_fill_d0a16 on (10,) -/
theorem jx_J7_fill_d0a16_10 (l : Launch) (hlt : l.stackTraces = false) (D : va_G) (t3 : Nat × Nat × Nat) (cI cJ : ClassId) (ad : Nat → Nat) (g : Nat → Int32) (lg : Nat → Int64) (ar : Nat → Nat → Int32) (bk : Nat → Int64) (sz : Nat) (y1 : Int64) : JMv l yJ7_fill_d0a16 (Cond.code yJ7_fill_d0a16 cJ7_fill_d0a16 5 none :: wwX) { frames := 0, cells := 1, slots := 6, locals := 0 } t3 D xw cI cJ ad [.ref (ad 10), .long y1] (xw cI cJ ad g lg ar bk) sz 1 6 (fun g' lg' ar' bk' => hk_fr [] g g' ∧ hk_fr [] lg lg' ∧ hk_fr [] ar ar') (fun g' lg' ar' bk' => False) := by
  refine jx_metv (cc := cJ7_fill_d0a16) (maxL := 5) (ret := none) rfl (by decide) rfl (Nat.le_of_ble_eq_true rfl) ?_
  intro p e s m args below meth c ls Q A hx hb hml hown hts hA hZ hw hl hQ kr kt
  have hq : ∀ w ∈ wwX, w.before args s = true := fun w h => hts w (List.mem_cons_of_mem _ h)
  have hl : lv_has ls 5 [(0, .ref (ad 10)), (1, .long y1)] := hl
  refine lv_iconst (v := 0) hx hb dJ7_fill_d0a16_0 (by decide) ?_
  refine lv_istore_n (lv' := [(3, .int 0), (0, .ref (ad 10)), (1, .long y1)]) hx hb dJ7_fill_d0a16_1 rfl hl (by decide) rfl (fun ls hl => ?_)
  refine lv_aload_n hx hb dJ7_fill_d0a16_2 rfl (lv_at hl 1 rfl) ?_
  refine hk_alen (v := 4) hx hb hw 10 1 rfl rfl rfl dJ7_fill_d0a16_3 ?_
  refine lv_istore (lv' := [(4, .int 4), (3, .int 0), (0, .ref (ad 10)), (1, .long y1)]) hx hb dJ7_fill_d0a16_4 hl (by decide) rfl (fun ls hl => ?_)
  have B1 : ∀ (k4 : Nat) (x2 : Int32) (b3 : Nat → Int64) (ls : Array Slot) (H : Heap) (locs : List Loc), 2147483648 - (x2).toInt ≤ (k4 : Int) → 0 ≤ (x2).toInt → hk_W D (jT cI cJ) A s H locs (xw cI cJ ad g lg ar b3) → lv_has ls 5 [(0, .ref (ad 10)), (1, .long y1), (3, .int x2), (4, .int 4)] → W p l e { frames := 0, cells := 1, slots := 6, locals := 0 } s m args below meth c H locs 0 0 Q (F0 m 6 ls []) := by
    intro k4
    induction k4 with
    | zero =>
      intro x2 b3 ls H locs hrk_B1 hf_B1_0 hw hl
      exact False.elim (hk_no0 (0 * (x2).toInt) (ob5 ((x2).toInt) hf_B1_0 hrk_B1 (hE_rng (x2))) (by simp))
    | succ k4 ih_B1 =>
      intro x2 b3 ls H locs hrk_B1 hf_B1_0 hw hl
      have hrk_B1 := hk_rk hrk_B1
      refine lv_iload_n hx hb dJ7_fill_d0a16_6 rfl (lv_at hl 2 rfl) ?_
      refine lv_iload hx hb dJ7_fill_d0a16_7 (lv_at hl 3 rfl) ?_
      refine lv_icmp_ge (tgt := 22) hx hb dJ7_fill_d0a16_9 (by decide) (fun cc5 => ?_) (fun cc5 => ?_)
      · exact kr g lg ar b3 _ _ _ _ ⟨hk_fr0, hk_fr0, hk_fr0⟩ hw dJ7_fill_d0a16_22
      · refine lv_aload_n hx hb dJ7_fill_d0a16_12 rfl (lv_at hl 0 rfl) ?_
        refine lv_iload_n hx hb dJ7_fill_d0a16_13 rfl (lv_at hl 2 rfl) ?_
        refine lv_lload_n hx hb dJ7_fill_d0a16_14 rfl (lv_at hl 1 rfl) ?_
        refine jx_last xw (g := g) (lg := lg) (ar := ar) (bk := b3) hx hb hw 10 1 rfl rfl (hE_in (n := 4) (ob73 ((x2).toInt) (k4 : Int) (((4 : Int32)).toInt) hf_B1_0 hrk_B1 (hE_nle cc5) (hE_rng (x2)) (by decide))) dJ7_fill_d0a16_15 rfl (fun H locs b6 h_b6 hw => ?_)
        obtain ⟨z7, hz7⟩ : ∃ z : Int32, x2 + 1 = z := ⟨_, rfl⟩
        refine lv_iinc (v := z7) (lv' := [(3, .int z7), (0, .ref (ad 10)), (1, .long y1), (4, .int 4)]) hx hb dJ7_fill_d0a16_16 hl (k := 2) rfl hz7 (by decide) rfl (fun ls hl => ?_)
        refine lv_goto (tgt := 6) hx hb dJ7_fill_d0a16_19 (by decide) ?_
        exact ih_B1 z7 b6 ls _ _ (ob18 ((z7).toInt) (k4 : Int) ((x2).toInt) (((1 : Int32)).toInt) (((4 : Int32)).toInt) hrk_B1 (hE_add hz7) hf_B1_0 (hE_nle cc5) (hE_rng (z7)) (hE_rng (x2)) (by decide) (by decide)) (ob19 ((z7).toInt) ((x2).toInt) (((1 : Int32)).toInt) (k4 : Int) (((4 : Int32)).toInt) (hE_add hz7) hf_B1_0 hrk_B1 (hE_nle cc5) (hE_rng (z7)) (hE_rng (x2)) (by decide) (by decide)) hw (lv_sub hl [1, 2, 0, 3] rfl)
  exact B1 (2147483648 - ((0 : Int32)).toInt).toNat 0 bk ls _ _ (Int.self_le_toNat _) (ob10 (((0 : Int32)).toInt) (by decide)) hw (lv_sub hl [2, 3, 1, 0] rfl)

set_option maxHeartbeats 4000000 in
set_option maxRecDepth 100000 in
/-- X5_reset on (9,) -/
theorem jx_X5_reset (l : Launch) (hlt : l.stackTraces = false) (D : va_G) (t3 : Nat × Nat × Nat) (cI cJ : ClassId) (ad : Nat → Nat) (g : Nat → Int32) (lg : Nat → Int64) (ar : Nat → Nat → Int32) (bk : Nat → Int64) (sz : Nat) (hi_g21 : 0 ≤ (g 21).toInt ∧ (g 21).toInt ≤ 4) (hi_g22 : 0 ≤ (g 22).toInt ∧ (g 22).toInt ≤ 4) : JMv l yX5_reset (Cond.code yX5_reset cX5_reset 2 none :: wwX) { frames := 2, cells := 1, slots := 6, locals := 46 } t3 D xw cI cJ ad [.ref (ad 9)] (xw cI cJ ad g lg ar bk) sz 1 6 (fun g' lg' ar' bk' => hk_fr [24] g g' ∧ hk_fr [] lg lg' ∧ hk_fr [2] ar ar') (fun g' lg' ar' bk' => False) := by
  refine jx_metv (cc := cX5_reset) (maxL := 2) (ret := none) rfl (by decide) rfl (Nat.le_of_ble_eq_true rfl) ?_
  intro p e s m args below meth c ls Q A hx hb hml hown hts hA hZ hw hl hQ kr kt
  have hq : ∀ w ∈ wwX, w.before args s = true := fun w h => hts w (List.mem_cons_of_mem _ h)
  have hl : lv_has ls 2 [(0, .ref (ad 9))] := hl
  refine lv_sipush (v := 2052) hx hb dX5_reset_0 (by decide) ?_
  refine lv_sipush (v := 768) hx hb dX5_reset_3 (by decide) ?_
  refine lv_aload_n hx hb dX5_reset_6 rfl (lv_at hl 0 rfl) ?_
  refine hk_get (ci := 8) (C := RX5) (T := TX5) (N := 6) (v := .int (g 21)) hx hb hts (fun _ h => List.mem_cons_of_mem _ (wwXc_wsX50 _ h)) hown hw 9 rfl rfl 2 (by decide) (hq _ wX_381) rfl dX5_reset_7 ?_
  refine lv_aload_n hx hb dX5_reset_10 rfl (lv_at hl 0 rfl) ?_
  refine hk_get (ci := 8) (C := RX5) (T := TX5) (N := 6) (v := .int (g 22)) hx hb hts (fun _ h => List.mem_cons_of_mem _ (wwXc_wsX50 _ h)) hown hw 9 rfl rfl 3 (by decide) (hq _ wX_380) rfl dX5_reset_11 ?_
  refine lv_iadd hx hb dX5_reset_14 (jx_nm fun z1 hz1 => ?_)
  refine lv_ishl hx hb dX5_reset_15 (jx_nm fun z2 hz2 => ?_)
  refine lv_iadd hx hb dX5_reset_16 (jx_nm fun z3 hz3 => ?_)
  refine lv_istore_n (lv' := [(1, .int z3), (0, .ref (ad 9))]) hx hb dX5_reset_17 rfl hl (by decide) rfl (fun ls hl => ?_)
  refine lv_aload_n hx hb dX5_reset_18 rfl (lv_at hl 1 rfl) ?_
  refine hk_get (ci := 8) (C := RX5) (T := TX5) (N := 6) (v := .ref (ad 7)) hx hb hts (fun _ h => List.mem_cons_of_mem _ (wwXc_wsX50 _ h)) hown hw 9 rfl rfl 0 (by decide) (hq _ wX_357) rfl dX5_reset_19 ?_
  refine hk_get (ci := 5) (C := RX2) (T := TX2) (N := 9) (v := .ref (ad 8)) hx hb hts (fun _ h => List.mem_cons_of_mem _ (wwXc_wsX20 _ h)) hown hw 7 rfl rfl 0 (by decide) (hq _ wX_386) rfl dX5_reset_22 ?_
  refine lv_iconst (v := 0) hx hb dX5_reset_25 (by decide) ?_
  refine lv_iload_n hx hb dX5_reset_26 rfl (lv_at hl 0 rfl) ?_
  refine lv_sipush (v := 14340) hx hb dX5_reset_27 (by decide) ?_
  refine jx_Si (As := [.int z3, .int 14340]) (rest := [.int 0, .ref (ad 8)]) ⟨hx, hb, hml, hown, hts⟩ hZ hw hA (jx_J9_min_7cf53 l hlt D t3 cI cJ ad g lg ar bk _ z3 14340) (va_cwS 2 hts (jx_gS wwX_good wX_355 wX_146 wX_143 wX_147) rfl rfl rfl (by decide +kernel) ⟨Nat.le_of_ble_eq_true rfl, Nat.le_of_ble_eq_true rfl⟩) rfl hl.1 rfl (Nat.le_of_ble_eq_true rfl) dX5_reset_30 ⟨Nat.le_of_ble_eq_true rfl, Nat.le_of_ble_eq_true rfl⟩ (fun _ _ _ _ _ _ _ _ hp _ _ _ _ => hp.elim) (fun r8 g9 l10 a11 b12 H locs hp13 hw => ?_)
  obtain ⟨h14, h15, h16, h17⟩ := hp13
  refine lv_sipush (v := 1024) hx hb dX5_reset_33 (by decide) ?_
  refine jx_Sv (As := [.ref (ad 8), .int 0, .int r8, .int 1024]) (rest := []) ⟨hx, hb, hml, hown, hts⟩ hZ hw hA (jx_J7_fill_fda19_8 l hlt D t3 cI cJ ad g9 l10 a11 b12 _ 0 r8 1024 (ob10 (((0 : Int32)).toInt) (by decide)) (ob74 (((0 : Int32)).toInt) ((r8).toInt) ((z3).toInt) (((14340 : Int32)).toInt) (((2052 : Int32)).toInt) ((z2).toInt) h17 (hE_add hz3) (by decide) (hE_rng (r8)) (hE_rng (z3)) (by decide) (by decide) (hE_rng (z2))) (ob75 ((r8).toInt) ((z3).toInt) (((14340 : Int32)).toInt) (((2052 : Int32)).toInt) ((z2).toInt) h17 (hE_add hz3) (hE_rng (r8)) (hE_rng (z3)) (by decide) (by decide) (hE_rng (z2)))) (va_cwS 4 hts (jx_gS wwX_good wX_387 wX_388 wX_7 wX_389) rfl rfl rfl (by decide +kernel) ⟨Nat.le_of_ble_eq_true rfl, Nat.le_of_ble_eq_true rfl⟩) rfl hl.1 rfl (Nat.le_of_ble_eq_true rfl) dX5_reset_36 ⟨Nat.le_of_ble_eq_true rfl, Nat.le_of_ble_eq_true rfl⟩ (fun _ _ _ _ _ _ _ _ hp _ _ _ _ => hp.elim) (fun g23 l24 a25 b26 H locs hp27 hw => ?_)
  obtain ⟨h28, h29, h30⟩ := hp27
  refine lv_aload_n hx hb dX5_reset_39 rfl (lv_at hl 1 rfl) ?_
  refine hk_get (ci := 8) (C := RX5) (T := TX5) (N := 6) (v := .ref (ad 10)) hx hb hts (fun _ h => List.mem_cons_of_mem _ (wwXc_wsX50 _ h)) hown hw 9 rfl rfl 1 (by decide) (hq _ wX_354) rfl dX5_reset_40 ?_
  refine lv_lconst (v := 1) hx hb dX5_reset_43 (by decide) ?_
  refine jx_Sv (As := [.ref (ad 10), .long 1]) (rest := []) ⟨hx, hb, hml, hown, hts⟩ hZ hw hA (jx_J7_fill_d0a16_10 l hlt D t3 cI cJ ad g23 l24 a25 b26 _ 1) (va_cwS 2 hts (jx_gS wwX_good wX_390 wX_391 wX_7 wX_392) rfl rfl rfl (by decide +kernel) ⟨Nat.le_of_ble_eq_true rfl, Nat.le_of_ble_eq_true rfl⟩) rfl hl.1 rfl (Nat.le_of_ble_eq_true rfl) dX5_reset_44 ⟨Nat.le_of_ble_eq_true rfl, Nat.le_of_ble_eq_true rfl⟩ (fun _ _ _ _ _ _ _ _ hp _ _ _ _ => hp.elim) (fun g36 l37 a38 b39 H locs hp40 hw => ?_)
  obtain ⟨h41, h42, h43⟩ := hp40
  refine lv_aload_n hx hb dX5_reset_47 rfl (lv_at hl 1 rfl) ?_
  refine lv_iconst (v := 0) hx hb dX5_reset_48 (by decide) ?_
  refine jx_putg xw (g := g36) (lg := l37) (ar := a38) (bk := b39) (x := 0) 24 (ci := 8) (C := RX5) (T := TX5) (N := 6) (ty := .int) hx hb hts (fun _ h => List.mem_cons_of_mem _ (wwXc_wsX50 _ h)) tyX5 tyX5_ok nmX5 hown hw 9 rfl rfl 5 (by decide) (hq _ wX_378) rfl (by decide +kernel) rfl rfl (Nat.le_of_ble_eq_true rfl) dX5_reset_49 rfl (fun H locs g44 h_g44 hw => ?_)
  exact kr g44 l37 a38 b39 _ _ _ _ ⟨(hk_frG (hk_frT (hk_frT (hk_frT hk_fr0 (by decide) h14) (by decide) h28) (by decide) h41) (by decide) h_g44), (hk_frT (hk_frT h15 (by decide) h29) (by decide) h42), (hk_frT (hk_frT (hk_frT hk_fr0 (by decide) h16) (by decide) h30) (by decide) h43)⟩ hw dX5_reset_52

set_option maxHeartbeats 4000000 in
set_option maxRecDepth 100000 in
/-- X5_back on (9,) -/
theorem jx_X5_back (l : Launch) (hlt : l.stackTraces = false) (D : va_G) (t3 : Nat × Nat × Nat) (cI cJ : ClassId) (ad : Nat → Nat) (g : Nat → Int32) (lg : Nat → Int64) (ar : Nat → Nat → Int32) (bk : Nat → Int64) (sz : Nat) (y1 : Int32) : JMl l yX5_back (Cond.code yX5_back cX5_back 2 (some .long) :: wwX) { frames := 0, cells := 1, slots := 6, locals := 0 } t3 D xw cI cJ ad [.ref (ad 9), .int y1] (xw cI cJ ad g lg ar bk) sz 1 6 (fun (r : Int64) g' lg' ar' bk' => hk_fr [] g g' ∧ hk_fr [] lg lg' ∧ hk_fr [] ar ar') (fun g' lg' ar' bk' => False) := by
  refine jx_metl (cc := cX5_back) (maxL := 2) (ret := (some .long)) rfl (by decide) rfl (Nat.le_of_ble_eq_true rfl) ?_
  intro p e s m args below meth c ls Q A hx hb hml hown hts hA hZ hw hl hQ kr kt
  have hq : ∀ w ∈ wwX, w.before args s = true := fun w h => hts w (List.mem_cons_of_mem _ h)
  have hl : lv_has ls 2 [(0, .ref (ad 9)), (1, .int y1)] := hl
  refine lv_iload_n hx hb dX5_back_0 rfl (lv_at hl 1 rfl) ?_
  refine lv_if_lt (tgt := 18) hx hb dX5_back_1 (by decide) (fun cc1 => ?_) (fun cc1 => ?_)
  · refine lv_lconst (v := 0) hx hb dX5_back_18 (by decide) ?_
    exact kr 0 g lg ar bk _ _ _ _ ⟨hk_fr0, hk_fr0, hk_fr0⟩ hw dX5_back_19
  · refine lv_iload_n hx hb dX5_back_4 rfl (lv_at hl 1 rfl) ?_
    refine lv_iconst (v := 4) hx hb dX5_back_5 (by decide) ?_
    refine lv_icmp_ge (tgt := 18) hx hb dX5_back_6 (by decide) (fun cc2 => ?_) (fun cc2 => ?_)
    · refine lv_lconst (v := 0) hx hb dX5_back_18 (by decide) ?_
      exact kr 0 g lg ar bk _ _ _ _ ⟨hk_fr0, hk_fr0, hk_fr0⟩ hw dX5_back_19
    · refine lv_aload_n hx hb dX5_back_9 rfl (lv_at hl 0 rfl) ?_
      refine hk_get (ci := 8) (C := RX5) (T := TX5) (N := 6) (v := .ref (ad 10)) hx hb hts (fun _ h => List.mem_cons_of_mem _ (wwXc_wsX50 _ h)) hown hw 9 rfl rfl 1 (by decide) (hq _ wX_354) rfl dX5_back_10 ?_
      refine lv_iload_n hx hb dX5_back_13 rfl (lv_at hl 1 rfl) ?_
      refine jx_lald hx hb hw 10 1 rfl rfl (hE_in (n := 4) (ob76 ((y1).toInt) (((0 : Int32)).toInt) (((4 : Int32)).toInt) (hE_nlt cc1) (hE_nle cc2) (hE_rng (y1)) (by decide) (by decide))) dX5_back_14 (fun z3 hz3 => ?_)
      refine lv_goto (tgt := 19) hx hb dX5_back_15 (by decide) ?_
      exact kr z3 g lg ar bk _ _ _ _ ⟨hk_fr0, hk_fr0, hk_fr0⟩ hw dX5_back_19

set_option maxHeartbeats 4000000 in
set_option maxRecDepth 100000 in
/-- X5_turnOf on (9,) -/
theorem jx_X5_turnOf (l : Launch) (hlt : l.stackTraces = false) (D : va_G) (t3 : Nat × Nat × Nat) (cI cJ : ClassId) (ad : Nat → Nat) (g : Nat → Int32) (lg : Nat → Int64) (ar : Nat → Nat → Int32) (bk : Nat → Int64) (sz : Nat) (y1 : Int32) : JMi l yX5_turnOf (Cond.code yX5_turnOf cX5_turnOf 2 (some .int) :: wwX) { frames := 0, cells := 1, slots := 6, locals := 0 } t3 D xw cI cJ ad [.ref (ad 9), .int y1] (xw cI cJ ad g lg ar bk) sz 1 6 (fun (r : Int32) g' lg' ar' bk' => hk_fr [] g g' ∧ hk_fr [] lg lg' ∧ hk_fr [] ar ar') (fun g' lg' ar' bk' => False) := by
  refine jx_meti (cc := cX5_turnOf) (maxL := 2) (ret := (some .int)) rfl (by decide) rfl (Nat.le_of_ble_eq_true rfl) ?_
  intro p e s m args below meth c ls Q A hx hb hml hown hts hA hZ hw hl hQ kr kt
  have hq : ∀ w ∈ wwX, w.before args s = true := fun w h => hts w (List.mem_cons_of_mem _ h)
  have hl : lv_has ls 2 [(0, .ref (ad 9)), (1, .int y1)] := hl
  refine lv_iload_n hx hb dX5_turnOf_0 rfl (lv_at hl 1 rfl) ?_
  refine lv_iconst (v := 1) hx hb dX5_turnOf_1 (by decide) ?_
  refine lv_aload_n hx hb dX5_turnOf_2 rfl (lv_at hl 0 rfl) ?_
  refine hk_get (ci := 8) (C := RX5) (T := TX5) (N := 6) (v := .int (g 23)) hx hb hts (fun _ h => List.mem_cons_of_mem _ (wwXc_wsX50 _ h)) hown hw 9 rfl rfl 4 (by decide) (hq _ wX_398) rfl dX5_turnOf_3 ?_
  refine lv_ishl hx hb dX5_turnOf_6 (jx_nm fun z1 hz1 => ?_)
  refine lv_iconst (v := 1) hx hb dX5_turnOf_7 (by decide) ?_
  refine lv_isub hx hb dX5_turnOf_8 (jx_nm fun z2 hz2 => ?_)
  refine lv_iand hx hb dX5_turnOf_9 (jx_nm fun z3 hz3 => ?_)
  exact kr z3 g lg ar bk _ _ _ _ ⟨hk_fr0, hk_fr0, hk_fr0⟩ hw dX5_turnOf_10

set_option maxHeartbeats 4000000 in
set_option maxRecDepth 100000 in
/-- X5_codeKind on (9,) -/
theorem jx_X5_codeKind (l : Launch) (hlt : l.stackTraces = false) (D : va_G) (t3 : Nat × Nat × Nat) (cI cJ : ClassId) (ad : Nat → Nat) (g : Nat → Int32) (lg : Nat → Int64) (ar : Nat → Nat → Int32) (bk : Nat → Int64) (sz : Nat) (y1 : Int32) (y2 : Int32) (hi_a0rg : hk_rg 0 255 (ar 0)) : JMi l yX5_codeKind (Cond.code yX5_codeKind cX5_codeKind 4 (some .int) :: wwX) { frames := 8, cells := 1, slots := 6, locals := 128 } t3 D xw cI cJ ad [.ref (ad 9), .int y1, .int y2] (xw cI cJ ad g lg ar bk) sz 1 6 (fun (r : Int32) g' lg' ar' bk' => hk_fr [14, 15, 17, 19, 20] g g' ∧ hk_fr [0, 1, 2] lg lg' ∧ hk_fr [1, 2] ar ar') (fun g' lg' ar' bk' => hk_fr [14, 15, 17, 19, 20] g g' ∧ hk_fr [0, 1, 2] lg lg' ∧ hk_fr [1, 2] ar ar' ∧ ((g 18).toInt ≠ 0)) := by
  refine jx_meti (cc := cX5_codeKind) (maxL := 4) (ret := (some .int)) rfl (by decide) rfl (Nat.le_of_ble_eq_true rfl) ?_
  intro p e s m args below meth c ls Q A hx hb hml hown hts hA hZ hw hl hQ kr kt
  have hq : ∀ w ∈ wwX, w.before args s = true := fun w h => hts w (List.mem_cons_of_mem _ h)
  have hl : lv_has ls 4 [(0, .ref (ad 9)), (1, .int y1), (2, .int y2)] := hl
  refine lv_aload_n hx hb dX5_codeKind_0 rfl (lv_at hl 0 rfl) ?_
  refine lv_iload_n hx hb dX5_codeKind_1 rfl (lv_at hl 2 rfl) ?_
  refine jx_Vi (As := [.int y2]) (rest := []) ⟨hx, hb, hml, hown, hts⟩ hZ hw hA (jx_X5_turnOf l hlt D t3 cI cJ ad g lg ar bk _ y2) (cwV 1 hts (jx_gV wwX_good wX_374 wX_375 wX_376 wX_215 wX_377) rfl rfl rfl (by decide +kernel) ⟨Nat.le_of_ble_eq_true rfl, Nat.le_of_ble_eq_true rfl⟩) 9 (ci := 8) (T := TX5) (N := 6) rfl rfl rfl hl.1 rfl (Nat.le_of_ble_eq_true rfl) dX5_codeKind_2 ⟨Nat.le_of_ble_eq_true rfl, Nat.le_of_ble_eq_true rfl⟩ (fun _ _ _ _ _ _ _ _ hp _ _ _ _ => hp.elim) (fun r5 g6 l7 a8 b9 H locs hp10 hw => ?_)
  obtain ⟨h11, h12, h13⟩ := hp10
  refine lv_istore_n (lv' := [(3, .int r5), (0, .ref (ad 9)), (1, .int y1), (2, .int y2)]) hx hb dX5_codeKind_5 rfl hl (by decide) rfl (fun ls hl => ?_)
  refine lv_aload_n hx hb dX5_codeKind_6 rfl (lv_at hl 1 rfl) ?_
  refine hk_get (ci := 8) (C := RX5) (T := TX5) (N := 6) (v := .ref (ad 7)) hx hb hts (fun _ h => List.mem_cons_of_mem _ (wwXc_wsX50 _ h)) hown hw 9 rfl rfl 0 (by decide) (hq _ wX_357) rfl dX5_codeKind_7 ?_
  refine lv_iconst (v := 0) hx hb dX5_codeKind_10 (by decide) ?_
  refine lv_aload_n hx hb dX5_codeKind_11 rfl (lv_at hl 1 rfl) ?_
  have e_g6_24 : g6 24 = (g 24) := (h11 24 rfl)
  refine hk_get (ci := 8) (C := RX5) (T := TX5) (N := 6) (v := .int (g 24)) hx hb hts (fun _ h => List.mem_cons_of_mem _ (wwXc_wsX50 _ h)) hown hw 9 rfl rfl 5 (by decide) (hq _ wX_378) (congrArg (fun z => some (Value.int z)) e_g6_24) dX5_codeKind_12 ?_
  refine lv_bipush (v := 16) hx hb dX5_codeKind_15 (by decide) ?_
  refine lv_imul hx hb dX5_codeKind_17 (jx_nm fun z14 hz14 => ?_)
  refine lv_iadd hx hb dX5_codeKind_18 (jx_nm fun z15 hz15 => ?_)
  refine lv_iload_n hx hb dX5_codeKind_19 rfl (lv_at hl 0 rfl) ?_
  refine lv_iadd hx hb dX5_codeKind_20 (jx_nm fun z16 hz16 => ?_)
  refine lv_iload_n hx hb dX5_codeKind_21 rfl (lv_at hl 2 rfl) ?_
  have B17 : ∀  (x18 : Int32) (ls : Array Slot) (H : Heap) (locs : List Loc), 0 ≤ (x18).toInt ∧ (x18).toInt ≤ 1 → hk_W D (jT cI cJ) A s H locs (xw cI cJ ad g6 l7 a8 b9) → lv_has ls 4 [(0, .ref (ad 9)), (1, .int y1), (3, .int r5)] → W p l e { frames := 8, cells := 1, slots := 6, locals := 128 } s m args below meth c H locs 0 0 Q (F0 m 30 ls [.int x18, .int z16, .ref (ad 7)]) := by
    intro x18 ls H locs hf_B17_0 hw hl
    refine jx_Vi (As := [.int z16, .int x18]) (rest := []) ⟨hx, hb, hml, hown, hts⟩ hZ hw hA (jx_X2_bit l hlt D t3 cI cJ ad g6 l7 a8 b9 _ z16 x18 (ob40 ((x18).toInt) hf_B17_0 (hE_rng (x18))) (hk_pE (P := hk_rg 0 255) hi_a0rg (h13 0 rfl))) (cwV 2 hts (jx_gV wwX_good wX_379 wX_292 wX_293 wX_270 wX_294) rfl rfl rfl (by decide +kernel) ⟨Nat.le_of_ble_eq_true rfl, Nat.le_of_ble_eq_true rfl⟩) 7 (ci := 5) (T := TX2) (N := 9) rfl rfl rfl hl.1 rfl (Nat.le_of_ble_eq_true rfl) dX5_codeKind_30 ⟨Nat.le_of_ble_eq_true rfl, Nat.le_of_ble_eq_true rfl⟩ (fun u19 u20 u21 u22 H locs ce q hp hw h1 h2 h3 => by obtain ⟨ht0, ht1, ht2, ht3⟩ := hp; have e_g6_18 : g6 18 = (g 18) := (h11 18 rfl); exact kt _ _ _ _ _ _ _ _ _ _ _ ⟨(hk_frT (hk_frT hk_fr0 (by decide) h11) (by decide) ht0), (hk_frT (hk_frT hk_fr0 (by decide) h12) (by decide) ht1), (hk_frT (hk_frT hk_fr0 (by decide) h13) (by decide) ht2), (ob53 ((g 18).toInt) (hE_rng (g 18)))⟩ hw h1 h2 h3) (fun r23 g24 l25 a26 b27 H locs hp28 hw => ?_)
    obtain ⟨h29, h30, h31, h32⟩ := hp28
    have hr33 : hk_rg 0 255 (a26 0) := (hk_pE (P := hk_rg 0 255) (hk_pE (P := hk_rg 0 255) hi_a0rg (h13 0 rfl)) (h31 0 rfl))
    refine lv_if_ne (tgt := 38) hx hb dX5_codeKind_33 (by decide) (fun cc34 => ?_) (fun cc34 => ?_)
    · refine lv_aload_n hx hb dX5_codeKind_38 rfl (lv_at hl 0 rfl) ?_
      refine hk_get (ci := 8) (C := RX5) (T := TX5) (N := 6) (v := .ref (ad 7)) hx hb hts (fun _ h => List.mem_cons_of_mem _ (wwXc_wsX50 _ h)) hown hw 9 rfl rfl 0 (by decide) (hq _ wX_357) rfl dX5_codeKind_39 ?_
      refine lv_sipush (v := 192) hx hb dX5_codeKind_42 (by decide) ?_
      refine lv_aload_n hx hb dX5_codeKind_45 rfl (lv_at hl 0 rfl) ?_
      have e_g24_24 : g24 24 = (g 24) := ((h29 24 rfl)).trans e_g6_24
      refine hk_get (ci := 8) (C := RX5) (T := TX5) (N := 6) (v := .int (g 24)) hx hb hts (fun _ h => List.mem_cons_of_mem _ (wwXc_wsX50 _ h)) hown hw 9 rfl rfl 5 (by decide) (hq _ wX_378) (congrArg (fun z => some (Value.int z)) e_g24_24) dX5_codeKind_46 ?_
      refine lv_iadd hx hb dX5_codeKind_49 (jx_nm fun z35 hz35 => ?_)
      refine lv_iload_n hx hb dX5_codeKind_50 rfl (lv_at hl 1 rfl) ?_
      refine lv_iconst (v := 1) hx hb dX5_codeKind_51 (by decide) ?_
      have B36 : ∀  (x37 : Int32) (ls : Array Slot) (H : Heap) (locs : List Loc), 0 ≤ (x37).toInt ∧ (x37).toInt ≤ 1 → hk_W D (jT cI cJ) A s H locs (xw cI cJ ad g24 l25 a26 b27) → lv_has ls 4 [(0, .ref (ad 9)), (1, .int y1), (3, .int r5)] → W p l e { frames := 8, cells := 1, slots := 6, locals := 128 } s m args below meth c H locs 0 0 Q (F0 m 66 ls [.int x37, .int z35, .ref (ad 7)]) := by
        intro x37 ls H locs hf_B36_0 hw hl
        refine jx_Vi (As := [.int z35, .int x37]) (rest := []) ⟨hx, hb, hml, hown, hts⟩ hZ hw hA (jx_X2_bit l hlt D t3 cI cJ ad g24 l25 a26 b27 _ z35 x37 (ob40 ((x37).toInt) hf_B36_0 (hE_rng (x37))) hr33) (cwV 2 hts (jx_gV wwX_good wX_379 wX_292 wX_293 wX_270 wX_294) rfl rfl rfl (by decide +kernel) ⟨Nat.le_of_ble_eq_true rfl, Nat.le_of_ble_eq_true rfl⟩) 7 (ci := 5) (T := TX2) (N := 9) rfl rfl rfl hl.1 rfl (Nat.le_of_ble_eq_true rfl) dX5_codeKind_66 ⟨Nat.le_of_ble_eq_true rfl, Nat.le_of_ble_eq_true rfl⟩ (fun u38 u39 u40 u41 H locs ce q hp hw h1 h2 h3 => by obtain ⟨ht0, ht1, ht2, ht3⟩ := hp; have e_g24_18 : g24 18 = (g 18) := ((h29 18 rfl)).trans e_g6_18; exact kt _ _ _ _ _ _ _ _ _ _ _ ⟨(hk_frT (hk_frT (hk_frT hk_fr0 (by decide) h11) (by decide) h29) (by decide) ht0), (hk_frT (hk_frT (hk_frT hk_fr0 (by decide) h12) (by decide) h30) (by decide) ht1), (hk_frT (hk_frT (hk_frT hk_fr0 (by decide) h13) (by decide) h31) (by decide) ht2), (ob77 ((g 18).toInt) ((g6 18).toInt) (congrArg Int32.toInt e_g6_18) (hE_rng (g 18)) (hE_rng (g6 18)))⟩ hw h1 h2 h3) (fun r42 g43 l44 a45 b46 H locs hp47 hw => ?_)
        obtain ⟨h48, h49, h50, h51⟩ := hp47
        refine lv_if_ne (tgt := 74) hx hb dX5_codeKind_69 (by decide) (fun cc52 => ?_) (fun cc52 => ?_)
        · refine lv_aload_n hx hb dX5_codeKind_74 rfl (lv_at hl 0 rfl) ?_
          refine hk_get (ci := 8) (C := RX5) (T := TX5) (N := 6) (v := .ref (ad 7)) hx hb hts (fun _ h => List.mem_cons_of_mem _ (wwXc_wsX50 _ h)) hown hw 9 rfl rfl 0 (by decide) (hq _ wX_357) rfl dX5_codeKind_75 ?_
          refine lv_sipush (v := 204) hx hb dX5_codeKind_78 (by decide) ?_
          refine lv_aload_n hx hb dX5_codeKind_81 rfl (lv_at hl 0 rfl) ?_
          have e_g43_24 : g43 24 = (g 24) := ((h48 24 rfl)).trans e_g24_24
          refine hk_get (ci := 8) (C := RX5) (T := TX5) (N := 6) (v := .int (g 24)) hx hb hts (fun _ h => List.mem_cons_of_mem _ (wwXc_wsX50 _ h)) hown hw 9 rfl rfl 5 (by decide) (hq _ wX_378) (congrArg (fun z => some (Value.int z)) e_g43_24) dX5_codeKind_82 ?_
          refine lv_iadd hx hb dX5_codeKind_85 (jx_nm fun z53 hz53 => ?_)
          refine lv_iload_n hx hb dX5_codeKind_86 rfl (lv_at hl 1 rfl) ?_
          refine lv_iconst (v := 2) hx hb dX5_codeKind_87 (by decide) ?_
          have B54 : ∀  (x55 : Int32) (ls : Array Slot) (H : Heap) (locs : List Loc), 0 ≤ (x55).toInt ∧ (x55).toInt ≤ 1 → hk_W D (jT cI cJ) A s H locs (xw cI cJ ad g43 l44 a45 b46) → lv_has ls 4 [(0, .ref (ad 9)), (1, .int y1), (3, .int r5)] → W p l e { frames := 8, cells := 1, slots := 6, locals := 128 } s m args below meth c H locs 0 0 Q (F0 m 102 ls [.int x55, .int z53, .ref (ad 7)]) := by
            intro x55 ls H locs hf_B54_0 hw hl
            refine jx_Vi (As := [.int z53, .int x55]) (rest := []) ⟨hx, hb, hml, hown, hts⟩ hZ hw hA (jx_X2_bit l hlt D t3 cI cJ ad g43 l44 a45 b46 _ z53 x55 (ob40 ((x55).toInt) hf_B54_0 (hE_rng (x55))) (hk_pE (P := hk_rg 0 255) hr33 (h50 0 rfl))) (cwV 2 hts (jx_gV wwX_good wX_379 wX_292 wX_293 wX_270 wX_294) rfl rfl rfl (by decide +kernel) ⟨Nat.le_of_ble_eq_true rfl, Nat.le_of_ble_eq_true rfl⟩) 7 (ci := 5) (T := TX2) (N := 9) rfl rfl rfl hl.1 rfl (Nat.le_of_ble_eq_true rfl) dX5_codeKind_102 ⟨Nat.le_of_ble_eq_true rfl, Nat.le_of_ble_eq_true rfl⟩ (fun u56 u57 u58 u59 H locs ce q hp hw h1 h2 h3 => by obtain ⟨ht0, ht1, ht2, ht3⟩ := hp; have e_g43_18 : g43 18 = (g 18) := ((h48 18 rfl)).trans e_g24_18; exact kt _ _ _ _ _ _ _ _ _ _ _ ⟨(hk_frT (hk_frT (hk_frT (hk_frT hk_fr0 (by decide) h11) (by decide) h29) (by decide) h48) (by decide) ht0), (hk_frT (hk_frT (hk_frT (hk_frT hk_fr0 (by decide) h12) (by decide) h30) (by decide) h49) (by decide) ht1), (hk_frT (hk_frT (hk_frT (hk_frT hk_fr0 (by decide) h13) (by decide) h31) (by decide) h50) (by decide) ht2), (ob78 ((g 18).toInt) ((g6 18).toInt) ((g24 18).toInt) (congrArg Int32.toInt e_g6_18) (congrArg Int32.toInt e_g24_18) (hE_rng (g 18)) (hE_rng (g6 18)) (hE_rng (g24 18)))⟩ hw h1 h2 h3) (fun r60 g61 l62 a63 b64 H locs hp65 hw => ?_)
            obtain ⟨h66, h67, h68, h69⟩ := hp65
            have hr70 : hk_rg 0 255 (a63 0) := (hk_pE (P := hk_rg 0 255) (hk_pE (P := hk_rg 0 255) hr33 (h50 0 rfl)) (h68 0 rfl))
            refine lv_if_ne (tgt := 149) hx hb dX5_codeKind_105 (by decide) (fun cc71 => ?_) (fun cc71 => ?_)
            · refine lv_aload_n hx hb dX5_codeKind_149 rfl (lv_at hl 0 rfl) ?_
              refine hk_get (ci := 8) (C := RX5) (T := TX5) (N := 6) (v := .ref (ad 7)) hx hb hts (fun _ h => List.mem_cons_of_mem _ (wwXc_wsX50 _ h)) hown hw 9 rfl rfl 0 (by decide) (hq _ wX_357) rfl dX5_codeKind_150 ?_
              refine lv_sipush (v := 216) hx hb dX5_codeKind_153 (by decide) ?_
              refine lv_aload_n hx hb dX5_codeKind_156 rfl (lv_at hl 0 rfl) ?_
              have e_g61_24 : g61 24 = (g 24) := ((h66 24 rfl)).trans e_g43_24
              refine hk_get (ci := 8) (C := RX5) (T := TX5) (N := 6) (v := .int (g 24)) hx hb hts (fun _ h => List.mem_cons_of_mem _ (wwXc_wsX50 _ h)) hown hw 9 rfl rfl 5 (by decide) (hq _ wX_378) (congrArg (fun z => some (Value.int z)) e_g61_24) dX5_codeKind_157 ?_
              refine lv_iadd hx hb dX5_codeKind_160 (jx_nm fun z72 hz72 => ?_)
              refine lv_iload_n hx hb dX5_codeKind_161 rfl (lv_at hl 1 rfl) ?_
              refine lv_iconst (v := 3) hx hb dX5_codeKind_162 (by decide) ?_
              have B73 : ∀  (x74 : Int32) (ls : Array Slot) (H : Heap) (locs : List Loc), 0 ≤ (x74).toInt ∧ (x74).toInt ≤ 1 → hk_W D (jT cI cJ) A s H locs (xw cI cJ ad g61 l62 a63 b64) → lv_has ls 4 [(0, .ref (ad 9)), (1, .int y1)] → W p l e { frames := 8, cells := 1, slots := 6, locals := 128 } s m args below meth c H locs 0 0 Q (F0 m 171 ls [.int x74, .int z72, .ref (ad 7)]) := by
                intro x74 ls H locs hf_B73_0 hw hl
                refine jx_Vi (As := [.int z72, .int x74]) (rest := []) ⟨hx, hb, hml, hown, hts⟩ hZ hw hA (jx_X2_bit l hlt D t3 cI cJ ad g61 l62 a63 b64 _ z72 x74 (ob40 ((x74).toInt) hf_B73_0 (hE_rng (x74))) hr70) (cwV 2 hts (jx_gV wwX_good wX_379 wX_292 wX_293 wX_270 wX_294) rfl rfl rfl (by decide +kernel) ⟨Nat.le_of_ble_eq_true rfl, Nat.le_of_ble_eq_true rfl⟩) 7 (ci := 5) (T := TX2) (N := 9) rfl rfl rfl hl.1 rfl (Nat.le_of_ble_eq_true rfl) dX5_codeKind_171 ⟨Nat.le_of_ble_eq_true rfl, Nat.le_of_ble_eq_true rfl⟩ (fun u75 u76 u77 u78 H locs ce q hp hw h1 h2 h3 => by obtain ⟨ht0, ht1, ht2, ht3⟩ := hp; have e_g61_18 : g61 18 = (g 18) := ((h66 18 rfl)).trans e_g43_18; exact kt _ _ _ _ _ _ _ _ _ _ _ ⟨(hk_frT (hk_frT (hk_frT (hk_frT (hk_frT hk_fr0 (by decide) h11) (by decide) h29) (by decide) h48) (by decide) h66) (by decide) ht0), (hk_frT (hk_frT (hk_frT (hk_frT (hk_frT hk_fr0 (by decide) h12) (by decide) h30) (by decide) h49) (by decide) h67) (by decide) ht1), (hk_frT (hk_frT (hk_frT (hk_frT (hk_frT hk_fr0 (by decide) h13) (by decide) h31) (by decide) h50) (by decide) h68) (by decide) ht2), (ob79 ((g 18).toInt) ((g6 18).toInt) ((g24 18).toInt) ((g43 18).toInt) (congrArg Int32.toInt e_g6_18) (congrArg Int32.toInt e_g24_18) (congrArg Int32.toInt e_g43_18) (hE_rng (g 18)) (hE_rng (g6 18)) (hE_rng (g24 18)) (hE_rng (g43 18)))⟩ hw h1 h2 h3) (fun r79 g80 l81 a82 b83 H locs hp84 hw => ?_)
                obtain ⟨h85, h86, h87, h88⟩ := hp84
                refine lv_if_ne (tgt := 179) hx hb dX5_codeKind_174 (by decide) (fun cc89 => ?_) (fun cc89 => ?_)
                · refine lv_aload_n hx hb dX5_codeKind_179 rfl (lv_at hl 0 rfl) ?_
                  refine hk_get (ci := 8) (C := RX5) (T := TX5) (N := 6) (v := .ref (ad 7)) hx hb hts (fun _ h => List.mem_cons_of_mem _ (wwXc_wsX50 _ h)) hown hw 9 rfl rfl 0 (by decide) (hq _ wX_357) rfl dX5_codeKind_180 ?_
                  refine lv_sipush (v := 228) hx hb dX5_codeKind_183 (by decide) ?_
                  refine lv_aload_n hx hb dX5_codeKind_186 rfl (lv_at hl 0 rfl) ?_
                  have e_g80_24 : g80 24 = (g 24) := ((h85 24 rfl)).trans e_g61_24
                  refine hk_get (ci := 8) (C := RX5) (T := TX5) (N := 6) (v := .int (g 24)) hx hb hts (fun _ h => List.mem_cons_of_mem _ (wwXc_wsX50 _ h)) hown hw 9 rfl rfl 5 (by decide) (hq _ wX_378) (congrArg (fun z => some (Value.int z)) e_g80_24) dX5_codeKind_187 ?_
                  refine lv_iadd hx hb dX5_codeKind_190 (jx_nm fun z90 hz90 => ?_)
                  refine lv_iload_n hx hb dX5_codeKind_191 rfl (lv_at hl 1 rfl) ?_
                  refine lv_iconst (v := 4) hx hb dX5_codeKind_192 (by decide) ?_
                  have B91 : ∀  (x92 : Int32) (ls : Array Slot) (H : Heap) (locs : List Loc), 0 ≤ (x92).toInt ∧ (x92).toInt ≤ 1 → hk_W D (jT cI cJ) A s H locs (xw cI cJ ad g80 l81 a82 b83) → lv_has ls 4 [] → W p l e { frames := 8, cells := 1, slots := 6, locals := 128 } s m args below meth c H locs 0 0 Q (F0 m 201 ls [.int x92, .int z90, .ref (ad 7)]) := by
                    intro x92 ls H locs hf_B91_0 hw hl
                    refine jx_Vi (As := [.int z90, .int x92]) (rest := []) ⟨hx, hb, hml, hown, hts⟩ hZ hw hA (jx_X2_bit l hlt D t3 cI cJ ad g80 l81 a82 b83 _ z90 x92 (ob40 ((x92).toInt) hf_B91_0 (hE_rng (x92))) (hk_pE (P := hk_rg 0 255) hr70 (h87 0 rfl))) (cwV 2 hts (jx_gV wwX_good wX_379 wX_292 wX_293 wX_270 wX_294) rfl rfl rfl (by decide +kernel) ⟨Nat.le_of_ble_eq_true rfl, Nat.le_of_ble_eq_true rfl⟩) 7 (ci := 5) (T := TX2) (N := 9) rfl rfl rfl hl.1 rfl (Nat.le_of_ble_eq_true rfl) dX5_codeKind_201 ⟨Nat.le_of_ble_eq_true rfl, Nat.le_of_ble_eq_true rfl⟩ (fun u93 u94 u95 u96 H locs ce q hp hw h1 h2 h3 => by obtain ⟨ht0, ht1, ht2, ht3⟩ := hp; have e_g80_18 : g80 18 = (g 18) := ((h85 18 rfl)).trans e_g61_18; exact kt _ _ _ _ _ _ _ _ _ _ _ ⟨(hk_frT (hk_frT (hk_frT (hk_frT (hk_frT (hk_frT hk_fr0 (by decide) h11) (by decide) h29) (by decide) h48) (by decide) h66) (by decide) h85) (by decide) ht0), (hk_frT (hk_frT (hk_frT (hk_frT (hk_frT (hk_frT hk_fr0 (by decide) h12) (by decide) h30) (by decide) h49) (by decide) h67) (by decide) h86) (by decide) ht1), (hk_frT (hk_frT (hk_frT (hk_frT (hk_frT (hk_frT hk_fr0 (by decide) h13) (by decide) h31) (by decide) h50) (by decide) h68) (by decide) h87) (by decide) ht2), (ob80 ((g 18).toInt) ((g6 18).toInt) ((g24 18).toInt) ((g43 18).toInt) ((g61 18).toInt) (congrArg Int32.toInt e_g6_18) (congrArg Int32.toInt e_g24_18) (congrArg Int32.toInt e_g43_18) (congrArg Int32.toInt e_g61_18) (hE_rng (g 18)) (hE_rng (g6 18)) (hE_rng (g24 18)) (hE_rng (g43 18)) (hE_rng (g61 18)))⟩ hw h1 h2 h3) (fun r97 g98 l99 a100 b101 H locs hp102 hw => ?_)
                    obtain ⟨h103, h104, h105, h106⟩ := hp102
                    have hr107 : hk_rg 0 255 (a100 0) := (hk_pE (P := hk_rg 0 255) (hk_pE (P := hk_rg 0 255) hr70 (h87 0 rfl)) (h105 0 rfl))
                    refine lv_if_ne (tgt := 211) hx hb dX5_codeKind_204 (by decide) (fun cc108 => ?_) (fun cc108 => ?_)
                    · refine lv_iconst (v := 5) hx hb dX5_codeKind_211 (by decide) ?_
                      exact kr 5 g98 l99 a100 b101 _ _ _ _ ⟨(hk_frT (hk_frT (hk_frT (hk_frT (hk_frT (hk_frT hk_fr0 (by decide) h11) (by decide) h29) (by decide) h48) (by decide) h66) (by decide) h85) (by decide) h103), (hk_frT (hk_frT (hk_frT (hk_frT (hk_frT (hk_frT hk_fr0 (by decide) h12) (by decide) h30) (by decide) h49) (by decide) h67) (by decide) h86) (by decide) h104), (hk_frT (hk_frT (hk_frT (hk_frT (hk_frT (hk_frT hk_fr0 (by decide) h13) (by decide) h31) (by decide) h50) (by decide) h68) (by decide) h87) (by decide) h105)⟩ hw dX5_codeKind_212
                    · refine lv_iconst (v := 4) hx hb dX5_codeKind_207 (by decide) ?_
                      refine lv_goto (tgt := 212) hx hb dX5_codeKind_208 (by decide) ?_
                      exact kr 4 g98 l99 a100 b101 _ _ _ _ ⟨(hk_frT (hk_frT (hk_frT (hk_frT (hk_frT (hk_frT hk_fr0 (by decide) h11) (by decide) h29) (by decide) h48) (by decide) h66) (by decide) h85) (by decide) h103), (hk_frT (hk_frT (hk_frT (hk_frT (hk_frT (hk_frT hk_fr0 (by decide) h12) (by decide) h30) (by decide) h49) (by decide) h67) (by decide) h86) (by decide) h104), (hk_frT (hk_frT (hk_frT (hk_frT (hk_frT (hk_frT hk_fr0 (by decide) h13) (by decide) h31) (by decide) h50) (by decide) h68) (by decide) h87) (by decide) h105)⟩ hw dX5_codeKind_212
                  refine lv_icmp_ne (tgt := 200) hx hb dX5_codeKind_193 (by decide) (fun cc109 => ?_) (fun cc109 => ?_)
                  · refine lv_iconst (v := 1) hx hb dX5_codeKind_200 (by decide) ?_
                    exact B91 1 ls _ _ (ob37 (((1 : Int32)).toInt) (by decide)) hw (lv_sub hl [] rfl)
                  · refine lv_iconst (v := 0) hx hb dX5_codeKind_196 (by decide) ?_
                    refine lv_goto (tgt := 201) hx hb dX5_codeKind_197 (by decide) ?_
                    exact B91 0 ls _ _ (ob81 (((0 : Int32)).toInt) ((z15).toInt) ((z14).toInt) ((r23).toInt) ((r42).toInt) ((r60).toInt) ((r79).toInt) ((g 24).toInt) ((z16).toInt) ((r5).toInt) ((g6 24).toInt) ((g24 24).toInt) ((z35).toInt) (((192 : Int32)).toInt) ((g43 24).toInt) ((z53).toInt) (((204 : Int32)).toInt) ((g61 24).toInt) ((z72).toInt) (((216 : Int32)).toInt) ((g80 24).toInt) ((z90).toInt) (((228 : Int32)).toInt) (hE_add hz15) (hE_ne cc34) (hE_ne cc52) (hE_ne cc71) (hE_ne cc89) (hE_mul 16 hz14 (by decide)) (hE_add hz16) h32 h51 h69 h88 (congrArg Int32.toInt e_g6_24) (congrArg Int32.toInt e_g24_24) (hE_add hz35) (congrArg Int32.toInt e_g43_24) (hE_add hz53) (congrArg Int32.toInt e_g61_24) (hE_add hz72) (congrArg Int32.toInt e_g80_24) (hE_add hz90) (by decide) (hE_rng (z15)) (hE_rng (z14)) (hE_rng (r23)) (hE_rng (r42)) (hE_rng (r60)) (hE_rng (r79)) (hE_rng (g 24)) (hE_rng (z16)) (hE_rng (r5)) (hE_rng (g6 24)) (hE_rng (g24 24)) (hE_rng (z35)) (by decide) (hE_rng (g43 24)) (hE_rng (z53)) (by decide) (hE_rng (g61 24)) (hE_rng (z72)) (by decide) (hE_rng (g80 24)) (hE_rng (z90)) (by decide)) hw (lv_sub hl [] rfl)
                · refine lv_iconst (v := 3) hx hb dX5_codeKind_177 (by decide) ?_
                  exact kr 3 g80 l81 a82 b83 _ _ _ _ ⟨(hk_frT (hk_frT (hk_frT (hk_frT (hk_frT hk_fr0 (by decide) h11) (by decide) h29) (by decide) h48) (by decide) h66) (by decide) h85), (hk_frT (hk_frT (hk_frT (hk_frT (hk_frT hk_fr0 (by decide) h12) (by decide) h30) (by decide) h49) (by decide) h67) (by decide) h86), (hk_frT (hk_frT (hk_frT (hk_frT (hk_frT hk_fr0 (by decide) h13) (by decide) h31) (by decide) h50) (by decide) h68) (by decide) h87)⟩ hw dX5_codeKind_178
              refine lv_icmp_ne (tgt := 170) hx hb dX5_codeKind_163 (by decide) (fun cc110 => ?_) (fun cc110 => ?_)
              · refine lv_iconst (v := 1) hx hb dX5_codeKind_170 (by decide) ?_
                exact B73 1 ls _ _ (ob37 (((1 : Int32)).toInt) (by decide)) hw (lv_sub hl [0, 1] rfl)
              · refine lv_iconst (v := 0) hx hb dX5_codeKind_166 (by decide) ?_
                refine lv_goto (tgt := 171) hx hb dX5_codeKind_167 (by decide) ?_
                exact B73 0 ls _ _ (ob82 (((0 : Int32)).toInt) ((z15).toInt) ((z14).toInt) ((r23).toInt) ((r42).toInt) ((r60).toInt) ((g 24).toInt) ((z16).toInt) ((r5).toInt) ((g6 24).toInt) ((g24 24).toInt) ((z35).toInt) (((192 : Int32)).toInt) ((g43 24).toInt) ((z53).toInt) (((204 : Int32)).toInt) ((g61 24).toInt) ((z72).toInt) (((216 : Int32)).toInt) (hE_add hz15) (hE_ne cc34) (hE_ne cc52) (hE_ne cc71) (hE_mul 16 hz14 (by decide)) (hE_add hz16) h32 h51 h69 (congrArg Int32.toInt e_g6_24) (congrArg Int32.toInt e_g24_24) (hE_add hz35) (congrArg Int32.toInt e_g43_24) (hE_add hz53) (congrArg Int32.toInt e_g61_24) (hE_add hz72) (by decide) (hE_rng (z15)) (hE_rng (z14)) (hE_rng (r23)) (hE_rng (r42)) (hE_rng (r60)) (hE_rng (g 24)) (hE_rng (z16)) (hE_rng (r5)) (hE_rng (g6 24)) (hE_rng (g24 24)) (hE_rng (z35)) (by decide) (hE_rng (g43 24)) (hE_rng (z53)) (by decide) (hE_rng (g61 24)) (hE_rng (z72)) (by decide)) hw (lv_sub hl [0, 1] rfl)
            · refine lv_aload_n hx hb dX5_codeKind_108 rfl (lv_at hl 0 rfl) ?_
              refine hk_get (ci := 8) (C := RX5) (T := TX5) (N := 6) (v := .ref (ad 7)) hx hb hts (fun _ h => List.mem_cons_of_mem _ (wwXc_wsX50 _ h)) hown hw 9 rfl rfl 0 (by decide) (hq _ wX_357) rfl dX5_codeKind_109 ?_
              refine lv_sipush (v := 240) hx hb dX5_codeKind_112 (by decide) ?_
              refine lv_aload_n hx hb dX5_codeKind_115 rfl (lv_at hl 0 rfl) ?_
              have e_g61_24 : g61 24 = (g 24) := ((h66 24 rfl)).trans e_g43_24
              refine hk_get (ci := 8) (C := RX5) (T := TX5) (N := 6) (v := .int (g 24)) hx hb hts (fun _ h => List.mem_cons_of_mem _ (wwXc_wsX50 _ h)) hown hw 9 rfl rfl 5 (by decide) (hq _ wX_378) (congrArg (fun z => some (Value.int z)) e_g61_24) dX5_codeKind_116 ?_
              refine lv_bipush (v := 16) hx hb dX5_codeKind_119 (by decide) ?_
              refine lv_imul hx hb dX5_codeKind_121 (jx_nm fun z111 hz111 => ?_)
              refine lv_iadd hx hb dX5_codeKind_122 (jx_nm fun z112 hz112 => ?_)
              refine lv_iload_n hx hb dX5_codeKind_123 rfl (lv_at hl 2 rfl) ?_
              refine lv_iadd hx hb dX5_codeKind_124 (jx_nm fun z113 hz113 => ?_)
              refine lv_iload_n hx hb dX5_codeKind_125 rfl (lv_at hl 1 rfl) ?_
              refine lv_bipush (v := 6) hx hb dX5_codeKind_126 (by decide) ?_
              have B114 : ∀  (x115 : Int32) (ls : Array Slot) (H : Heap) (locs : List Loc), 0 ≤ (x115).toInt ∧ (x115).toInt ≤ 1 → hk_W D (jT cI cJ) A s H locs (xw cI cJ ad g61 l62 a63 b64) → lv_has ls 4 [] → W p l e { frames := 8, cells := 1, slots := 6, locals := 128 } s m args below meth c H locs 0 0 Q (F0 m 136 ls [.int x115, .int z113, .ref (ad 7)]) := by
                intro x115 ls H locs hf_B114_0 hw hl
                refine jx_Vi (As := [.int z113, .int x115]) (rest := []) ⟨hx, hb, hml, hown, hts⟩ hZ hw hA (jx_X2_bit l hlt D t3 cI cJ ad g61 l62 a63 b64 _ z113 x115 (ob40 ((x115).toInt) hf_B114_0 (hE_rng (x115))) hr70) (cwV 2 hts (jx_gV wwX_good wX_379 wX_292 wX_293 wX_270 wX_294) rfl rfl rfl (by decide +kernel) ⟨Nat.le_of_ble_eq_true rfl, Nat.le_of_ble_eq_true rfl⟩) 7 (ci := 5) (T := TX2) (N := 9) rfl rfl rfl hl.1 rfl (Nat.le_of_ble_eq_true rfl) dX5_codeKind_136 ⟨Nat.le_of_ble_eq_true rfl, Nat.le_of_ble_eq_true rfl⟩ (fun u116 u117 u118 u119 H locs ce q hp hw h1 h2 h3 => by obtain ⟨ht0, ht1, ht2, ht3⟩ := hp; have e_g61_18 : g61 18 = (g 18) := ((h66 18 rfl)).trans e_g43_18; exact kt _ _ _ _ _ _ _ _ _ _ _ ⟨(hk_frT (hk_frT (hk_frT (hk_frT (hk_frT hk_fr0 (by decide) h11) (by decide) h29) (by decide) h48) (by decide) h66) (by decide) ht0), (hk_frT (hk_frT (hk_frT (hk_frT (hk_frT hk_fr0 (by decide) h12) (by decide) h30) (by decide) h49) (by decide) h67) (by decide) ht1), (hk_frT (hk_frT (hk_frT (hk_frT (hk_frT hk_fr0 (by decide) h13) (by decide) h31) (by decide) h50) (by decide) h68) (by decide) ht2), (ob79 ((g 18).toInt) ((g6 18).toInt) ((g24 18).toInt) ((g43 18).toInt) (congrArg Int32.toInt e_g6_18) (congrArg Int32.toInt e_g24_18) (congrArg Int32.toInt e_g43_18) (hE_rng (g 18)) (hE_rng (g6 18)) (hE_rng (g24 18)) (hE_rng (g43 18)))⟩ hw h1 h2 h3) (fun r120 g121 l122 a123 b124 H locs hp125 hw => ?_)
                obtain ⟨h126, h127, h128, h129⟩ := hp125
                refine lv_if_ne (tgt := 147) hx hb dX5_codeKind_139 (by decide) (fun cc130 => ?_) (fun cc130 => ?_)
                · refine lv_iconst (v := 2) hx hb dX5_codeKind_147 (by decide) ?_
                  exact kr 2 g121 l122 a123 b124 _ _ _ _ ⟨(hk_frT (hk_frT (hk_frT (hk_frT (hk_frT hk_fr0 (by decide) h11) (by decide) h29) (by decide) h48) (by decide) h66) (by decide) h126), (hk_frT (hk_frT (hk_frT (hk_frT (hk_frT hk_fr0 (by decide) h12) (by decide) h30) (by decide) h49) (by decide) h67) (by decide) h127), (hk_frT (hk_frT (hk_frT (hk_frT (hk_frT hk_fr0 (by decide) h13) (by decide) h31) (by decide) h50) (by decide) h68) (by decide) h128)⟩ hw dX5_codeKind_148
                · refine lv_bipush (v := 6) hx hb dX5_codeKind_142 (by decide) ?_
                  refine lv_goto (tgt := 148) hx hb dX5_codeKind_144 (by decide) ?_
                  exact kr 6 g121 l122 a123 b124 _ _ _ _ ⟨(hk_frT (hk_frT (hk_frT (hk_frT (hk_frT hk_fr0 (by decide) h11) (by decide) h29) (by decide) h48) (by decide) h66) (by decide) h126), (hk_frT (hk_frT (hk_frT (hk_frT (hk_frT hk_fr0 (by decide) h12) (by decide) h30) (by decide) h49) (by decide) h67) (by decide) h127), (hk_frT (hk_frT (hk_frT (hk_frT (hk_frT hk_fr0 (by decide) h13) (by decide) h31) (by decide) h50) (by decide) h68) (by decide) h128)⟩ hw dX5_codeKind_148
              refine lv_icmp_ne (tgt := 135) hx hb dX5_codeKind_128 (by decide) (fun cc131 => ?_) (fun cc131 => ?_)
              · refine lv_iconst (v := 1) hx hb dX5_codeKind_135 (by decide) ?_
                exact B114 1 ls _ _ (ob37 (((1 : Int32)).toInt) (by decide)) hw (lv_sub hl [] rfl)
              · refine lv_iconst (v := 0) hx hb dX5_codeKind_131 (by decide) ?_
                refine lv_goto (tgt := 136) hx hb dX5_codeKind_132 (by decide) ?_
                exact B114 0 ls _ _ (ob83 (((0 : Int32)).toInt) ((z15).toInt) ((z14).toInt) ((r23).toInt) ((r42).toInt) ((r60).toInt) ((g 24).toInt) ((z16).toInt) ((r5).toInt) ((g6 24).toInt) ((g24 24).toInt) ((z35).toInt) (((192 : Int32)).toInt) ((g43 24).toInt) ((z53).toInt) (((204 : Int32)).toInt) ((g61 24).toInt) ((z111).toInt) ((z113).toInt) ((z112).toInt) (((240 : Int32)).toInt) (hE_add hz15) (hE_ne cc34) (hE_ne cc52) (hE_eq cc71) (hE_mul 16 hz14 (by decide)) (hE_add hz16) h32 h51 h69 (congrArg Int32.toInt e_g6_24) (congrArg Int32.toInt e_g24_24) (hE_add hz35) (congrArg Int32.toInt e_g43_24) (hE_add hz53) (congrArg Int32.toInt e_g61_24) (hE_mul 16 hz111 (by decide)) (hE_add hz113) (hE_add hz112) (by decide) (hE_rng (z15)) (hE_rng (z14)) (hE_rng (r23)) (hE_rng (r42)) (hE_rng (r60)) (hE_rng (g 24)) (hE_rng (z16)) (hE_rng (r5)) (hE_rng (g6 24)) (hE_rng (g24 24)) (hE_rng (z35)) (by decide) (hE_rng (g43 24)) (hE_rng (z53)) (by decide) (hE_rng (g61 24)) (hE_rng (z111)) (hE_rng (z113)) (hE_rng (z112)) (by decide)) hw (lv_sub hl [] rfl)
          have B132 : ∀  (ls : Array Slot) (H : Heap) (locs : List Loc), hk_W D (jT cI cJ) A s H locs (xw cI cJ ad g43 l44 a45 b46) → lv_has ls 4 [(0, .ref (ad 9)), (1, .int y1), (3, .int r5)] → W p l e { frames := 8, cells := 1, slots := 6, locals := 128 } s m args below meth c H locs 0 0 Q (F0 m 97 ls [.int z53, .ref (ad 7)]) := by
            intro ls H locs hw hl
            refine lv_iconst (v := 0) hx hb dX5_codeKind_97 (by decide) ?_
            refine lv_goto (tgt := 102) hx hb dX5_codeKind_98 (by decide) ?_
            exact B54 0 ls _ _ (ob84 (((0 : Int32)).toInt) ((z15).toInt) ((z14).toInt) ((r23).toInt) ((r42).toInt) ((g 24).toInt) ((z16).toInt) ((r5).toInt) ((g6 24).toInt) ((g24 24).toInt) ((z35).toInt) (((192 : Int32)).toInt) ((g43 24).toInt) ((z53).toInt) (((204 : Int32)).toInt) (hE_add hz15) (hE_ne cc34) (hE_ne cc52) (hE_mul 16 hz14 (by decide)) (hE_add hz16) h32 h51 (congrArg Int32.toInt e_g6_24) (congrArg Int32.toInt e_g24_24) (hE_add hz35) (congrArg Int32.toInt e_g43_24) (hE_add hz53) (by decide) (hE_rng (z15)) (hE_rng (z14)) (hE_rng (r23)) (hE_rng (r42)) (hE_rng (g 24)) (hE_rng (z16)) (hE_rng (r5)) (hE_rng (g6 24)) (hE_rng (g24 24)) (hE_rng (z35)) (by decide) (hE_rng (g43 24)) (hE_rng (z53)) (by decide)) hw (lv_sub hl [0, 1, 2] rfl)
          refine lv_icmp_eq (tgt := 97) hx hb dX5_codeKind_88 (by decide) (fun cc133 => ?_) (fun cc133 => ?_)
          · exact B132 ls _ _ hw (lv_sub hl [0, 1, 2] rfl)
          · refine lv_iload_n hx hb dX5_codeKind_91 rfl (lv_at hl 1 rfl) ?_
            refine lv_bipush (v := 6) hx hb dX5_codeKind_92 (by decide) ?_
            refine lv_icmp_ne (tgt := 101) hx hb dX5_codeKind_94 (by decide) (fun cc134 => ?_) (fun cc134 => ?_)
            · refine lv_iconst (v := 1) hx hb dX5_codeKind_101 (by decide) ?_
              exact B54 1 ls _ _ (ob37 (((1 : Int32)).toInt) (by decide)) hw (lv_sub hl [0, 1, 2] rfl)
            · exact B132 ls _ _ hw (lv_sub hl [0, 1, 2] rfl)
        · refine lv_iconst (v := 1) hx hb dX5_codeKind_72 (by decide) ?_
          exact kr 1 g43 l44 a45 b46 _ _ _ _ ⟨(hk_frT (hk_frT (hk_frT hk_fr0 (by decide) h11) (by decide) h29) (by decide) h48), (hk_frT (hk_frT (hk_frT hk_fr0 (by decide) h12) (by decide) h30) (by decide) h49), (hk_frT (hk_frT (hk_frT hk_fr0 (by decide) h13) (by decide) h31) (by decide) h50)⟩ hw dX5_codeKind_73
      have B135 : ∀  (ls : Array Slot) (H : Heap) (locs : List Loc), hk_W D (jT cI cJ) A s H locs (xw cI cJ ad g24 l25 a26 b27) → lv_has ls 4 [(0, .ref (ad 9)), (1, .int y1), (3, .int r5)] → W p l e { frames := 8, cells := 1, slots := 6, locals := 128 } s m args below meth c H locs 0 0 Q (F0 m 61 ls [.int z35, .ref (ad 7)]) := by
        intro ls H locs hw hl
        refine lv_iconst (v := 0) hx hb dX5_codeKind_61 (by decide) ?_
        refine lv_goto (tgt := 66) hx hb dX5_codeKind_62 (by decide) ?_
        exact B36 0 ls _ _ (ob85 (((0 : Int32)).toInt) ((z15).toInt) ((z14).toInt) ((r23).toInt) ((g 24).toInt) ((z16).toInt) ((r5).toInt) ((g6 24).toInt) ((g24 24).toInt) ((z35).toInt) (((192 : Int32)).toInt) (hE_add hz15) (hE_ne cc34) (hE_mul 16 hz14 (by decide)) (hE_add hz16) h32 (congrArg Int32.toInt e_g6_24) (congrArg Int32.toInt e_g24_24) (hE_add hz35) (by decide) (hE_rng (z15)) (hE_rng (z14)) (hE_rng (r23)) (hE_rng (g 24)) (hE_rng (z16)) (hE_rng (r5)) (hE_rng (g6 24)) (hE_rng (g24 24)) (hE_rng (z35)) (by decide)) hw (lv_sub hl [0, 1, 2] rfl)
      refine lv_icmp_eq (tgt := 61) hx hb dX5_codeKind_52 (by decide) (fun cc136 => ?_) (fun cc136 => ?_)
      · exact B135 ls _ _ hw (lv_sub hl [0, 1, 2] rfl)
      · refine lv_iload_n hx hb dX5_codeKind_55 rfl (lv_at hl 1 rfl) ?_
        refine lv_bipush (v := 7) hx hb dX5_codeKind_56 (by decide) ?_
        refine lv_icmp_ne (tgt := 65) hx hb dX5_codeKind_58 (by decide) (fun cc137 => ?_) (fun cc137 => ?_)
        · refine lv_iconst (v := 1) hx hb dX5_codeKind_65 (by decide) ?_
          exact B36 1 ls _ _ (ob86 (((1 : Int32)).toInt) ((y1).toInt) (((7 : Int32)).toInt) (hE_ne cc136) (hE_ne cc137) (by decide) (hE_rng (y1)) (by decide)) hw (lv_sub hl [0, 1, 2] rfl)
        · exact B135 ls _ _ hw (lv_sub hl [0, 1, 2] rfl)
    · refine lv_iconst (v := 0) hx hb dX5_codeKind_36 (by decide) ?_
      exact kr 0 g24 l25 a26 b27 _ _ _ _ ⟨(hk_frT (hk_frT hk_fr0 (by decide) h11) (by decide) h29), (hk_frT (hk_frT hk_fr0 (by decide) h12) (by decide) h30), (hk_frT (hk_frT hk_fr0 (by decide) h13) (by decide) h31)⟩ hw dX5_codeKind_37
  refine lv_if_ne (tgt := 29) hx hb dX5_codeKind_22 (by decide) (fun cc138 => ?_) (fun cc138 => ?_)
  · refine lv_iconst (v := 1) hx hb dX5_codeKind_29 (by decide) ?_
    exact B17 1 ls _ _ (ob37 (((1 : Int32)).toInt) (by decide)) hw (lv_sub hl [1, 2, 0] rfl)
  · refine lv_iconst (v := 0) hx hb dX5_codeKind_25 (by decide) ?_
    refine lv_goto (tgt := 30) hx hb dX5_codeKind_26 (by decide) ?_
    exact B17 0 ls _ _ (ob87 (((0 : Int32)).toInt) ((z15).toInt) ((z14).toInt) ((y1).toInt) ((g 24).toInt) ((z16).toInt) ((r5).toInt) ((g6 24).toInt) (hE_add hz15) (hE_eq cc138) (hE_mul 16 hz14 (by decide)) (hE_add hz16) (congrArg Int32.toInt e_g6_24) (by decide) (hE_rng (z15)) (hE_rng (z14)) (hE_rng (y1)) (hE_rng (g 24)) (hE_rng (z16)) (hE_rng (r5)) (hE_rng (g6 24))) hw (lv_sub hl [1, 2, 0] rfl)

set_option maxHeartbeats 4000000 in
set_option maxRecDepth 100000 in
/-- X5_codeMatch on (9,) -/
theorem jx_X5_codeMatch (l : Launch) (hlt : l.stackTraces = false) (D : va_G) (t3 : Nat × Nat × Nat) (cI cJ : ClassId) (ad : Nat → Nat) (g : Nat → Int32) (lg : Nat → Int64) (ar : Nat → Nat → Int32) (bk : Nat → Int64) (sz : Nat) (y1 : Int32) (hi_a0rg : hk_rg 0 255 (ar 0)) : JMi l yX5_codeMatch (Cond.code yX5_codeMatch cX5_codeMatch 2 (some .boolean) :: wwX) { frames := 8, cells := 1, slots := 6, locals := 128 } t3 D xw cI cJ ad [.ref (ad 9), .int y1] (xw cI cJ ad g lg ar bk) sz 1 6 (fun (r : Int32) g' lg' ar' bk' => hk_fr [14, 15, 17, 19, 20] g g' ∧ hk_fr [0, 1, 2] lg lg' ∧ hk_fr [1, 2] ar ar') (fun g' lg' ar' bk' => hk_fr [14, 15, 17, 19, 20] g g' ∧ hk_fr [0, 1, 2] lg lg' ∧ hk_fr [1, 2] ar ar' ∧ ((g 18).toInt ≠ 0)) := by
  refine jx_metz (cc := cX5_codeMatch) (maxL := 2) (ret := (some .boolean)) rfl (by decide) rfl (Nat.le_of_ble_eq_true rfl) ?_
  intro p e s m args below meth c ls Q A hx hb hml hown hts hA hZ hw hl hQ kr kt
  have hq : ∀ w ∈ wwX, w.before args s = true := fun w h => hts w (List.mem_cons_of_mem _ h)
  have hl : lv_has ls 2 [(0, .ref (ad 9)), (1, .int y1)] := hl
  refine lv_aload_n hx hb dX5_codeMatch_0 rfl (lv_at hl 0 rfl) ?_
  refine hk_get (ci := 8) (C := RX5) (T := TX5) (N := 6) (v := .ref (ad 7)) hx hb hts (fun _ h => List.mem_cons_of_mem _ (wwXc_wsX50 _ h)) hown hw 9 rfl rfl 0 (by decide) (hq _ wX_357) rfl dX5_codeMatch_1 ?_
  refine lv_iconst (v := 0) hx hb dX5_codeMatch_4 (by decide) ?_
  refine lv_aload_n hx hb dX5_codeMatch_5 rfl (lv_at hl 0 rfl) ?_
  refine hk_get (ci := 8) (C := RX5) (T := TX5) (N := 6) (v := .int (g 24)) hx hb hts (fun _ h => List.mem_cons_of_mem _ (wwXc_wsX50 _ h)) hown hw 9 rfl rfl 5 (by decide) (hq _ wX_378) rfl dX5_codeMatch_6 ?_
  refine lv_bipush (v := 16) hx hb dX5_codeMatch_9 (by decide) ?_
  refine lv_imul hx hb dX5_codeMatch_11 (jx_nm fun z1 hz1 => ?_)
  refine lv_iadd hx hb dX5_codeMatch_12 (jx_nm fun z2 hz2 => ?_)
  refine lv_aload_n hx hb dX5_codeMatch_13 rfl (lv_at hl 0 rfl) ?_
  refine lv_iload_n hx hb dX5_codeMatch_14 rfl (lv_at hl 1 rfl) ?_
  refine jx_Vi (As := [.int y1]) (rest := [.int z2, .ref (ad 7)]) ⟨hx, hb, hml, hown, hts⟩ hZ hw hA (jx_X5_turnOf l hlt D t3 cI cJ ad g lg ar bk _ y1) (cwV 1 hts (jx_gV wwX_good wX_374 wX_375 wX_376 wX_215 wX_377) rfl rfl rfl (by decide +kernel) ⟨Nat.le_of_ble_eq_true rfl, Nat.le_of_ble_eq_true rfl⟩) 9 (ci := 8) (T := TX5) (N := 6) rfl rfl rfl hl.1 rfl (Nat.le_of_ble_eq_true rfl) dX5_codeMatch_15 ⟨Nat.le_of_ble_eq_true rfl, Nat.le_of_ble_eq_true rfl⟩ (fun _ _ _ _ _ _ _ _ hp _ _ _ _ => hp.elim) (fun r7 g8 l9 a10 b11 H locs hp12 hw => ?_)
  obtain ⟨h13, h14, h15⟩ := hp12
  refine lv_iadd hx hb dX5_codeMatch_18 (jx_nm fun z16 hz16 => ?_)
  refine lv_iconst (v := 1) hx hb dX5_codeMatch_19 (by decide) ?_
  refine jx_Vi (As := [.int z16, .int 1]) (rest := []) ⟨hx, hb, hml, hown, hts⟩ hZ hw hA (jx_X2_bit l hlt D t3 cI cJ ad g8 l9 a10 b11 _ z16 1 (ob37 (((1 : Int32)).toInt) (by decide)) (hk_pE (P := hk_rg 0 255) hi_a0rg (h15 0 rfl))) (cwV 2 hts (jx_gV wwX_good wX_379 wX_292 wX_293 wX_270 wX_294) rfl rfl rfl (by decide +kernel) ⟨Nat.le_of_ble_eq_true rfl, Nat.le_of_ble_eq_true rfl⟩) 7 (ci := 5) (T := TX2) (N := 9) rfl rfl rfl hl.1 rfl (Nat.le_of_ble_eq_true rfl) dX5_codeMatch_20 ⟨Nat.le_of_ble_eq_true rfl, Nat.le_of_ble_eq_true rfl⟩ (fun u17 u18 u19 u20 H locs ce q hp hw h1 h2 h3 => by obtain ⟨ht0, ht1, ht2, ht3⟩ := hp; have e_g8_18 : g8 18 = (g 18) := (h13 18 rfl); exact kt _ _ _ _ _ _ _ _ _ _ _ ⟨(hk_frT (hk_frT hk_fr0 (by decide) h13) (by decide) ht0), (hk_frT (hk_frT hk_fr0 (by decide) h14) (by decide) ht1), (hk_frT (hk_frT hk_fr0 (by decide) h15) (by decide) ht2), (ob53 ((g 18).toInt) (hE_rng (g 18)))⟩ hw h1 h2 h3) (fun r21 g22 l23 a24 b25 H locs hp26 hw => ?_)
  obtain ⟨h27, h28, h29, h30⟩ := hp26
  have hr31 : hk_rg 0 255 (a24 0) := (hk_pE (P := hk_rg 0 255) (hk_pE (P := hk_rg 0 255) hi_a0rg (h15 0 rfl)) (h29 0 rfl))
  refine lv_iconst (v := 1) hx hb dX5_codeMatch_23 (by decide) ?_
  refine lv_icmp_ne (tgt := 50) hx hb dX5_codeMatch_24 (by decide) (fun cc32 => ?_) (fun cc32 => ?_)
  · refine lv_iconst (v := 0) hx hb dX5_codeMatch_50 (by decide) ?_
    exact kr 0 g22 l23 a24 b25 _ _ _ _ rfl ⟨(hk_frT (hk_frT hk_fr0 (by decide) h13) (by decide) h27), (hk_frT (hk_frT hk_fr0 (by decide) h14) (by decide) h28), (hk_frT (hk_frT hk_fr0 (by decide) h15) (by decide) h29)⟩ hw dX5_codeMatch_51
  · refine lv_aload_n hx hb dX5_codeMatch_27 rfl (lv_at hl 0 rfl) ?_
    refine hk_get (ci := 8) (C := RX5) (T := TX5) (N := 6) (v := .ref (ad 7)) hx hb hts (fun _ h => List.mem_cons_of_mem _ (wwXc_wsX50 _ h)) hown hw 9 rfl rfl 0 (by decide) (hq _ wX_357) rfl dX5_codeMatch_28 ?_
    refine lv_sipush (v := 192) hx hb dX5_codeMatch_31 (by decide) ?_
    refine lv_aload_n hx hb dX5_codeMatch_34 rfl (lv_at hl 0 rfl) ?_
    have e_g22_24 : g22 24 = (g 24) := ((h27 24 rfl)).trans (h13 24 rfl)
    refine hk_get (ci := 8) (C := RX5) (T := TX5) (N := 6) (v := .int (g 24)) hx hb hts (fun _ h => List.mem_cons_of_mem _ (wwXc_wsX50 _ h)) hown hw 9 rfl rfl 5 (by decide) (hq _ wX_378) (congrArg (fun z => some (Value.int z)) e_g22_24) dX5_codeMatch_35 ?_
    refine lv_iadd hx hb dX5_codeMatch_38 (jx_nm fun z33 hz33 => ?_)
    refine lv_iconst (v := 0) hx hb dX5_codeMatch_39 (by decide) ?_
    refine jx_Vi (As := [.int z33, .int 0]) (rest := []) ⟨hx, hb, hml, hown, hts⟩ hZ hw hA (jx_X2_bit l hlt D t3 cI cJ ad g22 l23 a24 b25 _ z33 0 (ob88 (((0 : Int32)).toInt) ((z2).toInt) ((z1).toInt) ((g 24).toInt) ((z16).toInt) ((r7).toInt) ((g22 24).toInt) ((z33).toInt) (((192 : Int32)).toInt) (hE_add hz2) (hE_mul 16 hz1 (by decide)) (hE_add hz16) (congrArg Int32.toInt e_g22_24) (hE_add hz33) (by decide) (hE_rng (z2)) (hE_rng (z1)) (hE_rng (g 24)) (hE_rng (z16)) (hE_rng (r7)) (hE_rng (g22 24)) (hE_rng (z33)) (by decide)) hr31) (cwV 2 hts (jx_gV wwX_good wX_379 wX_292 wX_293 wX_270 wX_294) rfl rfl rfl (by decide +kernel) ⟨Nat.le_of_ble_eq_true rfl, Nat.le_of_ble_eq_true rfl⟩) 7 (ci := 5) (T := TX2) (N := 9) rfl rfl rfl hl.1 rfl (Nat.le_of_ble_eq_true rfl) dX5_codeMatch_40 ⟨Nat.le_of_ble_eq_true rfl, Nat.le_of_ble_eq_true rfl⟩ (fun u34 u35 u36 u37 H locs ce q hp hw h1 h2 h3 => by obtain ⟨ht0, ht1, ht2, ht3⟩ := hp; have e_g22_18 : g22 18 = (g 18) := ((h27 18 rfl)).trans e_g8_18; exact kt _ _ _ _ _ _ _ _ _ _ _ ⟨(hk_frT (hk_frT (hk_frT hk_fr0 (by decide) h13) (by decide) h27) (by decide) ht0), (hk_frT (hk_frT (hk_frT hk_fr0 (by decide) h14) (by decide) h28) (by decide) ht1), (hk_frT (hk_frT (hk_frT hk_fr0 (by decide) h15) (by decide) h29) (by decide) ht2), (ob77 ((g 18).toInt) ((g8 18).toInt) (congrArg Int32.toInt e_g8_18) (hE_rng (g 18)) (hE_rng (g8 18)))⟩ hw h1 h2 h3) (fun r38 g39 l40 a41 b42 H locs hp43 hw => ?_)
    obtain ⟨h44, h45, h46, h47⟩ := hp43
    refine lv_if_ne (tgt := 50) hx hb dX5_codeMatch_43 (by decide) (fun cc48 => ?_) (fun cc48 => ?_)
    · refine lv_iconst (v := 0) hx hb dX5_codeMatch_50 (by decide) ?_
      exact kr 0 g39 l40 a41 b42 _ _ _ _ rfl ⟨(hk_frT (hk_frT (hk_frT hk_fr0 (by decide) h13) (by decide) h27) (by decide) h44), (hk_frT (hk_frT (hk_frT hk_fr0 (by decide) h14) (by decide) h28) (by decide) h45), (hk_frT (hk_frT (hk_frT hk_fr0 (by decide) h15) (by decide) h29) (by decide) h46)⟩ hw dX5_codeMatch_51
    · refine lv_iconst (v := 1) hx hb dX5_codeMatch_46 (by decide) ?_
      refine lv_goto (tgt := 51) hx hb dX5_codeMatch_47 (by decide) ?_
      exact kr 1 g39 l40 a41 b42 _ _ _ _ rfl ⟨(hk_frT (hk_frT (hk_frT hk_fr0 (by decide) h13) (by decide) h27) (by decide) h44), (hk_frT (hk_frT (hk_frT hk_fr0 (by decide) h14) (by decide) h28) (by decide) h45), (hk_frT (hk_frT (hk_frT hk_fr0 (by decide) h15) (by decide) h29) (by decide) h46)⟩ hw dX5_codeMatch_51

set_option maxHeartbeats 4000000 in
set_option maxRecDepth 100000 in
/-- X5_codeLiteral on (9,) -/
theorem jx_X5_codeLiteral (l : Launch) (hlt : l.stackTraces = false) (D : va_G) (t3 : Nat × Nat × Nat) (cI cJ : ClassId) (ad : Nat → Nat) (g : Nat → Int32) (lg : Nat → Int64) (ar : Nat → Nat → Int32) (bk : Nat → Int64) (sz : Nat) (y1 : Int32) (y2 : Int32) (y3 : Int32) (y4 : Int32) (hi_a0rg : hk_rg 0 255 (ar 0)) : JMi l yX5_codeLiteral (Cond.code yX5_codeLiteral cX5_codeLiteral 13 (some .int) :: wwX) { frames := 8, cells := 1, slots := 6, locals := 128 } t3 D xw cI cJ ad [.ref (ad 9), .int y1, .int y2, .int y3, .int y4] (xw cI cJ ad g lg ar bk) sz 1 6 (fun (r : Int32) g' lg' ar' bk' => hk_fr [14, 15, 17, 19, 20] g g' ∧ hk_fr [0, 1, 2] lg lg' ∧ hk_fr [1, 2] ar ar') (fun g' lg' ar' bk' => hk_fr [14, 15, 17, 19, 20] g g' ∧ hk_fr [0, 1, 2] lg lg' ∧ hk_fr [1, 2] ar ar' ∧ ((g 18).toInt ≠ 0)) := by
  refine jx_meti (cc := cX5_codeLiteral) (maxL := 13) (ret := (some .int)) rfl (by decide) rfl (Nat.le_of_ble_eq_true rfl) ?_
  intro p e s m args below meth c ls Q A hx hb hml hown hts hA hZ hw hl hQ kr kt
  have hq : ∀ w ∈ wwX, w.before args s = true := fun w h => hts w (List.mem_cons_of_mem _ h)
  have hl : lv_has ls 13 [(0, .ref (ad 9)), (1, .int y1), (2, .int y2), (3, .int y3), (4, .int y4)] := hl
  refine lv_iload_n hx hb dX5_codeLiteral_0 rfl (lv_at hl 2 rfl) ?_
  refine lv_iconst (v := 1) hx hb dX5_codeLiteral_1 (by decide) ?_
  refine lv_aload_n hx hb dX5_codeLiteral_2 rfl (lv_at hl 0 rfl) ?_
  refine hk_get (ci := 8) (C := RX5) (T := TX5) (N := 6) (v := .int (g 22)) hx hb hts (fun _ h => List.mem_cons_of_mem _ (wwXc_wsX50 _ h)) hown hw 9 rfl rfl 3 (by decide) (hq _ wX_380) rfl dX5_codeLiteral_3 ?_
  refine lv_ishl hx hb dX5_codeLiteral_6 (jx_nm fun z1 hz1 => ?_)
  refine lv_iconst (v := 1) hx hb dX5_codeLiteral_7 (by decide) ?_
  refine lv_isub hx hb dX5_codeLiteral_8 (jx_nm fun z2 hz2 => ?_)
  refine lv_iand hx hb dX5_codeLiteral_9 (jx_nm fun z3 hz3 => ?_)
  refine lv_aload_n hx hb dX5_codeLiteral_10 rfl (lv_at hl 0 rfl) ?_
  refine hk_get (ci := 8) (C := RX5) (T := TX5) (N := 6) (v := .int (g 21)) hx hb hts (fun _ h => List.mem_cons_of_mem _ (wwXc_wsX50 _ h)) hown hw 9 rfl rfl 2 (by decide) (hq _ wX_381) rfl dX5_codeLiteral_11 ?_
  refine lv_ishl hx hb dX5_codeLiteral_14 (jx_nm fun z4 hz4 => ?_)
  refine lv_iload_n hx hb dX5_codeLiteral_15 rfl (lv_at hl 3 rfl) ?_
  refine lv_bipush (v := 8) hx hb dX5_codeLiteral_16 (by decide) ?_
  refine lv_aload_n hx hb dX5_codeLiteral_18 rfl (lv_at hl 0 rfl) ?_
  refine hk_get (ci := 8) (C := RX5) (T := TX5) (N := 6) (v := .int (g 21)) hx hb hts (fun _ h => List.mem_cons_of_mem _ (wwXc_wsX50 _ h)) hown hw 9 rfl rfl 2 (by decide) (hq _ wX_381) rfl dX5_codeLiteral_19 ?_
  refine lv_isub hx hb dX5_codeLiteral_22 (jx_nm fun z5 hz5 => ?_)
  refine lv_ishr hx hb dX5_codeLiteral_23 (jx_nm fun z6 hz6 => ?_)
  refine lv_iadd hx hb dX5_codeLiteral_24 (jx_nm fun z7 hz7 => ?_)
  refine lv_istore (lv' := [(5, .int z7), (0, .ref (ad 9)), (1, .int y1), (2, .int y2), (3, .int y3), (4, .int y4)]) hx hb dX5_codeLiteral_25 hl (by decide) rfl (fun ls hl => ?_)
  refine lv_sipush (v := 2052) hx hb dX5_codeLiteral_27 (by decide) ?_
  refine lv_sipush (v := 768) hx hb dX5_codeLiteral_30 (by decide) ?_
  refine lv_iload hx hb dX5_codeLiteral_33 (lv_at hl 0 rfl) ?_
  refine lv_imul hx hb dX5_codeLiteral_35 (jx_nm fun z8 hz8 => ?_)
  refine lv_iadd hx hb dX5_codeLiteral_36 (jx_nm fun z9 hz9 => ?_)
  refine lv_istore (lv' := [(6, .int z9), (5, .int z7), (0, .ref (ad 9)), (1, .int y1), (2, .int y2), (3, .int y3), (4, .int y4)]) hx hb dX5_codeLiteral_37 hl (by decide) rfl (fun ls hl => ?_)
  refine lv_aload_n hx hb dX5_codeLiteral_39 rfl (lv_at hl 2 rfl) ?_
  refine hk_get (ci := 8) (C := RX5) (T := TX5) (N := 6) (v := .int (g 24)) hx hb hts (fun _ h => List.mem_cons_of_mem _ (wwXc_wsX50 _ h)) hown hw 9 rfl rfl 5 (by decide) (hq _ wX_378) rfl dX5_codeLiteral_40 ?_
  refine lv_bipush (v := 7) hx hb dX5_codeLiteral_43 (by decide) ?_
  have B10 : ∀  (x11 : Int32) (ls : Array Slot) (H : Heap) (locs : List Loc), 0 ≤ (x11).toInt ∧ (x11).toInt ≤ 1 → hk_W D (jT cI cJ) A s H locs (xw cI cJ ad g lg ar bk) → lv_has ls 13 [(0, .ref (ad 9)), (1, .int y1), (4, .int y4), (6, .int z9)] → W p l e { frames := 8, cells := 1, slots := 6, locals := 128 } s m args below meth c H locs 0 0 Q (F0 m 53 ls [.int x11]) := by
    intro x11 ls H locs hf_B10_0 hw hl
    refine lv_istore (lv' := [(7, .int x11), (0, .ref (ad 9)), (1, .int y1), (4, .int y4), (6, .int z9)]) hx hb dX5_codeLiteral_53 hl (by decide) rfl (fun ls hl => ?_)
    refine lv_iconst (v := 1) hx hb dX5_codeLiteral_55 (by decide) ?_
    refine lv_istore (lv' := [(8, .int 1), (7, .int x11), (0, .ref (ad 9)), (1, .int y1), (4, .int y4), (6, .int z9)]) hx hb dX5_codeLiteral_56 hl (by decide) rfl (fun ls hl => ?_)
    refine lv_bipush (v := 7) hx hb dX5_codeLiteral_58 (by decide) ?_
    refine lv_istore (lv' := [(9, .int 7), (8, .int 1), (7, .int x11), (0, .ref (ad 9)), (1, .int y1), (4, .int y4), (6, .int z9)]) hx hb dX5_codeLiteral_60 hl (by decide) rfl (fun ls hl => ?_)
    have B12 : ∀ (k19 : Nat) (x13 : Int32) (x14 : Int32) (x15 : Int32) (g16 : Nat → Int32) (l17 : Nat → Int64) (a18 : Nat → Nat → Int32) (ls : Array Slot) (H : Heap) (locs : List Loc), (x15).toInt + 2147483649 ≤ (k19 : Int) → (x15).toInt ≤ 7 → hk_fr [14, 15, 17, 19, 20] g g16 → hk_fr [0, 1, 2] lg l17 → hk_fr [1, 2] ar a18 → hk_W D (jT cI cJ) A s H locs (xw cI cJ ad g16 l17 a18 bk) → lv_has ls 13 [(0, .ref (ad 9)), (1, .int y1), (4, .int y4), (6, .int z9), (7, .int x13), (8, .int x14), (9, .int x15)] → W p l e { frames := 8, cells := 1, slots := 6, locals := 128 } s m args below meth c H locs 0 0 Q (F0 m 62 ls []) := by
      intro k19
      induction k19 with
      | zero =>
        intro x13 x14 x15 g16 l17 a18 ls H locs hrk_B12 hf_B12_0 hfr_g16 hfr_l17 hfr_a18 hw hl
        exact False.elim (hk_no0 (0 * (x15).toInt) (ob89 ((x15).toInt) hf_B12_0 hrk_B12 (hE_rng (x15))) (by simp))
      | succ k19 ih_B12 =>
        intro x13 x14 x15 g16 l17 a18 ls H locs hrk_B12 hf_B12_0 hfr_g16 hfr_l17 hfr_a18 hw hl
        have hrk_B12 := hk_rk hrk_B12
        refine lv_iload hx hb dX5_codeLiteral_62 (lv_at hl 6 rfl) ?_
        refine lv_if_lt (tgt := 157) hx hb dX5_codeLiteral_64 (by decide) (fun cc20 => ?_) (fun cc20 => ?_)
        · refine lv_iload hx hb dX5_codeLiteral_157 (lv_at hl 5 rfl) ?_
          refine lv_sipush (v := 255) hx hb dX5_codeLiteral_159 (by decide) ?_
          refine lv_iand hx hb dX5_codeLiteral_162 (jx_nm fun z21 hz21 => ?_)
          exact kr z21 g16 l17 a18 bk _ _ _ _ ⟨hfr_g16, hfr_l17, hfr_a18⟩ hw dX5_codeLiteral_163
        · refine lv_iload hx hb dX5_codeLiteral_67 (lv_at hl 2 rfl) ?_
          refine lv_iload hx hb dX5_codeLiteral_69 (lv_at hl 6 rfl) ?_
          refine lv_ishr hx hb dX5_codeLiteral_71 (jx_nm fun z22 hz22 => ?_)
          refine lv_iconst (v := 1) hx hb dX5_codeLiteral_72 (by decide) ?_
          refine lv_iand hx hb dX5_codeLiteral_73 (jx_nm fun z23 hz23 => ?_)
          refine lv_istore (lv' := [(10, .int z23), (0, .ref (ad 9)), (1, .int y1), (4, .int y4), (6, .int z9), (7, .int x13), (8, .int x14), (9, .int x15)]) hx hb dX5_codeLiteral_74 hl (by decide) rfl (fun ls hl => ?_)
          refine lv_iload hx hb dX5_codeLiteral_76 (lv_at hl 5 rfl) ?_
          have B24 : ∀  (x25 : Int32) (ls : Array Slot) (H : Heap) (locs : List Loc), hk_W D (jT cI cJ) A s H locs (xw cI cJ ad g16 l17 a18 bk) → lv_has ls 13 [(0, .ref (ad 9)), (1, .int y1), (4, .int y4), (6, .int z9), (7, .int x13), (8, .int x14), (9, .int x15), (10, .int z23)] → W p l e { frames := 8, cells := 1, slots := 6, locals := 128 } s m args below meth c H locs 0 0 Q (F0 m 104 ls [.int x25]) := by
            intro x25 ls H locs hw hl
            refine lv_istore (lv' := [(11, .int x25), (0, .ref (ad 9)), (1, .int y1), (4, .int y4), (6, .int z9), (7, .int x13), (8, .int x14), (9, .int x15), (10, .int z23)]) hx hb dX5_codeLiteral_104 hl (by decide) rfl (fun ls hl => ?_)
            refine lv_aload_n hx hb dX5_codeLiteral_106 rfl (lv_at hl 1 rfl) ?_
            refine hk_get (ci := 8) (C := RX5) (T := TX5) (N := 6) (v := .ref (ad 7)) hx hb hts (fun _ h => List.mem_cons_of_mem _ (wwXc_wsX50 _ h)) hown hw 9 rfl rfl 0 (by decide) (hq _ wX_357) rfl dX5_codeLiteral_107 ?_
            refine lv_iload hx hb dX5_codeLiteral_110 (lv_at hl 0 rfl) ?_
            refine lv_iload_n hx hb dX5_codeLiteral_112 rfl (lv_at hl 2 rfl) ?_
            refine lv_iload hx hb dX5_codeLiteral_113 (lv_at hl 7 rfl) ?_
            refine lv_ishr hx hb dX5_codeLiteral_115 (jx_nm fun z26 hz26 => ?_)
            refine lv_iconst (v := 1) hx hb dX5_codeLiteral_116 (by decide) ?_
            refine lv_iand hx hb dX5_codeLiteral_117 (jx_nm fun z27 hz27 => ?_)
            refine jx_Vi (As := [.int x25, .int z27]) (rest := []) ⟨hx, hb, hml, hown, hts⟩ hZ hw hA (jx_X2_bit l hlt D t3 cI cJ ad g16 l17 a18 bk _ x25 z27 (ob52 ((z27).toInt) ((z26).toInt) (hE_and 1 2 hz27 (by decide) (by decide) (by decide)) (hE_rng (z27)) (hE_rng (z26))) (hk_pE (P := hk_rg 0 255) hi_a0rg (hfr_a18 0 rfl))) (cwV 2 hts (jx_gV wwX_good wX_379 wX_292 wX_293 wX_270 wX_294) rfl rfl rfl (by decide +kernel) ⟨Nat.le_of_ble_eq_true rfl, Nat.le_of_ble_eq_true rfl⟩) 7 (ci := 5) (T := TX2) (N := 9) rfl rfl rfl hl.1 rfl (Nat.le_of_ble_eq_true rfl) dX5_codeLiteral_118 ⟨Nat.le_of_ble_eq_true rfl, Nat.le_of_ble_eq_true rfl⟩ (fun u28 u29 u30 u31 H locs ce q hp hw h1 h2 h3 => by obtain ⟨ht0, ht1, ht2, ht3⟩ := hp; have e_g16_18 : g16 18 = (g 18) := (hfr_g16 18 rfl); exact kt _ _ _ _ _ _ _ _ _ _ _ ⟨(hk_frT hfr_g16 (by decide) ht0), (hk_frT hfr_l17 (by decide) ht1), (hk_frT hfr_a18 (by decide) ht2), (ob53 ((g 18).toInt) (hE_rng (g 18)))⟩ hw h1 h2 h3) (fun r32 g33 l34 a35 b36 H locs hp37 hw => ?_)
            obtain ⟨h38, h39, h40, h41⟩ := hp37
            have hr42 : hk_rg 0 255 (a35 0) := (hk_pE (P := hk_rg 0 255) (hk_pE (P := hk_rg 0 255) hi_a0rg (hfr_a18 0 rfl)) (h40 0 rfl))
            refine lv_istore (lv' := [(12, .int r32), (11, .int x25), (0, .ref (ad 9)), (1, .int y1), (4, .int y4), (6, .int z9), (7, .int x13), (8, .int x14), (9, .int x15), (10, .int z23)]) hx hb dX5_codeLiteral_121 hl (by decide) rfl (fun ls hl => ?_)
            refine lv_iload hx hb dX5_codeLiteral_123 (lv_at hl 7 rfl) ?_
            refine lv_iconst (v := 1) hx hb dX5_codeLiteral_125 (by decide) ?_
            refine lv_ishl hx hb dX5_codeLiteral_126 (jx_nm fun z43 hz43 => ?_)
            refine lv_iload hx hb dX5_codeLiteral_127 (lv_at hl 0 rfl) ?_
            refine lv_ior hx hb dX5_codeLiteral_129 (jx_nm fun z44 hz44 => ?_)
            refine lv_istore (lv' := [(8, .int z44), (12, .int r32), (11, .int x25), (0, .ref (ad 9)), (1, .int y1), (4, .int y4), (6, .int z9), (7, .int x13), (9, .int x15), (10, .int z23)]) hx hb dX5_codeLiteral_130 hl (by decide) rfl (fun ls hl => ?_)
            refine lv_iload hx hb dX5_codeLiteral_132 (lv_at hl 7 rfl) ?_
            have B45 : ∀  (x46 : Int32) (ls : Array Slot) (H : Heap) (locs : List Loc), 0 ≤ (x46).toInt ∧ (x46).toInt ≤ 1 → hk_W D (jT cI cJ) A s H locs (xw cI cJ ad g33 l34 a35 b36) → lv_has ls 13 [(0, .ref (ad 9)), (1, .int y1), (4, .int y4), (6, .int z9), (8, .int z44), (9, .int x15)] → W p l e { frames := 8, cells := 1, slots := 6, locals := 128 } s m args below meth c H locs 0 0 Q (F0 m 149 ls [.int x46]) := by
              intro x46 ls H locs hf_B45_0 hw hl
              refine lv_istore (lv' := [(7, .int x46), (0, .ref (ad 9)), (1, .int y1), (4, .int y4), (6, .int z9), (8, .int z44), (9, .int x15)]) hx hb dX5_codeLiteral_149 hl (by decide) rfl (fun ls hl => ?_)
              obtain ⟨z47, hz47⟩ : ∃ z : Int32, x15 + (-1) = z := ⟨_, rfl⟩
              refine lv_iinc (v := z47) (lv' := [(9, .int z47), (7, .int x46), (0, .ref (ad 9)), (1, .int y1), (4, .int y4), (6, .int z9), (8, .int z44)]) hx hb dX5_codeLiteral_151 hl (k := 6) rfl hz47 (by decide) rfl (fun ls hl => ?_)
              refine lv_goto (tgt := 62) hx hb dX5_codeLiteral_154 (by decide) ?_
              exact ih_B12 x46 z44 z47 g33 l34 a35 ls _ _ (ob90 ((z47).toInt) (k19 : Int) ((x15).toInt) ((((-1) : Int32)).toInt) (((0 : Int32)).toInt) hrk_B12 (hE_add hz47) hf_B12_0 (hE_nlt cc20) (hE_rng (z47)) (hE_rng (x15)) (by decide) (by decide)) (ob91 ((z47).toInt) ((x15).toInt) ((((-1) : Int32)).toInt) (k19 : Int) (((0 : Int32)).toInt) (hE_add hz47) hf_B12_0 hrk_B12 (hE_nlt cc20) (hE_rng (z47)) (hE_rng (x15)) (by decide) (by decide)) (hk_frT hfr_g16 (by decide) h38) (hk_frT hfr_l17 (by decide) h39) (hk_frT hfr_a18 (by decide) h40) hw (lv_sub hl [2, 3, 4, 5, 1, 6, 0] rfl)
            have B48 : ∀  (ls : Array Slot) (H : Heap) (locs : List Loc), hk_W D (jT cI cJ) A s H locs (xw cI cJ ad g33 l34 a35 b36) → lv_has ls 13 [(0, .ref (ad 9)), (1, .int y1), (4, .int y4), (6, .int z9), (8, .int z44), (9, .int x15)] → W p l e { frames := 8, cells := 1, slots := 6, locals := 128 } s m args below meth c H locs 0 0 Q (F0 m 148 ls []) := by
              intro ls H locs hw hl
              refine lv_iconst (v := 0) hx hb dX5_codeLiteral_148 (by decide) ?_
              exact B45 0 ls _ _ (ob92 (((0 : Int32)).toInt) ((x15).toInt) (k19 : Int) (hE_nlt cc20) hf_B12_0 hrk_B12 (by decide) (hE_rng (x15))) hw (lv_sub hl [0, 1, 2, 3, 4, 5] rfl)
            refine lv_if_eq (tgt := 148) hx hb dX5_codeLiteral_134 (by decide) (fun cc49 => ?_) (fun cc49 => ?_)
            · exact B48 ls _ _ hw (lv_sub hl [3, 4, 5, 6, 0, 8] rfl)
            · refine lv_iload hx hb dX5_codeLiteral_137 (lv_at hl 1 rfl) ?_
              refine lv_iload hx hb dX5_codeLiteral_139 (lv_at hl 9 rfl) ?_
              refine lv_icmp_ne (tgt := 148) hx hb dX5_codeLiteral_141 (by decide) (fun cc50 => ?_) (fun cc50 => ?_)
              · exact B48 ls _ _ hw (lv_sub hl [3, 4, 5, 6, 0, 8] rfl)
              · refine lv_iconst (v := 1) hx hb dX5_codeLiteral_144 (by decide) ?_
                refine lv_goto (tgt := 149) hx hb dX5_codeLiteral_145 (by decide) ?_
                exact B45 1 ls _ _ (ob93 (((1 : Int32)).toInt) ((z2).toInt) ((z1).toInt) ((z3).toInt) ((y2).toInt) (hE_sub hz2) (hE_and2 hz3) (by decide) (hE_rng (z2)) (hE_rng (z1)) (hE_rng (z3)) (hE_rng (y2))) hw (lv_sub hl [3, 4, 5, 6, 0, 8] rfl)
          refine lv_if_eq (tgt := 99) hx hb dX5_codeLiteral_78 (by decide) (fun cc51 => ?_) (fun cc51 => ?_)
          · refine lv_iload hx hb dX5_codeLiteral_99 (lv_at hl 4 rfl) ?_
            refine lv_iload hx hb dX5_codeLiteral_101 (lv_at hl 6 rfl) ?_
            refine lv_iadd hx hb dX5_codeLiteral_103 (jx_nm fun z52 hz52 => ?_)
            exact B24 z52 ls _ _ hw (lv_sub hl [1, 2, 3, 4, 5, 6, 7, 0] rfl)
          · refine lv_iload hx hb dX5_codeLiteral_81 (lv_at hl 4 rfl) ?_
            refine lv_iload hx hb dX5_codeLiteral_83 (lv_at hl 6 rfl) ?_
            refine lv_iadd hx hb dX5_codeLiteral_85 (jx_nm fun z53 hz53 => ?_)
            refine lv_sipush (v := 256) hx hb dX5_codeLiteral_86 (by decide) ?_
            refine lv_iadd hx hb dX5_codeLiteral_89 (jx_nm fun z54 hz54 => ?_)
            refine lv_iload hx hb dX5_codeLiteral_90 (lv_at hl 0 rfl) ?_
            refine lv_bipush (v := 8) hx hb dX5_codeLiteral_92 (by decide) ?_
            refine lv_ishl hx hb dX5_codeLiteral_94 (jx_nm fun z55 hz55 => ?_)
            refine lv_iadd hx hb dX5_codeLiteral_95 (jx_nm fun z56 hz56 => ?_)
            refine lv_goto (tgt := 104) hx hb dX5_codeLiteral_96 (by decide) ?_
            exact B24 z56 ls _ _ hw (lv_sub hl [1, 2, 3, 4, 5, 6, 7, 0] rfl)
    exact B12 (((7 : Int32)).toInt + 2147483649).toNat x11 1 7 g lg ar ls _ _ (Int.self_le_toNat _) (ob94 (((7 : Int32)).toInt) (by decide)) hk_fr0 hk_fr0 hk_fr0 hw (lv_sub hl [3, 4, 5, 6, 2, 1, 0] rfl)
  refine lv_icmp_lt (tgt := 52) hx hb dX5_codeLiteral_45 (by decide) (fun cc57 => ?_) (fun cc57 => ?_)
  · refine lv_iconst (v := 0) hx hb dX5_codeLiteral_52 (by decide) ?_
    exact B10 0 ls _ _ (ob36 (((0 : Int32)).toInt) (by decide)) hw (lv_sub hl [2, 3, 6, 0] rfl)
  · refine lv_iconst (v := 1) hx hb dX5_codeLiteral_48 (by decide) ?_
    refine lv_goto (tgt := 53) hx hb dX5_codeLiteral_49 (by decide) ?_
    exact B10 1 ls _ _ (ob93 (((1 : Int32)).toInt) ((z2).toInt) ((z1).toInt) ((z3).toInt) ((y2).toInt) (hE_sub hz2) (hE_and2 hz3) (by decide) (hE_rng (z2)) (hE_rng (z1)) (hE_rng (z3)) (hE_rng (y2))) hw (lv_sub hl [2, 3, 6, 0] rfl)

set_option maxHeartbeats 4000000 in
set_option maxRecDepth 100000 in
/-- X5_codeLength on (9,) -/
theorem jx_X5_codeLength (l : Launch) (hlt : l.stackTraces = false) (D : va_G) (t3 : Nat × Nat × Nat) (cI cJ : ClassId) (ad : Nat → Nat) (g : Nat → Int32) (lg : Nat → Int64) (ar : Nat → Nat → Int32) (bk : Nat → Int64) (sz : Nat) (y1 : Int32) (y2 : Int32) (y3 : Int32) (hi_a0rg : hk_rg 0 255 (ar 0)) : JMi l yX5_codeLength (Cond.code yX5_codeLength cX5_codeLength 6 (some .int) :: wwX) { frames := 9, cells := 1, slots := 6, locals := 153 } t3 D xw cI cJ ad [.ref (ad 9), .int y1, .int y2, .int y3] (xw cI cJ ad g lg ar bk) sz 1 6 (fun (r : Int32) g' lg' ar' bk' => hk_fr [14, 15, 17, 19, 20] g g' ∧ hk_fr [0, 1, 2] lg lg' ∧ hk_fr [1, 2] ar ar' ∧ (-300 ≤ (r).toInt ∧ (r).toInt ≤ 600)) (fun g' lg' ar' bk' => hk_fr [14, 15, 17, 19, 20] g g' ∧ hk_fr [0, 1, 2] lg lg' ∧ hk_fr [1, 2] ar ar' ∧ ((g 18).toInt ≠ 0)) := by
  refine jx_meti (cc := cX5_codeLength) (maxL := 6) (ret := (some .int)) rfl (by decide) rfl (Nat.le_of_ble_eq_true rfl) ?_
  intro p e s m args below meth c ls Q A hx hb hml hown hts hA hZ hw hl hQ kr kt
  have hq : ∀ w ∈ wwX, w.before args s = true := fun w h => hts w (List.mem_cons_of_mem _ h)
  have hl : lv_has ls 6 [(0, .ref (ad 9)), (1, .int y1), (2, .int y2), (3, .int y3)] := hl
  refine lv_aload_n hx hb dX5_codeLength_0 rfl (lv_at hl 0 rfl) ?_
  refine lv_iload_n hx hb dX5_codeLength_1 rfl (lv_at hl 3 rfl) ?_
  refine jx_Vi (As := [.int y3]) (rest := []) ⟨hx, hb, hml, hown, hts⟩ hZ hw hA (jx_X5_turnOf l hlt D t3 cI cJ ad g lg ar bk _ y3) (cwV 1 hts (jx_gV wwX_good wX_374 wX_375 wX_376 wX_215 wX_377) rfl rfl rfl (by decide +kernel) ⟨Nat.le_of_ble_eq_true rfl, Nat.le_of_ble_eq_true rfl⟩) 9 (ci := 8) (T := TX5) (N := 6) rfl rfl rfl hl.1 rfl (Nat.le_of_ble_eq_true rfl) dX5_codeLength_2 ⟨Nat.le_of_ble_eq_true rfl, Nat.le_of_ble_eq_true rfl⟩ (fun _ _ _ _ _ _ _ _ hp _ _ _ _ => hp.elim) (fun r5 g6 l7 a8 b9 H locs hp10 hw => ?_)
  obtain ⟨h11, h12, h13⟩ := hp10
  refine lv_istore (lv' := [(4, .int r5), (0, .ref (ad 9)), (1, .int y1), (2, .int y2), (3, .int y3)]) hx hb dX5_codeLength_5 hl (by decide) rfl (fun ls hl => ?_)
  refine lv_iload_n hx hb dX5_codeLength_7 rfl (lv_at hl 3 rfl) ?_
  refine lv_iconst (v := 2) hx hb dX5_codeLength_8 (by decide) ?_
  refine lv_isub hx hb dX5_codeLength_9 (jx_nm fun z14 hz14 => ?_)
  refine lv_istore (lv' := [(5, .int z14), (4, .int r5), (0, .ref (ad 9)), (1, .int y1), (2, .int y2), (3, .int y3)]) hx hb dX5_codeLength_10 hl (by decide) rfl (fun ls hl => ?_)
  refine lv_aload_n hx hb dX5_codeLength_12 rfl (lv_at hl 2 rfl) ?_
  refine hk_get (ci := 8) (C := RX5) (T := TX5) (N := 6) (v := .ref (ad 7)) hx hb hts (fun _ h => List.mem_cons_of_mem _ (wwXc_wsX50 _ h)) hown hw 9 rfl rfl 0 (by decide) (hq _ wX_357) rfl dX5_codeLength_13 ?_
  refine lv_iload_n hx hb dX5_codeLength_16 rfl (lv_at hl 3 rfl) ?_
  refine lv_iload hx hb dX5_codeLength_17 (lv_at hl 0 rfl) ?_
  refine lv_bipush (v := 8) hx hb dX5_codeLength_19 (by decide) ?_
  have B15 : ∀  (x16 : Int32) (ls : Array Slot) (H : Heap) (locs : List Loc), 0 ≤ (x16).toInt ∧ (x16).toInt ≤ 1 → hk_W D (jT cI cJ) A s H locs (xw cI cJ ad g6 l7 a8 b9) → lv_has ls 6 [(0, .ref (ad 9)), (1, .int y1), (4, .int r5), (5, .int z14)] → W p l e { frames := 9, cells := 1, slots := 6, locals := 153 } s m args below meth c H locs 0 0 Q (F0 m 29 ls [.int x16, .int y1, .ref (ad 7)]) := by
    intro x16 ls H locs hf_B15_0 hw hl
    refine jx_Vi (As := [.int y1, .int x16]) (rest := []) ⟨hx, hb, hml, hown, hts⟩ hZ hw hA (jx_X2_bit l hlt D t3 cI cJ ad g6 l7 a8 b9 _ y1 x16 (ob40 ((x16).toInt) hf_B15_0 (hE_rng (x16))) (hk_pE (P := hk_rg 0 255) hi_a0rg (h13 0 rfl))) (cwV 2 hts (jx_gV wwX_good wX_379 wX_292 wX_293 wX_270 wX_294) rfl rfl rfl (by decide +kernel) ⟨Nat.le_of_ble_eq_true rfl, Nat.le_of_ble_eq_true rfl⟩) 7 (ci := 5) (T := TX2) (N := 9) rfl rfl rfl hl.1 rfl (Nat.le_of_ble_eq_true rfl) dX5_codeLength_29 ⟨Nat.le_of_ble_eq_true rfl, Nat.le_of_ble_eq_true rfl⟩ (fun u17 u18 u19 u20 H locs ce q hp hw h1 h2 h3 => by obtain ⟨ht0, ht1, ht2, ht3⟩ := hp; have e_g6_18 : g6 18 = (g 18) := (h11 18 rfl); exact kt _ _ _ _ _ _ _ _ _ _ _ ⟨(hk_frT (hk_frT hk_fr0 (by decide) h11) (by decide) ht0), (hk_frT (hk_frT hk_fr0 (by decide) h12) (by decide) ht1), (hk_frT (hk_frT hk_fr0 (by decide) h13) (by decide) ht2), (ob53 ((g 18).toInt) (hE_rng (g 18)))⟩ hw h1 h2 h3) (fun r21 g22 l23 a24 b25 H locs hp26 hw => ?_)
    obtain ⟨h27, h28, h29, h30⟩ := hp26
    have hr31 : hk_rg 0 255 (a24 0) := (hk_pE (P := hk_rg 0 255) (hk_pE (P := hk_rg 0 255) hi_a0rg (h13 0 rfl)) (h29 0 rfl))
    refine lv_if_ne (tgt := 57) hx hb dX5_codeLength_32 (by decide) (fun cc32 => ?_) (fun cc32 => ?_)
    · refine lv_aload_n hx hb dX5_codeLength_57 rfl (lv_at hl 0 rfl) ?_
      refine hk_get (ci := 8) (C := RX5) (T := TX5) (N := 6) (v := .ref (ad 7)) hx hb hts (fun _ h => List.mem_cons_of_mem _ (wwXc_wsX50 _ h)) hown hw 9 rfl rfl 0 (by decide) (hq _ wX_357) rfl dX5_codeLength_58 ?_
      refine lv_iload_n hx hb dX5_codeLength_61 rfl (lv_at hl 1 rfl) ?_
      refine lv_iconst (v := 1) hx hb dX5_codeLength_62 (by decide) ?_
      refine lv_iadd hx hb dX5_codeLength_63 (jx_nm fun z33 hz33 => ?_)
      refine lv_iload hx hb dX5_codeLength_64 (lv_at hl 3 rfl) ?_
      refine lv_bipush (v := 16) hx hb dX5_codeLength_66 (by decide) ?_
      have B34 : ∀  (x35 : Int32) (ls : Array Slot) (H : Heap) (locs : List Loc), 0 ≤ (x35).toInt ∧ (x35).toInt ≤ 1 → hk_W D (jT cI cJ) A s H locs (xw cI cJ ad g22 l23 a24 b25) → lv_has ls 6 [(0, .ref (ad 9)), (1, .int y1), (4, .int r5), (5, .int z14)] → W p l e { frames := 9, cells := 1, slots := 6, locals := 153 } s m args below meth c H locs 0 0 Q (F0 m 76 ls [.int x35, .int z33, .ref (ad 7)]) := by
        intro x35 ls H locs hf_B34_0 hw hl
        refine jx_Vi (As := [.int z33, .int x35]) (rest := []) ⟨hx, hb, hml, hown, hts⟩ hZ hw hA (jx_X2_bit l hlt D t3 cI cJ ad g22 l23 a24 b25 _ z33 x35 (ob40 ((x35).toInt) hf_B34_0 (hE_rng (x35))) hr31) (cwV 2 hts (jx_gV wwX_good wX_379 wX_292 wX_293 wX_270 wX_294) rfl rfl rfl (by decide +kernel) ⟨Nat.le_of_ble_eq_true rfl, Nat.le_of_ble_eq_true rfl⟩) 7 (ci := 5) (T := TX2) (N := 9) rfl rfl rfl hl.1 rfl (Nat.le_of_ble_eq_true rfl) dX5_codeLength_76 ⟨Nat.le_of_ble_eq_true rfl, Nat.le_of_ble_eq_true rfl⟩ (fun u36 u37 u38 u39 H locs ce q hp hw h1 h2 h3 => by obtain ⟨ht0, ht1, ht2, ht3⟩ := hp; have e_g22_18 : g22 18 = (g 18) := ((h27 18 rfl)).trans e_g6_18; exact kt _ _ _ _ _ _ _ _ _ _ _ ⟨(hk_frT (hk_frT (hk_frT hk_fr0 (by decide) h11) (by decide) h27) (by decide) ht0), (hk_frT (hk_frT (hk_frT hk_fr0 (by decide) h12) (by decide) h28) (by decide) ht1), (hk_frT (hk_frT (hk_frT hk_fr0 (by decide) h13) (by decide) h29) (by decide) ht2), (ob77 ((g 18).toInt) ((g6 18).toInt) (congrArg Int32.toInt e_g6_18) (hE_rng (g 18)) (hE_rng (g6 18)))⟩ hw h1 h2 h3) (fun r40 g41 l42 a43 b44 H locs hp45 hw => ?_)
        obtain ⟨h46, h47, h48, h49⟩ := hp45
        refine lv_if_ne (tgt := 110) hx hb dX5_codeLength_79 (by decide) (fun cc50 => ?_) (fun cc50 => ?_)
        · refine lv_bipush (v := 18) hx hb dX5_codeLength_110 (by decide) ?_
          refine lv_aload_n hx hb dX5_codeLength_112 rfl (lv_at hl 0 rfl) ?_
          refine hk_get (ci := 8) (C := RX5) (T := TX5) (N := 6) (v := .ref (ad 7)) hx hb hts (fun _ h => List.mem_cons_of_mem _ (wwXc_wsX50 _ h)) hown hw 9 rfl rfl 0 (by decide) (hq _ wX_357) rfl dX5_codeLength_113 ?_
          refine lv_iload_n hx hb dX5_codeLength_116 rfl (lv_at hl 1 rfl) ?_
          refine lv_sipush (v := 258) hx hb dX5_codeLength_117 (by decide) ?_
          refine lv_iadd hx hb dX5_codeLength_120 (jx_nm fun z51 hz51 => ?_)
          refine lv_bipush (v := 8) hx hb dX5_codeLength_121 (by decide) ?_
          refine lv_iload hx hb dX5_codeLength_123 (lv_at hl 3 rfl) ?_
          refine lv_bipush (v := 16) hx hb dX5_codeLength_125 (by decide) ?_
          refine lv_isub hx hb dX5_codeLength_127 (jx_nm fun z52 hz52 => ?_)
          refine jx_Vi (As := [.int z51, .int 8, .int z52]) (rest := [.int 18]) ⟨hx, hb, hml, hown, hts⟩ hZ hw hA (jx_X2_tree l hlt D t3 cI cJ ad g41 l42 a43 b44 _ z51 8 z52 (ob95 (((8 : Int32)).toInt) (by decide)) (hk_pE (P := hk_rg 0 255) hr31 (h48 0 rfl))) (cwV 3 hts (jx_gV wwX_good wX_361 wX_362 wX_363 wX_270 wX_364) rfl rfl rfl (by decide +kernel) ⟨Nat.le_of_ble_eq_true rfl, Nat.le_of_ble_eq_true rfl⟩) 7 (ci := 5) (T := TX2) (N := 9) rfl rfl rfl hl.1 rfl (Nat.le_of_ble_eq_true rfl) dX5_codeLength_128 ⟨Nat.le_of_ble_eq_true rfl, Nat.le_of_ble_eq_true rfl⟩ (fun u53 u54 u55 u56 H locs ce q hp hw h1 h2 h3 => by obtain ⟨ht0, ht1, ht2, ht3⟩ := hp; have e_g41_18 : g41 18 = (g 18) := ((h46 18 rfl)).trans e_g22_18; exact kt _ _ _ _ _ _ _ _ _ _ _ ⟨(hk_frT (hk_frT (hk_frT (hk_frT hk_fr0 (by decide) h11) (by decide) h27) (by decide) h46) (by decide) ht0), (hk_frT (hk_frT (hk_frT (hk_frT hk_fr0 (by decide) h12) (by decide) h28) (by decide) h47) (by decide) ht1), (hk_frT (hk_frT (hk_frT (hk_frT hk_fr0 (by decide) h13) (by decide) h29) (by decide) h48) (by decide) ht2), (ob78 ((g 18).toInt) ((g6 18).toInt) ((g22 18).toInt) (congrArg Int32.toInt e_g6_18) (congrArg Int32.toInt e_g22_18) (hE_rng (g 18)) (hE_rng (g6 18)) (hE_rng (g22 18)))⟩ hw h1 h2 h3) (fun r57 g58 l59 a60 b61 H locs hp62 hw => ?_)
          obtain ⟨h63, h64, h65, h66⟩ := hp62
          have hr67 : hk_rg 0 255 (a60 0) := (hk_pE (P := hk_rg 0 255) (hk_pE (P := hk_rg 0 255) hr31 (h48 0 rfl)) (h65 0 rfl))
          refine lv_iadd hx hb dX5_codeLength_131 (jx_nm fun z68 hz68 => ?_)
          exact kr z68 g58 l59 a60 b61 _ _ _ _ ⟨(hk_frT (hk_frT (hk_frT (hk_frT hk_fr0 (by decide) h11) (by decide) h27) (by decide) h46) (by decide) h63), (hk_frT (hk_frT (hk_frT (hk_frT hk_fr0 (by decide) h12) (by decide) h28) (by decide) h47) (by decide) h64), (hk_frT (hk_frT (hk_frT (hk_frT hk_fr0 (by decide) h13) (by decide) h29) (by decide) h48) (by decide) h65), (ob96 ((z68).toInt) (((18 : Int32)).toInt) ((r57).toInt) (hE_add hz68) h66 (hE_rng (z68)) (by decide) (hE_rng (r57)))⟩ hw dX5_codeLength_132
        · refine lv_bipush (v := 10) hx hb dX5_codeLength_82 (by decide) ?_
          refine lv_aload_n hx hb dX5_codeLength_84 rfl (lv_at hl 0 rfl) ?_
          refine hk_get (ci := 8) (C := RX5) (T := TX5) (N := 6) (v := .ref (ad 7)) hx hb hts (fun _ h => List.mem_cons_of_mem _ (wwXc_wsX50 _ h)) hown hw 9 rfl rfl 0 (by decide) (hq _ wX_357) rfl dX5_codeLength_85 ?_
          refine lv_iload_n hx hb dX5_codeLength_88 rfl (lv_at hl 1 rfl) ?_
          refine lv_sipush (v := 130) hx hb dX5_codeLength_89 (by decide) ?_
          refine lv_iadd hx hb dX5_codeLength_92 (jx_nm fun z69 hz69 => ?_)
          refine lv_iload hx hb dX5_codeLength_93 (lv_at hl 2 rfl) ?_
          refine lv_bipush (v := 8) hx hb dX5_codeLength_95 (by decide) ?_
          refine lv_imul hx hb dX5_codeLength_97 (jx_nm fun z70 hz70 => ?_)
          refine lv_iadd hx hb dX5_codeLength_98 (jx_nm fun z71 hz71 => ?_)
          refine lv_iconst (v := 3) hx hb dX5_codeLength_99 (by decide) ?_
          refine lv_iload hx hb dX5_codeLength_100 (lv_at hl 3 rfl) ?_
          refine lv_bipush (v := 8) hx hb dX5_codeLength_102 (by decide) ?_
          refine lv_isub hx hb dX5_codeLength_104 (jx_nm fun z72 hz72 => ?_)
          refine jx_Vi (As := [.int z71, .int 3, .int z72]) (rest := [.int 10]) ⟨hx, hb, hml, hown, hts⟩ hZ hw hA (jx_X2_tree l hlt D t3 cI cJ ad g41 l42 a43 b44 _ z71 3 z72 (ob97 (((3 : Int32)).toInt) (by decide)) (hk_pE (P := hk_rg 0 255) hr31 (h48 0 rfl))) (cwV 3 hts (jx_gV wwX_good wX_361 wX_362 wX_363 wX_270 wX_364) rfl rfl rfl (by decide +kernel) ⟨Nat.le_of_ble_eq_true rfl, Nat.le_of_ble_eq_true rfl⟩) 7 (ci := 5) (T := TX2) (N := 9) rfl rfl rfl hl.1 rfl (Nat.le_of_ble_eq_true rfl) dX5_codeLength_105 ⟨Nat.le_of_ble_eq_true rfl, Nat.le_of_ble_eq_true rfl⟩ (fun u73 u74 u75 u76 H locs ce q hp hw h1 h2 h3 => by obtain ⟨ht0, ht1, ht2, ht3⟩ := hp; have e_g41_18 : g41 18 = (g 18) := ((h46 18 rfl)).trans e_g22_18; exact kt _ _ _ _ _ _ _ _ _ _ _ ⟨(hk_frT (hk_frT (hk_frT (hk_frT hk_fr0 (by decide) h11) (by decide) h27) (by decide) h46) (by decide) ht0), (hk_frT (hk_frT (hk_frT (hk_frT hk_fr0 (by decide) h12) (by decide) h28) (by decide) h47) (by decide) ht1), (hk_frT (hk_frT (hk_frT (hk_frT hk_fr0 (by decide) h13) (by decide) h29) (by decide) h48) (by decide) ht2), (ob78 ((g 18).toInt) ((g6 18).toInt) ((g22 18).toInt) (congrArg Int32.toInt e_g6_18) (congrArg Int32.toInt e_g22_18) (hE_rng (g 18)) (hE_rng (g6 18)) (hE_rng (g22 18)))⟩ hw h1 h2 h3) (fun r77 g78 l79 a80 b81 H locs hp82 hw => ?_)
          obtain ⟨h83, h84, h85, h86⟩ := hp82
          have hr87 : hk_rg 0 255 (a80 0) := (hk_pE (P := hk_rg 0 255) (hk_pE (P := hk_rg 0 255) hr31 (h48 0 rfl)) (h85 0 rfl))
          refine lv_iadd hx hb dX5_codeLength_108 (jx_nm fun z88 hz88 => ?_)
          exact kr z88 g78 l79 a80 b81 _ _ _ _ ⟨(hk_frT (hk_frT (hk_frT (hk_frT hk_fr0 (by decide) h11) (by decide) h27) (by decide) h46) (by decide) h83), (hk_frT (hk_frT (hk_frT (hk_frT hk_fr0 (by decide) h12) (by decide) h28) (by decide) h47) (by decide) h84), (hk_frT (hk_frT (hk_frT (hk_frT hk_fr0 (by decide) h13) (by decide) h29) (by decide) h48) (by decide) h85), (ob98 ((z88).toInt) (((10 : Int32)).toInt) ((r77).toInt) (hE_add hz88) h86 (hE_rng (z88)) (by decide) (hE_rng (r77)))⟩ hw dX5_codeLength_109
      refine lv_icmp_ge (tgt := 75) hx hb dX5_codeLength_68 (by decide) (fun cc89 => ?_) (fun cc89 => ?_)
      · refine lv_iconst (v := 1) hx hb dX5_codeLength_75 (by decide) ?_
        exact B34 1 ls _ _ (ob99 (((1 : Int32)).toInt) ((z33).toInt) ((y1).toInt) (hE_add hz33) (by decide) (hE_rng (z33)) (hE_rng (y1))) hw (lv_sub hl [0, 1, 2, 3] rfl)
      · refine lv_iconst (v := 0) hx hb dX5_codeLength_71 (by decide) ?_
        refine lv_goto (tgt := 76) hx hb dX5_codeLength_72 (by decide) ?_
        exact B34 0 ls _ _ (ob100 (((0 : Int32)).toInt) ((r21).toInt) (hE_ne cc32) h30 (by decide) (hE_rng (r21))) hw (lv_sub hl [0, 1, 2, 3] rfl)
    · refine lv_iconst (v := 2) hx hb dX5_codeLength_35 (by decide) ?_
      refine lv_aload_n hx hb dX5_codeLength_36 rfl (lv_at hl 0 rfl) ?_
      refine hk_get (ci := 8) (C := RX5) (T := TX5) (N := 6) (v := .ref (ad 7)) hx hb hts (fun _ h => List.mem_cons_of_mem _ (wwXc_wsX50 _ h)) hown hw 9 rfl rfl 0 (by decide) (hq _ wX_357) rfl dX5_codeLength_37 ?_
      refine lv_iload_n hx hb dX5_codeLength_40 rfl (lv_at hl 1 rfl) ?_
      refine lv_iconst (v := 2) hx hb dX5_codeLength_41 (by decide) ?_
      refine lv_iadd hx hb dX5_codeLength_42 (jx_nm fun z90 hz90 => ?_)
      refine lv_iload hx hb dX5_codeLength_43 (lv_at hl 2 rfl) ?_
      refine lv_bipush (v := 8) hx hb dX5_codeLength_45 (by decide) ?_
      refine lv_imul hx hb dX5_codeLength_47 (jx_nm fun z91 hz91 => ?_)
      refine lv_iadd hx hb dX5_codeLength_48 (jx_nm fun z92 hz92 => ?_)
      refine lv_iconst (v := 3) hx hb dX5_codeLength_49 (by decide) ?_
      refine lv_iload hx hb dX5_codeLength_50 (lv_at hl 3 rfl) ?_
      refine jx_Vi (As := [.int z92, .int 3, .int z14]) (rest := [.int 2]) ⟨hx, hb, hml, hown, hts⟩ hZ hw hA (jx_X2_tree l hlt D t3 cI cJ ad g22 l23 a24 b25 _ z92 3 z14 (ob97 (((3 : Int32)).toInt) (by decide)) hr31) (cwV 3 hts (jx_gV wwX_good wX_361 wX_362 wX_363 wX_270 wX_364) rfl rfl rfl (by decide +kernel) ⟨Nat.le_of_ble_eq_true rfl, Nat.le_of_ble_eq_true rfl⟩) 7 (ci := 5) (T := TX2) (N := 9) rfl rfl rfl hl.1 rfl (Nat.le_of_ble_eq_true rfl) dX5_codeLength_52 ⟨Nat.le_of_ble_eq_true rfl, Nat.le_of_ble_eq_true rfl⟩ (fun u93 u94 u95 u96 H locs ce q hp hw h1 h2 h3 => by obtain ⟨ht0, ht1, ht2, ht3⟩ := hp; have e_g22_18 : g22 18 = (g 18) := ((h27 18 rfl)).trans e_g6_18; exact kt _ _ _ _ _ _ _ _ _ _ _ ⟨(hk_frT (hk_frT (hk_frT hk_fr0 (by decide) h11) (by decide) h27) (by decide) ht0), (hk_frT (hk_frT (hk_frT hk_fr0 (by decide) h12) (by decide) h28) (by decide) ht1), (hk_frT (hk_frT (hk_frT hk_fr0 (by decide) h13) (by decide) h29) (by decide) ht2), (ob77 ((g 18).toInt) ((g6 18).toInt) (congrArg Int32.toInt e_g6_18) (hE_rng (g 18)) (hE_rng (g6 18)))⟩ hw h1 h2 h3) (fun r97 g98 l99 a100 b101 H locs hp102 hw => ?_)
      obtain ⟨h103, h104, h105, h106⟩ := hp102
      refine lv_iadd hx hb dX5_codeLength_55 (jx_nm fun z107 hz107 => ?_)
      exact kr z107 g98 l99 a100 b101 _ _ _ _ ⟨(hk_frT (hk_frT (hk_frT hk_fr0 (by decide) h11) (by decide) h27) (by decide) h103), (hk_frT (hk_frT (hk_frT hk_fr0 (by decide) h12) (by decide) h28) (by decide) h104), (hk_frT (hk_frT (hk_frT hk_fr0 (by decide) h13) (by decide) h29) (by decide) h105), (ob101 ((z107).toInt) (((2 : Int32)).toInt) ((r97).toInt) ((z14).toInt) ((y2).toInt) ((z90).toInt) ((y1).toInt) ((z92).toInt) ((z91).toInt) ((r5).toInt) (hE_add hz107) (hE_sub hz14) (hE_add hz90) h106 (hE_add hz92) (hE_mul 8 hz91 (by decide)) (hE_rng (z107)) (by decide) (hE_rng (r97)) (hE_rng (z14)) (hE_rng (y2)) (hE_rng (z90)) (hE_rng (y1)) (hE_rng (z92)) (hE_rng (z91)) (hE_rng (r5)))⟩ hw dX5_codeLength_56
  refine lv_icmp_ge (tgt := 28) hx hb dX5_codeLength_21 (by decide) (fun cc108 => ?_) (fun cc108 => ?_)
  · refine lv_iconst (v := 1) hx hb dX5_codeLength_28 (by decide) ?_
    exact B15 1 ls _ _ (ob37 (((1 : Int32)).toInt) (by decide)) hw (lv_sub hl [2, 3, 1, 0] rfl)
  · refine lv_iconst (v := 0) hx hb dX5_codeLength_24 (by decide) ?_
    refine lv_goto (tgt := 29) hx hb dX5_codeLength_25 (by decide) ?_
    exact B15 0 ls _ _ (ob36 (((0 : Int32)).toInt) (by decide)) hw (lv_sub hl [2, 3, 1, 0] rfl)

set_option maxHeartbeats 4000000 in
set_option maxRecDepth 100000 in
/-- J9_max_7cf53 -/
theorem jx_J9_max_7cf53 (l : Launch) (hlt : l.stackTraces = false) (D : va_G) (t3 : Nat × Nat × Nat) (cI cJ : ClassId) (ad : Nat → Nat) (g : Nat → Int32) (lg : Nat → Int64) (ar : Nat → Nat → Int32) (bk : Nat → Int64) (sz : Nat) (y0 : Int32) (y1 : Int32) : JMi l yJ9_max_7cf53 (Cond.code yJ9_max_7cf53 cJ9_max_7cf53 2 (some .int) :: wwX) { frames := 0, cells := 1, slots := 6, locals := 0 } t3 D xw cI cJ ad [.int y0, .int y1] (xw cI cJ ad g lg ar bk) sz 1 6 (fun (r : Int32) g' lg' ar' bk' => hk_fr [] g g' ∧ hk_fr [] lg lg' ∧ hk_fr [] ar ar' ∧ ((y0).toInt ≤ (r).toInt ∧ (y1).toInt ≤ (r).toInt ∧ ((r).toInt = (y0).toInt ∨ (r).toInt = (y1).toInt))) (fun g' lg' ar' bk' => False) := by
  refine jx_meti (cc := cJ9_max_7cf53) (maxL := 2) (ret := (some .int)) rfl (by decide) rfl (Nat.le_of_ble_eq_true rfl) ?_
  intro p e s m args below meth c ls Q A hx hb hml hown hts hA hZ hw hl hQ kr kt
  have hq : ∀ w ∈ wwX, w.before args s = true := fun w h => hts w (List.mem_cons_of_mem _ h)
  have hl : lv_has ls 2 [(0, .int y0), (1, .int y1)] := hl
  refine lv_iload_n hx hb dJ9_max_7cf53_0 rfl (lv_at hl 0 rfl) ?_
  refine lv_iload_n hx hb dJ9_max_7cf53_1 rfl (lv_at hl 1 rfl) ?_
  refine lv_icmp_lt (tgt := 9) hx hb dJ9_max_7cf53_2 (by decide) (fun cc1 => ?_) (fun cc1 => ?_)
  · refine lv_iload_n hx hb dJ9_max_7cf53_9 rfl (lv_at hl 1 rfl) ?_
    exact kr y1 g lg ar bk _ _ _ _ ⟨hk_fr0, hk_fr0, hk_fr0, (ob102 ((y0).toInt) ((y1).toInt) (hE_lt cc1) (hE_rng (y0)) (hE_rng (y1)))⟩ hw dJ9_max_7cf53_10
  · refine lv_iload_n hx hb dJ9_max_7cf53_5 rfl (lv_at hl 0 rfl) ?_
    refine lv_goto (tgt := 10) hx hb dJ9_max_7cf53_6 (by decide) ?_
    exact kr y0 g lg ar bk _ _ _ _ ⟨hk_fr0, hk_fr0, hk_fr0, (ob103 ((y0).toInt) ((y1).toInt) (hE_nlt cc1) (hE_rng (y0)) (hE_rng (y1)))⟩ hw dJ9_max_7cf53_10

set_option maxHeartbeats 4000000 in
set_option maxRecDepth 100000 in
/-- J6_numberOfLeadingZeros_0f7a4 -/
theorem jx_J6_numberOfLeadingZeros_0f7a4 (l : Launch) (hlt : l.stackTraces = false) (D : va_G) (t3 : Nat × Nat × Nat) (cI cJ : ClassId) (ad : Nat → Nat) (g : Nat → Int32) (lg : Nat → Int64) (ar : Nat → Nat → Int32) (bk : Nat → Int64) (sz : Nat) (y0 : Int32) : JMi l yJ6_numberOfLeadingZeros_0f7a4 (Cond.code yJ6_numberOfLeadingZeros_0f7a4 cJ6_numberOfLeadingZeros_0f7a4 2 (some .int) :: wwX) { frames := 0, cells := 1, slots := 6, locals := 0 } t3 D xw cI cJ ad [.int y0] (xw cI cJ ad g lg ar bk) sz 1 6 (fun (r : Int32) g' lg' ar' bk' => hk_fr [] g g' ∧ hk_fr [] lg lg' ∧ hk_fr [] ar ar') (fun g' lg' ar' bk' => False) := by
  refine jx_meti (cc := cJ6_numberOfLeadingZeros_0f7a4) (maxL := 2) (ret := (some .int)) rfl (by decide) rfl (Nat.le_of_ble_eq_true rfl) ?_
  intro p e s m args below meth c ls Q A hx hb hml hown hts hA hZ hw hl hQ kr kt
  have hq : ∀ w ∈ wwX, w.before args s = true := fun w h => hts w (List.mem_cons_of_mem _ h)
  have hl : lv_has ls 2 [(0, .int y0)] := hl
  refine lv_iload_n hx hb dJ6_numberOfLeadingZeros_0f7a4_0 rfl (lv_at hl 0 rfl) ?_
  refine lv_if_gt (tgt := 15) hx hb dJ6_numberOfLeadingZeros_0f7a4_1 (by decide) (fun cc1 => ?_) (fun cc1 => ?_)
  · refine lv_bipush (v := 31) hx hb dJ6_numberOfLeadingZeros_0f7a4_15 (by decide) ?_
    refine lv_istore_n (lv' := [(1, .int 31), (0, .int y0)]) hx hb dJ6_numberOfLeadingZeros_0f7a4_17 rfl hl (by decide) rfl (fun ls hl => ?_)
    refine lv_iload_n hx hb dJ6_numberOfLeadingZeros_0f7a4_18 rfl (lv_at hl 1 rfl) ?_
    refine lv_ldcw (v := 65536) hx hb hown (hq _ wX_4) dJ6_numberOfLeadingZeros_0f7a4_19 ?_
    have B2 : ∀  (x3 : Int32) (x4 : Int32) (ls : Array Slot) (H : Heap) (locs : List Loc), hk_W D (jT cI cJ) A s H locs (xw cI cJ ad g lg ar bk) → lv_has ls 2 [(0, .int x3), (1, .int x4)] → W p l e { frames := 0, cells := 1, slots := 6, locals := 0 } s m args below meth c H locs 0 0 Q (F0 m 33 ls []) := by
      intro x3 x4 ls H locs hw hl
      refine lv_iload_n hx hb dJ6_numberOfLeadingZeros_0f7a4_33 rfl (lv_at hl 0 rfl) ?_
      refine lv_sipush (v := 256) hx hb dJ6_numberOfLeadingZeros_0f7a4_34 (by decide) ?_
      have B5 : ∀  (x6 : Int32) (x7 : Int32) (ls : Array Slot) (H : Heap) (locs : List Loc), hk_W D (jT cI cJ) A s H locs (xw cI cJ ad g lg ar bk) → lv_has ls 2 [(0, .int x6), (1, .int x7)] → W p l e { frames := 0, cells := 1, slots := 6, locals := 0 } s m args below meth c H locs 0 0 Q (F0 m 48 ls []) := by
        intro x6 x7 ls H locs hw hl
        refine lv_iload_n hx hb dJ6_numberOfLeadingZeros_0f7a4_48 rfl (lv_at hl 0 rfl) ?_
        refine lv_bipush (v := 16) hx hb dJ6_numberOfLeadingZeros_0f7a4_49 (by decide) ?_
        have B8 : ∀  (x9 : Int32) (x10 : Int32) (ls : Array Slot) (H : Heap) (locs : List Loc), hk_W D (jT cI cJ) A s H locs (xw cI cJ ad g lg ar bk) → lv_has ls 2 [(0, .int x9), (1, .int x10)] → W p l e { frames := 0, cells := 1, slots := 6, locals := 0 } s m args below meth c H locs 0 0 Q (F0 m 61 ls []) := by
          intro x9 x10 ls H locs hw hl
          refine lv_iload_n hx hb dJ6_numberOfLeadingZeros_0f7a4_61 rfl (lv_at hl 0 rfl) ?_
          refine lv_iconst (v := 4) hx hb dJ6_numberOfLeadingZeros_0f7a4_62 (by decide) ?_
          have B11 : ∀  (x12 : Int32) (x13 : Int32) (ls : Array Slot) (H : Heap) (locs : List Loc), hk_W D (jT cI cJ) A s H locs (xw cI cJ ad g lg ar bk) → lv_has ls 2 [(0, .int x12), (1, .int x13)] → W p l e { frames := 0, cells := 1, slots := 6, locals := 0 } s m args below meth c H locs 0 0 Q (F0 m 73 ls []) := by
            intro x12 x13 ls H locs hw hl
            refine lv_iload_n hx hb dJ6_numberOfLeadingZeros_0f7a4_73 rfl (lv_at hl 1 rfl) ?_
            refine lv_iload_n hx hb dJ6_numberOfLeadingZeros_0f7a4_74 rfl (lv_at hl 0 rfl) ?_
            refine lv_iconst (v := 1) hx hb dJ6_numberOfLeadingZeros_0f7a4_75 (by decide) ?_
            refine lv_iushr hx hb dJ6_numberOfLeadingZeros_0f7a4_76 rfl (jx_nm fun z14 hz14 => ?_)
            refine lv_isub hx hb dJ6_numberOfLeadingZeros_0f7a4_77 (jx_nm fun z15 hz15 => ?_)
            exact kr z15 g lg ar bk _ _ _ _ ⟨hk_fr0, hk_fr0, hk_fr0⟩ hw dJ6_numberOfLeadingZeros_0f7a4_78
          refine lv_icmp_lt (tgt := 73) hx hb dJ6_numberOfLeadingZeros_0f7a4_63 (by decide) (fun cc16 => ?_) (fun cc16 => ?_)
          · exact B11 x9 x10 ls _ _ hw (lv_sub hl [0, 1] rfl)
          · obtain ⟨z17, hz17⟩ : ∃ z : Int32, x10 + (-2) = z := ⟨_, rfl⟩
            refine lv_iinc (v := z17) (lv' := [(1, .int z17), (0, .int x9)]) hx hb dJ6_numberOfLeadingZeros_0f7a4_66 hl (k := 1) rfl hz17 (by decide) rfl (fun ls hl => ?_)
            refine lv_iload_n hx hb dJ6_numberOfLeadingZeros_0f7a4_69 rfl (lv_at hl 1 rfl) ?_
            refine lv_iconst (v := 2) hx hb dJ6_numberOfLeadingZeros_0f7a4_70 (by decide) ?_
            refine lv_iushr hx hb dJ6_numberOfLeadingZeros_0f7a4_71 rfl (jx_nm fun z18 hz18 => ?_)
            refine lv_istore_n (lv' := [(0, .int z18), (1, .int z17)]) hx hb dJ6_numberOfLeadingZeros_0f7a4_72 rfl hl (by decide) rfl (fun ls hl => ?_)
            exact B11 z18 z17 ls _ _ hw (lv_sub hl [0, 1] rfl)
        refine lv_icmp_lt (tgt := 61) hx hb dJ6_numberOfLeadingZeros_0f7a4_51 (by decide) (fun cc19 => ?_) (fun cc19 => ?_)
        · exact B8 x6 x7 ls _ _ hw (lv_sub hl [0, 1] rfl)
        · obtain ⟨z20, hz20⟩ : ∃ z : Int32, x7 + (-4) = z := ⟨_, rfl⟩
          refine lv_iinc (v := z20) (lv' := [(1, .int z20), (0, .int x6)]) hx hb dJ6_numberOfLeadingZeros_0f7a4_54 hl (k := 1) rfl hz20 (by decide) rfl (fun ls hl => ?_)
          refine lv_iload_n hx hb dJ6_numberOfLeadingZeros_0f7a4_57 rfl (lv_at hl 1 rfl) ?_
          refine lv_iconst (v := 4) hx hb dJ6_numberOfLeadingZeros_0f7a4_58 (by decide) ?_
          refine lv_iushr hx hb dJ6_numberOfLeadingZeros_0f7a4_59 rfl (jx_nm fun z21 hz21 => ?_)
          refine lv_istore_n (lv' := [(0, .int z21), (1, .int z20)]) hx hb dJ6_numberOfLeadingZeros_0f7a4_60 rfl hl (by decide) rfl (fun ls hl => ?_)
          exact B8 z21 z20 ls _ _ hw (lv_sub hl [0, 1] rfl)
      refine lv_icmp_lt (tgt := 48) hx hb dJ6_numberOfLeadingZeros_0f7a4_37 (by decide) (fun cc22 => ?_) (fun cc22 => ?_)
      · exact B5 x3 x4 ls _ _ hw (lv_sub hl [0, 1] rfl)
      · obtain ⟨z23, hz23⟩ : ∃ z : Int32, x4 + (-8) = z := ⟨_, rfl⟩
        refine lv_iinc (v := z23) (lv' := [(1, .int z23), (0, .int x3)]) hx hb dJ6_numberOfLeadingZeros_0f7a4_40 hl (k := 1) rfl hz23 (by decide) rfl (fun ls hl => ?_)
        refine lv_iload_n hx hb dJ6_numberOfLeadingZeros_0f7a4_43 rfl (lv_at hl 1 rfl) ?_
        refine lv_bipush (v := 8) hx hb dJ6_numberOfLeadingZeros_0f7a4_44 (by decide) ?_
        refine lv_iushr hx hb dJ6_numberOfLeadingZeros_0f7a4_46 rfl (jx_nm fun z24 hz24 => ?_)
        refine lv_istore_n (lv' := [(0, .int z24), (1, .int z23)]) hx hb dJ6_numberOfLeadingZeros_0f7a4_47 rfl hl (by decide) rfl (fun ls hl => ?_)
        exact B5 z24 z23 ls _ _ hw (lv_sub hl [0, 1] rfl)
    refine lv_icmp_lt (tgt := 33) hx hb dJ6_numberOfLeadingZeros_0f7a4_22 (by decide) (fun cc25 => ?_) (fun cc25 => ?_)
    · exact B2 y0 31 ls _ _ hw (lv_sub hl [1, 0] rfl)
    · refine lv_iinc (v := 15) (lv' := [(1, .int 15), (0, .int y0)]) hx hb dJ6_numberOfLeadingZeros_0f7a4_25 hl (k := 0) rfl (by decide) (by decide) rfl (fun ls hl => ?_)
      refine lv_iload_n hx hb dJ6_numberOfLeadingZeros_0f7a4_28 rfl (lv_at hl 1 rfl) ?_
      refine lv_bipush (v := 16) hx hb dJ6_numberOfLeadingZeros_0f7a4_29 (by decide) ?_
      refine lv_iushr hx hb dJ6_numberOfLeadingZeros_0f7a4_31 rfl (jx_nm fun z26 hz26 => ?_)
      refine lv_istore_n (lv' := [(0, .int z26), (1, .int 15)]) hx hb dJ6_numberOfLeadingZeros_0f7a4_32 rfl hl (by decide) rfl (fun ls hl => ?_)
      exact B2 z26 15 ls _ _ hw (lv_sub hl [0, 1] rfl)
  · refine lv_iload_n hx hb dJ6_numberOfLeadingZeros_0f7a4_4 rfl (lv_at hl 0 rfl) ?_
    refine lv_if_ne (tgt := 13) hx hb dJ6_numberOfLeadingZeros_0f7a4_5 (by decide) (fun cc27 => ?_) (fun cc27 => ?_)
    · refine lv_iconst (v := 0) hx hb dJ6_numberOfLeadingZeros_0f7a4_13 (by decide) ?_
      exact kr 0 g lg ar bk _ _ _ _ ⟨hk_fr0, hk_fr0, hk_fr0⟩ hw dJ6_numberOfLeadingZeros_0f7a4_14
    · refine lv_bipush (v := 32) hx hb dJ6_numberOfLeadingZeros_0f7a4_8 (by decide) ?_
      refine lv_goto (tgt := 14) hx hb dJ6_numberOfLeadingZeros_0f7a4_10 (by decide) ?_
      exact kr 32 g lg ar bk _ _ _ _ ⟨hk_fr0, hk_fr0, hk_fr0⟩ hw dJ6_numberOfLeadingZeros_0f7a4_14

set_option maxHeartbeats 4000000 in
set_option maxRecDepth 100000 in
/-- J13_numberOfLeadingZeros_95d88 -/
theorem jx_J13_numberOfLeadingZeros_95d88 (l : Launch) (hlt : l.stackTraces = false) (D : va_G) (t3 : Nat × Nat × Nat) (cI cJ : ClassId) (ad : Nat → Nat) (g : Nat → Int32) (lg : Nat → Int64) (ar : Nat → Nat → Int32) (bk : Nat → Int64) (sz : Nat) (y0 : Int64) : JMi l yJ13_numberOfLeadingZeros_95d88 (Cond.code yJ13_numberOfLeadingZeros_95d88 cJ13_numberOfLeadingZeros_95d88 3 (some .int) :: wwX) { frames := 1, cells := 1, slots := 6, locals := 21 } t3 D xw cI cJ ad [.long y0] (xw cI cJ ad g lg ar bk) sz 1 6 (fun (r : Int32) g' lg' ar' bk' => hk_fr [] g g' ∧ hk_fr [] lg lg' ∧ hk_fr [] ar ar') (fun g' lg' ar' bk' => False) := by
  refine jx_meti (cc := cJ13_numberOfLeadingZeros_95d88) (maxL := 3) (ret := (some .int)) rfl (by decide) rfl (Nat.le_of_ble_eq_true rfl) ?_
  intro p e s m args below meth c ls Q A hx hb hml hown hts hA hZ hw hl hQ kr kt
  have hq : ∀ w ∈ wwX, w.before args s = true := fun w h => hts w (List.mem_cons_of_mem _ h)
  have hl : lv_has ls 3 [(0, .long y0)] := hl
  refine lv_lload_n hx hb dJ13_numberOfLeadingZeros_95d88_0 rfl (lv_at hl 0 rfl) ?_
  refine lv_bipush (v := 32) hx hb dJ13_numberOfLeadingZeros_95d88_1 (by decide) ?_
  refine lv_lushr hx hb dJ13_numberOfLeadingZeros_95d88_3 rfl (jx_nl fun z1 hz1 => ?_)
  refine lv_l2i hx hb dJ13_numberOfLeadingZeros_95d88_4 rfl (jx_nm fun z2 hz2 => ?_)
  refine lv_istore_n (lv' := [(2, .int z2), (0, .long y0)]) hx hb dJ13_numberOfLeadingZeros_95d88_5 rfl hl (by decide) rfl (fun ls hl => ?_)
  refine lv_iload_n hx hb dJ13_numberOfLeadingZeros_95d88_6 rfl (lv_at hl 0 rfl) ?_
  refine lv_if_ne (tgt := 21) hx hb dJ13_numberOfLeadingZeros_95d88_7 (by decide) (fun cc3 => ?_) (fun cc3 => ?_)
  · refine lv_iload_n hx hb dJ13_numberOfLeadingZeros_95d88_21 rfl (lv_at hl 0 rfl) ?_
    refine jx_Si (As := [.int z2]) (rest := []) ⟨hx, hb, hml, hown, hts⟩ hZ hw hA (jx_J6_numberOfLeadingZeros_0f7a4 l hlt D t3 cI cJ ad g lg ar bk _ z2) (va_cwS 1 hts (jx_gS wwX_good wX_0 wX_1 wX_2 wX_3) rfl rfl rfl (by decide +kernel) ⟨Nat.le_of_ble_eq_true rfl, Nat.le_of_ble_eq_true rfl⟩) rfl hl.1 rfl (Nat.le_of_ble_eq_true rfl) dJ13_numberOfLeadingZeros_95d88_22 ⟨Nat.le_of_ble_eq_true rfl, Nat.le_of_ble_eq_true rfl⟩ (fun _ _ _ _ _ _ _ _ hp _ _ _ _ => hp.elim) (fun r8 g9 l10 a11 b12 H locs hp13 hw => ?_)
    obtain ⟨h14, h15, h16⟩ := hp13
    exact kr r8 g9 l10 a11 b12 _ _ _ _ ⟨h14, h15, h16⟩ hw dJ13_numberOfLeadingZeros_95d88_25
  · refine lv_bipush (v := 32) hx hb dJ13_numberOfLeadingZeros_95d88_10 (by decide) ?_
    refine lv_lload_n hx hb dJ13_numberOfLeadingZeros_95d88_12 rfl (lv_at hl 1 rfl) ?_
    refine lv_l2i hx hb dJ13_numberOfLeadingZeros_95d88_13 rfl (jx_nm fun z17 hz17 => ?_)
    refine jx_Si (As := [.int z17]) (rest := [.int 32]) ⟨hx, hb, hml, hown, hts⟩ hZ hw hA (jx_J6_numberOfLeadingZeros_0f7a4 l hlt D t3 cI cJ ad g lg ar bk _ z17) (va_cwS 1 hts (jx_gS wwX_good wX_0 wX_1 wX_2 wX_3) rfl rfl rfl (by decide +kernel) ⟨Nat.le_of_ble_eq_true rfl, Nat.le_of_ble_eq_true rfl⟩) rfl hl.1 rfl (Nat.le_of_ble_eq_true rfl) dJ13_numberOfLeadingZeros_95d88_14 ⟨Nat.le_of_ble_eq_true rfl, Nat.le_of_ble_eq_true rfl⟩ (fun _ _ _ _ _ _ _ _ hp _ _ _ _ => hp.elim) (fun r22 g23 l24 a25 b26 H locs hp27 hw => ?_)
    obtain ⟨h28, h29, h30⟩ := hp27
    refine lv_iadd hx hb dJ13_numberOfLeadingZeros_95d88_17 (jx_nm fun z31 hz31 => ?_)
    refine lv_goto (tgt := 25) hx hb dJ13_numberOfLeadingZeros_95d88_18 (by decide) ?_
    exact kr z31 g23 l24 a25 b26 _ _ _ _ ⟨h28, h29, h30⟩ hw dJ13_numberOfLeadingZeros_95d88_25

set_option maxHeartbeats 4000000 in
set_option maxRecDepth 100000 in
/-- X5_slotOf -/
theorem jx_X5_slotOf (l : Launch) (hlt : l.stackTraces = false) (D : va_G) (t3 : Nat × Nat × Nat) (cI cJ : ClassId) (ad : Nat → Nat) (g : Nat → Int32) (lg : Nat → Int64) (ar : Nat → Nat → Int32) (bk : Nat → Int64) (sz : Nat) (y0 : Int64) : JMi l yX5_slotOf (Cond.code yX5_slotOf cX5_slotOf 3 (some .int) :: wwX) { frames := 2, cells := 1, slots := 6, locals := 43 } t3 D xw cI cJ ad [.long y0] (xw cI cJ ad g lg ar bk) sz 1 6 (fun (r : Int32) g' lg' ar' bk' => hk_fr [] g g' ∧ hk_fr [] lg lg' ∧ hk_fr [] ar ar') (fun g' lg' ar' bk' => False) := by
  refine jx_meti (cc := cX5_slotOf) (maxL := 3) (ret := (some .int)) rfl (by decide) rfl (Nat.le_of_ble_eq_true rfl) ?_
  intro p e s m args below meth c ls Q A hx hb hml hown hts hA hZ hw hl hQ kr kt
  have hq : ∀ w ∈ wwX, w.before args s = true := fun w h => hts w (List.mem_cons_of_mem _ h)
  have hl : lv_has ls 3 [(0, .long y0)] := hl
  refine lv_lload_n hx hb dX5_slotOf_0 rfl (lv_at hl 0 rfl) ?_
  refine lv_ldc2 (v := 4) hx hb hown (hq _ wX_393) dX5_slotOf_1 ?_
  refine hk_lcmp_ge (tgt := 11) hx hb dX5_slotOf_4 dX5_slotOf_5 (by decide) (fun cc1 => ?_) (fun cc1 => ?_)
  · refine lv_bipush (v := 63) hx hb dX5_slotOf_11 (by decide) ?_
    refine lv_lload_n hx hb dX5_slotOf_13 rfl (lv_at hl 0 rfl) ?_
    refine jx_Si (As := [.long y0]) (rest := [.int 63]) ⟨hx, hb, hml, hown, hts⟩ hZ hw hA (jx_J13_numberOfLeadingZeros_95d88 l hlt D t3 cI cJ ad g lg ar bk _ y0) (va_cwS 1 hts (jx_gS wwX_good wX_394 wX_395 wX_396 wX_397) rfl rfl rfl (by decide +kernel) ⟨Nat.le_of_ble_eq_true rfl, Nat.le_of_ble_eq_true rfl⟩) rfl hl.1 rfl (Nat.le_of_ble_eq_true rfl) dX5_slotOf_14 ⟨Nat.le_of_ble_eq_true rfl, Nat.le_of_ble_eq_true rfl⟩ (fun _ _ _ _ _ _ _ _ hp _ _ _ _ => hp.elim) (fun r6 g7 l8 a9 b10 H locs hp11 hw => ?_)
    obtain ⟨h12, h13, h14⟩ := hp11
    refine lv_isub hx hb dX5_slotOf_17 (jx_nm fun z15 hz15 => ?_)
    refine lv_istore_n (lv' := [(2, .int z15), (0, .long y0)]) hx hb dX5_slotOf_18 rfl hl (by decide) rfl (fun ls hl => ?_)
    refine lv_iconst (v := 2) hx hb dX5_slotOf_19 (by decide) ?_
    refine lv_iload_n hx hb dX5_slotOf_20 rfl (lv_at hl 0 rfl) ?_
    refine lv_imul hx hb dX5_slotOf_21 (jx_nm fun z16 hz16 => ?_)
    refine lv_lload_n hx hb dX5_slotOf_22 rfl (lv_at hl 1 rfl) ?_
    refine lv_iload_n hx hb dX5_slotOf_23 rfl (lv_at hl 0 rfl) ?_
    refine lv_iconst (v := 1) hx hb dX5_slotOf_24 (by decide) ?_
    refine lv_isub hx hb dX5_slotOf_25 (jx_nm fun z17 hz17 => ?_)
    refine lv_lushr hx hb dX5_slotOf_26 rfl (jx_nl fun z18 hz18 => ?_)
    refine lv_lconst (v := 1) hx hb dX5_slotOf_27 (by decide) ?_
    refine lv_land hx hb dX5_slotOf_28 (jx_nl fun z19 hz19 => ?_)
    refine lv_l2i hx hb dX5_slotOf_29 rfl (jx_nm fun z20 hz20 => ?_)
    refine lv_iadd hx hb dX5_slotOf_30 (jx_nm fun z21 hz21 => ?_)
    exact kr z21 g7 l8 a9 b10 _ _ _ _ ⟨h12, h13, h14⟩ hw dX5_slotOf_31
  · refine lv_lload_n hx hb dX5_slotOf_8 rfl (lv_at hl 0 rfl) ?_
    refine lv_l2i hx hb dX5_slotOf_9 rfl (jx_nm fun z22 hz22 => ?_)
    exact kr z22 g lg ar bk _ _ _ _ ⟨hk_fr0, hk_fr0, hk_fr0⟩ hw dX5_slotOf_10

set_option maxHeartbeats 4000000 in
set_option maxRecDepth 100000 in
/-- X5_codeFar on (9,) -/
theorem jx_X5_codeFar (l : Launch) (hlt : l.stackTraces = false) (D : va_G) (t3 : Nat × Nat × Nat) (cI cJ : ClassId) (ad : Nat → Nat) (g : Nat → Int32) (lg : Nat → Int64) (ar : Nat → Nat → Int32) (bk : Nat → Int64) (sz : Nat) (y1 : Int64) (y3 : Int32) (hi_a0rg : hk_rg 0 255 (ar 0)) : JMl l yX5_codeFar (Cond.code yX5_codeFar cX5_codeFar 13 (some .long) :: wwX) { frames := 9, cells := 1, slots := 6, locals := 155 } t3 D xw cI cJ ad [.ref (ad 9), .long y1, .int y3] (xw cI cJ ad g lg ar bk) sz 1 6 (fun (r : Int64) g' lg' ar' bk' => hk_fr [14, 15, 17, 19, 20] g g' ∧ hk_fr [0, 1, 2] lg lg' ∧ hk_fr [1, 2] ar ar') (fun g' lg' ar' bk' => hk_fr [14, 15, 17, 19, 20] g g' ∧ hk_fr [0, 1, 2] lg lg' ∧ hk_fr [1, 2] ar ar' ∧ ((g 18).toInt ≠ 0)) := by
  refine jx_metl (cc := cX5_codeFar) (maxL := 13) (ret := (some .long)) rfl (by decide) rfl (Nat.le_of_ble_eq_true rfl) ?_
  intro p e s m args below meth c ls Q A hx hb hml hown hts hA hZ hw hl hQ kr kt
  have hq : ∀ w ∈ wwX, w.before args s = true := fun w h => hts w (List.mem_cons_of_mem _ h)
  have hl : lv_has ls 13 [(0, .ref (ad 9)), (1, .long y1), (3, .int y3)] := hl
  refine lv_iconst (v := 0) hx hb dX5_codeFar_0 (by decide) ?_
  refine lv_iload_n hx hb dX5_codeFar_1 rfl (lv_at hl 2 rfl) ?_
  refine lv_iconst (v := 2) hx hb dX5_codeFar_2 (by decide) ?_
  refine lv_isub hx hb dX5_codeFar_3 (jx_nm fun z1 hz1 => ?_)
  refine lv_iconst (v := 3) hx hb dX5_codeFar_4 (by decide) ?_
  refine jx_Si (As := [.int z1, .int 3]) (rest := [.int 0]) ⟨hx, hb, hml, hown, hts⟩ hZ hw hA (jx_J9_min_7cf53 l hlt D t3 cI cJ ad g lg ar bk _ z1 3) (va_cwS 2 hts (jx_gS wwX_good wX_355 wX_146 wX_143 wX_147) rfl rfl rfl (by decide +kernel) ⟨Nat.le_of_ble_eq_true rfl, Nat.le_of_ble_eq_true rfl⟩) rfl hl.1 rfl (Nat.le_of_ble_eq_true rfl) dX5_codeFar_5 ⟨Nat.le_of_ble_eq_true rfl, Nat.le_of_ble_eq_true rfl⟩ (fun _ _ _ _ _ _ _ _ hp _ _ _ _ => hp.elim) (fun r6 g7 l8 a9 b10 H locs hp11 hw => ?_)
  obtain ⟨h12, h13, h14, h15⟩ := hp11
  refine jx_Si (As := [.int 0, .int r6]) (rest := []) ⟨hx, hb, hml, hown, hts⟩ hZ hw hA (jx_J9_max_7cf53 l hlt D t3 cI cJ ad g7 l8 a9 b10 _ 0 r6) (va_cwS 2 hts (jx_gS wwX_good wX_356 wX_142 wX_143 wX_144) rfl rfl rfl (by decide +kernel) ⟨Nat.le_of_ble_eq_true rfl, Nat.le_of_ble_eq_true rfl⟩) rfl hl.1 rfl (Nat.le_of_ble_eq_true rfl) dX5_codeFar_8 ⟨Nat.le_of_ble_eq_true rfl, Nat.le_of_ble_eq_true rfl⟩ (fun _ _ _ _ _ _ _ _ hp _ _ _ _ => hp.elim) (fun r20 g21 l22 a23 b24 H locs hp25 hw => ?_)
  obtain ⟨h26, h27, h28, h29⟩ := hp25
  have hr30 : hk_rg 0 255 (a23 0) := (hk_pE (P := hk_rg 0 255) (hk_pE (P := hk_rg 0 255) hi_a0rg (h14 0 rfl)) (h28 0 rfl))
  refine lv_istore (lv' := [(4, .int r20), (0, .ref (ad 9)), (1, .long y1), (3, .int y3)]) hx hb dX5_codeFar_11 hl (by decide) rfl (fun ls hl => ?_)
  refine lv_aload_n hx hb dX5_codeFar_13 rfl (lv_at hl 1 rfl) ?_
  refine hk_get (ci := 8) (C := RX5) (T := TX5) (N := 6) (v := .ref (ad 7)) hx hb hts (fun _ h => List.mem_cons_of_mem _ (wwXc_wsX50 _ h)) hown hw 9 rfl rfl 0 (by decide) (hq _ wX_357) rfl dX5_codeFar_14 ?_
  refine lv_sipush (v := 432) hx hb dX5_codeFar_17 (by decide) ?_
  refine lv_iload hx hb dX5_codeFar_20 (lv_at hl 0 rfl) ?_
  refine lv_bipush (v := 64) hx hb dX5_codeFar_22 (by decide) ?_
  refine lv_imul hx hb dX5_codeFar_24 (jx_nm fun z31 hz31 => ?_)
  refine lv_iadd hx hb dX5_codeFar_25 (jx_nm fun z32 hz32 => ?_)
  refine lv_bipush (v := 6) hx hb dX5_codeFar_26 (by decide) ?_
  refine lv_lload_n hx hb dX5_codeFar_28 rfl (lv_at hl 2 rfl) ?_
  refine lv_lconst (v := 1) hx hb dX5_codeFar_29 (by decide) ?_
  refine lv_lsub hx hb dX5_codeFar_30 (jx_nl fun z33 hz33 => ?_)
  refine jx_Si (As := [.long z33]) (rest := [.int 6, .int z32, .ref (ad 7)]) ⟨hx, hb, hml, hown, hts⟩ hZ hw hA (jx_X5_slotOf l hlt D t3 cI cJ ad g21 l22 a23 b24 _ z33) (va_cwS 1 hts (jx_gS wwX_good wX_358 wX_359 wX_215 wX_360) rfl rfl rfl (by decide +kernel) ⟨Nat.le_of_ble_eq_true rfl, Nat.le_of_ble_eq_true rfl⟩) rfl hl.1 rfl (Nat.le_of_ble_eq_true rfl) dX5_codeFar_31 ⟨Nat.le_of_ble_eq_true rfl, Nat.le_of_ble_eq_true rfl⟩ (fun _ _ _ _ _ _ _ _ hp _ _ _ _ => hp.elim) (fun r38 g39 l40 a41 b42 H locs hp43 hw => ?_)
  obtain ⟨h44, h45, h46⟩ := hp43
  refine jx_Vi (As := [.int z32, .int 6, .int r38]) (rest := []) ⟨hx, hb, hml, hown, hts⟩ hZ hw hA (jx_X2_tree l hlt D t3 cI cJ ad g39 l40 a41 b42 _ z32 6 r38 (ob104 (((6 : Int32)).toInt) (by decide)) (hk_pE (P := hk_rg 0 255) hr30 (h46 0 rfl))) (cwV 3 hts (jx_gV wwX_good wX_361 wX_362 wX_363 wX_270 wX_364) rfl rfl rfl (by decide +kernel) ⟨Nat.le_of_ble_eq_true rfl, Nat.le_of_ble_eq_true rfl⟩) 7 (ci := 5) (T := TX2) (N := 9) rfl rfl rfl hl.1 rfl (Nat.le_of_ble_eq_true rfl) dX5_codeFar_34 ⟨Nat.le_of_ble_eq_true rfl, Nat.le_of_ble_eq_true rfl⟩ (fun u47 u48 u49 u50 H locs ce q hp hw h1 h2 h3 => by obtain ⟨ht0, ht1, ht2, ht3⟩ := hp; have e_g39_18 : g39 18 = (g 18) := ((h44 18 rfl)).trans (((h26 18 rfl)).trans (h12 18 rfl)); exact kt _ _ _ _ _ _ _ _ _ _ _ ⟨(hk_frT (hk_frT (hk_frT (hk_frT hk_fr0 (by decide) h12) (by decide) h26) (by decide) h44) (by decide) ht0), (hk_frT (hk_frT (hk_frT (hk_frT hk_fr0 (by decide) h13) (by decide) h27) (by decide) h45) (by decide) ht1), (hk_frT (hk_frT (hk_frT (hk_frT hk_fr0 (by decide) h14) (by decide) h28) (by decide) h46) (by decide) ht2), (ob53 ((g 18).toInt) (hE_rng (g 18)))⟩ hw h1 h2 h3) (fun r51 g52 l53 a54 b55 H locs hp56 hw => ?_)
  obtain ⟨h57, h58, h59, h60⟩ := hp56
  have hr61 : hk_rg 0 255 (a54 0) := (hk_pE (P := hk_rg 0 255) (hk_pE (P := hk_rg 0 255) hr30 (h46 0 rfl)) (h59 0 rfl))
  refine lv_istore (lv' := [(5, .int r51), (4, .int r20), (0, .ref (ad 9)), (1, .long y1), (3, .int y3)]) hx hb dX5_codeFar_37 hl (by decide) rfl (fun ls hl => ?_)
  refine lv_iload hx hb dX5_codeFar_39 (lv_at hl 0 rfl) ?_
  refine lv_iconst (v := 4) hx hb dX5_codeFar_41 (by decide) ?_
  refine lv_icmp_ge (tgt := 51) hx hb dX5_codeFar_42 (by decide) (fun cc62 => ?_) (fun cc62 => ?_)
  · refine lv_iload hx hb dX5_codeFar_51 (lv_at hl 0 rfl) ?_
    refine lv_iconst (v := 2) hx hb dX5_codeFar_53 (by decide) ?_
    refine lv_idiv hx hb dX5_codeFar_54 (by decide) (jx_nm fun z63 hz63 => ?_)
    refine lv_iconst (v := 1) hx hb dX5_codeFar_55 (by decide) ?_
    refine lv_isub hx hb dX5_codeFar_56 (jx_nm fun z64 hz64 => ?_)
    refine lv_istore (lv' := [(6, .int z64), (5, .int r51), (4, .int r20), (0, .ref (ad 9)), (1, .long y1), (3, .int y3)]) hx hb dX5_codeFar_57 hl (by decide) rfl (fun ls hl => ?_)
    refine lv_ldc2 (v := 2) hx hb hown (hq _ wX_365) dX5_codeFar_59 ?_
    refine lv_iload hx hb dX5_codeFar_62 (lv_at hl 1 rfl) ?_
    refine lv_iconst (v := 1) hx hb dX5_codeFar_64 (by decide) ?_
    refine lv_iand hx hb dX5_codeFar_65 (jx_nm fun z65 hz65 => ?_)
    refine lv_i2l hx hb dX5_codeFar_66 rfl (jx_nl fun z66 hz66 => ?_)
    refine lv_ladd hx hb dX5_codeFar_67 (jx_nl fun z67 hz67 => ?_)
    refine lv_iload hx hb dX5_codeFar_68 (lv_at hl 0 rfl) ?_
    refine lv_lshl hx hb dX5_codeFar_70 rfl (jx_nl fun z68 hz68 => ?_)
    refine lv_lstore (lv' := [(7, .long z68), (6, .int z64), (5, .int r51), (4, .int r20), (0, .ref (ad 9)), (1, .long y1), (3, .int y3)]) hx hb dX5_codeFar_71 hl (by decide) rfl (fun ls hl => ?_)
    refine lv_lload_n hx hb dX5_codeFar_73 rfl (lv_at hl 5 rfl) ?_
    refine lv_lconst (v := 1) hx hb dX5_codeFar_74 (by decide) ?_
    refine lv_lsub hx hb dX5_codeFar_75 (jx_nl fun z69 hz69 => ?_)
    refine lv_lload hx hb dX5_codeFar_76 (lv_at hl 0 rfl) ?_
    refine lv_lsub hx hb dX5_codeFar_78 (jx_nl fun z70 hz70 => ?_)
    refine lv_lstore (lv' := [(9, .long z70), (7, .long z68), (6, .int z64), (5, .int r51), (4, .int r20), (0, .ref (ad 9)), (1, .long y1), (3, .int y3)]) hx hb dX5_codeFar_79 hl (by decide) rfl (fun ls hl => ?_)
    refine lv_iload hx hb dX5_codeFar_81 (lv_at hl 3 rfl) ?_
    refine lv_bipush (v := 14) hx hb dX5_codeFar_83 (by decide) ?_
    refine lv_icmp_ge (tgt := 118) hx hb dX5_codeFar_85 (by decide) (fun cc71 => ?_) (fun cc71 => ?_)
    · refine lv_aload_n hx hb dX5_codeFar_118 rfl (lv_at hl 5 rfl) ?_
      refine hk_get (ci := 8) (C := RX5) (T := TX5) (N := 6) (v := .ref (ad 7)) hx hb hts (fun _ h => List.mem_cons_of_mem _ (wwXc_wsX50 _ h)) hown hw 9 rfl rfl 0 (by decide) (hq _ wX_357) rfl dX5_codeFar_119 ?_
      refine lv_iload hx hb dX5_codeFar_122 (lv_at hl 2 rfl) ?_
      refine lv_iconst (v := 4) hx hb dX5_codeFar_124 (by decide) ?_
      refine lv_isub hx hb dX5_codeFar_125 (jx_nm fun z72 hz72 => ?_)
      refine lv_lload hx hb dX5_codeFar_126 (lv_at hl 0 rfl) ?_
      refine lv_iconst (v := 4) hx hb dX5_codeFar_128 (by decide) ?_
      refine lv_lushr hx hb dX5_codeFar_129 rfl (jx_nl fun z73 hz73 => ?_)
      refine jx_Vl (As := [.int z72, .long z73]) (rest := []) ⟨hx, hb, hml, hown, hts⟩ hZ hw hA (jx_X2_plain l hlt D t3 cI cJ ad g52 l53 a54 b55 _ z72 z73 hr61) (cwV 2 hts (jx_gV wwX_good wX_370 wX_371 wX_372 wX_270 wX_373) rfl rfl rfl (by decide +kernel) ⟨Nat.le_of_ble_eq_true rfl, Nat.le_of_ble_eq_true rfl⟩) 7 (ci := 5) (T := TX2) (N := 9) rfl rfl rfl hl.1 rfl (Nat.le_of_ble_eq_true rfl) dX5_codeFar_130 ⟨Nat.le_of_ble_eq_true rfl, Nat.le_of_ble_eq_true rfl⟩ (fun u74 u75 u76 u77 H locs ce q hp hw h1 h2 h3 => by obtain ⟨ht0, ht1, ht2, ht3⟩ := hp; have e_g52_18 : g52 18 = (g 18) := ((h57 18 rfl)).trans e_g39_18; exact kt _ _ _ _ _ _ _ _ _ _ _ ⟨(hk_frT (hk_frT (hk_frT (hk_frT (hk_frT hk_fr0 (by decide) h12) (by decide) h26) (by decide) h44) (by decide) h57) (by decide) ht0), (hk_frT (hk_frT (hk_frT (hk_frT (hk_frT hk_fr0 (by decide) h13) (by decide) h27) (by decide) h45) (by decide) h58) (by decide) ht1), (hk_frT (hk_frT (hk_frT (hk_frT (hk_frT hk_fr0 (by decide) h14) (by decide) h28) (by decide) h46) (by decide) h59) (by decide) ht2), (ob77 ((g 18).toInt) ((g39 18).toInt) (congrArg Int32.toInt e_g39_18) (hE_rng (g 18)) (hE_rng (g39 18)))⟩ hw h1 h2 h3) (fun r78 g79 l80 a81 b82 H locs hp83 hw => ?_)
      obtain ⟨h84, h85, h86⟩ := hp83
      refine lv_iconst (v := 4) hx hb dX5_codeFar_133 (by decide) ?_
      refine lv_lshl hx hb dX5_codeFar_134 rfl (jx_nl fun z87 hz87 => ?_)
      refine lv_lstore (lv' := [(11, .long z87), (9, .long z70), (7, .long z68), (6, .int z64), (5, .int r51), (4, .int r20), (0, .ref (ad 9)), (1, .long y1), (3, .int y3)]) hx hb dX5_codeFar_135 hl (by decide) rfl (fun ls hl => ?_)
      refine lv_lload hx hb dX5_codeFar_137 (lv_at hl 2 rfl) ?_
      refine lv_lload hx hb dX5_codeFar_139 (lv_at hl 0 rfl) ?_
      refine lv_ladd hx hb dX5_codeFar_141 (jx_nl fun z88 hz88 => ?_)
      refine lv_aload_n hx hb dX5_codeFar_142 rfl (lv_at hl 6 rfl) ?_
      refine hk_get (ci := 8) (C := RX5) (T := TX5) (N := 6) (v := .ref (ad 7)) hx hb hts (fun _ h => List.mem_cons_of_mem _ (wwXc_wsX50 _ h)) hown hw 9 rfl rfl 0 (by decide) (hq _ wX_357) rfl dX5_codeFar_143 ?_
      refine lv_sipush (v := 1008) hx hb dX5_codeFar_146 (by decide) ?_
      refine lv_iconst (v := 4) hx hb dX5_codeFar_149 (by decide) ?_
      refine lv_lload hx hb dX5_codeFar_150 (lv_at hl 1 rfl) ?_
      refine lv_l2i hx hb dX5_codeFar_152 rfl (jx_nm fun z89 hz89 => ?_)
      refine lv_bipush (v := 15) hx hb dX5_codeFar_153 (by decide) ?_
      refine lv_iand hx hb dX5_codeFar_155 (jx_nm fun z90 hz90 => ?_)
      refine jx_Vi (As := [.int 1008, .int 4, .int z90]) (rest := [.long z88]) ⟨hx, hb, hml, hown, hts⟩ hZ hw hA (jx_X2_turned l hlt D t3 cI cJ ad g79 l80 a81 b82 _ 1008 4 z90 (hk_pE (P := hk_rg 0 255) hr61 (h86 0 rfl))) (cwV 3 hts (jx_gV wwX_good wX_366 wX_367 wX_368 wX_270 wX_369) rfl rfl rfl (by decide +kernel) ⟨Nat.le_of_ble_eq_true rfl, Nat.le_of_ble_eq_true rfl⟩) 7 (ci := 5) (T := TX2) (N := 9) rfl rfl rfl hl.1 rfl (Nat.le_of_ble_eq_true rfl) dX5_codeFar_156 ⟨Nat.le_of_ble_eq_true rfl, Nat.le_of_ble_eq_true rfl⟩ (fun u91 u92 u93 u94 H locs ce q hp hw h1 h2 h3 => by obtain ⟨ht0, ht1, ht2, ht3⟩ := hp; have e_g79_18 : g79 18 = (g 18) := ((h84 18 rfl)).trans e_g52_18; exact kt _ _ _ _ _ _ _ _ _ _ _ ⟨(hk_frT (hk_frT (hk_frT (hk_frT (hk_frT (hk_frT hk_fr0 (by decide) h12) (by decide) h26) (by decide) h44) (by decide) h57) (by decide) h84) (by decide) ht0), (hk_frT (hk_frT (hk_frT (hk_frT (hk_frT (hk_frT hk_fr0 (by decide) h13) (by decide) h27) (by decide) h45) (by decide) h58) (by decide) h85) (by decide) ht1), (hk_frT (hk_frT (hk_frT (hk_frT (hk_frT (hk_frT hk_fr0 (by decide) h14) (by decide) h28) (by decide) h46) (by decide) h59) (by decide) h86) (by decide) ht2), (ob78 ((g 18).toInt) ((g39 18).toInt) ((g52 18).toInt) (congrArg Int32.toInt e_g39_18) (congrArg Int32.toInt e_g52_18) (hE_rng (g 18)) (hE_rng (g39 18)) (hE_rng (g52 18)))⟩ hw h1 h2 h3) (fun r95 g96 l97 a98 b99 H locs hp100 hw => ?_)
      obtain ⟨h101, h102, h103⟩ := hp100
      have hr104 : hk_rg 0 255 (a98 0) := (hk_pE (P := hk_rg 0 255) (hk_pE (P := hk_rg 0 255) hr61 (h86 0 rfl)) (h103 0 rfl))
      refine lv_i2l hx hb dX5_codeFar_159 rfl (jx_nl fun z105 hz105 => ?_)
      refine lv_ladd hx hb dX5_codeFar_160 (jx_nl fun z106 hz106 => ?_)
      refine lv_lconst (v := 1) hx hb dX5_codeFar_161 (by decide) ?_
      refine lv_ladd hx hb dX5_codeFar_162 (jx_nl fun z107 hz107 => ?_)
      exact kr z107 g96 l97 a98 b99 _ _ _ _ ⟨(hk_frT (hk_frT (hk_frT (hk_frT (hk_frT (hk_frT hk_fr0 (by decide) h12) (by decide) h26) (by decide) h44) (by decide) h57) (by decide) h84) (by decide) h101), (hk_frT (hk_frT (hk_frT (hk_frT (hk_frT (hk_frT hk_fr0 (by decide) h13) (by decide) h27) (by decide) h45) (by decide) h58) (by decide) h85) (by decide) h102), (hk_frT (hk_frT (hk_frT (hk_frT (hk_frT (hk_frT hk_fr0 (by decide) h14) (by decide) h28) (by decide) h46) (by decide) h59) (by decide) h86) (by decide) h103)⟩ hw dX5_codeFar_163
    · refine lv_lload hx hb dX5_codeFar_88 (lv_at hl 1 rfl) ?_
      refine lv_aload_n hx hb dX5_codeFar_90 rfl (lv_at hl 5 rfl) ?_
      refine hk_get (ci := 8) (C := RX5) (T := TX5) (N := 6) (v := .ref (ad 7)) hx hb hts (fun _ h => List.mem_cons_of_mem _ (wwXc_wsX50 _ h)) hown hw 9 rfl rfl 0 (by decide) (hq _ wX_357) rfl dX5_codeFar_91 ?_
      refine lv_sipush (v := 688) hx hb dX5_codeFar_94 (by decide) ?_
      refine lv_iload hx hb dX5_codeFar_97 (lv_at hl 3 rfl) ?_
      refine lv_iconst (v := 4) hx hb dX5_codeFar_99 (by decide) ?_
      refine lv_isub hx hb dX5_codeFar_100 (jx_nm fun z108 hz108 => ?_)
      refine lv_bipush (v := 32) hx hb dX5_codeFar_101 (by decide) ?_
      refine lv_imul hx hb dX5_codeFar_103 (jx_nm fun z109 hz109 => ?_)
      refine lv_iadd hx hb dX5_codeFar_104 (jx_nm fun z110 hz110 => ?_)
      refine lv_iload hx hb dX5_codeFar_105 (lv_at hl 2 rfl) ?_
      refine lv_lload hx hb dX5_codeFar_107 (lv_at hl 0 rfl) ?_
      refine lv_l2i hx hb dX5_codeFar_109 rfl (jx_nm fun z111 hz111 => ?_)
      refine jx_Vi (As := [.int z110, .int z64, .int z111]) (rest := [.long z68]) ⟨hx, hb, hml, hown, hts⟩ hZ hw hA (jx_X2_turned l hlt D t3 cI cJ ad g52 l53 a54 b55 _ z110 z64 z111 hr61) (cwV 3 hts (jx_gV wwX_good wX_366 wX_367 wX_368 wX_270 wX_369) rfl rfl rfl (by decide +kernel) ⟨Nat.le_of_ble_eq_true rfl, Nat.le_of_ble_eq_true rfl⟩) 7 (ci := 5) (T := TX2) (N := 9) rfl rfl rfl hl.1 rfl (Nat.le_of_ble_eq_true rfl) dX5_codeFar_110 ⟨Nat.le_of_ble_eq_true rfl, Nat.le_of_ble_eq_true rfl⟩ (fun u112 u113 u114 u115 H locs ce q hp hw h1 h2 h3 => by obtain ⟨ht0, ht1, ht2, ht3⟩ := hp; have e_g52_18 : g52 18 = (g 18) := ((h57 18 rfl)).trans e_g39_18; exact kt _ _ _ _ _ _ _ _ _ _ _ ⟨(hk_frT (hk_frT (hk_frT (hk_frT (hk_frT hk_fr0 (by decide) h12) (by decide) h26) (by decide) h44) (by decide) h57) (by decide) ht0), (hk_frT (hk_frT (hk_frT (hk_frT (hk_frT hk_fr0 (by decide) h13) (by decide) h27) (by decide) h45) (by decide) h58) (by decide) ht1), (hk_frT (hk_frT (hk_frT (hk_frT (hk_frT hk_fr0 (by decide) h14) (by decide) h28) (by decide) h46) (by decide) h59) (by decide) ht2), (ob77 ((g 18).toInt) ((g39 18).toInt) (congrArg Int32.toInt e_g39_18) (hE_rng (g 18)) (hE_rng (g39 18)))⟩ hw h1 h2 h3) (fun r116 g117 l118 a119 b120 H locs hp121 hw => ?_)
      obtain ⟨h122, h123, h124⟩ := hp121
      refine lv_i2l hx hb dX5_codeFar_113 rfl (jx_nl fun z125 hz125 => ?_)
      refine lv_ladd hx hb dX5_codeFar_114 (jx_nl fun z126 hz126 => ?_)
      refine lv_lconst (v := 1) hx hb dX5_codeFar_115 (by decide) ?_
      refine lv_ladd hx hb dX5_codeFar_116 (jx_nl fun z127 hz127 => ?_)
      exact kr z127 g117 l118 a119 b120 _ _ _ _ ⟨(hk_frT (hk_frT (hk_frT (hk_frT (hk_frT hk_fr0 (by decide) h12) (by decide) h26) (by decide) h44) (by decide) h57) (by decide) h122), (hk_frT (hk_frT (hk_frT (hk_frT (hk_frT hk_fr0 (by decide) h13) (by decide) h27) (by decide) h45) (by decide) h58) (by decide) h123), (hk_frT (hk_frT (hk_frT (hk_frT (hk_frT hk_fr0 (by decide) h14) (by decide) h28) (by decide) h46) (by decide) h59) (by decide) h124)⟩ hw dX5_codeFar_117
  · refine lv_iload hx hb dX5_codeFar_45 (lv_at hl 0 rfl) ?_
    refine lv_iconst (v := 1) hx hb dX5_codeFar_47 (by decide) ?_
    refine lv_iadd hx hb dX5_codeFar_48 (jx_nm fun z128 hz128 => ?_)
    refine lv_i2l hx hb dX5_codeFar_49 rfl (jx_nl fun z129 hz129 => ?_)
    exact kr z129 g52 l53 a54 b55 _ _ _ _ ⟨(hk_frT (hk_frT (hk_frT (hk_frT hk_fr0 (by decide) h12) (by decide) h26) (by decide) h44) (by decide) h57), (hk_frT (hk_frT (hk_frT (hk_frT hk_fr0 (by decide) h13) (by decide) h27) (by decide) h45) (by decide) h58), (hk_frT (hk_frT (hk_frT (hk_frT hk_fr0 (by decide) h14) (by decide) h28) (by decide) h46) (by decide) h59)⟩ hw dX5_codeFar_50

set_option maxHeartbeats 4000000 in
set_option maxRecDepth 100000 in
/-- X5_bringToFront on (9,) -/
theorem jx_X5_bringToFront (l : Launch) (hlt : l.stackTraces = false) (D : va_G) (t3 : Nat × Nat × Nat) (cI cJ : ClassId) (ad : Nat → Nat) (g : Nat → Int32) (lg : Nat → Int64) (ar : Nat → Nat → Int32) (bk : Nat → Int64) (sz : Nat) (y1 : Int32) (y2 : Int64) : JMv l yX5_bringToFront (Cond.code yX5_bringToFront cX5_bringToFront 5 none :: wwX) { frames := 1, cells := 1, slots := 6, locals := 21 } t3 D xw cI cJ ad [.ref (ad 9), .int y1, .long y2] (xw cI cJ ad g lg ar bk) sz 1 6 (fun g' lg' ar' bk' => hk_fr [] g g' ∧ hk_fr [] lg lg' ∧ hk_fr [] ar ar') (fun g' lg' ar' bk' => False) := by
  refine jx_metv (cc := cX5_bringToFront) (maxL := 5) (ret := none) rfl (by decide) rfl (Nat.le_of_ble_eq_true rfl) ?_
  intro p e s m args below meth c ls Q A hx hb hml hown hts hA hZ hw hl hQ kr kt
  have hq : ∀ w ∈ wwX, w.before args s = true := fun w h => hts w (List.mem_cons_of_mem _ h)
  have hl : lv_has ls 5 [(0, .ref (ad 9)), (1, .int y1), (2, .long y2)] := hl
  refine lv_iload_n hx hb dX5_bringToFront_0 rfl (lv_at hl 1 rfl) ?_
  refine lv_iconst (v := 3) hx hb dX5_bringToFront_1 (by decide) ?_
  refine jx_Si (As := [.int y1, .int 3]) (rest := []) ⟨hx, hb, hml, hown, hts⟩ hZ hw hA (jx_J9_min_7cf53 l hlt D t3 cI cJ ad g lg ar bk _ y1 3) (va_cwS 2 hts (jx_gS wwX_good wX_355 wX_146 wX_143 wX_147) rfl rfl rfl (by decide +kernel) ⟨Nat.le_of_ble_eq_true rfl, Nat.le_of_ble_eq_true rfl⟩) rfl hl.1 rfl (Nat.le_of_ble_eq_true rfl) dX5_bringToFront_2 ⟨Nat.le_of_ble_eq_true rfl, Nat.le_of_ble_eq_true rfl⟩ (fun _ _ _ _ _ _ _ _ hp _ _ _ _ => hp.elim) (fun r5 g6 l7 a8 b9 H locs hp10 hw => ?_)
  obtain ⟨h11, h12, h13, h14⟩ := hp10
  refine lv_istore (lv' := [(4, .int r5), (0, .ref (ad 9)), (1, .int y1), (2, .long y2)]) hx hb dX5_bringToFront_5 hl (by decide) rfl (fun ls hl => ?_)
  have B15 : ∀ (k18 : Nat) (x16 : Int32) (b17 : Nat → Int64) (ls : Array Slot) (H : Heap) (locs : List Loc), (x16).toInt + 2147483649 ≤ (k18 : Int) → hk_W D (jT cI cJ) A s H locs (xw cI cJ ad g6 l7 a8 b17) → lv_has ls 5 [(0, .ref (ad 9)), (2, .long y2), (4, .int x16)] → W p l e { frames := 1, cells := 1, slots := 6, locals := 21 } s m args below meth c H locs 0 0 Q (F0 m 7 ls []) := by
    intro k18
    induction k18 with
    | zero =>
      intro x16 b17 ls H locs hrk_B15 hw hl
      exact False.elim (hk_no0 (0 * (x16).toInt) (ob58 ((x16).toInt) hrk_B15 (hE_rng (x16))) (by simp))
    | succ k18 ih_B15 =>
      intro x16 b17 ls H locs hrk_B15 hw hl
      have hrk_B15 := hk_rk hrk_B15
      refine lv_iload hx hb dX5_bringToFront_7 (lv_at hl 2 rfl) ?_
      refine lv_if_le (tgt := 34) hx hb dX5_bringToFront_9 (by decide) (fun cc19 => ?_) (fun cc19 => ?_)
      · refine lv_aload_n hx hb dX5_bringToFront_34 rfl (lv_at hl 0 rfl) ?_
        refine hk_get (ci := 8) (C := RX5) (T := TX5) (N := 6) (v := .ref (ad 10)) hx hb hts (fun _ h => List.mem_cons_of_mem _ (wwXc_wsX50 _ h)) hown hw 9 rfl rfl 1 (by decide) (hq _ wX_354) rfl dX5_bringToFront_35 ?_
        refine lv_iconst (v := 0) hx hb dX5_bringToFront_38 (by decide) ?_
        refine lv_lload_n hx hb dX5_bringToFront_39 rfl (lv_at hl 1 rfl) ?_
        refine jx_last xw (g := g6) (lg := l7) (ar := a8) (bk := b17) hx hb hw 10 1 rfl rfl (show ¬ (_ ∨ _) by decide) dX5_bringToFront_40 rfl (fun H locs b20 h_b20 hw => ?_)
        exact kr g6 l7 a8 b20 _ _ _ _ ⟨h11, h12, h13⟩ hw dX5_bringToFront_41
      · refine lv_aload_n hx hb dX5_bringToFront_12 rfl (lv_at hl 0 rfl) ?_
        refine hk_get (ci := 8) (C := RX5) (T := TX5) (N := 6) (v := .ref (ad 10)) hx hb hts (fun _ h => List.mem_cons_of_mem _ (wwXc_wsX50 _ h)) hown hw 9 rfl rfl 1 (by decide) (hq _ wX_354) rfl dX5_bringToFront_13 ?_
        refine lv_iload hx hb dX5_bringToFront_16 (lv_at hl 2 rfl) ?_
        refine lv_aload_n hx hb dX5_bringToFront_18 rfl (lv_at hl 0 rfl) ?_
        refine hk_get (ci := 8) (C := RX5) (T := TX5) (N := 6) (v := .ref (ad 10)) hx hb hts (fun _ h => List.mem_cons_of_mem _ (wwXc_wsX50 _ h)) hown hw 9 rfl rfl 1 (by decide) (hq _ wX_354) rfl dX5_bringToFront_19 ?_
        refine lv_iload hx hb dX5_bringToFront_22 (lv_at hl 2 rfl) ?_
        refine lv_iconst (v := 1) hx hb dX5_bringToFront_24 (by decide) ?_
        refine lv_isub hx hb dX5_bringToFront_25 (jx_nm fun z21 hz21 => ?_)
        refine jx_lald hx hb hw 10 1 rfl rfl (hE_in (n := 4) (ob105 ((z21).toInt) ((x16).toInt) (((1 : Int32)).toInt) (k18 : Int) (((0 : Int32)).toInt) (hE_sub hz21) hrk_B15 (hE_nle cc19) (hE_rng (z21)) (hE_rng (x16)) (by decide) (by decide))) dX5_bringToFront_26 (fun z22 hz22 => ?_)
        refine jx_last xw (g := g6) (lg := l7) (ar := a8) (bk := b17) hx hb hw 10 1 rfl rfl (hE_in (n := 4) (ob106 ((x16).toInt) (k18 : Int) (((0 : Int32)).toInt) ((z21).toInt) (((1 : Int32)).toInt) hrk_B15 (hE_nle cc19) (hE_sub hz21) (hE_rng (x16)) (by decide) (hE_rng (z21)) (by decide))) dX5_bringToFront_27 rfl (fun H locs b23 h_b23 hw => ?_)
        obtain ⟨z24, hz24⟩ : ∃ z : Int32, x16 + (-1) = z := ⟨_, rfl⟩
        refine lv_iinc (v := z24) (lv' := [(4, .int z24), (0, .ref (ad 9)), (2, .long y2)]) hx hb dX5_bringToFront_28 hl (k := 2) rfl hz24 (by decide) rfl (fun ls hl => ?_)
        refine lv_goto (tgt := 7) hx hb dX5_bringToFront_31 (by decide) ?_
        exact ih_B15 z24 b23 ls _ _ (ob107 ((z24).toInt) (k18 : Int) ((x16).toInt) ((((-1) : Int32)).toInt) (((0 : Int32)).toInt) ((z21).toInt) (((1 : Int32)).toInt) hrk_B15 (hE_add hz24) (hE_nle cc19) (hE_sub hz21) (hE_rng (z24)) (hE_rng (x16)) (by decide) (by decide) (hE_rng (z21)) (by decide)) hw (lv_sub hl [1, 2, 0] rfl)
  exact B15 ((r5).toInt + 2147483649).toNat r5 b9 ls _ _ (Int.self_le_toNat _) hw (lv_sub hl [1, 3, 0] rfl)

set_option maxHeartbeats 4000000 in
set_option maxRecDepth 100000 in
/-- X5_follow on (9,) -/
theorem jx_X5_follow (l : Launch) (hlt : l.stackTraces = false) (D : va_G) (t3 : Nat × Nat × Nat) (cI cJ : ClassId) (ad : Nat → Nat) (g : Nat → Int32) (lg : Nat → Int64) (ar : Nat → Nat → Int32) (bk : Nat → Int64) (sz : Nat) (y1 : Int32) (y2 : Int64) : JMv l yX5_follow (Cond.code yX5_follow cX5_follow 4 none :: wwX) { frames := 2, cells := 1, slots := 6, locals := 45 } t3 D xw cI cJ ad [.ref (ad 9), .int y1, .long y2] (xw cI cJ ad g lg ar bk) sz 1 6 (fun g' lg' ar' bk' => hk_fr [24] g g' ∧ hk_fr [] lg lg' ∧ hk_fr [] ar ar') (fun g' lg' ar' bk' => False) := by
  refine jx_metv (cc := cX5_follow) (maxL := 4) (ret := none) rfl (by decide) rfl (Nat.le_of_ble_eq_true rfl) ?_
  intro p e s m args below meth c ls Q A hx hb hml hown hts hA hZ hw hl hQ kr kt
  have hq : ∀ w ∈ wwX, w.before args s = true := fun w h => hts w (List.mem_cons_of_mem _ h)
  have hl : lv_has ls 4 [(0, .ref (ad 9)), (1, .int y1), (2, .long y2)] := hl
  refine lv_iload_n hx hb dX5_follow_0 rfl (lv_at hl 1 rfl) ?_
  refine lv_if_ne (tgt := 48) hx hb dX5_follow_1 (by decide) (fun cc1 => ?_) (fun cc1 => ?_)
  · refine lv_iload_n hx hb dX5_follow_48 rfl (lv_at hl 1 rfl) ?_
    refine lv_bipush (v := 6) hx hb dX5_follow_49 (by decide) ?_
    refine lv_icmp_ne (tgt := 77) hx hb dX5_follow_51 (by decide) (fun cc2 => ?_) (fun cc2 => ?_)
    · refine lv_iload_n hx hb dX5_follow_77 rfl (lv_at hl 1 rfl) ?_
      refine lv_iconst (v := 1) hx hb dX5_follow_78 (by decide) ?_
      have B3 : ∀  (ls : Array Slot) (H : Heap) (locs : List Loc), hk_W D (jT cI cJ) A s H locs (xw cI cJ ad g lg ar bk) → lv_has ls 4 [(0, .ref (ad 9)), (2, .long y2)] → W p l e { frames := 2, cells := 1, slots := 6, locals := 45 } s m args below meth c H locs 0 0 Q (F0 m 88 ls []) := by
        intro ls H locs hw hl
        refine lv_aload_n hx hb dX5_follow_88 rfl (lv_at hl 0 rfl) ?_
        refine lv_iconst (v := 3) hx hb dX5_follow_89 (by decide) ?_
        refine lv_lload_n hx hb dX5_follow_90 rfl (lv_at hl 1 rfl) ?_
        refine jx_Vv (As := [.int 3, .long y2]) (rest := []) ⟨hx, hb, hml, hown, hts⟩ hZ hw hA (jx_X5_bringToFront l hlt D t3 cI cJ ad g lg ar bk _ 3 y2) (cwV 2 hts (jx_gV wwX_good wX_382 wX_383 wX_384 wX_215 wX_385) rfl rfl rfl (by decide +kernel) ⟨Nat.le_of_ble_eq_true rfl, Nat.le_of_ble_eq_true rfl⟩) 9 (ci := 8) (T := TX5) (N := 6) rfl rfl rfl hl.1 rfl (Nat.le_of_ble_eq_true rfl) dX5_follow_91 ⟨Nat.le_of_ble_eq_true rfl, Nat.le_of_ble_eq_true rfl⟩ (fun _ _ _ _ _ _ _ _ hp _ _ _ _ => hp.elim) (fun g9 l10 a11 b12 H locs hp13 hw => ?_)
        obtain ⟨h14, h15, h16⟩ := hp13
        refine lv_aload_n hx hb dX5_follow_94 rfl (lv_at hl 0 rfl) ?_
        refine lv_aload_n hx hb dX5_follow_95 rfl (lv_at hl 0 rfl) ?_
        have e_g9_24 : g9 24 = (g 24) := (h14 24 rfl)
        refine hk_get (ci := 8) (C := RX5) (T := TX5) (N := 6) (v := .int (g 24)) hx hb hts (fun _ h => List.mem_cons_of_mem _ (wwXc_wsX50 _ h)) hown hw 9 rfl rfl 5 (by decide) (hq _ wX_378) (congrArg (fun z => some (Value.int z)) e_g9_24) dX5_follow_96 ?_
        refine lv_bipush (v := 7) hx hb dX5_follow_99 (by decide) ?_
        have B17 : ∀  (x18 : Int32) (ls : Array Slot) (H : Heap) (locs : List Loc), 7 ≤ (x18).toInt ∧ (x18).toInt ≤ 10 → hk_W D (jT cI cJ) A s H locs (xw cI cJ ad g9 l10 a11 b12) → lv_has ls 4 [] → W p l e { frames := 2, cells := 1, slots := 6, locals := 45 } s m args below meth c H locs 0 0 Q (F0 m 111 ls [.int x18, .ref (ad 9)]) := by
          intro x18 ls H locs hf_B17_0 hw hl
          refine jx_putg xw (g := g9) (lg := l10) (ar := a11) (bk := b12) (x := x18) 24 (ci := 8) (C := RX5) (T := TX5) (N := 6) (ty := .int) hx hb hts (fun _ h => List.mem_cons_of_mem _ (wwXc_wsX50 _ h)) tyX5 tyX5_ok nmX5 hown hw 9 rfl rfl 5 (by decide) (hq _ wX_378) rfl (by decide +kernel) rfl rfl (Nat.le_of_ble_eq_true rfl) dX5_follow_111 rfl (fun H locs g19 h_g19 hw => ?_)
          refine lv_goto (tgt := 145) hx hb dX5_follow_114 (by decide) ?_
          exact kr g19 l10 a11 b12 _ _ _ _ ⟨(hk_frG (hk_frT hk_fr0 (by decide) h14) (by decide) h_g19), h15, h16⟩ hw dX5_follow_145
        refine lv_icmp_ge (tgt := 109) hx hb dX5_follow_101 (by decide) (fun cc20 => ?_) (fun cc20 => ?_)
        · refine lv_bipush (v := 10) hx hb dX5_follow_109 (by decide) ?_
          exact B17 10 ls _ _ (ob108 (((10 : Int32)).toInt) (by decide)) hw (lv_sub hl [] rfl)
        · refine lv_bipush (v := 7) hx hb dX5_follow_104 (by decide) ?_
          refine lv_goto (tgt := 111) hx hb dX5_follow_106 (by decide) ?_
          exact B17 7 ls _ _ (ob109 (((7 : Int32)).toInt) ((g 24).toInt) ((g9 24).toInt) (hE_nle cc20) (congrArg Int32.toInt e_g9_24) (by decide) (hE_rng (g 24)) (hE_rng (g9 24))) hw (lv_sub hl [] rfl)
      refine lv_icmp_eq (tgt := 88) hx hb dX5_follow_79 (by decide) (fun cc21 => ?_) (fun cc21 => ?_)
      · exact B3 ls _ _ hw (lv_sub hl [0, 2] rfl)
      · refine lv_iload_n hx hb dX5_follow_82 rfl (lv_at hl 1 rfl) ?_
        refine lv_bipush (v := 7) hx hb dX5_follow_83 (by decide) ?_
        refine lv_icmp_ne (tgt := 117) hx hb dX5_follow_85 (by decide) (fun cc22 => ?_) (fun cc22 => ?_)
        · refine lv_aload_n hx hb dX5_follow_117 rfl (lv_at hl 0 rfl) ?_
          refine lv_iload_n hx hb dX5_follow_118 rfl (lv_at hl 1 rfl) ?_
          refine lv_iconst (v := 2) hx hb dX5_follow_119 (by decide) ?_
          refine lv_isub hx hb dX5_follow_120 (jx_nm fun z23 hz23 => ?_)
          refine lv_lload_n hx hb dX5_follow_121 rfl (lv_at hl 2 rfl) ?_
          refine jx_Vv (As := [.int z23, .long y2]) (rest := []) ⟨hx, hb, hml, hown, hts⟩ hZ hw hA (jx_X5_bringToFront l hlt D t3 cI cJ ad g lg ar bk _ z23 y2) (cwV 2 hts (jx_gV wwX_good wX_382 wX_383 wX_384 wX_215 wX_385) rfl rfl rfl (by decide +kernel) ⟨Nat.le_of_ble_eq_true rfl, Nat.le_of_ble_eq_true rfl⟩) 9 (ci := 8) (T := TX5) (N := 6) rfl rfl rfl hl.1 rfl (Nat.le_of_ble_eq_true rfl) dX5_follow_122 ⟨Nat.le_of_ble_eq_true rfl, Nat.le_of_ble_eq_true rfl⟩ (fun _ _ _ _ _ _ _ _ hp _ _ _ _ => hp.elim) (fun g29 l30 a31 b32 H locs hp33 hw => ?_)
          obtain ⟨h34, h35, h36⟩ := hp33
          refine lv_aload_n hx hb dX5_follow_125 rfl (lv_at hl 0 rfl) ?_
          refine lv_aload_n hx hb dX5_follow_126 rfl (lv_at hl 0 rfl) ?_
          have e_g29_24 : g29 24 = (g 24) := (h34 24 rfl)
          refine hk_get (ci := 8) (C := RX5) (T := TX5) (N := 6) (v := .int (g 24)) hx hb hts (fun _ h => List.mem_cons_of_mem _ (wwXc_wsX50 _ h)) hown hw 9 rfl rfl 5 (by decide) (hq _ wX_378) (congrArg (fun z => some (Value.int z)) e_g29_24) dX5_follow_127 ?_
          refine lv_bipush (v := 7) hx hb dX5_follow_130 (by decide) ?_
          have B37 : ∀  (x38 : Int32) (ls : Array Slot) (H : Heap) (locs : List Loc), 8 ≤ (x38).toInt ∧ (x38).toInt ≤ 11 → hk_W D (jT cI cJ) A s H locs (xw cI cJ ad g29 l30 a31 b32) → lv_has ls 4 [] → W p l e { frames := 2, cells := 1, slots := 6, locals := 45 } s m args below meth c H locs 0 0 Q (F0 m 142 ls [.int x38, .ref (ad 9)]) := by
            intro x38 ls H locs hf_B37_0 hw hl
            refine jx_putg xw (g := g29) (lg := l30) (ar := a31) (bk := b32) (x := x38) 24 (ci := 8) (C := RX5) (T := TX5) (N := 6) (ty := .int) hx hb hts (fun _ h => List.mem_cons_of_mem _ (wwXc_wsX50 _ h)) tyX5 tyX5_ok nmX5 hown hw 9 rfl rfl 5 (by decide) (hq _ wX_378) rfl (by decide +kernel) rfl rfl (Nat.le_of_ble_eq_true rfl) dX5_follow_142 rfl (fun H locs g39 h_g39 hw => ?_)
            exact kr g39 l30 a31 b32 _ _ _ _ ⟨(hk_frG (hk_frT hk_fr0 (by decide) h34) (by decide) h_g39), h35, h36⟩ hw dX5_follow_145
          refine lv_icmp_ge (tgt := 140) hx hb dX5_follow_132 (by decide) (fun cc40 => ?_) (fun cc40 => ?_)
          · refine lv_bipush (v := 11) hx hb dX5_follow_140 (by decide) ?_
            exact B37 11 ls _ _ (ob110 (((11 : Int32)).toInt) (by decide)) hw (lv_sub hl [] rfl)
          · refine lv_bipush (v := 8) hx hb dX5_follow_135 (by decide) ?_
            refine lv_goto (tgt := 142) hx hb dX5_follow_137 (by decide) ?_
            exact B37 8 ls _ _ (ob111 (((8 : Int32)).toInt) (by decide)) hw (lv_sub hl [] rfl)
        · exact B3 ls _ _ hw (lv_sub hl [0, 2] rfl)
    · refine lv_aload_n hx hb dX5_follow_54 rfl (lv_at hl 0 rfl) ?_
      refine lv_aload_n hx hb dX5_follow_55 rfl (lv_at hl 0 rfl) ?_
      refine hk_get (ci := 8) (C := RX5) (T := TX5) (N := 6) (v := .int (g 24)) hx hb hts (fun _ h => List.mem_cons_of_mem _ (wwXc_wsX50 _ h)) hown hw 9 rfl rfl 5 (by decide) (hq _ wX_378) rfl dX5_follow_56 ?_
      refine lv_bipush (v := 7) hx hb dX5_follow_59 (by decide) ?_
      have B41 : ∀  (x42 : Int32) (ls : Array Slot) (H : Heap) (locs : List Loc), 9 ≤ (x42).toInt ∧ (x42).toInt ≤ 11 → hk_W D (jT cI cJ) A s H locs (xw cI cJ ad g lg ar bk) → lv_has ls 4 [] → W p l e { frames := 2, cells := 1, slots := 6, locals := 45 } s m args below meth c H locs 0 0 Q (F0 m 71 ls [.int x42, .ref (ad 9)]) := by
        intro x42 ls H locs hf_B41_0 hw hl
        refine jx_putg xw (g := g) (lg := lg) (ar := ar) (bk := bk) (x := x42) 24 (ci := 8) (C := RX5) (T := TX5) (N := 6) (ty := .int) hx hb hts (fun _ h => List.mem_cons_of_mem _ (wwXc_wsX50 _ h)) tyX5 tyX5_ok nmX5 hown hw 9 rfl rfl 5 (by decide) (hq _ wX_378) rfl (by decide +kernel) rfl rfl (Nat.le_of_ble_eq_true rfl) dX5_follow_71 rfl (fun H locs g43 h_g43 hw => ?_)
        refine lv_goto (tgt := 145) hx hb dX5_follow_74 (by decide) ?_
        exact kr g43 lg ar bk _ _ _ _ ⟨(hk_frG hk_fr0 (by decide) h_g43), hk_fr0, hk_fr0⟩ hw dX5_follow_145
      refine lv_icmp_ge (tgt := 69) hx hb dX5_follow_61 (by decide) (fun cc44 => ?_) (fun cc44 => ?_)
      · refine lv_bipush (v := 11) hx hb dX5_follow_69 (by decide) ?_
        exact B41 11 ls _ _ (ob112 (((11 : Int32)).toInt) (by decide)) hw (lv_sub hl [] rfl)
      · refine lv_bipush (v := 9) hx hb dX5_follow_64 (by decide) ?_
        refine lv_goto (tgt := 71) hx hb dX5_follow_66 (by decide) ?_
        exact B41 9 ls _ _ (ob113 (((9 : Int32)).toInt) (by decide)) hw (lv_sub hl [] rfl)
  · refine lv_aload_n hx hb dX5_follow_4 rfl (lv_at hl 0 rfl) ?_
    refine lv_aload_n hx hb dX5_follow_5 rfl (lv_at hl 0 rfl) ?_
    refine hk_get (ci := 8) (C := RX5) (T := TX5) (N := 6) (v := .int (g 24)) hx hb hts (fun _ h => List.mem_cons_of_mem _ (wwXc_wsX50 _ h)) hown hw 9 rfl rfl 5 (by decide) (hq _ wX_378) rfl dX5_follow_6 ?_
    refine lv_iconst (v := 4) hx hb dX5_follow_9 (by decide) ?_
    have B45 : ∀  (x46 : Int32) (ls : Array Slot) (H : Heap) (locs : List Loc), hk_W D (jT cI cJ) A s H locs (xw cI cJ ad g lg ar bk) → lv_has ls 4 [] → W p l e { frames := 2, cells := 1, slots := 6, locals := 45 } s m args below meth c H locs 0 0 Q (F0 m 42 ls [.int x46, .ref (ad 9)]) := by
      intro x46 ls H locs hw hl
      refine jx_putg xw (g := g) (lg := lg) (ar := ar) (bk := bk) (x := x46) 24 (ci := 8) (C := RX5) (T := TX5) (N := 6) (ty := .int) hx hb hts (fun _ h => List.mem_cons_of_mem _ (wwXc_wsX50 _ h)) tyX5 tyX5_ok nmX5 hown hw 9 rfl rfl 5 (by decide) (hq _ wX_378) rfl (by decide +kernel) rfl rfl (Nat.le_of_ble_eq_true rfl) dX5_follow_42 rfl (fun H locs g47 h_g47 hw => ?_)
      refine lv_goto (tgt := 145) hx hb dX5_follow_45 (by decide) ?_
      exact kr g47 lg ar bk _ _ _ _ ⟨(hk_frG hk_fr0 (by decide) h_g47), hk_fr0, hk_fr0⟩ hw dX5_follow_145
    refine lv_icmp_ge (tgt := 17) hx hb dX5_follow_10 (by decide) (fun cc48 => ?_) (fun cc48 => ?_)
    · refine lv_aload_n hx hb dX5_follow_17 rfl (lv_at hl 0 rfl) ?_
      refine hk_get (ci := 8) (C := RX5) (T := TX5) (N := 6) (v := .int (g 24)) hx hb hts (fun _ h => List.mem_cons_of_mem _ (wwXc_wsX50 _ h)) hown hw 9 rfl rfl 5 (by decide) (hq _ wX_378) rfl dX5_follow_18 ?_
      refine lv_bipush (v := 10) hx hb dX5_follow_21 (by decide) ?_
      refine lv_icmp_ge (tgt := 35) hx hb dX5_follow_23 (by decide) (fun cc49 => ?_) (fun cc49 => ?_)
      · refine lv_aload_n hx hb dX5_follow_35 rfl (lv_at hl 0 rfl) ?_
        refine hk_get (ci := 8) (C := RX5) (T := TX5) (N := 6) (v := .int (g 24)) hx hb hts (fun _ h => List.mem_cons_of_mem _ (wwXc_wsX50 _ h)) hown hw 9 rfl rfl 5 (by decide) (hq _ wX_378) rfl dX5_follow_36 ?_
        refine lv_bipush (v := 6) hx hb dX5_follow_39 (by decide) ?_
        refine lv_isub hx hb dX5_follow_41 (jx_nm fun z50 hz50 => ?_)
        exact B45 z50 ls _ _ hw (lv_sub hl [] rfl)
      · refine lv_aload_n hx hb dX5_follow_26 rfl (lv_at hl 0 rfl) ?_
        refine hk_get (ci := 8) (C := RX5) (T := TX5) (N := 6) (v := .int (g 24)) hx hb hts (fun _ h => List.mem_cons_of_mem _ (wwXc_wsX50 _ h)) hown hw 9 rfl rfl 5 (by decide) (hq _ wX_378) rfl dX5_follow_27 ?_
        refine lv_iconst (v := 3) hx hb dX5_follow_30 (by decide) ?_
        refine lv_isub hx hb dX5_follow_31 (jx_nm fun z51 hz51 => ?_)
        refine lv_goto (tgt := 42) hx hb dX5_follow_32 (by decide) ?_
        exact B45 z51 ls _ _ hw (lv_sub hl [] rfl)
    · refine lv_iconst (v := 0) hx hb dX5_follow_13 (by decide) ?_
      refine lv_goto (tgt := 42) hx hb dX5_follow_14 (by decide) ?_
      exact B45 0 ls _ _ hw (lv_sub hl [] rfl)
