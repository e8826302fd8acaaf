/-! 70.face -/
theorem ob545 (v0 : Int) (h0 : v0 = 1) : 1 ≤ v0 ∧ v0 ≤ 4096 := by omega
theorem ob546 (v0 : Int) (h0 : v0 = 4096) : 1 ≤ v0 ∧ v0 ≤ 4096 := by omega
theorem ob547 (v0 : Int) (v1 : Int) (h0 : 0 ≤ v1 ∧ v1 ≤ 4) (h1 : v0 = 4) (h2 : -2147483648 ≤ v1 ∧ v1 ≤ 2147483647) : -2147483648 ≤ v0 - v1 ∧ v0 - v1 ≤ 2147483647 := by omega
theorem ob548 (v0 : Int) (v1 : Int) (v2 : Int) (v3 : Int) (v4 : Int) (v5 : Int) (h0 : v0 = v1) (h1 : 0 ≤ v1 ∧ v1 ≤ 4) (h2 : v2 = v3 - v1) (h3 : v4 ≤ v2) (h4 : v5 ≤ v4) (h5 : -2147483648 ≤ v0 ∧ v0 ≤ 2147483647) (h6 : -2147483648 ≤ v1 ∧ v1 ≤ 2147483647) (h7 : -2147483648 ≤ v2 ∧ v2 ≤ 2147483647) (h8 : v3 = 4) (h9 : -2147483648 ≤ v4 ∧ v4 ≤ 2147483647) (h10 : v5 = 0) : 0 ≤ v0 ∧ v0 ≤ 4 := by omega
theorem ob549 (v0 : Int) (v1 : Int) (v2 : Int) (v3 : Int) (v4 : Int) (v5 : Int) (v6 : Int) (h0 : v0 = v1) (h1 : v2 ≤ v1) (h2 : v1 ≤ v3) (h3 : v3 = v4 - v5) (h4 : 0 ≤ v5 ∧ v5 ≤ 4) (h5 : v6 = v5) (h6 : -2147483648 ≤ v0 ∧ v0 ≤ 2147483647) (h7 : -2147483648 ≤ v1 ∧ v1 ≤ 2147483647) (h8 : v2 = 0) (h9 : -2147483648 ≤ v3 ∧ v3 ≤ 2147483647) (h10 : v4 = 4) (h11 : -2147483648 ≤ v5 ∧ v5 ≤ 2147483647) (h12 : -2147483648 ≤ v6 ∧ v6 ≤ 2147483647) : 0 ≤ v0 ∧ v0 ≤ 4 := by omega
theorem ob550 (v0 : Int) (v1 : Int) (v2 : Int) (v3 : Int) (v4 : Int) (v5 : Int) (v6 : Int) (h0 : v0 = v1) (h1 : v2 ≤ v1) (h2 : v1 ≤ v3) (h3 : v4 = v2) (h4 : v3 = v5 - v6) (h5 : 0 ≤ v6 ∧ v6 ≤ 4) (h6 : -2147483648 ≤ v0 ∧ v0 ≤ 2147483647) (h7 : -2147483648 ≤ v1 ∧ v1 ≤ 2147483647) (h8 : v2 = 0) (h9 : -2147483648 ≤ v3 ∧ v3 ≤ 2147483647) (h10 : -2147483648 ≤ v4 ∧ v4 ≤ 2147483647) (h11 : v5 = 4) (h12 : -2147483648 ≤ v6 ∧ v6 ≤ 2147483647) : 0 ≤ v0 ∧ v0 ≤ 4 := by omega
theorem ob551 (v0 : Int) (v1 : Int) (v2 : Int) (v3 : Int) (v4 : Int) (v5 : Int) (v6 : Int) (v7 : Int) (h0 : v0 = v1) (h1 : 0 ≤ v1 ∧ v1 ≤ 4) (h2 : v2 = v3 - v1) (h3 : v4 ≤ v2) (h4 : v5 ≤ v4) (h5 : v6 = v4) (h6 : v7 = v5) (h7 : -2147483648 ≤ v0 ∧ v0 ≤ 2147483647) (h8 : -2147483648 ≤ v1 ∧ v1 ≤ 2147483647) (h9 : -2147483648 ≤ v2 ∧ v2 ≤ 2147483647) (h10 : v3 = 4) (h11 : -2147483648 ≤ v4 ∧ v4 ≤ 2147483647) (h12 : v5 = 0) (h13 : -2147483648 ≤ v6 ∧ v6 ≤ 2147483647) (h14 : -2147483648 ≤ v7 ∧ v7 ≤ 2147483647) : 0 ≤ v0 ∧ v0 ≤ 4 := by omega
theorem ob552 (v0 : Int) (h0 : 1 ≤ v0 ∧ v0 ≤ 1500) (h1 : -2147483648 ≤ v0 ∧ v0 ≤ 2147483647) : 1 ≤ v0 ∧ v0 ≤ 1500 := by omega
theorem ob553 (v0 : Int) (v1 : Int) (h0 : v0 = v1) (h1 : 1 ≤ v1 ∧ v1 ≤ 1500) (h2 : -2147483648 ≤ v0 ∧ v0 ≤ 2147483647) (h3 : -2147483648 ≤ v1 ∧ v1 ≤ 2147483647) : 1 ≤ v0 ∧ v0 ≤ 1500 := by omega
theorem ob554 (v0 : Int) (v1 : Int) (v2 : Int) (v3 : Int) (h0 : v0 = v1) (h1 : v2 ≤ v1) (h2 : v1 ≤ v3) (h3 : -2147483648 ≤ v0 ∧ v0 ≤ 2147483647) (h4 : -2147483648 ≤ v1 ∧ v1 ≤ 2147483647) (h5 : v2 = 1) (h6 : v3 = 1500) : 1 ≤ v0 ∧ v0 ≤ 1500 := by omega
theorem ob555 (v0 : Int) (h0 : v0 = 4) : 0 ≤ v0 ∧ v0 ≤ 8 := by omega
theorem ob556 (v0 : Int) (v1 : Int) (v2 : Int) (v3 : Int) (h0 : v1 ≤ 2147483000 → v2 = v1 + v0) (h1 : 0 ≤ v1 ∧ v1 ≤ 1500) (h2 : v1 ≤ v3) (h3 : v0 = 4) (h4 : -2147483648 ≤ v1 ∧ v1 ≤ 2147483647) (h5 : -2147483648 ≤ v2 ∧ v2 ≤ 2147483647) (h6 : v3 = 1480) : 0 ≤ v0 ∧ v0 ≤ 8 := by omega
theorem ob557 (v0 : Int) (v1 : Int) (v2 : Int) (v3 : Int) (v4 : Int) (h0 : v1 ≤ 2147483000 → v2 = v1 + v0) (h1 : v2 ≤ 2147483000 → v3 = v2 + v0) (h2 : 0 ≤ v1 ∧ v1 ≤ 1500) (h3 : v1 ≤ v4) (h4 : v0 = 4) (h5 : -2147483648 ≤ v1 ∧ v1 ≤ 2147483647) (h6 : -2147483648 ≤ v2 ∧ v2 ≤ 2147483647) (h7 : -2147483648 ≤ v3 ∧ v3 ≤ 2147483647) (h8 : v4 = 1480) : 0 ≤ v0 ∧ v0 ≤ 8 := by omega
theorem ob558 (v0 : Int) (v1 : Int) (v2 : Int) (v3 : Int) (v4 : Int) (v5 : Int) (h0 : v1 ≤ 2147483000 → v2 = v1 + v0) (h1 : v2 ≤ 2147483000 → v3 = v2 + v0) (h2 : v3 ≤ 2147483000 → v4 = v3 + v0) (h3 : 0 ≤ v1 ∧ v1 ≤ 1500) (h4 : v1 ≤ v5) (h5 : v0 = 4) (h6 : -2147483648 ≤ v1 ∧ v1 ≤ 2147483647) (h7 : -2147483648 ≤ v2 ∧ v2 ≤ 2147483647) (h8 : -2147483648 ≤ v3 ∧ v3 ≤ 2147483647) (h9 : -2147483648 ≤ v4 ∧ v4 ≤ 2147483647) (h10 : v5 = 1480) : 0 ≤ v0 ∧ v0 ≤ 8 := by omega
theorem ob559 (v0 : Int) (v1 : Int) (v2 : Int) (v3 : Int) (v4 : Int) (v5 : Int) (v6 : Int) (h0 : v1 ≤ 2147483000 → v2 = v1 + v0) (h1 : v2 ≤ 2147483000 → v3 = v2 + v0) (h2 : v3 ≤ 2147483000 → v4 = v3 + v0) (h3 : v4 ≤ 2147483000 → v5 = v4 + v0) (h4 : 0 ≤ v1 ∧ v1 ≤ 1500) (h5 : v1 ≤ v6) (h6 : v0 = 4) (h7 : -2147483648 ≤ v1 ∧ v1 ≤ 2147483647) (h8 : -2147483648 ≤ v2 ∧ v2 ≤ 2147483647) (h9 : -2147483648 ≤ v3 ∧ v3 ≤ 2147483647) (h10 : -2147483648 ≤ v4 ∧ v4 ≤ 2147483647) (h11 : -2147483648 ≤ v5 ∧ v5 ≤ 2147483647) (h12 : v6 = 1480) : 0 ≤ v0 ∧ v0 ≤ 8 := by omega
theorem ob560 (v0 : Int) (v1 : Int) (v2 : Int) (v3 : Int) (v4 : Int) (v5 : Int) (v6 : Int) (v7 : Int) (h0 : v1 ≤ 2147483000 → v0 = v1 + v2) (h1 : v3 ≤ 2147483000 → v4 = v3 + v2) (h2 : v4 ≤ 2147483000 → v5 = v4 + v2) (h3 : v5 ≤ 2147483000 → v6 = v5 + v2) (h4 : v6 ≤ 2147483000 → v1 = v6 + v2) (h5 : 0 ≤ v3 ∧ v3 ≤ 1500) (h6 : v3 ≤ v7) (h7 : -2147483648 ≤ v0 ∧ v0 ≤ 2147483647) (h8 : -2147483648 ≤ v1 ∧ v1 ≤ 2147483647) (h9 : v2 = 4) (h10 : -2147483648 ≤ v3 ∧ v3 ≤ 2147483647) (h11 : -2147483648 ≤ v4 ∧ v4 ≤ 2147483647) (h12 : -2147483648 ≤ v5 ∧ v5 ≤ 2147483647) (h13 : -2147483648 ≤ v6 ∧ v6 ≤ 2147483647) (h14 : v7 = 1480) : 0 ≤ v0 ∧ v0 ≤ 1500 := by omega
theorem ob561 (v0 : Int) (v1 : Int) (h0 : 0 ≤ v0 ∧ v0 ≤ 1500) (h1 : v1 < v0) (h2 : -2147483648 ≤ v0 ∧ v0 ≤ 2147483647) (h3 : v1 = 1480) : 0 ≤ v0 ∧ v0 ≤ 1500 := by omega
theorem ob562 (v0 : Int) (h0 : 0 ≤ v0 ∧ v0 ≤ 1500) (h1 : -2147483648 ≤ v0 ∧ v0 ≤ 2147483647) : 0 ≤ v0 ∧ v0 ≤ 1500 := by omega
theorem ob563 (v0 : Int) (v1 : Int) (v2 : Int) (v3 : Int) (h0 : v2 ≤ v1) (h1 : v1 ≤ v0) (h2 : v0 ≤ v3) (h3 : 0 ≤ v3 ∧ v3 ≤ 1500) (h4 : v0 = 20) (h5 : -2147483648 ≤ v1 ∧ v1 ≤ 2147483647) (h6 : v2 = 0) (h7 : -2147483648 ≤ v3 ∧ v3 ≤ 2147483647) : -2147483648 ≤ v0 - v1 ∧ v0 - v1 ≤ 2147483647 := by omega
theorem ob564 (v0 : Int) (v1 : Int) (v2 : Int) (v3 : Int) (v4 : Int) (h0 : 0 ≤ v0 ∧ v0 ≤ 1500) (h1 : v2 ≤ v0) (h2 : v1 = v2 - v3) (h3 : v4 ≤ v3) (h4 : v3 ≤ v2) (h5 : -2147483648 ≤ v0 ∧ v0 ≤ 2147483647) (h6 : -2147483648 ≤ v1 ∧ v1 ≤ 2147483647) (h7 : v2 = 20) (h8 : -2147483648 ≤ v3 ∧ v3 ≤ 2147483647) (h9 : v4 = 0) : -2147483648 ≤ v0 - v1 ∧ v0 - v1 ≤ 2147483647 := by omega
theorem ob565 (v0 : Int) (v1 : Int) (v2 : Int) (v3 : Int) (v4 : Int) (v5 : Int) (v6 : Int) (h0 : v0 = v1) (h1 : v1 = v2 - v3) (h2 : 0 ≤ v2 ∧ v2 ≤ 1500) (h3 : v4 ≤ v2) (h4 : v3 = v4 - v5) (h5 : v6 ≤ v5) (h6 : v5 ≤ v4) (h7 : -2147483648 ≤ v0 ∧ v0 ≤ 2147483647) (h8 : -2147483648 ≤ v1 ∧ v1 ≤ 2147483647) (h9 : -2147483648 ≤ v2 ∧ v2 ≤ 2147483647) (h10 : -2147483648 ≤ v3 ∧ v3 ≤ 2147483647) (h11 : v4 = 20) (h12 : -2147483648 ≤ v5 ∧ v5 ≤ 2147483647) (h13 : v6 = 0) : 0 ≤ v0 ∧ v0 ≤ 1500 := by omega
theorem ob566 (v0 : Int) (v1 : Int) (v2 : Int) (v3 : Int) (h0 : 0 ≤ v0 ∧ v0 ≤ 1500) (h1 : v0 < v1) (h2 : v2 ≤ v1) (h3 : v3 ≤ v2) (h4 : -2147483648 ≤ v0 ∧ v0 ≤ 2147483647) (h5 : v1 = 20) (h6 : -2147483648 ≤ v2 ∧ v2 ≤ 2147483647) (h7 : v3 = 0) : 0 ≤ v0 ∧ v0 ≤ 1500 := by omega
theorem ob567 (v0 : Int) (v1 : Int) (v2 : Int) (h0 : v1 ≤ 2147483646 → v0 = v1 + 1) (h1 : 0 ≤ v1 ∧ v1 ≤ 1500) (h2 : v1 < v2) (h3 : -2147483648 ≤ v0 ∧ v0 ≤ 2147483647) (h4 : -2147483648 ≤ v1 ∧ v1 ≤ 2147483647) (h5 : v2 = 1500) : 0 ≤ v0 ∧ v0 ≤ 1500 := by omega
theorem ob568 (v0 : Int) (v1 : Int) (h0 : 0 ≤ v0 ∧ v0 ≤ 1500) (h1 : v1 ≤ v0) (h2 : -2147483648 ≤ v0 ∧ v0 ≤ 2147483647) (h3 : v1 = 1500) : 0 ≤ v0 ∧ v0 ≤ 1500 := by omega
theorem ob569 (v0 : Int) (v1 : Int) (v2 : Int) (h0 : v0 = v1) (h1 : v1 ≤ v2) (h2 : -2147483648 ≤ v0 ∧ v0 ≤ 2147483647) (h3 : -2147483648 ≤ v1 ∧ v1 ≤ 2147483647) (h4 : v2 = 3000) : v0 ≤ 3000 := by omega
theorem ob570 (v0 : Int) (v1 : Int) (h0 : v0 = v1) (h1 : -2147483648 ≤ v0 ∧ v0 ≤ 2147483647) (h2 : v1 = 0) : v0 ≤ 3000 := by omega
theorem ob571 (v0 : Int) (h0 : -2147483648 ≤ v0 ∧ v0 ≤ 600000) (h1 : -2147483648 ≤ v0 ∧ v0 ≤ 2147483647) : -2147483648 ≤ v0 ∧ v0 ≤ 600000 := by omega
theorem ob572 (v0 : Int) (h0 : v0 ≤ 3000) (h1 : -2147483648 ≤ v0 ∧ v0 ≤ 2147483647) : -2147483648 ≤ v0 ∧ v0 ≤ 600000 := by omega
theorem ob573 (v0 : Int) (v1 : Int) (v2 : Int) (v3 : Int) (h0 : v0 = v1) (h1 : v1 ≤ v2) (h2 : v2 ≤ v3) (h3 : -2147483648 ≤ v0 ∧ v0 ≤ 2147483647) (h4 : v1 = 0) (h5 : -2147483648 ≤ v2 ∧ v2 ≤ 2147483647) (h6 : v3 = 2) : 0 ≤ v0 ∧ v0 ≤ 1500 := by omega
theorem ob574 (v0 : Int) (v1 : Int) (v2 : Int) (v3 : Int) (v4 : Int) (v5 : Int) (v6 : Int) (v7 : Int) (v8 : Int) (v9 : Int) (v10 : Int) (v11 : Int) (v12 : Int) (v13 : Int) (h0 : 0 ≤ v0) (h1 : 2147483648 - v0 ≤ v1 + 1) (h2 : v0 < v2) (h3 : v3 = (v0 + v4 + 2147483648) % 4294967296 - 2147483648) (h4 : 0 ≤ v2 ∧ v2 ≤ 1500) (h5 : v5 ≤ v4 ∧ v6 ≤ v4 ∧ (v4 = v5 ∨ v4 = v6)) (h6 : v7 = v2) (h7 : v8 ≤ v3 ∧ v8 ≤ v2 ∧ (v8 = v3 ∨ v8 = v2)) (h8 : 1 ≤ v6 ∧ v6 ≤ 1500) (h9 : v9 ≠ v5) (h10 : v10 = v6) (h11 : v11 = v9) (h12 : v9 ≠ v12) (h13 : v12 ≤ v13) (h14 : -2147483648 ≤ v0 ∧ v0 ≤ 2147483647) (h15 : -2147483648 ≤ v2 ∧ v2 ≤ 2147483647) (h16 : -2147483648 ≤ v3 ∧ v3 ≤ 2147483647) (h17 : -2147483648 ≤ v4 ∧ v4 ≤ 2147483647) (h18 : v5 = 1) (h19 : -2147483648 ≤ v6 ∧ v6 ≤ 2147483647) (h20 : -2147483648 ≤ v7 ∧ v7 ≤ 2147483647) (h21 : -2147483648 ≤ v8 ∧ v8 ≤ 2147483647) (h22 : -2147483648 ≤ v9 ∧ v9 ≤ 2147483647) (h23 : -2147483648 ≤ v10 ∧ v10 ≤ 2147483647) (h24 : -2147483648 ≤ v11 ∧ v11 ≤ 2147483647) (h25 : v12 = 0) (h26 : -2147483648 ≤ v13 ∧ v13 ≤ 2147483647) : 0 ≤ v0 ∧ v0 ≤ 1500 := by omega
theorem ob575 (v0 : Int) (v1 : Int) (v2 : Int) (v3 : Int) (v4 : Int) (v5 : Int) (v6 : Int) (v7 : Int) (v8 : Int) (v9 : Int) (v10 : Int) (v11 : Int) (v12 : Int) (h0 : v0 ≤ v1 ∧ v0 ≤ v2 ∧ (v0 = v1 ∨ v0 = v2)) (h1 : 0 ≤ v2 ∧ v2 ≤ 1500) (h2 : v3 = v2) (h3 : v4 < v2) (h4 : v1 = (v4 + v5 + 2147483648) % 4294967296 - 2147483648) (h5 : v6 ≤ v5 ∧ v7 ≤ v5 ∧ (v5 = v6 ∨ v5 = v7)) (h6 : 0 ≤ v4) (h7 : 2147483648 - v4 ≤ v8 + 1) (h8 : 1 ≤ v7 ∧ v7 ≤ 1500) (h9 : v9 ≠ v6) (h10 : v10 = v7) (h11 : v11 = v9) (h12 : v9 ≠ v12) (h13 : -2147483648 ≤ v0 ∧ v0 ≤ 2147483647) (h14 : -2147483648 ≤ v1 ∧ v1 ≤ 2147483647) (h15 : -2147483648 ≤ v2 ∧ v2 ≤ 2147483647) (h16 : -2147483648 ≤ v3 ∧ v3 ≤ 2147483647) (h17 : -2147483648 ≤ v4 ∧ v4 ≤ 2147483647) (h18 : -2147483648 ≤ v5 ∧ v5 ≤ 2147483647) (h19 : v6 = 1) (h20 : -2147483648 ≤ v7 ∧ v7 ≤ 2147483647) (h21 : -2147483648 ≤ v9 ∧ v9 ≤ 2147483647) (h22 : -2147483648 ≤ v10 ∧ v10 ≤ 2147483647) (h23 : -2147483648 ≤ v11 ∧ v11 ≤ 2147483647) (h24 : v12 = 0) : 0 ≤ v0 ∧ v0 ≤ 1500 := by omega
theorem ob576 (v0 : Int) (v1 : Int) (v2 : Int) (v3 : Int) (v4 : Int) (v5 : Int) (v6 : Int) (v7 : Int) (v8 : Int) (v9 : Int) (v10 : Int) (v11 : Int) (v12 : Int) (v13 : Int) (h0 : 0 ≤ v0) (h1 : 2147483648 - v0 ≤ v1 + 1) (h2 : v0 < v2) (h3 : v3 = (v0 + v4 + 2147483648) % 4294967296 - 2147483648) (h4 : 0 ≤ v2 ∧ v2 ≤ 1500) (h5 : v5 ≤ v4 ∧ v6 ≤ v4 ∧ (v4 = v5 ∨ v4 = v6)) (h6 : v7 = v2) (h7 : v8 ≤ v3 ∧ v8 ≤ v2 ∧ (v8 = v3 ∨ v8 = v2)) (h8 : 1 ≤ v6 ∧ v6 ≤ 1500) (h9 : v9 ≠ v5) (h10 : v10 = v6) (h11 : v11 = v9) (h12 : v9 ≠ v12) (h13 : v12 ≤ v13) (h14 : -2147483648 ≤ v0 ∧ v0 ≤ 2147483647) (h15 : -2147483648 ≤ v2 ∧ v2 ≤ 2147483647) (h16 : -2147483648 ≤ v3 ∧ v3 ≤ 2147483647) (h17 : -2147483648 ≤ v4 ∧ v4 ≤ 2147483647) (h18 : v5 = 1) (h19 : -2147483648 ≤ v6 ∧ v6 ≤ 2147483647) (h20 : -2147483648 ≤ v7 ∧ v7 ≤ 2147483647) (h21 : -2147483648 ≤ v8 ∧ v8 ≤ 2147483647) (h22 : -2147483648 ≤ v9 ∧ v9 ≤ 2147483647) (h23 : -2147483648 ≤ v10 ∧ v10 ≤ 2147483647) (h24 : -2147483648 ≤ v11 ∧ v11 ≤ 2147483647) (h25 : v12 = 0) (h26 : -2147483648 ≤ v13 ∧ v13 ≤ 2147483647) : 0 ≤ v0 := by omega
theorem ob577 (v0 : Int) (v1 : Int) (v2 : Int) (v3 : Int) (v4 : Int) (v5 : Int) (v6 : Int) (v7 : Int) (v8 : Int) (v9 : Int) (v10 : Int) (v11 : Int) (v12 : Int) (h0 : v0 ≤ v1 ∧ v0 ≤ v2 ∧ (v0 = v1 ∨ v0 = v2)) (h1 : 0 ≤ v2 ∧ v2 ≤ 1500) (h2 : v3 = v2) (h3 : v4 < v2) (h4 : v1 = (v4 + v5 + 2147483648) % 4294967296 - 2147483648) (h5 : v6 ≤ v5 ∧ v7 ≤ v5 ∧ (v5 = v6 ∨ v5 = v7)) (h6 : 0 ≤ v4) (h7 : 2147483648 - v4 ≤ v8 + 1) (h8 : 1 ≤ v7 ∧ v7 ≤ 1500) (h9 : v9 ≠ v6) (h10 : v10 = v7) (h11 : v11 = v9) (h12 : v9 ≠ v12) (h13 : -2147483648 ≤ v0 ∧ v0 ≤ 2147483647) (h14 : -2147483648 ≤ v1 ∧ v1 ≤ 2147483647) (h15 : -2147483648 ≤ v2 ∧ v2 ≤ 2147483647) (h16 : -2147483648 ≤ v3 ∧ v3 ≤ 2147483647) (h17 : -2147483648 ≤ v4 ∧ v4 ≤ 2147483647) (h18 : -2147483648 ≤ v5 ∧ v5 ≤ 2147483647) (h19 : v6 = 1) (h20 : -2147483648 ≤ v7 ∧ v7 ≤ 2147483647) (h21 : -2147483648 ≤ v9 ∧ v9 ≤ 2147483647) (h22 : -2147483648 ≤ v10 ∧ v10 ≤ 2147483647) (h23 : -2147483648 ≤ v11 ∧ v11 ≤ 2147483647) (h24 : v12 = 0) : v0 ≤ 1500 := by omega
theorem ob578 (v0 : Int) (v1 : Int) (v2 : Int) (v3 : Int) (v4 : Int) (v5 : Int) (v6 : Int) (v7 : Int) (v8 : Int) (v9 : Int) (v10 : Int) (v11 : Int) (v12 : Int) (v13 : Int) (v14 : Int) (h0 : 2147483648 - v2 ≤ v1 + 1) (h1 : v0 = (v2 + v3 + 2147483648) % 4294967296 - 2147483648) (h2 : v4 ≤ v3 ∧ v5 ≤ v3 ∧ (v3 = v4 ∨ v3 = v5)) (h3 : 0 ≤ v2) (h4 : v2 < v6) (h5 : v7 = (v2 + v3 + 2147483648) % 4294967296 - 2147483648) (h6 : 1 ≤ v5 ∧ v5 ≤ 1500) (h7 : 0 ≤ v6 ∧ v6 ≤ 1500) (h8 : v8 ≠ v4) (h9 : v9 = v5) (h10 : v10 = v6) (h11 : v11 ≤ v7 ∧ v11 ≤ v6 ∧ (v11 = v7 ∨ v11 = v6)) (h12 : v12 = v8) (h13 : v8 ≠ v13) (h14 : v13 ≤ v14) (h15 : -2147483648 ≤ v0 ∧ v0 ≤ 2147483647) (h16 : -2147483648 ≤ v2 ∧ v2 ≤ 2147483647) (h17 : -2147483648 ≤ v3 ∧ v3 ≤ 2147483647) (h18 : v4 = 1) (h19 : -2147483648 ≤ v5 ∧ v5 ≤ 2147483647) (h20 : -2147483648 ≤ v6 ∧ v6 ≤ 2147483647) (h21 : -2147483648 ≤ v7 ∧ v7 ≤ 2147483647) (h22 : -2147483648 ≤ v8 ∧ v8 ≤ 2147483647) (h23 : -2147483648 ≤ v9 ∧ v9 ≤ 2147483647) (h24 : -2147483648 ≤ v10 ∧ v10 ≤ 2147483647) (h25 : -2147483648 ≤ v11 ∧ v11 ≤ 2147483647) (h26 : -2147483648 ≤ v12 ∧ v12 ≤ 2147483647) (h27 : v13 = 0) (h28 : -2147483648 ≤ v14 ∧ v14 ≤ 2147483647) : 2147483648 - v0 ≤ v1 := by omega
theorem ob579 (v0 : Int) (v1 : Int) (v2 : Int) (v3 : Int) (v4 : Int) (v5 : Int) (v6 : Int) (v7 : Int) (v8 : Int) (v9 : Int) (v10 : Int) (v11 : Int) (v12 : Int) (v13 : Int) (v14 : Int) (h0 : v0 = (v1 + v2 + 2147483648) % 4294967296 - 2147483648) (h1 : v3 ≤ v2 ∧ v4 ≤ v2 ∧ (v2 = v3 ∨ v2 = v4)) (h2 : 0 ≤ v1) (h3 : 2147483648 - v1 ≤ v5 + 1) (h4 : v1 < v6) (h5 : v7 = (v1 + v2 + 2147483648) % 4294967296 - 2147483648) (h6 : 1 ≤ v4 ∧ v4 ≤ 1500) (h7 : 0 ≤ v6 ∧ v6 ≤ 1500) (h8 : v8 ≠ v3) (h9 : v9 = v4) (h10 : v10 = v6) (h11 : v11 ≤ v7 ∧ v11 ≤ v6 ∧ (v11 = v7 ∨ v11 = v6)) (h12 : v12 = v8) (h13 : v8 ≠ v13) (h14 : v13 ≤ v14) (h15 : -2147483648 ≤ v0 ∧ v0 ≤ 2147483647) (h16 : -2147483648 ≤ v1 ∧ v1 ≤ 2147483647) (h17 : -2147483648 ≤ v2 ∧ v2 ≤ 2147483647) (h18 : v3 = 1) (h19 : -2147483648 ≤ v4 ∧ v4 ≤ 2147483647) (h20 : -2147483648 ≤ v6 ∧ v6 ≤ 2147483647) (h21 : -2147483648 ≤ v7 ∧ v7 ≤ 2147483647) (h22 : -2147483648 ≤ v8 ∧ v8 ≤ 2147483647) (h23 : -2147483648 ≤ v9 ∧ v9 ≤ 2147483647) (h24 : -2147483648 ≤ v10 ∧ v10 ≤ 2147483647) (h25 : -2147483648 ≤ v11 ∧ v11 ≤ 2147483647) (h26 : -2147483648 ≤ v12 ∧ v12 ≤ 2147483647) (h27 : v13 = 0) (h28 : -2147483648 ≤ v14 ∧ v14 ≤ 2147483647) : 0 ≤ v0 := by omega
theorem ob580 (v0 : Int) (v1 : Int) (v2 : Int) (v3 : Int) (v4 : Int) (v5 : Int) (v6 : Int) (v7 : Int) (v8 : Int) (h0 : v0 ≤ v1) (h1 : v2 ≠ v0) (h2 : v1 ≤ v3) (h3 : v4 = v2) (h4 : v2 ≠ v5) (h5 : v5 ≤ v6 ∧ v7 ≤ v6 ∧ (v6 = v5 ∨ v6 = v7)) (h6 : 1 ≤ v7 ∧ v7 ≤ 1500) (h7 : v8 = v7) (h8 : v0 = 0) (h9 : -2147483648 ≤ v1 ∧ v1 ≤ 2147483647) (h10 : -2147483648 ≤ v2 ∧ v2 ≤ 2147483647) (h11 : v3 = 2) (h12 : -2147483648 ≤ v4 ∧ v4 ≤ 2147483647) (h13 : v5 = 1) (h14 : -2147483648 ≤ v6 ∧ v6 ≤ 2147483647) (h15 : -2147483648 ≤ v7 ∧ v7 ≤ 2147483647) (h16 : -2147483648 ≤ v8 ∧ v8 ≤ 2147483647) : 0 ≤ v0 := by omega
theorem ob581 (v0 : Int) (v1 : Int) (v2 : Int) (v3 : Int) (v4 : Int) (v5 : Int) (h0 : v0 ≤ v1) (h1 : v2 ≠ v0) (h2 : v1 ≤ v3) (h3 : v4 = v2) (h4 : v2 = v5) (h5 : v0 = 0) (h6 : -2147483648 ≤ v1 ∧ v1 ≤ 2147483647) (h7 : -2147483648 ≤ v2 ∧ v2 ≤ 2147483647) (h8 : v3 = 2) (h9 : -2147483648 ≤ v4 ∧ v4 ≤ 2147483647) (h10 : v5 = 1) : 0 ≤ v0 := by omega
theorem ob582 (v0 : Int) (v1 : Int) (h0 : 0 ≤ v0 ∧ v0 ≤ 1500) (h1 : v1 = v0) (h2 : -2147483648 ≤ v0 ∧ v0 ≤ 2147483647) (h3 : -2147483648 ≤ v1 ∧ v1 ≤ 2147483647) : v0 ≤ 1500 := by omega
theorem ob583 (v0 : Int) (v1 : Int) (v2 : Int) (h0 : v0 = v1) (h1 : 0 ≤ v1 ∧ v1 ≤ 1500) (h2 : v2 = v1) (h3 : -2147483648 ≤ v0 ∧ v0 ≤ 2147483647) (h4 : -2147483648 ≤ v1 ∧ v1 ≤ 2147483647) (h5 : -2147483648 ≤ v2 ∧ v2 ≤ 2147483647) : 0 ≤ v0 ∧ v0 ≤ 1500 := by omega
theorem ob584 (v0 : Int) (v1 : Int) (h0 : v0 = v1) (h1 : 0 ≤ v1 ∧ v1 ≤ 1500) (h2 : -2147483648 ≤ v0 ∧ v0 ≤ 2147483647) (h3 : -2147483648 ≤ v1 ∧ v1 ≤ 2147483647) : 0 ≤ v0 ∧ v0 ≤ 1500 := by omega
theorem ob585 (v0 : Int) (v1 : Int) (h0 : v1 = v0) (h1 : 0 ≤ v0) (h2 : 2147483648 - v0 ≤ 0) (h3 : 0 ≤ v1 ∧ v1 ≤ 1500) (h4 : -2147483648 ≤ v0 ∧ v0 ≤ 2147483647) (h5 : -2147483648 ≤ v1 ∧ v1 ≤ 2147483647) : (0 * v0) ≤ -1 := by omega
theorem ob586 (v0 : Int) (v1 : Int) (v2 : Int) (v3 : Int) (v4 : Int) (v5 : Int) (h0 : v0 = v1) (h1 : 0 ≤ v0 ∧ v0 ≤ 1500) (h2 : 0 ≤ v1) (h3 : 2147483648 - v1 ≤ v2 + 1) (h4 : v3 ≤ v1) (h5 : v3 ≤ v4) (h6 : v5 = v3) (h7 : -2147483648 ≤ v0 ∧ v0 ≤ 2147483647) (h8 : -2147483648 ≤ v1 ∧ v1 ≤ 2147483647) (h9 : -2147483648 ≤ v3 ∧ v3 ≤ 2147483647) (h10 : v4 = 1500) (h11 : -2147483648 ≤ v5 ∧ v5 ≤ 2147483647) : 0 ≤ v0 ∧ v0 ≤ 1500 := by omega
theorem ob587 (v0 : Int) (v1 : Int) (v2 : Int) (v3 : Int) (v4 : Int) (v5 : Int) (v6 : Int) (v7 : Int) (h0 : v2 = v0) (h1 : 0 ≤ v0) (h2 : 2147483648 - v0 ≤ v3 + 1) (h3 : v0 < v4) (h4 : v4 ≤ v5) (h5 : 0 ≤ v2 ∧ v2 ≤ 1500) (h6 : v6 = v4) (h7 : v2 ≤ 2147483646 → v7 = v2 + 1) (h8 : -2147483648 ≤ v0 ∧ v0 ≤ 2147483647) (h9 : v1 = 1) (h10 : -2147483648 ≤ v2 ∧ v2 ≤ 2147483647) (h11 : -2147483648 ≤ v4 ∧ v4 ≤ 2147483647) (h12 : v5 = 1500) (h13 : -2147483648 ≤ v6 ∧ v6 ≤ 2147483647) (h14 : -2147483648 ≤ v7 ∧ v7 ≤ 2147483647) : -2147483648 ≤ v0 + v1 ∧ v0 + v1 ≤ 2147483647 := by omega
theorem ob588 (v0 : Int) (v1 : Int) (v2 : Int) (v3 : Int) (v4 : Int) (v5 : Int) (v6 : Int) (v7 : Int) (v8 : Int) (h0 : 2147483648 - v2 ≤ v1 + 1) (h1 : v0 = v2 + v3) (h2 : v4 = v2) (h3 : 0 ≤ v2) (h4 : v2 < v5) (h5 : v5 ≤ v6) (h6 : 0 ≤ v4 ∧ v4 ≤ 1500) (h7 : v7 = v5) (h8 : v4 ≤ 2147483646 → v8 = v4 + 1) (h9 : -2147483648 ≤ v0 ∧ v0 ≤ 2147483647) (h10 : -2147483648 ≤ v2 ∧ v2 ≤ 2147483647) (h11 : v3 = 1) (h12 : -2147483648 ≤ v4 ∧ v4 ≤ 2147483647) (h13 : -2147483648 ≤ v5 ∧ v5 ≤ 2147483647) (h14 : v6 = 1500) (h15 : -2147483648 ≤ v7 ∧ v7 ≤ 2147483647) (h16 : -2147483648 ≤ v8 ∧ v8 ≤ 2147483647) : 2147483648 - v0 ≤ v1 := by omega
theorem ob589 (v0 : Int) (v1 : Int) (v2 : Int) (v3 : Int) (v4 : Int) (v5 : Int) (v6 : Int) (v7 : Int) (v8 : Int) (h0 : v2 ≤ 2147483646 → v0 = v2 + 1) (h1 : v1 = v3 + v4) (h2 : v2 = v3) (h3 : 0 ≤ v3) (h4 : 0 ≤ v2 ∧ v2 ≤ 1500) (h5 : 2147483648 - v3 ≤ v5 + 1) (h6 : v3 < v6) (h7 : v6 ≤ v7) (h8 : v8 = v6) (h9 : -2147483648 ≤ v0 ∧ v0 ≤ 2147483647) (h10 : -2147483648 ≤ v1 ∧ v1 ≤ 2147483647) (h11 : -2147483648 ≤ v2 ∧ v2 ≤ 2147483647) (h12 : -2147483648 ≤ v3 ∧ v3 ≤ 2147483647) (h13 : v4 = 1) (h14 : -2147483648 ≤ v6 ∧ v6 ≤ 2147483647) (h15 : v7 = 1500) (h16 : -2147483648 ≤ v8 ∧ v8 ≤ 2147483647) : v0 = v1 := by omega
theorem ob590 (v0 : Int) (v1 : Int) (v2 : Int) (v3 : Int) (v4 : Int) (v5 : Int) (v6 : Int) (v7 : Int) (v8 : Int) (h0 : v0 = v1 + v2) (h1 : v3 = v1) (h2 : 0 ≤ v1) (h3 : 2147483648 - v1 ≤ v4 + 1) (h4 : v1 < v5) (h5 : v5 ≤ v6) (h6 : 0 ≤ v3 ∧ v3 ≤ 1500) (h7 : v7 = v5) (h8 : v3 ≤ 2147483646 → v8 = v3 + 1) (h9 : -2147483648 ≤ v0 ∧ v0 ≤ 2147483647) (h10 : -2147483648 ≤ v1 ∧ v1 ≤ 2147483647) (h11 : v2 = 1) (h12 : -2147483648 ≤ v3 ∧ v3 ≤ 2147483647) (h13 : -2147483648 ≤ v5 ∧ v5 ≤ 2147483647) (h14 : v6 = 1500) (h15 : -2147483648 ≤ v7 ∧ v7 ≤ 2147483647) (h16 : -2147483648 ≤ v8 ∧ v8 ≤ 2147483647) : 0 ≤ v0 := by omega
theorem ob591 (v0 : Int) (v1 : Int) (v2 : Int) (v3 : Int) (v4 : Int) (v5 : Int) (v6 : Int) (v7 : Int) (v8 : Int) (h0 : v1 ≤ 2147483646 → v0 = v1 + 1) (h1 : v1 = v2) (h2 : 0 ≤ v1 ∧ v1 ≤ 1500) (h3 : 0 ≤ v2) (h4 : 2147483648 - v2 ≤ v3 + 1) (h5 : v2 < v4) (h6 : v5 = v2 + v6) (h7 : v4 ≤ v7) (h8 : v8 = v4) (h9 : -2147483648 ≤ v0 ∧ v0 ≤ 2147483647) (h10 : -2147483648 ≤ v1 ∧ v1 ≤ 2147483647) (h11 : -2147483648 ≤ v2 ∧ v2 ≤ 2147483647) (h12 : -2147483648 ≤ v4 ∧ v4 ≤ 2147483647) (h13 : -2147483648 ≤ v5 ∧ v5 ≤ 2147483647) (h14 : v6 = 1) (h15 : v7 = 1500) (h16 : -2147483648 ≤ v8 ∧ v8 ≤ 2147483647) : 0 ≤ v0 ∧ v0 ≤ 1500 := by omega
theorem ob592 (v0 : Int) (v1 : Int) (h0 : v0 = v1) (h1 : -2147483648 ≤ v0 ∧ v0 ≤ 2147483647) (h2 : v1 = 0) : v0 = v1 := by omega
theorem ob593 (v0 : Int) (v1 : Int) (h0 : v1 = v0) (h1 : v0 = 0) (h2 : -2147483648 ≤ v1 ∧ v1 ≤ 2147483647) : 0 ≤ v0 := by omega
theorem ob594 (v0 : Int) (v1 : Int) (h0 : v0 = v1) (h1 : -2147483648 ≤ v0 ∧ v0 ≤ 2147483647) (h2 : v1 = 0) : 0 ≤ v0 ∧ v0 ≤ 1500 := by omega
theorem ob595 (v0 : Int) (h0 : 0 ≤ v0 ∧ v0 ≤ 32) (h1 : -2147483648 ≤ v0 ∧ v0 ≤ 2147483647) : 0 ≤ v0 := by omega
theorem ob596 (v0 : Int) (v1 : Int) (v2 : Int) (v3 : Int) (v4 : Int) (v5 : Int) (h0 : v0 = v1 % 8) (h1 : v2 ≤ v1) (h2 : v1 < v3) (h3 : v4 ≠ v2) (h4 : v3 = v5 / 4) (h5 : 0 ≤ v4 ∧ v4 ≤ 1) (h6 : 0 ≤ v5 ∧ v5 ≤ 32) (h7 : -2147483648 ≤ v0 ∧ v0 ≤ 2147483647) (h8 : -2147483648 ≤ v1 ∧ v1 ≤ 2147483647) (h9 : v2 = 0) (h10 : -2147483648 ≤ v3 ∧ v3 ≤ 2147483647) (h11 : -2147483648 ≤ v4 ∧ v4 ≤ 2147483647) (h12 : -2147483648 ≤ v5 ∧ v5 ≤ 2147483647) : 0 ≤ v0 ∧ v0 < (8 : Nat) := by omega
theorem ob597 (v0 : Int) (h0 : v0 = 0) : -1000000000 ≤ v0 ∧ v0 ≤ 1000000000 := by omega
theorem ob598 (v0 : Int) (h0 : v0 ≤ 600000) (h1 : -2147483648 ≤ v0 ∧ v0 ≤ 2147483647) : v0 ≤ 1000000000 := by omega
set_option maxHeartbeats 4000000 in
set_option maxRecDepth 100000 in
/-- X10_setCoding on (1,) -/
theorem jx_X10_setCoding (l : Launch) (hlt : l.stackTraces = false) (D : va_G) (t3 : Nat × Nat × Nat) (cI cJ : ClassId) (ad : Nat → Nat) (g : Nat → Int32) (lg : Nat → Int64) (ar : Nat → Nat → Int32) (bk : Nat → Int64) (sz : Nat) (y1 : Int32) (y2 : Int32) (y3 : Int32) (hi_g3 : 0 ≤ (g 3).toInt ∧ (g 3).toInt ≤ 4) (hi_g4 : 0 ≤ (g 4).toInt ∧ (g 4).toInt ≤ 4) : JMi l yX10_setCoding (Cond.code yX10_setCoding cX10_setCoding 4 (some .boolean) :: wwX) { frames := 0, cells := 1, slots := 6, locals := 0 } t3 D xw cI cJ ad [.ref (ad 1), .int y1, .int y2, .int y3] (xw cI cJ ad g lg ar bk) sz 1 6 (fun (r : Int32) g' lg' ar' bk' => hk_fr [3, 4, 5, 6] g g' ∧ lg = lg' ∧ ar = ar' ∧ bk = bk' ∧ (0 ≤ (g' 3).toInt ∧ (g' 3).toInt ≤ 4) ∧ (0 ≤ (g' 4).toInt ∧ (g' 4).toInt ≤ 4)) (fun g' lg' ar' bk' => False) := by
  refine jx_metz (cc := cX10_setCoding) (maxL := 4) (ret := (some .boolean)) rfl (by decide) rfl (Nat.le_of_ble_eq_true rfl) ?_
  intro p e s m args below meth c ls Q A hx hb hml hown hts hA hZ hw hl hQ kr kt
  have hq : ∀ w ∈ wwX, w.before args s = true := fun w h => hts w (List.mem_cons_of_mem _ h)
  have hl : lv_has ls 4 [(0, .ref (ad 1)), (1, .int y1), (2, .int y2), (3, .int y3)] := hl
  refine lv_iload_n hx hb dX10_setCoding_0 rfl (lv_at hl 1 rfl) ?_
  have B1 : ∀  (ls : Array Slot) (H : Heap) (locs : List Loc), hk_W D (jT cI cJ) A s H locs (xw cI cJ ad g lg ar bk) → lv_has ls 4 [(0, .ref (ad 1)), (1, .int y1), (2, .int y2), (3, .int y3)] → W p l e { frames := 0, cells := 1, slots := 6, locals := 0 } s m args below meth c H locs 0 0 Q (F0 m 25 ls []) := by
    intro ls H locs hw hl
    refine lv_iload_n hx hb dX10_setCoding_25 rfl (lv_at hl 1 rfl) ?_
    refine lv_iconst (v := 1) hx hb dX10_setCoding_26 (by decide) ?_
    have B2 : ∀  (ls : Array Slot) (H : Heap) (locs : List Loc), hk_W D (jT cI cJ) A s H locs (xw cI cJ ad g lg ar bk) → lv_has ls 4 [(0, .ref (ad 1)), (1, .int y1), (2, .int y2), (3, .int y3)] → W p l e { frames := 0, cells := 1, slots := 6, locals := 0 } s m args below meth c H locs 0 0 Q (F0 m 51 ls []) := by
      intro ls H locs hw hl
      refine lv_iload_n hx hb dX10_setCoding_51 rfl (lv_at hl 1 rfl) ?_
      refine lv_iconst (v := 2) hx hb dX10_setCoding_52 (by decide) ?_
      have B3 : ∀  (ls : Array Slot) (H : Heap) (locs : List Loc), hk_W D (jT cI cJ) A s H locs (xw cI cJ ad g lg ar bk) → lv_has ls 4 [(0, .ref (ad 1)), (1, .int y1), (2, .int y2), (3, .int y3)] → W p l e { frames := 0, cells := 1, slots := 6, locals := 0 } s m args below meth c H locs 0 0 Q (F0 m 72 ls []) := by
        intro ls H locs hw hl
        refine lv_iload_n hx hb dX10_setCoding_72 rfl (lv_at hl 1 rfl) ?_
        refine lv_iconst (v := 3) hx hb dX10_setCoding_73 (by decide) ?_
        refine lv_icmp_ne (tgt := 106) hx hb dX10_setCoding_74 (by decide) (fun cc4 => ?_) (fun cc4 => ?_)
        · refine lv_iconst (v := 0) hx hb dX10_setCoding_106 (by decide) ?_
          exact kr 0 g lg ar bk _ _ _ _ rfl ⟨hk_fr0, rfl, rfl, rfl, (ob367 ((g 3).toInt) hi_g3 (hE_rng (g 3))), (ob367 ((g 4).toInt) hi_g4 (hE_rng (g 4)))⟩ hw dX10_setCoding_107
        · refine lv_iload_n hx hb dX10_setCoding_77 rfl (lv_at hl 2 rfl) ?_
          refine lv_iload_n hx hb dX10_setCoding_78 rfl (lv_at hl 3 rfl) ?_
          have B5 : ∀  (x6 : Int32) (ls : Array Slot) (H : Heap) (locs : List Loc), (1 ≤ (x6).toInt ∧ (x6).toInt ≤ 4096) → hk_W D (jT cI cJ) A s H locs (xw cI cJ ad g lg ar bk) → lv_has ls 4 [(0, .ref (ad 1)), (2, .int y2)] → W p l e { frames := 0, cells := 1, slots := 6, locals := 0 } s m args below meth c H locs 0 0 Q (F0 m 89 ls [.int x6, .int y2]) := by
            intro x6 ls H locs hf_B5_0 hw hl
            refine lv_icmp_lt (tgt := 106) hx hb dX10_setCoding_89 (by decide) (fun cc7 => ?_) (fun cc7 => ?_)
            · refine lv_iconst (v := 0) hx hb dX10_setCoding_106 (by decide) ?_
              exact kr 0 g lg ar bk _ _ _ _ rfl ⟨hk_fr0, rfl, rfl, rfl, (ob367 ((g 3).toInt) hi_g3 (hE_rng (g 3))), (ob367 ((g 4).toInt) hi_g4 (hE_rng (g 4)))⟩ hw dX10_setCoding_107
            · refine lv_iload_n hx hb dX10_setCoding_92 rfl (lv_at hl 1 rfl) ?_
              refine lv_sipush (v := 4096) hx hb dX10_setCoding_93 (by decide) ?_
              refine lv_icmp_gt (tgt := 106) hx hb dX10_setCoding_96 (by decide) (fun cc8 => ?_) (fun cc8 => ?_)
              · refine lv_iconst (v := 0) hx hb dX10_setCoding_106 (by decide) ?_
                exact kr 0 g lg ar bk _ _ _ _ rfl ⟨hk_fr0, rfl, rfl, rfl, (ob367 ((g 3).toInt) hi_g3 (hE_rng (g 3))), (ob367 ((g 4).toInt) hi_g4 (hE_rng (g 4)))⟩ hw dX10_setCoding_107
              · refine lv_aload_n hx hb dX10_setCoding_99 rfl (lv_at hl 0 rfl) ?_
                refine lv_iload_n hx hb dX10_setCoding_100 rfl (lv_at hl 1 rfl) ?_
                refine jx_putg xw (g := g) (lg := lg) (ar := ar) (bk := bk) (x := y2) 6 (ci := 13) (C := RX10) (T := TX10) (N := 10) (ty := .int) hx hb hts (fun _ h => List.mem_cons_of_mem _ (wwXc_wsX100 _ h)) tyX10 tyX10_ok nmX10 hown hw 1 rfl rfl 3 (by decide) (hq _ wX_54) rfl (by decide +kernel) rfl rfl (Nat.le_of_ble_eq_true rfl) dX10_setCoding_101 rfl (fun H locs g9 h_g9 hw => ?_)
                refine lv_iconst (v := 1) hx hb dX10_setCoding_104 (by decide) ?_
                have e_g9_3 : g9 3 = (g 3) := (hk_upgN h_g9 3 rfl)
                have e_g9_4 : g9 4 = (g 4) := (hk_upgN h_g9 4 rfl)
                exact kr 1 g9 lg ar bk _ _ _ _ rfl ⟨(hk_frG hk_fr0 (by decide) h_g9), rfl, rfl, rfl, (ob92 ((g9 3).toInt) ((g 3).toInt) (congrArg Int32.toInt e_g9_3) hi_g3 (hE_rng (g9 3)) (hE_rng (g 3))), (ob92 ((g9 4).toInt) ((g 4).toInt) (congrArg Int32.toInt e_g9_4) hi_g4 (hE_rng (g9 4)) (hE_rng (g 4)))⟩ hw dX10_setCoding_105
          refine lv_if_eq (tgt := 88) hx hb dX10_setCoding_79 (by decide) (fun cc10 => ?_) (fun cc10 => ?_)
          · refine lv_iconst (v := 1) hx hb dX10_setCoding_88 (by decide) ?_
            exact B5 1 ls _ _ (ob545 (((1 : Int32)).toInt) (by decide)) hw (lv_sub hl [0, 2] rfl)
          · refine lv_sipush (v := 4096) hx hb dX10_setCoding_82 (by decide) ?_
            refine lv_goto (tgt := 89) hx hb dX10_setCoding_85 (by decide) ?_
            exact B5 4096 ls _ _ (ob546 (((4096 : Int32)).toInt) (by decide)) hw (lv_sub hl [0, 2] rfl)
      refine lv_icmp_ne (tgt := 72) hx hb dX10_setCoding_53 (by decide) (fun cc11 => ?_) (fun cc11 => ?_)
      · exact B3 ls _ _ hw (lv_sub hl [0, 1, 2, 3] rfl)
      · refine lv_iload_n hx hb dX10_setCoding_56 rfl (lv_at hl 2 rfl) ?_
        refine lv_if_lt (tgt := 72) hx hb dX10_setCoding_57 (by decide) (fun cc12 => ?_) (fun cc12 => ?_)
        · exact B3 ls _ _ hw (lv_sub hl [0, 1, 2, 3] rfl)
        · refine lv_iload_n hx hb dX10_setCoding_60 rfl (lv_at hl 2 rfl) ?_
          refine lv_iconst (v := 4) hx hb dX10_setCoding_61 (by decide) ?_
          refine lv_icmp_gt (tgt := 72) hx hb dX10_setCoding_62 (by decide) (fun cc13 => ?_) (fun cc13 => ?_)
          · exact B3 ls _ _ hw (lv_sub hl [0, 1, 2, 3] rfl)
          · refine lv_aload_n hx hb dX10_setCoding_65 rfl (lv_at hl 0 rfl) ?_
            refine lv_iload_n hx hb dX10_setCoding_66 rfl (lv_at hl 2 rfl) ?_
            refine jx_putg xw (g := g) (lg := lg) (ar := ar) (bk := bk) (x := y2) 5 (ci := 13) (C := RX10) (T := TX10) (N := 10) (ty := .int) hx hb hts (fun _ h => List.mem_cons_of_mem _ (wwXc_wsX100 _ h)) tyX10 tyX10_ok nmX10 hown hw 1 rfl rfl 2 (by decide) (hq _ wX_51) rfl (by decide +kernel) rfl rfl (Nat.le_of_ble_eq_true rfl) dX10_setCoding_67 rfl (fun H locs g14 h_g14 hw => ?_)
            refine lv_iconst (v := 1) hx hb dX10_setCoding_70 (by decide) ?_
            have e_g14_3 : g14 3 = (g 3) := (hk_upgN h_g14 3 rfl)
            have e_g14_4 : g14 4 = (g 4) := (hk_upgN h_g14 4 rfl)
            exact kr 1 g14 lg ar bk _ _ _ _ rfl ⟨(hk_frG hk_fr0 (by decide) h_g14), rfl, rfl, rfl, (ob92 ((g14 3).toInt) ((g 3).toInt) (congrArg Int32.toInt e_g14_3) hi_g3 (hE_rng (g14 3)) (hE_rng (g 3))), (ob92 ((g14 4).toInt) ((g 4).toInt) (congrArg Int32.toInt e_g14_4) hi_g4 (hE_rng (g14 4)) (hE_rng (g 4)))⟩ hw dX10_setCoding_71
    refine lv_icmp_ne (tgt := 51) hx hb dX10_setCoding_27 (by decide) (fun cc15 => ?_) (fun cc15 => ?_)
    · exact B2 ls _ _ hw (lv_sub hl [0, 1, 2, 3] rfl)
    · refine lv_iload_n hx hb dX10_setCoding_30 rfl (lv_at hl 2 rfl) ?_
      refine lv_if_lt (tgt := 51) hx hb dX10_setCoding_31 (by decide) (fun cc16 => ?_) (fun cc16 => ?_)
      · exact B2 ls _ _ hw (lv_sub hl [0, 1, 2, 3] rfl)
      · refine lv_iload_n hx hb dX10_setCoding_34 rfl (lv_at hl 2 rfl) ?_
        refine lv_iconst (v := 4) hx hb dX10_setCoding_35 (by decide) ?_
        refine lv_aload_n hx hb dX10_setCoding_36 rfl (lv_at hl 0 rfl) ?_
        refine hk_get (ci := 13) (C := RX10) (T := TX10) (N := 10) (v := .int (g 3)) hx hb hts (fun _ h => List.mem_cons_of_mem _ (wwXc_wsX100 _ h)) hown hw 1 rfl rfl 0 (by decide) (hq _ wX_53) rfl dX10_setCoding_37 ?_
        refine lv_isub hx hb dX10_setCoding_40 (jx_nm fun z17 hz17 => ?_)
        have xz17 : (z17).toInt = ((4 : Int32)).toInt - (g 3).toInt := (hE_imp (hE_sub hz17) (ob547 (((4 : Int32)).toInt) ((g 3).toInt) hi_g3 (by decide) (hE_rng (g 3))))
        refine lv_icmp_gt (tgt := 51) hx hb dX10_setCoding_41 (by decide) (fun cc18 => ?_) (fun cc18 => ?_)
        · exact B2 ls _ _ hw (lv_sub hl [0, 1, 2, 3] rfl)
        · refine lv_aload_n hx hb dX10_setCoding_44 rfl (lv_at hl 0 rfl) ?_
          refine lv_iload_n hx hb dX10_setCoding_45 rfl (lv_at hl 2 rfl) ?_
          refine jx_putg xw (g := g) (lg := lg) (ar := ar) (bk := bk) (x := y2) 4 (ci := 13) (C := RX10) (T := TX10) (N := 10) (ty := .int) hx hb hts (fun _ h => List.mem_cons_of_mem _ (wwXc_wsX100 _ h)) tyX10 tyX10_ok nmX10 hown hw 1 rfl rfl 1 (by decide) (hq _ wX_52) rfl (by decide +kernel) rfl rfl (Nat.le_of_ble_eq_true rfl) dX10_setCoding_46 rfl (fun H locs g19 h_g19 hw => ?_)
          refine lv_iconst (v := 1) hx hb dX10_setCoding_49 (by decide) ?_
          have e_g19_3 : g19 3 = (g 3) := (hk_upgN h_g19 3 rfl)
          have e_g19_4 : g19 4 = y2 := (hk_upgS h_g19)
          exact kr 1 g19 lg ar bk _ _ _ _ rfl ⟨(hk_frG hk_fr0 (by decide) h_g19), rfl, rfl, rfl, (ob548 ((g19 3).toInt) ((g 3).toInt) ((z17).toInt) (((4 : Int32)).toInt) ((y2).toInt) (((0 : Int32)).toInt) (congrArg Int32.toInt e_g19_3) hi_g3 xz17 (hE_nlt cc18) (hE_nlt cc16) (hE_rng (g19 3)) (hE_rng (g 3)) (hE_rng (z17)) (by decide) (hE_rng (y2)) (by decide)), (ob549 ((g19 4).toInt) ((y2).toInt) (((0 : Int32)).toInt) ((z17).toInt) (((4 : Int32)).toInt) ((g 3).toInt) ((g19 3).toInt) (congrArg Int32.toInt e_g19_4) (hE_nlt cc16) (hE_nlt cc18) xz17 hi_g3 (congrArg Int32.toInt e_g19_3) (hE_rng (g19 4)) (hE_rng (y2)) (by decide) (hE_rng (z17)) (by decide) (hE_rng (g 3)) (hE_rng (g19 3)))⟩ hw dX10_setCoding_50
  refine lv_if_ne (tgt := 25) hx hb dX10_setCoding_1 (by decide) (fun cc20 => ?_) (fun cc20 => ?_)
  · exact B1 ls _ _ hw (lv_sub hl [0, 1, 2, 3] rfl)
  · refine lv_iload_n hx hb dX10_setCoding_4 rfl (lv_at hl 2 rfl) ?_
    refine lv_if_lt (tgt := 25) hx hb dX10_setCoding_5 (by decide) (fun cc21 => ?_) (fun cc21 => ?_)
    · exact B1 ls _ _ hw (lv_sub hl [0, 1, 2, 3] rfl)
    · refine lv_iload_n hx hb dX10_setCoding_8 rfl (lv_at hl 2 rfl) ?_
      refine lv_iconst (v := 4) hx hb dX10_setCoding_9 (by decide) ?_
      refine lv_aload_n hx hb dX10_setCoding_10 rfl (lv_at hl 0 rfl) ?_
      refine hk_get (ci := 13) (C := RX10) (T := TX10) (N := 10) (v := .int (g 4)) hx hb hts (fun _ h => List.mem_cons_of_mem _ (wwXc_wsX100 _ h)) hown hw 1 rfl rfl 1 (by decide) (hq _ wX_52) rfl dX10_setCoding_11 ?_
      refine lv_isub hx hb dX10_setCoding_14 (jx_nm fun z22 hz22 => ?_)
      have xz22 : (z22).toInt = ((4 : Int32)).toInt - (g 4).toInt := (hE_imp (hE_sub hz22) (ob547 (((4 : Int32)).toInt) ((g 4).toInt) hi_g4 (by decide) (hE_rng (g 4))))
      refine lv_icmp_gt (tgt := 25) hx hb dX10_setCoding_15 (by decide) (fun cc23 => ?_) (fun cc23 => ?_)
      · exact B1 ls _ _ hw (lv_sub hl [0, 1, 2, 3] rfl)
      · refine lv_aload_n hx hb dX10_setCoding_18 rfl (lv_at hl 0 rfl) ?_
        refine lv_iload_n hx hb dX10_setCoding_19 rfl (lv_at hl 2 rfl) ?_
        refine jx_putg xw (g := g) (lg := lg) (ar := ar) (bk := bk) (x := y2) 3 (ci := 13) (C := RX10) (T := TX10) (N := 10) (ty := .int) hx hb hts (fun _ h => List.mem_cons_of_mem _ (wwXc_wsX100 _ h)) tyX10 tyX10_ok nmX10 hown hw 1 rfl rfl 0 (by decide) (hq _ wX_53) rfl (by decide +kernel) rfl rfl (Nat.le_of_ble_eq_true rfl) dX10_setCoding_20 rfl (fun H locs g24 h_g24 hw => ?_)
        refine lv_iconst (v := 1) hx hb dX10_setCoding_23 (by decide) ?_
        have e_g24_3 : g24 3 = y2 := (hk_upgS h_g24)
        have e_g24_4 : g24 4 = (g 4) := (hk_upgN h_g24 4 rfl)
        exact kr 1 g24 lg ar bk _ _ _ _ rfl ⟨(hk_frG hk_fr0 (by decide) h_g24), rfl, rfl, rfl, (ob550 ((g24 3).toInt) ((y2).toInt) (((0 : Int32)).toInt) ((z22).toInt) ((y1).toInt) (((4 : Int32)).toInt) ((g 4).toInt) (congrArg Int32.toInt e_g24_3) (hE_nlt cc21) (hE_nlt cc23) (hE_eq cc20) xz22 hi_g4 (hE_rng (g24 3)) (hE_rng (y2)) (by decide) (hE_rng (z22)) (hE_rng (y1)) (by decide) (hE_rng (g 4))), (ob551 ((g24 4).toInt) ((g 4).toInt) ((z22).toInt) (((4 : Int32)).toInt) ((y2).toInt) (((0 : Int32)).toInt) ((g24 3).toInt) ((y1).toInt) (congrArg Int32.toInt e_g24_4) hi_g4 xz22 (hE_nlt cc23) (hE_nlt cc21) (congrArg Int32.toInt e_g24_3) (hE_eq cc20) (hE_rng (g24 4)) (hE_rng (g 4)) (hE_rng (z22)) (by decide) (hE_rng (y2)) (by decide) (hE_rng (g24 3)) (hE_rng (y1)))⟩ hw dX10_setCoding_24

set_option maxHeartbeats 4000000 in
set_option maxRecDepth 100000 in
/-- X10_setShape on (1,) -/
theorem jx_X10_setShape (l : Launch) (hlt : l.stackTraces = false) (D : va_G) (t3 : Nat × Nat × Nat) (cI cJ : ClassId) (ad : Nat → Nat) (g : Nat → Int32) (lg : Nat → Int64) (ar : Nat → Nat → Int32) (bk : Nat → Int64) (sz : Nat) (y1 : Int32) (y2 : Int32) (hi_g7 : 1 ≤ (g 7).toInt ∧ (g 7).toInt ≤ 1500) (hi_g8 : 1 ≤ (g 8).toInt ∧ (g 8).toInt ≤ 1500) : JMi l yX10_setShape (Cond.code yX10_setShape cX10_setShape 3 (some .boolean) :: wwX) { frames := 1, cells := 1, slots := 6, locals := 20 } t3 D xw cI cJ ad [.ref (ad 1), .int y1, .int y2] (xw cI cJ ad g lg ar bk) sz 1 6 (fun (r : Int32) g' lg' ar' bk' => hk_fr [7, 8, 9, 10] g g' ∧ lg = lg' ∧ ar = ar' ∧ bk = bk' ∧ (1 ≤ (g' 7).toInt ∧ (g' 7).toInt ≤ 1500) ∧ (1 ≤ (g' 8).toInt ∧ (g' 8).toInt ≤ 1500)) (fun g' lg' ar' bk' => False) := by
  refine jx_metz (cc := cX10_setShape) (maxL := 3) (ret := (some .boolean)) rfl (by decide) rfl (Nat.le_of_ble_eq_true rfl) ?_
  intro p e s m args below meth c ls Q A hx hb hml hown hts hA hZ hw hl hQ kr kt
  have hq : ∀ w ∈ wwX, w.before args s = true := fun w h => hts w (List.mem_cons_of_mem _ h)
  have hl : lv_has ls 3 [(0, .ref (ad 1)), (1, .int y1), (2, .int y2)] := hl
  refine lv_iload_n hx hb dX10_setShape_0 rfl (lv_at hl 1 rfl) ?_
  refine lv_iconst (v := 4) hx hb dX10_setShape_1 (by decide) ?_
  have B1 : ∀  (ls : Array Slot) (H : Heap) (locs : List Loc), hk_W D (jT cI cJ) A s H locs (xw cI cJ ad g lg ar bk) → lv_has ls 3 [(0, .ref (ad 1)), (1, .int y1), (2, .int y2)] → W p l e { frames := 1, cells := 1, slots := 6, locals := 20 } s m args below meth c H locs 0 0 Q (F0 m 24 ls []) := by
    intro ls H locs hw hl
    refine lv_iload_n hx hb dX10_setShape_24 rfl (lv_at hl 1 rfl) ?_
    refine lv_iconst (v := 5) hx hb dX10_setShape_25 (by decide) ?_
    have B2 : ∀  (ls : Array Slot) (H : Heap) (locs : List Loc), hk_W D (jT cI cJ) A s H locs (xw cI cJ ad g lg ar bk) → lv_has ls 3 [(0, .ref (ad 1)), (1, .int y1), (2, .int y2)] → W p l e { frames := 1, cells := 1, slots := 6, locals := 20 } s m args below meth c H locs 0 0 Q (F0 m 48 ls []) := by
      intro ls H locs hw hl
      refine lv_iload_n hx hb dX10_setShape_48 rfl (lv_at hl 1 rfl) ?_
      refine lv_bipush (v := 6) hx hb dX10_setShape_49 (by decide) ?_
      have B3 : ∀  (ls : Array Slot) (H : Heap) (locs : List Loc), hk_W D (jT cI cJ) A s H locs (xw cI cJ ad g lg ar bk) → lv_has ls 3 [(0, .ref (ad 1)), (1, .int y1), (2, .int y2)] → W p l e { frames := 1, cells := 1, slots := 6, locals := 20 } s m args below meth c H locs 0 0 Q (F0 m 68 ls []) := by
        intro ls H locs hw hl
        refine lv_iload_n hx hb dX10_setShape_68 rfl (lv_at hl 1 rfl) ?_
        refine lv_bipush (v := 7) hx hb dX10_setShape_69 (by decide) ?_
        refine lv_icmp_ne (tgt := 90) hx hb dX10_setShape_71 (by decide) (fun cc4 => ?_) (fun cc4 => ?_)
        · refine lv_iconst (v := 0) hx hb dX10_setShape_90 (by decide) ?_
          exact kr 0 g lg ar bk _ _ _ _ rfl ⟨hk_fr0, rfl, rfl, rfl, (ob552 ((g 7).toInt) hi_g7 (hE_rng (g 7))), (ob552 ((g 8).toInt) hi_g8 (hE_rng (g 8)))⟩ hw dX10_setShape_91
        · refine lv_iload_n hx hb dX10_setShape_74 rfl (lv_at hl 2 rfl) ?_
          have B5 : ∀  (ls : Array Slot) (H : Heap) (locs : List Loc), hk_W D (jT cI cJ) A s H locs (xw cI cJ ad g lg ar bk) → lv_has ls 3 [(0, .ref (ad 1)), (2, .int y2)] → W p l e { frames := 1, cells := 1, slots := 6, locals := 20 } s m args below meth c H locs 0 0 Q (F0 m 83 ls []) := by
            intro ls H locs hw hl
            refine lv_aload_n hx hb dX10_setShape_83 rfl (lv_at hl 0 rfl) ?_
            refine lv_iload_n hx hb dX10_setShape_84 rfl (lv_at hl 1 rfl) ?_
            refine jx_putg xw (g := g) (lg := lg) (ar := ar) (bk := bk) (x := y2) 10 (ci := 13) (C := RX10) (T := TX10) (N := 10) (ty := .int) hx hb hts (fun _ h => List.mem_cons_of_mem _ (wwXc_wsX100 _ h)) tyX10 tyX10_ok nmX10 hown hw 1 rfl rfl 7 (by decide) (hq _ wX_63) rfl (by decide +kernel) rfl rfl (Nat.le_of_ble_eq_true rfl) dX10_setShape_85 rfl (fun H locs g6 h_g6 hw => ?_)
            refine lv_iconst (v := 1) hx hb dX10_setShape_88 (by decide) ?_
            have e_g6_7 : g6 7 = (g 7) := (hk_upgN h_g6 7 rfl)
            have e_g6_8 : g6 8 = (g 8) := (hk_upgN h_g6 8 rfl)
            exact kr 1 g6 lg ar bk _ _ _ _ rfl ⟨(hk_frG hk_fr0 (by decide) h_g6), rfl, rfl, rfl, (ob553 ((g6 7).toInt) ((g 7).toInt) (congrArg Int32.toInt e_g6_7) hi_g7 (hE_rng (g6 7)) (hE_rng (g 7))), (ob553 ((g6 8).toInt) ((g 8).toInt) (congrArg Int32.toInt e_g6_8) hi_g8 (hE_rng (g6 8)) (hE_rng (g 8)))⟩ hw dX10_setShape_89
          refine lv_if_eq (tgt := 83) hx hb dX10_setShape_75 (by decide) (fun cc7 => ?_) (fun cc7 => ?_)
          · exact B5 ls _ _ hw (lv_sub hl [0, 2] rfl)
          · refine lv_iload_n hx hb dX10_setShape_78 rfl (lv_at hl 2 rfl) ?_
            refine lv_iconst (v := 1) hx hb dX10_setShape_79 (by decide) ?_
            refine lv_icmp_ne (tgt := 90) hx hb dX10_setShape_80 (by decide) (fun cc8 => ?_) (fun cc8 => ?_)
            · refine lv_iconst (v := 0) hx hb dX10_setShape_90 (by decide) ?_
              exact kr 0 g lg ar bk _ _ _ _ rfl ⟨hk_fr0, rfl, rfl, rfl, (ob552 ((g 7).toInt) hi_g7 (hE_rng (g 7))), (ob552 ((g 8).toInt) hi_g8 (hE_rng (g 8)))⟩ hw dX10_setShape_91
            · exact B5 ls _ _ hw (lv_sub hl [0, 2] rfl)
      refine lv_icmp_ne (tgt := 68) hx hb dX10_setShape_51 (by decide) (fun cc9 => ?_) (fun cc9 => ?_)
      · exact B3 ls _ _ hw (lv_sub hl [0, 1, 2] rfl)
      · refine lv_iload_n hx hb dX10_setShape_54 rfl (lv_at hl 2 rfl) ?_
        refine jx_Si (As := [.int y2]) (rest := []) ⟨hx, hb, hml, hown, hts⟩ hZ hw hA (jx_X0_isKind l hlt D t3 cI cJ ad g lg ar bk _ y2) (va_cwS 1 hts (jx_gS wwX_good wX_59 wX_60 wX_12 wX_61) rfl rfl rfl (by decide +kernel) ⟨Nat.le_of_ble_eq_true rfl, Nat.le_of_ble_eq_true rfl⟩) rfl hl.1 rfl (Nat.le_of_ble_eq_true rfl) dX10_setShape_55 ⟨Nat.le_of_ble_eq_true rfl, Nat.le_of_ble_eq_true rfl⟩ (fun _ _ _ _ _ _ _ _ hp _ _ _ _ => hp.elim) (fun r14 g15 l16 a17 b18 H locs hp19 hw => ?_)
        obtain ⟨rfl, rfl, rfl, rfl, h24⟩ := hp19
        refine lv_if_eq (tgt := 68) hx hb dX10_setShape_58 (by decide) (fun cc25 => ?_) (fun cc25 => ?_)
        · exact B3 ls _ _ hw (lv_sub hl [0, 1, 2] rfl)
        · refine lv_aload_n hx hb dX10_setShape_61 rfl (lv_at hl 0 rfl) ?_
          refine lv_iload_n hx hb dX10_setShape_62 rfl (lv_at hl 2 rfl) ?_
          refine jx_putg xw (g := g) (lg := lg) (ar := ar) (bk := bk) (x := y2) 9 (ci := 13) (C := RX10) (T := TX10) (N := 10) (ty := .int) hx hb hts (fun _ h => List.mem_cons_of_mem _ (wwXc_wsX100 _ h)) tyX10 tyX10_ok nmX10 hown hw 1 rfl rfl 6 (by decide) (hq _ wX_62) rfl (by decide +kernel) rfl rfl (Nat.le_of_ble_eq_true rfl) dX10_setShape_63 rfl (fun H locs g26 h_g26 hw => ?_)
          refine lv_iconst (v := 1) hx hb dX10_setShape_66 (by decide) ?_
          have e_g26_7 : g26 7 = (g 7) := (hk_upgN h_g26 7 rfl)
          have e_g26_8 : g26 8 = (g 8) := (hk_upgN h_g26 8 rfl)
          exact kr 1 g26 lg ar bk _ _ _ _ rfl ⟨(hk_frG hk_fr0 (by decide) h_g26), rfl, rfl, rfl, (ob553 ((g26 7).toInt) ((g 7).toInt) (congrArg Int32.toInt e_g26_7) hi_g7 (hE_rng (g26 7)) (hE_rng (g 7))), (ob553 ((g26 8).toInt) ((g 8).toInt) (congrArg Int32.toInt e_g26_8) hi_g8 (hE_rng (g26 8)) (hE_rng (g 8)))⟩ hw dX10_setShape_67
    refine lv_icmp_ne (tgt := 48) hx hb dX10_setShape_26 (by decide) (fun cc27 => ?_) (fun cc27 => ?_)
    · exact B2 ls _ _ hw (lv_sub hl [0, 1, 2] rfl)
    · refine lv_iload_n hx hb dX10_setShape_29 rfl (lv_at hl 2 rfl) ?_
      refine lv_iconst (v := 1) hx hb dX10_setShape_30 (by decide) ?_
      refine lv_icmp_lt (tgt := 48) hx hb dX10_setShape_31 (by decide) (fun cc28 => ?_) (fun cc28 => ?_)
      · exact B2 ls _ _ hw (lv_sub hl [0, 1, 2] rfl)
      · refine lv_iload_n hx hb dX10_setShape_34 rfl (lv_at hl 2 rfl) ?_
        refine lv_sipush (v := 1500) hx hb dX10_setShape_35 (by decide) ?_
        refine lv_icmp_gt (tgt := 48) hx hb dX10_setShape_38 (by decide) (fun cc29 => ?_) (fun cc29 => ?_)
        · exact B2 ls _ _ hw (lv_sub hl [0, 1, 2] rfl)
        · refine lv_aload_n hx hb dX10_setShape_41 rfl (lv_at hl 0 rfl) ?_
          refine lv_iload_n hx hb dX10_setShape_42 rfl (lv_at hl 2 rfl) ?_
          refine jx_putg xw (g := g) (lg := lg) (ar := ar) (bk := bk) (x := y2) 8 (ci := 13) (C := RX10) (T := TX10) (N := 10) (ty := .int) hx hb hts (fun _ h => List.mem_cons_of_mem _ (wwXc_wsX100 _ h)) tyX10 tyX10_ok nmX10 hown hw 1 rfl rfl 5 (by decide) (hq _ wX_58) rfl (by decide +kernel) rfl rfl (Nat.le_of_ble_eq_true rfl) dX10_setShape_43 rfl (fun H locs g30 h_g30 hw => ?_)
          refine lv_iconst (v := 1) hx hb dX10_setShape_46 (by decide) ?_
          have e_g30_7 : g30 7 = (g 7) := (hk_upgN h_g30 7 rfl)
          have e_g30_8 : g30 8 = y2 := (hk_upgS h_g30)
          exact kr 1 g30 lg ar bk _ _ _ _ rfl ⟨(hk_frG hk_fr0 (by decide) h_g30), rfl, rfl, rfl, (ob553 ((g30 7).toInt) ((g 7).toInt) (congrArg Int32.toInt e_g30_7) hi_g7 (hE_rng (g30 7)) (hE_rng (g 7))), (ob554 ((g30 8).toInt) ((y2).toInt) (((1 : Int32)).toInt) (((1500 : Int32)).toInt) (congrArg Int32.toInt e_g30_8) (hE_nlt cc28) (hE_nlt cc29) (hE_rng (g30 8)) (hE_rng (y2)) (by decide) (by decide))⟩ hw dX10_setShape_47
  refine lv_icmp_ne (tgt := 24) hx hb dX10_setShape_2 (by decide) (fun cc31 => ?_) (fun cc31 => ?_)
  · exact B1 ls _ _ hw (lv_sub hl [0, 1, 2] rfl)
  · refine lv_iload_n hx hb dX10_setShape_5 rfl (lv_at hl 2 rfl) ?_
    refine lv_iconst (v := 1) hx hb dX10_setShape_6 (by decide) ?_
    refine lv_icmp_lt (tgt := 24) hx hb dX10_setShape_7 (by decide) (fun cc32 => ?_) (fun cc32 => ?_)
    · exact B1 ls _ _ hw (lv_sub hl [0, 1, 2] rfl)
    · refine lv_iload_n hx hb dX10_setShape_10 rfl (lv_at hl 2 rfl) ?_
      refine lv_sipush (v := 1500) hx hb dX10_setShape_11 (by decide) ?_
      refine lv_icmp_gt (tgt := 24) hx hb dX10_setShape_14 (by decide) (fun cc33 => ?_) (fun cc33 => ?_)
      · exact B1 ls _ _ hw (lv_sub hl [0, 1, 2] rfl)
      · refine lv_aload_n hx hb dX10_setShape_17 rfl (lv_at hl 0 rfl) ?_
        refine lv_iload_n hx hb dX10_setShape_18 rfl (lv_at hl 2 rfl) ?_
        refine jx_putg xw (g := g) (lg := lg) (ar := ar) (bk := bk) (x := y2) 7 (ci := 13) (C := RX10) (T := TX10) (N := 10) (ty := .int) hx hb hts (fun _ h => List.mem_cons_of_mem _ (wwXc_wsX100 _ h)) tyX10 tyX10_ok nmX10 hown hw 1 rfl rfl 4 (by decide) (hq _ wX_57) rfl (by decide +kernel) rfl rfl (Nat.le_of_ble_eq_true rfl) dX10_setShape_19 rfl (fun H locs g34 h_g34 hw => ?_)
        refine lv_iconst (v := 1) hx hb dX10_setShape_22 (by decide) ?_
        have e_g34_7 : g34 7 = y2 := (hk_upgS h_g34)
        have e_g34_8 : g34 8 = (g 8) := (hk_upgN h_g34 8 rfl)
        exact kr 1 g34 lg ar bk _ _ _ _ rfl ⟨(hk_frG hk_fr0 (by decide) h_g34), rfl, rfl, rfl, (ob554 ((g34 7).toInt) ((y2).toInt) (((1 : Int32)).toInt) (((1500 : Int32)).toInt) (congrArg Int32.toInt e_g34_7) (hE_nlt cc32) (hE_nlt cc33) (hE_rng (g34 7)) (hE_rng (y2)) (by decide) (by decide)), (ob553 ((g34 8).toInt) ((g 8).toInt) (congrArg Int32.toInt e_g34_8) hi_g8 (hE_rng (g34 8)) (hE_rng (g 8)))⟩ hw dX10_setShape_23

set_option maxHeartbeats 4000000 in
set_option maxRecDepth 100000 in
/-- X11_property on (0,) -/
theorem jx_X11_property (l : Launch) (hlt : l.stackTraces = false) (D : va_G) (t3 : Nat × Nat × Nat) (cI cJ : ClassId) (ad : Nat → Nat) (g : Nat → Int32) (lg : Nat → Int64) (ar : Nat → Nat → Int32) (bk : Nat → Int64) (sz : Nat) (y1 : Int32) (y2 : Int32) (hi_g3 : 0 ≤ (g 3).toInt ∧ (g 3).toInt ≤ 4) (hi_g4 : 0 ≤ (g 4).toInt ∧ (g 4).toInt ≤ 4) (hi_g7 : 1 ≤ (g 7).toInt ∧ (g 7).toInt ≤ 1500) (hi_g8 : 1 ≤ (g 8).toInt ∧ (g 8).toInt ≤ 1500) : JMi l yX11_property (Cond.code yX11_property cX11_property 4 (some .int) :: wwX) { frames := 2, cells := 1, slots := 6, locals := 42 } t3 D xw cI cJ ad [.ref (ad 0), .int y1, .int y2] (xw cI cJ ad g lg ar bk) sz 1 6 (fun (r : Int32) g' lg' ar' bk' => hk_fr [3, 4, 5, 6, 7, 8, 9, 10] g g' ∧ lg = lg' ∧ ar = ar' ∧ bk = bk' ∧ (0 ≤ (g' 3).toInt ∧ (g' 3).toInt ≤ 4) ∧ (0 ≤ (g' 4).toInt ∧ (g' 4).toInt ≤ 4) ∧ (1 ≤ (g' 7).toInt ∧ (g' 7).toInt ≤ 1500) ∧ (1 ≤ (g' 8).toInt ∧ (g' 8).toInt ≤ 1500)) (fun g' lg' ar' bk' => False) := by
  refine jx_meti (cc := cX11_property) (maxL := 4) (ret := (some .int)) rfl (by decide) rfl (Nat.le_of_ble_eq_true rfl) ?_
  intro p e s m args below meth c ls Q A hx hb hml hown hts hA hZ hw hl hQ kr kt
  have hq : ∀ w ∈ wwX, w.before args s = true := fun w h => hts w (List.mem_cons_of_mem _ h)
  have hl : lv_has ls 4 [(0, .ref (ad 0)), (1, .int y1), (2, .int y2)] := hl
  refine lv_iload_n hx hb dX11_property_0 rfl (lv_at hl 1 rfl) ?_
  refine lv_iconst (v := 4) hx hb dX11_property_1 (by decide) ?_
  have B1 : ∀  (x2 : Int32) (g3 : Nat → Int32) (ls : Array Slot) (H : Heap) (locs : List Loc), (0 ≤ (g3 3).toInt ∧ (g3 3).toInt ≤ 4) → (0 ≤ (g3 4).toInt ∧ (g3 4).toInt ≤ 4) → (1 ≤ (g3 7).toInt ∧ (g3 7).toInt ≤ 1500) → (1 ≤ (g3 8).toInt ∧ (g3 8).toInt ≤ 1500) → (hk_fr [3, 4, 5, 6, 7, 8, 9, 10] g g3) → hk_W D (jT cI cJ) A s H locs (xw cI cJ ad g3 lg ar bk) → lv_has ls 4 [] → W p l e { frames := 2, cells := 1, slots := 6, locals := 42 } s m args below meth c H locs 0 0 Q (F0 m 39 ls [.int x2]) := by
    intro x2 g3 ls H locs hf_B1_0 hf_B1_1 hf_B1_2 hf_B1_3 hfr_g3 hw hl
    refine lv_istore_n (lv' := [(3, .int x2)]) hx hb dX11_property_39 rfl hl (by decide) rfl (fun ls hl => ?_)
    refine lv_iload_n hx hb dX11_property_40 rfl (lv_at hl 0 rfl) ?_
    refine lv_if_eq (tgt := 48) hx hb dX11_property_41 (by decide) (fun cc4 => ?_) (fun cc4 => ?_)
    · refine lv_iconst (v := 0) hx hb dX11_property_48 (by decide) ?_
      exact kr 0 g3 lg ar bk _ _ _ _ ⟨hfr_g3, rfl, rfl, rfl, (ob367 ((g3 3).toInt) hf_B1_0 (hE_rng (g3 3))), (ob367 ((g3 4).toInt) hf_B1_1 (hE_rng (g3 4))), (ob552 ((g3 7).toInt) hf_B1_2 (hE_rng (g3 7))), (ob552 ((g3 8).toInt) hf_B1_3 (hE_rng (g3 8)))⟩ hw dX11_property_49
    · refine lv_iconst (v := 1) hx hb dX11_property_44 (by decide) ?_
      refine lv_goto (tgt := 49) hx hb dX11_property_45 (by decide) ?_
      exact kr 1 g3 lg ar bk _ _ _ _ ⟨hfr_g3, rfl, rfl, rfl, (ob367 ((g3 3).toInt) hf_B1_0 (hE_rng (g3 3))), (ob367 ((g3 4).toInt) hf_B1_1 (hE_rng (g3 4))), (ob552 ((g3 7).toInt) hf_B1_2 (hE_rng (g3 7))), (ob552 ((g3 8).toInt) hf_B1_3 (hE_rng (g3 8)))⟩ hw dX11_property_49
  refine lv_icmp_ge (tgt := 30) hx hb dX11_property_2 (by decide) (fun cc5 => ?_) (fun cc5 => ?_)
  · refine lv_aload_n hx hb dX11_property_30 rfl (lv_at hl 0 rfl) ?_
    refine hk_get (ci := 14) (C := RX11) (T := TX11) (N := 11) (v := .ref (ad 1)) hx hb hts (fun _ h => List.mem_cons_of_mem _ (wwXc_wsX110 _ h)) hown hw 0 rfl rfl 1 (by decide) (hq _ wX_88) rfl dX11_property_31 ?_
    refine lv_iload_n hx hb dX11_property_34 rfl (lv_at hl 1 rfl) ?_
    refine lv_iload_n hx hb dX11_property_35 rfl (lv_at hl 2 rfl) ?_
    refine jx_Vi (As := [.int y1, .int y2]) (rest := []) ⟨hx, hb, hml, hown, hts⟩ hZ hw hA (jx_X10_setShape l hlt D t3 cI cJ ad g lg ar bk _ y1 y2 (ob552 ((g 7).toInt) hi_g7 (hE_rng (g 7))) (ob552 ((g 8).toInt) hi_g8 (hE_rng (g 8)))) (cwV 2 hts (jx_gV wwX_good wX_173 wX_174 wX_175 wX_92 wX_176) rfl rfl rfl (by decide +kernel) ⟨Nat.le_of_ble_eq_true rfl, Nat.le_of_ble_eq_true rfl⟩) 1 (ci := 13) (T := TX10) (N := 10) rfl rfl rfl hl.1 rfl (Nat.le_of_ble_eq_true rfl) dX11_property_36 ⟨Nat.le_of_ble_eq_true rfl, Nat.le_of_ble_eq_true rfl⟩ (fun _ _ _ _ _ _ _ _ hp _ _ _ _ => hp.elim) (fun r10 g11 l12 a13 b14 H locs hp15 hw => ?_)
    obtain ⟨h16, rfl, rfl, rfl, h20, h21⟩ := hp15
    have e_g11_3 : g11 3 = (g 3) := (h16 3 rfl)
    have e_g11_4 : g11 4 = (g 4) := (h16 4 rfl)
    exact B1 r10 g11 ls _ _ (ob92 ((g11 3).toInt) ((g 3).toInt) (congrArg Int32.toInt e_g11_3) hi_g3 (hE_rng (g11 3)) (hE_rng (g 3))) (ob92 ((g11 4).toInt) ((g 4).toInt) (congrArg Int32.toInt e_g11_4) hi_g4 (hE_rng (g11 4)) (hE_rng (g 4))) (ob552 ((g11 7).toInt) h20 (hE_rng (g11 7))) (ob552 ((g11 8).toInt) h21 (hE_rng (g11 8))) (hk_frT hk_fr0 (by decide) h16) hw (lv_sub hl [] rfl)
  · refine lv_aload_n hx hb dX11_property_5 rfl (lv_at hl 0 rfl) ?_
    refine hk_get (ci := 14) (C := RX11) (T := TX11) (N := 11) (v := .ref (ad 1)) hx hb hts (fun _ h => List.mem_cons_of_mem _ (wwXc_wsX110 _ h)) hown hw 0 rfl rfl 1 (by decide) (hq _ wX_88) rfl dX11_property_6 ?_
    refine lv_iload_n hx hb dX11_property_9 rfl (lv_at hl 1 rfl) ?_
    refine lv_iload_n hx hb dX11_property_10 rfl (lv_at hl 2 rfl) ?_
    refine lv_aload_n hx hb dX11_property_11 rfl (lv_at hl 0 rfl) ?_
    refine hk_get (ci := 14) (C := RX11) (T := TX11) (N := 11) (v := .int (g 0)) hx hb hts (fun _ h => List.mem_cons_of_mem _ (wwXc_wsX110 _ h)) hown hw 0 rfl rfl 0 (by decide) (hq _ wX_98) rfl dX11_property_12 ?_
    refine lv_iconst (v := 2) hx hb dX11_property_15 (by decide) ?_
    have B22 : ∀  (x23 : Int32) (ls : Array Slot) (H : Heap) (locs : List Loc), (0 ≤ (x23).toInt ∧ (x23).toInt ≤ 1) → hk_W D (jT cI cJ) A s H locs (xw cI cJ ad g lg ar bk) → lv_has ls 4 [] → W p l e { frames := 2, cells := 1, slots := 6, locals := 42 } s m args below meth c H locs 0 0 Q (F0 m 24 ls [.int x23, .int y2, .int y1, .ref (ad 1)]) := by
      intro x23 ls H locs hf_B22_0 hw hl
      refine jx_Vi (As := [.int y1, .int y2, .int x23]) (rest := []) ⟨hx, hb, hml, hown, hts⟩ hZ hw hA (jx_X10_setCoding l hlt D t3 cI cJ ad g lg ar bk _ y1 y2 x23 (ob367 ((g 3).toInt) hi_g3 (hE_rng (g 3))) (ob367 ((g 4).toInt) hi_g4 (hE_rng (g 4)))) (cwV 3 hts (jx_gV wwX_good wX_169 wX_170 wX_171 wX_92 wX_172) rfl rfl rfl (by decide +kernel) ⟨Nat.le_of_ble_eq_true rfl, Nat.le_of_ble_eq_true rfl⟩) 1 (ci := 13) (T := TX10) (N := 10) rfl rfl rfl hl.1 rfl (Nat.le_of_ble_eq_true rfl) dX11_property_24 ⟨Nat.le_of_ble_eq_true rfl, Nat.le_of_ble_eq_true rfl⟩ (fun _ _ _ _ _ _ _ _ hp _ _ _ _ => hp.elim) (fun r28 g29 l30 a31 b32 H locs hp33 hw => ?_)
      obtain ⟨h34, rfl, rfl, rfl, h38, h39⟩ := hp33
      refine lv_goto (tgt := 39) hx hb dX11_property_27 (by decide) ?_
      have e_g29_7 : g29 7 = (g 7) := (h34 7 rfl)
      have e_g29_8 : g29 8 = (g 8) := (h34 8 rfl)
      exact B1 r28 g29 ls _ _ (ob367 ((g29 3).toInt) h38 (hE_rng (g29 3))) (ob367 ((g29 4).toInt) h39 (hE_rng (g29 4))) (ob553 ((g29 7).toInt) ((g 7).toInt) (congrArg Int32.toInt e_g29_7) hi_g7 (hE_rng (g29 7)) (hE_rng (g 7))) (ob553 ((g29 8).toInt) ((g 8).toInt) (congrArg Int32.toInt e_g29_8) hi_g8 (hE_rng (g29 8)) (hE_rng (g 8))) (hk_frT hk_fr0 (by decide) h34) hw (lv_sub hl [] rfl)
    refine lv_icmp_ne (tgt := 23) hx hb dX11_property_16 (by decide) (fun cc40 => ?_) (fun cc40 => ?_)
    · refine lv_iconst (v := 0) hx hb dX11_property_23 (by decide) ?_
      exact B22 0 ls _ _ (ob48 (((0 : Int32)).toInt) (by decide)) hw (lv_sub hl [] rfl)
    · refine lv_iconst (v := 1) hx hb dX11_property_19 (by decide) ?_
      refine lv_goto (tgt := 24) hx hb dX11_property_20 (by decide) ?_
      exact B22 1 ls _ _ (ob49 (((1 : Int32)).toInt) (by decide)) hw (lv_sub hl [] rfl)

set_option maxHeartbeats 4000000 in
set_option maxRecDepth 100000 in
/-- X10_setFilter on (1,) -/
theorem jx_X10_setFilter (l : Launch) (hlt : l.stackTraces = false) (D : va_G) (t3 : Nat × Nat × Nat) (cI cJ : ClassId) (ad : Nat → Nat) (g : Nat → Int32) (lg : Nat → Int64) (ar : Nat → Nat → Int32) (bk : Nat → Int64) (sz : Nat) (y1 : Int32) (y2 : Int32) : JMi l yX10_setFilter (Cond.code yX10_setFilter cX10_setFilter 3 (some .boolean) :: wwX) { frames := 0, cells := 1, slots := 6, locals := 0 } t3 D xw cI cJ ad [.ref (ad 1), .int y1, .int y2] (xw cI cJ ad g lg ar bk) sz 1 6 (fun (r : Int32) g' lg' ar' bk' => hk_fr [11, 12] g g' ∧ lg = lg' ∧ ar = ar' ∧ bk = bk') (fun g' lg' ar' bk' => False) := by
  refine jx_metz (cc := cX10_setFilter) (maxL := 3) (ret := (some .boolean)) rfl (by decide) rfl (Nat.le_of_ble_eq_true rfl) ?_
  intro p e s m args below meth c ls Q A hx hb hml hown hts hA hZ hw hl hQ kr kt
  have hq : ∀ w ∈ wwX, w.before args s = true := fun w h => hts w (List.mem_cons_of_mem _ h)
  have hl : lv_has ls 3 [(0, .ref (ad 1)), (1, .int y1), (2, .int y2)] := hl
  refine lv_iload_n hx hb dX10_setFilter_0 rfl (lv_at hl 1 rfl) ?_
  have B1 : ∀  (ls : Array Slot) (H : Heap) (locs : List Loc), hk_W D (jT cI cJ) A s H locs (xw cI cJ ad g lg ar bk) → lv_has ls 3 [(0, .ref (ad 1)), (1, .int y1), (2, .int y2)] → W p l e { frames := 0, cells := 1, slots := 6, locals := 0 } s m args below meth c H locs 0 0 Q (F0 m 22 ls []) := by
    intro ls H locs hw hl
    refine lv_iload_n hx hb dX10_setFilter_22 rfl (lv_at hl 1 rfl) ?_
    refine lv_iconst (v := 1) hx hb dX10_setFilter_23 (by decide) ?_
    refine lv_icmp_ne (tgt := 43) hx hb dX10_setFilter_24 (by decide) (fun cc2 => ?_) (fun cc2 => ?_)
    · refine lv_iconst (v := 0) hx hb dX10_setFilter_43 (by decide) ?_
      exact kr 0 g lg ar bk _ _ _ _ rfl ⟨hk_fr0, rfl, rfl, rfl⟩ hw dX10_setFilter_44
    · refine lv_iload_n hx hb dX10_setFilter_27 rfl (lv_at hl 2 rfl) ?_
      have B3 : ∀  (ls : Array Slot) (H : Heap) (locs : List Loc), hk_W D (jT cI cJ) A s H locs (xw cI cJ ad g lg ar bk) → lv_has ls 3 [(0, .ref (ad 1)), (2, .int y2)] → W p l e { frames := 0, cells := 1, slots := 6, locals := 0 } s m args below meth c H locs 0 0 Q (F0 m 36 ls []) := by
        intro ls H locs hw hl
        refine lv_aload_n hx hb dX10_setFilter_36 rfl (lv_at hl 0 rfl) ?_
        refine lv_iload_n hx hb dX10_setFilter_37 rfl (lv_at hl 1 rfl) ?_
        refine jx_putg xw (g := g) (lg := lg) (ar := ar) (bk := bk) (x := y2) 12 (ci := 13) (C := RX10) (T := TX10) (N := 10) (ty := .int) hx hb hts (fun _ h => List.mem_cons_of_mem _ (wwXc_wsX100 _ h)) tyX10 tyX10_ok nmX10 hown hw 1 rfl rfl 9 (by decide) (hq _ wX_56) rfl (by decide +kernel) rfl rfl (Nat.le_of_ble_eq_true rfl) dX10_setFilter_38 rfl (fun H locs g4 h_g4 hw => ?_)
        refine lv_iconst (v := 1) hx hb dX10_setFilter_41 (by decide) ?_
        exact kr 1 g4 lg ar bk _ _ _ _ rfl ⟨(hk_frG hk_fr0 (by decide) h_g4), rfl, rfl, rfl⟩ hw dX10_setFilter_42
      refine lv_if_eq (tgt := 36) hx hb dX10_setFilter_28 (by decide) (fun cc5 => ?_) (fun cc5 => ?_)
      · exact B3 ls _ _ hw (lv_sub hl [0, 2] rfl)
      · refine lv_iload_n hx hb dX10_setFilter_31 rfl (lv_at hl 2 rfl) ?_
        refine lv_iconst (v := 1) hx hb dX10_setFilter_32 (by decide) ?_
        refine lv_icmp_ne (tgt := 43) hx hb dX10_setFilter_33 (by decide) (fun cc6 => ?_) (fun cc6 => ?_)
        · refine lv_iconst (v := 0) hx hb dX10_setFilter_43 (by decide) ?_
          exact kr 0 g lg ar bk _ _ _ _ rfl ⟨hk_fr0, rfl, rfl, rfl⟩ hw dX10_setFilter_44
        · exact B3 ls _ _ hw (lv_sub hl [0, 2] rfl)
  refine lv_if_ne (tgt := 22) hx hb dX10_setFilter_1 (by decide) (fun cc7 => ?_) (fun cc7 => ?_)
  · exact B1 ls _ _ hw (lv_sub hl [0, 1, 2] rfl)
  · refine lv_iload_n hx hb dX10_setFilter_4 rfl (lv_at hl 2 rfl) ?_
    refine lv_if_lt (tgt := 22) hx hb dX10_setFilter_5 (by decide) (fun cc8 => ?_) (fun cc8 => ?_)
    · exact B1 ls _ _ hw (lv_sub hl [0, 1, 2] rfl)
    · refine lv_iload_n hx hb dX10_setFilter_8 rfl (lv_at hl 2 rfl) ?_
      refine lv_sipush (v := 256) hx hb dX10_setFilter_9 (by decide) ?_
      refine lv_icmp_gt (tgt := 22) hx hb dX10_setFilter_12 (by decide) (fun cc9 => ?_) (fun cc9 => ?_)
      · exact B1 ls _ _ hw (lv_sub hl [0, 1, 2] rfl)
      · refine lv_aload_n hx hb dX10_setFilter_15 rfl (lv_at hl 0 rfl) ?_
        refine lv_iload_n hx hb dX10_setFilter_16 rfl (lv_at hl 2 rfl) ?_
        refine jx_putg xw (g := g) (lg := lg) (ar := ar) (bk := bk) (x := y2) 11 (ci := 13) (C := RX10) (T := TX10) (N := 10) (ty := .int) hx hb hts (fun _ h => List.mem_cons_of_mem _ (wwXc_wsX100 _ h)) tyX10 tyX10_ok nmX10 hown hw 1 rfl rfl 8 (by decide) (hq _ wX_55) rfl (by decide +kernel) rfl rfl (Nat.le_of_ble_eq_true rfl) dX10_setFilter_17 rfl (fun H locs g10 h_g10 hw => ?_)
        refine lv_iconst (v := 1) hx hb dX10_setFilter_20 (by decide) ?_
        exact kr 1 g10 lg ar bk _ _ _ _ rfl ⟨(hk_frG hk_fr0 (by decide) h_g10), rfl, rfl, rfl⟩ hw dX10_setFilter_21

set_option maxHeartbeats 4000000 in
set_option maxRecDepth 100000 in
/-- X11_filter on (0,) -/
theorem jx_X11_filter (l : Launch) (hlt : l.stackTraces = false) (D : va_G) (t3 : Nat × Nat × Nat) (cI cJ : ClassId) (ad : Nat → Nat) (g : Nat → Int32) (lg : Nat → Int64) (ar : Nat → Nat → Int32) (bk : Nat → Int64) (sz : Nat) (y1 : Int32) (y2 : Int32) : JMi l yX11_filter (Cond.code yX11_filter cX11_filter 3 (some .int) :: wwX) { frames := 1, cells := 1, slots := 6, locals := 22 } t3 D xw cI cJ ad [.ref (ad 0), .int y1, .int y2] (xw cI cJ ad g lg ar bk) sz 1 6 (fun (r : Int32) g' lg' ar' bk' => hk_fr [11, 12] g g' ∧ lg = lg' ∧ ar = ar' ∧ bk = bk') (fun g' lg' ar' bk' => False) := by
  refine jx_meti (cc := cX11_filter) (maxL := 3) (ret := (some .int)) rfl (by decide) rfl (Nat.le_of_ble_eq_true rfl) ?_
  intro p e s m args below meth c ls Q A hx hb hml hown hts hA hZ hw hl hQ kr kt
  have hq : ∀ w ∈ wwX, w.before args s = true := fun w h => hts w (List.mem_cons_of_mem _ h)
  have hl : lv_has ls 3 [(0, .ref (ad 0)), (1, .int y1), (2, .int y2)] := hl
  refine lv_aload_n hx hb dX11_filter_0 rfl (lv_at hl 0 rfl) ?_
  refine hk_get (ci := 14) (C := RX11) (T := TX11) (N := 11) (v := .ref (ad 1)) hx hb hts (fun _ h => List.mem_cons_of_mem _ (wwXc_wsX110 _ h)) hown hw 0 rfl rfl 1 (by decide) (hq _ wX_88) rfl dX11_filter_1 ?_
  refine lv_iload_n hx hb dX11_filter_4 rfl (lv_at hl 1 rfl) ?_
  refine lv_iload_n hx hb dX11_filter_5 rfl (lv_at hl 2 rfl) ?_
  refine jx_Vi (As := [.int y1, .int y2]) (rest := []) ⟨hx, hb, hml, hown, hts⟩ hZ hw hA (jx_X10_setFilter l hlt D t3 cI cJ ad g lg ar bk _ y1 y2) (cwV 2 hts (jx_gV wwX_good wX_89 wX_90 wX_91 wX_92 wX_93) rfl rfl rfl (by decide +kernel) ⟨Nat.le_of_ble_eq_true rfl, Nat.le_of_ble_eq_true rfl⟩) 1 (ci := 13) (T := TX10) (N := 10) rfl rfl rfl hl.1 rfl (Nat.le_of_ble_eq_true rfl) dX11_filter_6 ⟨Nat.le_of_ble_eq_true rfl, Nat.le_of_ble_eq_true rfl⟩ (fun _ _ _ _ _ _ _ _ hp _ _ _ _ => hp.elim) (fun r5 g6 l7 a8 b9 H locs hp10 hw => ?_)
  obtain ⟨h11, rfl, rfl, rfl⟩ := hp10
  refine lv_if_eq (tgt := 16) hx hb dX11_filter_9 (by decide) (fun cc15 => ?_) (fun cc15 => ?_)
  · refine lv_iconst (v := 0) hx hb dX11_filter_16 (by decide) ?_
    exact kr 0 g6 lg ar bk _ _ _ _ ⟨h11, rfl, rfl, rfl⟩ hw dX11_filter_17
  · refine lv_iconst (v := 1) hx hb dX11_filter_12 (by decide) ?_
    refine lv_goto (tgt := 17) hx hb dX11_filter_13 (by decide) ?_
    exact kr 1 g6 lg ar bk _ _ _ _ ⟨h11, rfl, rfl, rfl⟩ hw dX11_filter_17

set_option maxHeartbeats 4000000 in
set_option maxRecDepth 100000 in
/-- X11_feed on (0,) -/
theorem jx_X11_feed (l : Launch) (hlt : l.stackTraces = false) (D : va_G) (t3 : Nat × Nat × Nat) (cI cJ : ClassId) (ad : Nat → Nat) (g : Nat → Int32) (lg : Nat → Int64) (ar : Nat → Nat → Int32) (bk : Nat → Int64) (sz : Nat) (y1 : Int32) (y2 : Int32) (y3 : Int32) (y4 : Int32) (y5 : Int32) (hi_g13 : 0 ≤ (g 13).toInt ∧ (g 13).toInt ≤ 1500) (hi_a0rg : hk_rg 0 255 (ar 0)) : JMi l yX11_feed (Cond.code yX11_feed cX11_feed 6 (some .int) :: wwX) { frames := 3, cells := 1, slots := 6, locals := 67 } t3 D xw cI cJ ad [.ref (ad 0), .int y1, .int y2, .int y3, .int y4, .int y5] (xw cI cJ ad g lg ar bk) sz 1 6 (fun (r : Int32) g' lg' ar' bk' => hk_fr [13] g g' ∧ lg = lg' ∧ hk_fr [0] ar ar' ∧ bk = bk' ∧ (0 ≤ (g' 13).toInt ∧ (g' 13).toInt ≤ 1500) ∧ hk_rg 0 255 (ar' 0)) (fun g' lg' ar' bk' => False) := by
  refine jx_meti (cc := cX11_feed) (maxL := 6) (ret := (some .int)) rfl (by decide) rfl (Nat.le_of_ble_eq_true rfl) ?_
  intro p e s m args below meth c ls Q A hx hb hml hown hts hA hZ hw hl hQ kr kt
  have hq : ∀ w ∈ wwX, w.before args s = true := fun w h => hts w (List.mem_cons_of_mem _ h)
  have hl : lv_has ls 6 [(0, .ref (ad 0)), (1, .int y1), (2, .int y2), (3, .int y3), (4, .int y4), (5, .int y5)] := hl
  refine lv_aload_n hx hb dX11_feed_0 rfl (lv_at hl 0 rfl) ?_
  refine hk_get (ci := 14) (C := RX11) (T := TX11) (N := 11) (v := .ref (ad 2)) hx hb hts (fun _ h => List.mem_cons_of_mem _ (wwXc_wsX110 _ h)) hown hw 0 rfl rfl 2 (by decide) (hq _ wX_83) rfl dX11_feed_1 ?_
  refine hk_get (ci := 12) (C := RX9) (T := TX9) (N := 2) (v := .int (g 13)) hx hb hts (fun _ h => List.mem_cons_of_mem _ (wwXc_wsX90 _ h)) hown hw 2 rfl rfl 1 (by decide) (hq _ wX_77) rfl dX11_feed_4 ?_
  refine lv_sipush (v := 1480) hx hb dX11_feed_7 (by decide) ?_
  refine lv_icmp_le (tgt := 16) hx hb dX11_feed_10 (by decide) (fun cc1 => ?_) (fun cc1 => ?_)
  · refine lv_aload_n hx hb dX11_feed_16 rfl (lv_at hl 0 rfl) ?_
    refine hk_get (ci := 14) (C := RX11) (T := TX11) (N := 11) (v := .ref (ad 2)) hx hb hts (fun _ h => List.mem_cons_of_mem _ (wwXc_wsX110 _ h)) hown hw 0 rfl rfl 2 (by decide) (hq _ wX_83) rfl dX11_feed_17 ?_
    refine lv_iload_n hx hb dX11_feed_20 rfl (lv_at hl 1 rfl) ?_
    refine lv_i2l hx hb dX11_feed_21 rfl (jx_nl fun z2 hz2 => ?_)
    refine lv_iconst (v := 4) hx hb dX11_feed_22 (by decide) ?_
    refine jx_Vv (As := [.long z2, .int 4]) (rest := []) ⟨hx, hb, hml, hown, hts⟩ hZ hw hA (jx_X9_putHigh_2 l hlt D t3 cI cJ ad g lg ar bk _ z2 4 (ob555 (((4 : Int32)).toInt) (by decide)) hi_a0rg) (cwV 2 hts (jx_gV wwX_good wX_84 wX_85 wX_86 wX_24 wX_87) rfl rfl rfl (by decide +kernel) ⟨Nat.le_of_ble_eq_true rfl, Nat.le_of_ble_eq_true rfl⟩) 2 (ci := 12) (T := TX9) (N := 2) rfl rfl rfl hl.1 rfl (Nat.le_of_ble_eq_true rfl) dX11_feed_23 ⟨Nat.le_of_ble_eq_true rfl, Nat.le_of_ble_eq_true rfl⟩ (fun _ _ _ _ _ _ _ _ hp _ _ _ _ => hp.elim) (fun g8 l9 a10 b11 H locs hp12 hw => ?_)
    obtain ⟨h13, rfl, h15, rfl, h17, h18⟩ := hp12
    refine lv_aload_n hx hb dX11_feed_26 rfl (lv_at hl 0 rfl) ?_
    refine hk_get (ci := 14) (C := RX11) (T := TX11) (N := 11) (v := .ref (ad 2)) hx hb hts (fun _ h => List.mem_cons_of_mem _ (wwXc_wsX110 _ h)) hown hw 0 rfl rfl 2 (by decide) (hq _ wX_83) rfl dX11_feed_27 ?_
    refine lv_iload_n hx hb dX11_feed_30 rfl (lv_at hl 2 rfl) ?_
    refine lv_i2l hx hb dX11_feed_31 rfl (jx_nl fun z19 hz19 => ?_)
    refine lv_iconst (v := 4) hx hb dX11_feed_32 (by decide) ?_
    refine jx_Vv (As := [.long z19, .int 4]) (rest := []) ⟨hx, hb, hml, hown, hts⟩ hZ hw hA (jx_X9_putHigh_2 l hlt D t3 cI cJ ad g8 lg a10 bk _ z19 4 (ob556 (((4 : Int32)).toInt) ((g 13).toInt) ((g8 13).toInt) (((1480 : Int32)).toInt) h17 hi_g13 (hE_le cc1) (by decide) (hE_rng (g 13)) (hE_rng (g8 13)) (by decide)) h18) (cwV 2 hts (jx_gV wwX_good wX_84 wX_85 wX_86 wX_24 wX_87) rfl rfl rfl (by decide +kernel) ⟨Nat.le_of_ble_eq_true rfl, Nat.le_of_ble_eq_true rfl⟩) 2 (ci := 12) (T := TX9) (N := 2) rfl rfl rfl hl.1 rfl (Nat.le_of_ble_eq_true rfl) dX11_feed_33 ⟨Nat.le_of_ble_eq_true rfl, Nat.le_of_ble_eq_true rfl⟩ (fun _ _ _ _ _ _ _ _ hp _ _ _ _ => hp.elim) (fun g25 l26 a27 b28 H locs hp29 hw => ?_)
    obtain ⟨h30, rfl, h32, rfl, h34, h35⟩ := hp29
    refine lv_aload_n hx hb dX11_feed_36 rfl (lv_at hl 0 rfl) ?_
    refine hk_get (ci := 14) (C := RX11) (T := TX11) (N := 11) (v := .ref (ad 2)) hx hb hts (fun _ h => List.mem_cons_of_mem _ (wwXc_wsX110 _ h)) hown hw 0 rfl rfl 2 (by decide) (hq _ wX_83) rfl dX11_feed_37 ?_
    refine lv_iload_n hx hb dX11_feed_40 rfl (lv_at hl 3 rfl) ?_
    refine lv_i2l hx hb dX11_feed_41 rfl (jx_nl fun z36 hz36 => ?_)
    refine lv_iconst (v := 4) hx hb dX11_feed_42 (by decide) ?_
    refine jx_Vv (As := [.long z36, .int 4]) (rest := []) ⟨hx, hb, hml, hown, hts⟩ hZ hw hA (jx_X9_putHigh_2 l hlt D t3 cI cJ ad g25 lg a27 bk _ z36 4 (ob557 (((4 : Int32)).toInt) ((g 13).toInt) ((g8 13).toInt) ((g25 13).toInt) (((1480 : Int32)).toInt) h17 h34 hi_g13 (hE_le cc1) (by decide) (hE_rng (g 13)) (hE_rng (g8 13)) (hE_rng (g25 13)) (by decide)) h35) (cwV 2 hts (jx_gV wwX_good wX_84 wX_85 wX_86 wX_24 wX_87) rfl rfl rfl (by decide +kernel) ⟨Nat.le_of_ble_eq_true rfl, Nat.le_of_ble_eq_true rfl⟩) 2 (ci := 12) (T := TX9) (N := 2) rfl rfl rfl hl.1 rfl (Nat.le_of_ble_eq_true rfl) dX11_feed_43 ⟨Nat.le_of_ble_eq_true rfl, Nat.le_of_ble_eq_true rfl⟩ (fun _ _ _ _ _ _ _ _ hp _ _ _ _ => hp.elim) (fun g42 l43 a44 b45 H locs hp46 hw => ?_)
    obtain ⟨h47, rfl, h49, rfl, h51, h52⟩ := hp46
    refine lv_aload_n hx hb dX11_feed_46 rfl (lv_at hl 0 rfl) ?_
    refine hk_get (ci := 14) (C := RX11) (T := TX11) (N := 11) (v := .ref (ad 2)) hx hb hts (fun _ h => List.mem_cons_of_mem _ (wwXc_wsX110 _ h)) hown hw 0 rfl rfl 2 (by decide) (hq _ wX_83) rfl dX11_feed_47 ?_
    refine lv_iload hx hb dX11_feed_50 (lv_at hl 4 rfl) ?_
    refine lv_i2l hx hb dX11_feed_52 rfl (jx_nl fun z53 hz53 => ?_)
    refine lv_iconst (v := 4) hx hb dX11_feed_53 (by decide) ?_
    refine jx_Vv (As := [.long z53, .int 4]) (rest := []) ⟨hx, hb, hml, hown, hts⟩ hZ hw hA (jx_X9_putHigh_2 l hlt D t3 cI cJ ad g42 lg a44 bk _ z53 4 (ob558 (((4 : Int32)).toInt) ((g 13).toInt) ((g8 13).toInt) ((g25 13).toInt) ((g42 13).toInt) (((1480 : Int32)).toInt) h17 h34 h51 hi_g13 (hE_le cc1) (by decide) (hE_rng (g 13)) (hE_rng (g8 13)) (hE_rng (g25 13)) (hE_rng (g42 13)) (by decide)) h52) (cwV 2 hts (jx_gV wwX_good wX_84 wX_85 wX_86 wX_24 wX_87) rfl rfl rfl (by decide +kernel) ⟨Nat.le_of_ble_eq_true rfl, Nat.le_of_ble_eq_true rfl⟩) 2 (ci := 12) (T := TX9) (N := 2) rfl rfl rfl hl.1 rfl (Nat.le_of_ble_eq_true rfl) dX11_feed_54 ⟨Nat.le_of_ble_eq_true rfl, Nat.le_of_ble_eq_true rfl⟩ (fun _ _ _ _ _ _ _ _ hp _ _ _ _ => hp.elim) (fun g59 l60 a61 b62 H locs hp63 hw => ?_)
    obtain ⟨h64, rfl, h66, rfl, h68, h69⟩ := hp63
    refine lv_aload_n hx hb dX11_feed_57 rfl (lv_at hl 0 rfl) ?_
    refine hk_get (ci := 14) (C := RX11) (T := TX11) (N := 11) (v := .ref (ad 2)) hx hb hts (fun _ h => List.mem_cons_of_mem _ (wwXc_wsX110 _ h)) hown hw 0 rfl rfl 2 (by decide) (hq _ wX_83) rfl dX11_feed_58 ?_
    refine lv_iload hx hb dX11_feed_61 (lv_at hl 5 rfl) ?_
    refine lv_i2l hx hb dX11_feed_63 rfl (jx_nl fun z70 hz70 => ?_)
    refine lv_iconst (v := 4) hx hb dX11_feed_64 (by decide) ?_
    refine jx_Vv (As := [.long z70, .int 4]) (rest := []) ⟨hx, hb, hml, hown, hts⟩ hZ hw hA (jx_X9_putHigh_2 l hlt D t3 cI cJ ad g59 lg a61 bk _ z70 4 (ob559 (((4 : Int32)).toInt) ((g 13).toInt) ((g8 13).toInt) ((g25 13).toInt) ((g42 13).toInt) ((g59 13).toInt) (((1480 : Int32)).toInt) h17 h34 h51 h68 hi_g13 (hE_le cc1) (by decide) (hE_rng (g 13)) (hE_rng (g8 13)) (hE_rng (g25 13)) (hE_rng (g42 13)) (hE_rng (g59 13)) (by decide)) h69) (cwV 2 hts (jx_gV wwX_good wX_84 wX_85 wX_86 wX_24 wX_87) rfl rfl rfl (by decide +kernel) ⟨Nat.le_of_ble_eq_true rfl, Nat.le_of_ble_eq_true rfl⟩) 2 (ci := 12) (T := TX9) (N := 2) rfl rfl rfl hl.1 rfl (Nat.le_of_ble_eq_true rfl) dX11_feed_65 ⟨Nat.le_of_ble_eq_true rfl, Nat.le_of_ble_eq_true rfl⟩ (fun _ _ _ _ _ _ _ _ hp _ _ _ _ => hp.elim) (fun g76 l77 a78 b79 H locs hp80 hw => ?_)
    obtain ⟨h81, rfl, h83, rfl, h85, h86⟩ := hp80
    refine lv_aload_n hx hb dX11_feed_68 rfl (lv_at hl 0 rfl) ?_
    refine hk_get (ci := 14) (C := RX11) (T := TX11) (N := 11) (v := .ref (ad 2)) hx hb hts (fun _ h => List.mem_cons_of_mem _ (wwXc_wsX110 _ h)) hown hw 0 rfl rfl 2 (by decide) (hq _ wX_83) rfl dX11_feed_69 ?_
    refine hk_get (ci := 12) (C := RX9) (T := TX9) (N := 2) (v := .int (g76 13)) hx hb hts (fun _ h => List.mem_cons_of_mem _ (wwXc_wsX90 _ h)) hown hw 2 rfl rfl 1 (by decide) (hq _ wX_77) rfl dX11_feed_72 ?_
    exact kr (g76 13) g76 lg a78 bk _ _ _ _ ⟨(hk_frT (hk_frT (hk_frT (hk_frT h13 (by decide) h30) (by decide) h47) (by decide) h64) (by decide) h81), rfl, (hk_frT (hk_frT (hk_frT (hk_frT h15 (by decide) h32) (by decide) h49) (by decide) h66) (by decide) h83), rfl, (ob560 ((g76 13).toInt) ((g59 13).toInt) (((4 : Int32)).toInt) ((g 13).toInt) ((g8 13).toInt) ((g25 13).toInt) ((g42 13).toInt) (((1480 : Int32)).toInt) h85 h17 h34 h51 h68 hi_g13 (hE_le cc1) (hE_rng (g76 13)) (hE_rng (g59 13)) (by decide) (hE_rng (g 13)) (hE_rng (g8 13)) (hE_rng (g25 13)) (hE_rng (g42 13)) (by decide)), h86⟩ hw dX11_feed_75
  · refine lv_bipush (v := (-3)) hx hb dX11_feed_13 (by decide) ?_
    exact kr (-3) g lg ar bk _ _ _ _ ⟨hk_fr0, rfl, hk_fr0, rfl, (ob561 ((g 13).toInt) (((1480 : Int32)).toInt) hi_g13 (hE_nle cc1) (hE_rng (g 13)) (by decide)), hi_a0rg⟩ hw dX11_feed_15

set_option maxHeartbeats 4000000 in
set_option maxRecDepth 100000 in
/-- X11_end on (0,) -/
theorem jx_X11_end (l : Launch) (hlt : l.stackTraces = false) (D : va_G) (t3 : Nat × Nat × Nat) (cI cJ : ClassId) (ad : Nat → Nat) (g : Nat → Int32) (lg : Nat → Int64) (ar : Nat → Nat → Int32) (bk : Nat → Int64) (sz : Nat) (y1 : Int32) (hi_g13 : 0 ≤ (g 13).toInt ∧ (g 13).toInt ≤ 1500) : JMi l yX11_end (Cond.code yX11_end cX11_end 2 (some .int) :: wwX) { frames := 0, cells := 1, slots := 6, locals := 0 } t3 D xw cI cJ ad [.ref (ad 0), .int y1] (xw cI cJ ad g lg ar bk) sz 1 6 (fun (r : Int32) g' lg' ar' bk' => hk_fr [13] g g' ∧ lg = lg' ∧ ar = ar' ∧ bk = bk' ∧ (0 ≤ (g' 13).toInt ∧ (g' 13).toInt ≤ 1500)) (fun g' lg' ar' bk' => False) := by
  refine jx_meti (cc := cX11_end) (maxL := 2) (ret := (some .int)) rfl (by decide) rfl (Nat.le_of_ble_eq_true rfl) ?_
  intro p e s m args below meth c ls Q A hx hb hml hown hts hA hZ hw hl hQ kr kt
  have hq : ∀ w ∈ wwX, w.before args s = true := fun w h => hts w (List.mem_cons_of_mem _ h)
  have hl : lv_has ls 2 [(0, .ref (ad 0)), (1, .int y1)] := hl
  refine lv_iload_n hx hb dX11_end_0 rfl (lv_at hl 1 rfl) ?_
  refine lv_if_lt (tgt := 22) hx hb dX11_end_1 (by decide) (fun cc1 => ?_) (fun cc1 => ?_)
  · refine lv_iconst (v := (-1)) hx hb dX11_end_22 (by decide) ?_
    exact kr (-1) g lg ar bk _ _ _ _ ⟨hk_fr0, rfl, rfl, rfl, (ob562 ((g 13).toInt) hi_g13 (hE_rng (g 13)))⟩ hw dX11_end_23
  · refine lv_iload_n hx hb dX11_end_4 rfl (lv_at hl 1 rfl) ?_
    refine lv_bipush (v := 20) hx hb dX11_end_5 (by decide) ?_
    refine lv_icmp_gt (tgt := 22) hx hb dX11_end_7 (by decide) (fun cc2 => ?_) (fun cc2 => ?_)
    · refine lv_iconst (v := (-1)) hx hb dX11_end_22 (by decide) ?_
      exact kr (-1) g lg ar bk _ _ _ _ ⟨hk_fr0, rfl, rfl, rfl, (ob562 ((g 13).toInt) hi_g13 (hE_rng (g 13)))⟩ hw dX11_end_23
    · refine lv_aload_n hx hb dX11_end_10 rfl (lv_at hl 0 rfl) ?_
      refine hk_get (ci := 14) (C := RX11) (T := TX11) (N := 11) (v := .ref (ad 2)) hx hb hts (fun _ h => List.mem_cons_of_mem _ (wwXc_wsX110 _ h)) hown hw 0 rfl rfl 2 (by decide) (hq _ wX_83) rfl dX11_end_11 ?_
      refine hk_get (ci := 12) (C := RX9) (T := TX9) (N := 2) (v := .int (g 13)) hx hb hts (fun _ h => List.mem_cons_of_mem _ (wwXc_wsX90 _ h)) hown hw 2 rfl rfl 1 (by decide) (hq _ wX_77) rfl dX11_end_14 ?_
      refine lv_bipush (v := 20) hx hb dX11_end_17 (by decide) ?_
      refine lv_icmp_ge (tgt := 24) hx hb dX11_end_19 (by decide) (fun cc3 => ?_) (fun cc3 => ?_)
      · refine lv_aload_n hx hb dX11_end_24 rfl (lv_at hl 0 rfl) ?_
        refine hk_get (ci := 14) (C := RX11) (T := TX11) (N := 11) (v := .ref (ad 2)) hx hb hts (fun _ h => List.mem_cons_of_mem _ (wwXc_wsX110 _ h)) hown hw 0 rfl rfl 2 (by decide) (hq _ wX_83) rfl dX11_end_25 ?_
        refine lv_dup hx hb dX11_end_28 rfl ?_
        refine hk_get (ci := 12) (C := RX9) (T := TX9) (N := 2) (v := .int (g 13)) hx hb hts (fun _ h => List.mem_cons_of_mem _ (wwXc_wsX90 _ h)) hown hw 2 rfl rfl 1 (by decide) (hq _ wX_77) rfl dX11_end_29 ?_
        refine lv_bipush (v := 20) hx hb dX11_end_32 (by decide) ?_
        refine lv_iload_n hx hb dX11_end_34 rfl (lv_at hl 1 rfl) ?_
        refine lv_isub hx hb dX11_end_35 (jx_nm fun z4 hz4 => ?_)
        have xz4 : (z4).toInt = ((20 : Int32)).toInt - (y1).toInt := (hE_imp (hE_sub hz4) (ob563 (((20 : Int32)).toInt) ((y1).toInt) (((0 : Int32)).toInt) ((g 13).toInt) (hE_nlt cc1) (hE_nlt cc2) (hE_le cc3) hi_g13 (by decide) (hE_rng (y1)) (by decide) (hE_rng (g 13))))
        refine lv_isub hx hb dX11_end_36 (jx_nm fun z5 hz5 => ?_)
        have xz5 : (z5).toInt = (g 13).toInt - (z4).toInt := (hE_imp (hE_sub hz5) (ob564 ((g 13).toInt) ((z4).toInt) (((20 : Int32)).toInt) ((y1).toInt) (((0 : Int32)).toInt) hi_g13 (hE_le cc3) xz4 (hE_nlt cc1) (hE_nlt cc2) (hE_rng (g 13)) (hE_rng (z4)) (by decide) (hE_rng (y1)) (by decide)))
        refine jx_putg xw (g := g) (lg := lg) (ar := ar) (bk := bk) (x := z5) 13 (ci := 12) (C := RX9) (T := TX9) (N := 2) (ty := .int) hx hb hts (fun _ h => List.mem_cons_of_mem _ (wwXc_wsX90 _ h)) tyX9 tyX9_ok nmX9 hown hw 2 rfl rfl 1 (by decide) (hq _ wX_77) rfl (by decide +kernel) rfl rfl (Nat.le_of_ble_eq_true rfl) dX11_end_37 rfl (fun H locs g6 h_g6 hw => ?_)
        refine lv_aload_n hx hb dX11_end_40 rfl (lv_at hl 0 rfl) ?_
        refine hk_get (ci := 14) (C := RX11) (T := TX11) (N := 11) (v := .ref (ad 2)) hx hb hts (fun _ h => List.mem_cons_of_mem _ (wwXc_wsX110 _ h)) hown hw 0 rfl rfl 2 (by decide) (hq _ wX_83) rfl dX11_end_41 ?_
        have e_g6_13 : g6 13 = z5 := (hk_upgS h_g6)
        refine hk_get (ci := 12) (C := RX9) (T := TX9) (N := 2) (v := .int z5) hx hb hts (fun _ h => List.mem_cons_of_mem _ (wwXc_wsX90 _ h)) hown hw 2 rfl rfl 1 (by decide) (hq _ wX_77) (congrArg (fun z => some (Value.int z)) e_g6_13) dX11_end_44 ?_
        exact kr z5 g6 lg ar bk _ _ _ _ ⟨(hk_frG hk_fr0 (by decide) h_g6), rfl, rfl, rfl, (ob565 ((g6 13).toInt) ((z5).toInt) ((g 13).toInt) ((z4).toInt) (((20 : Int32)).toInt) ((y1).toInt) (((0 : Int32)).toInt) (congrArg Int32.toInt e_g6_13) xz5 hi_g13 (hE_le cc3) xz4 (hE_nlt cc1) (hE_nlt cc2) (hE_rng (g6 13)) (hE_rng (z5)) (hE_rng (g 13)) (hE_rng (z4)) (by decide) (hE_rng (y1)) (by decide))⟩ hw dX11_end_47
      · refine lv_iconst (v := (-1)) hx hb dX11_end_22 (by decide) ?_
        exact kr (-1) g lg ar bk _ _ _ _ ⟨hk_fr0, rfl, rfl, rfl, (ob566 ((g 13).toInt) (((20 : Int32)).toInt) ((y1).toInt) (((0 : Int32)).toInt) hi_g13 (hE_nle cc3) (hE_nlt cc2) (hE_nlt cc1) (hE_rng (g 13)) (by decide) (hE_rng (y1)) (by decide))⟩ hw dX11_end_23

set_option maxHeartbeats 4000000 in
set_option maxRecDepth 100000 in
/-- X11_octet on (0,) -/
theorem jx_X11_octet (l : Launch) (hlt : l.stackTraces = false) (D : va_G) (t3 : Nat × Nat × Nat) (cI cJ : ClassId) (ad : Nat → Nat) (g : Nat → Int32) (lg : Nat → Int64) (ar : Nat → Nat → Int32) (bk : Nat → Int64) (sz : Nat) (y1 : Int32) (hi_g13 : 0 ≤ (g 13).toInt ∧ (g 13).toInt ≤ 1500) (hi_a0rg : hk_rg 0 255 (ar 0)) : JMi l yX11_octet (Cond.code yX11_octet cX11_octet 2 (some .int) :: wwX) { frames := 2, cells := 1, slots := 6, locals := 43 } t3 D xw cI cJ ad [.ref (ad 0), .int y1] (xw cI cJ ad g lg ar bk) sz 1 6 (fun (r : Int32) g' lg' ar' bk' => hk_fr [13] g g' ∧ lg = lg' ∧ hk_fr [0] ar ar' ∧ bk = bk' ∧ (0 ≤ (g' 13).toInt ∧ (g' 13).toInt ≤ 1500) ∧ hk_rg 0 255 (ar' 0)) (fun g' lg' ar' bk' => False) := by
  refine jx_meti (cc := cX11_octet) (maxL := 2) (ret := (some .int)) rfl (by decide) rfl (Nat.le_of_ble_eq_true rfl) ?_
  intro p e s m args below meth c ls Q A hx hb hml hown hts hA hZ hw hl hQ kr kt
  have hq : ∀ w ∈ wwX, w.before args s = true := fun w h => hts w (List.mem_cons_of_mem _ h)
  have hl : lv_has ls 2 [(0, .ref (ad 0)), (1, .int y1)] := hl
  refine lv_aload_n hx hb dX11_octet_0 rfl (lv_at hl 0 rfl) ?_
  refine hk_get (ci := 14) (C := RX11) (T := TX11) (N := 11) (v := .ref (ad 2)) hx hb hts (fun _ h => List.mem_cons_of_mem _ (wwXc_wsX110 _ h)) hown hw 0 rfl rfl 2 (by decide) (hq _ wX_83) rfl dX11_octet_1 ?_
  refine hk_get (ci := 12) (C := RX9) (T := TX9) (N := 2) (v := .int (g 13)) hx hb hts (fun _ h => List.mem_cons_of_mem _ (wwXc_wsX90 _ h)) hown hw 2 rfl rfl 1 (by decide) (hq _ wX_77) rfl dX11_octet_4 ?_
  refine lv_sipush (v := 1500) hx hb dX11_octet_7 (by decide) ?_
  refine lv_icmp_lt (tgt := 16) hx hb dX11_octet_10 (by decide) (fun cc1 => ?_) (fun cc1 => ?_)
  · refine lv_aload_n hx hb dX11_octet_16 rfl (lv_at hl 0 rfl) ?_
    refine hk_get (ci := 14) (C := RX11) (T := TX11) (N := 11) (v := .ref (ad 2)) hx hb hts (fun _ h => List.mem_cons_of_mem _ (wwXc_wsX110 _ h)) hown hw 0 rfl rfl 2 (by decide) (hq _ wX_83) rfl dX11_octet_17 ?_
    refine lv_iload_n hx hb dX11_octet_20 rfl (lv_at hl 1 rfl) ?_
    refine jx_Vv (As := [.int y1]) (rest := []) ⟨hx, hb, hml, hown, hts⟩ hZ hw hA (jx_X9_put_2 l hlt D t3 cI cJ ad g lg ar bk _ y1 hi_a0rg) (cwV 1 hts (jx_gV wwX_good wX_111 wX_112 wX_113 wX_24 wX_114) rfl rfl rfl (by decide +kernel) ⟨Nat.le_of_ble_eq_true rfl, Nat.le_of_ble_eq_true rfl⟩) 2 (ci := 12) (T := TX9) (N := 2) rfl rfl rfl hl.1 rfl (Nat.le_of_ble_eq_true rfl) dX11_octet_21 ⟨Nat.le_of_ble_eq_true rfl, Nat.le_of_ble_eq_true rfl⟩ (fun _ _ _ _ _ _ _ _ hp _ _ _ _ => hp.elim) (fun g7 l8 a9 b10 H locs hp11 hw => ?_)
    obtain ⟨h12, rfl, h14, rfl, h16, h17⟩ := hp11
    refine lv_aload_n hx hb dX11_octet_24 rfl (lv_at hl 0 rfl) ?_
    refine hk_get (ci := 14) (C := RX11) (T := TX11) (N := 11) (v := .ref (ad 2)) hx hb hts (fun _ h => List.mem_cons_of_mem _ (wwXc_wsX110 _ h)) hown hw 0 rfl rfl 2 (by decide) (hq _ wX_83) rfl dX11_octet_25 ?_
    refine hk_get (ci := 12) (C := RX9) (T := TX9) (N := 2) (v := .int (g7 13)) hx hb hts (fun _ h => List.mem_cons_of_mem _ (wwXc_wsX90 _ h)) hown hw 2 rfl rfl 1 (by decide) (hq _ wX_77) rfl dX11_octet_28 ?_
    exact kr (g7 13) g7 lg a9 bk _ _ _ _ ⟨h12, rfl, h14, rfl, (ob567 ((g7 13).toInt) ((g 13).toInt) (((1500 : Int32)).toInt) h16 hi_g13 (hE_lt cc1) (hE_rng (g7 13)) (hE_rng (g 13)) (by decide)), h17⟩ hw dX11_octet_31
  · refine lv_bipush (v := (-3)) hx hb dX11_octet_13 (by decide) ?_
    exact kr (-3) g lg ar bk _ _ _ _ ⟨hk_fr0, rfl, hk_fr0, rfl, (ob568 ((g 13).toInt) (((1500 : Int32)).toInt) hi_g13 (hE_nlt cc1) (hE_rng (g 13)) (by decide)), hi_a0rg⟩ hw dX11_octet_15

set_option maxHeartbeats 4000000 in
set_option maxRecDepth 100000 in
/-- X11_finishPacking on (0,) -/
theorem jx_X11_finishPacking (l : Launch) (hlt : l.stackTraces = false) (D : va_G) (t3 : Nat × Nat × Nat) (cI cJ : ClassId) (ad : Nat → Nat) (g : Nat → Int32) (lg : Nat → Int64) (ar : Nat → Nat → Int32) (bk : Nat → Int64) (sz : Nat) (hi_g26 : 0 ≤ (g 26).toInt ∧ (g 26).toInt ≤ 200) : JMi l yX11_finishPacking (Cond.code yX11_finishPacking cX11_finishPacking 1 (some .int) :: wwX) { frames := 1, cells := 1, slots := 6, locals := 20 } t3 D xw cI cJ ad [.ref (ad 0)] (xw cI cJ ad g lg ar bk) sz 1 6 (fun (r : Int32) g' lg' ar' bk' => hk_fr [2, 14, 25, 26] g g' ∧ lg = lg' ∧ ar = ar' ∧ bk = bk' ∧ ((g' 14).toInt ≤ 3000) ∧ (0 ≤ (g' 26).toInt ∧ (g' 26).toInt ≤ 200)) (fun g' lg' ar' bk' => False) := by
  refine jx_meti (cc := cX11_finishPacking) (maxL := 1) (ret := (some .int)) rfl (by decide) rfl (Nat.le_of_ble_eq_true rfl) ?_
  intro p e s m args below meth c ls Q A hx hb hml hown hts hA hZ hw hl hQ kr kt
  have hq : ∀ w ∈ wwX, w.before args s = true := fun w h => hts w (List.mem_cons_of_mem _ h)
  have hl : lv_has ls 1 [(0, .ref (ad 0))] := hl
  refine lv_aload_n hx hb dX11_finishPacking_0 rfl (lv_at hl 0 rfl) ?_
  refine lv_aload_n hx hb dX11_finishPacking_1 rfl (lv_at hl 0 rfl) ?_
  refine hk_get (ci := 14) (C := RX11) (T := TX11) (N := 11) (v := .ref (ad 9)) hx hb hts (fun _ h => List.mem_cons_of_mem _ (wwXc_wsX110 _ h)) hown hw 0 rfl rfl 4 (by decide) (hq _ wX_104) rfl dX11_finishPacking_2 ?_
  refine hk_get (ci := 8) (C := RX5) (T := TX5) (N := 6) (v := .int (g 24)) hx hb hts (fun _ h => List.mem_cons_of_mem _ (wwXc_wsX50 _ h)) hown hw 9 rfl rfl 5 (by decide) (hq _ wX_105) rfl dX11_finishPacking_5 ?_
  refine jx_putg xw (g := g) (lg := lg) (ar := ar) (bk := bk) (x := (g 24)) 2 (ci := 14) (C := RX11) (T := TX11) (N := 11) (ty := .int) hx hb hts (fun _ h => List.mem_cons_of_mem _ (wwXc_wsX110 _ h)) tyX11 tyX11_ok nmX11 hown hw 0 rfl rfl 10 (by decide) (hq _ wX_106) rfl (by decide +kernel) rfl rfl (Nat.le_of_ble_eq_true rfl) dX11_finishPacking_8 rfl (fun H locs g1 h_g1 hw => ?_)
  refine lv_aload_n hx hb dX11_finishPacking_11 rfl (lv_at hl 0 rfl) ?_
  refine hk_get (ci := 14) (C := RX11) (T := TX11) (N := 11) (v := .ref (ad 4)) hx hb hts (fun _ h => List.mem_cons_of_mem _ (wwXc_wsX110 _ h)) hown hw 0 rfl rfl 3 (by decide) (hq _ wX_76) rfl dX11_finishPacking_12 ?_
  have e_g1_14 : g1 14 = (g 14) := (hk_upgN h_g1 14 rfl)
  refine hk_get (ci := 12) (C := RX9) (T := TX9) (N := 2) (v := .int (g 14)) hx hb hts (fun _ h => List.mem_cons_of_mem _ (wwXc_wsX90 _ h)) hown hw 4 rfl rfl 1 (by decide) (hq _ wX_77) (congrArg (fun z => some (Value.int z)) e_g1_14) dX11_finishPacking_15 ?_
  refine lv_sipush (v := 3000) hx hb dX11_finishPacking_18 (by decide) ?_
  refine lv_icmp_le (tgt := 47) hx hb dX11_finishPacking_21 (by decide) (fun cc2 => ?_) (fun cc2 => ?_)
  · refine lv_aload_n hx hb dX11_finishPacking_47 rfl (lv_at hl 0 rfl) ?_
    refine hk_get (ci := 14) (C := RX11) (T := TX11) (N := 11) (v := .ref (ad 4)) hx hb hts (fun _ h => List.mem_cons_of_mem _ (wwXc_wsX110 _ h)) hown hw 0 rfl rfl 3 (by decide) (hq _ wX_76) rfl dX11_finishPacking_48 ?_
    refine hk_get (ci := 12) (C := RX9) (T := TX9) (N := 2) (v := .int (g 14)) hx hb hts (fun _ h => List.mem_cons_of_mem _ (wwXc_wsX90 _ h)) hown hw 4 rfl rfl 1 (by decide) (hq _ wX_77) (congrArg (fun z => some (Value.int z)) e_g1_14) dX11_finishPacking_51 ?_
    have e_g1_26 : g1 26 = (g 26) := (hk_upgN h_g1 26 rfl)
    exact kr (g 14) g1 lg ar bk _ _ _ _ ⟨(hk_frG hk_fr0 (by decide) h_g1), rfl, rfl, rfl, (ob569 ((g1 14).toInt) ((g 14).toInt) (((3000 : Int32)).toInt) (congrArg Int32.toInt e_g1_14) (hE_le cc2) (hE_rng (g1 14)) (hE_rng (g 14)) (by decide)), (ob365 ((g1 26).toInt) ((g 26).toInt) (congrArg Int32.toInt e_g1_26) hi_g26 (hE_rng (g1 26)) (hE_rng (g 26)))⟩ hw dX11_finishPacking_54
  · refine lv_aload_n hx hb dX11_finishPacking_24 rfl (lv_at hl 0 rfl) ?_
    refine hk_get (ci := 14) (C := RX11) (T := TX11) (N := 11) (v := .ref (ad 4)) hx hb hts (fun _ h => List.mem_cons_of_mem _ (wwXc_wsX110 _ h)) hown hw 0 rfl rfl 3 (by decide) (hq _ wX_76) rfl dX11_finishPacking_25 ?_
    refine lv_iconst (v := 0) hx hb dX11_finishPacking_28 (by decide) ?_
    refine jx_putg xw (g := g1) (lg := lg) (ar := ar) (bk := bk) (x := 0) 14 (ci := 12) (C := RX9) (T := TX9) (N := 2) (ty := .int) hx hb hts (fun _ h => List.mem_cons_of_mem _ (wwXc_wsX90 _ h)) tyX9 tyX9_ok nmX9 hown hw 4 rfl rfl 1 (by decide) (hq _ wX_77) rfl (by decide +kernel) rfl rfl (Nat.le_of_ble_eq_true rfl) dX11_finishPacking_29 rfl (fun H locs g3 h_g3 hw => ?_)
    refine lv_aload_n hx hb dX11_finishPacking_32 rfl (lv_at hl 0 rfl) ?_
    refine hk_get (ci := 14) (C := RX11) (T := TX11) (N := 11) (v := .ref (ad 15)) hx hb hts (fun _ h => List.mem_cons_of_mem _ (wwXc_wsX110 _ h)) hown hw 0 rfl rfl 6 (by decide) (hq _ wX_64) rfl dX11_finishPacking_33 ?_
    have e_g3_26 : g3 26 = (g 26) := ((hk_upgN h_g3 26 rfl)).trans (hk_upgN h_g1 26 rfl)
    refine jx_Vv (As := []) (rest := []) ⟨hx, hb, hml, hown, hts⟩ hZ hw hA (jx_X4_clear l hlt D t3 cI cJ ad g3 lg ar bk _ (ob365 ((g3 26).toInt) ((g 26).toInt) (congrArg Int32.toInt e_g3_26) hi_g26 (hE_rng (g3 26)) (hE_rng (g 26)))) (cwV 0 hts (jx_gV wwX_good wX_107 wX_108 wX_109 wX_69 wX_110) rfl rfl rfl (by decide +kernel) ⟨Nat.le_of_ble_eq_true rfl, Nat.le_of_ble_eq_true rfl⟩) 15 (ci := 7) (T := TX4) (N := 4) rfl rfl rfl hl.1 rfl (Nat.le_of_ble_eq_true rfl) dX11_finishPacking_36 ⟨Nat.le_of_ble_eq_true rfl, Nat.le_of_ble_eq_true rfl⟩ (fun _ _ _ _ _ _ _ _ hp _ _ _ _ => hp.elim) (fun g9 l10 a11 b12 H locs hp13 hw => ?_)
    obtain ⟨h14, rfl, rfl, rfl, h18⟩ := hp13
    refine lv_aload_n hx hb dX11_finishPacking_39 rfl (lv_at hl 0 rfl) ?_
    refine lv_iconst (v := (-1)) hx hb dX11_finishPacking_40 (by decide) ?_
    refine jx_putg xw (g := g9) (lg := lg) (ar := ar) (bk := bk) (x := (-1)) 2 (ci := 14) (C := RX11) (T := TX11) (N := 11) (ty := .int) hx hb hts (fun _ h => List.mem_cons_of_mem _ (wwXc_wsX110 _ h)) tyX11 tyX11_ok nmX11 hown hw 0 rfl rfl 10 (by decide) (hq _ wX_106) rfl (by decide +kernel) rfl rfl (Nat.le_of_ble_eq_true rfl) dX11_finishPacking_41 rfl (fun H locs g19 h_g19 hw => ?_)
    refine lv_bipush (v := (-3)) hx hb dX11_finishPacking_44 (by decide) ?_
    have e_g19_14 : g19 14 = (0 : Int32) := ((hk_upgN h_g19 14 rfl)).trans (((h14 14 rfl)).trans (hk_upgS h_g3))
    have e_g19_26 : g19 26 = (g9 26) := (hk_upgN h_g19 26 rfl)
    exact kr (-3) g19 lg ar bk _ _ _ _ ⟨(hk_frG (hk_frT (hk_frG (hk_frG hk_fr0 (by decide) h_g1) (by decide) h_g3) (by decide) h14) (by decide) h_g19), rfl, rfl, rfl, (ob570 ((g19 14).toInt) (((0 : Int32)).toInt) (congrArg Int32.toInt e_g19_14) (hE_rng (g19 14)) (by decide)), (ob365 ((g19 26).toInt) ((g9 26).toInt) (congrArg Int32.toInt e_g19_26) h18 (hE_rng (g19 26)) (hE_rng (g9 26)))⟩ hw dX11_finishPacking_46

set_option maxHeartbeats 4000000 in
set_option maxRecDepth 100000 in
/-- X11_pack on (0,) -/
theorem jx_X11_pack (l : Launch) (hlt : l.stackTraces = false) (D : va_G) (t3 : Nat × Nat × Nat) (cI cJ : ClassId) (ad : Nat → Nat) (g : Nat → Int32) (lg : Nat → Int64) (ar : Nat → Nat → Int32) (bk : Nat → Int64) (sz : Nat) (y1 : Int32) (hi_g8 : 1 ≤ (g 8).toInt ∧ (g 8).toInt ≤ 1500) (hi_g14 : -2147483648 ≤ (g 14).toInt ∧ (g 14).toInt ≤ 600000) (hi_g3 : 0 ≤ (g 3).toInt ∧ (g 3).toInt ≤ 4) (hi_g4 : 0 ≤ (g 4).toInt ∧ (g 4).toInt ≤ 4) (hi_g26 : 0 ≤ (g 26).toInt ∧ (g 26).toInt ≤ 200) (hi_g21 : 0 ≤ (g 21).toInt ∧ (g 21).toInt ≤ 4) (hi_g22 : 0 ≤ (g 22).toInt ∧ (g 22).toInt ≤ 4) (hi_g13 : 0 ≤ (g 13).toInt ∧ (g 13).toInt ≤ 1500) (hi_a8rg : hk_rg (-2147483648) 273 (ar 8)) (hi_a12rg : hk_rg (-2147483648) 1501 (ar 12)) (hi_g41 : -2147483648 ≤ (g 41).toInt ∧ (g 41).toInt ≤ 1501) (hi_a0rg : hk_rg 0 255 (ar 0)) (hi_g7 : 1 ≤ (g 7).toInt ∧ (g 7).toInt ≤ 1500) (hi_a7rm : hk_rm 5 3 (-3000) 3000 (ar 7)) : JMi l yX11_pack (Cond.code yX11_pack cX11_pack 5 (some .int) :: wwX) { frames := 13, cells := 1, slots := 6, locals := 267 } t3 D xw cI cJ ad [.ref (ad 0), .int y1] (xw cI cJ ad g lg ar bk) sz 1 6 (fun (r : Int32) g' lg' ar' bk' => hk_fr [1, 2, 13, 14, 15, 17, 18, 19, 20, 21, 22, 23, 24, 25, 26, 27, 28, 29, 30, 31, 32, 33, 34, 35, 36, 37, 38, 39, 40, 41, 42] g g' ∧ hk_fr [0, 1, 2] lg lg' ∧ hk_fr [0, 1, 2, 3, 4, 5, 6, 7, 8, 9, 10, 11, 12] ar ar' ∧ True ∧ (-2147483648 ≤ (g' 14).toInt ∧ (g' 14).toInt ≤ 600000) ∧ (0 ≤ (g' 26).toInt ∧ (g' 26).toInt ≤ 200) ∧ (0 ≤ (g' 21).toInt ∧ (g' 21).toInt ≤ 4) ∧ (0 ≤ (g' 22).toInt ∧ (g' 22).toInt ≤ 4) ∧ (0 ≤ (g' 13).toInt ∧ (g' 13).toInt ≤ 1500) ∧ hk_rg (-2147483648) 273 (ar' 8) ∧ hk_rg (-2147483648) 1501 (ar' 12) ∧ (-2147483648 ≤ (g' 41).toInt ∧ (g' 41).toInt ≤ 1501) ∧ hk_rg 0 255 (ar' 0) ∧ hk_rm 5 3 (-3000) 3000 (ar' 7)) (fun g' lg' ar' bk' => False) := by
  refine jx_meti (cc := cX11_pack) (maxL := 5) (ret := (some .int)) rfl (by decide) rfl (Nat.le_of_ble_eq_true rfl) ?_
  intro p e s m args below meth c ls Q A hx hb hml hown hts hA hZ hw hl hQ kr kt
  have hq : ∀ w ∈ wwX, w.before args s = true := fun w h => hts w (List.mem_cons_of_mem _ h)
  have hl : lv_has ls 5 [(0, .ref (ad 0)), (1, .int y1)] := hl
  refine lv_iload_n hx hb dX11_pack_0 rfl (lv_at hl 1 rfl) ?_
  refine lv_if_lt (tgt := 9) hx hb dX11_pack_1 (by decide) (fun cc1 => ?_) (fun cc1 => ?_)
  · refine lv_iconst (v := (-1)) hx hb dX11_pack_9 (by decide) ?_
    exact kr (-1) g lg ar bk _ _ _ _ ⟨hk_fr0, hk_fr0, hk_fr0, trivial, (ob571 ((g 14).toInt) hi_g14 (hE_rng (g 14))), (ob406 ((g 26).toInt) hi_g26 (hE_rng (g 26))), (ob367 ((g 21).toInt) hi_g21 (hE_rng (g 21))), (ob367 ((g 22).toInt) hi_g22 (hE_rng (g 22))), (ob562 ((g 13).toInt) hi_g13 (hE_rng (g 13))), hi_a8rg, hi_a12rg, (ob331 ((g 41).toInt) hi_g41 (hE_rng (g 41))), hi_a0rg, hi_a7rm⟩ hw dX11_pack_10
  · refine lv_iload_n hx hb dX11_pack_4 rfl (lv_at hl 1 rfl) ?_
    refine lv_iconst (v := 2) hx hb dX11_pack_5 (by decide) ?_
    refine lv_icmp_le (tgt := 11) hx hb dX11_pack_6 (by decide) (fun cc2 => ?_) (fun cc2 => ?_)
    · refine lv_aload_n hx hb dX11_pack_11 rfl (lv_at hl 0 rfl) ?_
      refine hk_get (ci := 14) (C := RX11) (T := TX11) (N := 11) (v := .ref (ad 18)) hx hb hts (fun _ h => List.mem_cons_of_mem _ (wwXc_wsX110 _ h)) hown hw 0 rfl rfl 7 (by decide) (hq _ wX_118) rfl dX11_pack_12 ?_
      refine lv_iload_n hx hb dX11_pack_15 rfl (lv_at hl 1 rfl) ?_
      refine jx_Vv (As := [.int y1]) (rest := []) ⟨hx, hb, hml, hown, hts⟩ hZ hw hA (jx_X7_begin l hlt D t3 cI cJ ad g lg ar bk _ y1 (ob367 ((g 3).toInt) hi_g3 (hE_rng (g 3))) (ob367 ((g 4).toInt) hi_g4 (hE_rng (g 4))) (ob406 ((g 26).toInt) hi_g26 (hE_rng (g 26))) (ob367 ((g 21).toInt) hi_g21 (hE_rng (g 21))) (ob367 ((g 22).toInt) hi_g22 (hE_rng (g 22)))) (cwV 1 hts (jx_gV wwX_good wX_119 wX_120 wX_121 wX_122 wX_123) rfl rfl rfl (by decide +kernel) ⟨Nat.le_of_ble_eq_true rfl, Nat.le_of_ble_eq_true rfl⟩) 18 (ci := 10) (T := TX7) (N := 17) rfl rfl rfl hl.1 rfl (Nat.le_of_ble_eq_true rfl) dX11_pack_16 ⟨Nat.le_of_ble_eq_true rfl, Nat.le_of_ble_eq_true rfl⟩ (fun _ _ _ _ _ _ _ _ hp _ _ _ _ => hp.elim) (fun g8 l9 a10 b11 H locs hp12 hw => ?_)
      obtain ⟨h13, rfl, h15, -, h17, h18, h19⟩ := hp12
      refine lv_aload_n hx hb dX11_pack_19 rfl (lv_at hl 0 rfl) ?_
      have e_g8_0 : g8 0 = (g 0) := (h13 0 rfl)
      refine hk_get (ci := 14) (C := RX11) (T := TX11) (N := 11) (v := .int (g 0)) hx hb hts (fun _ h => List.mem_cons_of_mem _ (wwXc_wsX110 _ h)) hown hw 0 rfl rfl 0 (by decide) (hq _ wX_98) (congrArg (fun z => some (Value.int z)) e_g8_0) dX11_pack_20 ?_
      have B20 : ∀  (g21 : Nat → Int32) (l22 : Nat → Int64) (a23 : Nat → Nat → Int32) (b24 : Nat → Int64) (ls : Array Slot) (H : Heap) (locs : List Loc), (0 ≤ (g21 26).toInt ∧ (g21 26).toInt ≤ 200) → (-2147483648 ≤ (g21 41).toInt ∧ (g21 41).toInt ≤ 1501) → (hk_fr [14, 15, 17, 18, 19, 20, 24, 25, 26, 28, 29, 30, 31, 32, 33, 34, 35, 36, 37, 38, 39, 40, 41, 42] g8 g21) → (hk_fr [0, 1, 2] lg l22) → (hk_fr [0, 1, 2, 3, 4, 5, 6, 7, 8, 9, 10, 11, 12] a10 a23) → (hk_rg (-2147483648) 273 (a23 8)) → (hk_rg (-2147483648) 1501 (a23 12)) → (hk_rg 0 255 (a23 0)) → (hk_rm 5 3 (-3000) 3000 (a23 7)) → hk_W D (jT cI cJ) A s H locs (xw cI cJ ad g21 l22 a23 b24) → lv_has ls 5 [(0, .ref (ad 0))] → W p l e { frames := 13, cells := 1, slots := 6, locals := 267 } s m args below meth c H locs 0 0 Q (F0 m 180 ls []) := by
        intro g21 l22 a23 b24 ls H locs hf_B20_0 hf_B20_1 hfr_g21 hfr_l22 hfr_a23 ha23_r8rg ha23_r12rg ha23_r0rg ha23_r7rm hw hl
        refine lv_aload_n hx hb dX11_pack_180 rfl (lv_at hl 0 rfl) ?_
        refine hk_get (ci := 14) (C := RX11) (T := TX11) (N := 11) (v := .ref (ad 2)) hx hb hts (fun _ h => List.mem_cons_of_mem _ (wwXc_wsX110 _ h)) hown hw 0 rfl rfl 2 (by decide) (hq _ wX_83) rfl dX11_pack_181 ?_
        refine lv_iconst (v := 0) hx hb dX11_pack_184 (by decide) ?_
        refine jx_putg xw (g := g21) (lg := l22) (ar := a23) (bk := b24) (x := 0) 13 (ci := 12) (C := RX9) (T := TX9) (N := 2) (ty := .int) hx hb hts (fun _ h => List.mem_cons_of_mem _ (wwXc_wsX90 _ h)) tyX9 tyX9_ok nmX9 hown hw 2 rfl rfl 1 (by decide) (hq _ wX_77) rfl (by decide +kernel) rfl rfl (Nat.le_of_ble_eq_true rfl) dX11_pack_185 rfl (fun H locs g25 h_g25 hw => ?_)
        refine lv_aload_n hx hb dX11_pack_188 rfl (lv_at hl 0 rfl) ?_
        refine lv_iconst (v := 0) hx hb dX11_pack_189 (by decide) ?_
        refine jx_putg xw (g := g25) (lg := l22) (ar := a23) (bk := b24) (x := 0) 1 (ci := 14) (C := RX11) (T := TX11) (N := 11) (ty := .int) hx hb hts (fun _ h => List.mem_cons_of_mem _ (wwXc_wsX110 _ h)) tyX11 tyX11_ok nmX11 hown hw 0 rfl rfl 9 (by decide) (hq _ wX_97) rfl (by decide +kernel) rfl rfl (Nat.le_of_ble_eq_true rfl) dX11_pack_190 rfl (fun H locs g26 h_g26 hw => ?_)
        refine lv_aload_n hx hb dX11_pack_193 rfl (lv_at hl 0 rfl) ?_
        have e_g26_26 : g26 26 = (g21 26) := ((hk_upgN h_g26 26 rfl)).trans (hk_upgN h_g25 26 rfl)
        refine jx_Vi (As := []) (rest := []) ⟨hx, hb, hml, hown, hts⟩ hZ hw hA (jx_X11_finishPacking l hlt D t3 cI cJ ad g26 l22 a23 b24 _ (ob365 ((g26 26).toInt) ((g21 26).toInt) (congrArg Int32.toInt e_g26_26) hf_B20_0 (hE_rng (g26 26)) (hE_rng (g21 26)))) (cwV 0 hts (jx_gV wwX_good wX_164 wX_165 wX_166 wX_167 wX_168) rfl rfl rfl (by decide +kernel) ⟨Nat.le_of_ble_eq_true rfl, Nat.le_of_ble_eq_true rfl⟩) 0 (ci := 14) (T := TX11) (N := 11) rfl rfl rfl hl.1 rfl (Nat.le_of_ble_eq_true rfl) dX11_pack_194 ⟨Nat.le_of_ble_eq_true rfl, Nat.le_of_ble_eq_true rfl⟩ (fun _ _ _ _ _ _ _ _ hp _ _ _ _ => hp.elim) (fun r31 g32 l33 a34 b35 H locs hp36 hw => ?_)
        obtain ⟨h37, rfl, rfl, rfl, h41, h42⟩ := hp36
        have e_g32_21 : g32 21 = (g8 21) := ((h37 21 rfl)).trans (((hk_upgN h_g26 21 rfl)).trans (((hk_upgN h_g25 21 rfl)).trans (hfr_g21 21 rfl)))
        have e_g32_22 : g32 22 = (g8 22) := ((h37 22 rfl)).trans (((hk_upgN h_g26 22 rfl)).trans (((hk_upgN h_g25 22 rfl)).trans (hfr_g21 22 rfl)))
        have e_g32_13 : g32 13 = (0 : Int32) := ((h37 13 rfl)).trans (((hk_upgN h_g26 13 rfl)).trans (hk_upgS h_g25))
        have e_g32_41 : g32 41 = (g21 41) := ((h37 41 rfl)).trans (((hk_upgN h_g26 41 rfl)).trans (hk_upgN h_g25 41 rfl))
        exact kr r31 g32 l22 a23 b24 _ _ _ _ ⟨(hk_frT (hk_frG (hk_frG (hk_frT (hk_frT hk_fr0 (by decide) h13) (by decide) hfr_g21) (by decide) h_g25) (by decide) h_g26) (by decide) h37), hfr_l22, (hk_frT (hk_frT hk_fr0 (by decide) h15) (by decide) hfr_a23), trivial, (ob572 ((g32 14).toInt) h41 (hE_rng (g32 14))), (ob406 ((g32 26).toInt) h42 (hE_rng (g32 26))), (ob92 ((g32 21).toInt) ((g8 21).toInt) (congrArg Int32.toInt e_g32_21) h18 (hE_rng (g32 21)) (hE_rng (g8 21))), (ob92 ((g32 22).toInt) ((g8 22).toInt) (congrArg Int32.toInt e_g32_22) h19 (hE_rng (g32 22)) (hE_rng (g8 22))), (ob573 ((g32 13).toInt) (((0 : Int32)).toInt) ((y1).toInt) (((2 : Int32)).toInt) (congrArg Int32.toInt e_g32_13) (hE_nlt cc1) (hE_le cc2) (hE_rng (g32 13)) (by decide) (hE_rng (y1)) (by decide)), ha23_r8rg, ha23_r12rg, (ob354 ((g32 41).toInt) ((g21 41).toInt) (congrArg Int32.toInt e_g32_41) hf_B20_1 (hE_rng (g32 41)) (hE_rng (g21 41))), ha23_r0rg, ha23_r7rm⟩ hw dX11_pack_197
      refine lv_if_ne (tgt := 36) hx hb dX11_pack_23 (by decide) (fun cc43 => ?_) (fun cc43 => ?_)
      · refine lv_aload_n hx hb dX11_pack_36 rfl (lv_at hl 0 rfl) ?_
        refine hk_get (ci := 14) (C := RX11) (T := TX11) (N := 11) (v := .int (g 0)) hx hb hts (fun _ h => List.mem_cons_of_mem _ (wwXc_wsX110 _ h)) hown hw 0 rfl rfl 0 (by decide) (hq _ wX_98) (congrArg (fun z => some (Value.int z)) e_g8_0) dX11_pack_37 ?_
        refine lv_iconst (v := 1) hx hb dX11_pack_40 (by decide) ?_
        refine lv_icmp_ne (tgt := 69) hx hb dX11_pack_41 (by decide) (fun cc44 => ?_) (fun cc44 => ?_)
        · refine lv_aload_n hx hb dX11_pack_69 rfl (lv_at hl 0 rfl) ?_
          refine hk_get (ci := 14) (C := RX11) (T := TX11) (N := 11) (v := .ref (ad 18)) hx hb hts (fun _ h => List.mem_cons_of_mem _ (wwXc_wsX110 _ h)) hown hw 0 rfl rfl 7 (by decide) (hq _ wX_118) rfl dX11_pack_70 ?_
          refine jx_Vv (As := []) (rest := []) ⟨hx, hb, hml, hown, hts⟩ hZ hw hA (jx_X7_writeStart l hlt D t3 cI cJ ad g8 lg a10 b11 _) (cwV 0 hts (jx_gV wwX_good wX_136 wX_137 wX_138 wX_122 wX_139) rfl rfl rfl (by decide +kernel) ⟨Nat.le_of_ble_eq_true rfl, Nat.le_of_ble_eq_true rfl⟩) 18 (ci := 10) (T := TX7) (N := 17) rfl rfl rfl hl.1 rfl (Nat.le_of_ble_eq_true rfl) dX11_pack_73 ⟨Nat.le_of_ble_eq_true rfl, Nat.le_of_ble_eq_true rfl⟩ (fun _ _ _ _ _ _ _ _ hp _ _ _ _ => hp.elim) (fun g50 l51 a52 b53 H locs hp54 hw => ?_)
          obtain ⟨h55, rfl, h57, rfl⟩ := hp54
          have hr59 : hk_rg (-2147483648) 273 (a52 8) := (hk_pE (P := hk_rg (-2147483648) 273) (hk_pE (P := hk_rg (-2147483648) 273) hi_a8rg (h15 8 rfl)) (h57 8 rfl))
          have hr60 : hk_rg (-2147483648) 1501 (a52 12) := (hk_pE (P := hk_rg (-2147483648) 1501) (hk_pE (P := hk_rg (-2147483648) 1501) hi_a12rg (h15 12 rfl)) (h57 12 rfl))
          have hr61 : hk_rg 0 255 (a52 0) := (hk_pE (P := hk_rg 0 255) (hk_pE (P := hk_rg 0 255) hi_a0rg (h15 0 rfl)) (h57 0 rfl))
          have hr62 : hk_rm 5 3 (-3000) 3000 (a52 7) := (hk_pE (P := hk_rm 5 3 (-3000) 3000) (hk_pE (P := hk_rm 5 3 (-3000) 3000) hi_a7rm (h15 7 rfl)) (h57 7 rfl))
          refine lv_iconst (v := 1) hx hb dX11_pack_76 (by decide) ?_
          refine lv_aload_n hx hb dX11_pack_77 rfl (lv_at hl 0 rfl) ?_
          refine hk_get (ci := 14) (C := RX11) (T := TX11) (N := 11) (v := .ref (ad 1)) hx hb hts (fun _ h => List.mem_cons_of_mem _ (wwXc_wsX110 _ h)) hown hw 0 rfl rfl 1 (by decide) (hq _ wX_88) rfl dX11_pack_78 ?_
          have e_g50_8 : g50 8 = (g 8) := ((h55 8 rfl)).trans (h13 8 rfl)
          refine hk_get (ci := 13) (C := RX10) (T := TX10) (N := 10) (v := .int (g 8)) hx hb hts (fun _ h => List.mem_cons_of_mem _ (wwXc_wsX100 _ h)) hown hw 1 rfl rfl 5 (by decide) (hq _ wX_140) (congrArg (fun z => some (Value.int z)) e_g50_8) dX11_pack_81 ?_
          refine va_mmax hx hb (by rw [hml]; exact hl.1.symm) hown (hq _ wX_141) (hq _ wX_142) (hq _ wX_143) (hq _ wX_144) (Nat.le_of_ble_eq_true rfl) (Nat.le_of_ble_eq_true rfl) (Nat.le_of_ble_eq_true rfl) (Nat.le_of_ble_eq_true rfl) dX11_pack_84 (jx_nm fun z63 hz63 => ?_)
          refine lv_istore_n (lv' := [(2, .int z63), (0, .ref (ad 0)), (1, .int y1)]) hx hb dX11_pack_87 rfl hl (by decide) rfl (fun ls hl => ?_)
          refine lv_iconst (v := 0) hx hb dX11_pack_88 (by decide) ?_
          refine lv_istore_n (lv' := [(3, .int 0), (2, .int z63), (0, .ref (ad 0)), (1, .int y1)]) hx hb dX11_pack_89 rfl hl (by decide) rfl (fun ls hl => ?_)
          have B64 : ∀ (k70 : Nat) (x65 : Int32) (g66 : Nat → Int32) (l67 : Nat → Int64) (a68 : Nat → Nat → Int32) (b69 : Nat → Int64) (ls : Array Slot) (H : Heap) (locs : List Loc), (2147483648 - (x65).toInt ≤ (k70 : Int)) → (0 ≤ (x65).toInt) → (0 ≤ (g66 26).toInt ∧ (g66 26).toInt ≤ 200) → (-2147483648 ≤ (g66 41).toInt ∧ (g66 41).toInt ≤ 1501) → (hk_fr [14, 15, 17, 18, 19, 20, 24, 25, 26, 28, 29, 30, 31, 33, 34, 35, 36, 37, 38, 39, 40, 41, 42] g50 g66) → (hk_fr [0, 1, 2] lg l67) → (hk_fr [0, 1, 2, 3, 4, 5, 6, 7, 8, 9, 10, 11, 12] a52 a68) → (hk_rg (-2147483648) 273 (a68 8)) → (hk_rg (-2147483648) 1501 (a68 12)) → (hk_rg 0 255 (a68 0)) → (hk_rm 5 3 (-3000) 3000 (a68 7)) → hk_W D (jT cI cJ) A s H locs (xw cI cJ ad g66 l67 a68 b69) → lv_has ls 5 [(0, .ref (ad 0)), (2, .int z63), (3, .int x65)] → W p l e { frames := 13, cells := 1, slots := 6, locals := 267 } s m args below meth c H locs 0 0 Q (F0 m 90 ls []) := by
            intro k70
            induction k70 with
            | zero =>
              intro x65 g66 l67 a68 b69 ls H locs hrk_B64 hf_B64_0 hf_B64_1 hf_B64_2 hfr_g66 hfr_l67 hfr_a68 ha68_r8rg ha68_r12rg ha68_r0rg ha68_r7rm hw hl
              exact False.elim (hk_no0 (0 * (x65).toInt) (ob5 ((x65).toInt) hf_B64_0 hrk_B64 (hE_rng (x65))) (by simp))
            | succ k70 ih_B64 =>
              intro x65 g66 l67 a68 b69 ls H locs hrk_B64 hf_B64_0 hf_B64_1 hf_B64_2 hfr_g66 hfr_l67 hfr_a68 ha68_r8rg ha68_r12rg ha68_r0rg ha68_r7rm hw hl
              have hrk_B64 := hk_rk hrk_B64
              refine lv_iload_n hx hb dX11_pack_90 rfl (lv_at hl 2 rfl) ?_
              refine lv_aload_n hx hb dX11_pack_91 rfl (lv_at hl 0 rfl) ?_
              refine hk_get (ci := 14) (C := RX11) (T := TX11) (N := 11) (v := .ref (ad 2)) hx hb hts (fun _ h => List.mem_cons_of_mem _ (wwXc_wsX110 _ h)) hown hw 0 rfl rfl 2 (by decide) (hq _ wX_83) rfl dX11_pack_92 ?_
              have e_g66_13 : g66 13 = (g 13) := ((hfr_g66 13 rfl)).trans (((h55 13 rfl)).trans (h13 13 rfl))
              refine hk_get (ci := 12) (C := RX9) (T := TX9) (N := 2) (v := .int (g 13)) hx hb hts (fun _ h => List.mem_cons_of_mem _ (wwXc_wsX90 _ h)) hown hw 2 rfl rfl 1 (by decide) (hq _ wX_77) (congrArg (fun z => some (Value.int z)) e_g66_13) dX11_pack_95 ?_
              have B71 : ∀  (ls : Array Slot) (H : Heap) (locs : List Loc), hk_W D (jT cI cJ) A s H locs (xw cI cJ ad g66 l67 a68 b69) → lv_has ls 5 [(0, .ref (ad 0))] → W p l e { frames := 13, cells := 1, slots := 6, locals := 267 } s m args below meth c H locs 0 0 Q (F0 m 166 ls []) := by
                intro ls H locs hw hl
                refine lv_aload_n hx hb dX11_pack_166 rfl (lv_at hl 0 rfl) ?_
                refine hk_get (ci := 14) (C := RX11) (T := TX11) (N := 11) (v := .ref (ad 18)) hx hb hts (fun _ h => List.mem_cons_of_mem _ (wwXc_wsX110 _ h)) hown hw 0 rfl rfl 7 (by decide) (hq _ wX_118) rfl dX11_pack_167 ?_
                refine jx_Vv (As := []) (rest := []) ⟨hx, hb, hml, hown, hts⟩ hZ hw hA (jx_X7_writeIndex l hlt D t3 cI cJ ad g66 l67 a68 b69 _ ha68_r7rm) (cwV 0 hts (jx_gV wwX_good wX_156 wX_157 wX_158 wX_122 wX_159) rfl rfl rfl (by decide +kernel) ⟨Nat.le_of_ble_eq_true rfl, Nat.le_of_ble_eq_true rfl⟩) 18 (ci := 10) (T := TX7) (N := 17) rfl rfl rfl hl.1 rfl (Nat.le_of_ble_eq_true rfl) dX11_pack_170 ⟨Nat.le_of_ble_eq_true rfl, Nat.le_of_ble_eq_true rfl⟩ (fun _ _ _ _ _ _ _ _ hp _ _ _ _ => hp.elim) (fun g77 l78 a79 b80 H locs hp81 hw => ?_)
                obtain ⟨h82, rfl, h84, rfl⟩ := hp81
                refine lv_aload_n hx hb dX11_pack_173 rfl (lv_at hl 0 rfl) ?_
                refine hk_get (ci := 14) (C := RX11) (T := TX11) (N := 11) (v := .ref (ad 18)) hx hb hts (fun _ h => List.mem_cons_of_mem _ (wwXc_wsX110 _ h)) hown hw 0 rfl rfl 7 (by decide) (hq _ wX_118) rfl dX11_pack_174 ?_
                refine jx_Vv (As := []) (rest := []) ⟨hx, hb, hml, hown, hts⟩ hZ hw hA (jx_X7_writeFoot l hlt D t3 cI cJ ad g77 l67 a79 b69 _) (cwV 0 hts (jx_gV wwX_good wX_160 wX_161 wX_162 wX_122 wX_163) rfl rfl rfl (by decide +kernel) ⟨Nat.le_of_ble_eq_true rfl, Nat.le_of_ble_eq_true rfl⟩) 18 (ci := 10) (T := TX7) (N := 17) rfl rfl rfl hl.1 rfl (Nat.le_of_ble_eq_true rfl) dX11_pack_177 ⟨Nat.le_of_ble_eq_true rfl, Nat.le_of_ble_eq_true rfl⟩ (fun _ _ _ _ _ _ _ _ hp _ _ _ _ => hp.elim) (fun g91 l92 a93 b94 H locs hp95 hw => ?_)
                obtain ⟨h96, rfl, h98, rfl⟩ := hp95
                have hr100 : hk_rg (-2147483648) 273 (a93 8) := (hk_pE (P := hk_rg (-2147483648) 273) (hk_pE (P := hk_rg (-2147483648) 273) ha68_r8rg (h84 8 rfl)) (h98 8 rfl))
                have hr101 : hk_rg (-2147483648) 1501 (a93 12) := (hk_pE (P := hk_rg (-2147483648) 1501) (hk_pE (P := hk_rg (-2147483648) 1501) ha68_r12rg (h84 12 rfl)) (h98 12 rfl))
                have hr102 : hk_rg 0 255 (a93 0) := (hk_pE (P := hk_rg 0 255) (hk_pE (P := hk_rg 0 255) ha68_r0rg (h84 0 rfl)) (h98 0 rfl))
                have hr103 : hk_rm 5 3 (-3000) 3000 (a93 7) := (hk_pE (P := hk_rm 5 3 (-3000) 3000) (hk_pE (P := hk_rm 5 3 (-3000) 3000) ha68_r7rm (h84 7 rfl)) (h98 7 rfl))
                have e_g91_26 : g91 26 = (g66 26) := ((h96 26 rfl)).trans (h82 26 rfl)
                have e_g91_41 : g91 41 = (g66 41) := ((h96 41 rfl)).trans (h82 41 rfl)
                exact B20 g91 l67 a93 b69 ls _ _ (ob365 ((g91 26).toInt) ((g66 26).toInt) (congrArg Int32.toInt e_g91_26) hf_B64_1 (hE_rng (g91 26)) (hE_rng (g66 26))) (ob354 ((g91 41).toInt) ((g66 41).toInt) (congrArg Int32.toInt e_g91_41) hf_B64_2 (hE_rng (g91 41)) (hE_rng (g66 41))) (hk_frT (hk_frT (hk_frT (hk_frT hk_fr0 (by decide) h55) (by decide) hfr_g66) (by decide) h82) (by decide) h96) hfr_l67 (hk_frT (hk_frT (hk_frT (hk_frT hk_fr0 (by decide) h57) (by decide) hfr_a68) (by decide) h84) (by decide) h98) hr100 hr101 hr102 hr103 hw (lv_sub hl [0] rfl)
              refine lv_icmp_ge (tgt := 166) hx hb dX11_pack_98 (by decide) (fun cc104 => ?_) (fun cc104 => ?_)
              · exact B71 ls _ _ hw (lv_sub hl [0] rfl)
              · refine lv_aload_n hx hb dX11_pack_101 rfl (lv_at hl 0 rfl) ?_
                refine hk_get (ci := 14) (C := RX11) (T := TX11) (N := 11) (v := .ref (ad 4)) hx hb hts (fun _ h => List.mem_cons_of_mem _ (wwXc_wsX110 _ h)) hown hw 0 rfl rfl 3 (by decide) (hq _ wX_76) rfl dX11_pack_102 ?_
                refine hk_get (ci := 12) (C := RX9) (T := TX9) (N := 2) (v := .int (g66 14)) hx hb hts (fun _ h => List.mem_cons_of_mem _ (wwXc_wsX90 _ h)) hown hw 4 rfl rfl 1 (by decide) (hq _ wX_77) rfl dX11_pack_105 ?_
                refine lv_sipush (v := 3000) hx hb dX11_pack_108 (by decide) ?_
                refine lv_icmp_gt (tgt := 166) hx hb dX11_pack_111 (by decide) (fun cc105 => ?_) (fun cc105 => ?_)
                · exact B71 ls _ _ hw (lv_sub hl [0] rfl)
                · refine lv_iload_n hx hb dX11_pack_114 rfl (lv_at hl 2 rfl) ?_
                  refine lv_iload_n hx hb dX11_pack_115 rfl (lv_at hl 1 rfl) ?_
                  refine lv_iadd hx hb dX11_pack_116 (jx_nm fun z106 hz106 => ?_)
                  refine lv_aload_n hx hb dX11_pack_117 rfl (lv_at hl 0 rfl) ?_
                  refine hk_get (ci := 14) (C := RX11) (T := TX11) (N := 11) (v := .ref (ad 2)) hx hb hts (fun _ h => List.mem_cons_of_mem _ (wwXc_wsX110 _ h)) hown hw 0 rfl rfl 2 (by decide) (hq _ wX_83) rfl dX11_pack_118 ?_
                  refine hk_get (ci := 12) (C := RX9) (T := TX9) (N := 2) (v := .int (g 13)) hx hb hts (fun _ h => List.mem_cons_of_mem _ (wwXc_wsX90 _ h)) hown hw 2 rfl rfl 1 (by decide) (hq _ wX_77) (congrArg (fun z => some (Value.int z)) e_g66_13) dX11_pack_121 ?_
                  refine va_mmin hx hb (by rw [hml]; exact hl.1.symm) hown (hq _ wX_145) (hq _ wX_146) (hq _ wX_143) (hq _ wX_147) (Nat.le_of_ble_eq_true rfl) (Nat.le_of_ble_eq_true rfl) (Nat.le_of_ble_eq_true rfl) (Nat.le_of_ble_eq_true rfl) dX11_pack_124 (jx_nm fun z107 hz107 => ?_)
                  refine lv_istore (lv' := [(4, .int z107), (0, .ref (ad 0)), (2, .int z63), (3, .int x65)]) hx hb dX11_pack_127 hl (by decide) rfl (fun ls hl => ?_)
                  refine lv_aload_n hx hb dX11_pack_129 rfl (lv_at hl 1 rfl) ?_
                  refine hk_get (ci := 14) (C := RX11) (T := TX11) (N := 11) (v := .ref (ad 18)) hx hb hts (fun _ h => List.mem_cons_of_mem _ (wwXc_wsX110 _ h)) hown hw 0 rfl rfl 7 (by decide) (hq _ wX_118) rfl dX11_pack_130 ?_
                  refine lv_iload_n hx hb dX11_pack_133 rfl (lv_at hl 3 rfl) ?_
                  refine lv_iload hx hb dX11_pack_134 (lv_at hl 0 rfl) ?_
                  refine jx_Vv (As := [.int x65, .int z107]) (rest := []) ⟨hx, hb, hml, hown, hts⟩ hZ hw hA (jx_X7_writeHead l hlt D t3 cI cJ ad g66 l67 a68 b69 _ x65 z107 (ob574 ((x65).toInt) (k70 : Int) ((g 13).toInt) ((z106).toInt) ((z63).toInt) (((1 : Int32)).toInt) ((g 8).toInt) ((g66 13).toInt) ((z107).toInt) ((g 0).toInt) ((g50 8).toInt) ((g8 0).toInt) (((0 : Int32)).toInt) ((y1).toInt) hf_B64_0 hrk_B64 (hE_nle cc104) (hE_add hz106) hi_g13 (hE_max hz63) (congrArg Int32.toInt e_g66_13) (hE_min hz107) hi_g8 (hE_ne cc44) (congrArg Int32.toInt e_g50_8) (congrArg Int32.toInt e_g8_0) (hE_ne cc43) (hE_nlt cc1) (hE_rng (x65)) (hE_rng (g 13)) (hE_rng (z106)) (hE_rng (z63)) (by decide) (hE_rng (g 8)) (hE_rng (g66 13)) (hE_rng (z107)) (hE_rng (g 0)) (hE_rng (g50 8)) (hE_rng (g8 0)) (by decide) (hE_rng (y1))) (ob575 ((z107).toInt) ((z106).toInt) ((g 13).toInt) ((g66 13).toInt) ((x65).toInt) ((z63).toInt) (((1 : Int32)).toInt) ((g 8).toInt) (k70 : Int) ((g 0).toInt) ((g50 8).toInt) ((g8 0).toInt) (((0 : Int32)).toInt) (hE_min hz107) hi_g13 (congrArg Int32.toInt e_g66_13) (hE_nle cc104) (hE_add hz106) (hE_max hz63) hf_B64_0 hrk_B64 hi_g8 (hE_ne cc44) (congrArg Int32.toInt e_g50_8) (congrArg Int32.toInt e_g8_0) (hE_ne cc43) (hE_rng (z107)) (hE_rng (z106)) (hE_rng (g 13)) (hE_rng (g66 13)) (hE_rng (x65)) (hE_rng (z63)) (by decide) (hE_rng (g 8)) (hE_rng (g 0)) (hE_rng (g50 8)) (hE_rng (g8 0)) (by decide)) ha68_r0rg) (cwV 2 hts (jx_gV wwX_good wX_148 wX_149 wX_150 wX_122 wX_151) rfl rfl rfl (by decide +kernel) ⟨Nat.le_of_ble_eq_true rfl, Nat.le_of_ble_eq_true rfl⟩) 18 (ci := 10) (T := TX7) (N := 17) rfl rfl rfl hl.1 rfl (Nat.le_of_ble_eq_true rfl) dX11_pack_136 ⟨Nat.le_of_ble_eq_true rfl, Nat.le_of_ble_eq_true rfl⟩ (fun _ _ _ _ _ _ _ _ hp _ _ _ _ => hp.elim) (fun g113 l114 a115 b116 H locs hp117 hw => ?_)
                  obtain ⟨h118, rfl, h120, rfl, h122⟩ := hp117
                  refine lv_aload_n hx hb dX11_pack_139 rfl (lv_at hl 1 rfl) ?_
                  refine hk_get (ci := 14) (C := RX11) (T := TX11) (N := 11) (v := .ref (ad 18)) hx hb hts (fun _ h => List.mem_cons_of_mem _ (wwXc_wsX110 _ h)) hown hw 0 rfl rfl 7 (by decide) (hq _ wX_118) rfl dX11_pack_140 ?_
                  refine lv_iload_n hx hb dX11_pack_143 rfl (lv_at hl 3 rfl) ?_
                  refine lv_iload hx hb dX11_pack_144 (lv_at hl 0 rfl) ?_
                  have e_g113_7 : g113 7 = (g 7) := ((h118 7 rfl)).trans (((hfr_g66 7 rfl)).trans (((h55 7 rfl)).trans (h13 7 rfl)))
                  have e_g113_21 : g113 21 = (g8 21) := ((h118 21 rfl)).trans (((hfr_g66 21 rfl)).trans (h55 21 rfl))
                  have e_g113_22 : g113 22 = (g8 22) := ((h118 22 rfl)).trans (((hfr_g66 22 rfl)).trans (h55 22 rfl))
                  have e_g113_41 : g113 41 = (g66 41) := (h118 41 rfl)
                  refine jx_Vv (As := [.int x65, .int z107]) (rest := []) ⟨hx, hb, hml, hown, hts⟩ hZ hw hA (jx_X7_writeChunks l hlt D t3 cI cJ ad g113 l67 a115 b69 _ x65 z107 (ob576 ((x65).toInt) (k70 : Int) ((g 13).toInt) ((z106).toInt) ((z63).toInt) (((1 : Int32)).toInt) ((g 8).toInt) ((g66 13).toInt) ((z107).toInt) ((g 0).toInt) ((g50 8).toInt) ((g8 0).toInt) (((0 : Int32)).toInt) ((y1).toInt) hf_B64_0 hrk_B64 (hE_nle cc104) (hE_add hz106) hi_g13 (hE_max hz63) (congrArg Int32.toInt e_g66_13) (hE_min hz107) hi_g8 (hE_ne cc44) (congrArg Int32.toInt e_g50_8) (congrArg Int32.toInt e_g8_0) (hE_ne cc43) (hE_nlt cc1) (hE_rng (x65)) (hE_rng (g 13)) (hE_rng (z106)) (hE_rng (z63)) (by decide) (hE_rng (g 8)) (hE_rng (g66 13)) (hE_rng (z107)) (hE_rng (g 0)) (hE_rng (g50 8)) (hE_rng (g8 0)) (by decide) (hE_rng (y1))) (ob577 ((z107).toInt) ((z106).toInt) ((g 13).toInt) ((g66 13).toInt) ((x65).toInt) ((z63).toInt) (((1 : Int32)).toInt) ((g 8).toInt) (k70 : Int) ((g 0).toInt) ((g50 8).toInt) ((g8 0).toInt) (((0 : Int32)).toInt) (hE_min hz107) hi_g13 (congrArg Int32.toInt e_g66_13) (hE_nle cc104) (hE_add hz106) (hE_max hz63) hf_B64_0 hrk_B64 hi_g8 (hE_ne cc44) (congrArg Int32.toInt e_g50_8) (congrArg Int32.toInt e_g8_0) (hE_ne cc43) (hE_rng (z107)) (hE_rng (z106)) (hE_rng (g 13)) (hE_rng (g66 13)) (hE_rng (x65)) (hE_rng (z63)) (by decide) (hE_rng (g 8)) (hE_rng (g 0)) (hE_rng (g50 8)) (hE_rng (g8 0)) (by decide)) (ob553 ((g113 7).toInt) ((g 7).toInt) (congrArg Int32.toInt e_g113_7) hi_g7 (hE_rng (g113 7)) (hE_rng (g 7))) (ob92 ((g113 21).toInt) ((g8 21).toInt) (congrArg Int32.toInt e_g113_21) h18 (hE_rng (g113 21)) (hE_rng (g8 21))) (ob92 ((g113 22).toInt) ((g8 22).toInt) (congrArg Int32.toInt e_g113_22) h19 (hE_rng (g113 22)) (hE_rng (g8 22))) (hk_pE (P := hk_rg (-2147483648) 273) ha68_r8rg (h120 8 rfl)) (hk_pE (P := hk_rg (-2147483648) 1501) ha68_r12rg (h120 12 rfl)) (ob354 ((g113 41).toInt) ((g66 41).toInt) (congrArg Int32.toInt e_g113_41) hf_B64_2 (hE_rng (g113 41)) (hE_rng (g66 41))) h122) (cwV 2 hts (jx_gV wwX_good wX_128 wX_129 wX_130 wX_122 wX_131) rfl rfl rfl (by decide +kernel) ⟨Nat.le_of_ble_eq_true rfl, Nat.le_of_ble_eq_true rfl⟩) 18 (ci := 10) (T := TX7) (N := 17) rfl rfl rfl hl.1 rfl (Nat.le_of_ble_eq_true rfl) dX11_pack_146 ⟨Nat.le_of_ble_eq_true rfl, Nat.le_of_ble_eq_true rfl⟩ (fun _ _ _ _ _ _ _ _ hp _ _ _ _ => hp.elim) (fun g128 l129 a130 b131 H locs hp132 hw => ?_)
                  obtain ⟨h133, h134, h135, -, h137, h138, h139⟩ := hp132
                  have hr140 : hk_rm 5 3 (-3000) 3000 (a130 7) := (hk_pE (P := hk_rm 5 3 (-3000) 3000) (hk_pE (P := hk_rm 5 3 (-3000) 3000) ha68_r7rm (h120 7 rfl)) (h135 7 rfl))
                  refine lv_aload_n hx hb dX11_pack_149 rfl (lv_at hl 1 rfl) ?_
                  refine hk_get (ci := 14) (C := RX11) (T := TX11) (N := 11) (v := .ref (ad 18)) hx hb hts (fun _ h => List.mem_cons_of_mem _ (wwXc_wsX110 _ h)) hown hw 0 rfl rfl 7 (by decide) (hq _ wX_118) rfl dX11_pack_150 ?_
                  refine lv_iload_n hx hb dX11_pack_153 rfl (lv_at hl 3 rfl) ?_
                  refine lv_iload hx hb dX11_pack_154 (lv_at hl 0 rfl) ?_
                  have e_g128_26 : g128 26 = (g66 26) := ((h133 26 rfl)).trans (h118 26 rfl)
                  refine jx_Vv (As := [.int x65, .int z107]) (rest := []) ⟨hx, hb, hml, hown, hts⟩ hZ hw hA (jx_X7_writeTail l hlt D t3 cI cJ ad g128 l129 a130 b131 _ x65 z107 (ob574 ((x65).toInt) (k70 : Int) ((g 13).toInt) ((z106).toInt) ((z63).toInt) (((1 : Int32)).toInt) ((g 8).toInt) ((g66 13).toInt) ((z107).toInt) ((g 0).toInt) ((g50 8).toInt) ((g8 0).toInt) (((0 : Int32)).toInt) ((y1).toInt) hf_B64_0 hrk_B64 (hE_nle cc104) (hE_add hz106) hi_g13 (hE_max hz63) (congrArg Int32.toInt e_g66_13) (hE_min hz107) hi_g8 (hE_ne cc44) (congrArg Int32.toInt e_g50_8) (congrArg Int32.toInt e_g8_0) (hE_ne cc43) (hE_nlt cc1) (hE_rng (x65)) (hE_rng (g 13)) (hE_rng (z106)) (hE_rng (z63)) (by decide) (hE_rng (g 8)) (hE_rng (g66 13)) (hE_rng (z107)) (hE_rng (g 0)) (hE_rng (g50 8)) (hE_rng (g8 0)) (by decide) (hE_rng (y1))) (ob575 ((z107).toInt) ((z106).toInt) ((g 13).toInt) ((g66 13).toInt) ((x65).toInt) ((z63).toInt) (((1 : Int32)).toInt) ((g 8).toInt) (k70 : Int) ((g 0).toInt) ((g50 8).toInt) ((g8 0).toInt) (((0 : Int32)).toInt) (hE_min hz107) hi_g13 (congrArg Int32.toInt e_g66_13) (hE_nle cc104) (hE_add hz106) (hE_max hz63) hf_B64_0 hrk_B64 hi_g8 (hE_ne cc44) (congrArg Int32.toInt e_g50_8) (congrArg Int32.toInt e_g8_0) (hE_ne cc43) (hE_rng (z107)) (hE_rng (z106)) (hE_rng (g 13)) (hE_rng (g66 13)) (hE_rng (x65)) (hE_rng (z63)) (by decide) (hE_rng (g 8)) (hE_rng (g 0)) (hE_rng (g50 8)) (hE_rng (g8 0)) (by decide)) (ob365 ((g128 26).toInt) ((g66 26).toInt) (congrArg Int32.toInt e_g128_26) hf_B64_1 (hE_rng (g128 26)) (hE_rng (g66 26))) hr140) (cwV 2 hts (jx_gV wwX_good wX_152 wX_153 wX_154 wX_122 wX_155) rfl rfl rfl (by decide +kernel) ⟨Nat.le_of_ble_eq_true rfl, Nat.le_of_ble_eq_true rfl⟩) 18 (ci := 10) (T := TX7) (N := 17) rfl rfl rfl hl.1 rfl (Nat.le_of_ble_eq_true rfl) dX11_pack_156 ⟨Nat.le_of_ble_eq_true rfl, Nat.le_of_ble_eq_true rfl⟩ (fun _ _ _ _ _ _ _ _ hp _ _ _ _ => hp.elim) (fun g146 l147 a148 b149 H locs hp150 hw => ?_)
                  obtain ⟨h151, rfl, h153, rfl, h155, h156⟩ := hp150
                  have hr157 : hk_rg 0 255 (a148 0) := (hk_pE (P := hk_rg 0 255) (hk_pE (P := hk_rg 0 255) h122 (h135 0 rfl)) (h153 0 rfl))
                  refine lv_iload_n hx hb dX11_pack_159 rfl (lv_at hl 3 rfl) ?_
                  refine lv_iload_n hx hb dX11_pack_160 rfl (lv_at hl 2 rfl) ?_
                  refine lv_iadd hx hb dX11_pack_161 (jx_nm fun z158 hz158 => ?_)
                  refine lv_istore_n (lv' := [(3, .int z158), (4, .int z107), (0, .ref (ad 0)), (2, .int z63)]) hx hb dX11_pack_162 rfl hl (by decide) rfl (fun ls hl => ?_)
                  refine lv_goto (tgt := 90) hx hb dX11_pack_163 (by decide) ?_
                  have e_g146_41 : g146 41 = (g128 41) := (h151 41 rfl)
                  exact ih_B64 z158 g146 l129 a148 b131 ls _ _ (ob578 ((z158).toInt) (k70 : Int) ((x65).toInt) ((z63).toInt) (((1 : Int32)).toInt) ((g 8).toInt) ((g 13).toInt) ((z106).toInt) ((g 0).toInt) ((g50 8).toInt) ((g66 13).toInt) ((z107).toInt) ((g8 0).toInt) (((0 : Int32)).toInt) ((y1).toInt) hrk_B64 (hE_add hz158) (hE_max hz63) hf_B64_0 (hE_nle cc104) (hE_add hz106) hi_g8 hi_g13 (hE_ne cc44) (congrArg Int32.toInt e_g50_8) (congrArg Int32.toInt e_g66_13) (hE_min hz107) (congrArg Int32.toInt e_g8_0) (hE_ne cc43) (hE_nlt cc1) (hE_rng (z158)) (hE_rng (x65)) (hE_rng (z63)) (by decide) (hE_rng (g 8)) (hE_rng (g 13)) (hE_rng (z106)) (hE_rng (g 0)) (hE_rng (g50 8)) (hE_rng (g66 13)) (hE_rng (z107)) (hE_rng (g8 0)) (by decide) (hE_rng (y1))) (ob579 ((z158).toInt) ((x65).toInt) ((z63).toInt) (((1 : Int32)).toInt) ((g 8).toInt) (k70 : Int) ((g 13).toInt) ((z106).toInt) ((g 0).toInt) ((g50 8).toInt) ((g66 13).toInt) ((z107).toInt) ((g8 0).toInt) (((0 : Int32)).toInt) ((y1).toInt) (hE_add hz158) (hE_max hz63) hf_B64_0 hrk_B64 (hE_nle cc104) (hE_add hz106) hi_g8 hi_g13 (hE_ne cc44) (congrArg Int32.toInt e_g50_8) (congrArg Int32.toInt e_g66_13) (hE_min hz107) (congrArg Int32.toInt e_g8_0) (hE_ne cc43) (hE_nlt cc1) (hE_rng (z158)) (hE_rng (x65)) (hE_rng (z63)) (by decide) (hE_rng (g 8)) (hE_rng (g 13)) (hE_rng (z106)) (hE_rng (g 0)) (hE_rng (g50 8)) (hE_rng (g66 13)) (hE_rng (z107)) (hE_rng (g8 0)) (by decide) (hE_rng (y1))) (ob406 ((g146 26).toInt) h155 (hE_rng (g146 26))) (ob354 ((g146 41).toInt) ((g128 41).toInt) (congrArg Int32.toInt e_g146_41) h139 (hE_rng (g146 41)) (hE_rng (g128 41))) (hk_frT (hk_frT (hk_frT hfr_g66 (by decide) h118) (by decide) h133) (by decide) h151) (hk_frT hfr_l67 (by decide) h134) (hk_frT (hk_frT (hk_frT hfr_a68 (by decide) h120) (by decide) h135) (by decide) h153) (hk_pE (P := hk_rg (-2147483648) 273) h137 (h153 8 rfl)) (hk_pE (P := hk_rg (-2147483648) 1501) h138 (h153 12 rfl)) hr157 h156 hw (lv_sub hl [2, 3, 0] rfl)
          have e_g50_26 : g50 26 = (g8 26) := (h55 26 rfl)
          have e_g50_41 : g50 41 = (g 41) := ((h55 41 rfl)).trans (h13 41 rfl)
          exact B64 (2147483648 - ((0 : Int32)).toInt).toNat 0 g50 lg a52 b11 ls _ _ (Int.self_le_toNat _) (ob580 (((0 : Int32)).toInt) ((y1).toInt) ((g 0).toInt) (((2 : Int32)).toInt) ((g8 0).toInt) (((1 : Int32)).toInt) ((z63).toInt) ((g 8).toInt) ((g50 8).toInt) (hE_nlt cc1) (hE_ne cc43) (hE_le cc2) (congrArg Int32.toInt e_g8_0) (hE_ne cc44) (hE_max hz63) hi_g8 (congrArg Int32.toInt e_g50_8) (by decide) (hE_rng (y1)) (hE_rng (g 0)) (by decide) (hE_rng (g8 0)) (by decide) (hE_rng (z63)) (hE_rng (g 8)) (hE_rng (g50 8))) (ob365 ((g50 26).toInt) ((g8 26).toInt) (congrArg Int32.toInt e_g50_26) h17 (hE_rng (g50 26)) (hE_rng (g8 26))) (ob354 ((g50 41).toInt) ((g 41).toInt) (congrArg Int32.toInt e_g50_41) hi_g41 (hE_rng (g50 41)) (hE_rng (g 41))) hk_fr0 hk_fr0 hk_fr0 hr59 hr60 hr61 hr62 hw (lv_sub hl [2, 1, 0] rfl)
        · refine lv_aload_n hx hb dX11_pack_44 rfl (lv_at hl 0 rfl) ?_
          refine hk_get (ci := 14) (C := RX11) (T := TX11) (N := 11) (v := .ref (ad 18)) hx hb hts (fun _ h => List.mem_cons_of_mem _ (wwXc_wsX110 _ h)) hown hw 0 rfl rfl 7 (by decide) (hq _ wX_118) rfl dX11_pack_45 ?_
          refine lv_iconst (v := 0) hx hb dX11_pack_48 (by decide) ?_
          refine lv_aload_n hx hb dX11_pack_49 rfl (lv_at hl 0 rfl) ?_
          refine hk_get (ci := 14) (C := RX11) (T := TX11) (N := 11) (v := .ref (ad 2)) hx hb hts (fun _ h => List.mem_cons_of_mem _ (wwXc_wsX110 _ h)) hown hw 0 rfl rfl 2 (by decide) (hq _ wX_83) rfl dX11_pack_50 ?_
          have e_g8_13 : g8 13 = (g 13) := (h13 13 rfl)
          refine hk_get (ci := 12) (C := RX9) (T := TX9) (N := 2) (v := .int (g 13)) hx hb hts (fun _ h => List.mem_cons_of_mem _ (wwXc_wsX90 _ h)) hown hw 2 rfl rfl 1 (by decide) (hq _ wX_77) (congrArg (fun z => some (Value.int z)) e_g8_13) dX11_pack_53 ?_
          have e_g8_7 : g8 7 = (g 7) := (h13 7 rfl)
          have e_g8_41 : g8 41 = (g 41) := (h13 41 rfl)
          refine jx_Vv (As := [.int 0, .int (g 13)]) (rest := []) ⟨hx, hb, hml, hown, hts⟩ hZ hw hA (jx_X7_writeChunks l hlt D t3 cI cJ ad g8 lg a10 b11 _ 0 (g 13) (ob581 (((0 : Int32)).toInt) ((y1).toInt) ((g 0).toInt) (((2 : Int32)).toInt) ((g8 0).toInt) (((1 : Int32)).toInt) (hE_nlt cc1) (hE_ne cc43) (hE_le cc2) (congrArg Int32.toInt e_g8_0) (hE_eq cc44) (by decide) (hE_rng (y1)) (hE_rng (g 0)) (by decide) (hE_rng (g8 0)) (by decide)) (ob582 ((g 13).toInt) ((g8 13).toInt) hi_g13 (congrArg Int32.toInt e_g8_13) (hE_rng (g 13)) (hE_rng (g8 13))) (ob553 ((g8 7).toInt) ((g 7).toInt) (congrArg Int32.toInt e_g8_7) hi_g7 (hE_rng (g8 7)) (hE_rng (g 7))) (ob367 ((g8 21).toInt) h18 (hE_rng (g8 21))) (ob367 ((g8 22).toInt) h19 (hE_rng (g8 22))) (hk_pE (P := hk_rg (-2147483648) 273) hi_a8rg (h15 8 rfl)) (hk_pE (P := hk_rg (-2147483648) 1501) hi_a12rg (h15 12 rfl)) (ob354 ((g8 41).toInt) ((g 41).toInt) (congrArg Int32.toInt e_g8_41) hi_g41 (hE_rng (g8 41)) (hE_rng (g 41))) (hk_pE (P := hk_rg 0 255) hi_a0rg (h15 0 rfl))) (cwV 2 hts (jx_gV wwX_good wX_128 wX_129 wX_130 wX_122 wX_131) rfl rfl rfl (by decide +kernel) ⟨Nat.le_of_ble_eq_true rfl, Nat.le_of_ble_eq_true rfl⟩) 18 (ci := 10) (T := TX7) (N := 17) rfl rfl rfl hl.1 rfl (Nat.le_of_ble_eq_true rfl) dX11_pack_56 ⟨Nat.le_of_ble_eq_true rfl, Nat.le_of_ble_eq_true rfl⟩ (fun _ _ _ _ _ _ _ _ hp _ _ _ _ => hp.elim) (fun g164 l165 a166 b167 H locs hp168 hw => ?_)
          obtain ⟨h169, h170, h171, -, h173, h174, h175⟩ := hp168
          have hr176 : hk_rg 0 255 (a166 0) := (hk_pE (P := hk_rg 0 255) (hk_pE (P := hk_rg 0 255) hi_a0rg (h15 0 rfl)) (h171 0 rfl))
          have hr177 : hk_rm 5 3 (-3000) 3000 (a166 7) := (hk_pE (P := hk_rm 5 3 (-3000) 3000) (hk_pE (P := hk_rm 5 3 (-3000) 3000) hi_a7rm (h15 7 rfl)) (h171 7 rfl))
          refine lv_aload_n hx hb dX11_pack_59 rfl (lv_at hl 0 rfl) ?_
          refine hk_get (ci := 14) (C := RX11) (T := TX11) (N := 11) (v := .ref (ad 18)) hx hb hts (fun _ h => List.mem_cons_of_mem _ (wwXc_wsX110 _ h)) hown hw 0 rfl rfl 7 (by decide) (hq _ wX_118) rfl dX11_pack_60 ?_
          have e_g164_13 : g164 13 = (g 13) := ((h169 13 rfl)).trans e_g8_13
          have e_g164_26 : g164 26 = (g8 26) := (h169 26 rfl)
          refine jx_Vv (As := []) (rest := []) ⟨hx, hb, hml, hown, hts⟩ hZ hw hA (jx_X7_noteChunks l hlt D t3 cI cJ ad g164 l165 a166 b167 _ (ob583 ((g164 13).toInt) ((g 13).toInt) ((g8 13).toInt) (congrArg Int32.toInt e_g164_13) hi_g13 (congrArg Int32.toInt e_g8_13) (hE_rng (g164 13)) (hE_rng (g 13)) (hE_rng (g8 13))) (ob365 ((g164 26).toInt) ((g8 26).toInt) (congrArg Int32.toInt e_g164_26) h17 (hE_rng (g164 26)) (hE_rng (g8 26))) hr177) (cwV 0 hts (jx_gV wwX_good wX_132 wX_133 wX_134 wX_122 wX_135) rfl rfl rfl (by decide +kernel) ⟨Nat.le_of_ble_eq_true rfl, Nat.le_of_ble_eq_true rfl⟩) 18 (ci := 10) (T := TX7) (N := 17) rfl rfl rfl hl.1 rfl (Nat.le_of_ble_eq_true rfl) dX11_pack_63 ⟨Nat.le_of_ble_eq_true rfl, Nat.le_of_ble_eq_true rfl⟩ (fun _ _ _ _ _ _ _ _ hp _ _ _ _ => hp.elim) (fun g183 l184 a185 b186 H locs hp187 hw => ?_)
          obtain ⟨h188, rfl, h190, rfl, h192, h193⟩ := hp187
          refine lv_goto (tgt := 180) hx hb dX11_pack_66 (by decide) ?_
          have e_g183_41 : g183 41 = (g164 41) := (h188 41 rfl)
          exact B20 g183 l165 a185 b167 ls _ _ (ob406 ((g183 26).toInt) h192 (hE_rng (g183 26))) (ob354 ((g183 41).toInt) ((g164 41).toInt) (congrArg Int32.toInt e_g183_41) h175 (hE_rng (g183 41)) (hE_rng (g164 41))) (hk_frT (hk_frT hk_fr0 (by decide) h169) (by decide) h188) h170 (hk_frT (hk_frT hk_fr0 (by decide) h171) (by decide) h190) (hk_pE (P := hk_rg (-2147483648) 273) h173 (h190 8 rfl)) (hk_pE (P := hk_rg (-2147483648) 1501) h174 (h190 12 rfl)) (hk_pE (P := hk_rg 0 255) hr176 (h190 0 rfl)) h193 hw (lv_sub hl [0] rfl)
      · refine lv_aload_n hx hb dX11_pack_26 rfl (lv_at hl 0 rfl) ?_
        refine hk_get (ci := 14) (C := RX11) (T := TX11) (N := 11) (v := .ref (ad 18)) hx hb hts (fun _ h => List.mem_cons_of_mem _ (wwXc_wsX110 _ h)) hown hw 0 rfl rfl 7 (by decide) (hq _ wX_118) rfl dX11_pack_27 ?_
        have e_g8_13 : g8 13 = (g 13) := (h13 13 rfl)
        have e_g8_41 : g8 41 = (g 41) := (h13 41 rfl)
        refine jx_Vv (As := []) (rest := []) ⟨hx, hb, hml, hown, hts⟩ hZ hw hA (jx_X7_writeAlone l hlt D t3 cI cJ ad g8 lg a10 b11 _ (ob584 ((g8 13).toInt) ((g 13).toInt) (congrArg Int32.toInt e_g8_13) hi_g13 (hE_rng (g8 13)) (hE_rng (g 13))) (hk_pE (P := hk_rg (-2147483648) 273) hi_a8rg (h15 8 rfl)) (hk_pE (P := hk_rg (-2147483648) 1501) hi_a12rg (h15 12 rfl)) (ob354 ((g8 41).toInt) ((g 41).toInt) (congrArg Int32.toInt e_g8_41) hi_g41 (hE_rng (g8 41)) (hE_rng (g 41))) (hk_pE (P := hk_rg 0 255) hi_a0rg (h15 0 rfl))) (cwV 0 hts (jx_gV wwX_good wX_124 wX_125 wX_126 wX_122 wX_127) rfl rfl rfl (by decide +kernel) ⟨Nat.le_of_ble_eq_true rfl, Nat.le_of_ble_eq_true rfl⟩) 18 (ci := 10) (T := TX7) (N := 17) rfl rfl rfl hl.1 rfl (Nat.le_of_ble_eq_true rfl) dX11_pack_30 ⟨Nat.le_of_ble_eq_true rfl, Nat.le_of_ble_eq_true rfl⟩ (fun _ _ _ _ _ _ _ _ hp _ _ _ _ => hp.elim) (fun g199 l200 a201 b202 H locs hp203 hw => ?_)
        obtain ⟨h204, h205, h206, -, h208, h209, h210⟩ := hp203
        have hr211 : hk_rg 0 255 (a201 0) := (hk_pE (P := hk_rg 0 255) (hk_pE (P := hk_rg 0 255) hi_a0rg (h15 0 rfl)) (h206 0 rfl))
        have hr212 : hk_rm 5 3 (-3000) 3000 (a201 7) := (hk_pE (P := hk_rm 5 3 (-3000) 3000) (hk_pE (P := hk_rm 5 3 (-3000) 3000) hi_a7rm (h15 7 rfl)) (h206 7 rfl))
        refine lv_goto (tgt := 180) hx hb dX11_pack_33 (by decide) ?_
        have e_g199_26 : g199 26 = (g8 26) := (h204 26 rfl)
        exact B20 g199 l200 a201 b202 ls _ _ (ob365 ((g199 26).toInt) ((g8 26).toInt) (congrArg Int32.toInt e_g199_26) h17 (hE_rng (g199 26)) (hE_rng (g8 26))) (ob331 ((g199 41).toInt) h210 (hE_rng (g199 41))) (hk_frT hk_fr0 (by decide) h204) h205 (hk_frT hk_fr0 (by decide) h206) h208 h209 hr211 hr212 hw (lv_sub hl [0] rfl)
    · refine lv_iconst (v := (-1)) hx hb dX11_pack_9 (by decide) ?_
      exact kr (-1) g lg ar bk _ _ _ _ ⟨hk_fr0, hk_fr0, hk_fr0, trivial, (ob571 ((g 14).toInt) hi_g14 (hE_rng (g 14))), (ob406 ((g 26).toInt) hi_g26 (hE_rng (g 26))), (ob367 ((g 21).toInt) hi_g21 (hE_rng (g 21))), (ob367 ((g 22).toInt) hi_g22 (hE_rng (g 22))), (ob562 ((g 13).toInt) hi_g13 (hE_rng (g 13))), hi_a8rg, hi_a12rg, (ob331 ((g 41).toInt) hi_g41 (hE_rng (g 41))), hi_a0rg, hi_a7rm⟩ hw dX11_pack_10

set_option maxHeartbeats 4000000 in
set_option maxRecDepth 100000 in
/-- X11_finishOpening on (0,) -/
theorem jx_X11_finishOpening (l : Launch) (hlt : l.stackTraces = false) (D : va_G) (t3 : Nat × Nat × Nat) (cI cJ : ClassId) (ad : Nat → Nat) (g : Nat → Int32) (lg : Nat → Int64) (ar : Nat → Nat → Int32) (bk : Nat → Int64) (sz : Nat) (y1 : Int32) (hi_g26 : 0 ≤ (g 26).toInt ∧ (g 26).toInt ≤ 200) (hi_a7rm : hk_rm 5 3 (-3000) 3000 (ar 7)) : JMi l yX11_finishOpening (Cond.code yX11_finishOpening cX11_finishOpening 2 (some .int) :: wwX) { frames := 2, cells := 1, slots := 6, locals := 44 } t3 D xw cI cJ ad [.ref (ad 0), .int y1] (xw cI cJ ad g lg ar bk) sz 1 6 (fun (r : Int32) g' lg' ar' bk' => hk_fr [1, 14] g g' ∧ lg = lg' ∧ ar = ar' ∧ bk = bk') (fun g' lg' ar' bk' => False) := by
  refine jx_meti (cc := cX11_finishOpening) (maxL := 2) (ret := (some .int)) rfl (by decide) rfl (Nat.le_of_ble_eq_true rfl) ?_
  intro p e s m args below meth c ls Q A hx hb hml hown hts hA hZ hw hl hQ kr kt
  have hq : ∀ w ∈ wwX, w.before args s = true := fun w h => hts w (List.mem_cons_of_mem _ h)
  have hl : lv_has ls 2 [(0, .ref (ad 0)), (1, .int y1)] := hl
  refine lv_aload_n hx hb dX11_finishOpening_0 rfl (lv_at hl 0 rfl) ?_
  refine lv_iload_n hx hb dX11_finishOpening_1 rfl (lv_at hl 1 rfl) ?_
  have B1 : ∀  (x2 : Int32) (ls : Array Slot) (H : Heap) (locs : List Loc), hk_W D (jT cI cJ) A s H locs (xw cI cJ ad g lg ar bk) → lv_has ls 2 [(0, .ref (ad 0)), (1, .int y1)] → W p l e { frames := 2, cells := 1, slots := 6, locals := 44 } s m args below meth c H locs 0 0 Q (F0 m 19 ls [.int x2, .ref (ad 0)]) := by
    intro x2 ls H locs hw hl
    refine jx_putg xw (g := g) (lg := lg) (ar := ar) (bk := bk) (x := x2) 1 (ci := 14) (C := RX11) (T := TX11) (N := 11) (ty := .int) hx hb hts (fun _ h => List.mem_cons_of_mem _ (wwXc_wsX110 _ h)) tyX11 tyX11_ok nmX11 hown hw 0 rfl rfl 9 (by decide) (hq _ wX_97) rfl (by decide +kernel) rfl rfl (Nat.le_of_ble_eq_true rfl) dX11_finishOpening_19 rfl (fun H locs g3 h_g3 hw => ?_)
    refine lv_iload_n hx hb dX11_finishOpening_22 rfl (lv_at hl 1 rfl) ?_
    refine lv_if_eq (tgt := 34) hx hb dX11_finishOpening_23 (by decide) (fun cc4 => ?_) (fun cc4 => ?_)
    · refine lv_aload_n hx hb dX11_finishOpening_34 rfl (lv_at hl 0 rfl) ?_
      have e_g3_0 : g3 0 = (g 0) := (hk_upgN h_g3 0 rfl)
      refine hk_get (ci := 14) (C := RX11) (T := TX11) (N := 11) (v := .int (g 0)) hx hb hts (fun _ h => List.mem_cons_of_mem _ (wwXc_wsX110 _ h)) hown hw 0 rfl rfl 0 (by decide) (hq _ wX_98) (congrArg (fun z => some (Value.int z)) e_g3_0) dX11_finishOpening_35 ?_
      refine lv_iconst (v := 2) hx hb dX11_finishOpening_38 (by decide) ?_
      have B5 : ∀  (g6 : Nat → Int32) (ls : Array Slot) (H : Heap) (locs : List Loc), (hk_fr [14] g3 g6) → hk_W D (jT cI cJ) A s H locs (xw cI cJ ad g6 lg ar bk) → lv_has ls 2 [(0, .ref (ad 0))] → W p l e { frames := 2, cells := 1, slots := 6, locals := 44 } s m args below meth c H locs 0 0 Q (F0 m 56 ls []) := by
        intro g6 ls H locs hfr_g6 hw hl
        refine lv_bipush (v := (-10)) hx hb dX11_finishOpening_56 (by decide) ?_
        refine lv_aload_n hx hb dX11_finishOpening_58 rfl (lv_at hl 0 rfl) ?_
        refine hk_get (ci := 14) (C := RX11) (T := TX11) (N := 11) (v := .ref (ad 25)) hx hb hts (fun _ h => List.mem_cons_of_mem _ (wwXc_wsX110 _ h)) hown hw 0 rfl rfl 8 (by decide) (hq _ wX_94) rfl dX11_finishOpening_59 ?_
        refine hk_get (ci := 9) (C := RX6) (T := TX6) (N := 16) (v := .ref (ad 6)) hx hb hts (fun _ h => List.mem_cons_of_mem _ (wwXc_wsX60 _ h)) hown hw 25 rfl rfl 0 (by decide) (hq _ wX_95) rfl dX11_finishOpening_62 ?_
        have e_g6_15 : g6 15 = (g 15) := ((hfr_g6 15 rfl)).trans (hk_upgN h_g3 15 rfl)
        refine hk_get (ci := 11) (C := RX8) (T := TX8) (N := 4) (v := .int (g 15)) hx hb hts (fun _ h => List.mem_cons_of_mem _ (wwXc_wsX80 _ h)) hown hw 6 rfl rfl 1 (by decide) (hq _ wX_103) (congrArg (fun z => some (Value.int z)) e_g6_15) dX11_finishOpening_65 ?_
        refine lv_isub hx hb dX11_finishOpening_68 (jx_nm fun z7 hz7 => ?_)
        exact kr z7 g6 lg ar bk _ _ _ _ ⟨(hk_frT (hk_frG hk_fr0 (by decide) h_g3) (by decide) hfr_g6), rfl, rfl, rfl⟩ hw dX11_finishOpening_69
      refine lv_icmp_ne (tgt := 56) hx hb dX11_finishOpening_39 (by decide) (fun cc8 => ?_) (fun cc8 => ?_)
      · exact B5 g3 ls _ _ hk_fr0 hw (lv_sub hl [0] rfl)
      · refine lv_aload_n hx hb dX11_finishOpening_42 rfl (lv_at hl 0 rfl) ?_
        refine hk_get (ci := 14) (C := RX11) (T := TX11) (N := 11) (v := .ref (ad 4)) hx hb hts (fun _ h => List.mem_cons_of_mem _ (wwXc_wsX110 _ h)) hown hw 0 rfl rfl 3 (by decide) (hq _ wX_76) rfl dX11_finishOpening_43 ?_
        refine lv_aload_n hx hb dX11_finishOpening_46 rfl (lv_at hl 0 rfl) ?_
        refine hk_get (ci := 14) (C := RX11) (T := TX11) (N := 11) (v := .ref (ad 15)) hx hb hts (fun _ h => List.mem_cons_of_mem _ (wwXc_wsX110 _ h)) hown hw 0 rfl rfl 6 (by decide) (hq _ wX_64) rfl dX11_finishOpening_47 ?_
        have e_g3_26 : g3 26 = (g 26) := (hk_upgN h_g3 26 rfl)
        refine jx_Vi (As := []) (rest := [.ref (ad 4)]) ⟨hx, hb, hml, hown, hts⟩ hZ hw hA (jx_X4_bytesOfBlocks l hlt D t3 cI cJ ad g3 lg ar bk _ (ob365 ((g3 26).toInt) ((g 26).toInt) (congrArg Int32.toInt e_g3_26) hi_g26 (hE_rng (g3 26)) (hE_rng (g 26))) hi_a7rm) (cwV 0 hts (jx_gV wwX_good wX_99 wX_100 wX_101 wX_69 wX_102) rfl rfl rfl (by decide +kernel) ⟨Nat.le_of_ble_eq_true rfl, Nat.le_of_ble_eq_true rfl⟩) 15 (ci := 7) (T := TX4) (N := 4) rfl rfl rfl hl.1 rfl (Nat.le_of_ble_eq_true rfl) dX11_finishOpening_50 ⟨Nat.le_of_ble_eq_true rfl, Nat.le_of_ble_eq_true rfl⟩ (fun _ _ _ _ _ _ _ _ hp _ _ _ _ => hp.elim) (fun r13 g14 l15 a16 b17 H locs hp18 hw => ?_)
        obtain ⟨rfl, rfl, rfl, rfl, h23⟩ := hp18
        refine jx_putg xw (g := g3) (lg := lg) (ar := ar) (bk := bk) (x := r13) 14 (ci := 12) (C := RX9) (T := TX9) (N := 2) (ty := .int) hx hb hts (fun _ h => List.mem_cons_of_mem _ (wwXc_wsX90 _ h)) tyX9 tyX9_ok nmX9 hown hw 4 rfl rfl 1 (by decide) (hq _ wX_77) rfl (by decide +kernel) rfl rfl (Nat.le_of_ble_eq_true rfl) dX11_finishOpening_53 rfl (fun H locs g24 h_g24 hw => ?_)
        exact B5 g24 ls _ _ (hk_frG hk_fr0 (by decide) h_g24) hw (lv_sub hl [0] rfl)
    · refine lv_aload_n hx hb dX11_finishOpening_26 rfl (lv_at hl 0 rfl) ?_
      refine hk_get (ci := 14) (C := RX11) (T := TX11) (N := 11) (v := .ref (ad 4)) hx hb hts (fun _ h => List.mem_cons_of_mem _ (wwXc_wsX110 _ h)) hown hw 0 rfl rfl 3 (by decide) (hq _ wX_76) rfl dX11_finishOpening_27 ?_
      have e_g3_14 : g3 14 = (g 14) := (hk_upgN h_g3 14 rfl)
      refine hk_get (ci := 12) (C := RX9) (T := TX9) (N := 2) (v := .int (g 14)) hx hb hts (fun _ h => List.mem_cons_of_mem _ (wwXc_wsX90 _ h)) hown hw 4 rfl rfl 1 (by decide) (hq _ wX_77) (congrArg (fun z => some (Value.int z)) e_g3_14) dX11_finishOpening_30 ?_
      exact kr (g 14) g3 lg ar bk _ _ _ _ ⟨(hk_frG hk_fr0 (by decide) h_g3), rfl, rfl, rfl⟩ hw dX11_finishOpening_33
  refine lv_if_eq (tgt := 9) hx hb dX11_finishOpening_2 (by decide) (fun cc25 => ?_) (fun cc25 => ?_)
  · refine lv_aload_n hx hb dX11_finishOpening_9 rfl (lv_at hl 0 rfl) ?_
    refine hk_get (ci := 14) (C := RX11) (T := TX11) (N := 11) (v := .ref (ad 25)) hx hb hts (fun _ h => List.mem_cons_of_mem _ (wwXc_wsX110 _ h)) hown hw 0 rfl rfl 8 (by decide) (hq _ wX_94) rfl dX11_finishOpening_10 ?_
    refine hk_get (ci := 9) (C := RX6) (T := TX6) (N := 16) (v := .ref (ad 6)) hx hb hts (fun _ h => List.mem_cons_of_mem _ (wwXc_wsX60 _ h)) hown hw 25 rfl rfl 0 (by decide) (hq _ wX_95) rfl dX11_finishOpening_13 ?_
    refine hk_get (ci := 11) (C := RX8) (T := TX8) (N := 4) (v := .int (g 17)) hx hb hts (fun _ h => List.mem_cons_of_mem _ (wwXc_wsX80 _ h)) hown hw 6 rfl rfl 3 (by decide) (hq _ wX_96) rfl dX11_finishOpening_16 ?_
    exact B1 (g 17) ls _ _ hw (lv_sub hl [0, 1] rfl)
  · refine lv_iconst (v := 0) hx hb dX11_finishOpening_5 (by decide) ?_
    refine lv_goto (tgt := 19) hx hb dX11_finishOpening_6 (by decide) ?_
    exact B1 0 ls _ _ hw (lv_sub hl [0, 1] rfl)

set_option maxHeartbeats 4000000 in
set_option maxRecDepth 100000 in
/-- X11_rule on (0,) -/
theorem jx_X11_rule (l : Launch) (hlt : l.stackTraces = false) (D : va_G) (t3 : Nat × Nat × Nat) (cI cJ : ClassId) (ad : Nat → Nat) (g : Nat → Int32) (lg : Nat → Int64) (ar : Nat → Nat → Int32) (bk : Nat → Int64) (sz : Nat) : JMi l yX11_rule (Cond.code yX11_rule cX11_rule 1 (some .int) :: wwX) { frames := 0, cells := 1, slots := 6, locals := 0 } t3 D xw cI cJ ad [.ref (ad 0)] (xw cI cJ ad g lg ar bk) sz 1 6 (fun (r : Int32) g' lg' ar' bk' => g = g' ∧ lg = lg' ∧ ar = ar' ∧ bk = bk') (fun g' lg' ar' bk' => False) := by
  refine jx_meti (cc := cX11_rule) (maxL := 1) (ret := (some .int)) rfl (by decide) rfl (Nat.le_of_ble_eq_true rfl) ?_
  intro p e s m args below meth c ls Q A hx hb hml hown hts hA hZ hw hl hQ kr kt
  have hq : ∀ w ∈ wwX, w.before args s = true := fun w h => hts w (List.mem_cons_of_mem _ h)
  have hl : lv_has ls 1 [(0, .ref (ad 0))] := hl
  refine lv_aload_n hx hb dX11_rule_0 rfl (lv_at hl 0 rfl) ?_
  refine hk_get (ci := 14) (C := RX11) (T := TX11) (N := 11) (v := .int (g 1)) hx hb hts (fun _ h => List.mem_cons_of_mem _ (wwXc_wsX110 _ h)) hown hw 0 rfl rfl 9 (by decide) (hq _ wX_97) rfl dX11_rule_1 ?_
  exact kr (g 1) g lg ar bk _ _ _ _ ⟨rfl, rfl, rfl, rfl⟩ hw dX11_rule_4

set_option maxHeartbeats 4000000 in
set_option maxRecDepth 100000 in
/-- X11_pass on (0,) -/
theorem jx_X11_pass (l : Launch) (hlt : l.stackTraces = false) (D : va_G) (t3 : Nat × Nat × Nat) (cI cJ : ClassId) (ad : Nat → Nat) (g : Nat → Int32) (lg : Nat → Int64) (ar : Nat → Nat → Int32) (bk : Nat → Int64) (sz : Nat) (hi_g13 : 0 ≤ (g 13).toInt ∧ (g 13).toInt ≤ 1500) (hi_a0rg : hk_rg 0 255 (ar 0)) : JMi l yX11_pass (Cond.code yX11_pass cX11_pass 2 (some .int) :: wwX) { frames := 2, cells := 1, slots := 6, locals := 43 } t3 D xw cI cJ ad [.ref (ad 0)] (xw cI cJ ad g lg ar bk) sz 1 6 (fun (r : Int32) g' lg' ar' bk' => hk_fr [13] g g' ∧ lg = lg' ∧ hk_fr [0] ar ar' ∧ bk = bk' ∧ (0 ≤ (g' 13).toInt ∧ (g' 13).toInt ≤ 1500) ∧ hk_rg 0 255 (ar' 0)) (fun g' lg' ar' bk' => False) := by
  refine jx_meti (cc := cX11_pass) (maxL := 2) (ret := (some .int)) rfl (by decide) rfl (Nat.le_of_ble_eq_true rfl) ?_
  intro p e s m args below meth c ls Q A hx hb hml hown hts hA hZ hw hl hQ kr kt
  have hq : ∀ w ∈ wwX, w.before args s = true := fun w h => hts w (List.mem_cons_of_mem _ h)
  have hl : lv_has ls 2 [(0, .ref (ad 0))] := hl
  refine lv_aload_n hx hb dX11_pass_0 rfl (lv_at hl 0 rfl) ?_
  refine hk_get (ci := 14) (C := RX11) (T := TX11) (N := 11) (v := .ref (ad 4)) hx hb hts (fun _ h => List.mem_cons_of_mem _ (wwXc_wsX110 _ h)) hown hw 0 rfl rfl 3 (by decide) (hq _ wX_76) rfl dX11_pass_1 ?_
  refine hk_get (ci := 12) (C := RX9) (T := TX9) (N := 2) (v := .int (g 14)) hx hb hts (fun _ h => List.mem_cons_of_mem _ (wwXc_wsX90 _ h)) hown hw 4 rfl rfl 1 (by decide) (hq _ wX_77) rfl dX11_pass_4 ?_
  refine lv_sipush (v := 1500) hx hb dX11_pass_7 (by decide) ?_
  refine lv_icmp_le (tgt := 16) hx hb dX11_pass_10 (by decide) (fun cc1 => ?_) (fun cc1 => ?_)
  · refine lv_aload_n hx hb dX11_pass_16 rfl (lv_at hl 0 rfl) ?_
    refine hk_get (ci := 14) (C := RX11) (T := TX11) (N := 11) (v := .ref (ad 2)) hx hb hts (fun _ h => List.mem_cons_of_mem _ (wwXc_wsX110 _ h)) hown hw 0 rfl rfl 2 (by decide) (hq _ wX_83) rfl dX11_pass_17 ?_
    refine lv_iconst (v := 0) hx hb dX11_pass_20 (by decide) ?_
    refine jx_putg xw (g := g) (lg := lg) (ar := ar) (bk := bk) (x := 0) 13 (ci := 12) (C := RX9) (T := TX9) (N := 2) (ty := .int) hx hb hts (fun _ h => List.mem_cons_of_mem _ (wwXc_wsX90 _ h)) tyX9 tyX9_ok nmX9 hown hw 2 rfl rfl 1 (by decide) (hq _ wX_77) rfl (by decide +kernel) rfl rfl (Nat.le_of_ble_eq_true rfl) dX11_pass_21 rfl (fun H locs g2 h_g2 hw => ?_)
    refine lv_iconst (v := 0) hx hb dX11_pass_24 (by decide) ?_
    refine lv_istore_n (lv' := [(1, .int 0), (0, .ref (ad 0))]) hx hb dX11_pass_25 rfl hl (by decide) rfl (fun ls hl => ?_)
    have B3 : ∀ (k7 : Nat) (x4 : Int32) (g5 : Nat → Int32) (a6 : Nat → Nat → Int32) (ls : Array Slot) (H : Heap) (locs : List Loc), (2147483648 - (x4).toInt ≤ (k7 : Int)) → ((g5 13).toInt = (x4).toInt) → (0 ≤ (x4).toInt) → (0 ≤ (g5 13).toInt ∧ (g5 13).toInt ≤ 1500) → (hk_fr [13] g2 g5) → (hk_fr [0] ar a6) → (hk_rg 0 255 (a6 0)) → hk_W D (jT cI cJ) A s H locs (xw cI cJ ad g5 lg a6 bk) → lv_has ls 2 [(0, .ref (ad 0)), (1, .int x4)] → W p l e { frames := 2, cells := 1, slots := 6, locals := 43 } s m args below meth c H locs 0 0 Q (F0 m 26 ls []) := by
      intro k7
      induction k7 with
      | zero =>
        intro x4 g5 a6 ls H locs hrk_B3 hf_B3_0 hf_B3_1 hf_B3_2 hfr_g5 hfr_a6 ha6_r0rg hw hl
        exact False.elim (hk_no0 (0 * (x4).toInt) (ob585 ((x4).toInt) ((g5 13).toInt) hf_B3_0 hf_B3_1 hrk_B3 hf_B3_2 (hE_rng (x4)) (hE_rng (g5 13))) (by simp))
      | succ k7 ih_B3 =>
        intro x4 g5 a6 ls H locs hrk_B3 hf_B3_0 hf_B3_1 hf_B3_2 hfr_g5 hfr_a6 ha6_r0rg hw hl
        have hrk_B3 := hk_rk hrk_B3
        refine lv_iload_n hx hb dX11_pass_26 rfl (lv_at hl 1 rfl) ?_
        refine lv_aload_n hx hb dX11_pass_27 rfl (lv_at hl 0 rfl) ?_
        refine hk_get (ci := 14) (C := RX11) (T := TX11) (N := 11) (v := .ref (ad 4)) hx hb hts (fun _ h => List.mem_cons_of_mem _ (wwXc_wsX110 _ h)) hown hw 0 rfl rfl 3 (by decide) (hq _ wX_76) rfl dX11_pass_28 ?_
        have e_g5_14 : g5 14 = (g 14) := ((hfr_g5 14 rfl)).trans (hk_upgN h_g2 14 rfl)
        refine hk_get (ci := 12) (C := RX9) (T := TX9) (N := 2) (v := .int (g 14)) hx hb hts (fun _ h => List.mem_cons_of_mem _ (wwXc_wsX90 _ h)) hown hw 4 rfl rfl 1 (by decide) (hq _ wX_77) (congrArg (fun z => some (Value.int z)) e_g5_14) dX11_pass_31 ?_
        refine lv_icmp_ge (tgt := 58) hx hb dX11_pass_34 (by decide) (fun cc8 => ?_) (fun cc8 => ?_)
        · refine lv_aload_n hx hb dX11_pass_58 rfl (lv_at hl 0 rfl) ?_
          refine hk_get (ci := 14) (C := RX11) (T := TX11) (N := 11) (v := .ref (ad 2)) hx hb hts (fun _ h => List.mem_cons_of_mem _ (wwXc_wsX110 _ h)) hown hw 0 rfl rfl 2 (by decide) (hq _ wX_83) rfl dX11_pass_59 ?_
          refine hk_get (ci := 12) (C := RX9) (T := TX9) (N := 2) (v := .int (g5 13)) hx hb hts (fun _ h => List.mem_cons_of_mem _ (wwXc_wsX90 _ h)) hown hw 2 rfl rfl 1 (by decide) (hq _ wX_77) rfl dX11_pass_62 ?_
          exact kr (g5 13) g5 lg a6 bk _ _ _ _ ⟨(hk_frT (hk_frG hk_fr0 (by decide) h_g2) (by decide) hfr_g5), rfl, hfr_a6, rfl, (ob586 ((g5 13).toInt) ((x4).toInt) (k7 : Int) ((g 14).toInt) (((1500 : Int32)).toInt) ((g5 14).toInt) hf_B3_0 hf_B3_2 hf_B3_1 hrk_B3 (hE_le cc8) (hE_le cc1) (congrArg Int32.toInt e_g5_14) (hE_rng (g5 13)) (hE_rng (x4)) (hE_rng (g 14)) (by decide) (hE_rng (g5 14))), ha6_r0rg⟩ hw dX11_pass_65
        · refine lv_aload_n hx hb dX11_pass_37 rfl (lv_at hl 0 rfl) ?_
          refine hk_get (ci := 14) (C := RX11) (T := TX11) (N := 11) (v := .ref (ad 2)) hx hb hts (fun _ h => List.mem_cons_of_mem _ (wwXc_wsX110 _ h)) hown hw 0 rfl rfl 2 (by decide) (hq _ wX_83) rfl dX11_pass_38 ?_
          refine lv_aload_n hx hb dX11_pass_41 rfl (lv_at hl 0 rfl) ?_
          refine hk_get (ci := 14) (C := RX11) (T := TX11) (N := 11) (v := .ref (ad 4)) hx hb hts (fun _ h => List.mem_cons_of_mem _ (wwXc_wsX110 _ h)) hown hw 0 rfl rfl 3 (by decide) (hq _ wX_76) rfl dX11_pass_42 ?_
          refine lv_iload_n hx hb dX11_pass_45 rfl (lv_at hl 1 rfl) ?_
          refine jx_Vi (As := [.int x4]) (rest := [.ref (ad 2)]) ⟨hx, hb, hml, hown, hts⟩ hZ hw hA (jx_X9_get_4 l hlt D t3 cI cJ ad g5 lg a6 bk _ x4) (cwV 1 hts (jx_gV wwX_good wX_117 wX_22 wX_23 wX_24 wX_25) rfl rfl rfl (by decide +kernel) ⟨Nat.le_of_ble_eq_true rfl, Nat.le_of_ble_eq_true rfl⟩) 4 (ci := 12) (T := TX9) (N := 2) rfl rfl rfl hl.1 rfl (Nat.le_of_ble_eq_true rfl) dX11_pass_46 ⟨Nat.le_of_ble_eq_true rfl, Nat.le_of_ble_eq_true rfl⟩ (fun _ _ _ _ _ _ _ _ hp _ _ _ _ => hp.elim) (fun r13 g14 l15 a16 b17 H locs hp18 hw => ?_)
          obtain ⟨rfl, rfl, rfl, rfl⟩ := hp18
          refine jx_Vv (As := [.int r13]) (rest := []) ⟨hx, hb, hml, hown, hts⟩ hZ hw hA (jx_X9_put_2 l hlt D t3 cI cJ ad g5 lg a6 bk _ r13 ha6_r0rg) (cwV 1 hts (jx_gV wwX_good wX_111 wX_112 wX_113 wX_24 wX_114) rfl rfl rfl (by decide +kernel) ⟨Nat.le_of_ble_eq_true rfl, Nat.le_of_ble_eq_true rfl⟩) 2 (ci := 12) (T := TX9) (N := 2) rfl rfl rfl hl.1 rfl (Nat.le_of_ble_eq_true rfl) dX11_pass_49 ⟨Nat.le_of_ble_eq_true rfl, Nat.le_of_ble_eq_true rfl⟩ (fun _ _ _ _ _ _ _ _ hp _ _ _ _ => hp.elim) (fun g28 l29 a30 b31 H locs hp32 hw => ?_)
          obtain ⟨h33, rfl, h35, rfl, h37, h38⟩ := hp32
          obtain ⟨z39, hz39⟩ : ∃ z : Int32, x4 + 1 = z := ⟨_, rfl⟩
          refine lv_iinc (v := z39) (lv' := [(1, .int z39), (0, .ref (ad 0))]) hx hb dX11_pass_52 hl (k := 1) rfl hz39 (by decide) rfl (fun ls hl => ?_)
          have xz39 : (z39).toInt = (x4).toInt + ((1 : Int32)).toInt := (hE_imp (hE_add hz39) (ob587 ((x4).toInt) (((1 : Int32)).toInt) ((g5 13).toInt) (k7 : Int) ((g 14).toInt) (((1500 : Int32)).toInt) ((g5 14).toInt) ((g28 13).toInt) hf_B3_0 hf_B3_1 hrk_B3 (hE_nle cc8) (hE_le cc1) hf_B3_2 (congrArg Int32.toInt e_g5_14) h37 (hE_rng (x4)) (by decide) (hE_rng (g5 13)) (hE_rng (g 14)) (by decide) (hE_rng (g5 14)) (hE_rng (g28 13))))
          refine lv_goto (tgt := 26) hx hb dX11_pass_55 (by decide) ?_
          exact ih_B3 z39 g28 a30 ls _ _ (ob588 ((z39).toInt) (k7 : Int) ((x4).toInt) (((1 : Int32)).toInt) ((g5 13).toInt) ((g 14).toInt) (((1500 : Int32)).toInt) ((g5 14).toInt) ((g28 13).toInt) hrk_B3 xz39 hf_B3_0 hf_B3_1 (hE_nle cc8) (hE_le cc1) hf_B3_2 (congrArg Int32.toInt e_g5_14) h37 (hE_rng (z39)) (hE_rng (x4)) (by decide) (hE_rng (g5 13)) (hE_rng (g 14)) (by decide) (hE_rng (g5 14)) (hE_rng (g28 13))) (ob589 ((g28 13).toInt) ((z39).toInt) ((g5 13).toInt) ((x4).toInt) (((1 : Int32)).toInt) (k7 : Int) ((g 14).toInt) (((1500 : Int32)).toInt) ((g5 14).toInt) h37 xz39 hf_B3_0 hf_B3_1 hf_B3_2 hrk_B3 (hE_nle cc8) (hE_le cc1) (congrArg Int32.toInt e_g5_14) (hE_rng (g28 13)) (hE_rng (z39)) (hE_rng (g5 13)) (hE_rng (x4)) (by decide) (hE_rng (g 14)) (by decide) (hE_rng (g5 14))) (ob590 ((z39).toInt) ((x4).toInt) (((1 : Int32)).toInt) ((g5 13).toInt) (k7 : Int) ((g 14).toInt) (((1500 : Int32)).toInt) ((g5 14).toInt) ((g28 13).toInt) xz39 hf_B3_0 hf_B3_1 hrk_B3 (hE_nle cc8) (hE_le cc1) hf_B3_2 (congrArg Int32.toInt e_g5_14) h37 (hE_rng (z39)) (hE_rng (x4)) (by decide) (hE_rng (g5 13)) (hE_rng (g 14)) (by decide) (hE_rng (g5 14)) (hE_rng (g28 13))) (ob591 ((g28 13).toInt) ((g5 13).toInt) ((x4).toInt) (k7 : Int) ((g 14).toInt) ((z39).toInt) (((1 : Int32)).toInt) (((1500 : Int32)).toInt) ((g5 14).toInt) h37 hf_B3_0 hf_B3_2 hf_B3_1 hrk_B3 (hE_nle cc8) xz39 (hE_le cc1) (congrArg Int32.toInt e_g5_14) (hE_rng (g28 13)) (hE_rng (g5 13)) (hE_rng (x4)) (hE_rng (g 14)) (hE_rng (z39)) (by decide) (by decide) (hE_rng (g5 14))) (hk_frT hfr_g5 (by decide) h33) (hk_frT hfr_a6 (by decide) h35) h38 hw (lv_sub hl [1, 0] rfl)
    have e_g2_13 : g2 13 = (0 : Int32) := (hk_upgS h_g2)
    exact B3 (2147483648 - ((0 : Int32)).toInt).toNat 0 g2 ar ls _ _ (Int.self_le_toNat _) (ob592 ((g2 13).toInt) (((0 : Int32)).toInt) (congrArg Int32.toInt e_g2_13) (hE_rng (g2 13)) (by decide)) (ob593 (((0 : Int32)).toInt) ((g2 13).toInt) (congrArg Int32.toInt e_g2_13) (by decide) (hE_rng (g2 13))) (ob594 ((g2 13).toInt) (((0 : Int32)).toInt) (congrArg Int32.toInt e_g2_13) (hE_rng (g2 13)) (by decide)) hk_fr0 hk_fr0 hi_a0rg hw (lv_sub hl [1, 0] rfl)
  · refine lv_bipush (v := (-3)) hx hb dX11_pass_13 (by decide) ?_
    exact kr (-3) g lg ar bk _ _ _ _ ⟨hk_fr0, rfl, hk_fr0, rfl, (ob562 ((g 13).toInt) hi_g13 (hE_rng (g 13))), hi_a0rg⟩ hw dX11_pass_15

set_option maxHeartbeats 4000000 in
set_option maxRecDepth 100000 in
/-- X11_step on (0,) -/
theorem jx_X11_step (l : Launch) (hlt : l.stackTraces = false) (D : va_G) (t3 : Nat × Nat × Nat) (cI cJ : ClassId) (ad : Nat → Nat) (g : Nat → Int32) (lg : Nat → Int64) (ar : Nat → Nat → Int32) (bk : Nat → Int64) (sz : Nat) (y1 : Int32) (y2 : Int32) : JMi l yX11_step (Cond.code yX11_step cX11_step 3 (some .int) :: wwX) { frames := 1, cells := 1, slots := 6, locals := 22 } t3 D xw cI cJ ad [.ref (ad 0), .int y1, .int y2] (xw cI cJ ad g lg ar bk) sz 1 6 (fun (r : Int32) g' lg' ar' bk' => g = g' ∧ lg = lg' ∧ ar = ar' ∧ bk = bk') (fun g' lg' ar' bk' => False) := by
  refine jx_meti (cc := cX11_step) (maxL := 3) (ret := (some .int)) rfl (by decide) rfl (Nat.le_of_ble_eq_true rfl) ?_
  intro p e s m args below meth c ls Q A hx hb hml hown hts hA hZ hw hl hQ kr kt
  have hq : ∀ w ∈ wwX, w.before args s = true := fun w h => hts w (List.mem_cons_of_mem _ h)
  have hl : lv_has ls 3 [(0, .ref (ad 0)), (1, .int y1), (2, .int y2)] := hl
  refine lv_iload_n hx hb dX11_step_0 rfl (lv_at hl 1 rfl) ?_
  refine lv_iconst (v := (-1)) hx hb dX11_step_1 (by decide) ?_
  have B1 : ∀  (ls : Array Slot) (H : Heap) (locs : List Loc), hk_W D (jT cI cJ) A s H locs (xw cI cJ ad g lg ar bk) → lv_has ls 3 [(0, .ref (ad 0)), (1, .int y1), (2, .int y2)] → W p l e { frames := 1, cells := 1, slots := 6, locals := 22 } s m args below meth c H locs 0 0 Q (F0 m 17 ls []) := by
    intro ls H locs hw hl
    refine lv_aload_n hx hb dX11_step_17 rfl (lv_at hl 0 rfl) ?_
    refine hk_get (ci := 14) (C := RX11) (T := TX11) (N := 11) (v := .ref (ad 15)) hx hb hts (fun _ h => List.mem_cons_of_mem _ (wwXc_wsX110 _ h)) hown hw 0 rfl rfl 6 (by decide) (hq _ wX_64) rfl dX11_step_18 ?_
    refine lv_iload_n hx hb dX11_step_21 rfl (lv_at hl 1 rfl) ?_
    refine lv_iload_n hx hb dX11_step_22 rfl (lv_at hl 2 rfl) ?_
    refine jx_Vi (As := [.int y1, .int y2]) (rest := []) ⟨hx, hb, hml, hown, hts⟩ hZ hw hA (jx_X4_stepPart l hlt D t3 cI cJ ad g lg ar bk _ y1 y2) (cwV 2 hts (jx_gV wwX_good wX_178 wX_179 wX_180 wX_69 wX_181) rfl rfl rfl (by decide +kernel) ⟨Nat.le_of_ble_eq_true rfl, Nat.le_of_ble_eq_true rfl⟩) 15 (ci := 7) (T := TX4) (N := 4) rfl rfl rfl hl.1 rfl (Nat.le_of_ble_eq_true rfl) dX11_step_23 ⟨Nat.le_of_ble_eq_true rfl, Nat.le_of_ble_eq_true rfl⟩ (fun _ _ _ _ _ _ _ _ hp _ _ _ _ => hp.elim) (fun r6 g7 l8 a9 b10 H locs hp11 hw => ?_)
    obtain ⟨rfl, rfl, rfl, rfl⟩ := hp11
    exact kr r6 g lg ar bk _ _ _ _ ⟨rfl, rfl, rfl, rfl⟩ hw dX11_step_26
  refine lv_icmp_ne (tgt := 17) hx hb dX11_step_2 (by decide) (fun cc16 => ?_) (fun cc16 => ?_)
  · exact B1 ls _ _ hw (lv_sub hl [0, 1, 2] rfl)
  · refine lv_iload_n hx hb dX11_step_5 rfl (lv_at hl 2 rfl) ?_
    refine lv_if_ne (tgt := 17) hx hb dX11_step_6 (by decide) (fun cc17 => ?_) (fun cc17 => ?_)
    · exact B1 ls _ _ hw (lv_sub hl [0, 1, 2] rfl)
    · refine lv_aload_n hx hb dX11_step_9 rfl (lv_at hl 0 rfl) ?_
      refine hk_get (ci := 14) (C := RX11) (T := TX11) (N := 11) (v := .ref (ad 15)) hx hb hts (fun _ h => List.mem_cons_of_mem _ (wwXc_wsX110 _ h)) hown hw 0 rfl rfl 6 (by decide) (hq _ wX_64) rfl dX11_step_10 ?_
      refine hk_get (ci := 7) (C := RX4) (T := TX4) (N := 4) (v := .int (g 25)) hx hb hts (fun _ h => List.mem_cons_of_mem _ (wwXc_wsX40 _ h)) hown hw 15 rfl rfl 2 (by decide) (hq _ wX_177) rfl dX11_step_13 ?_
      exact kr (g 25) g lg ar bk _ _ _ _ ⟨rfl, rfl, rfl, rfl⟩ hw dX11_step_16

set_option maxHeartbeats 4000000 in
set_option maxRecDepth 100000 in
/-- X11_state on (0,) -/
theorem jx_X11_state (l : Launch) (hlt : l.stackTraces = false) (D : va_G) (t3 : Nat × Nat × Nat) (cI cJ : ClassId) (ad : Nat → Nat) (g : Nat → Int32) (lg : Nat → Int64) (ar : Nat → Nat → Int32) (bk : Nat → Int64) (sz : Nat) : JMi l yX11_state (Cond.code yX11_state cX11_state 1 (some .int) :: wwX) { frames := 0, cells := 1, slots := 6, locals := 0 } t3 D xw cI cJ ad [.ref (ad 0)] (xw cI cJ ad g lg ar bk) sz 1 6 (fun (r : Int32) g' lg' ar' bk' => g = g' ∧ lg = lg' ∧ ar = ar' ∧ bk = bk') (fun g' lg' ar' bk' => False) := by
  refine jx_meti (cc := cX11_state) (maxL := 1) (ret := (some .int)) rfl (by decide) rfl (Nat.le_of_ble_eq_true rfl) ?_
  intro p e s m args below meth c ls Q A hx hb hml hown hts hA hZ hw hl hQ kr kt
  have hq : ∀ w ∈ wwX, w.before args s = true := fun w h => hts w (List.mem_cons_of_mem _ h)
  have hl : lv_has ls 1 [(0, .ref (ad 0))] := hl
  refine lv_aload_n hx hb dX11_state_0 rfl (lv_at hl 0 rfl) ?_
  refine hk_get (ci := 14) (C := RX11) (T := TX11) (N := 11) (v := .int (g 2)) hx hb hts (fun _ h => List.mem_cons_of_mem _ (wwXc_wsX110 _ h)) hown hw 0 rfl rfl 10 (by decide) (hq _ wX_106) rfl dX11_state_1 ?_
  exact kr (g 2) g lg ar bk _ _ _ _ ⟨rfl, rfl, rfl, rfl⟩ hw dX11_state_4

set_option maxHeartbeats 4000000 in
set_option maxRecDepth 100000 in
/-- X11_block on (0,) -/
theorem jx_X11_block (l : Launch) (hlt : l.stackTraces = false) (D : va_G) (t3 : Nat × Nat × Nat) (cI cJ : ClassId) (ad : Nat → Nat) (g : Nat → Int32) (lg : Nat → Int64) (ar : Nat → Nat → Int32) (bk : Nat → Int64) (sz : Nat) (y1 : Int32) (y2 : Int32) (hi_a7rm : hk_rm 5 3 (-3000) 3000 (ar 7)) : JMi l yX11_block (Cond.code yX11_block cX11_block 3 (some .int) :: wwX) { frames := 1, cells := 1, slots := 6, locals := 22 } t3 D xw cI cJ ad [.ref (ad 0), .int y1, .int y2] (xw cI cJ ad g lg ar bk) sz 1 6 (fun (r : Int32) g' lg' ar' bk' => g = g' ∧ lg = lg' ∧ ar = ar' ∧ bk = bk') (fun g' lg' ar' bk' => False) := by
  refine jx_meti (cc := cX11_block) (maxL := 3) (ret := (some .int)) rfl (by decide) rfl (Nat.le_of_ble_eq_true rfl) ?_
  intro p e s m args below meth c ls Q A hx hb hml hown hts hA hZ hw hl hQ kr kt
  have hq : ∀ w ∈ wwX, w.before args s = true := fun w h => hts w (List.mem_cons_of_mem _ h)
  have hl : lv_has ls 3 [(0, .ref (ad 0)), (1, .int y1), (2, .int y2)] := hl
  refine lv_iload_n hx hb dX11_block_0 rfl (lv_at hl 1 rfl) ?_
  refine lv_iconst (v := (-1)) hx hb dX11_block_1 (by decide) ?_
  have B1 : ∀  (ls : Array Slot) (H : Heap) (locs : List Loc), hk_W D (jT cI cJ) A s H locs (xw cI cJ ad g lg ar bk) → lv_has ls 3 [(0, .ref (ad 0)), (1, .int y1), (2, .int y2)] → W p l e { frames := 1, cells := 1, slots := 6, locals := 22 } s m args below meth c H locs 0 0 Q (F0 m 17 ls []) := by
    intro ls H locs hw hl
    refine lv_aload_n hx hb dX11_block_17 rfl (lv_at hl 0 rfl) ?_
    refine hk_get (ci := 14) (C := RX11) (T := TX11) (N := 11) (v := .ref (ad 15)) hx hb hts (fun _ h => List.mem_cons_of_mem _ (wwXc_wsX110 _ h)) hown hw 0 rfl rfl 6 (by decide) (hq _ wX_64) rfl dX11_block_18 ?_
    refine lv_iload_n hx hb dX11_block_21 rfl (lv_at hl 1 rfl) ?_
    refine lv_iload_n hx hb dX11_block_22 rfl (lv_at hl 2 rfl) ?_
    refine jx_Vi (As := [.int y1, .int y2]) (rest := []) ⟨hx, hb, hml, hown, hts⟩ hZ hw hA (jx_X4_blockPart l hlt D t3 cI cJ ad g lg ar bk _ y1 y2 hi_a7rm) (cwV 2 hts (jx_gV wwX_good wX_66 wX_67 wX_68 wX_69 wX_70) rfl rfl rfl (by decide +kernel) ⟨Nat.le_of_ble_eq_true rfl, Nat.le_of_ble_eq_true rfl⟩) 15 (ci := 7) (T := TX4) (N := 4) rfl rfl rfl hl.1 rfl (Nat.le_of_ble_eq_true rfl) dX11_block_23 ⟨Nat.le_of_ble_eq_true rfl, Nat.le_of_ble_eq_true rfl⟩ (fun _ _ _ _ _ _ _ _ hp _ _ _ _ => hp.elim) (fun r6 g7 l8 a9 b10 H locs hp11 hw => ?_)
    obtain ⟨rfl, rfl, rfl, rfl, h16⟩ := hp11
    exact kr r6 g lg ar bk _ _ _ _ ⟨rfl, rfl, rfl, rfl⟩ hw dX11_block_26
  refine lv_icmp_ne (tgt := 17) hx hb dX11_block_2 (by decide) (fun cc17 => ?_) (fun cc17 => ?_)
  · exact B1 ls _ _ hw (lv_sub hl [0, 1, 2] rfl)
  · refine lv_iload_n hx hb dX11_block_5 rfl (lv_at hl 2 rfl) ?_
    refine lv_if_ne (tgt := 17) hx hb dX11_block_6 (by decide) (fun cc18 => ?_) (fun cc18 => ?_)
    · exact B1 ls _ _ hw (lv_sub hl [0, 1, 2] rfl)
    · refine lv_aload_n hx hb dX11_block_9 rfl (lv_at hl 0 rfl) ?_
      refine hk_get (ci := 14) (C := RX11) (T := TX11) (N := 11) (v := .ref (ad 15)) hx hb hts (fun _ h => List.mem_cons_of_mem _ (wwXc_wsX110 _ h)) hown hw 0 rfl rfl 6 (by decide) (hq _ wX_64) rfl dX11_block_10 ?_
      refine hk_get (ci := 7) (C := RX4) (T := TX4) (N := 4) (v := .int (g 26)) hx hb hts (fun _ h => List.mem_cons_of_mem _ (wwXc_wsX40 _ h)) hown hw 15 rfl rfl 3 (by decide) (hq _ wX_65) rfl dX11_block_13 ?_
      exact kr (g 26) g lg ar bk _ _ _ _ ⟨rfl, rfl, rfl, rfl⟩ hw dX11_block_16

set_option maxHeartbeats 4000000 in
set_option maxRecDepth 100000 in
/-- X11_check on (0,) -/
theorem jx_X11_check (l : Launch) (hlt : l.stackTraces = false) (D : va_G) (t3 : Nat × Nat × Nat) (cI cJ : ClassId) (ad : Nat → Nat) (g : Nat → Int32) (lg : Nat → Int64) (ar : Nat → Nat → Int32) (bk : Nat → Int64) (sz : Nat) (y1 : Int32) (y2 : Int32) : JMi l yX11_check (Cond.code yX11_check cX11_check 3 (some .int) :: wwX) { frames := 5, cells := 1, slots := 6, locals := 130 } t3 D xw cI cJ ad [.ref (ad 0), .int y1, .int y2] (xw cI cJ ad g lg ar bk) sz 1 6 (fun (r : Int32) g' lg' ar' bk' => g = g' ∧ lg = lg' ∧ hk_fr [3, 4, 5] ar ar' ∧ bk = bk') (fun g' lg' ar' bk' => False) := by
  refine jx_meti (cc := cX11_check) (maxL := 3) (ret := (some .int)) rfl (by decide) rfl (Nat.le_of_ble_eq_true rfl) ?_
  intro p e s m args below meth c ls Q A hx hb hml hown hts hA hZ hw hl hQ kr kt
  have hq : ∀ w ∈ wwX, w.before args s = true := fun w h => hts w (List.mem_cons_of_mem _ h)
  have hl : lv_has ls 3 [(0, .ref (ad 0)), (1, .int y1), (2, .int y2)] := hl
  refine lv_iload_n hx hb dX11_check_0 rfl (lv_at hl 1 rfl) ?_
  refine jx_Si (As := [.int y1]) (rest := []) ⟨hx, hb, hml, hown, hts⟩ hZ hw hA (jx_X0_isKind l hlt D t3 cI cJ ad g lg ar bk _ y1) (va_cwS 1 hts (jx_gS wwX_good wX_71 wX_60 wX_12 wX_61) rfl rfl rfl (by decide +kernel) ⟨Nat.le_of_ble_eq_true rfl, Nat.le_of_ble_eq_true rfl⟩) rfl hl.1 rfl (Nat.le_of_ble_eq_true rfl) dX11_check_1 ⟨Nat.le_of_ble_eq_true rfl, Nat.le_of_ble_eq_true rfl⟩ (fun _ _ _ _ _ _ _ _ hp _ _ _ _ => hp.elim) (fun r5 g6 l7 a8 b9 H locs hp10 hw => ?_)
  obtain ⟨rfl, rfl, rfl, rfl, h15⟩ := hp10
  refine lv_if_eq (tgt := 21) hx hb dX11_check_4 (by decide) (fun cc16 => ?_) (fun cc16 => ?_)
  · refine lv_iconst (v := (-1)) hx hb dX11_check_21 (by decide) ?_
    exact kr (-1) g lg ar bk _ _ _ _ ⟨rfl, rfl, hk_fr0, rfl⟩ hw dX11_check_22
  · refine lv_iload_n hx hb dX11_check_7 rfl (lv_at hl 2 rfl) ?_
    refine lv_if_lt (tgt := 21) hx hb dX11_check_8 (by decide) (fun cc17 => ?_) (fun cc17 => ?_)
    · refine lv_iconst (v := (-1)) hx hb dX11_check_21 (by decide) ?_
      exact kr (-1) g lg ar bk _ _ _ _ ⟨rfl, rfl, hk_fr0, rfl⟩ hw dX11_check_22
    · refine lv_iload_n hx hb dX11_check_11 rfl (lv_at hl 2 rfl) ?_
      refine lv_iload_n hx hb dX11_check_12 rfl (lv_at hl 1 rfl) ?_
      refine jx_Si (As := [.int y1]) (rest := [.int y2]) ⟨hx, hb, hml, hown, hts⟩ hZ hw hA (jx_X0_bytesOf l hlt D t3 cI cJ ad g lg ar bk _ y1) (va_cwS 1 hts (jx_gS wwX_good wX_72 wX_73 wX_12 wX_74) rfl rfl rfl (by decide +kernel) ⟨Nat.le_of_ble_eq_true rfl, Nat.le_of_ble_eq_true rfl⟩) rfl hl.1 rfl (Nat.le_of_ble_eq_true rfl) dX11_check_13 ⟨Nat.le_of_ble_eq_true rfl, Nat.le_of_ble_eq_true rfl⟩ (fun _ _ _ _ _ _ _ _ hp _ _ _ _ => hp.elim) (fun r22 g23 l24 a25 b26 H locs hp27 hw => ?_)
      obtain ⟨rfl, rfl, rfl, rfl, h32⟩ := hp27
      refine lv_iconst (v := 4) hx hb dX11_check_16 (by decide) ?_
      refine lv_idiv hx hb dX11_check_17 (by decide) (jx_nm fun z33 hz33 => ?_)
      refine lv_icmp_lt (tgt := 23) hx hb dX11_check_18 (by decide) (fun cc34 => ?_) (fun cc34 => ?_)
      · refine lv_aload_n hx hb dX11_check_23 rfl (lv_at hl 0 rfl) ?_
        refine hk_get (ci := 14) (C := RX11) (T := TX11) (N := 11) (v := .ref (ad 11)) hx hb hts (fun _ h => List.mem_cons_of_mem _ (wwXc_wsX110 _ h)) hown hw 0 rfl rfl 5 (by decide) (hq _ wX_75) rfl dX11_check_24 ?_
        refine lv_iload_n hx hb dX11_check_27 rfl (lv_at hl 1 rfl) ?_
        refine lv_aload_n hx hb dX11_check_28 rfl (lv_at hl 0 rfl) ?_
        refine hk_get (ci := 14) (C := RX11) (T := TX11) (N := 11) (v := .ref (ad 4)) hx hb hts (fun _ h => List.mem_cons_of_mem _ (wwXc_wsX110 _ h)) hown hw 0 rfl rfl 3 (by decide) (hq _ wX_76) rfl dX11_check_29 ?_
        refine lv_iconst (v := 0) hx hb dX11_check_32 (by decide) ?_
        refine lv_aload_n hx hb dX11_check_33 rfl (lv_at hl 0 rfl) ?_
        refine hk_get (ci := 14) (C := RX11) (T := TX11) (N := 11) (v := .ref (ad 4)) hx hb hts (fun _ h => List.mem_cons_of_mem _ (wwXc_wsX110 _ h)) hown hw 0 rfl rfl 3 (by decide) (hq _ wX_76) rfl dX11_check_34 ?_
        refine hk_get (ci := 12) (C := RX9) (T := TX9) (N := 2) (v := .int (g 14)) hx hb hts (fun _ h => List.mem_cons_of_mem _ (wwXc_wsX90 _ h)) hown hw 4 rfl rfl 1 (by decide) (hq _ wX_77) rfl dX11_check_37 ?_
        refine jx_Vv (As := [.int y1, .ref (ad 4), .int 0, .int (g 14)]) (rest := []) ⟨hx, hb, hml, hown, hts⟩ hZ hw hA (jx_X0_compute_4 l hlt D t3 cI cJ ad g lg ar bk _ y1 0 (g 14)) (cwV 4 hts (jx_gV wwX_good wX_78 wX_79 wX_80 wX_12 wX_81) rfl rfl rfl (by decide +kernel) ⟨Nat.le_of_ble_eq_true rfl, Nat.le_of_ble_eq_true rfl⟩) 11 (ci := 3) (T := TX0) (N := 3) rfl rfl rfl hl.1 rfl (Nat.le_of_ble_eq_true rfl) dX11_check_40 ⟨Nat.le_of_ble_eq_true rfl, Nat.le_of_ble_eq_true rfl⟩ (fun _ _ _ _ _ _ _ _ hp _ _ _ _ => hp.elim) (fun g40 l41 a42 b43 H locs hp44 hw => ?_)
        obtain ⟨rfl, rfl, h47, rfl⟩ := hp44
        refine lv_aload_n hx hb dX11_check_43 rfl (lv_at hl 0 rfl) ?_
        refine hk_get (ci := 14) (C := RX11) (T := TX11) (N := 11) (v := .ref (ad 11)) hx hb hts (fun _ h => List.mem_cons_of_mem _ (wwXc_wsX110 _ h)) hown hw 0 rfl rfl 5 (by decide) (hq _ wX_75) rfl dX11_check_44 ?_
        refine hk_get (ci := 3) (C := RX0) (T := TX0) (N := 3) (v := .ref (ad 12)) hx hb hts (fun _ h => List.mem_cons_of_mem _ (wwXc_wsX00 _ h)) hown hw 11 rfl rfl 0 (by decide) (hq _ wX_82) rfl dX11_check_47 ?_
        refine lv_iload_n hx hb dX11_check_50 rfl (lv_at hl 2 rfl) ?_
        refine lv_bipush (v := 7) hx hb dX11_check_51 (by decide) ?_
        refine lv_iand hx hb dX11_check_53 (jx_nm fun z49 hz49 => ?_)
        refine jx_iald hx hb hw 12 0 rfl rfl (hE_in (n := 8) (ob596 ((z49).toInt) ((y2).toInt) (((0 : Int32)).toInt) ((z33).toInt) ((r5).toInt) ((r22).toInt) (hE_and 3 8 hz49 (by decide) (by decide) (by decide)) (hE_nlt cc17) (hE_lt cc34) (hE_ne cc16) ((hE_div 4 hz33 (by decide) (by decide)).1 (ob595 ((r22).toInt) h32 (hE_rng (r22)))) h15 h32 (hE_rng (z49)) (hE_rng (y2)) (by decide) (hE_rng (z33)) (hE_rng (r5)) (hE_rng (r22)))) dX11_check_54 (fun z50 hz50 => ?_)
        exact kr z50 g lg a42 bk _ _ _ _ ⟨rfl, rfl, h47, rfl⟩ hw dX11_check_55
      · refine lv_iconst (v := (-1)) hx hb dX11_check_21 (by decide) ?_
        exact kr (-1) g lg ar bk _ _ _ _ ⟨rfl, rfl, hk_fr0, rfl⟩ hw dX11_check_22

set_option maxHeartbeats 4000000 in
set_option maxRecDepth 100000 in
/-- X11_turn on (0,) -/
theorem jx_X11_turn (l : Launch) (hlt : l.stackTraces = false) (D : va_G) (t3 : Nat × Nat × Nat) (cI cJ : ClassId) (ad : Nat → Nat) (g : Nat → Int32) (lg : Nat → Int64) (ar : Nat → Nat → Int32) (bk : Nat → Int64) (sz : Nat) (y1 : Int32) (y2 : Int32) (y3 : Int32) (hr0 : (g 14).toInt ≤ 600000) : JMi l yX11_turn (Cond.code yX11_turn cX11_turn 4 (some .int) :: wwX) { frames := 2, cells := 1, slots := 6, locals := 50 } t3 D xw cI cJ ad [.ref (ad 0), .int y1, .int y2, .int y3] (xw cI cJ ad g lg ar bk) sz 1 6 (fun (r : Int32) g' lg' ar' bk' => g = g' ∧ lg = lg' ∧ hk_fr [1] ar ar' ∧ bk = bk') (fun g' lg' ar' bk' => False) := by
  refine jx_meti (cc := cX11_turn) (maxL := 4) (ret := (some .int)) rfl (by decide) rfl (Nat.le_of_ble_eq_true rfl) ?_
  intro p e s m args below meth c ls Q A hx hb hml hown hts hA hZ hw hl hQ kr kt
  have hq : ∀ w ∈ wwX, w.before args s = true := fun w h => hts w (List.mem_cons_of_mem _ h)
  have hl : lv_has ls 4 [(0, .ref (ad 0)), (1, .int y1), (2, .int y2), (3, .int y3)] := hl
  refine lv_iload_n hx hb dX11_turn_0 rfl (lv_at hl 1 rfl) ?_
  have B1 : ∀  (ls : Array Slot) (H : Heap) (locs : List Loc), hk_W D (jT cI cJ) A s H locs (xw cI cJ ad g lg ar bk) → lv_has ls 4 [(0, .ref (ad 0)), (1, .int y1), (3, .int y3)] → W p l e { frames := 2, cells := 1, slots := 6, locals := 50 } s m args below meth c H locs 0 0 Q (F0 m 41 ls []) := by
    intro ls H locs hw hl
    refine lv_iload_n hx hb dX11_turn_41 rfl (lv_at hl 1 rfl) ?_
    refine lv_iconst (v := 1) hx hb dX11_turn_42 (by decide) ?_
    refine lv_icmp_ne (tgt := 70) hx hb dX11_turn_43 (by decide) (fun cc2 => ?_) (fun cc2 => ?_)
    · refine lv_iconst (v := (-1)) hx hb dX11_turn_70 (by decide) ?_
      exact kr (-1) g lg ar bk _ _ _ _ ⟨rfl, rfl, hk_fr0, rfl⟩ hw dX11_turn_71
    · refine lv_aload_n hx hb dX11_turn_46 rfl (lv_at hl 0 rfl) ?_
      refine hk_get (ci := 14) (C := RX11) (T := TX11) (N := 11) (v := .ref (ad 4)) hx hb hts (fun _ h => List.mem_cons_of_mem _ (wwXc_wsX110 _ h)) hown hw 0 rfl rfl 3 (by decide) (hq _ wX_76) rfl dX11_turn_47 ?_
      refine lv_iconst (v := 0) hx hb dX11_turn_50 (by decide) ?_
      refine lv_aload_n hx hb dX11_turn_51 rfl (lv_at hl 0 rfl) ?_
      refine hk_get (ci := 14) (C := RX11) (T := TX11) (N := 11) (v := .ref (ad 4)) hx hb hts (fun _ h => List.mem_cons_of_mem _ (wwXc_wsX110 _ h)) hown hw 0 rfl rfl 3 (by decide) (hq _ wX_76) rfl dX11_turn_52 ?_
      refine hk_get (ci := 12) (C := RX9) (T := TX9) (N := 2) (v := .int (g 14)) hx hb hts (fun _ h => List.mem_cons_of_mem _ (wwXc_wsX90 _ h)) hown hw 4 rfl rfl 1 (by decide) (hq _ wX_77) rfl dX11_turn_55 ?_
      refine lv_iload_n hx hb dX11_turn_58 rfl (lv_at hl 2 rfl) ?_
      refine jx_Vv (As := [.int 0, .int (g 14), .int y3]) (rest := []) ⟨hx, hb, hml, hown, hts⟩ hZ hw hA (jx_X9_branch_4 l hlt D t3 cI cJ ad g lg ar bk _ 0 (g 14) y3 (ob597 (((0 : Int32)).toInt) (by decide)) (ob598 ((g 14).toInt) hr0 (hE_rng (g 14)))) (cwV 3 hts (jx_gV wwX_good wX_186 wX_187 wX_188 wX_24 wX_189) rfl rfl rfl (by decide +kernel) ⟨Nat.le_of_ble_eq_true rfl, Nat.le_of_ble_eq_true rfl⟩) 4 (ci := 12) (T := TX9) (N := 2) rfl rfl rfl hl.1 rfl (Nat.le_of_ble_eq_true rfl) dX11_turn_59 ⟨Nat.le_of_ble_eq_true rfl, Nat.le_of_ble_eq_true rfl⟩ (fun _ _ _ _ _ _ _ _ hp _ _ _ _ => hp.elim) (fun g8 l9 a10 b11 H locs hp12 hw => ?_)
      obtain ⟨rfl, rfl, h15, rfl⟩ := hp12
      refine lv_aload_n hx hb dX11_turn_62 rfl (lv_at hl 0 rfl) ?_
      refine hk_get (ci := 14) (C := RX11) (T := TX11) (N := 11) (v := .ref (ad 4)) hx hb hts (fun _ h => List.mem_cons_of_mem _ (wwXc_wsX110 _ h)) hown hw 0 rfl rfl 3 (by decide) (hq _ wX_76) rfl dX11_turn_63 ?_
      refine hk_get (ci := 12) (C := RX9) (T := TX9) (N := 2) (v := .int (g 14)) hx hb hts (fun _ h => List.mem_cons_of_mem _ (wwXc_wsX90 _ h)) hown hw 4 rfl rfl 1 (by decide) (hq _ wX_77) rfl dX11_turn_66 ?_
      exact kr (g 14) g lg a10 bk _ _ _ _ ⟨rfl, rfl, h15, rfl⟩ hw dX11_turn_69
  refine lv_if_ne (tgt := 41) hx hb dX11_turn_1 (by decide) (fun cc17 => ?_) (fun cc17 => ?_)
  · exact B1 ls _ _ hw (lv_sub hl [0, 1, 3] rfl)
  · refine lv_iload_n hx hb dX11_turn_4 rfl (lv_at hl 2 rfl) ?_
    refine lv_iconst (v := 1) hx hb dX11_turn_5 (by decide) ?_
    refine lv_icmp_lt (tgt := 41) hx hb dX11_turn_6 (by decide) (fun cc18 => ?_) (fun cc18 => ?_)
    · exact B1 ls _ _ hw (lv_sub hl [0, 1, 3] rfl)
    · refine lv_iload_n hx hb dX11_turn_9 rfl (lv_at hl 2 rfl) ?_
      refine lv_sipush (v := 256) hx hb dX11_turn_10 (by decide) ?_
      refine lv_icmp_gt (tgt := 41) hx hb dX11_turn_13 (by decide) (fun cc19 => ?_) (fun cc19 => ?_)
      · exact B1 ls _ _ hw (lv_sub hl [0, 1, 3] rfl)
      · refine lv_aload_n hx hb dX11_turn_16 rfl (lv_at hl 0 rfl) ?_
        refine hk_get (ci := 14) (C := RX11) (T := TX11) (N := 11) (v := .ref (ad 4)) hx hb hts (fun _ h => List.mem_cons_of_mem _ (wwXc_wsX110 _ h)) hown hw 0 rfl rfl 3 (by decide) (hq _ wX_76) rfl dX11_turn_17 ?_
        refine lv_iconst (v := 0) hx hb dX11_turn_20 (by decide) ?_
        refine lv_aload_n hx hb dX11_turn_21 rfl (lv_at hl 0 rfl) ?_
        refine hk_get (ci := 14) (C := RX11) (T := TX11) (N := 11) (v := .ref (ad 4)) hx hb hts (fun _ h => List.mem_cons_of_mem _ (wwXc_wsX110 _ h)) hown hw 0 rfl rfl 3 (by decide) (hq _ wX_76) rfl dX11_turn_22 ?_
        refine hk_get (ci := 12) (C := RX9) (T := TX9) (N := 2) (v := .int (g 14)) hx hb hts (fun _ h => List.mem_cons_of_mem _ (wwXc_wsX90 _ h)) hown hw 4 rfl rfl 1 (by decide) (hq _ wX_77) rfl dX11_turn_25 ?_
        refine lv_iload_n hx hb dX11_turn_28 rfl (lv_at hl 2 rfl) ?_
        refine lv_iload_n hx hb dX11_turn_29 rfl (lv_at hl 3 rfl) ?_
        refine jx_Vv (As := [.int 0, .int (g 14), .int y2, .int y3]) (rest := []) ⟨hx, hb, hml, hown, hts⟩ hZ hw hA (jx_X9_delta_4 l hlt D t3 cI cJ ad g lg ar bk _ 0 (g 14) y2 y3) (cwV 4 hts (jx_gV wwX_good wX_182 wX_183 wX_184 wX_24 wX_185) rfl rfl rfl (by decide +kernel) ⟨Nat.le_of_ble_eq_true rfl, Nat.le_of_ble_eq_true rfl⟩) 4 (ci := 12) (T := TX9) (N := 2) rfl rfl rfl hl.1 rfl (Nat.le_of_ble_eq_true rfl) dX11_turn_30 ⟨Nat.le_of_ble_eq_true rfl, Nat.le_of_ble_eq_true rfl⟩ (fun _ _ _ _ _ _ _ _ hp _ _ _ _ => hp.elim) (fun g25 l26 a27 b28 H locs hp29 hw => ?_)
        obtain ⟨rfl, rfl, h32, rfl⟩ := hp29
        refine lv_aload_n hx hb dX11_turn_33 rfl (lv_at hl 0 rfl) ?_
        refine hk_get (ci := 14) (C := RX11) (T := TX11) (N := 11) (v := .ref (ad 4)) hx hb hts (fun _ h => List.mem_cons_of_mem _ (wwXc_wsX110 _ h)) hown hw 0 rfl rfl 3 (by decide) (hq _ wX_76) rfl dX11_turn_34 ?_
        refine hk_get (ci := 12) (C := RX9) (T := TX9) (N := 2) (v := .int (g 14)) hx hb hts (fun _ h => List.mem_cons_of_mem _ (wwXc_wsX90 _ h)) hown hw 4 rfl rfl 1 (by decide) (hq _ wX_77) rfl dX11_turn_37 ?_
        exact kr (g 14) g lg a27 bk _ _ _ _ ⟨rfl, rfl, h32, rfl⟩ hw dX11_turn_40

set_option maxHeartbeats 4000000 in
set_option maxRecDepth 100000 in
/-- X11_count on (0,) -/
theorem jx_X11_count (l : Launch) (hlt : l.stackTraces = false) (D : va_G) (t3 : Nat × Nat × Nat) (cI cJ : ClassId) (ad : Nat → Nat) (g : Nat → Int32) (lg : Nat → Int64) (ar : Nat → Nat → Int32) (bk : Nat → Int64) (sz : Nat) (y1 : Int32) : JMi l yX11_count (Cond.code yX11_count cX11_count 2 (some .int) :: wwX) { frames := 0, cells := 1, slots := 6, locals := 0 } t3 D xw cI cJ ad [.ref (ad 0), .int y1] (xw cI cJ ad g lg ar bk) sz 1 6 (fun (r : Int32) g' lg' ar' bk' => g = g' ∧ lg = lg' ∧ ar = ar' ∧ bk = bk') (fun g' lg' ar' bk' => False) := by
  refine jx_meti (cc := cX11_count) (maxL := 2) (ret := (some .int)) rfl (by decide) rfl (Nat.le_of_ble_eq_true rfl) ?_
  intro p e s m args below meth c ls Q A hx hb hml hown hts hA hZ hw hl hQ kr kt
  have hq : ∀ w ∈ wwX, w.before args s = true := fun w h => hts w (List.mem_cons_of_mem _ h)
  have hl : lv_has ls 2 [(0, .ref (ad 0)), (1, .int y1)] := hl
  refine lv_iload_n hx hb dX11_count_0 rfl (lv_at hl 1 rfl) ?_
  refine lv_if_ne (tgt := 12) hx hb dX11_count_1 (by decide) (fun cc1 => ?_) (fun cc1 => ?_)
  · refine lv_iload_n hx hb dX11_count_12 rfl (lv_at hl 1 rfl) ?_
    refine lv_iconst (v := 1) hx hb dX11_count_13 (by decide) ?_
    refine lv_icmp_ne (tgt := 27) hx hb dX11_count_14 (by decide) (fun cc2 => ?_) (fun cc2 => ?_)
    · refine lv_iconst (v := (-1)) hx hb dX11_count_27 (by decide) ?_
      exact kr (-1) g lg ar bk _ _ _ _ ⟨rfl, rfl, rfl, rfl⟩ hw dX11_count_28
    · refine lv_aload_n hx hb dX11_count_17 rfl (lv_at hl 0 rfl) ?_
      refine hk_get (ci := 14) (C := RX11) (T := TX11) (N := 11) (v := .ref (ad 4)) hx hb hts (fun _ h => List.mem_cons_of_mem _ (wwXc_wsX110 _ h)) hown hw 0 rfl rfl 3 (by decide) (hq _ wX_76) rfl dX11_count_18 ?_
      refine hk_get (ci := 12) (C := RX9) (T := TX9) (N := 2) (v := .int (g 14)) hx hb hts (fun _ h => List.mem_cons_of_mem _ (wwXc_wsX90 _ h)) hown hw 4 rfl rfl 1 (by decide) (hq _ wX_77) rfl dX11_count_21 ?_
      refine lv_goto (tgt := 28) hx hb dX11_count_24 (by decide) ?_
      exact kr (g 14) g lg ar bk _ _ _ _ ⟨rfl, rfl, rfl, rfl⟩ hw dX11_count_28
  · refine lv_aload_n hx hb dX11_count_4 rfl (lv_at hl 0 rfl) ?_
    refine hk_get (ci := 14) (C := RX11) (T := TX11) (N := 11) (v := .ref (ad 2)) hx hb hts (fun _ h => List.mem_cons_of_mem _ (wwXc_wsX110 _ h)) hown hw 0 rfl rfl 2 (by decide) (hq _ wX_83) rfl dX11_count_5 ?_
    refine hk_get (ci := 12) (C := RX9) (T := TX9) (N := 2) (v := .int (g 13)) hx hb hts (fun _ h => List.mem_cons_of_mem _ (wwXc_wsX90 _ h)) hown hw 2 rfl rfl 1 (by decide) (hq _ wX_77) rfl dX11_count_8 ?_
    exact kr (g 13) g lg ar bk _ _ _ _ ⟨rfl, rfl, rfl, rfl⟩ hw dX11_count_11
