/-! property, with its answer: M -/
theorem ov1 (v0 : Int) (v1 : Int) (v2 : Int) (v3 : Int) (v4 : Int) (v5 : Int) (h0 : v0 = v5) (h1 : v1 < v5) (h2 : v5 = 0) : ((v0 = 0 ∧ 0 ≤ v1 ∧ v1 ≤ 4 - v2 ∨ v0 = 1 ∧ 0 ≤ v1 ∧ v1 ≤ 4 - v3 ∨ v0 = 2 ∧ 0 ≤ v1 ∧ v1 ≤ 4 ∨ v0 = 3 ∧ 1 ≤ v1 ∧ v1 ≤ 4096 ∧ (v4 ≠ 2 ∨ v1 = 4096) ∨ v0 = 4 ∧ 1 ≤ v1 ∧ v1 ≤ 1500 ∨ v0 = 5 ∧ 1 ≤ v1 ∧ v1 ≤ 1500 ∨ v0 = 6 ∧ (v1 = 0 ∨ v1 = 1 ∨ v1 = 4 ∨ v1 = 10) ∨ v0 = 7 ∧ 0 ≤ v1 ∧ v1 ≤ 1) ∧ v5 = 1) ∨ (¬ (v0 = 0 ∧ 0 ≤ v1 ∧ v1 ≤ 4 - v2 ∨ v0 = 1 ∧ 0 ≤ v1 ∧ v1 ≤ 4 - v3 ∨ v0 = 2 ∧ 0 ≤ v1 ∧ v1 ≤ 4 ∨ v0 = 3 ∧ 1 ≤ v1 ∧ v1 ≤ 4096 ∧ (v4 ≠ 2 ∨ v1 = 4096) ∨ v0 = 4 ∧ 1 ≤ v1 ∧ v1 ≤ 1500 ∨ v0 = 5 ∧ 1 ≤ v1 ∧ v1 ≤ 1500 ∨ v0 = 6 ∧ (v1 = 0 ∨ v1 = 1 ∨ v1 = 4 ∨ v1 = 10) ∨ v0 = 7 ∧ 0 ≤ v1 ∧ v1 ≤ 1) ∧ v5 = 0) := by omega
theorem ov2 (v0 : Int) (v1 : Int) (v2 : Int) (v3 : Int) (v4 : Int) (h0 : v2 = v4) (h1 : v1 = 0) : ((v0 = 0 ∧ v1 = 1) ∧ v2 = v3) ∨ (¬ (v0 = 0 ∧ v1 = 1) ∧ v2 = v4) := by omega
theorem ov3 (v0 : Int) (v1 : Int) (v2 : Int) (v3 : Int) (v4 : Int) (h0 : v2 = v4) (h1 : v1 = 0) : ((v0 = 1 ∧ v1 = 1) ∧ v2 = v3) ∨ (¬ (v0 = 1 ∧ v1 = 1) ∧ v2 = v4) := by omega
theorem ov4 (v0 : Int) (v1 : Int) (h0 : v0 = v1) (h1 : 0 ≤ v1 ∧ v1 ≤ 4) : 0 ≤ v0 ∧ v0 ≤ 4 := by omega
theorem ov5 (v0 : Int) (v1 : Int) (v2 : Int) (v3 : Int) (h0 : v0 = v2) (h1 : v1 = v3) (h2 : v2 + v3 ≤ 4) : v0 + v1 ≤ 4 := by omega
theorem ov6 (v0 : Int) (v1 : Int) (h0 : v0 = v1) (h1 : 1 ≤ v1 ∧ v1 ≤ 4096) : 1 ≤ v0 ∧ v0 ≤ 4096 := by omega
theorem ov7 (v0 : Int) (v1 : Int) (h0 : v0 = v1) (h1 : 1 ≤ v1 ∧ v1 ≤ 1500) : 1 ≤ v0 ∧ v0 ≤ 1500 := by omega
theorem ov8 (v0 : Int) (v1 : Int) (v2 : Int) (v3 : Int) (v4 : Int) (v5 : Int) (v6 : Int) (h0 : 0 ≤ v3 ∧ v3 ≤ 4) (h1 : 0 ≤ v2 ∧ v2 ≤ 4) (h2 : v0 = v5) (h3 : v6 < v1) (h4 : v5 = 0) (h5 : v6 = 4) : ((v0 = 0 ∧ 0 ≤ v1 ∧ v1 ≤ 4 - v2 ∨ v0 = 1 ∧ 0 ≤ v1 ∧ v1 ≤ 4 - v3 ∨ v0 = 2 ∧ 0 ≤ v1 ∧ v1 ≤ 4 ∨ v0 = 3 ∧ 1 ≤ v1 ∧ v1 ≤ 4096 ∧ (v4 ≠ 2 ∨ v1 = 4096) ∨ v0 = 4 ∧ 1 ≤ v1 ∧ v1 ≤ 1500 ∨ v0 = 5 ∧ 1 ≤ v1 ∧ v1 ≤ 1500 ∨ v0 = 6 ∧ (v1 = 0 ∨ v1 = 1 ∨ v1 = 4 ∨ v1 = 10) ∨ v0 = 7 ∧ 0 ≤ v1 ∧ v1 ≤ 1) ∧ v5 = 1) ∨ (¬ (v0 = 0 ∧ 0 ≤ v1 ∧ v1 ≤ 4 - v2 ∨ v0 = 1 ∧ 0 ≤ v1 ∧ v1 ≤ 4 - v3 ∨ v0 = 2 ∧ 0 ≤ v1 ∧ v1 ≤ 4 ∨ v0 = 3 ∧ 1 ≤ v1 ∧ v1 ≤ 4096 ∧ (v4 ≠ 2 ∨ v1 = 4096) ∨ v0 = 4 ∧ 1 ≤ v1 ∧ v1 ≤ 1500 ∨ v0 = 5 ∧ 1 ≤ v1 ∧ v1 ≤ 1500 ∨ v0 = 6 ∧ (v1 = 0 ∨ v1 = 1 ∨ v1 = 4 ∨ v1 = 10) ∨ v0 = 7 ∧ 0 ≤ v1 ∧ v1 ≤ 1) ∧ v5 = 0) := by omega
theorem ov9 (v0 : Int) (v1 : Int) (v2 : Int) (v3 : Int) (h0 : 0 ≤ v1 ∧ v1 ≤ 4) (h1 : v2 ≤ v0) (h2 : v0 ≤ v3) (h3 : v2 = 0) (h4 : v3 = 4) : -2147483648 ≤ v0 + v1 ∧ v0 + v1 ≤ 2147483647 := by omega
theorem ov10 (v0 : Int) (v1 : Int) (v2 : Int) (v3 : Int) (v4 : Int) (v5 : Int) (v6 : Int) (v7 : Int) (h0 : v0 = v5) (h1 : v6 = v1 + v2) (h2 : v7 < v6) (h3 : v5 = 0) (h4 : v7 = 4) : ((v0 = 0 ∧ 0 ≤ v1 ∧ v1 ≤ 4 - v2 ∨ v0 = 1 ∧ 0 ≤ v1 ∧ v1 ≤ 4 - v3 ∨ v0 = 2 ∧ 0 ≤ v1 ∧ v1 ≤ 4 ∨ v0 = 3 ∧ 1 ≤ v1 ∧ v1 ≤ 4096 ∧ (v4 ≠ 2 ∨ v1 = 4096) ∨ v0 = 4 ∧ 1 ≤ v1 ∧ v1 ≤ 1500 ∨ v0 = 5 ∧ 1 ≤ v1 ∧ v1 ≤ 1500 ∨ v0 = 6 ∧ (v1 = 0 ∨ v1 = 1 ∨ v1 = 4 ∨ v1 = 10) ∨ v0 = 7 ∧ 0 ≤ v1 ∧ v1 ≤ 1) ∧ v5 = 1) ∨ (¬ (v0 = 0 ∧ 0 ≤ v1 ∧ v1 ≤ 4 - v2 ∨ v0 = 1 ∧ 0 ≤ v1 ∧ v1 ≤ 4 - v3 ∨ v0 = 2 ∧ 0 ≤ v1 ∧ v1 ≤ 4 ∨ v0 = 3 ∧ 1 ≤ v1 ∧ v1 ≤ 4096 ∧ (v4 ≠ 2 ∨ v1 = 4096) ∨ v0 = 4 ∧ 1 ≤ v1 ∧ v1 ≤ 1500 ∨ v0 = 5 ∧ 1 ≤ v1 ∧ v1 ≤ 1500 ∨ v0 = 6 ∧ (v1 = 0 ∨ v1 = 1 ∨ v1 = 4 ∨ v1 = 10) ∨ v0 = 7 ∧ 0 ≤ v1 ∧ v1 ≤ 1) ∧ v5 = 0) := by omega
theorem ov11 (v0 : Int) (v1 : Int) (v2 : Int) (v3 : Int) (v4 : Int) (v5 : Int) (h0 : v0 = v1) (h1 : 0 ≤ v1 ∧ v1 ≤ 4) (h2 : v1 + v2 ≤ 4) (h3 : v3 = v4 + v2) (h4 : v4 ≤ v5) (h5 : v5 < v3) : 0 ≤ v0 ∧ v0 ≤ 4 := by omega
theorem ov12 (v0 : Int) (v1 : Int) (v2 : Int) (v3 : Int) (v4 : Int) (h0 : v0 = v1) (h1 : 0 ≤ v1 ∧ v1 ≤ 4) (h2 : v2 = v3 + v1) (h3 : v3 ≤ v4) (h4 : v4 < v2) : 0 ≤ v0 ∧ v0 ≤ 4 := by omega
theorem ov13 (v0 : Int) (v1 : Int) (v2 : Int) (v3 : Int) (v4 : Int) (v5 : Int) (v6 : Int) (v7 : Int) (v8 : Int) (h0 : v0 = v6) (h1 : v6 ≤ v1) (h2 : v7 = v1 + v2) (h3 : v7 ≤ v8) (h4 : v5 = 1) (h5 : v6 = 0) (h6 : v8 = 4) : ((v0 = 0 ∧ 0 ≤ v1 ∧ v1 ≤ 4 - v2 ∨ v0 = 1 ∧ 0 ≤ v1 ∧ v1 ≤ 4 - v3 ∨ v0 = 2 ∧ 0 ≤ v1 ∧ v1 ≤ 4 ∨ v0 = 3 ∧ 1 ≤ v1 ∧ v1 ≤ 4096 ∧ (v4 ≠ 2 ∨ v1 = 4096) ∨ v0 = 4 ∧ 1 ≤ v1 ∧ v1 ≤ 1500 ∨ v0 = 5 ∧ 1 ≤ v1 ∧ v1 ≤ 1500 ∨ v0 = 6 ∧ (v1 = 0 ∨ v1 = 1 ∨ v1 = 4 ∨ v1 = 10) ∨ v0 = 7 ∧ 0 ≤ v1 ∧ v1 ≤ 1) ∧ v5 = 1) ∨ (¬ (v0 = 0 ∧ 0 ≤ v1 ∧ v1 ≤ 4 - v2 ∨ v0 = 1 ∧ 0 ≤ v1 ∧ v1 ≤ 4 - v3 ∨ v0 = 2 ∧ 0 ≤ v1 ∧ v1 ≤ 4 ∨ v0 = 3 ∧ 1 ≤ v1 ∧ v1 ≤ 4096 ∧ (v4 ≠ 2 ∨ v1 = 4096) ∨ v0 = 4 ∧ 1 ≤ v1 ∧ v1 ≤ 1500 ∨ v0 = 5 ∧ 1 ≤ v1 ∧ v1 ≤ 1500 ∨ v0 = 6 ∧ (v1 = 0 ∨ v1 = 1 ∨ v1 = 4 ∨ v1 = 10) ∨ v0 = 7 ∧ 0 ≤ v1 ∧ v1 ≤ 1) ∧ v5 = 0) := by omega
theorem ov14 (v0 : Int) (v1 : Int) (v2 : Int) (v3 : Int) (v4 : Int) (v5 : Int) (h0 : v0 = v5) (h1 : v2 = v3) (h2 : v1 = 1) (h3 : v5 = 0) : ((v0 = 0 ∧ v1 = 1) ∧ v2 = v3) ∨ (¬ (v0 = 0 ∧ v1 = 1) ∧ v2 = v4) := by omega
theorem ov15 (v0 : Int) (v1 : Int) (v2 : Int) (v3 : Int) (v4 : Int) (v5 : Int) (h0 : v0 = v5) (h1 : v2 = v4) (h2 : v5 = 0) : ((v0 = 1 ∧ v1 = 1) ∧ v2 = v3) ∨ (¬ (v0 = 1 ∧ v1 = 1) ∧ v2 = v4) := by omega
theorem ov16 (v0 : Int) (v1 : Int) (v2 : Int) (v3 : Int) (h0 : v0 = v1) (h1 : v2 ≤ v1) (h2 : v1 ≤ v3) (h3 : v2 = 0) (h4 : v3 = 4) : 0 ≤ v0 ∧ v0 ≤ 4 := by omega
theorem ov17 (v0 : Int) (v1 : Int) (v2 : Int) (v3 : Int) (v4 : Int) (v5 : Int) (h0 : v0 = v2) (h1 : v1 = v3) (h2 : v4 = v2 + v3) (h3 : v4 ≤ v5) (h4 : v5 = 4) : v0 + v1 ≤ 4 := by omega
theorem ov18 (v0 : Int) (v1 : Int) (v2 : Int) (v3 : Int) (v4 : Int) (v5 : Int) (v6 : Int) (h0 : v0 = v6) (h1 : v1 < v5) (h2 : v5 = 0) (h3 : v6 = 1) : ((v0 = 0 ∧ 0 ≤ v1 ∧ v1 ≤ 4 - v2 ∨ v0 = 1 ∧ 0 ≤ v1 ∧ v1 ≤ 4 - v3 ∨ v0 = 2 ∧ 0 ≤ v1 ∧ v1 ≤ 4 ∨ v0 = 3 ∧ 1 ≤ v1 ∧ v1 ≤ 4096 ∧ (v4 ≠ 2 ∨ v1 = 4096) ∨ v0 = 4 ∧ 1 ≤ v1 ∧ v1 ≤ 1500 ∨ v0 = 5 ∧ 1 ≤ v1 ∧ v1 ≤ 1500 ∨ v0 = 6 ∧ (v1 = 0 ∨ v1 = 1 ∨ v1 = 4 ∨ v1 = 10) ∨ v0 = 7 ∧ 0 ≤ v1 ∧ v1 ≤ 1) ∧ v5 = 1) ∨ (¬ (v0 = 0 ∧ 0 ≤ v1 ∧ v1 ≤ 4 - v2 ∨ v0 = 1 ∧ 0 ≤ v1 ∧ v1 ≤ 4 - v3 ∨ v0 = 2 ∧ 0 ≤ v1 ∧ v1 ≤ 4 ∨ v0 = 3 ∧ 1 ≤ v1 ∧ v1 ≤ 4096 ∧ (v4 ≠ 2 ∨ v1 = 4096) ∨ v0 = 4 ∧ 1 ≤ v1 ∧ v1 ≤ 1500 ∨ v0 = 5 ∧ 1 ≤ v1 ∧ v1 ≤ 1500 ∨ v0 = 6 ∧ (v1 = 0 ∨ v1 = 1 ∨ v1 = 4 ∨ v1 = 10) ∨ v0 = 7 ∧ 0 ≤ v1 ∧ v1 ≤ 1) ∧ v5 = 0) := by omega
theorem ov19 (v0 : Int) (v1 : Int) (v2 : Int) (v3 : Int) (v4 : Int) (v5 : Int) (h0 : v0 = v5) (h1 : v2 = v4) (h2 : v1 = 0) (h3 : v5 = 1) : ((v0 = 0 ∧ v1 = 1) ∧ v2 = v3) ∨ (¬ (v0 = 0 ∧ v1 = 1) ∧ v2 = v4) := by omega
theorem ov20 (v0 : Int) (v1 : Int) (v2 : Int) (v3 : Int) (v4 : Int) (v5 : Int) (v6 : Int) (v7 : Int) (h0 : 0 ≤ v3 ∧ v3 ≤ 4) (h1 : 0 ≤ v2 ∧ v2 ≤ 4) (h2 : v0 = v6) (h3 : v7 < v1) (h4 : v5 = 0) (h5 : v6 = 1) (h6 : v7 = 4) : ((v0 = 0 ∧ 0 ≤ v1 ∧ v1 ≤ 4 - v2 ∨ v0 = 1 ∧ 0 ≤ v1 ∧ v1 ≤ 4 - v3 ∨ v0 = 2 ∧ 0 ≤ v1 ∧ v1 ≤ 4 ∨ v0 = 3 ∧ 1 ≤ v1 ∧ v1 ≤ 4096 ∧ (v4 ≠ 2 ∨ v1 = 4096) ∨ v0 = 4 ∧ 1 ≤ v1 ∧ v1 ≤ 1500 ∨ v0 = 5 ∧ 1 ≤ v1 ∧ v1 ≤ 1500 ∨ v0 = 6 ∧ (v1 = 0 ∨ v1 = 1 ∨ v1 = 4 ∨ v1 = 10) ∨ v0 = 7 ∧ 0 ≤ v1 ∧ v1 ≤ 1) ∧ v5 = 1) ∨ (¬ (v0 = 0 ∧ 0 ≤ v1 ∧ v1 ≤ 4 - v2 ∨ v0 = 1 ∧ 0 ≤ v1 ∧ v1 ≤ 4 - v3 ∨ v0 = 2 ∧ 0 ≤ v1 ∧ v1 ≤ 4 ∨ v0 = 3 ∧ 1 ≤ v1 ∧ v1 ≤ 4096 ∧ (v4 ≠ 2 ∨ v1 = 4096) ∨ v0 = 4 ∧ 1 ≤ v1 ∧ v1 ≤ 1500 ∨ v0 = 5 ∧ 1 ≤ v1 ∧ v1 ≤ 1500 ∨ v0 = 6 ∧ (v1 = 0 ∨ v1 = 1 ∨ v1 = 4 ∨ v1 = 10) ∨ v0 = 7 ∧ 0 ≤ v1 ∧ v1 ≤ 1) ∧ v5 = 0) := by omega
theorem ov21 (v0 : Int) (v1 : Int) (v2 : Int) (v3 : Int) (v4 : Int) (v5 : Int) (v6 : Int) (v7 : Int) (v8 : Int) (h0 : v0 = v6) (h1 : v7 = v1 + v3) (h2 : v8 < v7) (h3 : v5 = 0) (h4 : v6 = 1) (h5 : v8 = 4) : ((v0 = 0 ∧ 0 ≤ v1 ∧ v1 ≤ 4 - v2 ∨ v0 = 1 ∧ 0 ≤ v1 ∧ v1 ≤ 4 - v3 ∨ v0 = 2 ∧ 0 ≤ v1 ∧ v1 ≤ 4 ∨ v0 = 3 ∧ 1 ≤ v1 ∧ v1 ≤ 4096 ∧ (v4 ≠ 2 ∨ v1 = 4096) ∨ v0 = 4 ∧ 1 ≤ v1 ∧ v1 ≤ 1500 ∨ v0 = 5 ∧ 1 ≤ v1 ∧ v1 ≤ 1500 ∨ v0 = 6 ∧ (v1 = 0 ∨ v1 = 1 ∨ v1 = 4 ∨ v1 = 10) ∨ v0 = 7 ∧ 0 ≤ v1 ∧ v1 ≤ 1) ∧ v5 = 1) ∨ (¬ (v0 = 0 ∧ 0 ≤ v1 ∧ v1 ≤ 4 - v2 ∨ v0 = 1 ∧ 0 ≤ v1 ∧ v1 ≤ 4 - v3 ∨ v0 = 2 ∧ 0 ≤ v1 ∧ v1 ≤ 4 ∨ v0 = 3 ∧ 1 ≤ v1 ∧ v1 ≤ 4096 ∧ (v4 ≠ 2 ∨ v1 = 4096) ∨ v0 = 4 ∧ 1 ≤ v1 ∧ v1 ≤ 1500 ∨ v0 = 5 ∧ 1 ≤ v1 ∧ v1 ≤ 1500 ∨ v0 = 6 ∧ (v1 = 0 ∨ v1 = 1 ∨ v1 = 4 ∨ v1 = 10) ∨ v0 = 7 ∧ 0 ≤ v1 ∧ v1 ≤ 1) ∧ v5 = 0) := by omega
theorem ov22 (v0 : Int) (v1 : Int) (v2 : Int) (v3 : Int) (v4 : Int) (v5 : Int) (h0 : v0 = v1) (h1 : 0 ≤ v1 ∧ v1 ≤ 4) (h2 : v2 + v1 ≤ 4) (h3 : v3 = v4 + v2) (h4 : v4 ≤ v5) (h5 : v5 < v3) : 0 ≤ v0 ∧ v0 ≤ 4 := by omega
theorem ov23 (v0 : Int) (v1 : Int) (v2 : Int) (v3 : Int) (v4 : Int) (v5 : Int) (v6 : Int) (v7 : Int) (v8 : Int) (h0 : v0 = v5) (h1 : v6 ≤ v1) (h2 : v7 = v1 + v3) (h3 : v7 ≤ v8) (h4 : v5 = 1) (h5 : v6 = 0) (h6 : v8 = 4) : ((v0 = 0 ∧ 0 ≤ v1 ∧ v1 ≤ 4 - v2 ∨ v0 = 1 ∧ 0 ≤ v1 ∧ v1 ≤ 4 - v3 ∨ v0 = 2 ∧ 0 ≤ v1 ∧ v1 ≤ 4 ∨ v0 = 3 ∧ 1 ≤ v1 ∧ v1 ≤ 4096 ∧ (v4 ≠ 2 ∨ v1 = 4096) ∨ v0 = 4 ∧ 1 ≤ v1 ∧ v1 ≤ 1500 ∨ v0 = 5 ∧ 1 ≤ v1 ∧ v1 ≤ 1500 ∨ v0 = 6 ∧ (v1 = 0 ∨ v1 = 1 ∨ v1 = 4 ∨ v1 = 10) ∨ v0 = 7 ∧ 0 ≤ v1 ∧ v1 ≤ 1) ∧ v5 = 1) ∨ (¬ (v0 = 0 ∧ 0 ≤ v1 ∧ v1 ≤ 4 - v2 ∨ v0 = 1 ∧ 0 ≤ v1 ∧ v1 ≤ 4 - v3 ∨ v0 = 2 ∧ 0 ≤ v1 ∧ v1 ≤ 4 ∨ v0 = 3 ∧ 1 ≤ v1 ∧ v1 ≤ 4096 ∧ (v4 ≠ 2 ∨ v1 = 4096) ∨ v0 = 4 ∧ 1 ≤ v1 ∧ v1 ≤ 1500 ∨ v0 = 5 ∧ 1 ≤ v1 ∧ v1 ≤ 1500 ∨ v0 = 6 ∧ (v1 = 0 ∨ v1 = 1 ∨ v1 = 4 ∨ v1 = 10) ∨ v0 = 7 ∧ 0 ≤ v1 ∧ v1 ≤ 1) ∧ v5 = 0) := by omega
theorem ov24 (v0 : Int) (v1 : Int) (v2 : Int) (v3 : Int) (v4 : Int) (h0 : v0 = v1) (h1 : v2 = v4) (h2 : v1 = 1) : ((v0 = 0 ∧ v1 = 1) ∧ v2 = v3) ∨ (¬ (v0 = 0 ∧ v1 = 1) ∧ v2 = v4) := by omega
theorem ov25 (v0 : Int) (v1 : Int) (v2 : Int) (v3 : Int) (v4 : Int) (h0 : v0 = v1) (h1 : v2 = v3) (h2 : v1 = 1) : ((v0 = 1 ∧ v1 = 1) ∧ v2 = v3) ∨ (¬ (v0 = 1 ∧ v1 = 1) ∧ v2 = v4) := by omega
theorem ov26 (v0 : Int) (v1 : Int) (v2 : Int) (v3 : Int) (v4 : Int) (v5 : Int) (h0 : v0 = v2) (h1 : v1 = v3) (h2 : v4 = v3 + v2) (h3 : v4 ≤ v5) (h4 : v5 = 4) : v0 + v1 ≤ 4 := by omega
theorem ov27 (v0 : Int) (v1 : Int) (v2 : Int) (v3 : Int) (v4 : Int) (v5 : Int) (v6 : Int) (h0 : v0 = v6) (h1 : v1 < v5) (h2 : v5 = 0) (h3 : v6 = 2) : ((v0 = 0 ∧ 0 ≤ v1 ∧ v1 ≤ 4 - v2 ∨ v0 = 1 ∧ 0 ≤ v1 ∧ v1 ≤ 4 - v3 ∨ v0 = 2 ∧ 0 ≤ v1 ∧ v1 ≤ 4 ∨ v0 = 3 ∧ 1 ≤ v1 ∧ v1 ≤ 4096 ∧ (v4 ≠ 2 ∨ v1 = 4096) ∨ v0 = 4 ∧ 1 ≤ v1 ∧ v1 ≤ 1500 ∨ v0 = 5 ∧ 1 ≤ v1 ∧ v1 ≤ 1500 ∨ v0 = 6 ∧ (v1 = 0 ∨ v1 = 1 ∨ v1 = 4 ∨ v1 = 10) ∨ v0 = 7 ∧ 0 ≤ v1 ∧ v1 ≤ 1) ∧ v5 = 1) ∨ (¬ (v0 = 0 ∧ 0 ≤ v1 ∧ v1 ≤ 4 - v2 ∨ v0 = 1 ∧ 0 ≤ v1 ∧ v1 ≤ 4 - v3 ∨ v0 = 2 ∧ 0 ≤ v1 ∧ v1 ≤ 4 ∨ v0 = 3 ∧ 1 ≤ v1 ∧ v1 ≤ 4096 ∧ (v4 ≠ 2 ∨ v1 = 4096) ∨ v0 = 4 ∧ 1 ≤ v1 ∧ v1 ≤ 1500 ∨ v0 = 5 ∧ 1 ≤ v1 ∧ v1 ≤ 1500 ∨ v0 = 6 ∧ (v1 = 0 ∨ v1 = 1 ∨ v1 = 4 ∨ v1 = 10) ∨ v0 = 7 ∧ 0 ≤ v1 ∧ v1 ≤ 1) ∧ v5 = 0) := by omega
theorem ov28 (v0 : Int) (v1 : Int) (v2 : Int) (v3 : Int) (v4 : Int) (v5 : Int) (h0 : v0 = v5) (h1 : v2 = v4) (h2 : v1 = 0) (h3 : v5 = 2) : ((v0 = 0 ∧ v1 = 1) ∧ v2 = v3) ∨ (¬ (v0 = 0 ∧ v1 = 1) ∧ v2 = v4) := by omega
theorem ov29 (v0 : Int) (v1 : Int) (v2 : Int) (v3 : Int) (v4 : Int) (v5 : Int) (h0 : v0 = v5) (h1 : v2 = v4) (h2 : v1 = 0) (h3 : v5 = 2) : ((v0 = 1 ∧ v1 = 1) ∧ v2 = v3) ∨ (¬ (v0 = 1 ∧ v1 = 1) ∧ v2 = v4) := by omega
theorem ov30 (v0 : Int) (v1 : Int) (v2 : Int) (v3 : Int) (v4 : Int) (v5 : Int) (v6 : Int) (v7 : Int) (h0 : 0 ≤ v3 ∧ v3 ≤ 4) (h1 : 0 ≤ v2 ∧ v2 ≤ 4) (h2 : v0 = v6) (h3 : v7 < v1) (h4 : v5 = 0) (h5 : v6 = 2) (h6 : v7 = 4) : ((v0 = 0 ∧ 0 ≤ v1 ∧ v1 ≤ 4 - v2 ∨ v0 = 1 ∧ 0 ≤ v1 ∧ v1 ≤ 4 - v3 ∨ v0 = 2 ∧ 0 ≤ v1 ∧ v1 ≤ 4 ∨ v0 = 3 ∧ 1 ≤ v1 ∧ v1 ≤ 4096 ∧ (v4 ≠ 2 ∨ v1 = 4096) ∨ v0 = 4 ∧ 1 ≤ v1 ∧ v1 ≤ 1500 ∨ v0 = 5 ∧ 1 ≤ v1 ∧ v1 ≤ 1500 ∨ v0 = 6 ∧ (v1 = 0 ∨ v1 = 1 ∨ v1 = 4 ∨ v1 = 10) ∨ v0 = 7 ∧ 0 ≤ v1 ∧ v1 ≤ 1) ∧ v5 = 1) ∨ (¬ (v0 = 0 ∧ 0 ≤ v1 ∧ v1 ≤ 4 - v2 ∨ v0 = 1 ∧ 0 ≤ v1 ∧ v1 ≤ 4 - v3 ∨ v0 = 2 ∧ 0 ≤ v1 ∧ v1 ≤ 4 ∨ v0 = 3 ∧ 1 ≤ v1 ∧ v1 ≤ 4096 ∧ (v4 ≠ 2 ∨ v1 = 4096) ∨ v0 = 4 ∧ 1 ≤ v1 ∧ v1 ≤ 1500 ∨ v0 = 5 ∧ 1 ≤ v1 ∧ v1 ≤ 1500 ∨ v0 = 6 ∧ (v1 = 0 ∨ v1 = 1 ∨ v1 = 4 ∨ v1 = 10) ∨ v0 = 7 ∧ 0 ≤ v1 ∧ v1 ≤ 1) ∧ v5 = 0) := by omega
theorem ov31 (v0 : Int) (v1 : Int) (v2 : Int) (v3 : Int) (v4 : Int) (v5 : Int) (v6 : Int) (v7 : Int) (v8 : Int) (h0 : v0 = v6) (h1 : v7 ≤ v1) (h2 : v1 ≤ v8) (h3 : v5 = 1) (h4 : v6 = 2) (h5 : v7 = 0) (h6 : v8 = 4) : ((v0 = 0 ∧ 0 ≤ v1 ∧ v1 ≤ 4 - v2 ∨ v0 = 1 ∧ 0 ≤ v1 ∧ v1 ≤ 4 - v3 ∨ v0 = 2 ∧ 0 ≤ v1 ∧ v1 ≤ 4 ∨ v0 = 3 ∧ 1 ≤ v1 ∧ v1 ≤ 4096 ∧ (v4 ≠ 2 ∨ v1 = 4096) ∨ v0 = 4 ∧ 1 ≤ v1 ∧ v1 ≤ 1500 ∨ v0 = 5 ∧ 1 ≤ v1 ∧ v1 ≤ 1500 ∨ v0 = 6 ∧ (v1 = 0 ∨ v1 = 1 ∨ v1 = 4 ∨ v1 = 10) ∨ v0 = 7 ∧ 0 ≤ v1 ∧ v1 ≤ 1) ∧ v5 = 1) ∨ (¬ (v0 = 0 ∧ 0 ≤ v1 ∧ v1 ≤ 4 - v2 ∨ v0 = 1 ∧ 0 ≤ v1 ∧ v1 ≤ 4 - v3 ∨ v0 = 2 ∧ 0 ≤ v1 ∧ v1 ≤ 4 ∨ v0 = 3 ∧ 1 ≤ v1 ∧ v1 ≤ 4096 ∧ (v4 ≠ 2 ∨ v1 = 4096) ∨ v0 = 4 ∧ 1 ≤ v1 ∧ v1 ≤ 1500 ∨ v0 = 5 ∧ 1 ≤ v1 ∧ v1 ≤ 1500 ∨ v0 = 6 ∧ (v1 = 0 ∨ v1 = 1 ∨ v1 = 4 ∨ v1 = 10) ∨ v0 = 7 ∧ 0 ≤ v1 ∧ v1 ≤ 1) ∧ v5 = 0) := by omega
theorem ov32 (v0 : Int) (v1 : Int) (v2 : Int) (v3 : Int) (v4 : Int) (v5 : Int) (h0 : v0 = v5) (h1 : v2 = v4) (h2 : v5 = 2) : ((v0 = 0 ∧ v1 = 1) ∧ v2 = v3) ∨ (¬ (v0 = 0 ∧ v1 = 1) ∧ v2 = v4) := by omega
theorem ov33 (v0 : Int) (v1 : Int) (v2 : Int) (v3 : Int) (v4 : Int) (v5 : Int) (h0 : v0 = v5) (h1 : v2 = v4) (h2 : v5 = 2) : ((v0 = 1 ∧ v1 = 1) ∧ v2 = v3) ∨ (¬ (v0 = 1 ∧ v1 = 1) ∧ v2 = v4) := by omega
theorem ov34 (v0 : Int) (v1 : Int) (v2 : Int) (v3 : Int) (v4 : Int) (v5 : Int) (v6 : Int) (v7 : Int) (h0 : v0 = v6) (h1 : v1 < v7) (h2 : v5 = 0) (h3 : v6 = 3) (h4 : v7 = 1) : ((v0 = 0 ∧ 0 ≤ v1 ∧ v1 ≤ 4 - v2 ∨ v0 = 1 ∧ 0 ≤ v1 ∧ v1 ≤ 4 - v3 ∨ v0 = 2 ∧ 0 ≤ v1 ∧ v1 ≤ 4 ∨ v0 = 3 ∧ 1 ≤ v1 ∧ v1 ≤ 4096 ∧ (v4 ≠ 2 ∨ v1 = 4096) ∨ v0 = 4 ∧ 1 ≤ v1 ∧ v1 ≤ 1500 ∨ v0 = 5 ∧ 1 ≤ v1 ∧ v1 ≤ 1500 ∨ v0 = 6 ∧ (v1 = 0 ∨ v1 = 1 ∨ v1 = 4 ∨ v1 = 10) ∨ v0 = 7 ∧ 0 ≤ v1 ∧ v1 ≤ 1) ∧ v5 = 1) ∨ (¬ (v0 = 0 ∧ 0 ≤ v1 ∧ v1 ≤ 4 - v2 ∨ v0 = 1 ∧ 0 ≤ v1 ∧ v1 ≤ 4 - v3 ∨ v0 = 2 ∧ 0 ≤ v1 ∧ v1 ≤ 4 ∨ v0 = 3 ∧ 1 ≤ v1 ∧ v1 ≤ 4096 ∧ (v4 ≠ 2 ∨ v1 = 4096) ∨ v0 = 4 ∧ 1 ≤ v1 ∧ v1 ≤ 1500 ∨ v0 = 5 ∧ 1 ≤ v1 ∧ v1 ≤ 1500 ∨ v0 = 6 ∧ (v1 = 0 ∨ v1 = 1 ∨ v1 = 4 ∨ v1 = 10) ∨ v0 = 7 ∧ 0 ≤ v1 ∧ v1 ≤ 1) ∧ v5 = 0) := by omega
theorem ov35 (v0 : Int) (v1 : Int) (v2 : Int) (v3 : Int) (v4 : Int) (v5 : Int) (h0 : v0 = v5) (h1 : v2 = v4) (h2 : v1 = 0) (h3 : v5 = 3) : ((v0 = 0 ∧ v1 = 1) ∧ v2 = v3) ∨ (¬ (v0 = 0 ∧ v1 = 1) ∧ v2 = v4) := by omega
theorem ov36 (v0 : Int) (v1 : Int) (v2 : Int) (v3 : Int) (v4 : Int) (v5 : Int) (h0 : v0 = v5) (h1 : v2 = v4) (h2 : v1 = 0) (h3 : v5 = 3) : ((v0 = 1 ∧ v1 = 1) ∧ v2 = v3) ∨ (¬ (v0 = 1 ∧ v1 = 1) ∧ v2 = v4) := by omega
theorem ov37 (v0 : Int) (v1 : Int) (v2 : Int) (v3 : Int) (v4 : Int) (v5 : Int) (v6 : Int) (v7 : Int) (h0 : 0 ≤ v3 ∧ v3 ≤ 4) (h1 : 0 ≤ v2 ∧ v2 ≤ 4) (h2 : v0 = v6) (h3 : v7 < v1) (h4 : v5 = 0) (h5 : v6 = 3) (h6 : v7 = 4096) : ((v0 = 0 ∧ 0 ≤ v1 ∧ v1 ≤ 4 - v2 ∨ v0 = 1 ∧ 0 ≤ v1 ∧ v1 ≤ 4 - v3 ∨ v0 = 2 ∧ 0 ≤ v1 ∧ v1 ≤ 4 ∨ v0 = 3 ∧ 1 ≤ v1 ∧ v1 ≤ 4096 ∧ (v4 ≠ 2 ∨ v1 = 4096) ∨ v0 = 4 ∧ 1 ≤ v1 ∧ v1 ≤ 1500 ∨ v0 = 5 ∧ 1 ≤ v1 ∧ v1 ≤ 1500 ∨ v0 = 6 ∧ (v1 = 0 ∨ v1 = 1 ∨ v1 = 4 ∨ v1 = 10) ∨ v0 = 7 ∧ 0 ≤ v1 ∧ v1 ≤ 1) ∧ v5 = 1) ∨ (¬ (v0 = 0 ∧ 0 ≤ v1 ∧ v1 ≤ 4 - v2 ∨ v0 = 1 ∧ 0 ≤ v1 ∧ v1 ≤ 4 - v3 ∨ v0 = 2 ∧ 0 ≤ v1 ∧ v1 ≤ 4 ∨ v0 = 3 ∧ 1 ≤ v1 ∧ v1 ≤ 4096 ∧ (v4 ≠ 2 ∨ v1 = 4096) ∨ v0 = 4 ∧ 1 ≤ v1 ∧ v1 ≤ 1500 ∨ v0 = 5 ∧ 1 ≤ v1 ∧ v1 ≤ 1500 ∨ v0 = 6 ∧ (v1 = 0 ∨ v1 = 1 ∨ v1 = 4 ∨ v1 = 10) ∨ v0 = 7 ∧ 0 ≤ v1 ∧ v1 ≤ 1) ∧ v5 = 0) := by omega
theorem ov38 (v0 : Int) (v1 : Int) (v2 : Int) (v3 : Int) (v4 : Int) (v5 : Int) (v6 : Int) (v7 : Int) (v8 : Int) (h0 : v0 = v6) (h1 : v5 ≤ v1) (h2 : v1 ≤ v7) (h3 : v4 ≠ v8) (h4 : v5 = 1) (h5 : v6 = 3) (h6 : v7 = 4096) (h7 : v8 = 2) : ((v0 = 0 ∧ 0 ≤ v1 ∧ v1 ≤ 4 - v2 ∨ v0 = 1 ∧ 0 ≤ v1 ∧ v1 ≤ 4 - v3 ∨ v0 = 2 ∧ 0 ≤ v1 ∧ v1 ≤ 4 ∨ v0 = 3 ∧ 1 ≤ v1 ∧ v1 ≤ 4096 ∧ (v4 ≠ 2 ∨ v1 = 4096) ∨ v0 = 4 ∧ 1 ≤ v1 ∧ v1 ≤ 1500 ∨ v0 = 5 ∧ 1 ≤ v1 ∧ v1 ≤ 1500 ∨ v0 = 6 ∧ (v1 = 0 ∨ v1 = 1 ∨ v1 = 4 ∨ v1 = 10) ∨ v0 = 7 ∧ 0 ≤ v1 ∧ v1 ≤ 1) ∧ v5 = 1) ∨ (¬ (v0 = 0 ∧ 0 ≤ v1 ∧ v1 ≤ 4 - v2 ∨ v0 = 1 ∧ 0 ≤ v1 ∧ v1 ≤ 4 - v3 ∨ v0 = 2 ∧ 0 ≤ v1 ∧ v1 ≤ 4 ∨ v0 = 3 ∧ 1 ≤ v1 ∧ v1 ≤ 4096 ∧ (v4 ≠ 2 ∨ v1 = 4096) ∨ v0 = 4 ∧ 1 ≤ v1 ∧ v1 ≤ 1500 ∨ v0 = 5 ∧ 1 ≤ v1 ∧ v1 ≤ 1500 ∨ v0 = 6 ∧ (v1 = 0 ∨ v1 = 1 ∨ v1 = 4 ∨ v1 = 10) ∨ v0 = 7 ∧ 0 ≤ v1 ∧ v1 ≤ 1) ∧ v5 = 0) := by omega
theorem ov39 (v0 : Int) (v1 : Int) (v2 : Int) (v3 : Int) (v4 : Int) (v5 : Int) (h0 : v0 = v5) (h1 : v2 = v4) (h2 : v5 = 3) : ((v0 = 0 ∧ v1 = 1) ∧ v2 = v3) ∨ (¬ (v0 = 0 ∧ v1 = 1) ∧ v2 = v4) := by omega
theorem ov40 (v0 : Int) (v1 : Int) (v2 : Int) (v3 : Int) (v4 : Int) (v5 : Int) (h0 : v0 = v5) (h1 : v2 = v4) (h2 : v5 = 3) : ((v0 = 1 ∧ v1 = 1) ∧ v2 = v3) ∨ (¬ (v0 = 1 ∧ v1 = 1) ∧ v2 = v4) := by omega
theorem ov41 (v0 : Int) (v1 : Int) (v2 : Int) (v3 : Int) (h0 : v0 = v1) (h1 : v2 ≤ v1) (h2 : v1 ≤ v3) (h3 : v2 = 1) (h4 : v3 = 4096) : 1 ≤ v0 ∧ v0 ≤ 4096 := by omega
theorem ov42 (v0 : Int) (v1 : Int) (v2 : Int) (v3 : Int) (v4 : Int) (v5 : Int) (v6 : Int) (v7 : Int) (v8 : Int) (h0 : v0 = v6) (h1 : v1 ≤ v7) (h2 : v4 = v8) (h3 : v1 ≠ v7) (h4 : v5 = 0) (h5 : v6 = 3) (h6 : v7 = 4096) (h7 : v8 = 2) : ((v0 = 0 ∧ 0 ≤ v1 ∧ v1 ≤ 4 - v2 ∨ v0 = 1 ∧ 0 ≤ v1 ∧ v1 ≤ 4 - v3 ∨ v0 = 2 ∧ 0 ≤ v1 ∧ v1 ≤ 4 ∨ v0 = 3 ∧ 1 ≤ v1 ∧ v1 ≤ 4096 ∧ (v4 ≠ 2 ∨ v1 = 4096) ∨ v0 = 4 ∧ 1 ≤ v1 ∧ v1 ≤ 1500 ∨ v0 = 5 ∧ 1 ≤ v1 ∧ v1 ≤ 1500 ∨ v0 = 6 ∧ (v1 = 0 ∨ v1 = 1 ∨ v1 = 4 ∨ v1 = 10) ∨ v0 = 7 ∧ 0 ≤ v1 ∧ v1 ≤ 1) ∧ v5 = 1) ∨ (¬ (v0 = 0 ∧ 0 ≤ v1 ∧ v1 ≤ 4 - v2 ∨ v0 = 1 ∧ 0 ≤ v1 ∧ v1 ≤ 4 - v3 ∨ v0 = 2 ∧ 0 ≤ v1 ∧ v1 ≤ 4 ∨ v0 = 3 ∧ 1 ≤ v1 ∧ v1 ≤ 4096 ∧ (v4 ≠ 2 ∨ v1 = 4096) ∨ v0 = 4 ∧ 1 ≤ v1 ∧ v1 ≤ 1500 ∨ v0 = 5 ∧ 1 ≤ v1 ∧ v1 ≤ 1500 ∨ v0 = 6 ∧ (v1 = 0 ∨ v1 = 1 ∨ v1 = 4 ∨ v1 = 10) ∨ v0 = 7 ∧ 0 ≤ v1 ∧ v1 ≤ 1) ∧ v5 = 0) := by omega
theorem ov43 (v0 : Int) (v1 : Int) (v2 : Int) (v3 : Int) (v4 : Int) (v5 : Int) (v6 : Int) (v7 : Int) (h0 : v0 = v6) (h1 : v1 ≤ v7) (h2 : v1 = v7) (h3 : v5 = 1) (h4 : v6 = 3) (h5 : v7 = 4096) : ((v0 = 0 ∧ 0 ≤ v1 ∧ v1 ≤ 4 - v2 ∨ v0 = 1 ∧ 0 ≤ v1 ∧ v1 ≤ 4 - v3 ∨ v0 = 2 ∧ 0 ≤ v1 ∧ v1 ≤ 4 ∨ v0 = 3 ∧ 1 ≤ v1 ∧ v1 ≤ 4096 ∧ (v4 ≠ 2 ∨ v1 = 4096) ∨ v0 = 4 ∧ 1 ≤ v1 ∧ v1 ≤ 1500 ∨ v0 = 5 ∧ 1 ≤ v1 ∧ v1 ≤ 1500 ∨ v0 = 6 ∧ (v1 = 0 ∨ v1 = 1 ∨ v1 = 4 ∨ v1 = 10) ∨ v0 = 7 ∧ 0 ≤ v1 ∧ v1 ≤ 1) ∧ v5 = 1) ∨ (¬ (v0 = 0 ∧ 0 ≤ v1 ∧ v1 ≤ 4 - v2 ∨ v0 = 1 ∧ 0 ≤ v1 ∧ v1 ≤ 4 - v3 ∨ v0 = 2 ∧ 0 ≤ v1 ∧ v1 ≤ 4 ∨ v0 = 3 ∧ 1 ≤ v1 ∧ v1 ≤ 4096 ∧ (v4 ≠ 2 ∨ v1 = 4096) ∨ v0 = 4 ∧ 1 ≤ v1 ∧ v1 ≤ 1500 ∨ v0 = 5 ∧ 1 ≤ v1 ∧ v1 ≤ 1500 ∨ v0 = 6 ∧ (v1 = 0 ∨ v1 = 1 ∨ v1 = 4 ∨ v1 = 10) ∨ v0 = 7 ∧ 0 ≤ v1 ∧ v1 ≤ 1) ∧ v5 = 0) := by omega
theorem ov44 (v0 : Int) (v1 : Int) (v2 : Int) (h0 : v0 = v1) (h1 : v1 ≤ v2) (h2 : v1 = v2) (h3 : v2 = 4096) : 1 ≤ v0 ∧ v0 ≤ 4096 := by omega
theorem ov45 (v0 : Int) (v1 : Int) (v2 : Int) (v3 : Int) (v4 : Int) (v5 : Int) (v6 : Int) (v7 : Int) (h0 : v0 = v6) (h1 : v1 < v7) (h2 : v5 = 0) (h3 : v6 = 4) (h4 : v7 = 1) : ((v0 = 0 ∧ 0 ≤ v1 ∧ v1 ≤ 4 - v2 ∨ v0 = 1 ∧ 0 ≤ v1 ∧ v1 ≤ 4 - v3 ∨ v0 = 2 ∧ 0 ≤ v1 ∧ v1 ≤ 4 ∨ v0 = 3 ∧ 1 ≤ v1 ∧ v1 ≤ 4096 ∧ (v4 ≠ 2 ∨ v1 = 4096) ∨ v0 = 4 ∧ 1 ≤ v1 ∧ v1 ≤ 1500 ∨ v0 = 5 ∧ 1 ≤ v1 ∧ v1 ≤ 1500 ∨ v0 = 6 ∧ (v1 = 0 ∨ v1 = 1 ∨ v1 = 4 ∨ v1 = 10) ∨ v0 = 7 ∧ 0 ≤ v1 ∧ v1 ≤ 1) ∧ v5 = 1) ∨ (¬ (v0 = 0 ∧ 0 ≤ v1 ∧ v1 ≤ 4 - v2 ∨ v0 = 1 ∧ 0 ≤ v1 ∧ v1 ≤ 4 - v3 ∨ v0 = 2 ∧ 0 ≤ v1 ∧ v1 ≤ 4 ∨ v0 = 3 ∧ 1 ≤ v1 ∧ v1 ≤ 4096 ∧ (v4 ≠ 2 ∨ v1 = 4096) ∨ v0 = 4 ∧ 1 ≤ v1 ∧ v1 ≤ 1500 ∨ v0 = 5 ∧ 1 ≤ v1 ∧ v1 ≤ 1500 ∨ v0 = 6 ∧ (v1 = 0 ∨ v1 = 1 ∨ v1 = 4 ∨ v1 = 10) ∨ v0 = 7 ∧ 0 ≤ v1 ∧ v1 ≤ 1) ∧ v5 = 0) := by omega
theorem ov46 (v0 : Int) (v1 : Int) (v2 : Int) (v3 : Int) (v4 : Int) (v5 : Int) (h0 : v0 = v5) (h1 : v2 = v4) (h2 : v1 = 0) (h3 : v5 = 4) : ((v0 = 0 ∧ v1 = 1) ∧ v2 = v3) ∨ (¬ (v0 = 0 ∧ v1 = 1) ∧ v2 = v4) := by omega
theorem ov47 (v0 : Int) (v1 : Int) (v2 : Int) (v3 : Int) (v4 : Int) (v5 : Int) (h0 : v0 = v5) (h1 : v2 = v4) (h2 : v1 = 0) (h3 : v5 = 4) : ((v0 = 1 ∧ v1 = 1) ∧ v2 = v3) ∨ (¬ (v0 = 1 ∧ v1 = 1) ∧ v2 = v4) := by omega
theorem ov48 (v0 : Int) (v1 : Int) (v2 : Int) (v3 : Int) (v4 : Int) (v5 : Int) (v6 : Int) (v7 : Int) (h0 : 0 ≤ v3 ∧ v3 ≤ 4) (h1 : 0 ≤ v2 ∧ v2 ≤ 4) (h2 : v0 = v6) (h3 : v7 < v1) (h4 : v5 = 0) (h5 : v6 = 4) (h6 : v7 = 1500) : ((v0 = 0 ∧ 0 ≤ v1 ∧ v1 ≤ 4 - v2 ∨ v0 = 1 ∧ 0 ≤ v1 ∧ v1 ≤ 4 - v3 ∨ v0 = 2 ∧ 0 ≤ v1 ∧ v1 ≤ 4 ∨ v0 = 3 ∧ 1 ≤ v1 ∧ v1 ≤ 4096 ∧ (v4 ≠ 2 ∨ v1 = 4096) ∨ v0 = 4 ∧ 1 ≤ v1 ∧ v1 ≤ 1500 ∨ v0 = 5 ∧ 1 ≤ v1 ∧ v1 ≤ 1500 ∨ v0 = 6 ∧ (v1 = 0 ∨ v1 = 1 ∨ v1 = 4 ∨ v1 = 10) ∨ v0 = 7 ∧ 0 ≤ v1 ∧ v1 ≤ 1) ∧ v5 = 1) ∨ (¬ (v0 = 0 ∧ 0 ≤ v1 ∧ v1 ≤ 4 - v2 ∨ v0 = 1 ∧ 0 ≤ v1 ∧ v1 ≤ 4 - v3 ∨ v0 = 2 ∧ 0 ≤ v1 ∧ v1 ≤ 4 ∨ v0 = 3 ∧ 1 ≤ v1 ∧ v1 ≤ 4096 ∧ (v4 ≠ 2 ∨ v1 = 4096) ∨ v0 = 4 ∧ 1 ≤ v1 ∧ v1 ≤ 1500 ∨ v0 = 5 ∧ 1 ≤ v1 ∧ v1 ≤ 1500 ∨ v0 = 6 ∧ (v1 = 0 ∨ v1 = 1 ∨ v1 = 4 ∨ v1 = 10) ∨ v0 = 7 ∧ 0 ≤ v1 ∧ v1 ≤ 1) ∧ v5 = 0) := by omega
theorem ov49 (v0 : Int) (v1 : Int) (v2 : Int) (v3 : Int) (v4 : Int) (v5 : Int) (v6 : Int) (v7 : Int) (h0 : v0 = v6) (h1 : v5 ≤ v1) (h2 : v1 ≤ v7) (h3 : v5 = 1) (h4 : v6 = 4) (h5 : v7 = 1500) : ((v0 = 0 ∧ 0 ≤ v1 ∧ v1 ≤ 4 - v2 ∨ v0 = 1 ∧ 0 ≤ v1 ∧ v1 ≤ 4 - v3 ∨ v0 = 2 ∧ 0 ≤ v1 ∧ v1 ≤ 4 ∨ v0 = 3 ∧ 1 ≤ v1 ∧ v1 ≤ 4096 ∧ (v4 ≠ 2 ∨ v1 = 4096) ∨ v0 = 4 ∧ 1 ≤ v1 ∧ v1 ≤ 1500 ∨ v0 = 5 ∧ 1 ≤ v1 ∧ v1 ≤ 1500 ∨ v0 = 6 ∧ (v1 = 0 ∨ v1 = 1 ∨ v1 = 4 ∨ v1 = 10) ∨ v0 = 7 ∧ 0 ≤ v1 ∧ v1 ≤ 1) ∧ v5 = 1) ∨ (¬ (v0 = 0 ∧ 0 ≤ v1 ∧ v1 ≤ 4 - v2 ∨ v0 = 1 ∧ 0 ≤ v1 ∧ v1 ≤ 4 - v3 ∨ v0 = 2 ∧ 0 ≤ v1 ∧ v1 ≤ 4 ∨ v0 = 3 ∧ 1 ≤ v1 ∧ v1 ≤ 4096 ∧ (v4 ≠ 2 ∨ v1 = 4096) ∨ v0 = 4 ∧ 1 ≤ v1 ∧ v1 ≤ 1500 ∨ v0 = 5 ∧ 1 ≤ v1 ∧ v1 ≤ 1500 ∨ v0 = 6 ∧ (v1 = 0 ∨ v1 = 1 ∨ v1 = 4 ∨ v1 = 10) ∨ v0 = 7 ∧ 0 ≤ v1 ∧ v1 ≤ 1) ∧ v5 = 0) := by omega
theorem ov50 (v0 : Int) (v1 : Int) (v2 : Int) (v3 : Int) (v4 : Int) (v5 : Int) (h0 : v0 = v5) (h1 : v2 = v4) (h2 : v5 = 4) : ((v0 = 0 ∧ v1 = 1) ∧ v2 = v3) ∨ (¬ (v0 = 0 ∧ v1 = 1) ∧ v2 = v4) := by omega
theorem ov51 (v0 : Int) (v1 : Int) (v2 : Int) (v3 : Int) (v4 : Int) (v5 : Int) (h0 : v0 = v5) (h1 : v2 = v4) (h2 : v5 = 4) : ((v0 = 1 ∧ v1 = 1) ∧ v2 = v3) ∨ (¬ (v0 = 1 ∧ v1 = 1) ∧ v2 = v4) := by omega
theorem ov52 (v0 : Int) (v1 : Int) (v2 : Int) (v3 : Int) (h0 : v0 = v1) (h1 : v2 ≤ v1) (h2 : v1 ≤ v3) (h3 : v2 = 1) (h4 : v3 = 1500) : 1 ≤ v0 ∧ v0 ≤ 1500 := by omega
theorem ov53 (v0 : Int) (v1 : Int) (v2 : Int) (v3 : Int) (v4 : Int) (v5 : Int) (v6 : Int) (v7 : Int) (h0 : v0 = v6) (h1 : v1 < v7) (h2 : v5 = 0) (h3 : v6 = 5) (h4 : v7 = 1) : ((v0 = 0 ∧ 0 ≤ v1 ∧ v1 ≤ 4 - v2 ∨ v0 = 1 ∧ 0 ≤ v1 ∧ v1 ≤ 4 - v3 ∨ v0 = 2 ∧ 0 ≤ v1 ∧ v1 ≤ 4 ∨ v0 = 3 ∧ 1 ≤ v1 ∧ v1 ≤ 4096 ∧ (v4 ≠ 2 ∨ v1 = 4096) ∨ v0 = 4 ∧ 1 ≤ v1 ∧ v1 ≤ 1500 ∨ v0 = 5 ∧ 1 ≤ v1 ∧ v1 ≤ 1500 ∨ v0 = 6 ∧ (v1 = 0 ∨ v1 = 1 ∨ v1 = 4 ∨ v1 = 10) ∨ v0 = 7 ∧ 0 ≤ v1 ∧ v1 ≤ 1) ∧ v5 = 1) ∨ (¬ (v0 = 0 ∧ 0 ≤ v1 ∧ v1 ≤ 4 - v2 ∨ v0 = 1 ∧ 0 ≤ v1 ∧ v1 ≤ 4 - v3 ∨ v0 = 2 ∧ 0 ≤ v1 ∧ v1 ≤ 4 ∨ v0 = 3 ∧ 1 ≤ v1 ∧ v1 ≤ 4096 ∧ (v4 ≠ 2 ∨ v1 = 4096) ∨ v0 = 4 ∧ 1 ≤ v1 ∧ v1 ≤ 1500 ∨ v0 = 5 ∧ 1 ≤ v1 ∧ v1 ≤ 1500 ∨ v0 = 6 ∧ (v1 = 0 ∨ v1 = 1 ∨ v1 = 4 ∨ v1 = 10) ∨ v0 = 7 ∧ 0 ≤ v1 ∧ v1 ≤ 1) ∧ v5 = 0) := by omega
theorem ov54 (v0 : Int) (v1 : Int) (v2 : Int) (v3 : Int) (v4 : Int) (v5 : Int) (h0 : v0 = v5) (h1 : v2 = v4) (h2 : v1 = 0) (h3 : v5 = 5) : ((v0 = 0 ∧ v1 = 1) ∧ v2 = v3) ∨ (¬ (v0 = 0 ∧ v1 = 1) ∧ v2 = v4) := by omega
theorem ov55 (v0 : Int) (v1 : Int) (v2 : Int) (v3 : Int) (v4 : Int) (v5 : Int) (h0 : v0 = v5) (h1 : v2 = v4) (h2 : v1 = 0) (h3 : v5 = 5) : ((v0 = 1 ∧ v1 = 1) ∧ v2 = v3) ∨ (¬ (v0 = 1 ∧ v1 = 1) ∧ v2 = v4) := by omega
theorem ov56 (v0 : Int) (v1 : Int) (v2 : Int) (v3 : Int) (v4 : Int) (v5 : Int) (v6 : Int) (v7 : Int) (h0 : 0 ≤ v3 ∧ v3 ≤ 4) (h1 : 0 ≤ v2 ∧ v2 ≤ 4) (h2 : v0 = v6) (h3 : v7 < v1) (h4 : v5 = 0) (h5 : v6 = 5) (h6 : v7 = 1500) : ((v0 = 0 ∧ 0 ≤ v1 ∧ v1 ≤ 4 - v2 ∨ v0 = 1 ∧ 0 ≤ v1 ∧ v1 ≤ 4 - v3 ∨ v0 = 2 ∧ 0 ≤ v1 ∧ v1 ≤ 4 ∨ v0 = 3 ∧ 1 ≤ v1 ∧ v1 ≤ 4096 ∧ (v4 ≠ 2 ∨ v1 = 4096) ∨ v0 = 4 ∧ 1 ≤ v1 ∧ v1 ≤ 1500 ∨ v0 = 5 ∧ 1 ≤ v1 ∧ v1 ≤ 1500 ∨ v0 = 6 ∧ (v1 = 0 ∨ v1 = 1 ∨ v1 = 4 ∨ v1 = 10) ∨ v0 = 7 ∧ 0 ≤ v1 ∧ v1 ≤ 1) ∧ v5 = 1) ∨ (¬ (v0 = 0 ∧ 0 ≤ v1 ∧ v1 ≤ 4 - v2 ∨ v0 = 1 ∧ 0 ≤ v1 ∧ v1 ≤ 4 - v3 ∨ v0 = 2 ∧ 0 ≤ v1 ∧ v1 ≤ 4 ∨ v0 = 3 ∧ 1 ≤ v1 ∧ v1 ≤ 4096 ∧ (v4 ≠ 2 ∨ v1 = 4096) ∨ v0 = 4 ∧ 1 ≤ v1 ∧ v1 ≤ 1500 ∨ v0 = 5 ∧ 1 ≤ v1 ∧ v1 ≤ 1500 ∨ v0 = 6 ∧ (v1 = 0 ∨ v1 = 1 ∨ v1 = 4 ∨ v1 = 10) ∨ v0 = 7 ∧ 0 ≤ v1 ∧ v1 ≤ 1) ∧ v5 = 0) := by omega
theorem ov57 (v0 : Int) (v1 : Int) (v2 : Int) (v3 : Int) (v4 : Int) (v5 : Int) (v6 : Int) (v7 : Int) (h0 : v0 = v6) (h1 : v5 ≤ v1) (h2 : v1 ≤ v7) (h3 : v5 = 1) (h4 : v6 = 5) (h5 : v7 = 1500) : ((v0 = 0 ∧ 0 ≤ v1 ∧ v1 ≤ 4 - v2 ∨ v0 = 1 ∧ 0 ≤ v1 ∧ v1 ≤ 4 - v3 ∨ v0 = 2 ∧ 0 ≤ v1 ∧ v1 ≤ 4 ∨ v0 = 3 ∧ 1 ≤ v1 ∧ v1 ≤ 4096 ∧ (v4 ≠ 2 ∨ v1 = 4096) ∨ v0 = 4 ∧ 1 ≤ v1 ∧ v1 ≤ 1500 ∨ v0 = 5 ∧ 1 ≤ v1 ∧ v1 ≤ 1500 ∨ v0 = 6 ∧ (v1 = 0 ∨ v1 = 1 ∨ v1 = 4 ∨ v1 = 10) ∨ v0 = 7 ∧ 0 ≤ v1 ∧ v1 ≤ 1) ∧ v5 = 1) ∨ (¬ (v0 = 0 ∧ 0 ≤ v1 ∧ v1 ≤ 4 - v2 ∨ v0 = 1 ∧ 0 ≤ v1 ∧ v1 ≤ 4 - v3 ∨ v0 = 2 ∧ 0 ≤ v1 ∧ v1 ≤ 4 ∨ v0 = 3 ∧ 1 ≤ v1 ∧ v1 ≤ 4096 ∧ (v4 ≠ 2 ∨ v1 = 4096) ∨ v0 = 4 ∧ 1 ≤ v1 ∧ v1 ≤ 1500 ∨ v0 = 5 ∧ 1 ≤ v1 ∧ v1 ≤ 1500 ∨ v0 = 6 ∧ (v1 = 0 ∨ v1 = 1 ∨ v1 = 4 ∨ v1 = 10) ∨ v0 = 7 ∧ 0 ≤ v1 ∧ v1 ≤ 1) ∧ v5 = 0) := by omega
theorem ov58 (v0 : Int) (v1 : Int) (v2 : Int) (v3 : Int) (v4 : Int) (v5 : Int) (h0 : v0 = v5) (h1 : v2 = v4) (h2 : v5 = 5) : ((v0 = 0 ∧ v1 = 1) ∧ v2 = v3) ∨ (¬ (v0 = 0 ∧ v1 = 1) ∧ v2 = v4) := by omega
theorem ov59 (v0 : Int) (v1 : Int) (v2 : Int) (v3 : Int) (v4 : Int) (v5 : Int) (h0 : v0 = v5) (h1 : v2 = v4) (h2 : v5 = 5) : ((v0 = 1 ∧ v1 = 1) ∧ v2 = v3) ∨ (¬ (v0 = 1 ∧ v1 = 1) ∧ v2 = v4) := by omega
theorem ov60 (v0 : Int) (v1 : Int) (v2 : Int) (v3 : Int) (v4 : Int) (v5 : Int) (v6 : Int) (v7 : Int) (h0 : v0 = v6) (h1 : v1 = v7) (h2 : v5 = 1) (h3 : v6 = 6) (h4 : v7 = 0) : ((v0 = 0 ∧ 0 ≤ v1 ∧ v1 ≤ 4 - v2 ∨ v0 = 1 ∧ 0 ≤ v1 ∧ v1 ≤ 4 - v3 ∨ v0 = 2 ∧ 0 ≤ v1 ∧ v1 ≤ 4 ∨ v0 = 3 ∧ 1 ≤ v1 ∧ v1 ≤ 4096 ∧ (v4 ≠ 2 ∨ v1 = 4096) ∨ v0 = 4 ∧ 1 ≤ v1 ∧ v1 ≤ 1500 ∨ v0 = 5 ∧ 1 ≤ v1 ∧ v1 ≤ 1500 ∨ v0 = 6 ∧ (v1 = 0 ∨ v1 = 1 ∨ v1 = 4 ∨ v1 = 10) ∨ v0 = 7 ∧ 0 ≤ v1 ∧ v1 ≤ 1) ∧ v5 = 1) ∨ (¬ (v0 = 0 ∧ 0 ≤ v1 ∧ v1 ≤ 4 - v2 ∨ v0 = 1 ∧ 0 ≤ v1 ∧ v1 ≤ 4 - v3 ∨ v0 = 2 ∧ 0 ≤ v1 ∧ v1 ≤ 4 ∨ v0 = 3 ∧ 1 ≤ v1 ∧ v1 ≤ 4096 ∧ (v4 ≠ 2 ∨ v1 = 4096) ∨ v0 = 4 ∧ 1 ≤ v1 ∧ v1 ≤ 1500 ∨ v0 = 5 ∧ 1 ≤ v1 ∧ v1 ≤ 1500 ∨ v0 = 6 ∧ (v1 = 0 ∨ v1 = 1 ∨ v1 = 4 ∨ v1 = 10) ∨ v0 = 7 ∧ 0 ≤ v1 ∧ v1 ≤ 1) ∧ v5 = 0) := by omega
theorem ov61 (v0 : Int) (v1 : Int) (v2 : Int) (v3 : Int) (v4 : Int) (v5 : Int) (h0 : v0 = v5) (h1 : v2 = v4) (h2 : v5 = 6) : ((v0 = 0 ∧ v1 = 1) ∧ v2 = v3) ∨ (¬ (v0 = 0 ∧ v1 = 1) ∧ v2 = v4) := by omega
theorem ov62 (v0 : Int) (v1 : Int) (v2 : Int) (v3 : Int) (v4 : Int) (v5 : Int) (h0 : v0 = v5) (h1 : v2 = v4) (h2 : v5 = 6) : ((v0 = 1 ∧ v1 = 1) ∧ v2 = v3) ∨ (¬ (v0 = 1 ∧ v1 = 1) ∧ v2 = v4) := by omega
theorem ov63 (v0 : Int) (v1 : Int) (v2 : Int) (v3 : Int) (v4 : Int) (v5 : Int) (v6 : Int) (h0 : v0 = v6) (h1 : v1 = v5) (h2 : v5 = 1) (h3 : v6 = 6) : ((v0 = 0 ∧ 0 ≤ v1 ∧ v1 ≤ 4 - v2 ∨ v0 = 1 ∧ 0 ≤ v1 ∧ v1 ≤ 4 - v3 ∨ v0 = 2 ∧ 0 ≤ v1 ∧ v1 ≤ 4 ∨ v0 = 3 ∧ 1 ≤ v1 ∧ v1 ≤ 4096 ∧ (v4 ≠ 2 ∨ v1 = 4096) ∨ v0 = 4 ∧ 1 ≤ v1 ∧ v1 ≤ 1500 ∨ v0 = 5 ∧ 1 ≤ v1 ∧ v1 ≤ 1500 ∨ v0 = 6 ∧ (v1 = 0 ∨ v1 = 1 ∨ v1 = 4 ∨ v1 = 10) ∨ v0 = 7 ∧ 0 ≤ v1 ∧ v1 ≤ 1) ∧ v5 = 1) ∨ (¬ (v0 = 0 ∧ 0 ≤ v1 ∧ v1 ≤ 4 - v2 ∨ v0 = 1 ∧ 0 ≤ v1 ∧ v1 ≤ 4 - v3 ∨ v0 = 2 ∧ 0 ≤ v1 ∧ v1 ≤ 4 ∨ v0 = 3 ∧ 1 ≤ v1 ∧ v1 ≤ 4096 ∧ (v4 ≠ 2 ∨ v1 = 4096) ∨ v0 = 4 ∧ 1 ≤ v1 ∧ v1 ≤ 1500 ∨ v0 = 5 ∧ 1 ≤ v1 ∧ v1 ≤ 1500 ∨ v0 = 6 ∧ (v1 = 0 ∨ v1 = 1 ∨ v1 = 4 ∨ v1 = 10) ∨ v0 = 7 ∧ 0 ≤ v1 ∧ v1 ≤ 1) ∧ v5 = 0) := by omega
theorem ov64 (v0 : Int) (v1 : Int) (v2 : Int) (v3 : Int) (v4 : Int) (v5 : Int) (v6 : Int) (v7 : Int) (h0 : v0 = v6) (h1 : v1 = v7) (h2 : v5 = 1) (h3 : v6 = 6) (h4 : v7 = 4) : ((v0 = 0 ∧ 0 ≤ v1 ∧ v1 ≤ 4 - v2 ∨ v0 = 1 ∧ 0 ≤ v1 ∧ v1 ≤ 4 - v3 ∨ v0 = 2 ∧ 0 ≤ v1 ∧ v1 ≤ 4 ∨ v0 = 3 ∧ 1 ≤ v1 ∧ v1 ≤ 4096 ∧ (v4 ≠ 2 ∨ v1 = 4096) ∨ v0 = 4 ∧ 1 ≤ v1 ∧ v1 ≤ 1500 ∨ v0 = 5 ∧ 1 ≤ v1 ∧ v1 ≤ 1500 ∨ v0 = 6 ∧ (v1 = 0 ∨ v1 = 1 ∨ v1 = 4 ∨ v1 = 10) ∨ v0 = 7 ∧ 0 ≤ v1 ∧ v1 ≤ 1) ∧ v5 = 1) ∨ (¬ (v0 = 0 ∧ 0 ≤ v1 ∧ v1 ≤ 4 - v2 ∨ v0 = 1 ∧ 0 ≤ v1 ∧ v1 ≤ 4 - v3 ∨ v0 = 2 ∧ 0 ≤ v1 ∧ v1 ≤ 4 ∨ v0 = 3 ∧ 1 ≤ v1 ∧ v1 ≤ 4096 ∧ (v4 ≠ 2 ∨ v1 = 4096) ∨ v0 = 4 ∧ 1 ≤ v1 ∧ v1 ≤ 1500 ∨ v0 = 5 ∧ 1 ≤ v1 ∧ v1 ≤ 1500 ∨ v0 = 6 ∧ (v1 = 0 ∨ v1 = 1 ∨ v1 = 4 ∨ v1 = 10) ∨ v0 = 7 ∧ 0 ≤ v1 ∧ v1 ≤ 1) ∧ v5 = 0) := by omega
theorem ov65 (v0 : Int) (v1 : Int) (v2 : Int) (v3 : Int) (v4 : Int) (v5 : Int) (v6 : Int) (v7 : Int) (v8 : Int) (v9 : Int) (h0 : v0 = v6) (h1 : v1 ≠ v5) (h2 : v1 ≠ v7) (h3 : v1 ≠ v8) (h4 : v1 ≠ v9) (h5 : v5 = 0) (h6 : v6 = 6) (h7 : v7 = 1) (h8 : v8 = 4) (h9 : v9 = 10) : ((v0 = 0 ∧ 0 ≤ v1 ∧ v1 ≤ 4 - v2 ∨ v0 = 1 ∧ 0 ≤ v1 ∧ v1 ≤ 4 - v3 ∨ v0 = 2 ∧ 0 ≤ v1 ∧ v1 ≤ 4 ∨ v0 = 3 ∧ 1 ≤ v1 ∧ v1 ≤ 4096 ∧ (v4 ≠ 2 ∨ v1 = 4096) ∨ v0 = 4 ∧ 1 ≤ v1 ∧ v1 ≤ 1500 ∨ v0 = 5 ∧ 1 ≤ v1 ∧ v1 ≤ 1500 ∨ v0 = 6 ∧ (v1 = 0 ∨ v1 = 1 ∨ v1 = 4 ∨ v1 = 10) ∨ v0 = 7 ∧ 0 ≤ v1 ∧ v1 ≤ 1) ∧ v5 = 1) ∨ (¬ (v0 = 0 ∧ 0 ≤ v1 ∧ v1 ≤ 4 - v2 ∨ v0 = 1 ∧ 0 ≤ v1 ∧ v1 ≤ 4 - v3 ∨ v0 = 2 ∧ 0 ≤ v1 ∧ v1 ≤ 4 ∨ v0 = 3 ∧ 1 ≤ v1 ∧ v1 ≤ 4096 ∧ (v4 ≠ 2 ∨ v1 = 4096) ∨ v0 = 4 ∧ 1 ≤ v1 ∧ v1 ≤ 1500 ∨ v0 = 5 ∧ 1 ≤ v1 ∧ v1 ≤ 1500 ∨ v0 = 6 ∧ (v1 = 0 ∨ v1 = 1 ∨ v1 = 4 ∨ v1 = 10) ∨ v0 = 7 ∧ 0 ≤ v1 ∧ v1 ≤ 1) ∧ v5 = 0) := by omega
theorem ov66 (v0 : Int) (v1 : Int) (v2 : Int) (v3 : Int) (v4 : Int) (v5 : Int) (h0 : v0 = v5) (h1 : v2 = v4) (h2 : v1 = 0) (h3 : v5 = 6) : ((v0 = 0 ∧ v1 = 1) ∧ v2 = v3) ∨ (¬ (v0 = 0 ∧ v1 = 1) ∧ v2 = v4) := by omega
theorem ov67 (v0 : Int) (v1 : Int) (v2 : Int) (v3 : Int) (v4 : Int) (v5 : Int) (h0 : v0 = v5) (h1 : v2 = v4) (h2 : v1 = 0) (h3 : v5 = 6) : ((v0 = 1 ∧ v1 = 1) ∧ v2 = v3) ∨ (¬ (v0 = 1 ∧ v1 = 1) ∧ v2 = v4) := by omega
theorem ov68 (v0 : Int) (v1 : Int) (v2 : Int) (v3 : Int) (v4 : Int) (v5 : Int) (v6 : Int) (v7 : Int) (h0 : v0 = v6) (h1 : v1 = v7) (h2 : v5 = 1) (h3 : v6 = 6) (h4 : v7 = 10) : ((v0 = 0 ∧ 0 ≤ v1 ∧ v1 ≤ 4 - v2 ∨ v0 = 1 ∧ 0 ≤ v1 ∧ v1 ≤ 4 - v3 ∨ v0 = 2 ∧ 0 ≤ v1 ∧ v1 ≤ 4 ∨ v0 = 3 ∧ 1 ≤ v1 ∧ v1 ≤ 4096 ∧ (v4 ≠ 2 ∨ v1 = 4096) ∨ v0 = 4 ∧ 1 ≤ v1 ∧ v1 ≤ 1500 ∨ v0 = 5 ∧ 1 ≤ v1 ∧ v1 ≤ 1500 ∨ v0 = 6 ∧ (v1 = 0 ∨ v1 = 1 ∨ v1 = 4 ∨ v1 = 10) ∨ v0 = 7 ∧ 0 ≤ v1 ∧ v1 ≤ 1) ∧ v5 = 1) ∨ (¬ (v0 = 0 ∧ 0 ≤ v1 ∧ v1 ≤ 4 - v2 ∨ v0 = 1 ∧ 0 ≤ v1 ∧ v1 ≤ 4 - v3 ∨ v0 = 2 ∧ 0 ≤ v1 ∧ v1 ≤ 4 ∨ v0 = 3 ∧ 1 ≤ v1 ∧ v1 ≤ 4096 ∧ (v4 ≠ 2 ∨ v1 = 4096) ∨ v0 = 4 ∧ 1 ≤ v1 ∧ v1 ≤ 1500 ∨ v0 = 5 ∧ 1 ≤ v1 ∧ v1 ≤ 1500 ∨ v0 = 6 ∧ (v1 = 0 ∨ v1 = 1 ∨ v1 = 4 ∨ v1 = 10) ∨ v0 = 7 ∧ 0 ≤ v1 ∧ v1 ≤ 1) ∧ v5 = 0) := by omega
theorem ov69 (v0 : Int) (v1 : Int) (v2 : Int) (v3 : Int) (v4 : Int) (v5 : Int) (v6 : Int) (h0 : v0 = v6) (h1 : v1 < v5) (h2 : v5 = 0) (h3 : v6 = 7) : ((v0 = 0 ∧ 0 ≤ v1 ∧ v1 ≤ 4 - v2 ∨ v0 = 1 ∧ 0 ≤ v1 ∧ v1 ≤ 4 - v3 ∨ v0 = 2 ∧ 0 ≤ v1 ∧ v1 ≤ 4 ∨ v0 = 3 ∧ 1 ≤ v1 ∧ v1 ≤ 4096 ∧ (v4 ≠ 2 ∨ v1 = 4096) ∨ v0 = 4 ∧ 1 ≤ v1 ∧ v1 ≤ 1500 ∨ v0 = 5 ∧ 1 ≤ v1 ∧ v1 ≤ 1500 ∨ v0 = 6 ∧ (v1 = 0 ∨ v1 = 1 ∨ v1 = 4 ∨ v1 = 10) ∨ v0 = 7 ∧ 0 ≤ v1 ∧ v1 ≤ 1) ∧ v5 = 1) ∨ (¬ (v0 = 0 ∧ 0 ≤ v1 ∧ v1 ≤ 4 - v2 ∨ v0 = 1 ∧ 0 ≤ v1 ∧ v1 ≤ 4 - v3 ∨ v0 = 2 ∧ 0 ≤ v1 ∧ v1 ≤ 4 ∨ v0 = 3 ∧ 1 ≤ v1 ∧ v1 ≤ 4096 ∧ (v4 ≠ 2 ∨ v1 = 4096) ∨ v0 = 4 ∧ 1 ≤ v1 ∧ v1 ≤ 1500 ∨ v0 = 5 ∧ 1 ≤ v1 ∧ v1 ≤ 1500 ∨ v0 = 6 ∧ (v1 = 0 ∨ v1 = 1 ∨ v1 = 4 ∨ v1 = 10) ∨ v0 = 7 ∧ 0 ≤ v1 ∧ v1 ≤ 1) ∧ v5 = 0) := by omega
theorem ov70 (v0 : Int) (v1 : Int) (v2 : Int) (v3 : Int) (v4 : Int) (v5 : Int) (h0 : v0 = v5) (h1 : v2 = v4) (h2 : v1 = 0) (h3 : v5 = 7) : ((v0 = 0 ∧ v1 = 1) ∧ v2 = v3) ∨ (¬ (v0 = 0 ∧ v1 = 1) ∧ v2 = v4) := by omega
theorem ov71 (v0 : Int) (v1 : Int) (v2 : Int) (v3 : Int) (v4 : Int) (v5 : Int) (h0 : v0 = v5) (h1 : v2 = v4) (h2 : v1 = 0) (h3 : v5 = 7) : ((v0 = 1 ∧ v1 = 1) ∧ v2 = v3) ∨ (¬ (v0 = 1 ∧ v1 = 1) ∧ v2 = v4) := by omega
theorem ov72 (v0 : Int) (v1 : Int) (v2 : Int) (v3 : Int) (v4 : Int) (v5 : Int) (v6 : Int) (v7 : Int) (h0 : v0 = v6) (h1 : v7 < v1) (h2 : v5 = 0) (h3 : v6 = 7) (h4 : v7 = 1) : ((v0 = 0 ∧ 0 ≤ v1 ∧ v1 ≤ 4 - v2 ∨ v0 = 1 ∧ 0 ≤ v1 ∧ v1 ≤ 4 - v3 ∨ v0 = 2 ∧ 0 ≤ v1 ∧ v1 ≤ 4 ∨ v0 = 3 ∧ 1 ≤ v1 ∧ v1 ≤ 4096 ∧ (v4 ≠ 2 ∨ v1 = 4096) ∨ v0 = 4 ∧ 1 ≤ v1 ∧ v1 ≤ 1500 ∨ v0 = 5 ∧ 1 ≤ v1 ∧ v1 ≤ 1500 ∨ v0 = 6 ∧ (v1 = 0 ∨ v1 = 1 ∨ v1 = 4 ∨ v1 = 10) ∨ v0 = 7 ∧ 0 ≤ v1 ∧ v1 ≤ 1) ∧ v5 = 1) ∨ (¬ (v0 = 0 ∧ 0 ≤ v1 ∧ v1 ≤ 4 - v2 ∨ v0 = 1 ∧ 0 ≤ v1 ∧ v1 ≤ 4 - v3 ∨ v0 = 2 ∧ 0 ≤ v1 ∧ v1 ≤ 4 ∨ v0 = 3 ∧ 1 ≤ v1 ∧ v1 ≤ 4096 ∧ (v4 ≠ 2 ∨ v1 = 4096) ∨ v0 = 4 ∧ 1 ≤ v1 ∧ v1 ≤ 1500 ∨ v0 = 5 ∧ 1 ≤ v1 ∧ v1 ≤ 1500 ∨ v0 = 6 ∧ (v1 = 0 ∨ v1 = 1 ∨ v1 = 4 ∨ v1 = 10) ∨ v0 = 7 ∧ 0 ≤ v1 ∧ v1 ≤ 1) ∧ v5 = 0) := by omega
theorem ov73 (v0 : Int) (v1 : Int) (v2 : Int) (v3 : Int) (v4 : Int) (v5 : Int) (v6 : Int) (v7 : Int) (h0 : v0 = v6) (h1 : v7 ≤ v1) (h2 : v1 ≤ v5) (h3 : v5 = 1) (h4 : v6 = 7) (h5 : v7 = 0) : ((v0 = 0 ∧ 0 ≤ v1 ∧ v1 ≤ 4 - v2 ∨ v0 = 1 ∧ 0 ≤ v1 ∧ v1 ≤ 4 - v3 ∨ v0 = 2 ∧ 0 ≤ v1 ∧ v1 ≤ 4 ∨ v0 = 3 ∧ 1 ≤ v1 ∧ v1 ≤ 4096 ∧ (v4 ≠ 2 ∨ v1 = 4096) ∨ v0 = 4 ∧ 1 ≤ v1 ∧ v1 ≤ 1500 ∨ v0 = 5 ∧ 1 ≤ v1 ∧ v1 ≤ 1500 ∨ v0 = 6 ∧ (v1 = 0 ∨ v1 = 1 ∨ v1 = 4 ∨ v1 = 10) ∨ v0 = 7 ∧ 0 ≤ v1 ∧ v1 ≤ 1) ∧ v5 = 1) ∨ (¬ (v0 = 0 ∧ 0 ≤ v1 ∧ v1 ≤ 4 - v2 ∨ v0 = 1 ∧ 0 ≤ v1 ∧ v1 ≤ 4 - v3 ∨ v0 = 2 ∧ 0 ≤ v1 ∧ v1 ≤ 4 ∨ v0 = 3 ∧ 1 ≤ v1 ∧ v1 ≤ 4096 ∧ (v4 ≠ 2 ∨ v1 = 4096) ∨ v0 = 4 ∧ 1 ≤ v1 ∧ v1 ≤ 1500 ∨ v0 = 5 ∧ 1 ≤ v1 ∧ v1 ≤ 1500 ∨ v0 = 6 ∧ (v1 = 0 ∨ v1 = 1 ∨ v1 = 4 ∨ v1 = 10) ∨ v0 = 7 ∧ 0 ≤ v1 ∧ v1 ≤ 1) ∧ v5 = 0) := by omega
theorem ov74 (v0 : Int) (v1 : Int) (v2 : Int) (v3 : Int) (v4 : Int) (v5 : Int) (h0 : v0 = v5) (h1 : v2 = v4) (h2 : v5 = 7) : ((v0 = 0 ∧ v1 = 1) ∧ v2 = v3) ∨ (¬ (v0 = 0 ∧ v1 = 1) ∧ v2 = v4) := by omega
theorem ov75 (v0 : Int) (v1 : Int) (v2 : Int) (v3 : Int) (v4 : Int) (v5 : Int) (h0 : v0 = v5) (h1 : v2 = v4) (h2 : v5 = 7) : ((v0 = 1 ∧ v1 = 1) ∧ v2 = v3) ∨ (¬ (v0 = 1 ∧ v1 = 1) ∧ v2 = v4) := by omega
theorem ov76 (v0 : Int) (v1 : Int) (v2 : Int) (v3 : Int) (v4 : Int) (v5 : Int) (v6 : Int) (v7 : Int) (v8 : Int) (v9 : Int) (v10 : Int) (v11 : Int) (v12 : Int) (h0 : v0 ≠ v5) (h1 : v0 ≠ v6) (h2 : v0 ≠ v7) (h3 : v0 ≠ v8) (h4 : v0 ≠ v9) (h5 : v0 ≠ v10) (h6 : v0 ≠ v11) (h7 : v0 ≠ v12) (h8 : v5 = 0) (h9 : v6 = 1) (h10 : v7 = 2) (h11 : v8 = 3) (h12 : v9 = 4) (h13 : v10 = 5) (h14 : v11 = 6) (h15 : v12 = 7) : ((v0 = 0 ∧ 0 ≤ v1 ∧ v1 ≤ 4 - v2 ∨ v0 = 1 ∧ 0 ≤ v1 ∧ v1 ≤ 4 - v3 ∨ v0 = 2 ∧ 0 ≤ v1 ∧ v1 ≤ 4 ∨ v0 = 3 ∧ 1 ≤ v1 ∧ v1 ≤ 4096 ∧ (v4 ≠ 2 ∨ v1 = 4096) ∨ v0 = 4 ∧ 1 ≤ v1 ∧ v1 ≤ 1500 ∨ v0 = 5 ∧ 1 ≤ v1 ∧ v1 ≤ 1500 ∨ v0 = 6 ∧ (v1 = 0 ∨ v1 = 1 ∨ v1 = 4 ∨ v1 = 10) ∨ v0 = 7 ∧ 0 ≤ v1 ∧ v1 ≤ 1) ∧ v5 = 1) ∨ (¬ (v0 = 0 ∧ 0 ≤ v1 ∧ v1 ≤ 4 - v2 ∨ v0 = 1 ∧ 0 ≤ v1 ∧ v1 ≤ 4 - v3 ∨ v0 = 2 ∧ 0 ≤ v1 ∧ v1 ≤ 4 ∨ v0 = 3 ∧ 1 ≤ v1 ∧ v1 ≤ 4096 ∧ (v4 ≠ 2 ∨ v1 = 4096) ∨ v0 = 4 ∧ 1 ≤ v1 ∧ v1 ≤ 1500 ∨ v0 = 5 ∧ 1 ≤ v1 ∧ v1 ≤ 1500 ∨ v0 = 6 ∧ (v1 = 0 ∨ v1 = 1 ∨ v1 = 4 ∨ v1 = 10) ∨ v0 = 7 ∧ 0 ≤ v1 ∧ v1 ≤ 1) ∧ v5 = 0) := by omega
set_option maxHeartbeats 4000000 in
set_option maxRecDepth 100000 in
/-- X12_property on (0,) -/
theorem jo_X12_property (l : Launch) (hlt : l.stackTraces = false) (D : va_G) (t3 : Nat × Nat × Nat) (cI cJ : ClassId) (ad : Nat → Nat) (g : Nat → Int32) (lg : Nat → Int64) (ar : Nat → Nat → Int32) (bk : Nat → Int64) (sz : Nat) (y1 : Int32) (y2 : Int32) (hi_g2 : 0 ≤ (g 2).toInt ∧ (g 2).toInt ≤ 4) (hi_g3 : 0 ≤ (g 3).toInt ∧ (g 3).toInt ≤ 4) (hi_tlclp : (g 2).toInt + (g 3).toInt ≤ 4) (hi_g4 : 0 ≤ (g 4).toInt ∧ (g 4).toInt ≤ 4) (hi_g5 : 1 ≤ (g 5).toInt ∧ (g 5).toInt ≤ 4096) (hi_g6 : 1 ≤ (g 6).toInt ∧ (g 6).toInt ≤ 1500) (hi_g7 : 1 ≤ (g 7).toInt ∧ (g 7).toInt ≤ 1500) : JMi l yX12_property (Cond.code yX12_property cX12_property 4 (some .int) :: wwM) { frames := 0, cells := 0, slots := 0, locals := 0 } t3 D mw cI cJ ad [.ref (ad 0), .int y1, .int y2] (mw cI cJ ad g lg ar bk) sz 0 0 (fun (r : Int32) g' lg' ar' bk' => hk_fr [1, 2, 3, 4, 5, 6, 7, 8, 9] g g' ∧ lg = lg' ∧ ar = ar' ∧ bk = bk' ∧ ((((y1).toInt = 0 ∧ 0 ≤ (y2).toInt ∧ (y2).toInt ≤ 4 - (g 3).toInt ∨ (y1).toInt = 1 ∧ 0 ≤ (y2).toInt ∧ (y2).toInt ≤ 4 - (g 2).toInt ∨ (y1).toInt = 2 ∧ 0 ≤ (y2).toInt ∧ (y2).toInt ≤ 4 ∨ (y1).toInt = 3 ∧ 1 ≤ (y2).toInt ∧ (y2).toInt ≤ 4096 ∧ ((g 0).toInt ≠ 2 ∨ (y2).toInt = 4096) ∨ (y1).toInt = 4 ∧ 1 ≤ (y2).toInt ∧ (y2).toInt ≤ 1500 ∨ (y1).toInt = 5 ∧ 1 ≤ (y2).toInt ∧ (y2).toInt ≤ 1500 ∨ (y1).toInt = 6 ∧ ((y2).toInt = 0 ∨ (y2).toInt = 1 ∨ (y2).toInt = 4 ∨ (y2).toInt = 10) ∨ (y1).toInt = 7 ∧ 0 ≤ (y2).toInt ∧ (y2).toInt ≤ 1) ∧ (r).toInt = 1) ∨ (¬ ((y1).toInt = 0 ∧ 0 ≤ (y2).toInt ∧ (y2).toInt ≤ 4 - (g 3).toInt ∨ (y1).toInt = 1 ∧ 0 ≤ (y2).toInt ∧ (y2).toInt ≤ 4 - (g 2).toInt ∨ (y1).toInt = 2 ∧ 0 ≤ (y2).toInt ∧ (y2).toInt ≤ 4 ∨ (y1).toInt = 3 ∧ 1 ≤ (y2).toInt ∧ (y2).toInt ≤ 4096 ∧ ((g 0).toInt ≠ 2 ∨ (y2).toInt = 4096) ∨ (y1).toInt = 4 ∧ 1 ≤ (y2).toInt ∧ (y2).toInt ≤ 1500 ∨ (y1).toInt = 5 ∧ 1 ≤ (y2).toInt ∧ (y2).toInt ≤ 1500 ∨ (y1).toInt = 6 ∧ ((y2).toInt = 0 ∨ (y2).toInt = 1 ∨ (y2).toInt = 4 ∨ (y2).toInt = 10) ∨ (y1).toInt = 7 ∧ 0 ≤ (y2).toInt ∧ (y2).toInt ≤ 1) ∧ (r).toInt = 0)) ∧ ((((y1).toInt = 0 ∧ (r).toInt = 1) ∧ (g' 2).toInt = (y2).toInt) ∨ (¬ ((y1).toInt = 0 ∧ (r).toInt = 1) ∧ (g' 2).toInt = (g 2).toInt)) ∧ ((((y1).toInt = 1 ∧ (r).toInt = 1) ∧ (g' 3).toInt = (y2).toInt) ∨ (¬ ((y1).toInt = 1 ∧ (r).toInt = 1) ∧ (g' 3).toInt = (g 3).toInt)) ∧ (0 ≤ (g' 2).toInt ∧ (g' 2).toInt ≤ 4) ∧ (0 ≤ (g' 3).toInt ∧ (g' 3).toInt ≤ 4) ∧ ((g' 2).toInt + (g' 3).toInt ≤ 4) ∧ (0 ≤ (g' 4).toInt ∧ (g' 4).toInt ≤ 4) ∧ (1 ≤ (g' 5).toInt ∧ (g' 5).toInt ≤ 4096) ∧ (1 ≤ (g' 6).toInt ∧ (g' 6).toInt ≤ 1500) ∧ (1 ≤ (g' 7).toInt ∧ (g' 7).toInt ≤ 1500)) (fun g' lg' ar' bk' => False) := by
  refine jx_meti (cc := cX12_property) (maxL := 4) (ret := (some .int)) rfl (by decide) rfl (Nat.le_of_ble_eq_true rfl) ?_
  intro p e s m args below meth c ls Q A hx hb hml hown hts hA hZ hw hl hQ kr kt
  have hq : ∀ w ∈ wwM, w.before args s = true := fun w h => hts w (List.mem_cons_of_mem _ h)
  have hl : lv_has ls 4 [(0, .ref (ad 0)), (1, .int y1), (2, .int y2)] := hl
  refine lv_aload_n hx hb dX12_property_0 rfl (lv_at hl 0 rfl) ?_
  refine lv_iconst (v := 0) hx hb dX12_property_1 (by decide) ?_
  refine jx_putg mw (cI := cI) (cJ := cJ) (ad := ad) (g := g) (lg := lg) (ar := ar) (bk := bk) (x := 0) 1 (ci := 15) (C := RX12) (T := TX12) (N := 92) (ty := .int) hx hb hts (fun _ h => List.mem_cons_of_mem _ (wwMc_wsX120 _ h)) tyX12 tyX12_ok nmX12 hown hw 0 rfl rfl 1 (by decide) (hq _ wM_103) rfl (by decide +kernel) rfl rfl (Nat.le_of_ble_eq_true rfl) dX12_property_2 rfl (fun H locs g1 h_g1 hw => ?_)
  refine lv_iload_n hx hb dX12_property_5 rfl (lv_at hl 1 rfl) ?_
  rcases hk_eqOr y1 0 with cc2 | cc2
  · refine lv_tableIn (tgt := 52) (off := 46) hx hb dX12_property_6 (by rw [cc2]; decide) (by rw [cc2]; decide) (by rw [cc2]; rfl) (by decide) ?_
    refine lv_iload_n hx hb dX12_property_52 rfl (lv_at hl 2 rfl) ?_
    refine lv_if_lt (tgt := 75) hx hb dX12_property_53 (by decide) (fun cc3 => ?_) (fun cc3 => ?_)
    · refine lv_iconst (v := 0) hx hb dX12_property_75 (by decide) ?_
      refine lv_istore_n (lv' := [(3, .int 0), (0, .ref (ad 0)), (1, .int y1), (2, .int y2)]) hx hb dX12_property_76 rfl hl (by decide) rfl (fun ls hl => ?_)
      refine lv_aload_n hx hb dX12_property_77 rfl (lv_at hl 1 rfl) ?_
      refine lv_iload_n hx hb dX12_property_78 rfl (lv_at hl 0 rfl) ?_
      refine lv_if_eq (tgt := 86) hx hb dX12_property_79 (by decide) (fun _ => ?_) (fun cc4 => absurd (by decide) cc4)
      refine lv_aload_n hx hb dX12_property_86 rfl (lv_at hl 1 rfl) ?_
      have e_g1_2 : g1 2 = (g 2) := (hk_upgN h_g1 2 rfl)
      refine hk_get (ci := 15) (C := RX12) (T := TX12) (N := 92) (v := .int (g 2)) hx hb hts (fun _ h => List.mem_cons_of_mem _ (wwMc_wsX120 _ h)) hown hw 0 rfl rfl 2 (by decide) (hq _ wM_428) (congrArg (fun z => some (Value.int z)) e_g1_2) dX12_property_87 ?_
      refine jx_putg mw (cI := cI) (cJ := cJ) (ad := ad) (g := g1) (lg := lg) (ar := ar) (bk := bk) (x := (g 2)) 2 (ci := 15) (C := RX12) (T := TX12) (N := 92) (ty := .int) hx hb hts (fun _ h => List.mem_cons_of_mem _ (wwMc_wsX120 _ h)) tyX12 tyX12_ok nmX12 hown hw 0 rfl rfl 2 (by decide) (hq _ wM_428) rfl (by decide +kernel) rfl rfl (Nat.le_of_ble_eq_true rfl) dX12_property_90 rfl (fun H locs g5 h_g5 hw => ?_)
      refine lv_goto (tgt := 381) hx hb dX12_property_93 (by decide) ?_
      refine lv_iload_n hx hb dX12_property_381 rfl (lv_at hl 0 rfl) ?_
      refine lv_if_eq (tgt := 389) hx hb dX12_property_382 (by decide) (fun _ => ?_) (fun cc6 => absurd (by decide) cc6)
      refine lv_iconst (v := 0) hx hb dX12_property_389 (by decide) ?_
      have e_g5_2 : g5 2 = (g 2) := (hk_upgS h_g5)
      have e_g5_3 : g5 3 = (g 3) := ((hk_upgN h_g5 3 rfl)).trans (hk_upgN h_g1 3 rfl)
      have e_g5_4 : g5 4 = (g 4) := ((hk_upgN h_g5 4 rfl)).trans (hk_upgN h_g1 4 rfl)
      have e_g5_5 : g5 5 = (g 5) := ((hk_upgN h_g5 5 rfl)).trans (hk_upgN h_g1 5 rfl)
      have e_g5_6 : g5 6 = (g 6) := ((hk_upgN h_g5 6 rfl)).trans (hk_upgN h_g1 6 rfl)
      have e_g5_7 : g5 7 = (g 7) := ((hk_upgN h_g5 7 rfl)).trans (hk_upgN h_g1 7 rfl)
      exact kr 0 g5 lg ar bk _ _ _ _ ⟨(hk_frG (hk_frG hk_fr0 (by decide) h_g1) (by decide) h_g5), rfl, rfl, rfl, (ov1 ((y1).toInt) ((y2).toInt) ((g 3).toInt) ((g 2).toInt) ((g 0).toInt) (((0 : Int32)).toInt) (hE_eq cc2) (hE_lt cc3) (by decide)), (ov2 ((y1).toInt) (((0 : Int32)).toInt) ((g5 2).toInt) ((y2).toInt) ((g 2).toInt) (congrArg Int32.toInt e_g5_2) (by decide)), (ov3 ((y1).toInt) (((0 : Int32)).toInt) ((g5 3).toInt) ((y2).toInt) ((g 3).toInt) (congrArg Int32.toInt e_g5_3) (by decide)), (ov4 ((g5 2).toInt) ((g 2).toInt) (congrArg Int32.toInt e_g5_2) hi_g2), (ov4 ((g5 3).toInt) ((g 3).toInt) (congrArg Int32.toInt e_g5_3) hi_g3), (ov5 ((g5 2).toInt) ((g5 3).toInt) ((g 2).toInt) ((g 3).toInt) (congrArg Int32.toInt e_g5_2) (congrArg Int32.toInt e_g5_3) hi_tlclp), (ov4 ((g5 4).toInt) ((g 4).toInt) (congrArg Int32.toInt e_g5_4) hi_g4), (ov6 ((g5 5).toInt) ((g 5).toInt) (congrArg Int32.toInt e_g5_5) hi_g5), (ov7 ((g5 6).toInt) ((g 6).toInt) (congrArg Int32.toInt e_g5_6) hi_g6), (ov7 ((g5 7).toInt) ((g 7).toInt) (congrArg Int32.toInt e_g5_7) hi_g7)⟩ hw dX12_property_390
    · refine lv_iload_n hx hb dX12_property_56 rfl (lv_at hl 2 rfl) ?_
      refine lv_iconst (v := 4) hx hb dX12_property_57 (by decide) ?_
      refine lv_icmp_gt (tgt := 75) hx hb dX12_property_58 (by decide) (fun cc7 => ?_) (fun cc7 => ?_)
      · refine lv_iconst (v := 0) hx hb dX12_property_75 (by decide) ?_
        refine lv_istore_n (lv' := [(3, .int 0), (0, .ref (ad 0)), (1, .int y1), (2, .int y2)]) hx hb dX12_property_76 rfl hl (by decide) rfl (fun ls hl => ?_)
        refine lv_aload_n hx hb dX12_property_77 rfl (lv_at hl 1 rfl) ?_
        refine lv_iload_n hx hb dX12_property_78 rfl (lv_at hl 0 rfl) ?_
        refine lv_if_eq (tgt := 86) hx hb dX12_property_79 (by decide) (fun _ => ?_) (fun cc8 => absurd (by decide) cc8)
        refine lv_aload_n hx hb dX12_property_86 rfl (lv_at hl 1 rfl) ?_
        have e_g1_2 : g1 2 = (g 2) := (hk_upgN h_g1 2 rfl)
        refine hk_get (ci := 15) (C := RX12) (T := TX12) (N := 92) (v := .int (g 2)) hx hb hts (fun _ h => List.mem_cons_of_mem _ (wwMc_wsX120 _ h)) hown hw 0 rfl rfl 2 (by decide) (hq _ wM_428) (congrArg (fun z => some (Value.int z)) e_g1_2) dX12_property_87 ?_
        refine jx_putg mw (cI := cI) (cJ := cJ) (ad := ad) (g := g1) (lg := lg) (ar := ar) (bk := bk) (x := (g 2)) 2 (ci := 15) (C := RX12) (T := TX12) (N := 92) (ty := .int) hx hb hts (fun _ h => List.mem_cons_of_mem _ (wwMc_wsX120 _ h)) tyX12 tyX12_ok nmX12 hown hw 0 rfl rfl 2 (by decide) (hq _ wM_428) rfl (by decide +kernel) rfl rfl (Nat.le_of_ble_eq_true rfl) dX12_property_90 rfl (fun H locs g9 h_g9 hw => ?_)
        refine lv_goto (tgt := 381) hx hb dX12_property_93 (by decide) ?_
        refine lv_iload_n hx hb dX12_property_381 rfl (lv_at hl 0 rfl) ?_
        refine lv_if_eq (tgt := 389) hx hb dX12_property_382 (by decide) (fun _ => ?_) (fun cc10 => absurd (by decide) cc10)
        refine lv_iconst (v := 0) hx hb dX12_property_389 (by decide) ?_
        have e_g9_2 : g9 2 = (g 2) := (hk_upgS h_g9)
        have e_g9_3 : g9 3 = (g 3) := ((hk_upgN h_g9 3 rfl)).trans (hk_upgN h_g1 3 rfl)
        have e_g9_4 : g9 4 = (g 4) := ((hk_upgN h_g9 4 rfl)).trans (hk_upgN h_g1 4 rfl)
        have e_g9_5 : g9 5 = (g 5) := ((hk_upgN h_g9 5 rfl)).trans (hk_upgN h_g1 5 rfl)
        have e_g9_6 : g9 6 = (g 6) := ((hk_upgN h_g9 6 rfl)).trans (hk_upgN h_g1 6 rfl)
        have e_g9_7 : g9 7 = (g 7) := ((hk_upgN h_g9 7 rfl)).trans (hk_upgN h_g1 7 rfl)
        exact kr 0 g9 lg ar bk _ _ _ _ ⟨(hk_frG (hk_frG hk_fr0 (by decide) h_g1) (by decide) h_g9), rfl, rfl, rfl, (ov8 ((y1).toInt) ((y2).toInt) ((g 3).toInt) ((g 2).toInt) ((g 0).toInt) (((0 : Int32)).toInt) (((4 : Int32)).toInt) hi_g2 hi_g3 (hE_eq cc2) (hE_lt cc7) (by decide) (by decide)), (ov2 ((y1).toInt) (((0 : Int32)).toInt) ((g9 2).toInt) ((y2).toInt) ((g 2).toInt) (congrArg Int32.toInt e_g9_2) (by decide)), (ov3 ((y1).toInt) (((0 : Int32)).toInt) ((g9 3).toInt) ((y2).toInt) ((g 3).toInt) (congrArg Int32.toInt e_g9_3) (by decide)), (ov4 ((g9 2).toInt) ((g 2).toInt) (congrArg Int32.toInt e_g9_2) hi_g2), (ov4 ((g9 3).toInt) ((g 3).toInt) (congrArg Int32.toInt e_g9_3) hi_g3), (ov5 ((g9 2).toInt) ((g9 3).toInt) ((g 2).toInt) ((g 3).toInt) (congrArg Int32.toInt e_g9_2) (congrArg Int32.toInt e_g9_3) hi_tlclp), (ov4 ((g9 4).toInt) ((g 4).toInt) (congrArg Int32.toInt e_g9_4) hi_g4), (ov6 ((g9 5).toInt) ((g 5).toInt) (congrArg Int32.toInt e_g9_5) hi_g5), (ov7 ((g9 6).toInt) ((g 6).toInt) (congrArg Int32.toInt e_g9_6) hi_g6), (ov7 ((g9 7).toInt) ((g 7).toInt) (congrArg Int32.toInt e_g9_7) hi_g7)⟩ hw dX12_property_390
      · refine lv_iload_n hx hb dX12_property_61 rfl (lv_at hl 2 rfl) ?_
        refine lv_aload_n hx hb dX12_property_62 rfl (lv_at hl 0 rfl) ?_
        have e_g1_3 : g1 3 = (g 3) := (hk_upgN h_g1 3 rfl)
        refine hk_get (ci := 15) (C := RX12) (T := TX12) (N := 92) (v := .int (g 3)) hx hb hts (fun _ h => List.mem_cons_of_mem _ (wwMc_wsX120 _ h)) hown hw 0 rfl rfl 3 (by decide) (hq _ wM_427) (congrArg (fun z => some (Value.int z)) e_g1_3) dX12_property_63 ?_
        refine lv_iadd hx hb dX12_property_66 (jx_nm fun z11 hz11 => ?_)
        have xz11 : (z11).toInt = (y2).toInt + (g 3).toInt := (hE_imp (hE_add hz11) (ov9 ((y2).toInt) ((g 3).toInt) (((0 : Int32)).toInt) (((4 : Int32)).toInt) hi_g3 (hE_nlt cc3) (hE_nlt cc7) (by decide) (by decide)))
        refine lv_iconst (v := 4) hx hb dX12_property_67 (by decide) ?_
        refine lv_icmp_gt (tgt := 75) hx hb dX12_property_68 (by decide) (fun cc12 => ?_) (fun cc12 => ?_)
        · refine lv_iconst (v := 0) hx hb dX12_property_75 (by decide) ?_
          refine lv_istore_n (lv' := [(3, .int 0), (0, .ref (ad 0)), (1, .int y1), (2, .int y2)]) hx hb dX12_property_76 rfl hl (by decide) rfl (fun ls hl => ?_)
          refine lv_aload_n hx hb dX12_property_77 rfl (lv_at hl 1 rfl) ?_
          refine lv_iload_n hx hb dX12_property_78 rfl (lv_at hl 0 rfl) ?_
          refine lv_if_eq (tgt := 86) hx hb dX12_property_79 (by decide) (fun _ => ?_) (fun cc13 => absurd (by decide) cc13)
          refine lv_aload_n hx hb dX12_property_86 rfl (lv_at hl 1 rfl) ?_
          have e_g1_2 : g1 2 = (g 2) := (hk_upgN h_g1 2 rfl)
          refine hk_get (ci := 15) (C := RX12) (T := TX12) (N := 92) (v := .int (g 2)) hx hb hts (fun _ h => List.mem_cons_of_mem _ (wwMc_wsX120 _ h)) hown hw 0 rfl rfl 2 (by decide) (hq _ wM_428) (congrArg (fun z => some (Value.int z)) e_g1_2) dX12_property_87 ?_
          refine jx_putg mw (cI := cI) (cJ := cJ) (ad := ad) (g := g1) (lg := lg) (ar := ar) (bk := bk) (x := (g 2)) 2 (ci := 15) (C := RX12) (T := TX12) (N := 92) (ty := .int) hx hb hts (fun _ h => List.mem_cons_of_mem _ (wwMc_wsX120 _ h)) tyX12 tyX12_ok nmX12 hown hw 0 rfl rfl 2 (by decide) (hq _ wM_428) rfl (by decide +kernel) rfl rfl (Nat.le_of_ble_eq_true rfl) dX12_property_90 rfl (fun H locs g14 h_g14 hw => ?_)
          refine lv_goto (tgt := 381) hx hb dX12_property_93 (by decide) ?_
          refine lv_iload_n hx hb dX12_property_381 rfl (lv_at hl 0 rfl) ?_
          refine lv_if_eq (tgt := 389) hx hb dX12_property_382 (by decide) (fun _ => ?_) (fun cc15 => absurd (by decide) cc15)
          refine lv_iconst (v := 0) hx hb dX12_property_389 (by decide) ?_
          have e_g14_2 : g14 2 = (g 2) := (hk_upgS h_g14)
          have e_g14_3 : g14 3 = (g 3) := ((hk_upgN h_g14 3 rfl)).trans e_g1_3
          have e_g14_4 : g14 4 = (g 4) := ((hk_upgN h_g14 4 rfl)).trans (hk_upgN h_g1 4 rfl)
          have e_g14_5 : g14 5 = (g 5) := ((hk_upgN h_g14 5 rfl)).trans (hk_upgN h_g1 5 rfl)
          have e_g14_6 : g14 6 = (g 6) := ((hk_upgN h_g14 6 rfl)).trans (hk_upgN h_g1 6 rfl)
          have e_g14_7 : g14 7 = (g 7) := ((hk_upgN h_g14 7 rfl)).trans (hk_upgN h_g1 7 rfl)
          exact kr 0 g14 lg ar bk _ _ _ _ ⟨(hk_frG (hk_frG hk_fr0 (by decide) h_g1) (by decide) h_g14), rfl, rfl, rfl, (ov10 ((y1).toInt) ((y2).toInt) ((g 3).toInt) ((g 2).toInt) ((g 0).toInt) (((0 : Int32)).toInt) ((z11).toInt) (((4 : Int32)).toInt) (hE_eq cc2) xz11 (hE_lt cc12) (by decide) (by decide)), (ov2 ((y1).toInt) (((0 : Int32)).toInt) ((g14 2).toInt) ((y2).toInt) ((g 2).toInt) (congrArg Int32.toInt e_g14_2) (by decide)), (ov3 ((y1).toInt) (((0 : Int32)).toInt) ((g14 3).toInt) ((y2).toInt) ((g 3).toInt) (congrArg Int32.toInt e_g14_3) (by decide)), (ov11 ((g14 2).toInt) ((g 2).toInt) ((g 3).toInt) ((z11).toInt) ((y2).toInt) (((4 : Int32)).toInt) (congrArg Int32.toInt e_g14_2) hi_g2 hi_tlclp xz11 (hE_nlt cc7) (hE_lt cc12)), (ov12 ((g14 3).toInt) ((g 3).toInt) ((z11).toInt) ((y2).toInt) (((4 : Int32)).toInt) (congrArg Int32.toInt e_g14_3) hi_g3 xz11 (hE_nlt cc7) (hE_lt cc12)), (ov5 ((g14 2).toInt) ((g14 3).toInt) ((g 2).toInt) ((g 3).toInt) (congrArg Int32.toInt e_g14_2) (congrArg Int32.toInt e_g14_3) hi_tlclp), (ov4 ((g14 4).toInt) ((g 4).toInt) (congrArg Int32.toInt e_g14_4) hi_g4), (ov6 ((g14 5).toInt) ((g 5).toInt) (congrArg Int32.toInt e_g14_5) hi_g5), (ov7 ((g14 6).toInt) ((g 6).toInt) (congrArg Int32.toInt e_g14_6) hi_g6), (ov7 ((g14 7).toInt) ((g 7).toInt) (congrArg Int32.toInt e_g14_7) hi_g7)⟩ hw dX12_property_390
        · refine lv_iconst (v := 1) hx hb dX12_property_71 (by decide) ?_
          refine lv_goto (tgt := 76) hx hb dX12_property_72 (by decide) ?_
          refine lv_istore_n (lv' := [(3, .int 1), (0, .ref (ad 0)), (1, .int y1), (2, .int y2)]) hx hb dX12_property_76 rfl hl (by decide) rfl (fun ls hl => ?_)
          refine lv_aload_n hx hb dX12_property_77 rfl (lv_at hl 1 rfl) ?_
          refine lv_iload_n hx hb dX12_property_78 rfl (lv_at hl 0 rfl) ?_
          refine lv_if_eq (tgt := 86) hx hb dX12_property_79 (by decide) (fun cc16 => absurd cc16 (by decide)) (fun _ => ?_)
          refine lv_iload_n hx hb dX12_property_82 rfl (lv_at hl 3 rfl) ?_
          refine lv_goto (tgt := 90) hx hb dX12_property_83 (by decide) ?_
          refine jx_putg mw (cI := cI) (cJ := cJ) (ad := ad) (g := g1) (lg := lg) (ar := ar) (bk := bk) (x := y2) 2 (ci := 15) (C := RX12) (T := TX12) (N := 92) (ty := .int) hx hb hts (fun _ h => List.mem_cons_of_mem _ (wwMc_wsX120 _ h)) tyX12 tyX12_ok nmX12 hown hw 0 rfl rfl 2 (by decide) (hq _ wM_428) rfl (by decide +kernel) rfl rfl (Nat.le_of_ble_eq_true rfl) dX12_property_90 rfl (fun H locs g17 h_g17 hw => ?_)
          refine lv_goto (tgt := 381) hx hb dX12_property_93 (by decide) ?_
          refine lv_iload_n hx hb dX12_property_381 rfl (lv_at hl 0 rfl) ?_
          refine lv_if_eq (tgt := 389) hx hb dX12_property_382 (by decide) (fun cc18 => absurd cc18 (by decide)) (fun _ => ?_)
          refine lv_iconst (v := 1) hx hb dX12_property_385 (by decide) ?_
          refine lv_goto (tgt := 390) hx hb dX12_property_386 (by decide) ?_
          have e_g17_2 : g17 2 = y2 := (hk_upgS h_g17)
          have e_g17_3 : g17 3 = (g 3) := ((hk_upgN h_g17 3 rfl)).trans e_g1_3
          have e_g17_4 : g17 4 = (g 4) := ((hk_upgN h_g17 4 rfl)).trans (hk_upgN h_g1 4 rfl)
          have e_g17_5 : g17 5 = (g 5) := ((hk_upgN h_g17 5 rfl)).trans (hk_upgN h_g1 5 rfl)
          have e_g17_6 : g17 6 = (g 6) := ((hk_upgN h_g17 6 rfl)).trans (hk_upgN h_g1 6 rfl)
          have e_g17_7 : g17 7 = (g 7) := ((hk_upgN h_g17 7 rfl)).trans (hk_upgN h_g1 7 rfl)
          exact kr 1 g17 lg ar bk _ _ _ _ ⟨(hk_frG (hk_frG hk_fr0 (by decide) h_g1) (by decide) h_g17), rfl, rfl, rfl, (ov13 ((y1).toInt) ((y2).toInt) ((g 3).toInt) ((g 2).toInt) ((g 0).toInt) (((1 : Int32)).toInt) (((0 : Int32)).toInt) ((z11).toInt) (((4 : Int32)).toInt) (hE_eq cc2) (hE_nlt cc3) xz11 (hE_nlt cc12) (by decide) (by decide) (by decide)), (ov14 ((y1).toInt) (((1 : Int32)).toInt) ((g17 2).toInt) ((y2).toInt) ((g 2).toInt) (((0 : Int32)).toInt) (hE_eq cc2) (congrArg Int32.toInt e_g17_2) (by decide) (by decide)), (ov15 ((y1).toInt) (((1 : Int32)).toInt) ((g17 3).toInt) ((y2).toInt) ((g 3).toInt) (((0 : Int32)).toInt) (hE_eq cc2) (congrArg Int32.toInt e_g17_3) (by decide)), (ov16 ((g17 2).toInt) ((y2).toInt) (((0 : Int32)).toInt) (((4 : Int32)).toInt) (congrArg Int32.toInt e_g17_2) (hE_nlt cc3) (hE_nlt cc7) (by decide) (by decide)), (ov4 ((g17 3).toInt) ((g 3).toInt) (congrArg Int32.toInt e_g17_3) hi_g3), (ov17 ((g17 2).toInt) ((g17 3).toInt) ((y2).toInt) ((g 3).toInt) ((z11).toInt) (((4 : Int32)).toInt) (congrArg Int32.toInt e_g17_2) (congrArg Int32.toInt e_g17_3) xz11 (hE_nlt cc12) (by decide)), (ov4 ((g17 4).toInt) ((g 4).toInt) (congrArg Int32.toInt e_g17_4) hi_g4), (ov6 ((g17 5).toInt) ((g 5).toInt) (congrArg Int32.toInt e_g17_5) hi_g5), (ov7 ((g17 6).toInt) ((g 6).toInt) (congrArg Int32.toInt e_g17_6) hi_g6), (ov7 ((g17 7).toInt) ((g 7).toInt) (congrArg Int32.toInt e_g17_7) hi_g7)⟩ hw dX12_property_390
  rcases hk_eqOr y1 1 with cc19 | cc19
  · refine lv_tableIn (tgt := 96) (off := 90) hx hb dX12_property_6 (by rw [cc19]; decide) (by rw [cc19]; decide) (by rw [cc19]; rfl) (by decide) ?_
    refine lv_iload_n hx hb dX12_property_96 rfl (lv_at hl 2 rfl) ?_
    refine lv_if_lt (tgt := 119) hx hb dX12_property_97 (by decide) (fun cc20 => ?_) (fun cc20 => ?_)
    · refine lv_iconst (v := 0) hx hb dX12_property_119 (by decide) ?_
      refine lv_istore_n (lv' := [(3, .int 0), (0, .ref (ad 0)), (1, .int y1), (2, .int y2)]) hx hb dX12_property_120 rfl hl (by decide) rfl (fun ls hl => ?_)
      refine lv_aload_n hx hb dX12_property_121 rfl (lv_at hl 1 rfl) ?_
      refine lv_iload_n hx hb dX12_property_122 rfl (lv_at hl 0 rfl) ?_
      refine lv_if_eq (tgt := 130) hx hb dX12_property_123 (by decide) (fun _ => ?_) (fun cc21 => absurd (by decide) cc21)
      refine lv_aload_n hx hb dX12_property_130 rfl (lv_at hl 1 rfl) ?_
      have e_g1_3 : g1 3 = (g 3) := (hk_upgN h_g1 3 rfl)
      refine hk_get (ci := 15) (C := RX12) (T := TX12) (N := 92) (v := .int (g 3)) hx hb hts (fun _ h => List.mem_cons_of_mem _ (wwMc_wsX120 _ h)) hown hw 0 rfl rfl 3 (by decide) (hq _ wM_427) (congrArg (fun z => some (Value.int z)) e_g1_3) dX12_property_131 ?_
      refine jx_putg mw (cI := cI) (cJ := cJ) (ad := ad) (g := g1) (lg := lg) (ar := ar) (bk := bk) (x := (g 3)) 3 (ci := 15) (C := RX12) (T := TX12) (N := 92) (ty := .int) hx hb hts (fun _ h => List.mem_cons_of_mem _ (wwMc_wsX120 _ h)) tyX12 tyX12_ok nmX12 hown hw 0 rfl rfl 3 (by decide) (hq _ wM_427) rfl (by decide +kernel) rfl rfl (Nat.le_of_ble_eq_true rfl) dX12_property_134 rfl (fun H locs g22 h_g22 hw => ?_)
      refine lv_goto (tgt := 381) hx hb dX12_property_137 (by decide) ?_
      refine lv_iload_n hx hb dX12_property_381 rfl (lv_at hl 0 rfl) ?_
      refine lv_if_eq (tgt := 389) hx hb dX12_property_382 (by decide) (fun _ => ?_) (fun cc23 => absurd (by decide) cc23)
      refine lv_iconst (v := 0) hx hb dX12_property_389 (by decide) ?_
      have e_g22_2 : g22 2 = (g 2) := ((hk_upgN h_g22 2 rfl)).trans (hk_upgN h_g1 2 rfl)
      have e_g22_3 : g22 3 = (g 3) := (hk_upgS h_g22)
      have e_g22_4 : g22 4 = (g 4) := ((hk_upgN h_g22 4 rfl)).trans (hk_upgN h_g1 4 rfl)
      have e_g22_5 : g22 5 = (g 5) := ((hk_upgN h_g22 5 rfl)).trans (hk_upgN h_g1 5 rfl)
      have e_g22_6 : g22 6 = (g 6) := ((hk_upgN h_g22 6 rfl)).trans (hk_upgN h_g1 6 rfl)
      have e_g22_7 : g22 7 = (g 7) := ((hk_upgN h_g22 7 rfl)).trans (hk_upgN h_g1 7 rfl)
      exact kr 0 g22 lg ar bk _ _ _ _ ⟨(hk_frG (hk_frG hk_fr0 (by decide) h_g1) (by decide) h_g22), rfl, rfl, rfl, (ov18 ((y1).toInt) ((y2).toInt) ((g 3).toInt) ((g 2).toInt) ((g 0).toInt) (((0 : Int32)).toInt) (((1 : Int32)).toInt) (hE_eq cc19) (hE_lt cc20) (by decide) (by decide)), (ov19 ((y1).toInt) (((0 : Int32)).toInt) ((g22 2).toInt) ((y2).toInt) ((g 2).toInt) (((1 : Int32)).toInt) (hE_eq cc19) (congrArg Int32.toInt e_g22_2) (by decide) (by decide)), (ov3 ((y1).toInt) (((0 : Int32)).toInt) ((g22 3).toInt) ((y2).toInt) ((g 3).toInt) (congrArg Int32.toInt e_g22_3) (by decide)), (ov4 ((g22 2).toInt) ((g 2).toInt) (congrArg Int32.toInt e_g22_2) hi_g2), (ov4 ((g22 3).toInt) ((g 3).toInt) (congrArg Int32.toInt e_g22_3) hi_g3), (ov5 ((g22 2).toInt) ((g22 3).toInt) ((g 2).toInt) ((g 3).toInt) (congrArg Int32.toInt e_g22_2) (congrArg Int32.toInt e_g22_3) hi_tlclp), (ov4 ((g22 4).toInt) ((g 4).toInt) (congrArg Int32.toInt e_g22_4) hi_g4), (ov6 ((g22 5).toInt) ((g 5).toInt) (congrArg Int32.toInt e_g22_5) hi_g5), (ov7 ((g22 6).toInt) ((g 6).toInt) (congrArg Int32.toInt e_g22_6) hi_g6), (ov7 ((g22 7).toInt) ((g 7).toInt) (congrArg Int32.toInt e_g22_7) hi_g7)⟩ hw dX12_property_390
    · refine lv_iload_n hx hb dX12_property_100 rfl (lv_at hl 2 rfl) ?_
      refine lv_iconst (v := 4) hx hb dX12_property_101 (by decide) ?_
      refine lv_icmp_gt (tgt := 119) hx hb dX12_property_102 (by decide) (fun cc24 => ?_) (fun cc24 => ?_)
      · refine lv_iconst (v := 0) hx hb dX12_property_119 (by decide) ?_
        refine lv_istore_n (lv' := [(3, .int 0), (0, .ref (ad 0)), (1, .int y1), (2, .int y2)]) hx hb dX12_property_120 rfl hl (by decide) rfl (fun ls hl => ?_)
        refine lv_aload_n hx hb dX12_property_121 rfl (lv_at hl 1 rfl) ?_
        refine lv_iload_n hx hb dX12_property_122 rfl (lv_at hl 0 rfl) ?_
        refine lv_if_eq (tgt := 130) hx hb dX12_property_123 (by decide) (fun _ => ?_) (fun cc25 => absurd (by decide) cc25)
        refine lv_aload_n hx hb dX12_property_130 rfl (lv_at hl 1 rfl) ?_
        have e_g1_3 : g1 3 = (g 3) := (hk_upgN h_g1 3 rfl)
        refine hk_get (ci := 15) (C := RX12) (T := TX12) (N := 92) (v := .int (g 3)) hx hb hts (fun _ h => List.mem_cons_of_mem _ (wwMc_wsX120 _ h)) hown hw 0 rfl rfl 3 (by decide) (hq _ wM_427) (congrArg (fun z => some (Value.int z)) e_g1_3) dX12_property_131 ?_
        refine jx_putg mw (cI := cI) (cJ := cJ) (ad := ad) (g := g1) (lg := lg) (ar := ar) (bk := bk) (x := (g 3)) 3 (ci := 15) (C := RX12) (T := TX12) (N := 92) (ty := .int) hx hb hts (fun _ h => List.mem_cons_of_mem _ (wwMc_wsX120 _ h)) tyX12 tyX12_ok nmX12 hown hw 0 rfl rfl 3 (by decide) (hq _ wM_427) rfl (by decide +kernel) rfl rfl (Nat.le_of_ble_eq_true rfl) dX12_property_134 rfl (fun H locs g26 h_g26 hw => ?_)
        refine lv_goto (tgt := 381) hx hb dX12_property_137 (by decide) ?_
        refine lv_iload_n hx hb dX12_property_381 rfl (lv_at hl 0 rfl) ?_
        refine lv_if_eq (tgt := 389) hx hb dX12_property_382 (by decide) (fun _ => ?_) (fun cc27 => absurd (by decide) cc27)
        refine lv_iconst (v := 0) hx hb dX12_property_389 (by decide) ?_
        have e_g26_2 : g26 2 = (g 2) := ((hk_upgN h_g26 2 rfl)).trans (hk_upgN h_g1 2 rfl)
        have e_g26_3 : g26 3 = (g 3) := (hk_upgS h_g26)
        have e_g26_4 : g26 4 = (g 4) := ((hk_upgN h_g26 4 rfl)).trans (hk_upgN h_g1 4 rfl)
        have e_g26_5 : g26 5 = (g 5) := ((hk_upgN h_g26 5 rfl)).trans (hk_upgN h_g1 5 rfl)
        have e_g26_6 : g26 6 = (g 6) := ((hk_upgN h_g26 6 rfl)).trans (hk_upgN h_g1 6 rfl)
        have e_g26_7 : g26 7 = (g 7) := ((hk_upgN h_g26 7 rfl)).trans (hk_upgN h_g1 7 rfl)
        exact kr 0 g26 lg ar bk _ _ _ _ ⟨(hk_frG (hk_frG hk_fr0 (by decide) h_g1) (by decide) h_g26), rfl, rfl, rfl, (ov20 ((y1).toInt) ((y2).toInt) ((g 3).toInt) ((g 2).toInt) ((g 0).toInt) (((0 : Int32)).toInt) (((1 : Int32)).toInt) (((4 : Int32)).toInt) hi_g2 hi_g3 (hE_eq cc19) (hE_lt cc24) (by decide) (by decide) (by decide)), (ov19 ((y1).toInt) (((0 : Int32)).toInt) ((g26 2).toInt) ((y2).toInt) ((g 2).toInt) (((1 : Int32)).toInt) (hE_eq cc19) (congrArg Int32.toInt e_g26_2) (by decide) (by decide)), (ov3 ((y1).toInt) (((0 : Int32)).toInt) ((g26 3).toInt) ((y2).toInt) ((g 3).toInt) (congrArg Int32.toInt e_g26_3) (by decide)), (ov4 ((g26 2).toInt) ((g 2).toInt) (congrArg Int32.toInt e_g26_2) hi_g2), (ov4 ((g26 3).toInt) ((g 3).toInt) (congrArg Int32.toInt e_g26_3) hi_g3), (ov5 ((g26 2).toInt) ((g26 3).toInt) ((g 2).toInt) ((g 3).toInt) (congrArg Int32.toInt e_g26_2) (congrArg Int32.toInt e_g26_3) hi_tlclp), (ov4 ((g26 4).toInt) ((g 4).toInt) (congrArg Int32.toInt e_g26_4) hi_g4), (ov6 ((g26 5).toInt) ((g 5).toInt) (congrArg Int32.toInt e_g26_5) hi_g5), (ov7 ((g26 6).toInt) ((g 6).toInt) (congrArg Int32.toInt e_g26_6) hi_g6), (ov7 ((g26 7).toInt) ((g 7).toInt) (congrArg Int32.toInt e_g26_7) hi_g7)⟩ hw dX12_property_390
      · refine lv_iload_n hx hb dX12_property_105 rfl (lv_at hl 2 rfl) ?_
        refine lv_aload_n hx hb dX12_property_106 rfl (lv_at hl 0 rfl) ?_
        have e_g1_2 : g1 2 = (g 2) := (hk_upgN h_g1 2 rfl)
        refine hk_get (ci := 15) (C := RX12) (T := TX12) (N := 92) (v := .int (g 2)) hx hb hts (fun _ h => List.mem_cons_of_mem _ (wwMc_wsX120 _ h)) hown hw 0 rfl rfl 2 (by decide) (hq _ wM_428) (congrArg (fun z => some (Value.int z)) e_g1_2) dX12_property_107 ?_
        refine lv_iadd hx hb dX12_property_110 (jx_nm fun z28 hz28 => ?_)
        have xz28 : (z28).toInt = (y2).toInt + (g 2).toInt := (hE_imp (hE_add hz28) (ov9 ((y2).toInt) ((g 2).toInt) (((0 : Int32)).toInt) (((4 : Int32)).toInt) hi_g2 (hE_nlt cc20) (hE_nlt cc24) (by decide) (by decide)))
        refine lv_iconst (v := 4) hx hb dX12_property_111 (by decide) ?_
        refine lv_icmp_gt (tgt := 119) hx hb dX12_property_112 (by decide) (fun cc29 => ?_) (fun cc29 => ?_)
        · refine lv_iconst (v := 0) hx hb dX12_property_119 (by decide) ?_
          refine lv_istore_n (lv' := [(3, .int 0), (0, .ref (ad 0)), (1, .int y1), (2, .int y2)]) hx hb dX12_property_120 rfl hl (by decide) rfl (fun ls hl => ?_)
          refine lv_aload_n hx hb dX12_property_121 rfl (lv_at hl 1 rfl) ?_
          refine lv_iload_n hx hb dX12_property_122 rfl (lv_at hl 0 rfl) ?_
          refine lv_if_eq (tgt := 130) hx hb dX12_property_123 (by decide) (fun _ => ?_) (fun cc30 => absurd (by decide) cc30)
          refine lv_aload_n hx hb dX12_property_130 rfl (lv_at hl 1 rfl) ?_
          have e_g1_3 : g1 3 = (g 3) := (hk_upgN h_g1 3 rfl)
          refine hk_get (ci := 15) (C := RX12) (T := TX12) (N := 92) (v := .int (g 3)) hx hb hts (fun _ h => List.mem_cons_of_mem _ (wwMc_wsX120 _ h)) hown hw 0 rfl rfl 3 (by decide) (hq _ wM_427) (congrArg (fun z => some (Value.int z)) e_g1_3) dX12_property_131 ?_
          refine jx_putg mw (cI := cI) (cJ := cJ) (ad := ad) (g := g1) (lg := lg) (ar := ar) (bk := bk) (x := (g 3)) 3 (ci := 15) (C := RX12) (T := TX12) (N := 92) (ty := .int) hx hb hts (fun _ h => List.mem_cons_of_mem _ (wwMc_wsX120 _ h)) tyX12 tyX12_ok nmX12 hown hw 0 rfl rfl 3 (by decide) (hq _ wM_427) rfl (by decide +kernel) rfl rfl (Nat.le_of_ble_eq_true rfl) dX12_property_134 rfl (fun H locs g31 h_g31 hw => ?_)
          refine lv_goto (tgt := 381) hx hb dX12_property_137 (by decide) ?_
          refine lv_iload_n hx hb dX12_property_381 rfl (lv_at hl 0 rfl) ?_
          refine lv_if_eq (tgt := 389) hx hb dX12_property_382 (by decide) (fun _ => ?_) (fun cc32 => absurd (by decide) cc32)
          refine lv_iconst (v := 0) hx hb dX12_property_389 (by decide) ?_
          have e_g31_2 : g31 2 = (g 2) := ((hk_upgN h_g31 2 rfl)).trans e_g1_2
          have e_g31_3 : g31 3 = (g 3) := (hk_upgS h_g31)
          have e_g31_4 : g31 4 = (g 4) := ((hk_upgN h_g31 4 rfl)).trans (hk_upgN h_g1 4 rfl)
          have e_g31_5 : g31 5 = (g 5) := ((hk_upgN h_g31 5 rfl)).trans (hk_upgN h_g1 5 rfl)
          have e_g31_6 : g31 6 = (g 6) := ((hk_upgN h_g31 6 rfl)).trans (hk_upgN h_g1 6 rfl)
          have e_g31_7 : g31 7 = (g 7) := ((hk_upgN h_g31 7 rfl)).trans (hk_upgN h_g1 7 rfl)
          exact kr 0 g31 lg ar bk _ _ _ _ ⟨(hk_frG (hk_frG hk_fr0 (by decide) h_g1) (by decide) h_g31), rfl, rfl, rfl, (ov21 ((y1).toInt) ((y2).toInt) ((g 3).toInt) ((g 2).toInt) ((g 0).toInt) (((0 : Int32)).toInt) (((1 : Int32)).toInt) ((z28).toInt) (((4 : Int32)).toInt) (hE_eq cc19) xz28 (hE_lt cc29) (by decide) (by decide) (by decide)), (ov19 ((y1).toInt) (((0 : Int32)).toInt) ((g31 2).toInt) ((y2).toInt) ((g 2).toInt) (((1 : Int32)).toInt) (hE_eq cc19) (congrArg Int32.toInt e_g31_2) (by decide) (by decide)), (ov3 ((y1).toInt) (((0 : Int32)).toInt) ((g31 3).toInt) ((y2).toInt) ((g 3).toInt) (congrArg Int32.toInt e_g31_3) (by decide)), (ov12 ((g31 2).toInt) ((g 2).toInt) ((z28).toInt) ((y2).toInt) (((4 : Int32)).toInt) (congrArg Int32.toInt e_g31_2) hi_g2 xz28 (hE_nlt cc24) (hE_lt cc29)), (ov22 ((g31 3).toInt) ((g 3).toInt) ((g 2).toInt) ((z28).toInt) ((y2).toInt) (((4 : Int32)).toInt) (congrArg Int32.toInt e_g31_3) hi_g3 hi_tlclp xz28 (hE_nlt cc24) (hE_lt cc29)), (ov5 ((g31 2).toInt) ((g31 3).toInt) ((g 2).toInt) ((g 3).toInt) (congrArg Int32.toInt e_g31_2) (congrArg Int32.toInt e_g31_3) hi_tlclp), (ov4 ((g31 4).toInt) ((g 4).toInt) (congrArg Int32.toInt e_g31_4) hi_g4), (ov6 ((g31 5).toInt) ((g 5).toInt) (congrArg Int32.toInt e_g31_5) hi_g5), (ov7 ((g31 6).toInt) ((g 6).toInt) (congrArg Int32.toInt e_g31_6) hi_g6), (ov7 ((g31 7).toInt) ((g 7).toInt) (congrArg Int32.toInt e_g31_7) hi_g7)⟩ hw dX12_property_390
        · refine lv_iconst (v := 1) hx hb dX12_property_115 (by decide) ?_
          refine lv_goto (tgt := 120) hx hb dX12_property_116 (by decide) ?_
          refine lv_istore_n (lv' := [(3, .int 1), (0, .ref (ad 0)), (1, .int y1), (2, .int y2)]) hx hb dX12_property_120 rfl hl (by decide) rfl (fun ls hl => ?_)
          refine lv_aload_n hx hb dX12_property_121 rfl (lv_at hl 1 rfl) ?_
          refine lv_iload_n hx hb dX12_property_122 rfl (lv_at hl 0 rfl) ?_
          refine lv_if_eq (tgt := 130) hx hb dX12_property_123 (by decide) (fun cc33 => absurd cc33 (by decide)) (fun _ => ?_)
          refine lv_iload_n hx hb dX12_property_126 rfl (lv_at hl 3 rfl) ?_
          refine lv_goto (tgt := 134) hx hb dX12_property_127 (by decide) ?_
          refine jx_putg mw (cI := cI) (cJ := cJ) (ad := ad) (g := g1) (lg := lg) (ar := ar) (bk := bk) (x := y2) 3 (ci := 15) (C := RX12) (T := TX12) (N := 92) (ty := .int) hx hb hts (fun _ h => List.mem_cons_of_mem _ (wwMc_wsX120 _ h)) tyX12 tyX12_ok nmX12 hown hw 0 rfl rfl 3 (by decide) (hq _ wM_427) rfl (by decide +kernel) rfl rfl (Nat.le_of_ble_eq_true rfl) dX12_property_134 rfl (fun H locs g34 h_g34 hw => ?_)
          refine lv_goto (tgt := 381) hx hb dX12_property_137 (by decide) ?_
          refine lv_iload_n hx hb dX12_property_381 rfl (lv_at hl 0 rfl) ?_
          refine lv_if_eq (tgt := 389) hx hb dX12_property_382 (by decide) (fun cc35 => absurd cc35 (by decide)) (fun _ => ?_)
          refine lv_iconst (v := 1) hx hb dX12_property_385 (by decide) ?_
          refine lv_goto (tgt := 390) hx hb dX12_property_386 (by decide) ?_
          have e_g34_2 : g34 2 = (g 2) := ((hk_upgN h_g34 2 rfl)).trans e_g1_2
          have e_g34_3 : g34 3 = y2 := (hk_upgS h_g34)
          have e_g34_4 : g34 4 = (g 4) := ((hk_upgN h_g34 4 rfl)).trans (hk_upgN h_g1 4 rfl)
          have e_g34_5 : g34 5 = (g 5) := ((hk_upgN h_g34 5 rfl)).trans (hk_upgN h_g1 5 rfl)
          have e_g34_6 : g34 6 = (g 6) := ((hk_upgN h_g34 6 rfl)).trans (hk_upgN h_g1 6 rfl)
          have e_g34_7 : g34 7 = (g 7) := ((hk_upgN h_g34 7 rfl)).trans (hk_upgN h_g1 7 rfl)
          exact kr 1 g34 lg ar bk _ _ _ _ ⟨(hk_frG (hk_frG hk_fr0 (by decide) h_g1) (by decide) h_g34), rfl, rfl, rfl, (ov23 ((y1).toInt) ((y2).toInt) ((g 3).toInt) ((g 2).toInt) ((g 0).toInt) (((1 : Int32)).toInt) (((0 : Int32)).toInt) ((z28).toInt) (((4 : Int32)).toInt) (hE_eq cc19) (hE_nlt cc20) xz28 (hE_nlt cc29) (by decide) (by decide) (by decide)), (ov24 ((y1).toInt) (((1 : Int32)).toInt) ((g34 2).toInt) ((y2).toInt) ((g 2).toInt) (hE_eq cc19) (congrArg Int32.toInt e_g34_2) (by decide)), (ov25 ((y1).toInt) (((1 : Int32)).toInt) ((g34 3).toInt) ((y2).toInt) ((g 3).toInt) (hE_eq cc19) (congrArg Int32.toInt e_g34_3) (by decide)), (ov4 ((g34 2).toInt) ((g 2).toInt) (congrArg Int32.toInt e_g34_2) hi_g2), (ov16 ((g34 3).toInt) ((y2).toInt) (((0 : Int32)).toInt) (((4 : Int32)).toInt) (congrArg Int32.toInt e_g34_3) (hE_nlt cc20) (hE_nlt cc24) (by decide) (by decide)), (ov26 ((g34 2).toInt) ((g34 3).toInt) ((g 2).toInt) ((y2).toInt) ((z28).toInt) (((4 : Int32)).toInt) (congrArg Int32.toInt e_g34_2) (congrArg Int32.toInt e_g34_3) xz28 (hE_nlt cc29) (by decide)), (ov4 ((g34 4).toInt) ((g 4).toInt) (congrArg Int32.toInt e_g34_4) hi_g4), (ov6 ((g34 5).toInt) ((g 5).toInt) (congrArg Int32.toInt e_g34_5) hi_g5), (ov7 ((g34 6).toInt) ((g 6).toInt) (congrArg Int32.toInt e_g34_6) hi_g6), (ov7 ((g34 7).toInt) ((g 7).toInt) (congrArg Int32.toInt e_g34_7) hi_g7)⟩ hw dX12_property_390
  rcases hk_eqOr y1 2 with cc36 | cc36
  · refine lv_tableIn (tgt := 140) (off := 134) hx hb dX12_property_6 (by rw [cc36]; decide) (by rw [cc36]; decide) (by rw [cc36]; rfl) (by decide) ?_
    refine lv_iload_n hx hb dX12_property_140 rfl (lv_at hl 2 rfl) ?_
    refine lv_if_lt (tgt := 153) hx hb dX12_property_141 (by decide) (fun cc37 => ?_) (fun cc37 => ?_)
    · refine lv_iconst (v := 0) hx hb dX12_property_153 (by decide) ?_
      refine lv_istore_n (lv' := [(3, .int 0), (0, .ref (ad 0)), (1, .int y1), (2, .int y2)]) hx hb dX12_property_154 rfl hl (by decide) rfl (fun ls hl => ?_)
      refine lv_aload_n hx hb dX12_property_155 rfl (lv_at hl 1 rfl) ?_
      refine lv_iload_n hx hb dX12_property_156 rfl (lv_at hl 0 rfl) ?_
      refine lv_if_eq (tgt := 164) hx hb dX12_property_157 (by decide) (fun _ => ?_) (fun cc38 => absurd (by decide) cc38)
      refine lv_aload_n hx hb dX12_property_164 rfl (lv_at hl 1 rfl) ?_
      have e_g1_4 : g1 4 = (g 4) := (hk_upgN h_g1 4 rfl)
      refine hk_get (ci := 15) (C := RX12) (T := TX12) (N := 92) (v := .int (g 4)) hx hb hts (fun _ h => List.mem_cons_of_mem _ (wwMc_wsX120 _ h)) hown hw 0 rfl rfl 4 (by decide) (hq _ wM_429) (congrArg (fun z => some (Value.int z)) e_g1_4) dX12_property_165 ?_
      refine jx_putg mw (cI := cI) (cJ := cJ) (ad := ad) (g := g1) (lg := lg) (ar := ar) (bk := bk) (x := (g 4)) 4 (ci := 15) (C := RX12) (T := TX12) (N := 92) (ty := .int) hx hb hts (fun _ h => List.mem_cons_of_mem _ (wwMc_wsX120 _ h)) tyX12 tyX12_ok nmX12 hown hw 0 rfl rfl 4 (by decide) (hq _ wM_429) rfl (by decide +kernel) rfl rfl (Nat.le_of_ble_eq_true rfl) dX12_property_168 rfl (fun H locs g39 h_g39 hw => ?_)
      refine lv_goto (tgt := 381) hx hb dX12_property_171 (by decide) ?_
      refine lv_iload_n hx hb dX12_property_381 rfl (lv_at hl 0 rfl) ?_
      refine lv_if_eq (tgt := 389) hx hb dX12_property_382 (by decide) (fun _ => ?_) (fun cc40 => absurd (by decide) cc40)
      refine lv_iconst (v := 0) hx hb dX12_property_389 (by decide) ?_
      have e_g39_2 : g39 2 = (g 2) := ((hk_upgN h_g39 2 rfl)).trans (hk_upgN h_g1 2 rfl)
      have e_g39_3 : g39 3 = (g 3) := ((hk_upgN h_g39 3 rfl)).trans (hk_upgN h_g1 3 rfl)
      have e_g39_4 : g39 4 = (g 4) := (hk_upgS h_g39)
      have e_g39_5 : g39 5 = (g 5) := ((hk_upgN h_g39 5 rfl)).trans (hk_upgN h_g1 5 rfl)
      have e_g39_6 : g39 6 = (g 6) := ((hk_upgN h_g39 6 rfl)).trans (hk_upgN h_g1 6 rfl)
      have e_g39_7 : g39 7 = (g 7) := ((hk_upgN h_g39 7 rfl)).trans (hk_upgN h_g1 7 rfl)
      exact kr 0 g39 lg ar bk _ _ _ _ ⟨(hk_frG (hk_frG hk_fr0 (by decide) h_g1) (by decide) h_g39), rfl, rfl, rfl, (ov27 ((y1).toInt) ((y2).toInt) ((g 3).toInt) ((g 2).toInt) ((g 0).toInt) (((0 : Int32)).toInt) (((2 : Int32)).toInt) (hE_eq cc36) (hE_lt cc37) (by decide) (by decide)), (ov28 ((y1).toInt) (((0 : Int32)).toInt) ((g39 2).toInt) ((y2).toInt) ((g 2).toInt) (((2 : Int32)).toInt) (hE_eq cc36) (congrArg Int32.toInt e_g39_2) (by decide) (by decide)), (ov29 ((y1).toInt) (((0 : Int32)).toInt) ((g39 3).toInt) ((y2).toInt) ((g 3).toInt) (((2 : Int32)).toInt) (hE_eq cc36) (congrArg Int32.toInt e_g39_3) (by decide) (by decide)), (ov4 ((g39 2).toInt) ((g 2).toInt) (congrArg Int32.toInt e_g39_2) hi_g2), (ov4 ((g39 3).toInt) ((g 3).toInt) (congrArg Int32.toInt e_g39_3) hi_g3), (ov5 ((g39 2).toInt) ((g39 3).toInt) ((g 2).toInt) ((g 3).toInt) (congrArg Int32.toInt e_g39_2) (congrArg Int32.toInt e_g39_3) hi_tlclp), (ov4 ((g39 4).toInt) ((g 4).toInt) (congrArg Int32.toInt e_g39_4) hi_g4), (ov6 ((g39 5).toInt) ((g 5).toInt) (congrArg Int32.toInt e_g39_5) hi_g5), (ov7 ((g39 6).toInt) ((g 6).toInt) (congrArg Int32.toInt e_g39_6) hi_g6), (ov7 ((g39 7).toInt) ((g 7).toInt) (congrArg Int32.toInt e_g39_7) hi_g7)⟩ hw dX12_property_390
    · refine lv_iload_n hx hb dX12_property_144 rfl (lv_at hl 2 rfl) ?_
      refine lv_iconst (v := 4) hx hb dX12_property_145 (by decide) ?_
      refine lv_icmp_gt (tgt := 153) hx hb dX12_property_146 (by decide) (fun cc41 => ?_) (fun cc41 => ?_)
      · refine lv_iconst (v := 0) hx hb dX12_property_153 (by decide) ?_
        refine lv_istore_n (lv' := [(3, .int 0), (0, .ref (ad 0)), (1, .int y1), (2, .int y2)]) hx hb dX12_property_154 rfl hl (by decide) rfl (fun ls hl => ?_)
        refine lv_aload_n hx hb dX12_property_155 rfl (lv_at hl 1 rfl) ?_
        refine lv_iload_n hx hb dX12_property_156 rfl (lv_at hl 0 rfl) ?_
        refine lv_if_eq (tgt := 164) hx hb dX12_property_157 (by decide) (fun _ => ?_) (fun cc42 => absurd (by decide) cc42)
        refine lv_aload_n hx hb dX12_property_164 rfl (lv_at hl 1 rfl) ?_
        have e_g1_4 : g1 4 = (g 4) := (hk_upgN h_g1 4 rfl)
        refine hk_get (ci := 15) (C := RX12) (T := TX12) (N := 92) (v := .int (g 4)) hx hb hts (fun _ h => List.mem_cons_of_mem _ (wwMc_wsX120 _ h)) hown hw 0 rfl rfl 4 (by decide) (hq _ wM_429) (congrArg (fun z => some (Value.int z)) e_g1_4) dX12_property_165 ?_
        refine jx_putg mw (cI := cI) (cJ := cJ) (ad := ad) (g := g1) (lg := lg) (ar := ar) (bk := bk) (x := (g 4)) 4 (ci := 15) (C := RX12) (T := TX12) (N := 92) (ty := .int) hx hb hts (fun _ h => List.mem_cons_of_mem _ (wwMc_wsX120 _ h)) tyX12 tyX12_ok nmX12 hown hw 0 rfl rfl 4 (by decide) (hq _ wM_429) rfl (by decide +kernel) rfl rfl (Nat.le_of_ble_eq_true rfl) dX12_property_168 rfl (fun H locs g43 h_g43 hw => ?_)
        refine lv_goto (tgt := 381) hx hb dX12_property_171 (by decide) ?_
        refine lv_iload_n hx hb dX12_property_381 rfl (lv_at hl 0 rfl) ?_
        refine lv_if_eq (tgt := 389) hx hb dX12_property_382 (by decide) (fun _ => ?_) (fun cc44 => absurd (by decide) cc44)
        refine lv_iconst (v := 0) hx hb dX12_property_389 (by decide) ?_
        have e_g43_2 : g43 2 = (g 2) := ((hk_upgN h_g43 2 rfl)).trans (hk_upgN h_g1 2 rfl)
        have e_g43_3 : g43 3 = (g 3) := ((hk_upgN h_g43 3 rfl)).trans (hk_upgN h_g1 3 rfl)
        have e_g43_4 : g43 4 = (g 4) := (hk_upgS h_g43)
        have e_g43_5 : g43 5 = (g 5) := ((hk_upgN h_g43 5 rfl)).trans (hk_upgN h_g1 5 rfl)
        have e_g43_6 : g43 6 = (g 6) := ((hk_upgN h_g43 6 rfl)).trans (hk_upgN h_g1 6 rfl)
        have e_g43_7 : g43 7 = (g 7) := ((hk_upgN h_g43 7 rfl)).trans (hk_upgN h_g1 7 rfl)
        exact kr 0 g43 lg ar bk _ _ _ _ ⟨(hk_frG (hk_frG hk_fr0 (by decide) h_g1) (by decide) h_g43), rfl, rfl, rfl, (ov30 ((y1).toInt) ((y2).toInt) ((g 3).toInt) ((g 2).toInt) ((g 0).toInt) (((0 : Int32)).toInt) (((2 : Int32)).toInt) (((4 : Int32)).toInt) hi_g2 hi_g3 (hE_eq cc36) (hE_lt cc41) (by decide) (by decide) (by decide)), (ov28 ((y1).toInt) (((0 : Int32)).toInt) ((g43 2).toInt) ((y2).toInt) ((g 2).toInt) (((2 : Int32)).toInt) (hE_eq cc36) (congrArg Int32.toInt e_g43_2) (by decide) (by decide)), (ov29 ((y1).toInt) (((0 : Int32)).toInt) ((g43 3).toInt) ((y2).toInt) ((g 3).toInt) (((2 : Int32)).toInt) (hE_eq cc36) (congrArg Int32.toInt e_g43_3) (by decide) (by decide)), (ov4 ((g43 2).toInt) ((g 2).toInt) (congrArg Int32.toInt e_g43_2) hi_g2), (ov4 ((g43 3).toInt) ((g 3).toInt) (congrArg Int32.toInt e_g43_3) hi_g3), (ov5 ((g43 2).toInt) ((g43 3).toInt) ((g 2).toInt) ((g 3).toInt) (congrArg Int32.toInt e_g43_2) (congrArg Int32.toInt e_g43_3) hi_tlclp), (ov4 ((g43 4).toInt) ((g 4).toInt) (congrArg Int32.toInt e_g43_4) hi_g4), (ov6 ((g43 5).toInt) ((g 5).toInt) (congrArg Int32.toInt e_g43_5) hi_g5), (ov7 ((g43 6).toInt) ((g 6).toInt) (congrArg Int32.toInt e_g43_6) hi_g6), (ov7 ((g43 7).toInt) ((g 7).toInt) (congrArg Int32.toInt e_g43_7) hi_g7)⟩ hw dX12_property_390
      · refine lv_iconst (v := 1) hx hb dX12_property_149 (by decide) ?_
        refine lv_goto (tgt := 154) hx hb dX12_property_150 (by decide) ?_
        refine lv_istore_n (lv' := [(3, .int 1), (0, .ref (ad 0)), (1, .int y1), (2, .int y2)]) hx hb dX12_property_154 rfl hl (by decide) rfl (fun ls hl => ?_)
        refine lv_aload_n hx hb dX12_property_155 rfl (lv_at hl 1 rfl) ?_
        refine lv_iload_n hx hb dX12_property_156 rfl (lv_at hl 0 rfl) ?_
        refine lv_if_eq (tgt := 164) hx hb dX12_property_157 (by decide) (fun cc45 => absurd cc45 (by decide)) (fun _ => ?_)
        refine lv_iload_n hx hb dX12_property_160 rfl (lv_at hl 3 rfl) ?_
        refine lv_goto (tgt := 168) hx hb dX12_property_161 (by decide) ?_
        refine jx_putg mw (cI := cI) (cJ := cJ) (ad := ad) (g := g1) (lg := lg) (ar := ar) (bk := bk) (x := y2) 4 (ci := 15) (C := RX12) (T := TX12) (N := 92) (ty := .int) hx hb hts (fun _ h => List.mem_cons_of_mem _ (wwMc_wsX120 _ h)) tyX12 tyX12_ok nmX12 hown hw 0 rfl rfl 4 (by decide) (hq _ wM_429) rfl (by decide +kernel) rfl rfl (Nat.le_of_ble_eq_true rfl) dX12_property_168 rfl (fun H locs g46 h_g46 hw => ?_)
        refine lv_goto (tgt := 381) hx hb dX12_property_171 (by decide) ?_
        refine lv_iload_n hx hb dX12_property_381 rfl (lv_at hl 0 rfl) ?_
        refine lv_if_eq (tgt := 389) hx hb dX12_property_382 (by decide) (fun cc47 => absurd cc47 (by decide)) (fun _ => ?_)
        refine lv_iconst (v := 1) hx hb dX12_property_385 (by decide) ?_
        refine lv_goto (tgt := 390) hx hb dX12_property_386 (by decide) ?_
        have e_g46_2 : g46 2 = (g 2) := ((hk_upgN h_g46 2 rfl)).trans (hk_upgN h_g1 2 rfl)
        have e_g46_3 : g46 3 = (g 3) := ((hk_upgN h_g46 3 rfl)).trans (hk_upgN h_g1 3 rfl)
        have e_g46_4 : g46 4 = y2 := (hk_upgS h_g46)
        have e_g46_5 : g46 5 = (g 5) := ((hk_upgN h_g46 5 rfl)).trans (hk_upgN h_g1 5 rfl)
        have e_g46_6 : g46 6 = (g 6) := ((hk_upgN h_g46 6 rfl)).trans (hk_upgN h_g1 6 rfl)
        have e_g46_7 : g46 7 = (g 7) := ((hk_upgN h_g46 7 rfl)).trans (hk_upgN h_g1 7 rfl)
        exact kr 1 g46 lg ar bk _ _ _ _ ⟨(hk_frG (hk_frG hk_fr0 (by decide) h_g1) (by decide) h_g46), rfl, rfl, rfl, (ov31 ((y1).toInt) ((y2).toInt) ((g 3).toInt) ((g 2).toInt) ((g 0).toInt) (((1 : Int32)).toInt) (((2 : Int32)).toInt) (((0 : Int32)).toInt) (((4 : Int32)).toInt) (hE_eq cc36) (hE_nlt cc37) (hE_nlt cc41) (by decide) (by decide) (by decide) (by decide)), (ov32 ((y1).toInt) (((1 : Int32)).toInt) ((g46 2).toInt) ((y2).toInt) ((g 2).toInt) (((2 : Int32)).toInt) (hE_eq cc36) (congrArg Int32.toInt e_g46_2) (by decide)), (ov33 ((y1).toInt) (((1 : Int32)).toInt) ((g46 3).toInt) ((y2).toInt) ((g 3).toInt) (((2 : Int32)).toInt) (hE_eq cc36) (congrArg Int32.toInt e_g46_3) (by decide)), (ov4 ((g46 2).toInt) ((g 2).toInt) (congrArg Int32.toInt e_g46_2) hi_g2), (ov4 ((g46 3).toInt) ((g 3).toInt) (congrArg Int32.toInt e_g46_3) hi_g3), (ov5 ((g46 2).toInt) ((g46 3).toInt) ((g 2).toInt) ((g 3).toInt) (congrArg Int32.toInt e_g46_2) (congrArg Int32.toInt e_g46_3) hi_tlclp), (ov16 ((g46 4).toInt) ((y2).toInt) (((0 : Int32)).toInt) (((4 : Int32)).toInt) (congrArg Int32.toInt e_g46_4) (hE_nlt cc37) (hE_nlt cc41) (by decide) (by decide)), (ov6 ((g46 5).toInt) ((g 5).toInt) (congrArg Int32.toInt e_g46_5) hi_g5), (ov7 ((g46 6).toInt) ((g 6).toInt) (congrArg Int32.toInt e_g46_6) hi_g6), (ov7 ((g46 7).toInt) ((g 7).toInt) (congrArg Int32.toInt e_g46_7) hi_g7)⟩ hw dX12_property_390
  rcases hk_eqOr y1 3 with cc48 | cc48
  · refine lv_tableIn (tgt := 174) (off := 168) hx hb dX12_property_6 (by rw [cc48]; decide) (by rw [cc48]; decide) (by rw [cc48]; rfl) (by decide) ?_
    refine lv_iload_n hx hb dX12_property_174 rfl (lv_at hl 2 rfl) ?_
    refine lv_iconst (v := 1) hx hb dX12_property_175 (by decide) ?_
    refine lv_icmp_lt (tgt := 205) hx hb dX12_property_176 (by decide) (fun cc49 => ?_) (fun cc49 => ?_)
    · refine lv_iconst (v := 0) hx hb dX12_property_205 (by decide) ?_
      refine lv_istore_n (lv' := [(3, .int 0), (0, .ref (ad 0)), (1, .int y1), (2, .int y2)]) hx hb dX12_property_206 rfl hl (by decide) rfl (fun ls hl => ?_)
      refine lv_aload_n hx hb dX12_property_207 rfl (lv_at hl 1 rfl) ?_
      refine lv_iload_n hx hb dX12_property_208 rfl (lv_at hl 0 rfl) ?_
      refine lv_if_eq (tgt := 216) hx hb dX12_property_209 (by decide) (fun _ => ?_) (fun cc50 => absurd (by decide) cc50)
      refine lv_aload_n hx hb dX12_property_216 rfl (lv_at hl 1 rfl) ?_
      have e_g1_5 : g1 5 = (g 5) := (hk_upgN h_g1 5 rfl)
      refine hk_get (ci := 15) (C := RX12) (T := TX12) (N := 92) (v := .int (g 5)) hx hb hts (fun _ h => List.mem_cons_of_mem _ (wwMc_wsX120 _ h)) hown hw 0 rfl rfl 5 (by decide) (hq _ wM_206) (congrArg (fun z => some (Value.int z)) e_g1_5) dX12_property_217 ?_
      refine jx_putg mw (cI := cI) (cJ := cJ) (ad := ad) (g := g1) (lg := lg) (ar := ar) (bk := bk) (x := (g 5)) 5 (ci := 15) (C := RX12) (T := TX12) (N := 92) (ty := .int) hx hb hts (fun _ h => List.mem_cons_of_mem _ (wwMc_wsX120 _ h)) tyX12 tyX12_ok nmX12 hown hw 0 rfl rfl 5 (by decide) (hq _ wM_206) rfl (by decide +kernel) rfl rfl (Nat.le_of_ble_eq_true rfl) dX12_property_220 rfl (fun H locs g51 h_g51 hw => ?_)
      refine lv_goto (tgt := 381) hx hb dX12_property_223 (by decide) ?_
      refine lv_iload_n hx hb dX12_property_381 rfl (lv_at hl 0 rfl) ?_
      refine lv_if_eq (tgt := 389) hx hb dX12_property_382 (by decide) (fun _ => ?_) (fun cc52 => absurd (by decide) cc52)
      refine lv_iconst (v := 0) hx hb dX12_property_389 (by decide) ?_
      have e_g51_2 : g51 2 = (g 2) := ((hk_upgN h_g51 2 rfl)).trans (hk_upgN h_g1 2 rfl)
      have e_g51_3 : g51 3 = (g 3) := ((hk_upgN h_g51 3 rfl)).trans (hk_upgN h_g1 3 rfl)
      have e_g51_4 : g51 4 = (g 4) := ((hk_upgN h_g51 4 rfl)).trans (hk_upgN h_g1 4 rfl)
      have e_g51_5 : g51 5 = (g 5) := (hk_upgS h_g51)
      have e_g51_6 : g51 6 = (g 6) := ((hk_upgN h_g51 6 rfl)).trans (hk_upgN h_g1 6 rfl)
      have e_g51_7 : g51 7 = (g 7) := ((hk_upgN h_g51 7 rfl)).trans (hk_upgN h_g1 7 rfl)
      exact kr 0 g51 lg ar bk _ _ _ _ ⟨(hk_frG (hk_frG hk_fr0 (by decide) h_g1) (by decide) h_g51), rfl, rfl, rfl, (ov34 ((y1).toInt) ((y2).toInt) ((g 3).toInt) ((g 2).toInt) ((g 0).toInt) (((0 : Int32)).toInt) (((3 : Int32)).toInt) (((1 : Int32)).toInt) (hE_eq cc48) (hE_lt cc49) (by decide) (by decide) (by decide)), (ov35 ((y1).toInt) (((0 : Int32)).toInt) ((g51 2).toInt) ((y2).toInt) ((g 2).toInt) (((3 : Int32)).toInt) (hE_eq cc48) (congrArg Int32.toInt e_g51_2) (by decide) (by decide)), (ov36 ((y1).toInt) (((0 : Int32)).toInt) ((g51 3).toInt) ((y2).toInt) ((g 3).toInt) (((3 : Int32)).toInt) (hE_eq cc48) (congrArg Int32.toInt e_g51_3) (by decide) (by decide)), (ov4 ((g51 2).toInt) ((g 2).toInt) (congrArg Int32.toInt e_g51_2) hi_g2), (ov4 ((g51 3).toInt) ((g 3).toInt) (congrArg Int32.toInt e_g51_3) hi_g3), (ov5 ((g51 2).toInt) ((g51 3).toInt) ((g 2).toInt) ((g 3).toInt) (congrArg Int32.toInt e_g51_2) (congrArg Int32.toInt e_g51_3) hi_tlclp), (ov4 ((g51 4).toInt) ((g 4).toInt) (congrArg Int32.toInt e_g51_4) hi_g4), (ov6 ((g51 5).toInt) ((g 5).toInt) (congrArg Int32.toInt e_g51_5) hi_g5), (ov7 ((g51 6).toInt) ((g 6).toInt) (congrArg Int32.toInt e_g51_6) hi_g6), (ov7 ((g51 7).toInt) ((g 7).toInt) (congrArg Int32.toInt e_g51_7) hi_g7)⟩ hw dX12_property_390
    · refine lv_iload_n hx hb dX12_property_179 rfl (lv_at hl 2 rfl) ?_
      refine lv_sipush (v := 4096) hx hb dX12_property_180 (by decide) ?_
      refine lv_icmp_gt (tgt := 205) hx hb dX12_property_183 (by decide) (fun cc53 => ?_) (fun cc53 => ?_)
      · refine lv_iconst (v := 0) hx hb dX12_property_205 (by decide) ?_
        refine lv_istore_n (lv' := [(3, .int 0), (0, .ref (ad 0)), (1, .int y1), (2, .int y2)]) hx hb dX12_property_206 rfl hl (by decide) rfl (fun ls hl => ?_)
        refine lv_aload_n hx hb dX12_property_207 rfl (lv_at hl 1 rfl) ?_
        refine lv_iload_n hx hb dX12_property_208 rfl (lv_at hl 0 rfl) ?_
        refine lv_if_eq (tgt := 216) hx hb dX12_property_209 (by decide) (fun _ => ?_) (fun cc54 => absurd (by decide) cc54)
        refine lv_aload_n hx hb dX12_property_216 rfl (lv_at hl 1 rfl) ?_
        have e_g1_5 : g1 5 = (g 5) := (hk_upgN h_g1 5 rfl)
        refine hk_get (ci := 15) (C := RX12) (T := TX12) (N := 92) (v := .int (g 5)) hx hb hts (fun _ h => List.mem_cons_of_mem _ (wwMc_wsX120 _ h)) hown hw 0 rfl rfl 5 (by decide) (hq _ wM_206) (congrArg (fun z => some (Value.int z)) e_g1_5) dX12_property_217 ?_
        refine jx_putg mw (cI := cI) (cJ := cJ) (ad := ad) (g := g1) (lg := lg) (ar := ar) (bk := bk) (x := (g 5)) 5 (ci := 15) (C := RX12) (T := TX12) (N := 92) (ty := .int) hx hb hts (fun _ h => List.mem_cons_of_mem _ (wwMc_wsX120 _ h)) tyX12 tyX12_ok nmX12 hown hw 0 rfl rfl 5 (by decide) (hq _ wM_206) rfl (by decide +kernel) rfl rfl (Nat.le_of_ble_eq_true rfl) dX12_property_220 rfl (fun H locs g55 h_g55 hw => ?_)
        refine lv_goto (tgt := 381) hx hb dX12_property_223 (by decide) ?_
        refine lv_iload_n hx hb dX12_property_381 rfl (lv_at hl 0 rfl) ?_
        refine lv_if_eq (tgt := 389) hx hb dX12_property_382 (by decide) (fun _ => ?_) (fun cc56 => absurd (by decide) cc56)
        refine lv_iconst (v := 0) hx hb dX12_property_389 (by decide) ?_
        have e_g55_2 : g55 2 = (g 2) := ((hk_upgN h_g55 2 rfl)).trans (hk_upgN h_g1 2 rfl)
        have e_g55_3 : g55 3 = (g 3) := ((hk_upgN h_g55 3 rfl)).trans (hk_upgN h_g1 3 rfl)
        have e_g55_4 : g55 4 = (g 4) := ((hk_upgN h_g55 4 rfl)).trans (hk_upgN h_g1 4 rfl)
        have e_g55_5 : g55 5 = (g 5) := (hk_upgS h_g55)
        have e_g55_6 : g55 6 = (g 6) := ((hk_upgN h_g55 6 rfl)).trans (hk_upgN h_g1 6 rfl)
        have e_g55_7 : g55 7 = (g 7) := ((hk_upgN h_g55 7 rfl)).trans (hk_upgN h_g1 7 rfl)
        exact kr 0 g55 lg ar bk _ _ _ _ ⟨(hk_frG (hk_frG hk_fr0 (by decide) h_g1) (by decide) h_g55), rfl, rfl, rfl, (ov37 ((y1).toInt) ((y2).toInt) ((g 3).toInt) ((g 2).toInt) ((g 0).toInt) (((0 : Int32)).toInt) (((3 : Int32)).toInt) (((4096 : Int32)).toInt) hi_g2 hi_g3 (hE_eq cc48) (hE_lt cc53) (by decide) (by decide) (by decide)), (ov35 ((y1).toInt) (((0 : Int32)).toInt) ((g55 2).toInt) ((y2).toInt) ((g 2).toInt) (((3 : Int32)).toInt) (hE_eq cc48) (congrArg Int32.toInt e_g55_2) (by decide) (by decide)), (ov36 ((y1).toInt) (((0 : Int32)).toInt) ((g55 3).toInt) ((y2).toInt) ((g 3).toInt) (((3 : Int32)).toInt) (hE_eq cc48) (congrArg Int32.toInt e_g55_3) (by decide) (by decide)), (ov4 ((g55 2).toInt) ((g 2).toInt) (congrArg Int32.toInt e_g55_2) hi_g2), (ov4 ((g55 3).toInt) ((g 3).toInt) (congrArg Int32.toInt e_g55_3) hi_g3), (ov5 ((g55 2).toInt) ((g55 3).toInt) ((g 2).toInt) ((g 3).toInt) (congrArg Int32.toInt e_g55_2) (congrArg Int32.toInt e_g55_3) hi_tlclp), (ov4 ((g55 4).toInt) ((g 4).toInt) (congrArg Int32.toInt e_g55_4) hi_g4), (ov6 ((g55 5).toInt) ((g 5).toInt) (congrArg Int32.toInt e_g55_5) hi_g5), (ov7 ((g55 6).toInt) ((g 6).toInt) (congrArg Int32.toInt e_g55_6) hi_g6), (ov7 ((g55 7).toInt) ((g 7).toInt) (congrArg Int32.toInt e_g55_7) hi_g7)⟩ hw dX12_property_390
      · refine lv_aload_n hx hb dX12_property_186 rfl (lv_at hl 0 rfl) ?_
        have e_g1_0 : g1 0 = (g 0) := (hk_upgN h_g1 0 rfl)
        refine hk_get (ci := 15) (C := RX12) (T := TX12) (N := 92) (v := .int (g 0)) hx hb hts (fun _ h => List.mem_cons_of_mem _ (wwMc_wsX120 _ h)) hown hw 0 rfl rfl 0 (by decide) (hq _ wM_260) (congrArg (fun z => some (Value.int z)) e_g1_0) dX12_property_187 ?_
        refine lv_iconst (v := 2) hx hb dX12_property_190 (by decide) ?_
        refine lv_icmp_ne (tgt := 201) hx hb dX12_property_191 (by decide) (fun cc57 => ?_) (fun cc57 => ?_)
        · refine lv_iconst (v := 1) hx hb dX12_property_201 (by decide) ?_
          refine lv_goto (tgt := 206) hx hb dX12_property_202 (by decide) ?_
          refine lv_istore_n (lv' := [(3, .int 1), (0, .ref (ad 0)), (1, .int y1), (2, .int y2)]) hx hb dX12_property_206 rfl hl (by decide) rfl (fun ls hl => ?_)
          refine lv_aload_n hx hb dX12_property_207 rfl (lv_at hl 1 rfl) ?_
          refine lv_iload_n hx hb dX12_property_208 rfl (lv_at hl 0 rfl) ?_
          refine lv_if_eq (tgt := 216) hx hb dX12_property_209 (by decide) (fun cc58 => absurd cc58 (by decide)) (fun _ => ?_)
          refine lv_iload_n hx hb dX12_property_212 rfl (lv_at hl 3 rfl) ?_
          refine lv_goto (tgt := 220) hx hb dX12_property_213 (by decide) ?_
          refine jx_putg mw (cI := cI) (cJ := cJ) (ad := ad) (g := g1) (lg := lg) (ar := ar) (bk := bk) (x := y2) 5 (ci := 15) (C := RX12) (T := TX12) (N := 92) (ty := .int) hx hb hts (fun _ h => List.mem_cons_of_mem _ (wwMc_wsX120 _ h)) tyX12 tyX12_ok nmX12 hown hw 0 rfl rfl 5 (by decide) (hq _ wM_206) rfl (by decide +kernel) rfl rfl (Nat.le_of_ble_eq_true rfl) dX12_property_220 rfl (fun H locs g59 h_g59 hw => ?_)
          refine lv_goto (tgt := 381) hx hb dX12_property_223 (by decide) ?_
          refine lv_iload_n hx hb dX12_property_381 rfl (lv_at hl 0 rfl) ?_
          refine lv_if_eq (tgt := 389) hx hb dX12_property_382 (by decide) (fun cc60 => absurd cc60 (by decide)) (fun _ => ?_)
          refine lv_iconst (v := 1) hx hb dX12_property_385 (by decide) ?_
          refine lv_goto (tgt := 390) hx hb dX12_property_386 (by decide) ?_
          have e_g59_2 : g59 2 = (g 2) := ((hk_upgN h_g59 2 rfl)).trans (hk_upgN h_g1 2 rfl)
          have e_g59_3 : g59 3 = (g 3) := ((hk_upgN h_g59 3 rfl)).trans (hk_upgN h_g1 3 rfl)
          have e_g59_4 : g59 4 = (g 4) := ((hk_upgN h_g59 4 rfl)).trans (hk_upgN h_g1 4 rfl)
          have e_g59_5 : g59 5 = y2 := (hk_upgS h_g59)
          have e_g59_6 : g59 6 = (g 6) := ((hk_upgN h_g59 6 rfl)).trans (hk_upgN h_g1 6 rfl)
          have e_g59_7 : g59 7 = (g 7) := ((hk_upgN h_g59 7 rfl)).trans (hk_upgN h_g1 7 rfl)
          exact kr 1 g59 lg ar bk _ _ _ _ ⟨(hk_frG (hk_frG hk_fr0 (by decide) h_g1) (by decide) h_g59), rfl, rfl, rfl, (ov38 ((y1).toInt) ((y2).toInt) ((g 3).toInt) ((g 2).toInt) ((g 0).toInt) (((1 : Int32)).toInt) (((3 : Int32)).toInt) (((4096 : Int32)).toInt) (((2 : Int32)).toInt) (hE_eq cc48) (hE_nlt cc49) (hE_nlt cc53) (hE_ne cc57) (by decide) (by decide) (by decide) (by decide)), (ov39 ((y1).toInt) (((1 : Int32)).toInt) ((g59 2).toInt) ((y2).toInt) ((g 2).toInt) (((3 : Int32)).toInt) (hE_eq cc48) (congrArg Int32.toInt e_g59_2) (by decide)), (ov40 ((y1).toInt) (((1 : Int32)).toInt) ((g59 3).toInt) ((y2).toInt) ((g 3).toInt) (((3 : Int32)).toInt) (hE_eq cc48) (congrArg Int32.toInt e_g59_3) (by decide)), (ov4 ((g59 2).toInt) ((g 2).toInt) (congrArg Int32.toInt e_g59_2) hi_g2), (ov4 ((g59 3).toInt) ((g 3).toInt) (congrArg Int32.toInt e_g59_3) hi_g3), (ov5 ((g59 2).toInt) ((g59 3).toInt) ((g 2).toInt) ((g 3).toInt) (congrArg Int32.toInt e_g59_2) (congrArg Int32.toInt e_g59_3) hi_tlclp), (ov4 ((g59 4).toInt) ((g 4).toInt) (congrArg Int32.toInt e_g59_4) hi_g4), (ov41 ((g59 5).toInt) ((y2).toInt) (((1 : Int32)).toInt) (((4096 : Int32)).toInt) (congrArg Int32.toInt e_g59_5) (hE_nlt cc49) (hE_nlt cc53) (by decide) (by decide)), (ov7 ((g59 6).toInt) ((g 6).toInt) (congrArg Int32.toInt e_g59_6) hi_g6), (ov7 ((g59 7).toInt) ((g 7).toInt) (congrArg Int32.toInt e_g59_7) hi_g7)⟩ hw dX12_property_390
        · refine lv_iload_n hx hb dX12_property_194 rfl (lv_at hl 2 rfl) ?_
          refine lv_sipush (v := 4096) hx hb dX12_property_195 (by decide) ?_
          refine lv_icmp_ne (tgt := 205) hx hb dX12_property_198 (by decide) (fun cc61 => ?_) (fun cc61 => ?_)
          · refine lv_iconst (v := 0) hx hb dX12_property_205 (by decide) ?_
            refine lv_istore_n (lv' := [(3, .int 0), (0, .ref (ad 0)), (1, .int y1), (2, .int y2)]) hx hb dX12_property_206 rfl hl (by decide) rfl (fun ls hl => ?_)
            refine lv_aload_n hx hb dX12_property_207 rfl (lv_at hl 1 rfl) ?_
            refine lv_iload_n hx hb dX12_property_208 rfl (lv_at hl 0 rfl) ?_
            refine lv_if_eq (tgt := 216) hx hb dX12_property_209 (by decide) (fun _ => ?_) (fun cc62 => absurd (by decide) cc62)
            refine lv_aload_n hx hb dX12_property_216 rfl (lv_at hl 1 rfl) ?_
            have e_g1_5 : g1 5 = (g 5) := (hk_upgN h_g1 5 rfl)
            refine hk_get (ci := 15) (C := RX12) (T := TX12) (N := 92) (v := .int (g 5)) hx hb hts (fun _ h => List.mem_cons_of_mem _ (wwMc_wsX120 _ h)) hown hw 0 rfl rfl 5 (by decide) (hq _ wM_206) (congrArg (fun z => some (Value.int z)) e_g1_5) dX12_property_217 ?_
            refine jx_putg mw (cI := cI) (cJ := cJ) (ad := ad) (g := g1) (lg := lg) (ar := ar) (bk := bk) (x := (g 5)) 5 (ci := 15) (C := RX12) (T := TX12) (N := 92) (ty := .int) hx hb hts (fun _ h => List.mem_cons_of_mem _ (wwMc_wsX120 _ h)) tyX12 tyX12_ok nmX12 hown hw 0 rfl rfl 5 (by decide) (hq _ wM_206) rfl (by decide +kernel) rfl rfl (Nat.le_of_ble_eq_true rfl) dX12_property_220 rfl (fun H locs g63 h_g63 hw => ?_)
            refine lv_goto (tgt := 381) hx hb dX12_property_223 (by decide) ?_
            refine lv_iload_n hx hb dX12_property_381 rfl (lv_at hl 0 rfl) ?_
            refine lv_if_eq (tgt := 389) hx hb dX12_property_382 (by decide) (fun _ => ?_) (fun cc64 => absurd (by decide) cc64)
            refine lv_iconst (v := 0) hx hb dX12_property_389 (by decide) ?_
            have e_g63_2 : g63 2 = (g 2) := ((hk_upgN h_g63 2 rfl)).trans (hk_upgN h_g1 2 rfl)
            have e_g63_3 : g63 3 = (g 3) := ((hk_upgN h_g63 3 rfl)).trans (hk_upgN h_g1 3 rfl)
            have e_g63_4 : g63 4 = (g 4) := ((hk_upgN h_g63 4 rfl)).trans (hk_upgN h_g1 4 rfl)
            have e_g63_5 : g63 5 = (g 5) := (hk_upgS h_g63)
            have e_g63_6 : g63 6 = (g 6) := ((hk_upgN h_g63 6 rfl)).trans (hk_upgN h_g1 6 rfl)
            have e_g63_7 : g63 7 = (g 7) := ((hk_upgN h_g63 7 rfl)).trans (hk_upgN h_g1 7 rfl)
            exact kr 0 g63 lg ar bk _ _ _ _ ⟨(hk_frG (hk_frG hk_fr0 (by decide) h_g1) (by decide) h_g63), rfl, rfl, rfl, (ov42 ((y1).toInt) ((y2).toInt) ((g 3).toInt) ((g 2).toInt) ((g 0).toInt) (((0 : Int32)).toInt) (((3 : Int32)).toInt) (((4096 : Int32)).toInt) (((2 : Int32)).toInt) (hE_eq cc48) (hE_nlt cc53) (hE_eq cc57) (hE_ne cc61) (by decide) (by decide) (by decide) (by decide)), (ov35 ((y1).toInt) (((0 : Int32)).toInt) ((g63 2).toInt) ((y2).toInt) ((g 2).toInt) (((3 : Int32)).toInt) (hE_eq cc48) (congrArg Int32.toInt e_g63_2) (by decide) (by decide)), (ov36 ((y1).toInt) (((0 : Int32)).toInt) ((g63 3).toInt) ((y2).toInt) ((g 3).toInt) (((3 : Int32)).toInt) (hE_eq cc48) (congrArg Int32.toInt e_g63_3) (by decide) (by decide)), (ov4 ((g63 2).toInt) ((g 2).toInt) (congrArg Int32.toInt e_g63_2) hi_g2), (ov4 ((g63 3).toInt) ((g 3).toInt) (congrArg Int32.toInt e_g63_3) hi_g3), (ov5 ((g63 2).toInt) ((g63 3).toInt) ((g 2).toInt) ((g 3).toInt) (congrArg Int32.toInt e_g63_2) (congrArg Int32.toInt e_g63_3) hi_tlclp), (ov4 ((g63 4).toInt) ((g 4).toInt) (congrArg Int32.toInt e_g63_4) hi_g4), (ov6 ((g63 5).toInt) ((g 5).toInt) (congrArg Int32.toInt e_g63_5) hi_g5), (ov7 ((g63 6).toInt) ((g 6).toInt) (congrArg Int32.toInt e_g63_6) hi_g6), (ov7 ((g63 7).toInt) ((g 7).toInt) (congrArg Int32.toInt e_g63_7) hi_g7)⟩ hw dX12_property_390
          · refine lv_iconst (v := 1) hx hb dX12_property_201 (by decide) ?_
            refine lv_goto (tgt := 206) hx hb dX12_property_202 (by decide) ?_
            refine lv_istore_n (lv' := [(3, .int 1), (0, .ref (ad 0)), (1, .int y1), (2, .int y2)]) hx hb dX12_property_206 rfl hl (by decide) rfl (fun ls hl => ?_)
            refine lv_aload_n hx hb dX12_property_207 rfl (lv_at hl 1 rfl) ?_
            refine lv_iload_n hx hb dX12_property_208 rfl (lv_at hl 0 rfl) ?_
            refine lv_if_eq (tgt := 216) hx hb dX12_property_209 (by decide) (fun cc65 => absurd cc65 (by decide)) (fun _ => ?_)
            refine lv_iload_n hx hb dX12_property_212 rfl (lv_at hl 3 rfl) ?_
            refine lv_goto (tgt := 220) hx hb dX12_property_213 (by decide) ?_
            refine jx_putg mw (cI := cI) (cJ := cJ) (ad := ad) (g := g1) (lg := lg) (ar := ar) (bk := bk) (x := y2) 5 (ci := 15) (C := RX12) (T := TX12) (N := 92) (ty := .int) hx hb hts (fun _ h => List.mem_cons_of_mem _ (wwMc_wsX120 _ h)) tyX12 tyX12_ok nmX12 hown hw 0 rfl rfl 5 (by decide) (hq _ wM_206) rfl (by decide +kernel) rfl rfl (Nat.le_of_ble_eq_true rfl) dX12_property_220 rfl (fun H locs g66 h_g66 hw => ?_)
            refine lv_goto (tgt := 381) hx hb dX12_property_223 (by decide) ?_
            refine lv_iload_n hx hb dX12_property_381 rfl (lv_at hl 0 rfl) ?_
            refine lv_if_eq (tgt := 389) hx hb dX12_property_382 (by decide) (fun cc67 => absurd cc67 (by decide)) (fun _ => ?_)
            refine lv_iconst (v := 1) hx hb dX12_property_385 (by decide) ?_
            refine lv_goto (tgt := 390) hx hb dX12_property_386 (by decide) ?_
            have e_g66_2 : g66 2 = (g 2) := ((hk_upgN h_g66 2 rfl)).trans (hk_upgN h_g1 2 rfl)
            have e_g66_3 : g66 3 = (g 3) := ((hk_upgN h_g66 3 rfl)).trans (hk_upgN h_g1 3 rfl)
            have e_g66_4 : g66 4 = (g 4) := ((hk_upgN h_g66 4 rfl)).trans (hk_upgN h_g1 4 rfl)
            have e_g66_5 : g66 5 = y2 := (hk_upgS h_g66)
            have e_g66_6 : g66 6 = (g 6) := ((hk_upgN h_g66 6 rfl)).trans (hk_upgN h_g1 6 rfl)
            have e_g66_7 : g66 7 = (g 7) := ((hk_upgN h_g66 7 rfl)).trans (hk_upgN h_g1 7 rfl)
            exact kr 1 g66 lg ar bk _ _ _ _ ⟨(hk_frG (hk_frG hk_fr0 (by decide) h_g1) (by decide) h_g66), rfl, rfl, rfl, (ov43 ((y1).toInt) ((y2).toInt) ((g 3).toInt) ((g 2).toInt) ((g 0).toInt) (((1 : Int32)).toInt) (((3 : Int32)).toInt) (((4096 : Int32)).toInt) (hE_eq cc48) (hE_nlt cc53) (hE_eq cc61) (by decide) (by decide) (by decide)), (ov39 ((y1).toInt) (((1 : Int32)).toInt) ((g66 2).toInt) ((y2).toInt) ((g 2).toInt) (((3 : Int32)).toInt) (hE_eq cc48) (congrArg Int32.toInt e_g66_2) (by decide)), (ov40 ((y1).toInt) (((1 : Int32)).toInt) ((g66 3).toInt) ((y2).toInt) ((g 3).toInt) (((3 : Int32)).toInt) (hE_eq cc48) (congrArg Int32.toInt e_g66_3) (by decide)), (ov4 ((g66 2).toInt) ((g 2).toInt) (congrArg Int32.toInt e_g66_2) hi_g2), (ov4 ((g66 3).toInt) ((g 3).toInt) (congrArg Int32.toInt e_g66_3) hi_g3), (ov5 ((g66 2).toInt) ((g66 3).toInt) ((g 2).toInt) ((g 3).toInt) (congrArg Int32.toInt e_g66_2) (congrArg Int32.toInt e_g66_3) hi_tlclp), (ov4 ((g66 4).toInt) ((g 4).toInt) (congrArg Int32.toInt e_g66_4) hi_g4), (ov44 ((g66 5).toInt) ((y2).toInt) (((4096 : Int32)).toInt) (congrArg Int32.toInt e_g66_5) (hE_nlt cc53) (hE_eq cc61) (by decide)), (ov7 ((g66 6).toInt) ((g 6).toInt) (congrArg Int32.toInt e_g66_6) hi_g6), (ov7 ((g66 7).toInt) ((g 7).toInt) (congrArg Int32.toInt e_g66_7) hi_g7)⟩ hw dX12_property_390
  rcases hk_eqOr y1 4 with cc68 | cc68
  · refine lv_tableIn (tgt := 226) (off := 220) hx hb dX12_property_6 (by rw [cc68]; decide) (by rw [cc68]; decide) (by rw [cc68]; rfl) (by decide) ?_
    refine lv_iload_n hx hb dX12_property_226 rfl (lv_at hl 2 rfl) ?_
    refine lv_iconst (v := 1) hx hb dX12_property_227 (by decide) ?_
    refine lv_icmp_lt (tgt := 242) hx hb dX12_property_228 (by decide) (fun cc69 => ?_) (fun cc69 => ?_)
    · refine lv_iconst (v := 0) hx hb dX12_property_242 (by decide) ?_
      refine lv_istore_n (lv' := [(3, .int 0), (0, .ref (ad 0)), (1, .int y1), (2, .int y2)]) hx hb dX12_property_243 rfl hl (by decide) rfl (fun ls hl => ?_)
      refine lv_aload_n hx hb dX12_property_244 rfl (lv_at hl 1 rfl) ?_
      refine lv_iload_n hx hb dX12_property_245 rfl (lv_at hl 0 rfl) ?_
      refine lv_if_eq (tgt := 253) hx hb dX12_property_246 (by decide) (fun _ => ?_) (fun cc70 => absurd (by decide) cc70)
      refine lv_aload_n hx hb dX12_property_253 rfl (lv_at hl 1 rfl) ?_
      have e_g1_6 : g1 6 = (g 6) := (hk_upgN h_g1 6 rfl)
      refine hk_get (ci := 15) (C := RX12) (T := TX12) (N := 92) (v := .int (g 6)) hx hb hts (fun _ h => List.mem_cons_of_mem _ (wwMc_wsX120 _ h)) hown hw 0 rfl rfl 6 (by decide) (hq _ wM_391) (congrArg (fun z => some (Value.int z)) e_g1_6) dX12_property_254 ?_
      refine jx_putg mw (cI := cI) (cJ := cJ) (ad := ad) (g := g1) (lg := lg) (ar := ar) (bk := bk) (x := (g 6)) 6 (ci := 15) (C := RX12) (T := TX12) (N := 92) (ty := .int) hx hb hts (fun _ h => List.mem_cons_of_mem _ (wwMc_wsX120 _ h)) tyX12 tyX12_ok nmX12 hown hw 0 rfl rfl 6 (by decide) (hq _ wM_391) rfl (by decide +kernel) rfl rfl (Nat.le_of_ble_eq_true rfl) dX12_property_257 rfl (fun H locs g71 h_g71 hw => ?_)
      refine lv_goto (tgt := 381) hx hb dX12_property_260 (by decide) ?_
      refine lv_iload_n hx hb dX12_property_381 rfl (lv_at hl 0 rfl) ?_
      refine lv_if_eq (tgt := 389) hx hb dX12_property_382 (by decide) (fun _ => ?_) (fun cc72 => absurd (by decide) cc72)
      refine lv_iconst (v := 0) hx hb dX12_property_389 (by decide) ?_
      have e_g71_2 : g71 2 = (g 2) := ((hk_upgN h_g71 2 rfl)).trans (hk_upgN h_g1 2 rfl)
      have e_g71_3 : g71 3 = (g 3) := ((hk_upgN h_g71 3 rfl)).trans (hk_upgN h_g1 3 rfl)
      have e_g71_4 : g71 4 = (g 4) := ((hk_upgN h_g71 4 rfl)).trans (hk_upgN h_g1 4 rfl)
      have e_g71_5 : g71 5 = (g 5) := ((hk_upgN h_g71 5 rfl)).trans (hk_upgN h_g1 5 rfl)
      have e_g71_6 : g71 6 = (g 6) := (hk_upgS h_g71)
      have e_g71_7 : g71 7 = (g 7) := ((hk_upgN h_g71 7 rfl)).trans (hk_upgN h_g1 7 rfl)
      exact kr 0 g71 lg ar bk _ _ _ _ ⟨(hk_frG (hk_frG hk_fr0 (by decide) h_g1) (by decide) h_g71), rfl, rfl, rfl, (ov45 ((y1).toInt) ((y2).toInt) ((g 3).toInt) ((g 2).toInt) ((g 0).toInt) (((0 : Int32)).toInt) (((4 : Int32)).toInt) (((1 : Int32)).toInt) (hE_eq cc68) (hE_lt cc69) (by decide) (by decide) (by decide)), (ov46 ((y1).toInt) (((0 : Int32)).toInt) ((g71 2).toInt) ((y2).toInt) ((g 2).toInt) (((4 : Int32)).toInt) (hE_eq cc68) (congrArg Int32.toInt e_g71_2) (by decide) (by decide)), (ov47 ((y1).toInt) (((0 : Int32)).toInt) ((g71 3).toInt) ((y2).toInt) ((g 3).toInt) (((4 : Int32)).toInt) (hE_eq cc68) (congrArg Int32.toInt e_g71_3) (by decide) (by decide)), (ov4 ((g71 2).toInt) ((g 2).toInt) (congrArg Int32.toInt e_g71_2) hi_g2), (ov4 ((g71 3).toInt) ((g 3).toInt) (congrArg Int32.toInt e_g71_3) hi_g3), (ov5 ((g71 2).toInt) ((g71 3).toInt) ((g 2).toInt) ((g 3).toInt) (congrArg Int32.toInt e_g71_2) (congrArg Int32.toInt e_g71_3) hi_tlclp), (ov4 ((g71 4).toInt) ((g 4).toInt) (congrArg Int32.toInt e_g71_4) hi_g4), (ov6 ((g71 5).toInt) ((g 5).toInt) (congrArg Int32.toInt e_g71_5) hi_g5), (ov7 ((g71 6).toInt) ((g 6).toInt) (congrArg Int32.toInt e_g71_6) hi_g6), (ov7 ((g71 7).toInt) ((g 7).toInt) (congrArg Int32.toInt e_g71_7) hi_g7)⟩ hw dX12_property_390
    · refine lv_iload_n hx hb dX12_property_231 rfl (lv_at hl 2 rfl) ?_
      refine lv_sipush (v := 1500) hx hb dX12_property_232 (by decide) ?_
      refine lv_icmp_gt (tgt := 242) hx hb dX12_property_235 (by decide) (fun cc73 => ?_) (fun cc73 => ?_)
      · refine lv_iconst (v := 0) hx hb dX12_property_242 (by decide) ?_
        refine lv_istore_n (lv' := [(3, .int 0), (0, .ref (ad 0)), (1, .int y1), (2, .int y2)]) hx hb dX12_property_243 rfl hl (by decide) rfl (fun ls hl => ?_)
        refine lv_aload_n hx hb dX12_property_244 rfl (lv_at hl 1 rfl) ?_
        refine lv_iload_n hx hb dX12_property_245 rfl (lv_at hl 0 rfl) ?_
        refine lv_if_eq (tgt := 253) hx hb dX12_property_246 (by decide) (fun _ => ?_) (fun cc74 => absurd (by decide) cc74)
        refine lv_aload_n hx hb dX12_property_253 rfl (lv_at hl 1 rfl) ?_
        have e_g1_6 : g1 6 = (g 6) := (hk_upgN h_g1 6 rfl)
        refine hk_get (ci := 15) (C := RX12) (T := TX12) (N := 92) (v := .int (g 6)) hx hb hts (fun _ h => List.mem_cons_of_mem _ (wwMc_wsX120 _ h)) hown hw 0 rfl rfl 6 (by decide) (hq _ wM_391) (congrArg (fun z => some (Value.int z)) e_g1_6) dX12_property_254 ?_
        refine jx_putg mw (cI := cI) (cJ := cJ) (ad := ad) (g := g1) (lg := lg) (ar := ar) (bk := bk) (x := (g 6)) 6 (ci := 15) (C := RX12) (T := TX12) (N := 92) (ty := .int) hx hb hts (fun _ h => List.mem_cons_of_mem _ (wwMc_wsX120 _ h)) tyX12 tyX12_ok nmX12 hown hw 0 rfl rfl 6 (by decide) (hq _ wM_391) rfl (by decide +kernel) rfl rfl (Nat.le_of_ble_eq_true rfl) dX12_property_257 rfl (fun H locs g75 h_g75 hw => ?_)
        refine lv_goto (tgt := 381) hx hb dX12_property_260 (by decide) ?_
        refine lv_iload_n hx hb dX12_property_381 rfl (lv_at hl 0 rfl) ?_
        refine lv_if_eq (tgt := 389) hx hb dX12_property_382 (by decide) (fun _ => ?_) (fun cc76 => absurd (by decide) cc76)
        refine lv_iconst (v := 0) hx hb dX12_property_389 (by decide) ?_
        have e_g75_2 : g75 2 = (g 2) := ((hk_upgN h_g75 2 rfl)).trans (hk_upgN h_g1 2 rfl)
        have e_g75_3 : g75 3 = (g 3) := ((hk_upgN h_g75 3 rfl)).trans (hk_upgN h_g1 3 rfl)
        have e_g75_4 : g75 4 = (g 4) := ((hk_upgN h_g75 4 rfl)).trans (hk_upgN h_g1 4 rfl)
        have e_g75_5 : g75 5 = (g 5) := ((hk_upgN h_g75 5 rfl)).trans (hk_upgN h_g1 5 rfl)
        have e_g75_6 : g75 6 = (g 6) := (hk_upgS h_g75)
        have e_g75_7 : g75 7 = (g 7) := ((hk_upgN h_g75 7 rfl)).trans (hk_upgN h_g1 7 rfl)
        exact kr 0 g75 lg ar bk _ _ _ _ ⟨(hk_frG (hk_frG hk_fr0 (by decide) h_g1) (by decide) h_g75), rfl, rfl, rfl, (ov48 ((y1).toInt) ((y2).toInt) ((g 3).toInt) ((g 2).toInt) ((g 0).toInt) (((0 : Int32)).toInt) (((4 : Int32)).toInt) (((1500 : Int32)).toInt) hi_g2 hi_g3 (hE_eq cc68) (hE_lt cc73) (by decide) (by decide) (by decide)), (ov46 ((y1).toInt) (((0 : Int32)).toInt) ((g75 2).toInt) ((y2).toInt) ((g 2).toInt) (((4 : Int32)).toInt) (hE_eq cc68) (congrArg Int32.toInt e_g75_2) (by decide) (by decide)), (ov47 ((y1).toInt) (((0 : Int32)).toInt) ((g75 3).toInt) ((y2).toInt) ((g 3).toInt) (((4 : Int32)).toInt) (hE_eq cc68) (congrArg Int32.toInt e_g75_3) (by decide) (by decide)), (ov4 ((g75 2).toInt) ((g 2).toInt) (congrArg Int32.toInt e_g75_2) hi_g2), (ov4 ((g75 3).toInt) ((g 3).toInt) (congrArg Int32.toInt e_g75_3) hi_g3), (ov5 ((g75 2).toInt) ((g75 3).toInt) ((g 2).toInt) ((g 3).toInt) (congrArg Int32.toInt e_g75_2) (congrArg Int32.toInt e_g75_3) hi_tlclp), (ov4 ((g75 4).toInt) ((g 4).toInt) (congrArg Int32.toInt e_g75_4) hi_g4), (ov6 ((g75 5).toInt) ((g 5).toInt) (congrArg Int32.toInt e_g75_5) hi_g5), (ov7 ((g75 6).toInt) ((g 6).toInt) (congrArg Int32.toInt e_g75_6) hi_g6), (ov7 ((g75 7).toInt) ((g 7).toInt) (congrArg Int32.toInt e_g75_7) hi_g7)⟩ hw dX12_property_390
      · refine lv_iconst (v := 1) hx hb dX12_property_238 (by decide) ?_
        refine lv_goto (tgt := 243) hx hb dX12_property_239 (by decide) ?_
        refine lv_istore_n (lv' := [(3, .int 1), (0, .ref (ad 0)), (1, .int y1), (2, .int y2)]) hx hb dX12_property_243 rfl hl (by decide) rfl (fun ls hl => ?_)
        refine lv_aload_n hx hb dX12_property_244 rfl (lv_at hl 1 rfl) ?_
        refine lv_iload_n hx hb dX12_property_245 rfl (lv_at hl 0 rfl) ?_
        refine lv_if_eq (tgt := 253) hx hb dX12_property_246 (by decide) (fun cc77 => absurd cc77 (by decide)) (fun _ => ?_)
        refine lv_iload_n hx hb dX12_property_249 rfl (lv_at hl 3 rfl) ?_
        refine lv_goto (tgt := 257) hx hb dX12_property_250 (by decide) ?_
        refine jx_putg mw (cI := cI) (cJ := cJ) (ad := ad) (g := g1) (lg := lg) (ar := ar) (bk := bk) (x := y2) 6 (ci := 15) (C := RX12) (T := TX12) (N := 92) (ty := .int) hx hb hts (fun _ h => List.mem_cons_of_mem _ (wwMc_wsX120 _ h)) tyX12 tyX12_ok nmX12 hown hw 0 rfl rfl 6 (by decide) (hq _ wM_391) rfl (by decide +kernel) rfl rfl (Nat.le_of_ble_eq_true rfl) dX12_property_257 rfl (fun H locs g78 h_g78 hw => ?_)
        refine lv_goto (tgt := 381) hx hb dX12_property_260 (by decide) ?_
        refine lv_iload_n hx hb dX12_property_381 rfl (lv_at hl 0 rfl) ?_
        refine lv_if_eq (tgt := 389) hx hb dX12_property_382 (by decide) (fun cc79 => absurd cc79 (by decide)) (fun _ => ?_)
        refine lv_iconst (v := 1) hx hb dX12_property_385 (by decide) ?_
        refine lv_goto (tgt := 390) hx hb dX12_property_386 (by decide) ?_
        have e_g78_2 : g78 2 = (g 2) := ((hk_upgN h_g78 2 rfl)).trans (hk_upgN h_g1 2 rfl)
        have e_g78_3 : g78 3 = (g 3) := ((hk_upgN h_g78 3 rfl)).trans (hk_upgN h_g1 3 rfl)
        have e_g78_4 : g78 4 = (g 4) := ((hk_upgN h_g78 4 rfl)).trans (hk_upgN h_g1 4 rfl)
        have e_g78_5 : g78 5 = (g 5) := ((hk_upgN h_g78 5 rfl)).trans (hk_upgN h_g1 5 rfl)
        have e_g78_6 : g78 6 = y2 := (hk_upgS h_g78)
        have e_g78_7 : g78 7 = (g 7) := ((hk_upgN h_g78 7 rfl)).trans (hk_upgN h_g1 7 rfl)
        exact kr 1 g78 lg ar bk _ _ _ _ ⟨(hk_frG (hk_frG hk_fr0 (by decide) h_g1) (by decide) h_g78), rfl, rfl, rfl, (ov49 ((y1).toInt) ((y2).toInt) ((g 3).toInt) ((g 2).toInt) ((g 0).toInt) (((1 : Int32)).toInt) (((4 : Int32)).toInt) (((1500 : Int32)).toInt) (hE_eq cc68) (hE_nlt cc69) (hE_nlt cc73) (by decide) (by decide) (by decide)), (ov50 ((y1).toInt) (((1 : Int32)).toInt) ((g78 2).toInt) ((y2).toInt) ((g 2).toInt) (((4 : Int32)).toInt) (hE_eq cc68) (congrArg Int32.toInt e_g78_2) (by decide)), (ov51 ((y1).toInt) (((1 : Int32)).toInt) ((g78 3).toInt) ((y2).toInt) ((g 3).toInt) (((4 : Int32)).toInt) (hE_eq cc68) (congrArg Int32.toInt e_g78_3) (by decide)), (ov4 ((g78 2).toInt) ((g 2).toInt) (congrArg Int32.toInt e_g78_2) hi_g2), (ov4 ((g78 3).toInt) ((g 3).toInt) (congrArg Int32.toInt e_g78_3) hi_g3), (ov5 ((g78 2).toInt) ((g78 3).toInt) ((g 2).toInt) ((g 3).toInt) (congrArg Int32.toInt e_g78_2) (congrArg Int32.toInt e_g78_3) hi_tlclp), (ov4 ((g78 4).toInt) ((g 4).toInt) (congrArg Int32.toInt e_g78_4) hi_g4), (ov6 ((g78 5).toInt) ((g 5).toInt) (congrArg Int32.toInt e_g78_5) hi_g5), (ov52 ((g78 6).toInt) ((y2).toInt) (((1 : Int32)).toInt) (((1500 : Int32)).toInt) (congrArg Int32.toInt e_g78_6) (hE_nlt cc69) (hE_nlt cc73) (by decide) (by decide)), (ov7 ((g78 7).toInt) ((g 7).toInt) (congrArg Int32.toInt e_g78_7) hi_g7)⟩ hw dX12_property_390
  rcases hk_eqOr y1 5 with cc80 | cc80
  · refine lv_tableIn (tgt := 263) (off := 257) hx hb dX12_property_6 (by rw [cc80]; decide) (by rw [cc80]; decide) (by rw [cc80]; rfl) (by decide) ?_
    refine lv_iload_n hx hb dX12_property_263 rfl (lv_at hl 2 rfl) ?_
    refine lv_iconst (v := 1) hx hb dX12_property_264 (by decide) ?_
    refine lv_icmp_lt (tgt := 279) hx hb dX12_property_265 (by decide) (fun cc81 => ?_) (fun cc81 => ?_)
    · refine lv_iconst (v := 0) hx hb dX12_property_279 (by decide) ?_
      refine lv_istore_n (lv' := [(3, .int 0), (0, .ref (ad 0)), (1, .int y1), (2, .int y2)]) hx hb dX12_property_280 rfl hl (by decide) rfl (fun ls hl => ?_)
      refine lv_aload_n hx hb dX12_property_281 rfl (lv_at hl 1 rfl) ?_
      refine lv_iload_n hx hb dX12_property_282 rfl (lv_at hl 0 rfl) ?_
      refine lv_if_eq (tgt := 290) hx hb dX12_property_283 (by decide) (fun _ => ?_) (fun cc82 => absurd (by decide) cc82)
      refine lv_aload_n hx hb dX12_property_290 rfl (lv_at hl 1 rfl) ?_
      have e_g1_7 : g1 7 = (g 7) := (hk_upgN h_g1 7 rfl)
      refine hk_get (ci := 15) (C := RX12) (T := TX12) (N := 92) (v := .int (g 7)) hx hb hts (fun _ h => List.mem_cons_of_mem _ (wwMc_wsX120 _ h)) hown hw 0 rfl rfl 7 (by decide) (hq _ wM_378) (congrArg (fun z => some (Value.int z)) e_g1_7) dX12_property_291 ?_
      refine jx_putg mw (cI := cI) (cJ := cJ) (ad := ad) (g := g1) (lg := lg) (ar := ar) (bk := bk) (x := (g 7)) 7 (ci := 15) (C := RX12) (T := TX12) (N := 92) (ty := .int) hx hb hts (fun _ h => List.mem_cons_of_mem _ (wwMc_wsX120 _ h)) tyX12 tyX12_ok nmX12 hown hw 0 rfl rfl 7 (by decide) (hq _ wM_378) rfl (by decide +kernel) rfl rfl (Nat.le_of_ble_eq_true rfl) dX12_property_294 rfl (fun H locs g83 h_g83 hw => ?_)
      refine lv_goto (tgt := 381) hx hb dX12_property_297 (by decide) ?_
      refine lv_iload_n hx hb dX12_property_381 rfl (lv_at hl 0 rfl) ?_
      refine lv_if_eq (tgt := 389) hx hb dX12_property_382 (by decide) (fun _ => ?_) (fun cc84 => absurd (by decide) cc84)
      refine lv_iconst (v := 0) hx hb dX12_property_389 (by decide) ?_
      have e_g83_2 : g83 2 = (g 2) := ((hk_upgN h_g83 2 rfl)).trans (hk_upgN h_g1 2 rfl)
      have e_g83_3 : g83 3 = (g 3) := ((hk_upgN h_g83 3 rfl)).trans (hk_upgN h_g1 3 rfl)
      have e_g83_4 : g83 4 = (g 4) := ((hk_upgN h_g83 4 rfl)).trans (hk_upgN h_g1 4 rfl)
      have e_g83_5 : g83 5 = (g 5) := ((hk_upgN h_g83 5 rfl)).trans (hk_upgN h_g1 5 rfl)
      have e_g83_6 : g83 6 = (g 6) := ((hk_upgN h_g83 6 rfl)).trans (hk_upgN h_g1 6 rfl)
      have e_g83_7 : g83 7 = (g 7) := (hk_upgS h_g83)
      exact kr 0 g83 lg ar bk _ _ _ _ ⟨(hk_frG (hk_frG hk_fr0 (by decide) h_g1) (by decide) h_g83), rfl, rfl, rfl, (ov53 ((y1).toInt) ((y2).toInt) ((g 3).toInt) ((g 2).toInt) ((g 0).toInt) (((0 : Int32)).toInt) (((5 : Int32)).toInt) (((1 : Int32)).toInt) (hE_eq cc80) (hE_lt cc81) (by decide) (by decide) (by decide)), (ov54 ((y1).toInt) (((0 : Int32)).toInt) ((g83 2).toInt) ((y2).toInt) ((g 2).toInt) (((5 : Int32)).toInt) (hE_eq cc80) (congrArg Int32.toInt e_g83_2) (by decide) (by decide)), (ov55 ((y1).toInt) (((0 : Int32)).toInt) ((g83 3).toInt) ((y2).toInt) ((g 3).toInt) (((5 : Int32)).toInt) (hE_eq cc80) (congrArg Int32.toInt e_g83_3) (by decide) (by decide)), (ov4 ((g83 2).toInt) ((g 2).toInt) (congrArg Int32.toInt e_g83_2) hi_g2), (ov4 ((g83 3).toInt) ((g 3).toInt) (congrArg Int32.toInt e_g83_3) hi_g3), (ov5 ((g83 2).toInt) ((g83 3).toInt) ((g 2).toInt) ((g 3).toInt) (congrArg Int32.toInt e_g83_2) (congrArg Int32.toInt e_g83_3) hi_tlclp), (ov4 ((g83 4).toInt) ((g 4).toInt) (congrArg Int32.toInt e_g83_4) hi_g4), (ov6 ((g83 5).toInt) ((g 5).toInt) (congrArg Int32.toInt e_g83_5) hi_g5), (ov7 ((g83 6).toInt) ((g 6).toInt) (congrArg Int32.toInt e_g83_6) hi_g6), (ov7 ((g83 7).toInt) ((g 7).toInt) (congrArg Int32.toInt e_g83_7) hi_g7)⟩ hw dX12_property_390
    · refine lv_iload_n hx hb dX12_property_268 rfl (lv_at hl 2 rfl) ?_
      refine lv_sipush (v := 1500) hx hb dX12_property_269 (by decide) ?_
      refine lv_icmp_gt (tgt := 279) hx hb dX12_property_272 (by decide) (fun cc85 => ?_) (fun cc85 => ?_)
      · refine lv_iconst (v := 0) hx hb dX12_property_279 (by decide) ?_
        refine lv_istore_n (lv' := [(3, .int 0), (0, .ref (ad 0)), (1, .int y1), (2, .int y2)]) hx hb dX12_property_280 rfl hl (by decide) rfl (fun ls hl => ?_)
        refine lv_aload_n hx hb dX12_property_281 rfl (lv_at hl 1 rfl) ?_
        refine lv_iload_n hx hb dX12_property_282 rfl (lv_at hl 0 rfl) ?_
        refine lv_if_eq (tgt := 290) hx hb dX12_property_283 (by decide) (fun _ => ?_) (fun cc86 => absurd (by decide) cc86)
        refine lv_aload_n hx hb dX12_property_290 rfl (lv_at hl 1 rfl) ?_
        have e_g1_7 : g1 7 = (g 7) := (hk_upgN h_g1 7 rfl)
        refine hk_get (ci := 15) (C := RX12) (T := TX12) (N := 92) (v := .int (g 7)) hx hb hts (fun _ h => List.mem_cons_of_mem _ (wwMc_wsX120 _ h)) hown hw 0 rfl rfl 7 (by decide) (hq _ wM_378) (congrArg (fun z => some (Value.int z)) e_g1_7) dX12_property_291 ?_
        refine jx_putg mw (cI := cI) (cJ := cJ) (ad := ad) (g := g1) (lg := lg) (ar := ar) (bk := bk) (x := (g 7)) 7 (ci := 15) (C := RX12) (T := TX12) (N := 92) (ty := .int) hx hb hts (fun _ h => List.mem_cons_of_mem _ (wwMc_wsX120 _ h)) tyX12 tyX12_ok nmX12 hown hw 0 rfl rfl 7 (by decide) (hq _ wM_378) rfl (by decide +kernel) rfl rfl (Nat.le_of_ble_eq_true rfl) dX12_property_294 rfl (fun H locs g87 h_g87 hw => ?_)
        refine lv_goto (tgt := 381) hx hb dX12_property_297 (by decide) ?_
        refine lv_iload_n hx hb dX12_property_381 rfl (lv_at hl 0 rfl) ?_
        refine lv_if_eq (tgt := 389) hx hb dX12_property_382 (by decide) (fun _ => ?_) (fun cc88 => absurd (by decide) cc88)
        refine lv_iconst (v := 0) hx hb dX12_property_389 (by decide) ?_
        have e_g87_2 : g87 2 = (g 2) := ((hk_upgN h_g87 2 rfl)).trans (hk_upgN h_g1 2 rfl)
        have e_g87_3 : g87 3 = (g 3) := ((hk_upgN h_g87 3 rfl)).trans (hk_upgN h_g1 3 rfl)
        have e_g87_4 : g87 4 = (g 4) := ((hk_upgN h_g87 4 rfl)).trans (hk_upgN h_g1 4 rfl)
        have e_g87_5 : g87 5 = (g 5) := ((hk_upgN h_g87 5 rfl)).trans (hk_upgN h_g1 5 rfl)
        have e_g87_6 : g87 6 = (g 6) := ((hk_upgN h_g87 6 rfl)).trans (hk_upgN h_g1 6 rfl)
        have e_g87_7 : g87 7 = (g 7) := (hk_upgS h_g87)
        exact kr 0 g87 lg ar bk _ _ _ _ ⟨(hk_frG (hk_frG hk_fr0 (by decide) h_g1) (by decide) h_g87), rfl, rfl, rfl, (ov56 ((y1).toInt) ((y2).toInt) ((g 3).toInt) ((g 2).toInt) ((g 0).toInt) (((0 : Int32)).toInt) (((5 : Int32)).toInt) (((1500 : Int32)).toInt) hi_g2 hi_g3 (hE_eq cc80) (hE_lt cc85) (by decide) (by decide) (by decide)), (ov54 ((y1).toInt) (((0 : Int32)).toInt) ((g87 2).toInt) ((y2).toInt) ((g 2).toInt) (((5 : Int32)).toInt) (hE_eq cc80) (congrArg Int32.toInt e_g87_2) (by decide) (by decide)), (ov55 ((y1).toInt) (((0 : Int32)).toInt) ((g87 3).toInt) ((y2).toInt) ((g 3).toInt) (((5 : Int32)).toInt) (hE_eq cc80) (congrArg Int32.toInt e_g87_3) (by decide) (by decide)), (ov4 ((g87 2).toInt) ((g 2).toInt) (congrArg Int32.toInt e_g87_2) hi_g2), (ov4 ((g87 3).toInt) ((g 3).toInt) (congrArg Int32.toInt e_g87_3) hi_g3), (ov5 ((g87 2).toInt) ((g87 3).toInt) ((g 2).toInt) ((g 3).toInt) (congrArg Int32.toInt e_g87_2) (congrArg Int32.toInt e_g87_3) hi_tlclp), (ov4 ((g87 4).toInt) ((g 4).toInt) (congrArg Int32.toInt e_g87_4) hi_g4), (ov6 ((g87 5).toInt) ((g 5).toInt) (congrArg Int32.toInt e_g87_5) hi_g5), (ov7 ((g87 6).toInt) ((g 6).toInt) (congrArg Int32.toInt e_g87_6) hi_g6), (ov7 ((g87 7).toInt) ((g 7).toInt) (congrArg Int32.toInt e_g87_7) hi_g7)⟩ hw dX12_property_390
      · refine lv_iconst (v := 1) hx hb dX12_property_275 (by decide) ?_
        refine lv_goto (tgt := 280) hx hb dX12_property_276 (by decide) ?_
        refine lv_istore_n (lv' := [(3, .int 1), (0, .ref (ad 0)), (1, .int y1), (2, .int y2)]) hx hb dX12_property_280 rfl hl (by decide) rfl (fun ls hl => ?_)
        refine lv_aload_n hx hb dX12_property_281 rfl (lv_at hl 1 rfl) ?_
        refine lv_iload_n hx hb dX12_property_282 rfl (lv_at hl 0 rfl) ?_
        refine lv_if_eq (tgt := 290) hx hb dX12_property_283 (by decide) (fun cc89 => absurd cc89 (by decide)) (fun _ => ?_)
        refine lv_iload_n hx hb dX12_property_286 rfl (lv_at hl 3 rfl) ?_
        refine lv_goto (tgt := 294) hx hb dX12_property_287 (by decide) ?_
        refine jx_putg mw (cI := cI) (cJ := cJ) (ad := ad) (g := g1) (lg := lg) (ar := ar) (bk := bk) (x := y2) 7 (ci := 15) (C := RX12) (T := TX12) (N := 92) (ty := .int) hx hb hts (fun _ h => List.mem_cons_of_mem _ (wwMc_wsX120 _ h)) tyX12 tyX12_ok nmX12 hown hw 0 rfl rfl 7 (by decide) (hq _ wM_378) rfl (by decide +kernel) rfl rfl (Nat.le_of_ble_eq_true rfl) dX12_property_294 rfl (fun H locs g90 h_g90 hw => ?_)
        refine lv_goto (tgt := 381) hx hb dX12_property_297 (by decide) ?_
        refine lv_iload_n hx hb dX12_property_381 rfl (lv_at hl 0 rfl) ?_
        refine lv_if_eq (tgt := 389) hx hb dX12_property_382 (by decide) (fun cc91 => absurd cc91 (by decide)) (fun _ => ?_)
        refine lv_iconst (v := 1) hx hb dX12_property_385 (by decide) ?_
        refine lv_goto (tgt := 390) hx hb dX12_property_386 (by decide) ?_
        have e_g90_2 : g90 2 = (g 2) := ((hk_upgN h_g90 2 rfl)).trans (hk_upgN h_g1 2 rfl)
        have e_g90_3 : g90 3 = (g 3) := ((hk_upgN h_g90 3 rfl)).trans (hk_upgN h_g1 3 rfl)
        have e_g90_4 : g90 4 = (g 4) := ((hk_upgN h_g90 4 rfl)).trans (hk_upgN h_g1 4 rfl)
        have e_g90_5 : g90 5 = (g 5) := ((hk_upgN h_g90 5 rfl)).trans (hk_upgN h_g1 5 rfl)
        have e_g90_6 : g90 6 = (g 6) := ((hk_upgN h_g90 6 rfl)).trans (hk_upgN h_g1 6 rfl)
        have e_g90_7 : g90 7 = y2 := (hk_upgS h_g90)
        exact kr 1 g90 lg ar bk _ _ _ _ ⟨(hk_frG (hk_frG hk_fr0 (by decide) h_g1) (by decide) h_g90), rfl, rfl, rfl, (ov57 ((y1).toInt) ((y2).toInt) ((g 3).toInt) ((g 2).toInt) ((g 0).toInt) (((1 : Int32)).toInt) (((5 : Int32)).toInt) (((1500 : Int32)).toInt) (hE_eq cc80) (hE_nlt cc81) (hE_nlt cc85) (by decide) (by decide) (by decide)), (ov58 ((y1).toInt) (((1 : Int32)).toInt) ((g90 2).toInt) ((y2).toInt) ((g 2).toInt) (((5 : Int32)).toInt) (hE_eq cc80) (congrArg Int32.toInt e_g90_2) (by decide)), (ov59 ((y1).toInt) (((1 : Int32)).toInt) ((g90 3).toInt) ((y2).toInt) ((g 3).toInt) (((5 : Int32)).toInt) (hE_eq cc80) (congrArg Int32.toInt e_g90_3) (by decide)), (ov4 ((g90 2).toInt) ((g 2).toInt) (congrArg Int32.toInt e_g90_2) hi_g2), (ov4 ((g90 3).toInt) ((g 3).toInt) (congrArg Int32.toInt e_g90_3) hi_g3), (ov5 ((g90 2).toInt) ((g90 3).toInt) ((g 2).toInt) ((g 3).toInt) (congrArg Int32.toInt e_g90_2) (congrArg Int32.toInt e_g90_3) hi_tlclp), (ov4 ((g90 4).toInt) ((g 4).toInt) (congrArg Int32.toInt e_g90_4) hi_g4), (ov6 ((g90 5).toInt) ((g 5).toInt) (congrArg Int32.toInt e_g90_5) hi_g5), (ov7 ((g90 6).toInt) ((g 6).toInt) (congrArg Int32.toInt e_g90_6) hi_g6), (ov52 ((g90 7).toInt) ((y2).toInt) (((1 : Int32)).toInt) (((1500 : Int32)).toInt) (congrArg Int32.toInt e_g90_7) (hE_nlt cc81) (hE_nlt cc85) (by decide) (by decide))⟩ hw dX12_property_390
  rcases hk_eqOr y1 6 with cc92 | cc92
  · refine lv_tableIn (tgt := 300) (off := 294) hx hb dX12_property_6 (by rw [cc92]; decide) (by rw [cc92]; decide) (by rw [cc92]; rfl) (by decide) ?_
    refine lv_iload_n hx hb dX12_property_300 rfl (lv_at hl 2 rfl) ?_
    refine lv_if_eq (tgt := 320) hx hb dX12_property_301 (by decide) (fun cc93 => ?_) (fun cc93 => ?_)
    · refine lv_iconst (v := 1) hx hb dX12_property_320 (by decide) ?_
      refine lv_goto (tgt := 325) hx hb dX12_property_321 (by decide) ?_
      refine lv_istore_n (lv' := [(3, .int 1), (0, .ref (ad 0)), (1, .int y1), (2, .int y2)]) hx hb dX12_property_325 rfl hl (by decide) rfl (fun ls hl => ?_)
      refine lv_aload_n hx hb dX12_property_326 rfl (lv_at hl 1 rfl) ?_
      refine lv_iload_n hx hb dX12_property_327 rfl (lv_at hl 0 rfl) ?_
      refine lv_if_eq (tgt := 335) hx hb dX12_property_328 (by decide) (fun cc94 => absurd cc94 (by decide)) (fun _ => ?_)
      refine lv_iload_n hx hb dX12_property_331 rfl (lv_at hl 3 rfl) ?_
      refine lv_goto (tgt := 339) hx hb dX12_property_332 (by decide) ?_
      refine jx_putg mw (cI := cI) (cJ := cJ) (ad := ad) (g := g1) (lg := lg) (ar := ar) (bk := bk) (x := y2) 8 (ci := 15) (C := RX12) (T := TX12) (N := 92) (ty := .int) hx hb hts (fun _ h => List.mem_cons_of_mem _ (wwMc_wsX120 _ h)) tyX12 tyX12_ok nmX12 hown hw 0 rfl rfl 8 (by decide) (hq _ wM_373) rfl (by decide +kernel) rfl rfl (Nat.le_of_ble_eq_true rfl) dX12_property_339 rfl (fun H locs g95 h_g95 hw => ?_)
      refine lv_goto (tgt := 381) hx hb dX12_property_342 (by decide) ?_
      refine lv_iload_n hx hb dX12_property_381 rfl (lv_at hl 0 rfl) ?_
      refine lv_if_eq (tgt := 389) hx hb dX12_property_382 (by decide) (fun cc96 => absurd cc96 (by decide)) (fun _ => ?_)
      refine lv_iconst (v := 1) hx hb dX12_property_385 (by decide) ?_
      refine lv_goto (tgt := 390) hx hb dX12_property_386 (by decide) ?_
      have e_g95_2 : g95 2 = (g 2) := ((hk_upgN h_g95 2 rfl)).trans (hk_upgN h_g1 2 rfl)
      have e_g95_3 : g95 3 = (g 3) := ((hk_upgN h_g95 3 rfl)).trans (hk_upgN h_g1 3 rfl)
      have e_g95_4 : g95 4 = (g 4) := ((hk_upgN h_g95 4 rfl)).trans (hk_upgN h_g1 4 rfl)
      have e_g95_5 : g95 5 = (g 5) := ((hk_upgN h_g95 5 rfl)).trans (hk_upgN h_g1 5 rfl)
      have e_g95_6 : g95 6 = (g 6) := ((hk_upgN h_g95 6 rfl)).trans (hk_upgN h_g1 6 rfl)
      have e_g95_7 : g95 7 = (g 7) := ((hk_upgN h_g95 7 rfl)).trans (hk_upgN h_g1 7 rfl)
      exact kr 1 g95 lg ar bk _ _ _ _ ⟨(hk_frG (hk_frG hk_fr0 (by decide) h_g1) (by decide) h_g95), rfl, rfl, rfl, (ov60 ((y1).toInt) ((y2).toInt) ((g 3).toInt) ((g 2).toInt) ((g 0).toInt) (((1 : Int32)).toInt) (((6 : Int32)).toInt) (((0 : Int32)).toInt) (hE_eq cc92) (hE_eq cc93) (by decide) (by decide) (by decide)), (ov61 ((y1).toInt) (((1 : Int32)).toInt) ((g95 2).toInt) ((y2).toInt) ((g 2).toInt) (((6 : Int32)).toInt) (hE_eq cc92) (congrArg Int32.toInt e_g95_2) (by decide)), (ov62 ((y1).toInt) (((1 : Int32)).toInt) ((g95 3).toInt) ((y2).toInt) ((g 3).toInt) (((6 : Int32)).toInt) (hE_eq cc92) (congrArg Int32.toInt e_g95_3) (by decide)), (ov4 ((g95 2).toInt) ((g 2).toInt) (congrArg Int32.toInt e_g95_2) hi_g2), (ov4 ((g95 3).toInt) ((g 3).toInt) (congrArg Int32.toInt e_g95_3) hi_g3), (ov5 ((g95 2).toInt) ((g95 3).toInt) ((g 2).toInt) ((g 3).toInt) (congrArg Int32.toInt e_g95_2) (congrArg Int32.toInt e_g95_3) hi_tlclp), (ov4 ((g95 4).toInt) ((g 4).toInt) (congrArg Int32.toInt e_g95_4) hi_g4), (ov6 ((g95 5).toInt) ((g 5).toInt) (congrArg Int32.toInt e_g95_5) hi_g5), (ov7 ((g95 6).toInt) ((g 6).toInt) (congrArg Int32.toInt e_g95_6) hi_g6), (ov7 ((g95 7).toInt) ((g 7).toInt) (congrArg Int32.toInt e_g95_7) hi_g7)⟩ hw dX12_property_390
    · refine lv_iload_n hx hb dX12_property_304 rfl (lv_at hl 2 rfl) ?_
      refine lv_iconst (v := 1) hx hb dX12_property_305 (by decide) ?_
      refine lv_icmp_eq (tgt := 320) hx hb dX12_property_306 (by decide) (fun cc97 => ?_) (fun cc97 => ?_)
      · refine lv_iconst (v := 1) hx hb dX12_property_320 (by decide) ?_
        refine lv_goto (tgt := 325) hx hb dX12_property_321 (by decide) ?_
        refine lv_istore_n (lv' := [(3, .int 1), (0, .ref (ad 0)), (1, .int y1), (2, .int y2)]) hx hb dX12_property_325 rfl hl (by decide) rfl (fun ls hl => ?_)
        refine lv_aload_n hx hb dX12_property_326 rfl (lv_at hl 1 rfl) ?_
        refine lv_iload_n hx hb dX12_property_327 rfl (lv_at hl 0 rfl) ?_
        refine lv_if_eq (tgt := 335) hx hb dX12_property_328 (by decide) (fun cc98 => absurd cc98 (by decide)) (fun _ => ?_)
        refine lv_iload_n hx hb dX12_property_331 rfl (lv_at hl 3 rfl) ?_
        refine lv_goto (tgt := 339) hx hb dX12_property_332 (by decide) ?_
        refine jx_putg mw (cI := cI) (cJ := cJ) (ad := ad) (g := g1) (lg := lg) (ar := ar) (bk := bk) (x := y2) 8 (ci := 15) (C := RX12) (T := TX12) (N := 92) (ty := .int) hx hb hts (fun _ h => List.mem_cons_of_mem _ (wwMc_wsX120 _ h)) tyX12 tyX12_ok nmX12 hown hw 0 rfl rfl 8 (by decide) (hq _ wM_373) rfl (by decide +kernel) rfl rfl (Nat.le_of_ble_eq_true rfl) dX12_property_339 rfl (fun H locs g99 h_g99 hw => ?_)
        refine lv_goto (tgt := 381) hx hb dX12_property_342 (by decide) ?_
        refine lv_iload_n hx hb dX12_property_381 rfl (lv_at hl 0 rfl) ?_
        refine lv_if_eq (tgt := 389) hx hb dX12_property_382 (by decide) (fun cc100 => absurd cc100 (by decide)) (fun _ => ?_)
        refine lv_iconst (v := 1) hx hb dX12_property_385 (by decide) ?_
        refine lv_goto (tgt := 390) hx hb dX12_property_386 (by decide) ?_
        have e_g99_2 : g99 2 = (g 2) := ((hk_upgN h_g99 2 rfl)).trans (hk_upgN h_g1 2 rfl)
        have e_g99_3 : g99 3 = (g 3) := ((hk_upgN h_g99 3 rfl)).trans (hk_upgN h_g1 3 rfl)
        have e_g99_4 : g99 4 = (g 4) := ((hk_upgN h_g99 4 rfl)).trans (hk_upgN h_g1 4 rfl)
        have e_g99_5 : g99 5 = (g 5) := ((hk_upgN h_g99 5 rfl)).trans (hk_upgN h_g1 5 rfl)
        have e_g99_6 : g99 6 = (g 6) := ((hk_upgN h_g99 6 rfl)).trans (hk_upgN h_g1 6 rfl)
        have e_g99_7 : g99 7 = (g 7) := ((hk_upgN h_g99 7 rfl)).trans (hk_upgN h_g1 7 rfl)
        exact kr 1 g99 lg ar bk _ _ _ _ ⟨(hk_frG (hk_frG hk_fr0 (by decide) h_g1) (by decide) h_g99), rfl, rfl, rfl, (ov63 ((y1).toInt) ((y2).toInt) ((g 3).toInt) ((g 2).toInt) ((g 0).toInt) (((1 : Int32)).toInt) (((6 : Int32)).toInt) (hE_eq cc92) (hE_eq cc97) (by decide) (by decide)), (ov61 ((y1).toInt) (((1 : Int32)).toInt) ((g99 2).toInt) ((y2).toInt) ((g 2).toInt) (((6 : Int32)).toInt) (hE_eq cc92) (congrArg Int32.toInt e_g99_2) (by decide)), (ov62 ((y1).toInt) (((1 : Int32)).toInt) ((g99 3).toInt) ((y2).toInt) ((g 3).toInt) (((6 : Int32)).toInt) (hE_eq cc92) (congrArg Int32.toInt e_g99_3) (by decide)), (ov4 ((g99 2).toInt) ((g 2).toInt) (congrArg Int32.toInt e_g99_2) hi_g2), (ov4 ((g99 3).toInt) ((g 3).toInt) (congrArg Int32.toInt e_g99_3) hi_g3), (ov5 ((g99 2).toInt) ((g99 3).toInt) ((g 2).toInt) ((g 3).toInt) (congrArg Int32.toInt e_g99_2) (congrArg Int32.toInt e_g99_3) hi_tlclp), (ov4 ((g99 4).toInt) ((g 4).toInt) (congrArg Int32.toInt e_g99_4) hi_g4), (ov6 ((g99 5).toInt) ((g 5).toInt) (congrArg Int32.toInt e_g99_5) hi_g5), (ov7 ((g99 6).toInt) ((g 6).toInt) (congrArg Int32.toInt e_g99_6) hi_g6), (ov7 ((g99 7).toInt) ((g 7).toInt) (congrArg Int32.toInt e_g99_7) hi_g7)⟩ hw dX12_property_390
      · refine lv_iload_n hx hb dX12_property_309 rfl (lv_at hl 2 rfl) ?_
        refine lv_iconst (v := 4) hx hb dX12_property_310 (by decide) ?_
        refine lv_icmp_eq (tgt := 320) hx hb dX12_property_311 (by decide) (fun cc101 => ?_) (fun cc101 => ?_)
        · refine lv_iconst (v := 1) hx hb dX12_property_320 (by decide) ?_
          refine lv_goto (tgt := 325) hx hb dX12_property_321 (by decide) ?_
          refine lv_istore_n (lv' := [(3, .int 1), (0, .ref (ad 0)), (1, .int y1), (2, .int y2)]) hx hb dX12_property_325 rfl hl (by decide) rfl (fun ls hl => ?_)
          refine lv_aload_n hx hb dX12_property_326 rfl (lv_at hl 1 rfl) ?_
          refine lv_iload_n hx hb dX12_property_327 rfl (lv_at hl 0 rfl) ?_
          refine lv_if_eq (tgt := 335) hx hb dX12_property_328 (by decide) (fun cc102 => absurd cc102 (by decide)) (fun _ => ?_)
          refine lv_iload_n hx hb dX12_property_331 rfl (lv_at hl 3 rfl) ?_
          refine lv_goto (tgt := 339) hx hb dX12_property_332 (by decide) ?_
          refine jx_putg mw (cI := cI) (cJ := cJ) (ad := ad) (g := g1) (lg := lg) (ar := ar) (bk := bk) (x := y2) 8 (ci := 15) (C := RX12) (T := TX12) (N := 92) (ty := .int) hx hb hts (fun _ h => List.mem_cons_of_mem _ (wwMc_wsX120 _ h)) tyX12 tyX12_ok nmX12 hown hw 0 rfl rfl 8 (by decide) (hq _ wM_373) rfl (by decide +kernel) rfl rfl (Nat.le_of_ble_eq_true rfl) dX12_property_339 rfl (fun H locs g103 h_g103 hw => ?_)
          refine lv_goto (tgt := 381) hx hb dX12_property_342 (by decide) ?_
          refine lv_iload_n hx hb dX12_property_381 rfl (lv_at hl 0 rfl) ?_
          refine lv_if_eq (tgt := 389) hx hb dX12_property_382 (by decide) (fun cc104 => absurd cc104 (by decide)) (fun _ => ?_)
          refine lv_iconst (v := 1) hx hb dX12_property_385 (by decide) ?_
          refine lv_goto (tgt := 390) hx hb dX12_property_386 (by decide) ?_
          have e_g103_2 : g103 2 = (g 2) := ((hk_upgN h_g103 2 rfl)).trans (hk_upgN h_g1 2 rfl)
          have e_g103_3 : g103 3 = (g 3) := ((hk_upgN h_g103 3 rfl)).trans (hk_upgN h_g1 3 rfl)
          have e_g103_4 : g103 4 = (g 4) := ((hk_upgN h_g103 4 rfl)).trans (hk_upgN h_g1 4 rfl)
          have e_g103_5 : g103 5 = (g 5) := ((hk_upgN h_g103 5 rfl)).trans (hk_upgN h_g1 5 rfl)
          have e_g103_6 : g103 6 = (g 6) := ((hk_upgN h_g103 6 rfl)).trans (hk_upgN h_g1 6 rfl)
          have e_g103_7 : g103 7 = (g 7) := ((hk_upgN h_g103 7 rfl)).trans (hk_upgN h_g1 7 rfl)
          exact kr 1 g103 lg ar bk _ _ _ _ ⟨(hk_frG (hk_frG hk_fr0 (by decide) h_g1) (by decide) h_g103), rfl, rfl, rfl, (ov64 ((y1).toInt) ((y2).toInt) ((g 3).toInt) ((g 2).toInt) ((g 0).toInt) (((1 : Int32)).toInt) (((6 : Int32)).toInt) (((4 : Int32)).toInt) (hE_eq cc92) (hE_eq cc101) (by decide) (by decide) (by decide)), (ov61 ((y1).toInt) (((1 : Int32)).toInt) ((g103 2).toInt) ((y2).toInt) ((g 2).toInt) (((6 : Int32)).toInt) (hE_eq cc92) (congrArg Int32.toInt e_g103_2) (by decide)), (ov62 ((y1).toInt) (((1 : Int32)).toInt) ((g103 3).toInt) ((y2).toInt) ((g 3).toInt) (((6 : Int32)).toInt) (hE_eq cc92) (congrArg Int32.toInt e_g103_3) (by decide)), (ov4 ((g103 2).toInt) ((g 2).toInt) (congrArg Int32.toInt e_g103_2) hi_g2), (ov4 ((g103 3).toInt) ((g 3).toInt) (congrArg Int32.toInt e_g103_3) hi_g3), (ov5 ((g103 2).toInt) ((g103 3).toInt) ((g 2).toInt) ((g 3).toInt) (congrArg Int32.toInt e_g103_2) (congrArg Int32.toInt e_g103_3) hi_tlclp), (ov4 ((g103 4).toInt) ((g 4).toInt) (congrArg Int32.toInt e_g103_4) hi_g4), (ov6 ((g103 5).toInt) ((g 5).toInt) (congrArg Int32.toInt e_g103_5) hi_g5), (ov7 ((g103 6).toInt) ((g 6).toInt) (congrArg Int32.toInt e_g103_6) hi_g6), (ov7 ((g103 7).toInt) ((g 7).toInt) (congrArg Int32.toInt e_g103_7) hi_g7)⟩ hw dX12_property_390
        · refine lv_iload_n hx hb dX12_property_314 rfl (lv_at hl 2 rfl) ?_
          refine lv_bipush (v := 10) hx hb dX12_property_315 (by decide) ?_
          refine lv_icmp_ne (tgt := 324) hx hb dX12_property_317 (by decide) (fun cc105 => ?_) (fun cc105 => ?_)
          · refine lv_iconst (v := 0) hx hb dX12_property_324 (by decide) ?_
            refine lv_istore_n (lv' := [(3, .int 0), (0, .ref (ad 0)), (1, .int y1), (2, .int y2)]) hx hb dX12_property_325 rfl hl (by decide) rfl (fun ls hl => ?_)
            refine lv_aload_n hx hb dX12_property_326 rfl (lv_at hl 1 rfl) ?_
            refine lv_iload_n hx hb dX12_property_327 rfl (lv_at hl 0 rfl) ?_
            refine lv_if_eq (tgt := 335) hx hb dX12_property_328 (by decide) (fun _ => ?_) (fun cc106 => absurd (by decide) cc106)
            refine lv_aload_n hx hb dX12_property_335 rfl (lv_at hl 1 rfl) ?_
            have e_g1_8 : g1 8 = (g 8) := (hk_upgN h_g1 8 rfl)
            refine hk_get (ci := 15) (C := RX12) (T := TX12) (N := 92) (v := .int (g 8)) hx hb hts (fun _ h => List.mem_cons_of_mem _ (wwMc_wsX120 _ h)) hown hw 0 rfl rfl 8 (by decide) (hq _ wM_373) (congrArg (fun z => some (Value.int z)) e_g1_8) dX12_property_336 ?_
            refine jx_putg mw (cI := cI) (cJ := cJ) (ad := ad) (g := g1) (lg := lg) (ar := ar) (bk := bk) (x := (g 8)) 8 (ci := 15) (C := RX12) (T := TX12) (N := 92) (ty := .int) hx hb hts (fun _ h => List.mem_cons_of_mem _ (wwMc_wsX120 _ h)) tyX12 tyX12_ok nmX12 hown hw 0 rfl rfl 8 (by decide) (hq _ wM_373) rfl (by decide +kernel) rfl rfl (Nat.le_of_ble_eq_true rfl) dX12_property_339 rfl (fun H locs g107 h_g107 hw => ?_)
            refine lv_goto (tgt := 381) hx hb dX12_property_342 (by decide) ?_
            refine lv_iload_n hx hb dX12_property_381 rfl (lv_at hl 0 rfl) ?_
            refine lv_if_eq (tgt := 389) hx hb dX12_property_382 (by decide) (fun _ => ?_) (fun cc108 => absurd (by decide) cc108)
            refine lv_iconst (v := 0) hx hb dX12_property_389 (by decide) ?_
            have e_g107_2 : g107 2 = (g 2) := ((hk_upgN h_g107 2 rfl)).trans (hk_upgN h_g1 2 rfl)
            have e_g107_3 : g107 3 = (g 3) := ((hk_upgN h_g107 3 rfl)).trans (hk_upgN h_g1 3 rfl)
            have e_g107_4 : g107 4 = (g 4) := ((hk_upgN h_g107 4 rfl)).trans (hk_upgN h_g1 4 rfl)
            have e_g107_5 : g107 5 = (g 5) := ((hk_upgN h_g107 5 rfl)).trans (hk_upgN h_g1 5 rfl)
            have e_g107_6 : g107 6 = (g 6) := ((hk_upgN h_g107 6 rfl)).trans (hk_upgN h_g1 6 rfl)
            have e_g107_7 : g107 7 = (g 7) := ((hk_upgN h_g107 7 rfl)).trans (hk_upgN h_g1 7 rfl)
            exact kr 0 g107 lg ar bk _ _ _ _ ⟨(hk_frG (hk_frG hk_fr0 (by decide) h_g1) (by decide) h_g107), rfl, rfl, rfl, (ov65 ((y1).toInt) ((y2).toInt) ((g 3).toInt) ((g 2).toInt) ((g 0).toInt) (((0 : Int32)).toInt) (((6 : Int32)).toInt) (((1 : Int32)).toInt) (((4 : Int32)).toInt) (((10 : Int32)).toInt) (hE_eq cc92) (hE_ne cc93) (hE_ne cc97) (hE_ne cc101) (hE_ne cc105) (by decide) (by decide) (by decide) (by decide) (by decide)), (ov66 ((y1).toInt) (((0 : Int32)).toInt) ((g107 2).toInt) ((y2).toInt) ((g 2).toInt) (((6 : Int32)).toInt) (hE_eq cc92) (congrArg Int32.toInt e_g107_2) (by decide) (by decide)), (ov67 ((y1).toInt) (((0 : Int32)).toInt) ((g107 3).toInt) ((y2).toInt) ((g 3).toInt) (((6 : Int32)).toInt) (hE_eq cc92) (congrArg Int32.toInt e_g107_3) (by decide) (by decide)), (ov4 ((g107 2).toInt) ((g 2).toInt) (congrArg Int32.toInt e_g107_2) hi_g2), (ov4 ((g107 3).toInt) ((g 3).toInt) (congrArg Int32.toInt e_g107_3) hi_g3), (ov5 ((g107 2).toInt) ((g107 3).toInt) ((g 2).toInt) ((g 3).toInt) (congrArg Int32.toInt e_g107_2) (congrArg Int32.toInt e_g107_3) hi_tlclp), (ov4 ((g107 4).toInt) ((g 4).toInt) (congrArg Int32.toInt e_g107_4) hi_g4), (ov6 ((g107 5).toInt) ((g 5).toInt) (congrArg Int32.toInt e_g107_5) hi_g5), (ov7 ((g107 6).toInt) ((g 6).toInt) (congrArg Int32.toInt e_g107_6) hi_g6), (ov7 ((g107 7).toInt) ((g 7).toInt) (congrArg Int32.toInt e_g107_7) hi_g7)⟩ hw dX12_property_390
          · refine lv_iconst (v := 1) hx hb dX12_property_320 (by decide) ?_
            refine lv_goto (tgt := 325) hx hb dX12_property_321 (by decide) ?_
            refine lv_istore_n (lv' := [(3, .int 1), (0, .ref (ad 0)), (1, .int y1), (2, .int y2)]) hx hb dX12_property_325 rfl hl (by decide) rfl (fun ls hl => ?_)
            refine lv_aload_n hx hb dX12_property_326 rfl (lv_at hl 1 rfl) ?_
            refine lv_iload_n hx hb dX12_property_327 rfl (lv_at hl 0 rfl) ?_
            refine lv_if_eq (tgt := 335) hx hb dX12_property_328 (by decide) (fun cc109 => absurd cc109 (by decide)) (fun _ => ?_)
            refine lv_iload_n hx hb dX12_property_331 rfl (lv_at hl 3 rfl) ?_
            refine lv_goto (tgt := 339) hx hb dX12_property_332 (by decide) ?_
            refine jx_putg mw (cI := cI) (cJ := cJ) (ad := ad) (g := g1) (lg := lg) (ar := ar) (bk := bk) (x := y2) 8 (ci := 15) (C := RX12) (T := TX12) (N := 92) (ty := .int) hx hb hts (fun _ h => List.mem_cons_of_mem _ (wwMc_wsX120 _ h)) tyX12 tyX12_ok nmX12 hown hw 0 rfl rfl 8 (by decide) (hq _ wM_373) rfl (by decide +kernel) rfl rfl (Nat.le_of_ble_eq_true rfl) dX12_property_339 rfl (fun H locs g110 h_g110 hw => ?_)
            refine lv_goto (tgt := 381) hx hb dX12_property_342 (by decide) ?_
            refine lv_iload_n hx hb dX12_property_381 rfl (lv_at hl 0 rfl) ?_
            refine lv_if_eq (tgt := 389) hx hb dX12_property_382 (by decide) (fun cc111 => absurd cc111 (by decide)) (fun _ => ?_)
            refine lv_iconst (v := 1) hx hb dX12_property_385 (by decide) ?_
            refine lv_goto (tgt := 390) hx hb dX12_property_386 (by decide) ?_
            have e_g110_2 : g110 2 = (g 2) := ((hk_upgN h_g110 2 rfl)).trans (hk_upgN h_g1 2 rfl)
            have e_g110_3 : g110 3 = (g 3) := ((hk_upgN h_g110 3 rfl)).trans (hk_upgN h_g1 3 rfl)
            have e_g110_4 : g110 4 = (g 4) := ((hk_upgN h_g110 4 rfl)).trans (hk_upgN h_g1 4 rfl)
            have e_g110_5 : g110 5 = (g 5) := ((hk_upgN h_g110 5 rfl)).trans (hk_upgN h_g1 5 rfl)
            have e_g110_6 : g110 6 = (g 6) := ((hk_upgN h_g110 6 rfl)).trans (hk_upgN h_g1 6 rfl)
            have e_g110_7 : g110 7 = (g 7) := ((hk_upgN h_g110 7 rfl)).trans (hk_upgN h_g1 7 rfl)
            exact kr 1 g110 lg ar bk _ _ _ _ ⟨(hk_frG (hk_frG hk_fr0 (by decide) h_g1) (by decide) h_g110), rfl, rfl, rfl, (ov68 ((y1).toInt) ((y2).toInt) ((g 3).toInt) ((g 2).toInt) ((g 0).toInt) (((1 : Int32)).toInt) (((6 : Int32)).toInt) (((10 : Int32)).toInt) (hE_eq cc92) (hE_eq cc105) (by decide) (by decide) (by decide)), (ov61 ((y1).toInt) (((1 : Int32)).toInt) ((g110 2).toInt) ((y2).toInt) ((g 2).toInt) (((6 : Int32)).toInt) (hE_eq cc92) (congrArg Int32.toInt e_g110_2) (by decide)), (ov62 ((y1).toInt) (((1 : Int32)).toInt) ((g110 3).toInt) ((y2).toInt) ((g 3).toInt) (((6 : Int32)).toInt) (hE_eq cc92) (congrArg Int32.toInt e_g110_3) (by decide)), (ov4 ((g110 2).toInt) ((g 2).toInt) (congrArg Int32.toInt e_g110_2) hi_g2), (ov4 ((g110 3).toInt) ((g 3).toInt) (congrArg Int32.toInt e_g110_3) hi_g3), (ov5 ((g110 2).toInt) ((g110 3).toInt) ((g 2).toInt) ((g 3).toInt) (congrArg Int32.toInt e_g110_2) (congrArg Int32.toInt e_g110_3) hi_tlclp), (ov4 ((g110 4).toInt) ((g 4).toInt) (congrArg Int32.toInt e_g110_4) hi_g4), (ov6 ((g110 5).toInt) ((g 5).toInt) (congrArg Int32.toInt e_g110_5) hi_g5), (ov7 ((g110 6).toInt) ((g 6).toInt) (congrArg Int32.toInt e_g110_6) hi_g6), (ov7 ((g110 7).toInt) ((g 7).toInt) (congrArg Int32.toInt e_g110_7) hi_g7)⟩ hw dX12_property_390
  rcases hk_eqOr y1 7 with cc112 | cc112
  · refine lv_tableIn (tgt := 345) (off := 339) hx hb dX12_property_6 (by rw [cc112]; decide) (by rw [cc112]; decide) (by rw [cc112]; rfl) (by decide) ?_
    refine lv_iload_n hx hb dX12_property_345 rfl (lv_at hl 2 rfl) ?_
    refine lv_if_lt (tgt := 358) hx hb dX12_property_346 (by decide) (fun cc113 => ?_) (fun cc113 => ?_)
    · refine lv_iconst (v := 0) hx hb dX12_property_358 (by decide) ?_
      refine lv_istore_n (lv' := [(3, .int 0), (0, .ref (ad 0)), (1, .int y1), (2, .int y2)]) hx hb dX12_property_359 rfl hl (by decide) rfl (fun ls hl => ?_)
      refine lv_aload_n hx hb dX12_property_360 rfl (lv_at hl 1 rfl) ?_
      refine lv_iload_n hx hb dX12_property_361 rfl (lv_at hl 0 rfl) ?_
      refine lv_if_eq (tgt := 369) hx hb dX12_property_362 (by decide) (fun _ => ?_) (fun cc114 => absurd (by decide) cc114)
      refine lv_aload_n hx hb dX12_property_369 rfl (lv_at hl 1 rfl) ?_
      have e_g1_9 : g1 9 = (g 9) := (hk_upgN h_g1 9 rfl)
      refine hk_get (ci := 15) (C := RX12) (T := TX12) (N := 92) (v := .int (g 9)) hx hb hts (fun _ h => List.mem_cons_of_mem _ (wwMc_wsX120 _ h)) hown hw 0 rfl rfl 9 (by decide) (hq _ wM_417) (congrArg (fun z => some (Value.int z)) e_g1_9) dX12_property_370 ?_
      refine jx_putg mw (cI := cI) (cJ := cJ) (ad := ad) (g := g1) (lg := lg) (ar := ar) (bk := bk) (x := (g 9)) 9 (ci := 15) (C := RX12) (T := TX12) (N := 92) (ty := .int) hx hb hts (fun _ h => List.mem_cons_of_mem _ (wwMc_wsX120 _ h)) tyX12 tyX12_ok nmX12 hown hw 0 rfl rfl 9 (by decide) (hq _ wM_417) rfl (by decide +kernel) rfl rfl (Nat.le_of_ble_eq_true rfl) dX12_property_373 rfl (fun H locs g115 h_g115 hw => ?_)
      refine lv_goto (tgt := 381) hx hb dX12_property_376 (by decide) ?_
      refine lv_iload_n hx hb dX12_property_381 rfl (lv_at hl 0 rfl) ?_
      refine lv_if_eq (tgt := 389) hx hb dX12_property_382 (by decide) (fun _ => ?_) (fun cc116 => absurd (by decide) cc116)
      refine lv_iconst (v := 0) hx hb dX12_property_389 (by decide) ?_
      have e_g115_2 : g115 2 = (g 2) := ((hk_upgN h_g115 2 rfl)).trans (hk_upgN h_g1 2 rfl)
      have e_g115_3 : g115 3 = (g 3) := ((hk_upgN h_g115 3 rfl)).trans (hk_upgN h_g1 3 rfl)
      have e_g115_4 : g115 4 = (g 4) := ((hk_upgN h_g115 4 rfl)).trans (hk_upgN h_g1 4 rfl)
      have e_g115_5 : g115 5 = (g 5) := ((hk_upgN h_g115 5 rfl)).trans (hk_upgN h_g1 5 rfl)
      have e_g115_6 : g115 6 = (g 6) := ((hk_upgN h_g115 6 rfl)).trans (hk_upgN h_g1 6 rfl)
      have e_g115_7 : g115 7 = (g 7) := ((hk_upgN h_g115 7 rfl)).trans (hk_upgN h_g1 7 rfl)
      exact kr 0 g115 lg ar bk _ _ _ _ ⟨(hk_frG (hk_frG hk_fr0 (by decide) h_g1) (by decide) h_g115), rfl, rfl, rfl, (ov69 ((y1).toInt) ((y2).toInt) ((g 3).toInt) ((g 2).toInt) ((g 0).toInt) (((0 : Int32)).toInt) (((7 : Int32)).toInt) (hE_eq cc112) (hE_lt cc113) (by decide) (by decide)), (ov70 ((y1).toInt) (((0 : Int32)).toInt) ((g115 2).toInt) ((y2).toInt) ((g 2).toInt) (((7 : Int32)).toInt) (hE_eq cc112) (congrArg Int32.toInt e_g115_2) (by decide) (by decide)), (ov71 ((y1).toInt) (((0 : Int32)).toInt) ((g115 3).toInt) ((y2).toInt) ((g 3).toInt) (((7 : Int32)).toInt) (hE_eq cc112) (congrArg Int32.toInt e_g115_3) (by decide) (by decide)), (ov4 ((g115 2).toInt) ((g 2).toInt) (congrArg Int32.toInt e_g115_2) hi_g2), (ov4 ((g115 3).toInt) ((g 3).toInt) (congrArg Int32.toInt e_g115_3) hi_g3), (ov5 ((g115 2).toInt) ((g115 3).toInt) ((g 2).toInt) ((g 3).toInt) (congrArg Int32.toInt e_g115_2) (congrArg Int32.toInt e_g115_3) hi_tlclp), (ov4 ((g115 4).toInt) ((g 4).toInt) (congrArg Int32.toInt e_g115_4) hi_g4), (ov6 ((g115 5).toInt) ((g 5).toInt) (congrArg Int32.toInt e_g115_5) hi_g5), (ov7 ((g115 6).toInt) ((g 6).toInt) (congrArg Int32.toInt e_g115_6) hi_g6), (ov7 ((g115 7).toInt) ((g 7).toInt) (congrArg Int32.toInt e_g115_7) hi_g7)⟩ hw dX12_property_390
    · refine lv_iload_n hx hb dX12_property_349 rfl (lv_at hl 2 rfl) ?_
      refine lv_iconst (v := 1) hx hb dX12_property_350 (by decide) ?_
      refine lv_icmp_gt (tgt := 358) hx hb dX12_property_351 (by decide) (fun cc117 => ?_) (fun cc117 => ?_)
      · refine lv_iconst (v := 0) hx hb dX12_property_358 (by decide) ?_
        refine lv_istore_n (lv' := [(3, .int 0), (0, .ref (ad 0)), (1, .int y1), (2, .int y2)]) hx hb dX12_property_359 rfl hl (by decide) rfl (fun ls hl => ?_)
        refine lv_aload_n hx hb dX12_property_360 rfl (lv_at hl 1 rfl) ?_
        refine lv_iload_n hx hb dX12_property_361 rfl (lv_at hl 0 rfl) ?_
        refine lv_if_eq (tgt := 369) hx hb dX12_property_362 (by decide) (fun _ => ?_) (fun cc118 => absurd (by decide) cc118)
        refine lv_aload_n hx hb dX12_property_369 rfl (lv_at hl 1 rfl) ?_
        have e_g1_9 : g1 9 = (g 9) := (hk_upgN h_g1 9 rfl)
        refine hk_get (ci := 15) (C := RX12) (T := TX12) (N := 92) (v := .int (g 9)) hx hb hts (fun _ h => List.mem_cons_of_mem _ (wwMc_wsX120 _ h)) hown hw 0 rfl rfl 9 (by decide) (hq _ wM_417) (congrArg (fun z => some (Value.int z)) e_g1_9) dX12_property_370 ?_
        refine jx_putg mw (cI := cI) (cJ := cJ) (ad := ad) (g := g1) (lg := lg) (ar := ar) (bk := bk) (x := (g 9)) 9 (ci := 15) (C := RX12) (T := TX12) (N := 92) (ty := .int) hx hb hts (fun _ h => List.mem_cons_of_mem _ (wwMc_wsX120 _ h)) tyX12 tyX12_ok nmX12 hown hw 0 rfl rfl 9 (by decide) (hq _ wM_417) rfl (by decide +kernel) rfl rfl (Nat.le_of_ble_eq_true rfl) dX12_property_373 rfl (fun H locs g119 h_g119 hw => ?_)
        refine lv_goto (tgt := 381) hx hb dX12_property_376 (by decide) ?_
        refine lv_iload_n hx hb dX12_property_381 rfl (lv_at hl 0 rfl) ?_
        refine lv_if_eq (tgt := 389) hx hb dX12_property_382 (by decide) (fun _ => ?_) (fun cc120 => absurd (by decide) cc120)
        refine lv_iconst (v := 0) hx hb dX12_property_389 (by decide) ?_
        have e_g119_2 : g119 2 = (g 2) := ((hk_upgN h_g119 2 rfl)).trans (hk_upgN h_g1 2 rfl)
        have e_g119_3 : g119 3 = (g 3) := ((hk_upgN h_g119 3 rfl)).trans (hk_upgN h_g1 3 rfl)
        have e_g119_4 : g119 4 = (g 4) := ((hk_upgN h_g119 4 rfl)).trans (hk_upgN h_g1 4 rfl)
        have e_g119_5 : g119 5 = (g 5) := ((hk_upgN h_g119 5 rfl)).trans (hk_upgN h_g1 5 rfl)
        have e_g119_6 : g119 6 = (g 6) := ((hk_upgN h_g119 6 rfl)).trans (hk_upgN h_g1 6 rfl)
        have e_g119_7 : g119 7 = (g 7) := ((hk_upgN h_g119 7 rfl)).trans (hk_upgN h_g1 7 rfl)
        exact kr 0 g119 lg ar bk _ _ _ _ ⟨(hk_frG (hk_frG hk_fr0 (by decide) h_g1) (by decide) h_g119), rfl, rfl, rfl, (ov72 ((y1).toInt) ((y2).toInt) ((g 3).toInt) ((g 2).toInt) ((g 0).toInt) (((0 : Int32)).toInt) (((7 : Int32)).toInt) (((1 : Int32)).toInt) (hE_eq cc112) (hE_lt cc117) (by decide) (by decide) (by decide)), (ov70 ((y1).toInt) (((0 : Int32)).toInt) ((g119 2).toInt) ((y2).toInt) ((g 2).toInt) (((7 : Int32)).toInt) (hE_eq cc112) (congrArg Int32.toInt e_g119_2) (by decide) (by decide)), (ov71 ((y1).toInt) (((0 : Int32)).toInt) ((g119 3).toInt) ((y2).toInt) ((g 3).toInt) (((7 : Int32)).toInt) (hE_eq cc112) (congrArg Int32.toInt e_g119_3) (by decide) (by decide)), (ov4 ((g119 2).toInt) ((g 2).toInt) (congrArg Int32.toInt e_g119_2) hi_g2), (ov4 ((g119 3).toInt) ((g 3).toInt) (congrArg Int32.toInt e_g119_3) hi_g3), (ov5 ((g119 2).toInt) ((g119 3).toInt) ((g 2).toInt) ((g 3).toInt) (congrArg Int32.toInt e_g119_2) (congrArg Int32.toInt e_g119_3) hi_tlclp), (ov4 ((g119 4).toInt) ((g 4).toInt) (congrArg Int32.toInt e_g119_4) hi_g4), (ov6 ((g119 5).toInt) ((g 5).toInt) (congrArg Int32.toInt e_g119_5) hi_g5), (ov7 ((g119 6).toInt) ((g 6).toInt) (congrArg Int32.toInt e_g119_6) hi_g6), (ov7 ((g119 7).toInt) ((g 7).toInt) (congrArg Int32.toInt e_g119_7) hi_g7)⟩ hw dX12_property_390
      · refine lv_iconst (v := 1) hx hb dX12_property_354 (by decide) ?_
        refine lv_goto (tgt := 359) hx hb dX12_property_355 (by decide) ?_
        refine lv_istore_n (lv' := [(3, .int 1), (0, .ref (ad 0)), (1, .int y1), (2, .int y2)]) hx hb dX12_property_359 rfl hl (by decide) rfl (fun ls hl => ?_)
        refine lv_aload_n hx hb dX12_property_360 rfl (lv_at hl 1 rfl) ?_
        refine lv_iload_n hx hb dX12_property_361 rfl (lv_at hl 0 rfl) ?_
        refine lv_if_eq (tgt := 369) hx hb dX12_property_362 (by decide) (fun cc121 => absurd cc121 (by decide)) (fun _ => ?_)
        refine lv_iload_n hx hb dX12_property_365 rfl (lv_at hl 3 rfl) ?_
        refine lv_goto (tgt := 373) hx hb dX12_property_366 (by decide) ?_
        refine jx_putg mw (cI := cI) (cJ := cJ) (ad := ad) (g := g1) (lg := lg) (ar := ar) (bk := bk) (x := y2) 9 (ci := 15) (C := RX12) (T := TX12) (N := 92) (ty := .int) hx hb hts (fun _ h => List.mem_cons_of_mem _ (wwMc_wsX120 _ h)) tyX12 tyX12_ok nmX12 hown hw 0 rfl rfl 9 (by decide) (hq _ wM_417) rfl (by decide +kernel) rfl rfl (Nat.le_of_ble_eq_true rfl) dX12_property_373 rfl (fun H locs g122 h_g122 hw => ?_)
        refine lv_goto (tgt := 381) hx hb dX12_property_376 (by decide) ?_
        refine lv_iload_n hx hb dX12_property_381 rfl (lv_at hl 0 rfl) ?_
        refine lv_if_eq (tgt := 389) hx hb dX12_property_382 (by decide) (fun cc123 => absurd cc123 (by decide)) (fun _ => ?_)
        refine lv_iconst (v := 1) hx hb dX12_property_385 (by decide) ?_
        refine lv_goto (tgt := 390) hx hb dX12_property_386 (by decide) ?_
        have e_g122_2 : g122 2 = (g 2) := ((hk_upgN h_g122 2 rfl)).trans (hk_upgN h_g1 2 rfl)
        have e_g122_3 : g122 3 = (g 3) := ((hk_upgN h_g122 3 rfl)).trans (hk_upgN h_g1 3 rfl)
        have e_g122_4 : g122 4 = (g 4) := ((hk_upgN h_g122 4 rfl)).trans (hk_upgN h_g1 4 rfl)
        have e_g122_5 : g122 5 = (g 5) := ((hk_upgN h_g122 5 rfl)).trans (hk_upgN h_g1 5 rfl)
        have e_g122_6 : g122 6 = (g 6) := ((hk_upgN h_g122 6 rfl)).trans (hk_upgN h_g1 6 rfl)
        have e_g122_7 : g122 7 = (g 7) := ((hk_upgN h_g122 7 rfl)).trans (hk_upgN h_g1 7 rfl)
        exact kr 1 g122 lg ar bk _ _ _ _ ⟨(hk_frG (hk_frG hk_fr0 (by decide) h_g1) (by decide) h_g122), rfl, rfl, rfl, (ov73 ((y1).toInt) ((y2).toInt) ((g 3).toInt) ((g 2).toInt) ((g 0).toInt) (((1 : Int32)).toInt) (((7 : Int32)).toInt) (((0 : Int32)).toInt) (hE_eq cc112) (hE_nlt cc113) (hE_nlt cc117) (by decide) (by decide) (by decide)), (ov74 ((y1).toInt) (((1 : Int32)).toInt) ((g122 2).toInt) ((y2).toInt) ((g 2).toInt) (((7 : Int32)).toInt) (hE_eq cc112) (congrArg Int32.toInt e_g122_2) (by decide)), (ov75 ((y1).toInt) (((1 : Int32)).toInt) ((g122 3).toInt) ((y2).toInt) ((g 3).toInt) (((7 : Int32)).toInt) (hE_eq cc112) (congrArg Int32.toInt e_g122_3) (by decide)), (ov4 ((g122 2).toInt) ((g 2).toInt) (congrArg Int32.toInt e_g122_2) hi_g2), (ov4 ((g122 3).toInt) ((g 3).toInt) (congrArg Int32.toInt e_g122_3) hi_g3), (ov5 ((g122 2).toInt) ((g122 3).toInt) ((g 2).toInt) ((g 3).toInt) (congrArg Int32.toInt e_g122_2) (congrArg Int32.toInt e_g122_3) hi_tlclp), (ov4 ((g122 4).toInt) ((g 4).toInt) (congrArg Int32.toInt e_g122_4) hi_g4), (ov6 ((g122 5).toInt) ((g 5).toInt) (congrArg Int32.toInt e_g122_5) hi_g5), (ov7 ((g122 6).toInt) ((g 6).toInt) (congrArg Int32.toInt e_g122_6) hi_g6), (ov7 ((g122 7).toInt) ((g 7).toInt) (congrArg Int32.toInt e_g122_7) hi_g7)⟩ hw dX12_property_390
  refine lv_tableOut (tgt := 379) hx hb dX12_property_6 (by simp only [← Int32.toInt_inj, hk_t0, hk_t1, hk_t2, hk_t3, hk_t4, hk_t5, hk_t6, hk_t7] at cc2 cc19 cc36 cc48 cc68 cc80 cc92 cc112; omega) (by decide) ?_
  refine lv_iconst (v := 0) hx hb dX12_property_379 (by decide) ?_
  refine lv_istore_n (lv' := [(3, .int 0), (0, .ref (ad 0)), (1, .int y1), (2, .int y2)]) hx hb dX12_property_380 rfl hl (by decide) rfl (fun ls hl => ?_)
  refine lv_iload_n hx hb dX12_property_381 rfl (lv_at hl 0 rfl) ?_
  refine lv_if_eq (tgt := 389) hx hb dX12_property_382 (by decide) (fun _ => ?_) (fun cc124 => absurd (by decide) cc124)
  refine lv_iconst (v := 0) hx hb dX12_property_389 (by decide) ?_
  have e_g1_2 : g1 2 = (g 2) := (hk_upgN h_g1 2 rfl)
  have e_g1_3 : g1 3 = (g 3) := (hk_upgN h_g1 3 rfl)
  have e_g1_4 : g1 4 = (g 4) := (hk_upgN h_g1 4 rfl)
  have e_g1_5 : g1 5 = (g 5) := (hk_upgN h_g1 5 rfl)
  have e_g1_6 : g1 6 = (g 6) := (hk_upgN h_g1 6 rfl)
  have e_g1_7 : g1 7 = (g 7) := (hk_upgN h_g1 7 rfl)
  exact kr 0 g1 lg ar bk _ _ _ _ ⟨(hk_frG hk_fr0 (by decide) h_g1), rfl, rfl, rfl, (ov76 ((y1).toInt) ((y2).toInt) ((g 3).toInt) ((g 2).toInt) ((g 0).toInt) (((0 : Int32)).toInt) (((1 : Int32)).toInt) (((2 : Int32)).toInt) (((3 : Int32)).toInt) (((4 : Int32)).toInt) (((5 : Int32)).toInt) (((6 : Int32)).toInt) (((7 : Int32)).toInt) (hE_ne cc2) (hE_ne cc19) (hE_ne cc36) (hE_ne cc48) (hE_ne cc68) (hE_ne cc80) (hE_ne cc92) (hE_ne cc112) (by decide) (by decide) (by decide) (by decide) (by decide) (by decide) (by decide) (by decide)), (ov2 ((y1).toInt) (((0 : Int32)).toInt) ((g1 2).toInt) ((y2).toInt) ((g 2).toInt) (congrArg Int32.toInt e_g1_2) (by decide)), (ov3 ((y1).toInt) (((0 : Int32)).toInt) ((g1 3).toInt) ((y2).toInt) ((g 3).toInt) (congrArg Int32.toInt e_g1_3) (by decide)), (ov4 ((g1 2).toInt) ((g 2).toInt) (congrArg Int32.toInt e_g1_2) hi_g2), (ov4 ((g1 3).toInt) ((g 3).toInt) (congrArg Int32.toInt e_g1_3) hi_g3), (ov5 ((g1 2).toInt) ((g1 3).toInt) ((g 2).toInt) ((g 3).toInt) (congrArg Int32.toInt e_g1_2) (congrArg Int32.toInt e_g1_3) hi_tlclp), (ov4 ((g1 4).toInt) ((g 4).toInt) (congrArg Int32.toInt e_g1_4) hi_g4), (ov6 ((g1 5).toInt) ((g 5).toInt) (congrArg Int32.toInt e_g1_5) hi_g5), (ov7 ((g1 6).toInt) ((g 6).toInt) (congrArg Int32.toInt e_g1_6) hi_g6), (ov7 ((g1 7).toInt) ((g 7).toInt) (congrArg Int32.toInt e_g1_7) hi_g7)⟩ hw dX12_property_390
