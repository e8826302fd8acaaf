/-! 81.mstate -/
theorem om150 (v0 : Int) (v1 : Int) (v2 : Int) (v3 : Int) (v4 : Int) (v5 : Int) (v6 : Int) (h0 : v0 = v5) (h1 : v1 = v6) (h2 : v2 = v6) (h3 : v3 = v6) (h4 : v4 = v6) (h5 : v5 = 0) (h6 : v6 = 1) : v0 = 0 ∧ v1 = 1 ∧ v2 = 1 ∧ v3 = 1 ∧ v4 = 1 := by omega
theorem om151 (v0 : Int) (v1 : Int) (h0 : v1 ≤ v0) (h1 : v1 = 14344) : ((14344 : Nat) : Int) ≤ v0 := by omega
theorem om152 (v0 : Int) (v1 : Int) (h0 : 0 ≤ v0) (h1 : v0 < v1) (h2 : v1 = 14344) : 0 ≤ v0 ∧ v0 < (14344 : Nat) := by omega
theorem om153 (v0 : Int) (v1 : Int) (v2 : Int) (h0 : 0 ≤ v0) (h1 : v0 < v2) (h2 : v1 = 1) (h3 : v2 = 14344) : -2147483648 ≤ v0 + v1 ∧ v0 + v1 ≤ 2147483647 := by omega
theorem om154 (v0 : Int) (v1 : Int) (v2 : Int) (h0 : 0 ≤ v0) (h1 : v1 = v0 + v2) (h2 : v2 = 1) : 0 ≤ v0 ∧ v1 = v0 + 1 := by omega
theorem om155 (v0 : Int) (v1 : Int) (v2 : Int) (v3 : Int) (v4 : Int) (v5 : Int) (v6 : Int) (v7 : Int) (h0 : 0 ≤ v0 ∧ v0 ≤ 3) (h1 : v0 ≠ v5) (h2 : v0 ≠ v6) (h3 : v0 ≠ v7) (h4 : v5 = 0) (h5 : v6 = 1) (h6 : v7 = 2) : (v0 = 0 → v1 = v2) ∧ (v0 = 1 → v1 = v3) ∧ (v0 = 2 → v1 = v4) ∧ (v0 = 3 → v1 = v1) := by omega
theorem om156 (v0 : Int) (v1 : Int) (v2 : Int) (v3 : Int) (v4 : Int) (v5 : Int) (h0 : v0 = v5) (h1 : v5 = 2) : (v0 = 0 → v1 = v2) ∧ (v0 = 1 → v1 = v3) ∧ (v0 = 2 → v1 = v1) ∧ (v0 = 3 → v1 = v4) := by omega
theorem om157 (v0 : Int) (v1 : Int) (v2 : Int) (v3 : Int) (v4 : Int) (v5 : Int) (h0 : v0 = v5) (h1 : v5 = 1) : (v0 = 0 → v1 = v2) ∧ (v0 = 1 → v1 = v1) ∧ (v0 = 2 → v1 = v3) ∧ (v0 = 3 → v1 = v4) := by omega
theorem om158 (v0 : Int) (v1 : Int) (v2 : Int) (v3 : Int) (v4 : Int) (v5 : Int) (h0 : v0 = v5) (h1 : v5 = 0) : (v0 = 0 → v1 = v1) ∧ (v0 = 1 → v1 = v2) ∧ (v0 = 2 → v1 = v3) ∧ (v0 = 3 → v1 = v4) := by omega
theorem om159 (v0 : Int) (h0 : 0 ≤ v0 ∧ v0 ≤ 3) : 0 ≤ v0 ∧ v0 ≤ 3 := by omega
theorem om160 (v0 : Int) (v1 : Int) (v2 : Int) (v3 : Int) (v4 : Int) (v5 : Int) (v6 : Int) (h0 : 0 ≤ v0 ∧ v0 ≤ 3) (h1 : (v0 = 0 → v6 = v2) ∧ (v0 = 1 → v6 = v3) ∧ (v0 = 2 → v6 = v4) ∧ (v0 = 3 → v6 = v5)) (h2 : v1 = v6) : (v0 = 0 → v1 = v2) ∧ (v0 = 1 → v1 = v3) ∧ (v0 = 2 → v1 = v4) ∧ (v0 = 3 → v1 = v5) := by omega
theorem om161 (v0 : Int) (v1 : Int) (v2 : Int) (v3 : Int) (v4 : Int) (v5 : Int) (v6 : Int) (h0 : v0 = v1) (h1 : (v2 = 0 → v1 = v3) ∧ (v2 = 1 → v1 = v4) ∧ (v2 = 2 → v1 = v5) ∧ (v2 = 3 → v1 = v6)) (h2 : 0 ≤ v2 ∧ v2 ≤ 3) (h3 : 1 ≤ v3 ∧ v3 ≤ 3000) (h4 : 1 ≤ v4 ∧ v4 ≤ 3000) (h5 : 1 ≤ v5 ∧ v5 ≤ 3000) (h6 : 1 ≤ v6 ∧ v6 ≤ 3000) : 1 ≤ v0 ∧ v0 ≤ 3000 := by omega
theorem om162 (v0 : Int) (v1 : Int) (h0 : v0 = v1) (h1 : 1 ≤ v1 ∧ v1 ≤ 3000) : 1 ≤ v0 ∧ v0 ≤ 3000 := by omega
theorem om163 (v0 : Int) (h0 : 1 ≤ v0 ∧ v0 ≤ 3000) : 1 ≤ v0 ∧ v0 ≤ 3000 := by omega
theorem om164 (v0 : Int) (v1 : Int) (h0 : v0 = v1) : v0 = v1 := by omega
theorem om165 (v0 : Int) (v1 : Int) (h0 : (v1 = 0 → v0 = 1) ∧ (v1 = 1 → v0 = 2) ∧ (v1 = 2 → v0 = 4) ∧ (v1 = 3 → v0 = 8) ∧ (v1 = 4 → v0 = 16)) (h1 : 0 ≤ v1 ∧ v1 ≤ 4) : 1 ≤ v0 ∧ v0 ≤ 16 := by omega
theorem om166 (v0 : Int) (v1 : Int) (h0 : 1 ≤ v0 ∧ v0 ≤ 16) (h1 : v1 = 1) : -2147483648 ≤ v0 - v1 ∧ v0 - v1 ≤ 2147483647 := by omega
theorem om167 (v0 : Int) (v1 : Int) (v2 : Int) (v3 : Int) (v4 : Int) (h0 : (0 ≤ v1 → 0 ≤ v0 ∧ v0 ≤ v1) ∧ (0 ≤ v2 → 0 ≤ v0 ∧ v0 ≤ v2)) (h1 : v2 = v3 - v4) (h2 : 1 ≤ v3 ∧ v3 ≤ 16) (h3 : v4 = 1) : 0 ≤ v0 ∧ v0 ≤ 15 := by omega
theorem om168 (v0 : Int) (v1 : Int) (v2 : Int) (h0 : 0 ≤ v0 ∧ v0 ≤ 11) (h1 : v2 ≤ v0) (h2 : v1 = 6) (h3 : v2 = 10) : -2147483648 ≤ v0 - v1 ∧ v0 - v1 ≤ 2147483647 := by omega
theorem om169 (v0 : Int) (v1 : Int) (v2 : Int) (v3 : Int) (h0 : v0 = v1) (h1 : v1 = v2 - v3) (h2 : 0 ≤ v2 ∧ v2 ≤ 11) (h3 : v3 = 6) : v0 ≤ 6 := by omega
theorem om170 (v0 : Int) (v1 : Int) (v2 : Int) (v3 : Int) (v4 : Int) (h0 : v0 = v1) (h1 : v1 = v2 - v3) (h2 : 0 ≤ v2 ∧ v2 ≤ 11) (h3 : v4 ≤ v2) (h4 : v3 = 6) (h5 : v4 = 10) : 0 ≤ v0 ∧ v0 ≤ 11 := by omega
theorem om171 (v0 : Int) (v1 : Int) (v2 : Int) (v3 : Int) (h0 : v2 ≤ v0) (h1 : v0 < v3) (h2 : v1 = 3) (h3 : v2 = 4) (h4 : v3 = 10) : -2147483648 ≤ v0 - v1 ∧ v0 - v1 ≤ 2147483647 := by omega
theorem om172 (v0 : Int) (v1 : Int) (v2 : Int) (v3 : Int) (v4 : Int) (h0 : v0 = v1) (h1 : v1 = v2 - v3) (h2 : v2 < v4) (h3 : v3 = 3) (h4 : v4 = 10) : v0 ≤ 6 := by omega
theorem om173 (v0 : Int) (v1 : Int) (v2 : Int) (v3 : Int) (v4 : Int) (v5 : Int) (h0 : v0 = v1) (h1 : v1 = v2 - v3) (h2 : v4 ≤ v2) (h3 : v2 < v5) (h4 : v3 = 3) (h5 : v4 = 4) (h6 : v5 = 10) : 0 ≤ v0 ∧ v0 ≤ 11 := by omega
theorem om174 (v0 : Int) (v1 : Int) (h0 : v0 = v1) (h1 : v1 = 0) : v0 ≤ 6 := by omega
theorem om175 (v0 : Int) (v1 : Int) (h0 : v0 = v1) (h1 : v1 = 0) : 0 ≤ v0 ∧ v0 ≤ 11 := by omega
theorem om176 (v0 : Int) (v1 : Int) (v2 : Int) (h0 : ((v1 = 0 ∧ 0 ≤ v2 ∧ v2 ≤ 15) → v0 = v2 * 1) ∧ ((v1 = 1 ∧ 0 ≤ v2 ∧ v2 ≤ 15) → v0 = v2 * 2) ∧ ((v1 = 2 ∧ 0 ≤ v2 ∧ v2 ≤ 15) → v0 = v2 * 4) ∧ ((v1 = 3 ∧ 0 ≤ v2 ∧ v2 ≤ 15) → v0 = v2 * 8) ∧ ((v1 = 4 ∧ 0 ≤ v2 ∧ v2 ≤ 15) → v0 = v2 * 16)) (h1 : 0 ≤ v1 ∧ v1 ≤ 4) (h2 : 0 ≤ v2 ∧ v2 ≤ 15) : 0 ≤ v0 ∧ v0 ≤ 240 := by omega
theorem om177 (v0 : Int) (v1 : Int) (h0 : 0 ≤ v1 ∧ v1 ≤ 4) (h1 : v0 = 8) : -2147483648 ≤ v0 - v1 ∧ v0 - v1 ≤ 2147483647 := by omega
theorem om178 (v0 : Int) (v1 : Int) (v2 : Int) (v3 : Int) (v4 : Int) (h0 : (v1 = 4 → v0 = v2 / 16) ∧ (v1 = 5 → v0 = v2 / 32) ∧ (v1 = 6 → v0 = v2 / 64) ∧ (v1 = 7 → v0 = v2 / 128) ∧ (v1 = 8 → v0 = v2 / 256)) (h1 : 0 ≤ v2 ∧ v2 ≤ 255) (h2 : v1 = v3 - v4) (h3 : 0 ≤ v4 ∧ v4 ≤ 4) (h4 : -2147483648 ≤ v2 ∧ v2 ≤ 2147483647) (h5 : v3 = 8) : 0 ≤ v0 ∧ v0 ≤ 15 := by omega
theorem om179 (v0 : Int) (v1 : Int) (h0 : 0 ≤ v0 ∧ v0 ≤ 240) (h1 : 0 ≤ v1 ∧ v1 ≤ 15) : -2147483648 ≤ v0 + v1 ∧ v0 + v1 ≤ 2147483647 := by omega
theorem om180 (v0 : Int) (v1 : Int) (v2 : Int) (v3 : Int) (v4 : Int) (v5 : Int) (v6 : Int) (v7 : Int) (v8 : Int) (v9 : Int) (v10 : Int) (v11 : Int) (v12 : Int) (h0 : v0 = v1 + v2) (h1 : ((v3 = 0 ∧ 0 ≤ v4 ∧ v4 ≤ 15) → v1 = v4 * 1) ∧ ((v3 = 1 ∧ 0 ≤ v4 ∧ v4 ≤ 15) → v1 = v4 * 2) ∧ ((v3 = 2 ∧ 0 ≤ v4 ∧ v4 ≤ 15) → v1 = v4 * 4) ∧ ((v3 = 3 ∧ 0 ≤ v4 ∧ v4 ≤ 15) → v1 = v4 * 8) ∧ ((v3 = 4 ∧ 0 ≤ v4 ∧ v4 ≤ 15) → v1 = v4 * 16)) (h2 : 0 ≤ v1 ∧ v1 ≤ 240) (h3 : (v5 = 4 → v2 = v6 / 16) ∧ (v5 = 5 → v2 = v6 / 32) ∧ (v5 = 6 → v2 = v6 / 64) ∧ (v5 = 7 → v2 = v6 / 128) ∧ (v5 = 8 → v2 = v6 / 256)) (h4 : 0 ≤ v2 ∧ v2 ≤ 15) (h5 : 0 ≤ v6 ∧ v6 ≤ 255) (h6 : 0 ≤ v3 ∧ v3 ≤ 4) (h7 : v3 + v7 ≤ 4) (h8 : (0 ≤ v8 → 0 ≤ v4 ∧ v4 ≤ v8) ∧ (0 ≤ v9 → 0 ≤ v4 ∧ v4 ≤ v9)) (h9 : 0 ≤ v4 ∧ v4 ≤ 15) (h10 : v5 = v10 - v3) (h11 : 0 ≤ v7 ∧ v7 ≤ 4) (h12 : (v7 = 0 → v11 = 1) ∧ (v7 = 1 → v11 = 2) ∧ (v7 = 2 → v11 = 4) ∧ (v7 = 3 → v11 = 8) ∧ (v7 = 4 → v11 = 16)) (h13 : v9 = v11 - v12) (h14 : 1 ≤ v11 ∧ v11 ≤ 16) (h15 : -2147483648 ≤ v0 ∧ v0 ≤ 2147483647) (h16 : -2147483648 ≤ v1 ∧ v1 ≤ 2147483647) (h17 : -2147483648 ≤ v2 ∧ v2 ≤ 2147483647) (h18 : -2147483648 ≤ v4 ∧ v4 ≤ 2147483647) (h19 : -2147483648 ≤ v3 ∧ v3 ≤ 2147483647) (h20 : -2147483648 ≤ v6 ∧ v6 ≤ 2147483647) (h21 : -2147483648 ≤ v5 ∧ v5 ≤ 2147483647) (h22 : -2147483648 ≤ v7 ∧ v7 ≤ 2147483647) (h23 : -2147483648 ≤ v8 ∧ v8 ≤ 2147483647) (h24 : -2147483648 ≤ v9 ∧ v9 ≤ 2147483647) (h25 : v10 = 8) (h26 : -2147483648 ≤ v11 ∧ v11 ≤ 2147483647) (h27 : v12 = 1) : 0 ≤ v0 ∧ v0 ≤ 15 := by omega
theorem om181 (v0 : Int) (v1 : Int) (v2 : Int) (h0 : v0 = v1 + v2) (h1 : 0 ≤ v0 ∧ v0 ≤ 15) (h2 : 0 ≤ v1 ∧ v1 ≤ 240) (h3 : 0 ≤ v2 ∧ v2 ≤ 15) : -2147483648 ≤ v0 * 768 ∧ v0 * 768 ≤ 2147483647 := by omega
theorem om182 (v0 : Int) (v1 : Int) (v2 : Int) (v3 : Int) (v4 : Int) (h0 : v1 = v2 * 768) (h1 : v2 = v3 + v4) (h2 : 0 ≤ v2 ∧ v2 ≤ 15) (h3 : 0 ≤ v3 ∧ v3 ≤ 240) (h4 : 0 ≤ v4 ∧ v4 ≤ 15) (h5 : v0 = 2056) (h6 : -2147483648 ≤ v1 ∧ v1 ≤ 2147483647) : -2147483648 ≤ v0 + v1 ∧ v0 + v1 ≤ 2147483647 := by omega
theorem om183 (v0 : Int) (v1 : Int) (v2 : Int) (v3 : Int) (v4 : Int) (v5 : Int) (h0 : v0 = v1 + v2) (h1 : v2 = v3 * 768) (h2 : v3 = v4 + v5) (h3 : 0 ≤ v3 ∧ v3 ≤ 15) (h4 : 0 ≤ v4 ∧ v4 ≤ 240) (h5 : 0 ≤ v5 ∧ v5 ≤ 15) (h6 : v1 = 2056) : 2056 ≤ v0 ∧ v0 ≤ 13576 := by omega
theorem om184 (v0 : Int) (v1 : Int) (h0 : 0 ≤ v0 ∧ v0 ≤ 15) (h1 : v0 ≠ v1) (h2 : v1 = 0) : 1 ≤ v0 := by omega
theorem om185 (v0 : Int) (v1 : Int) (h0 : 0 ≤ v0 ∧ v0 ≤ 15) (h1 : v0 ≠ v1) (h2 : v1 = 0) : 0 ≤ v0 ∧ v0 ≤ 15 := by omega
theorem om186 (v0 : Int) (v1 : Int) (h0 : v0 = v1) (h1 : 1 ≤ v1 ∧ v1 ≤ 15) : 1 ≤ v0 := by omega
theorem om187 (v0 : Int) (v1 : Int) (h0 : v0 = v1) (h1 : 1 ≤ v1 ∧ v1 ≤ 15) : 0 ≤ v0 ∧ v0 ≤ 15 := by omega
theorem om188 (v0 : Int) (h0 : v0 = 1) : 1 ≤ v0 ∧ v0 ≤ 15 := by omega
theorem om189 (v0 : Int) (v1 : Int) (h0 : 0 ≤ v0 ∧ v0 ≤ 15) (h1 : v0 ≤ v1) (h2 : v1 = 0) : 0 ≤ v0 ∧ v0 ≤ 15 := by omega
theorem om190 (v0 : Int) (h0 : v0 = 0) : 0 ≤ v0 ∧ v0 ≤ 255 := by omega
theorem om191 (v0 : Int) (v1 : Int) (v2 : Int) (v3 : Int) (h0 : 1 ≤ v2) (h1 : v0 = v1) : v0 = v1 + 1 ∧ v2 = v3 ∨ v0 = v1 ∧ 1 ≤ v2 := by omega
theorem om192 (v0 : Int) (v1 : Int) (h0 : v1 = v0) : v0 ≤ v1 := by omega
theorem om193 (v0 : Int) (h0 : 1 ≤ v0) (h1 : 0 ≤ v0 ∧ v0 ≤ 15) : 0 ≤ v0 ∧ v0 ≤ 15 := by omega
theorem om194 (v0 : Int) (v1 : Int) (v2 : Int) (h0 : 0 ≤ v0 ∧ v0 ≤ 1500) (h1 : v0 < v2) (h2 : 0 ≤ v2 ∧ v2 ≤ 1500) (h3 : v1 = 1) : -2147483648 ≤ v0 + v1 ∧ v0 + v1 ≤ 2147483647 := by omega
theorem om195 (v0 : Int) (v1 : Int) (v2 : Int) (v3 : Int) (h0 : v0 = v2 + v1) (h1 : 0 ≤ v2 ∧ v2 ≤ 1500) (h2 : v2 < v3) (h3 : 0 ≤ v3 ∧ v3 ≤ 1500) : -2147483648 ≤ v0 - v1 ∧ v0 - v1 ≤ 2147483647 := by omega
theorem om196 (v0 : Int) (v1 : Int) (v2 : Int) (v3 : Int) (v4 : Int) (h0 : v0 = v1 - v2) (h1 : v1 = v3 + v2) (h2 : 0 ≤ v3 ∧ v3 ≤ 1500) (h3 : v3 < v4) (h4 : 0 ≤ v4 ∧ v4 ≤ 1500) : 0 ≤ v0 ∧ v0 < (1500 : Nat) := by omega
theorem om197 (v0 : Int) (v1 : Int) (v2 : Int) (v3 : Int) (v4 : Int) (v5 : Int) (h0 : v4 = v1 + v5) (h1 : v0 = v4) (h2 : v2 = v3) (h3 : v5 = 1) : v0 = v1 + 1 ∧ v2 = v3 ∨ v0 = v1 ∧ 1 ≤ v2 := by omega
theorem om198 (v0 : Int) (v1 : Int) (v2 : Int) (v3 : Int) (h0 : v2 = v0 + v3) (h1 : v1 = v2) (h2 : v3 = 1) : v0 ≤ v1 := by omega
theorem om199 (v0 : Int) (v1 : Int) (v2 : Int) (v3 : Int) (v4 : Int) (h0 : v0 = v1) (h1 : v1 = v2 + v3) (h2 : 0 ≤ v2 ∧ v2 ≤ 1500) (h3 : v2 < v4) (h4 : 0 ≤ v4 ∧ v4 ≤ 1500) (h5 : v3 = 1) : 0 ≤ v0 ∧ v0 ≤ 1500 := by omega
theorem om200 (v0 : Int) (v1 : Int) (v2 : Int) (h0 : v0 = v1) (h1 : 0 ≤ v1 ∧ v1 ≤ 15) (h2 : v1 ≤ v2) (h3 : v2 = 0) : 0 ≤ v0 ∧ v0 ≤ 15 := by omega
theorem om201 (v0 : Int) (v1 : Int) (v2 : Int) (h0 : v2 < v1) (h1 : v2 = 0) : v0 = v0 + 1 ∧ v1 = v1 ∨ v0 = v0 ∧ 1 ≤ v1 := by omega
theorem om202 (v0 : Int) (h0 : 0 ≤ v0 ∧ v0 ≤ 1500) : 0 ≤ v0 ∧ v0 ≤ 1500 := by omega
theorem om203 (v0 : Int) (v1 : Int) (h0 : 0 ≤ v0 ∧ v0 ≤ 15) (h1 : v1 < v0) (h2 : v1 = 0) : 0 ≤ v0 ∧ v0 ≤ 15 := by omega
theorem om204 (v0 : Int) (v1 : Int) (h0 : v0 ≤ v1) : v0 ≤ v1 := by omega
theorem om205 (v0 : Int) (v1 : Int) (h0 : 1 ≤ v0 → 1 ≤ v1) : (1 ≤ v0 → 1 ≤ v1) := by omega
theorem om206 (v0 : Int) (h0 : 0 ≤ v0 ∧ v0 ≤ 15) : 0 ≤ v0 ∧ v0 ≤ 15 := by omega
theorem om207 (v0 : Int) (v1 : Int) (h0 : 0 ≤ v0) (h1 : v0 < v1) (h2 : 0 ≤ v1 ∧ v1 ≤ 8) : -2147483648 ≤ v0 * 8 ∧ v0 * 8 ≤ 2147483647 := by omega
theorem om208 (v0 : Int) (v1 : Int) (v2 : Int) (h0 : 0 ≤ v0) (h1 : v0 < v2) (h2 : 0 ≤ v2 ∧ v2 ≤ 8) (h3 : v1 = 1) : -2147483648 ≤ v0 + v1 ∧ v0 + v1 ≤ 2147483647 := by omega
theorem om209 (v0 : Int) (v1 : Int) (v2 : Int) (h0 : v0 ≤ v2) (h1 : v2 ≤ v1) : v0 ≤ v1 := by omega
theorem om210 (v0 : Int) (v1 : Int) (v2 : Int) (v3 : Int) (v4 : Int) (h0 : 1 ≤ v0 → 1 ≤ v2) (h1 : v3 = v4 + 1 ∧ v1 = v2 ∨ v3 = v4 ∧ 1 ≤ v1) : 1 ≤ v0 → 1 ≤ v1 := by omega
theorem om211 (v0 : Int)  : 1 ≤ v0 → 1 ≤ v0 := by omega
theorem om212 (v0 : Int) (v1 : Int) (v2 : Int) (h0 : v0 ≤ v2) (h1 : v1 = v2) : v0 ≤ v1 := by omega
theorem om213 (v0 : Int) (v1 : Int) (h0 : 1 ≤ v0 → 1 ≤ v1) : 1 ≤ v0 → 1 ≤ v1 := by omega
theorem om214 (v0 : Int) (v1 : Int) (v2 : Int) (v3 : Int) (h0 : v2 = v3 + 1 ∧ v1 = v0 ∨ v2 = v3 ∧ 1 ≤ v1) : 1 ≤ v0 → 1 ≤ v1 := by omega
theorem om215 (v0 : Int) (v1 : Int) (h0 : 0 ≤ v0 ∧ v0 ≤ 15) (h1 : v0 = v1) (h2 : v1 = 0) : 0 ≤ v0 ∧ v0 ≤ 15 := by omega
theorem om216 (v0 : Int) (h0 : v0 = 2) : 1 ≤ v0 ∧ v0 ≤ 15 := by omega
theorem om217 (v0 : Int) (v1 : Int) (h0 : 1 ≤ v1) : 1 ≤ v0 → 1 ≤ v1 := by omega
theorem om218 (v0 : Int) (v1 : Int) (h0 : 0 ≤ v0 ∧ v0 ≤ 1500) (h1 : 0 ≤ v1 ∧ v1 ≤ 15) (h2 : 20 * (1502 - v0) - v1 ≤ 0) : (0 * v0 + 0 * v1) ≤ -1 := by omega
theorem om219 (v0 : Int) (v1 : Int) (v2 : Int) (v3 : Int) (v4 : Int) (v5 : Int) (h0 : 20 * (1502 - v3) - v4 ≤ v2 + 1) (h1 : v0 = v3 + 1 ∧ v1 = v4 ∨ v0 = v3 ∧ 1 ≤ v1) (h2 : v3 ≤ v0) (h3 : v4 = v5) (h4 : v5 = 0) : 20 * (1502 - v0) - v1 ≤ v2 := by omega
theorem om220 (v0 : Int) (v1 : Int) (v2 : Int) (v3 : Int) (h0 : 1 ≤ v0 → 1 ≤ v2) (h1 : v2 = v3) (h2 : v3 = 0) : 1 ≤ v0 → 1 ≤ v1 := by omega
theorem om221 (v0 : Int) (v1 : Int) (v2 : Int) (v3 : Int) (v4 : Int) (h0 : v1 = v2 + 1 ∧ v0 = v3 ∨ v1 = v2 ∧ 1 ≤ v0) (h1 : 0 ≤ v0 ∧ v0 ≤ 15) (h2 : v3 = v4) (h3 : v4 = 0) : 0 ≤ v0 ∧ v0 ≤ 15 := by omega
theorem om222 (v0 : Int) (h0 : 0 ≤ v0 ∧ v0 < 14344) : 0 ≤ v0 ∧ v0 < (14344 : Nat) := by omega
theorem om223 (v0 : Int) (h0 : 0 ≤ v0 ∧ v0 ≤ 1) : 0 ≤ v0 ∧ v0 ≤ 1 := by omega
theorem om224 (v0 : Int) (v1 : Int) (v2 : Int) (h0 : v0 ≤ v2) (h1 : v2 = 0) : (1 ≤ v0 → 1 ≤ v1) := by omega
theorem om225 (v0 : Int) (h0 : v0 = 1) : 0 ≤ v0 ∧ v0 ≤ 1 := by omega
theorem om226 (v0 : Int) (h0 : v0 = 0) : 0 ≤ v0 ∧ v0 ≤ 1 := by omega
theorem om227 (v0 : Int)  : (1 ≤ v0 → 1 ≤ v0) := by omega
theorem om228 (v0 : Int) (v1 : Int) (h0 : v0 ≤ v1) (h1 : 2147483648 - v0 ≤ 0) (h2 : 0 ≤ v1 ∧ v1 ≤ 8) : (0 * v0) ≤ -1 := by omega
theorem om229 (v0 : Int) (v1 : Int) (h0 : (v1 = 0 → v0 = 1) ∧ (v1 = 1 → v0 = 2) ∧ (v1 = 2 → v0 = 4) ∧ (v1 = 3 → v0 = 8) ∧ (v1 = 4 → v0 = 16) ∧ (v1 = 5 → v0 = 32) ∧ (v1 = 6 → v0 = 64) ∧ (v1 = 7 → v0 = 128) ∧ (v1 = 8 → v0 = 256)) (h1 : 0 ≤ v1 ∧ v1 ≤ 8) : 1 ≤ v0 ∧ v0 ≤ 256 := by omega
theorem om230 (v0 : Int) (v1 : Int) (h0 : 1 ≤ v0 ∧ v0 ≤ 511) (h1 : 1 ≤ v1 ∧ v1 ≤ 256) : -2147483648 ≤ v0 - v1 ∧ v0 - v1 ≤ 2147483647 := by omega
theorem om231 (v0 : Int) (v1 : Int) (v2 : Int) (v3 : Int) (v4 : Int) (v5 : Int) (h0 : 0 ≤ v0 ∧ v0 ≤ 8) (h1 : v2 ≤ v0) (h2 : v0 ≤ v2) (h3 : (v0 = 0 → v3 = 1) ∧ (v0 = 1 → v3 = 2) ∧ (v0 = 2 → v3 = 4) ∧ (v0 = 3 → v3 = 8) ∧ (v0 = 4 → v3 = 16) ∧ (v0 = 5 → v3 = 32) ∧ (v0 = 6 → v3 = 64) ∧ (v0 = 7 → v3 = 128) ∧ (v0 = 8 → v3 = 256)) (h4 : v1 = v4 - v3) (h5 : 1 ≤ v4 ∧ v4 ≤ 511) (h6 : (v2 = 0 → 1 ≤ v4 ∧ v4 ≤ 1) ∧ (v2 = 1 → 2 ≤ v4 ∧ v4 ≤ 3) ∧ (v2 = 2 → 4 ≤ v4 ∧ v4 ≤ 7) ∧ (v2 = 3 → 8 ≤ v4 ∧ v4 ≤ 15) ∧ (v2 = 4 → 16 ≤ v4 ∧ v4 ≤ 31) ∧ (v2 = 5 → 32 ≤ v4 ∧ v4 ≤ 63) ∧ (v2 = 6 → 64 ≤ v4 ∧ v4 ≤ 127) ∧ (v2 = 7 → 128 ≤ v4 ∧ v4 ≤ 255) ∧ (v2 = 8 → 256 ≤ v4 ∧ v4 ≤ 511)) (h7 : 0 ≤ v2) (h8 : 2147483648 - v2 ≤ v5 + 1) (h9 : 1 ≤ v3 ∧ v3 ≤ 256) (h10 : -2147483648 ≤ v0 ∧ v0 ≤ 2147483647) (h11 : -2147483648 ≤ v1 ∧ v1 ≤ 2147483647) (h12 : -2147483648 ≤ v2 ∧ v2 ≤ 2147483647) (h13 : -2147483648 ≤ v3 ∧ v3 ≤ 2147483647) (h14 : -2147483648 ≤ v4 ∧ v4 ≤ 2147483647) : (v0 = 3 → 0 ≤ v1 ∧ v1 ≤ 7) ∧ (v0 = 6 → 0 ≤ v1 ∧ v1 ≤ 63) ∧ (v0 = 8 → 0 ≤ v1 ∧ v1 ≤ 255) := by omega
theorem om232 (v0 : Int) (h0 : 1 ≤ v0 ∧ v0 ≤ 511) : -2147483648 ≤ v0 * 2 ∧ v0 * 2 ≤ 2147483647 := by omega
theorem om233 (v0 : Int) (v1 : Int) (h0 : 0 ≤ v0 ∧ v0 ≤ 14000) (h1 : 1 ≤ v1 ∧ v1 ≤ 511) : -2147483648 ≤ v0 + v1 ∧ v0 + v1 ≤ 2147483647 := by omega
theorem om234 (v0 : Int) (v1 : Int) (v2 : Int) (v3 : Int) (v4 : Int) (h0 : v0 = v1 + v2) (h1 : 0 ≤ v1 ∧ v1 ≤ 14000) (h2 : 1 ≤ v2 ∧ v2 ≤ 511) (h3 : (v3 = 0 → 1 ≤ v2 ∧ v2 ≤ 1) ∧ (v3 = 1 → 2 ≤ v2 ∧ v2 ≤ 3) ∧ (v3 = 2 → 4 ≤ v2 ∧ v2 ≤ 7) ∧ (v3 = 3 → 8 ≤ v2 ∧ v2 ≤ 15) ∧ (v3 = 4 → 16 ≤ v2 ∧ v2 ≤ 31) ∧ (v3 = 5 → 32 ≤ v2 ∧ v2 ≤ 63) ∧ (v3 = 6 → 64 ≤ v2 ∧ v2 ≤ 127) ∧ (v3 = 7 → 128 ≤ v2 ∧ v2 ≤ 255) ∧ (v3 = 8 → 256 ≤ v2 ∧ v2 ≤ 511)) (h4 : 0 ≤ v3) (h5 : v3 < v4) (h6 : 0 ≤ v4 ∧ v4 ≤ 8) : 0 ≤ v0 ∧ v0 < 14344 := by omega
theorem om235 (v0 : Int) (v1 : Int) (v2 : Int) (h0 : v0 = v2 * 2) (h1 : 0 ≤ v1 ∧ v1 ≤ 1) (h2 : 1 ≤ v2 ∧ v2 ≤ 511) (h3 : -2147483648 ≤ v0 ∧ v0 ≤ 2147483647) : -2147483648 ≤ v0 + v1 ∧ v0 + v1 ≤ 2147483647 := by omega
theorem om236 (v0 : Int) (v1 : Int) (v2 : Int) (v3 : Int) (h0 : v2 < v1) (h1 : v0 = v2 + v3) (h2 : v3 = 1) : v0 ≤ v1 := by omega
theorem om237 (v0 : Int) (v1 : Int) (v2 : Int) (v3 : Int) (v4 : Int) (v5 : Int) (h0 : v0 = v1 + v2) (h1 : v1 = v3 * 2) (h2 : 0 ≤ v2 ∧ v2 ≤ 1) (h3 : 1 ≤ v3 ∧ v3 ≤ 511) (h4 : (v4 = 0 → 1 ≤ v3 ∧ v3 ≤ 1) ∧ (v4 = 1 → 2 ≤ v3 ∧ v3 ≤ 3) ∧ (v4 = 2 → 4 ≤ v3 ∧ v3 ≤ 7) ∧ (v4 = 3 → 8 ≤ v3 ∧ v3 ≤ 15) ∧ (v4 = 4 → 16 ≤ v3 ∧ v3 ≤ 31) ∧ (v4 = 5 → 32 ≤ v3 ∧ v3 ≤ 63) ∧ (v4 = 6 → 64 ≤ v3 ∧ v3 ≤ 127) ∧ (v4 = 7 → 128 ≤ v3 ∧ v3 ≤ 255) ∧ (v4 = 8 → 256 ≤ v3 ∧ v3 ≤ 511)) (h5 : 0 ≤ v4) (h6 : v4 < v5) (h7 : 0 ≤ v5 ∧ v5 ≤ 8) : 1 ≤ v0 ∧ v0 ≤ 511 := by omega
theorem om238 (v0 : Int) (v1 : Int) (v2 : Int) (v3 : Int) (v4 : Int) (v5 : Int) (v6 : Int) (v7 : Int) (h0 : v1 = v2 + v3) (h1 : v0 = v4 + v5) (h2 : (v4 = 0 → 1 ≤ v6 ∧ v6 ≤ 1) ∧ (v4 = 1 → 2 ≤ v6 ∧ v6 ≤ 3) ∧ (v4 = 2 → 4 ≤ v6 ∧ v6 ≤ 7) ∧ (v4 = 3 → 8 ≤ v6 ∧ v6 ≤ 15) ∧ (v4 = 4 → 16 ≤ v6 ∧ v6 ≤ 31) ∧ (v4 = 5 → 32 ≤ v6 ∧ v6 ≤ 63) ∧ (v4 = 6 → 64 ≤ v6 ∧ v6 ≤ 127) ∧ (v4 = 7 → 128 ≤ v6 ∧ v6 ≤ 255) ∧ (v4 = 8 → 256 ≤ v6 ∧ v6 ≤ 511)) (h3 : 0 ≤ v4) (h4 : v4 < v7) (h5 : v2 = v6 * 2) (h6 : 0 ≤ v3 ∧ v3 ≤ 1) (h7 : 0 ≤ v7 ∧ v7 ≤ 8) (h8 : 1 ≤ v6 ∧ v6 ≤ 511) (h9 : v5 = 1) : (v0 = 0 → 1 ≤ v1 ∧ v1 ≤ 1) ∧ (v0 = 1 → 2 ≤ v1 ∧ v1 ≤ 3) ∧ (v0 = 2 → 4 ≤ v1 ∧ v1 ≤ 7) ∧ (v0 = 3 → 8 ≤ v1 ∧ v1 ≤ 15) ∧ (v0 = 4 → 16 ≤ v1 ∧ v1 ≤ 31) ∧ (v0 = 5 → 32 ≤ v1 ∧ v1 ≤ 63) ∧ (v0 = 6 → 64 ≤ v1 ∧ v1 ≤ 127) ∧ (v0 = 7 → 128 ≤ v1 ∧ v1 ≤ 255) ∧ (v0 = 8 → 256 ≤ v1 ∧ v1 ≤ 511) := by omega
theorem om239 (v0 : Int) (v1 : Int) (v2 : Int) (h0 : 1 ≤ v0 → 1 ≤ v2) (h1 : (1 ≤ v2 → 1 ≤ v1)) : 1 ≤ v0 → 1 ≤ v1 := by omega
theorem om240 (v0 : Int) (v1 : Int) (h0 : 0 ≤ v1 ∧ v1 ≤ 8) (h1 : v0 = 0) : v0 ≤ v1 := by omega
theorem om241 (v0 : Int) (h0 : v0 = 1) : 1 ≤ v0 ∧ v0 ≤ 511 := by omega
theorem om242 (v0 : Int) (v1 : Int) (h0 : v0 = 0) (h1 : v1 = 1) : (v0 = 0 → 1 ≤ v1 ∧ v1 ≤ 1) ∧ (v0 = 1 → 2 ≤ v1 ∧ v1 ≤ 3) ∧ (v0 = 2 → 4 ≤ v1 ∧ v1 ≤ 7) ∧ (v0 = 3 → 8 ≤ v1 ∧ v1 ≤ 15) ∧ (v0 = 4 → 16 ≤ v1 ∧ v1 ≤ 31) ∧ (v0 = 5 → 32 ≤ v1 ∧ v1 ≤ 63) ∧ (v0 = 6 → 64 ≤ v1 ∧ v1 ≤ 127) ∧ (v0 = 7 → 128 ≤ v1 ∧ v1 ≤ 255) ∧ (v0 = 8 → 256 ≤ v1 ∧ v1 ≤ 511) := by omega
theorem om243 (v0 : Int) (v1 : Int) (h0 : v0 ≤ v1) (h1 : 2147483648 - v0 ≤ 0) (h2 : 0 ≤ v1 ∧ v1 ≤ 5) : (0 * v0) ≤ -1 := by omega
theorem om244 (v0 : Int) (h0 : 0 ≤ v0 ∧ v0 < 64) : 0 ≤ v0 ∧ v0 < 64 := by omega
theorem om245 (v0 : Int) (v1 : Int) (h0 : 0 ≤ v0 ∧ v0 ≤ 14000) (h1 : 1 ≤ v1 ∧ v1 ≤ 63) : -2147483648 ≤ v0 + v1 ∧ v0 + v1 ≤ 2147483647 := by omega
theorem om246 (v0 : Int) (v1 : Int) (v2 : Int) (h0 : v0 = v1 + v2) (h1 : 0 ≤ v1 ∧ v1 ≤ 14000) (h2 : 1 ≤ v2 ∧ v2 ≤ 63) : 0 ≤ v0 ∧ v0 < 14344 := by omega
theorem om247 (v0 : Int) (h0 : 1 ≤ v0 ∧ v0 ≤ 63) : -2147483648 ≤ v0 * 2 ∧ v0 * 2 ≤ 2147483647 := by omega
theorem om248 (v0 : Int) (v1 : Int) (v2 : Int) (h0 : 0 ≤ v1 ∧ v1 ≤ 1) (h1 : v0 = v2 * 2) (h2 : 1 ≤ v2 ∧ v2 ≤ 63) (h3 : -2147483648 ≤ v0 ∧ v0 ≤ 2147483647) : -2147483648 ≤ v0 + v1 ∧ v0 + v1 ≤ 2147483647 := by omega
theorem om249 (v0 : Int) (v1 : Int) (v2 : Int) (h0 : 0 ≤ v0) (h1 : v0 < v2) (h2 : 0 ≤ v2 ∧ v2 ≤ 5) (h3 : v1 = 1) : -2147483648 ≤ v0 + v1 ∧ v0 + v1 ≤ 2147483647 := by omega
theorem om250 (v0 : Int) (v1 : Int) (v2 : Int) (v3 : Int) (v4 : Int) (v5 : Int) (h0 : v0 = v1 + v2) (h1 : 0 ≤ v2 ∧ v2 ≤ 1) (h2 : v1 = v3 * 2) (h3 : 1 ≤ v3 ∧ v3 ≤ 63) (h4 : (v4 = 0 → 1 ≤ v3 ∧ v3 ≤ 1) ∧ (v4 = 1 → 2 ≤ v3 ∧ v3 ≤ 3) ∧ (v4 = 2 → 4 ≤ v3 ∧ v3 ≤ 7) ∧ (v4 = 3 → 8 ≤ v3 ∧ v3 ≤ 15) ∧ (v4 = 4 → 16 ≤ v3 ∧ v3 ≤ 31) ∧ (v4 = 5 → 32 ≤ v3 ∧ v3 ≤ 63)) (h5 : 0 ≤ v4) (h6 : v4 < v5) (h7 : 0 ≤ v5 ∧ v5 ≤ 5) : 1 ≤ v0 ∧ v0 ≤ 63 := by omega
theorem om251 (v0 : Int) (v1 : Int) (v2 : Int) (v3 : Int) (v4 : Int) (v5 : Int) (h0 : (0 ≤ v1 ∧ v1 < 64 ∧ 0 ≤ v2 ∧ v2 < 64) → (0 ≤ v0 ∧ v0 < 64)) (h1 : 0 ≤ v1 ∧ v1 < 64) (h2 : (0 ≤ v3 ∧ v3 ≤ 1 ∧ 0 ≤ v4 ∧ v4 ≤ 5) → (0 ≤ v2 ∧ v2 ≤ 32)) (h3 : 0 ≤ v4) (h4 : v4 < v5) (h5 : 0 ≤ v3 ∧ v3 ≤ 1) (h6 : 0 ≤ v5 ∧ v5 ≤ 5) : 0 ≤ v0 ∧ v0 < 64 := by omega
theorem om252 (v0 : Int) (v1 : Int) (v2 : Int) (v3 : Int) (v4 : Int) (v5 : Int) (v6 : Int) (v7 : Int) (h0 : v1 = v2 + v3) (h1 : v0 = v4 + v5) (h2 : (v4 = 0 → 1 ≤ v6 ∧ v6 ≤ 1) ∧ (v4 = 1 → 2 ≤ v6 ∧ v6 ≤ 3) ∧ (v4 = 2 → 4 ≤ v6 ∧ v6 ≤ 7) ∧ (v4 = 3 → 8 ≤ v6 ∧ v6 ≤ 15) ∧ (v4 = 4 → 16 ≤ v6 ∧ v6 ≤ 31) ∧ (v4 = 5 → 32 ≤ v6 ∧ v6 ≤ 63)) (h3 : 0 ≤ v4) (h4 : v4 < v7) (h5 : 0 ≤ v3 ∧ v3 ≤ 1) (h6 : v2 = v6 * 2) (h7 : 0 ≤ v7 ∧ v7 ≤ 5) (h8 : 1 ≤ v6 ∧ v6 ≤ 63) (h9 : v5 = 1) : (v0 = 0 → 1 ≤ v1 ∧ v1 ≤ 1) ∧ (v0 = 1 → 2 ≤ v1 ∧ v1 ≤ 3) ∧ (v0 = 2 → 4 ≤ v1 ∧ v1 ≤ 7) ∧ (v0 = 3 → 8 ≤ v1 ∧ v1 ≤ 15) ∧ (v0 = 4 → 16 ≤ v1 ∧ v1 ≤ 31) ∧ (v0 = 5 → 32 ≤ v1 ∧ v1 ≤ 63) := by omega
theorem om253 (v0 : Int) (v1 : Int) (h0 : 0 ≤ v1 ∧ v1 ≤ 5) (h1 : v0 = 0) : v0 ≤ v1 := by omega
theorem om254 (v0 : Int) (h0 : v0 = 1) : 1 ≤ v0 ∧ v0 ≤ 63 := by omega
theorem om255 (v0 : Int) (h0 : v0 = 0) : 0 ≤ v0 ∧ v0 < 64 := by omega
theorem om256 (v0 : Int) (v1 : Int) (h0 : v0 = 0) (h1 : v1 = 1) : (v0 = 0 → 1 ≤ v1 ∧ v1 ≤ 1) ∧ (v0 = 1 → 2 ≤ v1 ∧ v1 ≤ 3) ∧ (v0 = 2 → 4 ≤ v1 ∧ v1 ≤ 7) ∧ (v0 = 3 → 8 ≤ v1 ∧ v1 ≤ 15) ∧ (v0 = 4 → 16 ≤ v1 ∧ v1 ≤ 31) ∧ (v0 = 5 → 32 ≤ v1 ∧ v1 ≤ 63) := by omega
theorem om257 (v0 : Int) (h0 : 0 ≤ v0 ∧ v0 ≤ 4) : 0 ≤ v0 ∧ v0 ≤ 4 := by omega
theorem om258 (v0 : Int) (h0 : 0 ≤ v0 ∧ v0 ≤ 2000) : 0 ≤ v0 ∧ v0 < 14344 := by omega
theorem om259 (v0 : Int) (v1 : Int) (h0 : 0 ≤ v0 ∧ v0 ≤ 2000) (h1 : v1 = 1) : -2147483648 ≤ v0 + v1 ∧ v0 + v1 ≤ 2147483647 := by omega
theorem om260 (v0 : Int) (v1 : Int) (v2 : Int) (h0 : v0 = v1 + v2) (h1 : 0 ≤ v1 ∧ v1 ≤ 2000) (h2 : v2 = 1) : 0 ≤ v0 ∧ v0 < 14344 := by omega
theorem om261 (v0 : Int) (v1 : Int) (h0 : 0 ≤ v0 ∧ v0 ≤ 2000) (h1 : v1 = 260) : -2147483648 ≤ v0 + v1 ∧ v0 + v1 ≤ 2147483647 := by omega
theorem om262 (v0 : Int) (v1 : Int) (v2 : Int) (h0 : v0 = v1 + v2) (h1 : 0 ≤ v1 ∧ v1 ≤ 2000) (h2 : v2 = 260) : 0 ≤ v0 ∧ v0 ≤ 14000 := by omega
theorem om263 (v0 : Int) (h0 : v0 = 8) : 0 ≤ v0 ∧ v0 ≤ 8 := by omega
theorem om264 (v0 : Int) (v1 : Int) (h0 : (v1 = 3 → 0 ≤ v0 ∧ v0 ≤ 7) ∧ (v1 = 6 → 0 ≤ v0 ∧ v0 ≤ 63) ∧ (v1 = 8 → 0 ≤ v0 ∧ v0 ≤ 255)) (h1 : v1 = 8) : 0 ≤ v0 ∧ v0 ≤ 255 := by omega
theorem om265 (v0 : Int) (v1 : Int) (h0 : 0 ≤ v1 ∧ v1 ≤ 255) (h1 : v0 = 18) : -2147483648 ≤ v0 + v1 ∧ v0 + v1 ≤ 2147483647 := by omega
theorem om266 (v0 : Int) (v1 : Int) (v2 : Int) (h0 : v0 = v1 + v2) (h1 : 0 ≤ v2 ∧ v2 ≤ 255) (h2 : v1 = 18) : 2 ≤ v0 ∧ v0 ≤ 273 := by omega
theorem om267 (v0 : Int) (v1 : Int) (v2 : Int) (v3 : Int) (h0 : v0 ≤ v2) (h1 : v3 ≤ v1) (h2 : v2 ≤ v3) : v0 ≤ v1 := by omega
theorem om268 (v0 : Int) (v1 : Int) (v2 : Int) (v3 : Int) (h0 : (1 ≤ v0 → 1 ≤ v2)) (h1 : (1 ≤ v3 → 1 ≤ v1)) (h2 : (1 ≤ v2 → 1 ≤ v3)) : (1 ≤ v0 → 1 ≤ v1) := by omega
theorem om269 (v0 : Int) (v1 : Int) (h0 : 0 ≤ v0 ∧ v0 ≤ 2000) (h1 : v1 = 132) : -2147483648 ≤ v0 + v1 ∧ v0 + v1 ≤ 2147483647 := by omega
theorem om270 (v0 : Int) (h0 : 0 ≤ v0 ∧ v0 ≤ 15) : -2147483648 ≤ v0 * 8 ∧ v0 * 8 ≤ 2147483647 := by omega
theorem om271 (v0 : Int) (v1 : Int) (v2 : Int) (v3 : Int) (v4 : Int) (h0 : v0 = v2 + v3) (h1 : v1 = v4 * 8) (h2 : 0 ≤ v2 ∧ v2 ≤ 2000) (h3 : 0 ≤ v4 ∧ v4 ≤ 15) (h4 : -2147483648 ≤ v1 ∧ v1 ≤ 2147483647) (h5 : v3 = 132) : -2147483648 ≤ v0 + v1 ∧ v0 + v1 ≤ 2147483647 := by omega
theorem om272 (v0 : Int) (v1 : Int) (v2 : Int) (v3 : Int) (v4 : Int) (v5 : Int) (h0 : v0 = v1 + v2) (h1 : v1 = v3 + v4) (h2 : v2 = v5 * 8) (h3 : 0 ≤ v3 ∧ v3 ≤ 2000) (h4 : 0 ≤ v5 ∧ v5 ≤ 15) (h5 : v4 = 132) : 0 ≤ v0 ∧ v0 ≤ 14000 := by omega
theorem om273 (v0 : Int) (h0 : v0 = 3) : 0 ≤ v0 ∧ v0 ≤ 8 := by omega
theorem om274 (v0 : Int) (v1 : Int) (h0 : (v1 = 3 → 0 ≤ v0 ∧ v0 ≤ 7) ∧ (v1 = 6 → 0 ≤ v0 ∧ v0 ≤ 63) ∧ (v1 = 8 → 0 ≤ v0 ∧ v0 ≤ 255)) (h1 : v1 = 3) : 0 ≤ v0 ∧ v0 ≤ 7 := by omega
theorem om275 (v0 : Int) (v1 : Int) (h0 : 0 ≤ v1 ∧ v1 ≤ 7) (h1 : v0 = 10) : -2147483648 ≤ v0 + v1 ∧ v0 + v1 ≤ 2147483647 := by omega
theorem om276 (v0 : Int) (v1 : Int) (v2 : Int) (h0 : v0 = v1 + v2) (h1 : 0 ≤ v2 ∧ v2 ≤ 7) (h2 : v1 = 10) : 2 ≤ v0 ∧ v0 ≤ 273 := by omega
theorem om277 (v0 : Int) (v1 : Int) (h0 : 0 ≤ v0 ∧ v0 ≤ 2000) (h1 : v1 = 4) : -2147483648 ≤ v0 + v1 ∧ v0 + v1 ≤ 2147483647 := by omega
theorem om278 (v0 : Int) (v1 : Int) (v2 : Int) (v3 : Int) (v4 : Int) (h0 : v0 = v2 + v3) (h1 : v1 = v4 * 8) (h2 : 0 ≤ v2 ∧ v2 ≤ 2000) (h3 : 0 ≤ v4 ∧ v4 ≤ 15) (h4 : -2147483648 ≤ v1 ∧ v1 ≤ 2147483647) (h5 : v3 = 4) : -2147483648 ≤ v0 + v1 ∧ v0 + v1 ≤ 2147483647 := by omega
theorem om279 (v0 : Int) (v1 : Int) (v2 : Int) (v3 : Int) (v4 : Int) (v5 : Int) (h0 : v0 = v1 + v2) (h1 : v1 = v3 + v4) (h2 : v2 = v5 * 8) (h3 : 0 ≤ v3 ∧ v3 ≤ 2000) (h4 : 0 ≤ v5 ∧ v5 ≤ 15) (h5 : v4 = 4) : 0 ≤ v0 ∧ v0 ≤ 14000 := by omega
theorem om280 (v0 : Int) (v1 : Int) (h0 : 0 ≤ v1 ∧ v1 ≤ 7) (h1 : v0 = 2) : -2147483648 ≤ v0 + v1 ∧ v0 + v1 ≤ 2147483647 := by omega
theorem om281 (v0 : Int) (v1 : Int) (v2 : Int) (h0 : v0 = v1 + v2) (h1 : 0 ≤ v2 ∧ v2 ≤ 7) (h2 : v1 = 2) : 2 ≤ v0 ∧ v0 ≤ 273 := by omega
theorem om282 (v0 : Int) (v1 : Int) (v2 : Int) (h0 : (1 ≤ v0 → 1 ≤ v2)) (h1 : (1 ≤ v2 → 1 ≤ v1)) : (1 ≤ v0 → 1 ≤ v1) := by omega
theorem om283 (v0 : Int) (v1 : Int) (h0 : 2 ≤ v0 ∧ v0 ≤ 273) (h1 : v1 = 2) : -2147483648 ≤ v0 - v1 ∧ v0 - v1 ≤ 2147483647 := by omega
theorem om284 (v0 : Int) (h0 : 0 ≤ v0 ∧ v0 ≤ 3) : -2147483648 ≤ v0 * 64 ∧ v0 * 64 ≤ 2147483647 := by omega
theorem om285 (v0 : Int) (v1 : Int) (v2 : Int) (h0 : v1 = v2 * 64) (h1 : 0 ≤ v2 ∧ v2 ≤ 3) (h2 : v0 = 432) (h3 : -2147483648 ≤ v1 ∧ v1 ≤ 2147483647) : -2147483648 ≤ v0 + v1 ∧ v0 + v1 ≤ 2147483647 := by omega
theorem om286 (v0 : Int) (v1 : Int) (v2 : Int) (v3 : Int) (h0 : v0 = v1 + v2) (h1 : v2 = v3 * 64) (h2 : 0 ≤ v3 ∧ v3 ≤ 3) (h3 : v1 = 432) : 0 ≤ v0 ∧ v0 ≤ 14000 := by omega
theorem om287 (v0 : Int) (h0 : v0 = 6) : 0 ≤ v0 ∧ v0 ≤ 8 := by omega
theorem om288 (v0 : Int) (v1 : Int) (h0 : (v1 = 3 → 0 ≤ v0 ∧ v0 ≤ 7) ∧ (v1 = 6 → 0 ≤ v0 ∧ v0 ≤ 63) ∧ (v1 = 8 → 0 ≤ v0 ∧ v0 ≤ 255)) (h1 : v1 = 6) : 0 ≤ v0 ∧ v0 ≤ 63 := by omega
theorem om289 (v0 : Int) (v1 : Int) (h0 : v1 ≤ v0) (h1 : v1 = 4) : 0 ≤ v0 := by omega
theorem om290 (v0 : Int) (v1 : Int) (v2 : Int) (v3 : Int) (h0 : v0 = v2 / 2) (h1 : 0 ≤ v2 ∧ v2 ≤ 63) (h2 : v3 ≤ v2) (h3 : v1 = 1) (h4 : v3 = 4) : -2147483648 ≤ v0 - v1 ∧ v0 - v1 ≤ 2147483647 := by omega
theorem om291 (v0 : Int) (v1 : Int) (v2 : Int) (v3 : Int) (h0 : v1 = v2) (h1 : v2 = v3 % 2) (h2 : v0 = 2) : -9223372036854775808 ≤ v0 + v1 ∧ v0 + v1 ≤ 9223372036854775807 := by omega
theorem om292 (v0 : Int) (v1 : Int) (v2 : Int) (v3 : Int) (v4 : Int) (v5 : Int) (v6 : Int) (v7 : Int) (v8 : Int) (v9 : Int) (h0 : (2 ≤ v1 ∧ v1 ≤ 3 ∧ 0 ≤ v2 ∧ v2 ≤ 30) → (2 ≤ v0 ∧ v0 ≤ 3221225472)) (h1 : v2 = v3 - v4) (h2 : v1 = v5 + v6) (h3 : v3 = v7 / 2) (h4 : v6 = v8) (h5 : 0 ≤ v7 ∧ v7 ≤ 63) (h6 : v9 ≤ v7) (h7 : v8 = v7 % 2) (h8 : v4 = 1) (h9 : v5 = 2) (h10 : v9 = 4) : 2 ≤ v0 ∧ v0 ≤ 3221225472 := by omega
theorem om293 (v0 : Int) (v1 : Int) (v2 : Int) (v3 : Int) (v4 : Int) (h0 : v0 = v2 - v1) (h1 : v2 = v3 / 2) (h2 : 0 ≤ v3 ∧ v3 ≤ 63) (h3 : v4 ≤ v3) (h4 : v1 = 1) (h5 : v4 = 14) : -2147483648 ≤ v0 - v1 ∧ v0 - v1 ≤ 2147483647 := by omega
theorem om294 (v0 : Int) (h0 : v0 = 1008) : 0 ≤ v0 ∧ v0 ≤ 14000 := by omega
theorem om295 (v0 : Int) (h0 : v0 = 4) : 0 ≤ v0 ∧ v0 ≤ 5 := by omega
theorem om296 (v0 : Int) (v1 : Int) (v2 : Int) (v3 : Int) (h0 : 2 ≤ v0 ∧ v0 ≤ 3221225472 + (30 - v2) * 536870912) (h1 : v1 = v3) (h2 : 0 ≤ v3 ∧ v3 < 64) (h3 : -2147483648 ≤ v2 ∧ v2 ≤ 2147483647) : -9223372036854775808 ≤ v0 + v1 ∧ v0 + v1 ≤ 9223372036854775807 := by omega
theorem om297 (v0 : Int) (v1 : Int) (v2 : Int) (v3 : Int) (v4 : Int) (v5 : Int) (h0 : v0 = v2 + v3) (h1 : 2 ≤ v2 ∧ v2 ≤ 3221225472 + (30 - v4) * 536870912) (h2 : v3 = v5) (h3 : 0 ≤ v5 ∧ v5 < 64) (h4 : v1 = 1) (h5 : -2147483648 ≤ v4 ∧ v4 ≤ 2147483647) : -9223372036854775808 ≤ v0 + v1 ∧ v0 + v1 ≤ 9223372036854775807 := by omega
theorem om298 (v0 : Int) (v1 : Int) (v2 : Int) (v3 : Int) (v4 : Int) (v5 : Int) (v6 : Int) (h0 : v0 = v1 + v2) (h1 : v1 = v3 + v4) (h2 : 2 ≤ v3 ∧ v3 ≤ 3221225472 + (30 - v5) * 536870912) (h3 : v4 = v6) (h4 : 0 ≤ v6 ∧ v6 < 64) (h5 : v2 = 1) : 1 ≤ v0 := by omega
theorem om299 (v0 : Int) (v1 : Int) (v2 : Int) (h0 : 1 ≤ v0 → 1 ≤ v2) (h1 : (1 ≤ v2 → 1 ≤ v1)) : (1 ≤ v0 → 1 ≤ v1) := by omega
theorem om300 (v0 : Int) (v1 : Int) (v2 : Int) (v3 : Int) (v4 : Int) (h0 : (0 ≤ v1 ∧ v1 ≤ 1 ∧ 0 ≤ v2 ∧ v2 ≤ 29) → (0 ≤ v0 ∧ v0 ≤ 536870912)) (h1 : v2 ≤ 29) (h2 : v3 ≤ v2) (h3 : v1 = v4) (h4 : 0 ≤ v4 ∧ v4 ≤ 1) (h5 : v3 = 4) : 0 ≤ v0 ∧ v0 ≤ 536870912 := by omega
theorem om301 (v0 : Int) (v1 : Int) (v2 : Int) (v3 : Int) (h0 : 2 ≤ v0 ∧ v0 ≤ 3221225472 + (30 - v2) * 536870912) (h1 : 0 ≤ v1 ∧ v1 ≤ 536870912) (h2 : v3 ≤ v2) (h3 : -2147483648 ≤ v2 ∧ v2 ≤ 2147483647) (h4 : v3 = 4) : -9223372036854775808 ≤ v0 + v1 ∧ v0 + v1 ≤ 9223372036854775807 := by omega
theorem om302 (v0 : Int) (v1 : Int) (v2 : Int) (h0 : v0 ≤ 29) (h1 : v2 ≤ v0) (h2 : v1 = (-1)) (h3 : v2 = 4) : -2147483648 ≤ v0 + v1 ∧ v0 + v1 ≤ 2147483647 := by omega
theorem om303 (v0 : Int) (v1 : Int) (v2 : Int) (v3 : Int) (v4 : Int) (v5 : Int) (v6 : Int) (v7 : Int) (h0 : v0 = v2 + v3) (h1 : v1 = v4 + v5) (h2 : 2 ≤ v2 ∧ v2 ≤ 3221225472 + (30 - v4) * 536870912) (h3 : v4 ≤ 29) (h4 : v4 + 2147483649 ≤ v6 + 1) (h5 : v7 ≤ v4) (h6 : 0 ≤ v3 ∧ v3 ≤ 536870912) (h7 : -9223372036854775808 ≤ v0 ∧ v0 ≤ 9223372036854775807) (h8 : -2147483648 ≤ v1 ∧ v1 ≤ 2147483647) (h9 : -9223372036854775808 ≤ v2 ∧ v2 ≤ 9223372036854775807) (h10 : -9223372036854775808 ≤ v3 ∧ v3 ≤ 9223372036854775807) (h11 : -2147483648 ≤ v4 ∧ v4 ≤ 2147483647) (h12 : v5 = (-1)) : 2 ≤ v0 ∧ v0 ≤ 3221225472 + (30 - v1) * 536870912 := by omega
theorem om304 (v0 : Int) (v1 : Int) (v2 : Int) (h0 : v0 = v1 + v2) (h1 : v1 ≤ 29) (h2 : v2 = (-1)) : v0 ≤ 29 := by omega
theorem om305 (v0 : Int) (v1 : Int) (v2 : Int) (v3 : Int) (v4 : Int) (v5 : Int) (v6 : Int) (v7 : Int) (v8 : Int) (h0 : 2 ≤ v0 ∧ v0 ≤ 3221225472) (h1 : v1 = v2 - v3) (h2 : v2 = v4 - v3) (h3 : v4 = v5 / 2) (h4 : 0 ≤ v5 ∧ v5 ≤ 63) (h5 : v6 ≤ v5) (h6 : v7 = v5 % 2) (h7 : v8 ≤ v5) (h8 : -9223372036854775808 ≤ v0 ∧ v0 ≤ 9223372036854775807) (h9 : -2147483648 ≤ v1 ∧ v1 ≤ 2147483647) (h10 : -2147483648 ≤ v2 ∧ v2 ≤ 2147483647) (h11 : v3 = 1) (h12 : -2147483648 ≤ v4 ∧ v4 ≤ 2147483647) (h13 : -2147483648 ≤ v5 ∧ v5 ≤ 2147483647) : 2 ≤ v0 ∧ v0 ≤ 3221225472 + (30 - v1) * 536870912 := by omega
theorem om306 (v0 : Int) (v1 : Int) (v2 : Int) (v3 : Int) (v4 : Int) (h0 : v0 = v1 - v2) (h1 : v1 = v3 - v2) (h2 : v3 = v4 / 2) (h3 : 0 ≤ v4 ∧ v4 ≤ 63) (h4 : v2 = 1) : v0 ≤ 29 := by omega
theorem om307 (v0 : Int) (v1 : Int) (h0 : (1 ≤ v0 → 1 ≤ v1)) : 1 ≤ v0 → 1 ≤ v1 := by omega
theorem om308 (v0 : Int) (v1 : Int) (v2 : Int) (h0 : v1 ≤ v0) (h1 : v0 < v2) (h2 : v1 = 4) (h3 : v2 = 14) : -2147483648 ≤ v0 - v1 ∧ v0 - v1 ≤ 2147483647 := by omega
theorem om309 (v0 : Int) (v1 : Int) (v2 : Int) (v3 : Int) (h0 : v0 = v1 - v2) (h1 : v2 ≤ v1) (h2 : v1 < v3) (h3 : v2 = 4) (h4 : v3 = 14) : -2147483648 ≤ v0 * 32 ∧ v0 * 32 ≤ 2147483647 := by omega
theorem om310 (v0 : Int) (v1 : Int) (v2 : Int) (v3 : Int) (v4 : Int) (v5 : Int) (h0 : v1 = v2 * 32) (h1 : v2 = v3 - v4) (h2 : v4 ≤ v3) (h3 : v3 < v5) (h4 : v0 = 688) (h5 : -2147483648 ≤ v1 ∧ v1 ≤ 2147483647) (h6 : v4 = 4) (h7 : v5 = 14) : -2147483648 ≤ v0 + v1 ∧ v0 + v1 ≤ 2147483647 := by omega
theorem om311 (v0 : Int) (v1 : Int) (v2 : Int) (v3 : Int) (v4 : Int) (v5 : Int) (v6 : Int) (h0 : v0 = v1 + v2) (h1 : v2 = v3 * 32) (h2 : v3 = v4 - v5) (h3 : v5 ≤ v4) (h4 : v4 < v6) (h5 : v1 = 688) (h6 : v5 = 4) (h7 : v6 = 14) : 0 ≤ v0 ∧ v0 ≤ 14000 := by omega
theorem om312 (v0 : Int) (v1 : Int) (v2 : Int) (v3 : Int) (v4 : Int) (v5 : Int) (h0 : v0 = v1 - v2) (h1 : v1 = v3 / 2) (h2 : v4 ≤ v3) (h3 : v3 < v5) (h4 : v2 = 1) (h5 : v4 = 4) (h6 : v5 = 14) : 0 ≤ v0 ∧ v0 ≤ 5 := by omega
theorem om313 (v0 : Int) (v1 : Int) (v2 : Int) (h0 : 2 ≤ v0 ∧ v0 ≤ 3221225472) (h1 : v1 = v2) (h2 : 0 ≤ v2 ∧ v2 < 64) : -9223372036854775808 ≤ v0 + v1 ∧ v0 + v1 ≤ 9223372036854775807 := by omega
theorem om314 (v0 : Int) (v1 : Int) (v2 : Int) (v3 : Int) (v4 : Int) (h0 : v0 = v2 + v3) (h1 : 2 ≤ v2 ∧ v2 ≤ 3221225472) (h2 : v3 = v4) (h3 : 0 ≤ v4 ∧ v4 < 64) (h4 : v1 = 1) : -9223372036854775808 ≤ v0 + v1 ∧ v0 + v1 ≤ 9223372036854775807 := by omega
theorem om315 (v0 : Int) (v1 : Int) (v2 : Int) (v3 : Int) (v4 : Int) (v5 : Int) (h0 : v0 = v1 + v2) (h1 : v1 = v3 + v4) (h2 : 2 ≤ v3 ∧ v3 ≤ 3221225472) (h3 : v4 = v5) (h4 : 0 ≤ v5 ∧ v5 < 64) (h5 : v2 = 1) : 1 ≤ v0 := by omega
theorem om316 (v0 : Int) (v1 : Int) (v2 : Int) (v3 : Int) (h0 : v0 = v2) (h1 : 0 ≤ v2 ∧ v2 ≤ 63) (h2 : v2 < v3) (h3 : v1 = 1) (h4 : v3 = 4) : -9223372036854775808 ≤ v0 + v1 ∧ v0 + v1 ≤ 9223372036854775807 := by omega
theorem om317 (v0 : Int) (v1 : Int) (v2 : Int) (v3 : Int) (h0 : v0 = v1 + v2) (h1 : v1 = v3) (h2 : 0 ≤ v3 ∧ v3 ≤ 63) (h3 : v2 = 1) : 1 ≤ v0 := by omega
theorem om318 (v0 : Int) (v1 : Int) (h0 : (1 ≤ v0 → 1 ≤ v1)) : (1 ≤ v0 → 1 ≤ v1) := by omega
theorem om319 (v0 : Int) (h0 : v0 = 3) : 0 ≤ v0 ∧ v0 ≤ 3 := by omega
theorem om320 (v0 : Int) (v1 : Int) (v2 : Int) (v3 : Int) (h0 : 2 ≤ v0 ∧ v0 ≤ 273) (h1 : v2 = v0 - v1) (h2 : v2 < v3) (h3 : v1 = 2) (h4 : v3 = 3) : -2147483648 ≤ v0 - v1 ∧ v0 - v1 ≤ 2147483647 := by omega
theorem om321 (v0 : Int) (v1 : Int) (v2 : Int) (v3 : Int) (v4 : Int) (h0 : v0 = v1 - v2) (h1 : 2 ≤ v1 ∧ v1 ≤ 273) (h2 : v3 = v1 - v2) (h3 : v3 < v4) (h4 : v2 = 2) (h5 : v4 = 3) : 0 ≤ v0 ∧ v0 ≤ 3 := by omega
set_option maxHeartbeats 4000000 in
set_option maxRecDepth 100000 in
/-- X12_freshState on (0,) -/
theorem jm_X12_freshState (l : Launch) (hlt : l.stackTraces = false) (D : va_G) (t3 : Nat × Nat × Nat) (cI cJ : ClassId) (ad : Nat → Nat) (g : Nat → Int32) (lg : Nat → Int64) (ar : Nat → Nat → Int32) (bk : Nat → Int64) (sz : Nat) : JMv l yX12_freshState (Cond.code yX12_freshState cX12_freshState 2 none :: wwM) { frames := 0, cells := 0, slots := 0, locals := 0 } t3 D mw cI cJ ad [.ref (ad 0)] (mw cI cJ ad g lg ar bk) sz 0 0 (fun g' lg' ar' bk' => hk_fr [23, 24, 25, 26, 27] g g' ∧ lg = lg' ∧ hk_fr [16] ar ar' ∧ bk = bk' ∧ ((g' 23).toInt = 0 ∧ (g' 24).toInt = 1 ∧ (g' 25).toInt = 1 ∧ (g' 26).toInt = 1 ∧ (g' 27).toInt = 1) ∧ (∀ k, k < 14344 → ar' 16 k = 1024)) (fun g' lg' ar' bk' => False) := by
  refine jx_metv (cc := cX12_freshState) (maxL := 2) (ret := none) rfl (by decide) rfl (Nat.le_of_ble_eq_true rfl) ?_
  intro p e s m args below meth c ls Q A hx hb hml hown hts hA hZ hw hl hQ kr kt
  have hq : ∀ w ∈ wwM, w.before args s = true := fun w h => hts w (List.mem_cons_of_mem _ h)
  have hl : lv_has ls 2 [(0, .ref (ad 0))] := hl
  refine lv_iconst (v := 0) hx hb dX12_freshState_0 (by decide) ?_
  refine lv_istore_n (lv' := [(1, .int 0), (0, .ref (ad 0))]) hx hb dX12_freshState_1 rfl hl (by decide) rfl (fun ls hl => ?_)
  have B1 : ∀ (k4 : Nat) (x2 : Int32) (a3 : Nat → Nat → Int32) (ls : Array Slot) (H : Heap) (locs : List Loc), (2147483648 - (x2).toInt ≤ (k4 : Int)) → (0 ≤ (x2).toInt) → (hk_fr [16] ar a3) → (hk_ag (x2).toNatClampNeg (a3 16) (fun _ => 1024)) → hk_W D (jT cI cJ) A s H locs (mw cI cJ ad g lg a3 bk) → lv_has ls 2 [(0, .ref (ad 0)), (1, .int x2)] → W p l e { frames := 0, cells := 0, slots := 0, locals := 0 } s m args below meth c H locs 0 0 Q (F0 m 2 ls []) := by
    intro k4
    induction k4 with
    | zero =>
      intro x2 a3 ls H locs hrk_B1 hf_B1_0 hfr_a3 hw_B1_ag hw hl
      exact False.elim (hk_no0 (0 * (x2).toInt) (om30 ((x2).toInt) hrk_B1 (hE_rng (x2))) (by simp))
    | succ k4 ih_B1 =>
      intro x2 a3 ls H locs hrk_B1 hf_B1_0 hfr_a3 hw_B1_ag hw hl
      have hrk_B1 := hk_rk hrk_B1
      refine lv_iload_n hx hb dX12_freshState_2 rfl (lv_at hl 1 rfl) ?_
      refine lv_sipush (v := 14344) hx hb dX12_freshState_3 (by decide) ?_
      refine lv_icmp_ge (tgt := 24) hx hb dX12_freshState_6 (by decide) (fun cc5 => ?_) (fun cc5 => ?_)
      · refine lv_aload_n hx hb dX12_freshState_24 rfl (lv_at hl 0 rfl) ?_
        refine lv_iconst (v := 0) hx hb dX12_freshState_25 (by decide) ?_
        refine jx_putg mw (cI := cI) (cJ := cJ) (ad := ad) (g := g) (lg := lg) (ar := a3) (bk := bk) (x := 0) 23 (ci := 15) (C := RX12) (T := TX12) (N := 92) (ty := .int) hx hb hts (fun _ h => List.mem_cons_of_mem _ (wwMc_wsX120 _ h)) tyX12 tyX12_ok nmX12 hown hw 0 rfl rfl 43 (by decide) (hq _ wM_31) rfl (by decide +kernel) rfl rfl (Nat.le_of_ble_eq_true rfl) dX12_freshState_26 rfl (fun H locs g6 h_g6 hw => ?_)
        refine lv_aload_n hx hb dX12_freshState_29 rfl (lv_at hl 0 rfl) ?_
        refine lv_iconst (v := 1) hx hb dX12_freshState_30 (by decide) ?_
        refine jx_putg mw (cI := cI) (cJ := cJ) (ad := ad) (g := g6) (lg := lg) (ar := a3) (bk := bk) (x := 1) 24 (ci := 15) (C := RX12) (T := TX12) (N := 92) (ty := .int) hx hb hts (fun _ h => List.mem_cons_of_mem _ (wwMc_wsX120 _ h)) tyX12 tyX12_ok nmX12 hown hw 0 rfl rfl 44 (by decide) (hq _ wM_40) rfl (by decide +kernel) rfl rfl (Nat.le_of_ble_eq_true rfl) dX12_freshState_31 rfl (fun H locs g7 h_g7 hw => ?_)
        refine lv_aload_n hx hb dX12_freshState_34 rfl (lv_at hl 0 rfl) ?_
        refine lv_iconst (v := 1) hx hb dX12_freshState_35 (by decide) ?_
        refine jx_putg mw (cI := cI) (cJ := cJ) (ad := ad) (g := g7) (lg := lg) (ar := a3) (bk := bk) (x := 1) 25 (ci := 15) (C := RX12) (T := TX12) (N := 92) (ty := .int) hx hb hts (fun _ h => List.mem_cons_of_mem _ (wwMc_wsX120 _ h)) tyX12 tyX12_ok nmX12 hown hw 0 rfl rfl 45 (by decide) (hq _ wM_41) rfl (by decide +kernel) rfl rfl (Nat.le_of_ble_eq_true rfl) dX12_freshState_36 rfl (fun H locs g8 h_g8 hw => ?_)
        refine lv_aload_n hx hb dX12_freshState_39 rfl (lv_at hl 0 rfl) ?_
        refine lv_iconst (v := 1) hx hb dX12_freshState_40 (by decide) ?_
        refine jx_putg mw (cI := cI) (cJ := cJ) (ad := ad) (g := g8) (lg := lg) (ar := a3) (bk := bk) (x := 1) 26 (ci := 15) (C := RX12) (T := TX12) (N := 92) (ty := .int) hx hb hts (fun _ h => List.mem_cons_of_mem _ (wwMc_wsX120 _ h)) tyX12 tyX12_ok nmX12 hown hw 0 rfl rfl 46 (by decide) (hq _ wM_42) rfl (by decide +kernel) rfl rfl (Nat.le_of_ble_eq_true rfl) dX12_freshState_41 rfl (fun H locs g9 h_g9 hw => ?_)
        refine lv_aload_n hx hb dX12_freshState_44 rfl (lv_at hl 0 rfl) ?_
        refine lv_iconst (v := 1) hx hb dX12_freshState_45 (by decide) ?_
        refine jx_putg mw (cI := cI) (cJ := cJ) (ad := ad) (g := g9) (lg := lg) (ar := a3) (bk := bk) (x := 1) 27 (ci := 15) (C := RX12) (T := TX12) (N := 92) (ty := .int) hx hb hts (fun _ h => List.mem_cons_of_mem _ (wwMc_wsX120 _ h)) tyX12 tyX12_ok nmX12 hown hw 0 rfl rfl 47 (by decide) (hq _ wM_43) rfl (by decide +kernel) rfl rfl (Nat.le_of_ble_eq_true rfl) dX12_freshState_46 rfl (fun H locs g10 h_g10 hw => ?_)
        have e_g10_23 : g10 23 = (0 : Int32) := ((hk_upgN h_g10 23 rfl)).trans (((hk_upgN h_g9 23 rfl)).trans (((hk_upgN h_g8 23 rfl)).trans (((hk_upgN h_g7 23 rfl)).trans (hk_upgS h_g6))))
        have e_g10_24 : g10 24 = (1 : Int32) := ((hk_upgN h_g10 24 rfl)).trans (((hk_upgN h_g9 24 rfl)).trans (((hk_upgN h_g8 24 rfl)).trans (hk_upgS h_g7)))
        have e_g10_25 : g10 25 = (1 : Int32) := ((hk_upgN h_g10 25 rfl)).trans (((hk_upgN h_g9 25 rfl)).trans (hk_upgS h_g8))
        have e_g10_26 : g10 26 = (1 : Int32) := ((hk_upgN h_g10 26 rfl)).trans (hk_upgS h_g9)
        have e_g10_27 : g10 27 = (1 : Int32) := (hk_upgS h_g10)
        exact kr g10 lg a3 bk _ _ _ _ ⟨(hk_frG (hk_frG (hk_frG (hk_frG (hk_frG hk_fr0 (by decide) h_g6) (by decide) h_g7) (by decide) h_g8) (by decide) h_g9) (by decide) h_g10), rfl, hfr_a3, rfl, (om150 ((g10 23).toInt) ((g10 24).toInt) ((g10 25).toInt) ((g10 26).toInt) ((g10 27).toInt) (((0 : Int32)).toInt) (((1 : Int32)).toInt) (congrArg Int32.toInt e_g10_23) (congrArg Int32.toInt e_g10_24) (congrArg Int32.toInt e_g10_25) (congrArg Int32.toInt e_g10_26) (congrArg Int32.toInt e_g10_27) (by decide) (by decide)), (fun k hk => (hk_agL hw_B1_ag (om151 ((x2).toInt) (((14344 : Int32)).toInt) (hE_le cc5) (by decide))) k hk)⟩ hw dX12_freshState_49
      · refine lv_aload_n hx hb dX12_freshState_9 rfl (lv_at hl 0 rfl) ?_
        refine hk_get (ci := 15) (C := RX12) (T := TX12) (N := 92) (v := .ref (ad 17)) hx hb hts (fun _ h => List.mem_cons_of_mem _ (wwMc_wsX120 _ h)) hown hw 0 rfl rfl 41 (by decide) (hq _ wM_207) rfl dX12_freshState_10 ?_
        refine lv_iload_n hx hb dX12_freshState_13 rfl (lv_at hl 1 rfl) ?_
        refine lv_sipush (v := 1024) hx hb dX12_freshState_14 (by decide) ?_
        refine jx_iast mw (cI := cI) (cJ := cJ) (ad := ad) (g := g) (lg := lg) (ar := a3) (bk := bk) 16 hx hb hw 17 0 rfl rfl (hE_in (n := 14344) (om152 ((x2).toInt) (((14344 : Int32)).toInt) hf_B1_0 (hE_nle cc5) (by decide))) dX12_freshState_17 rfl (fun H locs a11 h_a11 hw => ?_)
        obtain ⟨z12, hz12⟩ : ∃ z : Int32, x2 + 1 = z := ⟨_, rfl⟩
        refine lv_iinc (v := z12) (lv' := [(1, .int z12), (0, .ref (ad 0))]) hx hb dX12_freshState_18 hl (k := 1) rfl hz12 (by decide) rfl (fun ls hl => ?_)
        have xz12 : (z12).toInt = (x2).toInt + ((1 : Int32)).toInt := (hE_imp (hE_add hz12) (om153 ((x2).toInt) (((1 : Int32)).toInt) (((14344 : Int32)).toInt) hf_B1_0 (hE_nle cc5) (by decide) (by decide)))
        refine lv_goto (tgt := 2) hx hb dX12_freshState_21 (by decide) ?_
        exact ih_B1 z12 a11 ls _ _ (om11 ((z12).toInt) (k4 : Int) ((x2).toInt) (((1 : Int32)).toInt) hrk_B1 xz12 (by decide)) (om14 ((z12).toInt) ((x2).toInt) (((1 : Int32)).toInt) xz12 hf_B1_0 (by decide)) (hk_frA hfr_a3 (by decide) h_a11) (hk_agS h_a11 hw_B1_ag rfl (om154 ((x2).toInt) ((z12).toInt) (((1 : Int32)).toInt) hf_B1_0 xz12 (by decide))) hw (lv_sub hl [1, 0] rfl)
  exact B1 (2147483648 - ((0 : Int32)).toInt).toNat 0 ar ls _ _ (Int.self_le_toNat _) (om18 (((0 : Int32)).toInt) (by decide)) hk_fr0 (hk_ag0 (by decide)) hw (lv_sub hl [1, 0] rfl)

set_option maxHeartbeats 4000000 in
set_option maxRecDepth 100000 in
/-- X12_backOf on (0,) -/
theorem jm_X12_backOf (l : Launch) (hlt : l.stackTraces = false) (D : va_G) (t3 : Nat × Nat × Nat) (cI cJ : ClassId) (ad : Nat → Nat) (g : Nat → Int32) (lg : Nat → Int64) (ar : Nat → Nat → Int32) (bk : Nat → Int64) (sz : Nat) (y1 : Int32) (hr0 : 0 ≤ (y1).toInt ∧ (y1).toInt ≤ 3) : JMi l yX12_backOf (Cond.code yX12_backOf cX12_backOf 2 (some .int) :: wwM) { frames := 0, cells := 0, slots := 0, locals := 0 } t3 D mw cI cJ ad [.ref (ad 0), .int y1] (mw cI cJ ad g lg ar bk) sz 0 0 (fun (r : Int32) g' lg' ar' bk' => g = g' ∧ lg = lg' ∧ ar = ar' ∧ bk = bk' ∧ (((y1).toInt = 0 → (r).toInt = (g 24).toInt) ∧ ((y1).toInt = 1 → (r).toInt = (g 25).toInt) ∧ ((y1).toInt = 2 → (r).toInt = (g 26).toInt) ∧ ((y1).toInt = 3 → (r).toInt = (g 27).toInt))) (fun g' lg' ar' bk' => False) := by
  refine jx_meti (cc := cX12_backOf) (maxL := 2) (ret := (some .int)) rfl (by decide) rfl (Nat.le_of_ble_eq_true rfl) ?_
  intro p e s m args below meth c ls Q A hx hb hml hown hts hA hZ hw hl hQ kr kt
  have hq : ∀ w ∈ wwM, w.before args s = true := fun w h => hts w (List.mem_cons_of_mem _ h)
  have hl : lv_has ls 2 [(0, .ref (ad 0)), (1, .int y1)] := hl
  refine lv_iload_n hx hb dX12_backOf_0 rfl (lv_at hl 1 rfl) ?_
  refine lv_if_ne (tgt := 11) hx hb dX12_backOf_1 (by decide) (fun cc1 => ?_) (fun cc1 => ?_)
  · refine lv_iload_n hx hb dX12_backOf_11 rfl (lv_at hl 1 rfl) ?_
    refine lv_iconst (v := 1) hx hb dX12_backOf_12 (by decide) ?_
    refine lv_icmp_ne (tgt := 23) hx hb dX12_backOf_13 (by decide) (fun cc2 => ?_) (fun cc2 => ?_)
    · refine lv_iload_n hx hb dX12_backOf_23 rfl (lv_at hl 1 rfl) ?_
      refine lv_iconst (v := 2) hx hb dX12_backOf_24 (by decide) ?_
      refine lv_icmp_ne (tgt := 35) hx hb dX12_backOf_25 (by decide) (fun cc3 => ?_) (fun cc3 => ?_)
      · refine lv_aload_n hx hb dX12_backOf_35 rfl (lv_at hl 0 rfl) ?_
        refine hk_get (ci := 15) (C := RX12) (T := TX12) (N := 92) (v := .int (g 27)) hx hb hts (fun _ h => List.mem_cons_of_mem _ (wwMc_wsX120 _ h)) hown hw 0 rfl rfl 47 (by decide) (hq _ wM_43) rfl dX12_backOf_36 ?_
        exact kr (g 27) g lg ar bk _ _ _ _ ⟨rfl, rfl, rfl, rfl, (om155 ((y1).toInt) ((g 27).toInt) ((g 24).toInt) ((g 25).toInt) ((g 26).toInt) (((0 : Int32)).toInt) (((1 : Int32)).toInt) (((2 : Int32)).toInt) hr0 (hE_ne cc1) (hE_ne cc2) (hE_ne cc3) (by decide) (by decide) (by decide))⟩ hw dX12_backOf_39
      · refine lv_aload_n hx hb dX12_backOf_28 rfl (lv_at hl 0 rfl) ?_
        refine hk_get (ci := 15) (C := RX12) (T := TX12) (N := 92) (v := .int (g 26)) hx hb hts (fun _ h => List.mem_cons_of_mem _ (wwMc_wsX120 _ h)) hown hw 0 rfl rfl 46 (by decide) (hq _ wM_42) rfl dX12_backOf_29 ?_
        refine lv_goto (tgt := 39) hx hb dX12_backOf_32 (by decide) ?_
        exact kr (g 26) g lg ar bk _ _ _ _ ⟨rfl, rfl, rfl, rfl, (om156 ((y1).toInt) ((g 26).toInt) ((g 24).toInt) ((g 25).toInt) ((g 27).toInt) (((2 : Int32)).toInt) (hE_eq cc3) (by decide))⟩ hw dX12_backOf_39
    · refine lv_aload_n hx hb dX12_backOf_16 rfl (lv_at hl 0 rfl) ?_
      refine hk_get (ci := 15) (C := RX12) (T := TX12) (N := 92) (v := .int (g 25)) hx hb hts (fun _ h => List.mem_cons_of_mem _ (wwMc_wsX120 _ h)) hown hw 0 rfl rfl 45 (by decide) (hq _ wM_41) rfl dX12_backOf_17 ?_
      refine lv_goto (tgt := 39) hx hb dX12_backOf_20 (by decide) ?_
      exact kr (g 25) g lg ar bk _ _ _ _ ⟨rfl, rfl, rfl, rfl, (om157 ((y1).toInt) ((g 25).toInt) ((g 24).toInt) ((g 26).toInt) ((g 27).toInt) (((1 : Int32)).toInt) (hE_eq cc2) (by decide))⟩ hw dX12_backOf_39
  · refine lv_aload_n hx hb dX12_backOf_4 rfl (lv_at hl 0 rfl) ?_
    refine hk_get (ci := 15) (C := RX12) (T := TX12) (N := 92) (v := .int (g 24)) hx hb hts (fun _ h => List.mem_cons_of_mem _ (wwMc_wsX120 _ h)) hown hw 0 rfl rfl 44 (by decide) (hq _ wM_40) rfl dX12_backOf_5 ?_
    refine lv_goto (tgt := 39) hx hb dX12_backOf_8 (by decide) ?_
    exact kr (g 24) g lg ar bk _ _ _ _ ⟨rfl, rfl, rfl, rfl, (om158 ((y1).toInt) ((g 24).toInt) ((g 25).toInt) ((g 26).toInt) ((g 27).toInt) (((0 : Int32)).toInt) (hE_eq cc1) (by decide))⟩ hw dX12_backOf_39

set_option maxHeartbeats 4000000 in
set_option maxRecDepth 100000 in
/-- X12_toFront on (0,) -/
theorem jm_X12_toFront (l : Launch) (hlt : l.stackTraces = false) (D : va_G) (t3 : Nat × Nat × Nat) (cI cJ : ClassId) (ad : Nat → Nat) (g : Nat → Int32) (lg : Nat → Int64) (ar : Nat → Nat → Int32) (bk : Nat → Int64) (sz : Nat) (y1 : Int32) (hr0 : 0 ≤ (y1).toInt ∧ (y1).toInt ≤ 3) (hi_g24 : 1 ≤ (g 24).toInt ∧ (g 24).toInt ≤ 3000) (hi_g25 : 1 ≤ (g 25).toInt ∧ (g 25).toInt ≤ 3000) (hi_g26 : 1 ≤ (g 26).toInt ∧ (g 26).toInt ≤ 3000) (hi_g27 : 1 ≤ (g 27).toInt ∧ (g 27).toInt ≤ 3000) : JMv l yX12_toFront (Cond.code yX12_toFront cX12_toFront 3 none :: wwM) { frames := 1, cells := 0, slots := 0, locals := 21 } t3 D mw cI cJ ad [.ref (ad 0), .int y1] (mw cI cJ ad g lg ar bk) sz 0 0 (fun g' lg' ar' bk' => hk_fr [24, 25, 26, 27] g g' ∧ lg = lg' ∧ ar = ar' ∧ bk = bk' ∧ (((y1).toInt = 0 → (g' 24).toInt = (g 24).toInt) ∧ ((y1).toInt = 1 → (g' 24).toInt = (g 25).toInt) ∧ ((y1).toInt = 2 → (g' 24).toInt = (g 26).toInt) ∧ ((y1).toInt = 3 → (g' 24).toInt = (g 27).toInt)) ∧ (1 ≤ (g' 24).toInt ∧ (g' 24).toInt ≤ 3000) ∧ (1 ≤ (g' 25).toInt ∧ (g' 25).toInt ≤ 3000) ∧ (1 ≤ (g' 26).toInt ∧ (g' 26).toInt ≤ 3000) ∧ (1 ≤ (g' 27).toInt ∧ (g' 27).toInt ≤ 3000)) (fun g' lg' ar' bk' => False) := by
  refine jx_metv (cc := cX12_toFront) (maxL := 3) (ret := none) rfl (by decide) rfl (Nat.le_of_ble_eq_true rfl) ?_
  intro p e s m args below meth c ls Q A hx hb hml hown hts hA hZ hw hl hQ kr kt
  have hq : ∀ w ∈ wwM, w.before args s = true := fun w h => hts w (List.mem_cons_of_mem _ h)
  have hl : lv_has ls 3 [(0, .ref (ad 0)), (1, .int y1)] := hl
  refine lv_aload_n hx hb dX12_toFront_0 rfl (lv_at hl 0 rfl) ?_
  refine lv_iload_n hx hb dX12_toFront_1 rfl (lv_at hl 1 rfl) ?_
  refine jx_Vi (As := [.int y1]) (rest := []) ⟨hx, hb, hml, hown, hts⟩ hZ hw hA (jm_X12_backOf l hlt D t3 cI cJ ad g lg ar bk _ y1 (om159 ((y1).toInt) hr0)) (cwV 1 hts (jx_gV wwM_good wM_32 wM_33 wM_34 wM_8 wM_35) rfl rfl rfl (by decide +kernel) ⟨Nat.le_of_ble_eq_true rfl, Nat.le_of_ble_eq_true rfl⟩) 0 (ci := 15) (T := TX12) (N := 92) rfl rfl rfl hl.1 rfl (Nat.le_of_ble_eq_true rfl) dX12_toFront_2 ⟨Nat.le_of_ble_eq_true rfl, Nat.le_of_ble_eq_true rfl⟩ (fun _ _ _ _ _ _ _ _ hp _ _ _ _ => hp.elim) (fun r5 g6 l7 a8 b9 H locs hp10 hw => ?_)
  obtain ⟨rfl, rfl, rfl, rfl, h15⟩ := hp10
  refine lv_istore_n (lv' := [(2, .int r5), (0, .ref (ad 0)), (1, .int y1)]) hx hb dX12_toFront_5 rfl hl (by decide) rfl (fun ls hl => ?_)
  refine lv_aload_n hx hb dX12_toFront_6 rfl (lv_at hl 1 rfl) ?_
  refine lv_iload_n hx hb dX12_toFront_7 rfl (lv_at hl 2 rfl) ?_
  refine lv_iconst (v := 2) hx hb dX12_toFront_8 (by decide) ?_
  have B16 : ∀  (x17 : Int32) (ls : Array Slot) (H : Heap) (locs : List Loc), (1 ≤ (x17).toInt ∧ (x17).toInt ≤ 3000) → hk_W D (jT cI cJ) A s H locs (mw cI cJ ad g lg ar bk) → lv_has ls 3 [(0, .ref (ad 0)), (1, .int y1), (2, .int r5)] → W p l e { frames := 1, cells := 0, slots := 0, locals := 21 } s m args below meth c H locs 0 0 Q (F0 m 23 ls [.int x17, .ref (ad 0)]) := by
    intro x17 ls H locs hf_B16_0 hw hl
    refine jx_putg mw (cI := cI) (cJ := cJ) (ad := ad) (g := g) (lg := lg) (ar := ar) (bk := bk) (x := x17) 27 (ci := 15) (C := RX12) (T := TX12) (N := 92) (ty := .int) hx hb hts (fun _ h => List.mem_cons_of_mem _ (wwMc_wsX120 _ h)) tyX12 tyX12_ok nmX12 hown hw 0 rfl rfl 47 (by decide) (hq _ wM_43) rfl (by decide +kernel) rfl rfl (Nat.le_of_ble_eq_true rfl) dX12_toFront_23 rfl (fun H locs g18 h_g18 hw => ?_)
    refine lv_aload_n hx hb dX12_toFront_26 rfl (lv_at hl 0 rfl) ?_
    refine lv_iload_n hx hb dX12_toFront_27 rfl (lv_at hl 1 rfl) ?_
    refine lv_iconst (v := 1) hx hb dX12_toFront_28 (by decide) ?_
    have B19 : ∀  (x20 : Int32) (ls : Array Slot) (H : Heap) (locs : List Loc), (1 ≤ (x20).toInt ∧ (x20).toInt ≤ 3000) → hk_W D (jT cI cJ) A s H locs (mw cI cJ ad g18 lg ar bk) → lv_has ls 3 [(0, .ref (ad 0)), (1, .int y1), (2, .int r5)] → W p l e { frames := 1, cells := 0, slots := 0, locals := 21 } s m args below meth c H locs 0 0 Q (F0 m 43 ls [.int x20, .ref (ad 0)]) := by
      intro x20 ls H locs hf_B19_0 hw hl
      refine jx_putg mw (cI := cI) (cJ := cJ) (ad := ad) (g := g18) (lg := lg) (ar := ar) (bk := bk) (x := x20) 26 (ci := 15) (C := RX12) (T := TX12) (N := 92) (ty := .int) hx hb hts (fun _ h => List.mem_cons_of_mem _ (wwMc_wsX120 _ h)) tyX12 tyX12_ok nmX12 hown hw 0 rfl rfl 46 (by decide) (hq _ wM_42) rfl (by decide +kernel) rfl rfl (Nat.le_of_ble_eq_true rfl) dX12_toFront_43 rfl (fun H locs g21 h_g21 hw => ?_)
      refine lv_aload_n hx hb dX12_toFront_46 rfl (lv_at hl 0 rfl) ?_
      refine lv_iload_n hx hb dX12_toFront_47 rfl (lv_at hl 1 rfl) ?_
      have B22 : ∀  (x23 : Int32) (ls : Array Slot) (H : Heap) (locs : List Loc), (1 ≤ (x23).toInt ∧ (x23).toInt ≤ 3000) → hk_W D (jT cI cJ) A s H locs (mw cI cJ ad g21 lg ar bk) → lv_has ls 3 [(0, .ref (ad 0)), (2, .int r5)] → W p l e { frames := 1, cells := 0, slots := 0, locals := 21 } s m args below meth c H locs 0 0 Q (F0 m 62 ls [.int x23, .ref (ad 0)]) := by
        intro x23 ls H locs hf_B22_0 hw hl
        refine jx_putg mw (cI := cI) (cJ := cJ) (ad := ad) (g := g21) (lg := lg) (ar := ar) (bk := bk) (x := x23) 25 (ci := 15) (C := RX12) (T := TX12) (N := 92) (ty := .int) hx hb hts (fun _ h => List.mem_cons_of_mem _ (wwMc_wsX120 _ h)) tyX12 tyX12_ok nmX12 hown hw 0 rfl rfl 45 (by decide) (hq _ wM_41) rfl (by decide +kernel) rfl rfl (Nat.le_of_ble_eq_true rfl) dX12_toFront_62 rfl (fun H locs g24 h_g24 hw => ?_)
        refine lv_aload_n hx hb dX12_toFront_65 rfl (lv_at hl 0 rfl) ?_
        refine lv_iload_n hx hb dX12_toFront_66 rfl (lv_at hl 1 rfl) ?_
        refine jx_putg mw (cI := cI) (cJ := cJ) (ad := ad) (g := g24) (lg := lg) (ar := ar) (bk := bk) (x := r5) 24 (ci := 15) (C := RX12) (T := TX12) (N := 92) (ty := .int) hx hb hts (fun _ h => List.mem_cons_of_mem _ (wwMc_wsX120 _ h)) tyX12 tyX12_ok nmX12 hown hw 0 rfl rfl 44 (by decide) (hq _ wM_40) rfl (by decide +kernel) rfl rfl (Nat.le_of_ble_eq_true rfl) dX12_toFront_67 rfl (fun H locs g25 h_g25 hw => ?_)
        have e_g25_24 : g25 24 = r5 := (hk_upgS h_g25)
        have e_g25_25 : g25 25 = x23 := ((hk_upgN h_g25 25 rfl)).trans (hk_upgS h_g24)
        have e_g25_26 : g25 26 = x20 := ((hk_upgN h_g25 26 rfl)).trans (((hk_upgN h_g24 26 rfl)).trans (hk_upgS h_g21))
        have e_g25_27 : g25 27 = x17 := ((hk_upgN h_g25 27 rfl)).trans (((hk_upgN h_g24 27 rfl)).trans (((hk_upgN h_g21 27 rfl)).trans (hk_upgS h_g18)))
        exact kr g25 lg ar bk _ _ _ _ ⟨(hk_frG (hk_frG (hk_frG (hk_frG hk_fr0 (by decide) h_g18) (by decide) h_g21) (by decide) h_g24) (by decide) h_g25), rfl, rfl, rfl, (om160 ((y1).toInt) ((g25 24).toInt) ((g 24).toInt) ((g 25).toInt) ((g 26).toInt) ((g 27).toInt) ((r5).toInt) hr0 h15 (congrArg Int32.toInt e_g25_24)), (om161 ((g25 24).toInt) ((r5).toInt) ((y1).toInt) ((g 24).toInt) ((g 25).toInt) ((g 26).toInt) ((g 27).toInt) (congrArg Int32.toInt e_g25_24) h15 hr0 hi_g24 hi_g25 hi_g26 hi_g27), (om162 ((g25 25).toInt) ((x23).toInt) (congrArg Int32.toInt e_g25_25) hf_B22_0), (om162 ((g25 26).toInt) ((x20).toInt) (congrArg Int32.toInt e_g25_26) hf_B19_0), (om162 ((g25 27).toInt) ((x17).toInt) (congrArg Int32.toInt e_g25_27) hf_B16_0)⟩ hw dX12_toFront_70
      refine lv_if_le (tgt := 58) hx hb dX12_toFront_48 (by decide) (fun cc26 => ?_) (fun cc26 => ?_)
      · refine lv_aload_n hx hb dX12_toFront_58 rfl (lv_at hl 0 rfl) ?_
        have e_g21_25 : g21 25 = (g 25) := ((hk_upgN h_g21 25 rfl)).trans (hk_upgN h_g18 25 rfl)
        refine hk_get (ci := 15) (C := RX12) (T := TX12) (N := 92) (v := .int (g 25)) hx hb hts (fun _ h => List.mem_cons_of_mem _ (wwMc_wsX120 _ h)) hown hw 0 rfl rfl 45 (by decide) (hq _ wM_41) (congrArg (fun z => some (Value.int z)) e_g21_25) dX12_toFront_59 ?_
        exact B22 (g 25) ls _ _ (om163 ((g 25).toInt) hi_g25) hw (lv_sub hl [0, 2] rfl)
      · refine lv_aload_n hx hb dX12_toFront_51 rfl (lv_at hl 0 rfl) ?_
        have e_g21_24 : g21 24 = (g 24) := ((hk_upgN h_g21 24 rfl)).trans (hk_upgN h_g18 24 rfl)
        refine hk_get (ci := 15) (C := RX12) (T := TX12) (N := 92) (v := .int (g 24)) hx hb hts (fun _ h => List.mem_cons_of_mem _ (wwMc_wsX120 _ h)) hown hw 0 rfl rfl 44 (by decide) (hq _ wM_40) (congrArg (fun z => some (Value.int z)) e_g21_24) dX12_toFront_52 ?_
        refine lv_goto (tgt := 62) hx hb dX12_toFront_55 (by decide) ?_
        exact B22 (g 24) ls _ _ (om163 ((g 24).toInt) hi_g24) hw (lv_sub hl [0, 2] rfl)
    refine lv_icmp_le (tgt := 39) hx hb dX12_toFront_29 (by decide) (fun cc27 => ?_) (fun cc27 => ?_)
    · refine lv_aload_n hx hb dX12_toFront_39 rfl (lv_at hl 0 rfl) ?_
      have e_g18_26 : g18 26 = (g 26) := (hk_upgN h_g18 26 rfl)
      refine hk_get (ci := 15) (C := RX12) (T := TX12) (N := 92) (v := .int (g 26)) hx hb hts (fun _ h => List.mem_cons_of_mem _ (wwMc_wsX120 _ h)) hown hw 0 rfl rfl 46 (by decide) (hq _ wM_42) (congrArg (fun z => some (Value.int z)) e_g18_26) dX12_toFront_40 ?_
      exact B19 (g 26) ls _ _ (om163 ((g 26).toInt) hi_g26) hw (lv_sub hl [0, 1, 2] rfl)
    · refine lv_aload_n hx hb dX12_toFront_32 rfl (lv_at hl 0 rfl) ?_
      have e_g18_25 : g18 25 = (g 25) := (hk_upgN h_g18 25 rfl)
      refine hk_get (ci := 15) (C := RX12) (T := TX12) (N := 92) (v := .int (g 25)) hx hb hts (fun _ h => List.mem_cons_of_mem _ (wwMc_wsX120 _ h)) hown hw 0 rfl rfl 45 (by decide) (hq _ wM_41) (congrArg (fun z => some (Value.int z)) e_g18_25) dX12_toFront_33 ?_
      refine lv_goto (tgt := 43) hx hb dX12_toFront_36 (by decide) ?_
      exact B19 (g 25) ls _ _ (om163 ((g 25).toInt) hi_g25) hw (lv_sub hl [0, 1, 2] rfl)
  refine lv_icmp_le (tgt := 19) hx hb dX12_toFront_9 (by decide) (fun cc28 => ?_) (fun cc28 => ?_)
  · refine lv_aload_n hx hb dX12_toFront_19 rfl (lv_at hl 1 rfl) ?_
    refine hk_get (ci := 15) (C := RX12) (T := TX12) (N := 92) (v := .int (g 27)) hx hb hts (fun _ h => List.mem_cons_of_mem _ (wwMc_wsX120 _ h)) hown hw 0 rfl rfl 47 (by decide) (hq _ wM_43) rfl dX12_toFront_20 ?_
    exact B16 (g 27) ls _ _ (om163 ((g 27).toInt) hi_g27) hw (lv_sub hl [1, 2, 0] rfl)
  · refine lv_aload_n hx hb dX12_toFront_12 rfl (lv_at hl 1 rfl) ?_
    refine hk_get (ci := 15) (C := RX12) (T := TX12) (N := 92) (v := .int (g 26)) hx hb hts (fun _ h => List.mem_cons_of_mem _ (wwMc_wsX120 _ h)) hown hw 0 rfl rfl 46 (by decide) (hq _ wM_42) rfl dX12_toFront_13 ?_
    refine lv_goto (tgt := 23) hx hb dX12_toFront_16 (by decide) ?_
    exact B16 (g 26) ls _ _ (om163 ((g 26).toInt) hi_g26) hw (lv_sub hl [1, 2, 0] rfl)

set_option maxHeartbeats 4000000 in
set_option maxRecDepth 100000 in
/-- X12_newBack on (0,) -/
theorem jm_X12_newBack (l : Launch) (hlt : l.stackTraces = false) (D : va_G) (t3 : Nat × Nat × Nat) (cI cJ : ClassId) (ad : Nat → Nat) (g : Nat → Int32) (lg : Nat → Int64) (ar : Nat → Nat → Int32) (bk : Nat → Int64) (sz : Nat) (y1 : Int32) (hr0 : 1 ≤ (y1).toInt ∧ (y1).toInt ≤ 3000) (hi_g24 : 1 ≤ (g 24).toInt ∧ (g 24).toInt ≤ 3000) (hi_g25 : 1 ≤ (g 25).toInt ∧ (g 25).toInt ≤ 3000) (hi_g26 : 1 ≤ (g 26).toInt ∧ (g 26).toInt ≤ 3000) (hi_g27 : 1 ≤ (g 27).toInt ∧ (g 27).toInt ≤ 3000) : JMv l yX12_newBack (Cond.code yX12_newBack cX12_newBack 2 none :: wwM) { frames := 0, cells := 0, slots := 0, locals := 0 } t3 D mw cI cJ ad [.ref (ad 0), .int y1] (mw cI cJ ad g lg ar bk) sz 0 0 (fun g' lg' ar' bk' => hk_fr [24, 25, 26, 27] g g' ∧ lg = lg' ∧ ar = ar' ∧ bk = bk' ∧ ((g' 24).toInt = (y1).toInt) ∧ (1 ≤ (g' 24).toInt ∧ (g' 24).toInt ≤ 3000) ∧ (1 ≤ (g' 25).toInt ∧ (g' 25).toInt ≤ 3000) ∧ (1 ≤ (g' 26).toInt ∧ (g' 26).toInt ≤ 3000) ∧ (1 ≤ (g' 27).toInt ∧ (g' 27).toInt ≤ 3000)) (fun g' lg' ar' bk' => False) := by
  refine jx_metv (cc := cX12_newBack) (maxL := 2) (ret := none) rfl (by decide) rfl (Nat.le_of_ble_eq_true rfl) ?_
  intro p e s m args below meth c ls Q A hx hb hml hown hts hA hZ hw hl hQ kr kt
  have hq : ∀ w ∈ wwM, w.before args s = true := fun w h => hts w (List.mem_cons_of_mem _ h)
  have hl : lv_has ls 2 [(0, .ref (ad 0)), (1, .int y1)] := hl
  refine lv_aload_n hx hb dX12_newBack_0 rfl (lv_at hl 0 rfl) ?_
  refine lv_aload_n hx hb dX12_newBack_1 rfl (lv_at hl 0 rfl) ?_
  refine hk_get (ci := 15) (C := RX12) (T := TX12) (N := 92) (v := .int (g 26)) hx hb hts (fun _ h => List.mem_cons_of_mem _ (wwMc_wsX120 _ h)) hown hw 0 rfl rfl 46 (by decide) (hq _ wM_42) rfl dX12_newBack_2 ?_
  refine jx_putg mw (cI := cI) (cJ := cJ) (ad := ad) (g := g) (lg := lg) (ar := ar) (bk := bk) (x := (g 26)) 27 (ci := 15) (C := RX12) (T := TX12) (N := 92) (ty := .int) hx hb hts (fun _ h => List.mem_cons_of_mem _ (wwMc_wsX120 _ h)) tyX12 tyX12_ok nmX12 hown hw 0 rfl rfl 47 (by decide) (hq _ wM_43) rfl (by decide +kernel) rfl rfl (Nat.le_of_ble_eq_true rfl) dX12_newBack_5 rfl (fun H locs g1 h_g1 hw => ?_)
  refine lv_aload_n hx hb dX12_newBack_8 rfl (lv_at hl 0 rfl) ?_
  refine lv_aload_n hx hb dX12_newBack_9 rfl (lv_at hl 0 rfl) ?_
  have e_g1_25 : g1 25 = (g 25) := (hk_upgN h_g1 25 rfl)
  refine hk_get (ci := 15) (C := RX12) (T := TX12) (N := 92) (v := .int (g 25)) hx hb hts (fun _ h => List.mem_cons_of_mem _ (wwMc_wsX120 _ h)) hown hw 0 rfl rfl 45 (by decide) (hq _ wM_41) (congrArg (fun z => some (Value.int z)) e_g1_25) dX12_newBack_10 ?_
  refine jx_putg mw (cI := cI) (cJ := cJ) (ad := ad) (g := g1) (lg := lg) (ar := ar) (bk := bk) (x := (g 25)) 26 (ci := 15) (C := RX12) (T := TX12) (N := 92) (ty := .int) hx hb hts (fun _ h => List.mem_cons_of_mem _ (wwMc_wsX120 _ h)) tyX12 tyX12_ok nmX12 hown hw 0 rfl rfl 46 (by decide) (hq _ wM_42) rfl (by decide +kernel) rfl rfl (Nat.le_of_ble_eq_true rfl) dX12_newBack_13 rfl (fun H locs g2 h_g2 hw => ?_)
  refine lv_aload_n hx hb dX12_newBack_16 rfl (lv_at hl 0 rfl) ?_
  refine lv_aload_n hx hb dX12_newBack_17 rfl (lv_at hl 0 rfl) ?_
  have e_g2_24 : g2 24 = (g 24) := ((hk_upgN h_g2 24 rfl)).trans (hk_upgN h_g1 24 rfl)
  refine hk_get (ci := 15) (C := RX12) (T := TX12) (N := 92) (v := .int (g 24)) hx hb hts (fun _ h => List.mem_cons_of_mem _ (wwMc_wsX120 _ h)) hown hw 0 rfl rfl 44 (by decide) (hq _ wM_40) (congrArg (fun z => some (Value.int z)) e_g2_24) dX12_newBack_18 ?_
  refine jx_putg mw (cI := cI) (cJ := cJ) (ad := ad) (g := g2) (lg := lg) (ar := ar) (bk := bk) (x := (g 24)) 25 (ci := 15) (C := RX12) (T := TX12) (N := 92) (ty := .int) hx hb hts (fun _ h => List.mem_cons_of_mem _ (wwMc_wsX120 _ h)) tyX12 tyX12_ok nmX12 hown hw 0 rfl rfl 45 (by decide) (hq _ wM_41) rfl (by decide +kernel) rfl rfl (Nat.le_of_ble_eq_true rfl) dX12_newBack_21 rfl (fun H locs g3 h_g3 hw => ?_)
  refine lv_aload_n hx hb dX12_newBack_24 rfl (lv_at hl 0 rfl) ?_
  refine lv_iload_n hx hb dX12_newBack_25 rfl (lv_at hl 1 rfl) ?_
  refine jx_putg mw (cI := cI) (cJ := cJ) (ad := ad) (g := g3) (lg := lg) (ar := ar) (bk := bk) (x := y1) 24 (ci := 15) (C := RX12) (T := TX12) (N := 92) (ty := .int) hx hb hts (fun _ h => List.mem_cons_of_mem _ (wwMc_wsX120 _ h)) tyX12 tyX12_ok nmX12 hown hw 0 rfl rfl 44 (by decide) (hq _ wM_40) rfl (by decide +kernel) rfl rfl (Nat.le_of_ble_eq_true rfl) dX12_newBack_26 rfl (fun H locs g4 h_g4 hw => ?_)
  have e_g4_24 : g4 24 = y1 := (hk_upgS h_g4)
  have e_g4_25 : g4 25 = (g 24) := ((hk_upgN h_g4 25 rfl)).trans (hk_upgS h_g3)
  have e_g4_26 : g4 26 = (g 25) := ((hk_upgN h_g4 26 rfl)).trans (((hk_upgN h_g3 26 rfl)).trans (hk_upgS h_g2))
  have e_g4_27 : g4 27 = (g 26) := ((hk_upgN h_g4 27 rfl)).trans (((hk_upgN h_g3 27 rfl)).trans (((hk_upgN h_g2 27 rfl)).trans (hk_upgS h_g1)))
  exact kr g4 lg ar bk _ _ _ _ ⟨(hk_frG (hk_frG (hk_frG (hk_frG hk_fr0 (by decide) h_g1) (by decide) h_g2) (by decide) h_g3) (by decide) h_g4), rfl, rfl, rfl, (om164 ((g4 24).toInt) ((y1).toInt) (congrArg Int32.toInt e_g4_24)), (om162 ((g4 24).toInt) ((y1).toInt) (congrArg Int32.toInt e_g4_24) hr0), (om162 ((g4 25).toInt) ((g 24).toInt) (congrArg Int32.toInt e_g4_25) hi_g24), (om162 ((g4 26).toInt) ((g 25).toInt) (congrArg Int32.toInt e_g4_26) hi_g25), (om162 ((g4 27).toInt) ((g 26).toInt) (congrArg Int32.toInt e_g4_27) hi_g26)⟩ hw dX12_newBack_29

set_option maxHeartbeats 4000000 in
set_option maxRecDepth 100000 in
/-- X12_part on (0,) -/
theorem jm_X12_part (l : Launch) (hlt : l.stackTraces = false) (D : va_G) (t3 : Nat × Nat × Nat) (cI cJ : ClassId) (ad : Nat → Nat) (g : Nat → Int32) (lg : Nat → Int64) (ar : Nat → Nat → Int32) (bk : Nat → Int64) (sz : Nat) (hi_g31 : 0 ≤ (g 31).toInt ∧ (g 31).toInt ≤ 4) : JMi l yX12_part (Cond.code yX12_part cX12_part 1 (some .int) :: wwM) { frames := 0, cells := 0, slots := 0, locals := 0 } t3 D mw cI cJ ad [.ref (ad 0)] (mw cI cJ ad g lg ar bk) sz 0 0 (fun (r : Int32) g' lg' ar' bk' => g = g' ∧ lg = lg' ∧ ar = ar' ∧ bk = bk' ∧ (0 ≤ (r).toInt ∧ (r).toInt ≤ 15)) (fun g' lg' ar' bk' => False) := by
  refine jx_meti (cc := cX12_part) (maxL := 1) (ret := (some .int)) rfl (by decide) rfl (Nat.le_of_ble_eq_true rfl) ?_
  intro p e s m args below meth c ls Q A hx hb hml hown hts hA hZ hw hl hQ kr kt
  have hq : ∀ w ∈ wwM, w.before args s = true := fun w h => hts w (List.mem_cons_of_mem _ h)
  have hl : lv_has ls 1 [(0, .ref (ad 0))] := hl
  refine lv_aload_n hx hb dX12_part_0 rfl (lv_at hl 0 rfl) ?_
  refine hk_get (ci := 15) (C := RX12) (T := TX12) (N := 92) (v := .int (g 28)) hx hb hts (fun _ h => List.mem_cons_of_mem _ (wwMc_wsX120 _ h)) hown hw 0 rfl rfl 48 (by decide) (hq _ wM_84) rfl dX12_part_1 ?_
  refine lv_iconst (v := 1) hx hb dX12_part_4 (by decide) ?_
  refine lv_aload_n hx hb dX12_part_5 rfl (lv_at hl 0 rfl) ?_
  refine hk_get (ci := 15) (C := RX12) (T := TX12) (N := 92) (v := .int (g 31)) hx hb hts (fun _ h => List.mem_cons_of_mem _ (wwMc_wsX120 _ h)) hown hw 0 rfl rfl 51 (by decide) (hq _ wM_422) rfl dX12_part_6 ?_
  refine lv_ishl hx hb dX12_part_9 (jx_nm fun z1 hz1 => ?_)
  have ha2 : 1 ≤ (z1).toInt ∧ (z1).toInt ≤ 16 := (om165 ((z1).toInt) ((g 31).toInt) (hE_shlv1_4 hz1) hi_g31)
  refine lv_iconst (v := 1) hx hb dX12_part_10 (by decide) ?_
  refine lv_isub hx hb dX12_part_11 (jx_nm fun z3 hz3 => ?_)
  have xz3 : (z3).toInt = (z1).toInt - ((1 : Int32)).toInt := (hE_imp (hE_sub hz3) (om166 ((z1).toInt) (((1 : Int32)).toInt) ha2 (by decide)))
  refine lv_iand hx hb dX12_part_12 (jx_nm fun z4 hz4 => ?_)
  exact kr z4 g lg ar bk _ _ _ _ ⟨rfl, rfl, rfl, rfl, (om167 ((z4).toInt) ((g 28).toInt) ((z3).toInt) ((z1).toInt) (((1 : Int32)).toInt) (hE_and2 hz4) xz3 ha2 (by decide))⟩ hw dX12_part_13

set_option maxHeartbeats 4000000 in
set_option maxRecDepth 100000 in
/-- X12_afterLiteral on (0,) -/
theorem jm_X12_afterLiteral (l : Launch) (hlt : l.stackTraces = false) (D : va_G) (t3 : Nat × Nat × Nat) (cI cJ : ClassId) (ad : Nat → Nat) (g : Nat → Int32) (lg : Nat → Int64) (ar : Nat → Nat → Int32) (bk : Nat → Int64) (sz : Nat) (hi_g23 : 0 ≤ (g 23).toInt ∧ (g 23).toInt ≤ 11) : JMv l yX12_afterLiteral (Cond.code yX12_afterLiteral cX12_afterLiteral 1 none :: wwM) { frames := 0, cells := 0, slots := 0, locals := 0 } t3 D mw cI cJ ad [.ref (ad 0)] (mw cI cJ ad g lg ar bk) sz 0 0 (fun g' lg' ar' bk' => hk_fr [23] g g' ∧ lg = lg' ∧ ar = ar' ∧ bk = bk' ∧ ((g' 23).toInt ≤ 6) ∧ (0 ≤ (g' 23).toInt ∧ (g' 23).toInt ≤ 11)) (fun g' lg' ar' bk' => False) := by
  refine jx_metv (cc := cX12_afterLiteral) (maxL := 1) (ret := none) rfl (by decide) rfl (Nat.le_of_ble_eq_true rfl) ?_
  intro p e s m args below meth c ls Q A hx hb hml hown hts hA hZ hw hl hQ kr kt
  have hq : ∀ w ∈ wwM, w.before args s = true := fun w h => hts w (List.mem_cons_of_mem _ h)
  have hl : lv_has ls 1 [(0, .ref (ad 0))] := hl
  refine lv_aload_n hx hb dX12_afterLiteral_0 rfl (lv_at hl 0 rfl) ?_
  refine lv_aload_n hx hb dX12_afterLiteral_1 rfl (lv_at hl 0 rfl) ?_
  refine hk_get (ci := 15) (C := RX12) (T := TX12) (N := 92) (v := .int (g 23)) hx hb hts (fun _ h => List.mem_cons_of_mem _ (wwMc_wsX120 _ h)) hown hw 0 rfl rfl 43 (by decide) (hq _ wM_31) rfl dX12_afterLiteral_2 ?_
  refine lv_iconst (v := 4) hx hb dX12_afterLiteral_5 (by decide) ?_
  refine lv_icmp_ge (tgt := 13) hx hb dX12_afterLiteral_6 (by decide) (fun cc1 => ?_) (fun cc1 => ?_)
  · refine lv_aload_n hx hb dX12_afterLiteral_13 rfl (lv_at hl 0 rfl) ?_
    refine hk_get (ci := 15) (C := RX12) (T := TX12) (N := 92) (v := .int (g 23)) hx hb hts (fun _ h => List.mem_cons_of_mem _ (wwMc_wsX120 _ h)) hown hw 0 rfl rfl 43 (by decide) (hq _ wM_31) rfl dX12_afterLiteral_14 ?_
    refine lv_bipush (v := 10) hx hb dX12_afterLiteral_17 (by decide) ?_
    refine lv_icmp_ge (tgt := 31) hx hb dX12_afterLiteral_19 (by decide) (fun cc2 => ?_) (fun cc2 => ?_)
    · refine lv_aload_n hx hb dX12_afterLiteral_31 rfl (lv_at hl 0 rfl) ?_
      refine hk_get (ci := 15) (C := RX12) (T := TX12) (N := 92) (v := .int (g 23)) hx hb hts (fun _ h => List.mem_cons_of_mem _ (wwMc_wsX120 _ h)) hown hw 0 rfl rfl 43 (by decide) (hq _ wM_31) rfl dX12_afterLiteral_32 ?_
      refine lv_bipush (v := 6) hx hb dX12_afterLiteral_35 (by decide) ?_
      refine lv_isub hx hb dX12_afterLiteral_37 (jx_nm fun z3 hz3 => ?_)
      have xz3 : (z3).toInt = (g 23).toInt - ((6 : Int32)).toInt := (hE_imp (hE_sub hz3) (om168 ((g 23).toInt) (((6 : Int32)).toInt) (((10 : Int32)).toInt) hi_g23 (hE_le cc2) (by decide) (by decide)))
      refine jx_putg mw (cI := cI) (cJ := cJ) (ad := ad) (g := g) (lg := lg) (ar := ar) (bk := bk) (x := z3) 23 (ci := 15) (C := RX12) (T := TX12) (N := 92) (ty := .int) hx hb hts (fun _ h => List.mem_cons_of_mem _ (wwMc_wsX120 _ h)) tyX12 tyX12_ok nmX12 hown hw 0 rfl rfl 43 (by decide) (hq _ wM_31) rfl (by decide +kernel) rfl rfl (Nat.le_of_ble_eq_true rfl) dX12_afterLiteral_38 rfl (fun H locs g4 h_g4 hw => ?_)
      have e_g4_23 : g4 23 = z3 := (hk_upgS h_g4)
      exact kr g4 lg ar bk _ _ _ _ ⟨(hk_frG hk_fr0 (by decide) h_g4), rfl, rfl, rfl, (om169 ((g4 23).toInt) ((z3).toInt) ((g 23).toInt) (((6 : Int32)).toInt) (congrArg Int32.toInt e_g4_23) xz3 hi_g23 (by decide)), (om170 ((g4 23).toInt) ((z3).toInt) ((g 23).toInt) (((6 : Int32)).toInt) (((10 : Int32)).toInt) (congrArg Int32.toInt e_g4_23) xz3 hi_g23 (hE_le cc2) (by decide) (by decide))⟩ hw dX12_afterLiteral_41
    · refine lv_aload_n hx hb dX12_afterLiteral_22 rfl (lv_at hl 0 rfl) ?_
      refine hk_get (ci := 15) (C := RX12) (T := TX12) (N := 92) (v := .int (g 23)) hx hb hts (fun _ h => List.mem_cons_of_mem _ (wwMc_wsX120 _ h)) hown hw 0 rfl rfl 43 (by decide) (hq _ wM_31) rfl dX12_afterLiteral_23 ?_
      refine lv_iconst (v := 3) hx hb dX12_afterLiteral_26 (by decide) ?_
      refine lv_isub hx hb dX12_afterLiteral_27 (jx_nm fun z5 hz5 => ?_)
      have xz5 : (z5).toInt = (g 23).toInt - ((3 : Int32)).toInt := (hE_imp (hE_sub hz5) (om171 ((g 23).toInt) (((3 : Int32)).toInt) (((4 : Int32)).toInt) (((10 : Int32)).toInt) (hE_le cc1) (hE_nle cc2) (by decide) (by decide) (by decide)))
      refine lv_goto (tgt := 38) hx hb dX12_afterLiteral_28 (by decide) ?_
      refine jx_putg mw (cI := cI) (cJ := cJ) (ad := ad) (g := g) (lg := lg) (ar := ar) (bk := bk) (x := z5) 23 (ci := 15) (C := RX12) (T := TX12) (N := 92) (ty := .int) hx hb hts (fun _ h => List.mem_cons_of_mem _ (wwMc_wsX120 _ h)) tyX12 tyX12_ok nmX12 hown hw 0 rfl rfl 43 (by decide) (hq _ wM_31) rfl (by decide +kernel) rfl rfl (Nat.le_of_ble_eq_true rfl) dX12_afterLiteral_38 rfl (fun H locs g6 h_g6 hw => ?_)
      have e_g6_23 : g6 23 = z5 := (hk_upgS h_g6)
      exact kr g6 lg ar bk _ _ _ _ ⟨(hk_frG hk_fr0 (by decide) h_g6), rfl, rfl, rfl, (om172 ((g6 23).toInt) ((z5).toInt) ((g 23).toInt) (((3 : Int32)).toInt) (((10 : Int32)).toInt) (congrArg Int32.toInt e_g6_23) xz5 (hE_nle cc2) (by decide) (by decide)), (om173 ((g6 23).toInt) ((z5).toInt) ((g 23).toInt) (((3 : Int32)).toInt) (((4 : Int32)).toInt) (((10 : Int32)).toInt) (congrArg Int32.toInt e_g6_23) xz5 (hE_le cc1) (hE_nle cc2) (by decide) (by decide) (by decide))⟩ hw dX12_afterLiteral_41
  · refine lv_iconst (v := 0) hx hb dX12_afterLiteral_9 (by decide) ?_
    refine lv_goto (tgt := 38) hx hb dX12_afterLiteral_10 (by decide) ?_
    refine jx_putg mw (cI := cI) (cJ := cJ) (ad := ad) (g := g) (lg := lg) (ar := ar) (bk := bk) (x := 0) 23 (ci := 15) (C := RX12) (T := TX12) (N := 92) (ty := .int) hx hb hts (fun _ h => List.mem_cons_of_mem _ (wwMc_wsX120 _ h)) tyX12 tyX12_ok nmX12 hown hw 0 rfl rfl 43 (by decide) (hq _ wM_31) rfl (by decide +kernel) rfl rfl (Nat.le_of_ble_eq_true rfl) dX12_afterLiteral_38 rfl (fun H locs g7 h_g7 hw => ?_)
    have e_g7_23 : g7 23 = (0 : Int32) := (hk_upgS h_g7)
    exact kr g7 lg ar bk _ _ _ _ ⟨(hk_frG hk_fr0 (by decide) h_g7), rfl, rfl, rfl, (om174 ((g7 23).toInt) (((0 : Int32)).toInt) (congrArg Int32.toInt e_g7_23) (by decide)), (om175 ((g7 23).toInt) (((0 : Int32)).toInt) (congrArg Int32.toInt e_g7_23) (by decide))⟩ hw dX12_afterLiteral_41

set_option maxHeartbeats 4000000 in
set_option maxRecDepth 100000 in
/-- X12_literalAt on (0,) -/
theorem jm_X12_literalAt (l : Launch) (hlt : l.stackTraces = false) (D : va_G) (t3 : Nat × Nat × Nat) (cI cJ : ClassId) (ad : Nat → Nat) (g : Nat → Int32) (lg : Nat → Int64) (ar : Nat → Nat → Int32) (bk : Nat → Int64) (sz : Nat) (y1 : Int32) (hr0 : 0 ≤ (y1).toInt ∧ (y1).toInt ≤ 255) (hi_g29 : 0 ≤ (g 29).toInt ∧ (g 29).toInt ≤ 4) (hi_g30 : 0 ≤ (g 30).toInt ∧ (g 30).toInt ≤ 4) (hi_tnow : (g 29).toInt + (g 30).toInt ≤ 4) : JMi l yX12_literalAt (Cond.code yX12_literalAt cX12_literalAt 2 (some .int) :: wwM) { frames := 0, cells := 0, slots := 0, locals := 0 } t3 D mw cI cJ ad [.ref (ad 0), .int y1] (mw cI cJ ad g lg ar bk) sz 0 0 (fun (r : Int32) g' lg' ar' bk' => g = g' ∧ lg = lg' ∧ ar = ar' ∧ bk = bk' ∧ (2056 ≤ (r).toInt ∧ (r).toInt ≤ 13576)) (fun g' lg' ar' bk' => False) := by
  refine jx_meti (cc := cX12_literalAt) (maxL := 2) (ret := (some .int)) rfl (by decide) rfl (Nat.le_of_ble_eq_true rfl) ?_
  intro p e s m args below meth c ls Q A hx hb hml hown hts hA hZ hw hl hQ kr kt
  have hq : ∀ w ∈ wwM, w.before args s = true := fun w h => hts w (List.mem_cons_of_mem _ h)
  have hl : lv_has ls 2 [(0, .ref (ad 0)), (1, .int y1)] := hl
  refine lv_sipush (v := 2056) hx hb dX12_literalAt_0 (by decide) ?_
  refine lv_sipush (v := 768) hx hb dX12_literalAt_3 (by decide) ?_
  refine lv_aload_n hx hb dX12_literalAt_6 rfl (lv_at hl 0 rfl) ?_
  refine hk_get (ci := 15) (C := RX12) (T := TX12) (N := 92) (v := .int (g 28)) hx hb hts (fun _ h => List.mem_cons_of_mem _ (wwMc_wsX120 _ h)) hown hw 0 rfl rfl 48 (by decide) (hq _ wM_84) rfl dX12_literalAt_7 ?_
  refine lv_iconst (v := 1) hx hb dX12_literalAt_10 (by decide) ?_
  refine lv_aload_n hx hb dX12_literalAt_11 rfl (lv_at hl 0 rfl) ?_
  refine hk_get (ci := 15) (C := RX12) (T := TX12) (N := 92) (v := .int (g 30)) hx hb hts (fun _ h => List.mem_cons_of_mem _ (wwMc_wsX120 _ h)) hown hw 0 rfl rfl 50 (by decide) (hq _ wM_239) rfl dX12_literalAt_12 ?_
  refine lv_ishl hx hb dX12_literalAt_15 (jx_nm fun z1 hz1 => ?_)
  have ha2 : 1 ≤ (z1).toInt ∧ (z1).toInt ≤ 16 := (om165 ((z1).toInt) ((g 30).toInt) (hE_shlv1_4 hz1) hi_g30)
  refine lv_iconst (v := 1) hx hb dX12_literalAt_16 (by decide) ?_
  refine lv_isub hx hb dX12_literalAt_17 (jx_nm fun z3 hz3 => ?_)
  have xz3 : (z3).toInt = (z1).toInt - ((1 : Int32)).toInt := (hE_imp (hE_sub hz3) (om166 ((z1).toInt) (((1 : Int32)).toInt) ha2 (by decide)))
  refine lv_iand hx hb dX12_literalAt_18 (jx_nm fun z4 hz4 => ?_)
  have ha5 : 0 ≤ (z4).toInt ∧ (z4).toInt ≤ 15 := (om167 ((z4).toInt) ((g 28).toInt) ((z3).toInt) ((z1).toInt) (((1 : Int32)).toInt) (hE_and2 hz4) xz3 ha2 (by decide))
  refine lv_aload_n hx hb dX12_literalAt_19 rfl (lv_at hl 0 rfl) ?_
  refine hk_get (ci := 15) (C := RX12) (T := TX12) (N := 92) (v := .int (g 29)) hx hb hts (fun _ h => List.mem_cons_of_mem _ (wwMc_wsX120 _ h)) hown hw 0 rfl rfl 49 (by decide) (hq _ wM_240) rfl dX12_literalAt_20 ?_
  refine lv_ishl hx hb dX12_literalAt_23 (jx_nm fun z6 hz6 => ?_)
  have ha7 : 0 ≤ (z6).toInt ∧ (z6).toInt ≤ 240 := (om176 ((z6).toInt) ((g 29).toInt) ((z4).toInt) (hE_shlx4 hz6) hi_g29 ha5)
  refine lv_iload_n hx hb dX12_literalAt_24 rfl (lv_at hl 1 rfl) ?_
  refine lv_bipush (v := 8) hx hb dX12_literalAt_25 (by decide) ?_
  refine lv_aload_n hx hb dX12_literalAt_27 rfl (lv_at hl 0 rfl) ?_
  refine hk_get (ci := 15) (C := RX12) (T := TX12) (N := 92) (v := .int (g 29)) hx hb hts (fun _ h => List.mem_cons_of_mem _ (wwMc_wsX120 _ h)) hown hw 0 rfl rfl 49 (by decide) (hq _ wM_240) rfl dX12_literalAt_28 ?_
  refine lv_isub hx hb dX12_literalAt_31 (jx_nm fun z8 hz8 => ?_)
  have xz8 : (z8).toInt = ((8 : Int32)).toInt - (g 29).toInt := (hE_imp (hE_sub hz8) (om177 (((8 : Int32)).toInt) ((g 29).toInt) hi_g29 (by decide)))
  refine lv_ishr hx hb dX12_literalAt_32 (jx_nm fun z9 hz9 => ?_)
  have ha10 : 0 ≤ (z9).toInt ∧ (z9).toInt ≤ 15 := (om178 ((z9).toInt) ((z8).toInt) ((y1).toInt) (((8 : Int32)).toInt) ((g 29).toInt) (hE_shrx4_8 hz9) hr0 xz8 hi_g29 (hE_rng (y1)) (by decide))
  refine lv_iadd hx hb dX12_literalAt_33 (jx_nm fun z11 hz11 => ?_)
  have xz11 : (z11).toInt = (z6).toInt + (z9).toInt := (hE_imp (hE_add hz11) (om179 ((z6).toInt) ((z9).toInt) ha7 ha10))
  have ha12 : 0 ≤ (z11).toInt ∧ (z11).toInt ≤ 15 := (om180 ((z11).toInt) ((z6).toInt) ((z9).toInt) ((g 29).toInt) ((z4).toInt) ((z8).toInt) ((y1).toInt) ((g 30).toInt) ((g 28).toInt) ((z3).toInt) (((8 : Int32)).toInt) ((z1).toInt) (((1 : Int32)).toInt) xz11 (hE_shlx4 hz6) ha7 (hE_shrx4_8 hz9) ha10 hr0 hi_g29 hi_tnow (hE_and2 hz4) ha5 xz8 hi_g30 (hE_shlv1_4 hz1) xz3 ha2 (hE_rng (z11)) (hE_rng (z6)) (hE_rng (z9)) (hE_rng (z4)) (hE_rng (g 29)) (hE_rng (y1)) (hE_rng (z8)) (hE_rng (g 30)) (hE_rng (g 28)) (hE_rng (z3)) (by decide) (hE_rng (z1)) (by decide))
  refine lv_imul hx hb dX12_literalAt_34 (jx_nm fun z13 hz13 => ?_)
  have xz13 : (z13).toInt = (z11).toInt * 768 := (hE_imp (hE_mul' 768 hz13 (by decide)) (om181 ((z11).toInt) ((z6).toInt) ((z9).toInt) xz11 ha12 ha7 ha10))
  refine lv_iadd hx hb dX12_literalAt_35 (jx_nm fun z14 hz14 => ?_)
  have xz14 : (z14).toInt = ((2056 : Int32)).toInt + (z13).toInt := (hE_imp (hE_add hz14) (om182 (((2056 : Int32)).toInt) ((z13).toInt) ((z11).toInt) ((z6).toInt) ((z9).toInt) xz13 xz11 ha12 ha7 ha10 (by decide) (hE_rng (z13))))
  exact kr z14 g lg ar bk _ _ _ _ ⟨rfl, rfl, rfl, rfl, (om183 ((z14).toInt) (((2056 : Int32)).toInt) ((z13).toInt) ((z11).toInt) ((z6).toInt) ((z9).toInt) xz14 xz13 xz11 ha12 ha7 ha10 (by decide))⟩ hw dX12_literalAt_36

set_option maxHeartbeats 4000000 in
set_option maxRecDepth 100000 in
/-- X12_fail on (0,) -/
theorem jm_X12_fail (l : Launch) (hlt : l.stackTraces = false) (D : va_G) (t3 : Nat × Nat × Nat) (cI cJ : ClassId) (ad : Nat → Nat) (g : Nat → Int32) (lg : Nat → Int64) (ar : Nat → Nat → Int32) (bk : Nat → Int64) (sz : Nat) (y1 : Int32) (hr0 : 1 ≤ (y1).toInt ∧ (y1).toInt ≤ 15) (hi_g51 : 0 ≤ (g 51).toInt ∧ (g 51).toInt ≤ 15) : JMv l yX12_fail (Cond.code yX12_fail cX12_fail 2 none :: wwM) { frames := 0, cells := 0, slots := 0, locals := 0 } t3 D mw cI cJ ad [.ref (ad 0), .int y1] (mw cI cJ ad g lg ar bk) sz 0 0 (fun g' lg' ar' bk' => hk_fr [51] g g' ∧ lg = lg' ∧ ar = ar' ∧ bk = bk' ∧ (1 ≤ (g' 51).toInt) ∧ (0 ≤ (g' 51).toInt ∧ (g' 51).toInt ≤ 15)) (fun g' lg' ar' bk' => False) := by
  refine jx_metv (cc := cX12_fail) (maxL := 2) (ret := none) rfl (by decide) rfl (Nat.le_of_ble_eq_true rfl) ?_
  intro p e s m args below meth c ls Q A hx hb hml hown hts hA hZ hw hl hQ kr kt
  have hq : ∀ w ∈ wwM, w.before args s = true := fun w h => hts w (List.mem_cons_of_mem _ h)
  have hl : lv_has ls 2 [(0, .ref (ad 0)), (1, .int y1)] := hl
  refine lv_aload_n hx hb dX12_fail_0 rfl (lv_at hl 0 rfl) ?_
  refine hk_get (ci := 15) (C := RX12) (T := TX12) (N := 92) (v := .int (g 51)) hx hb hts (fun _ h => List.mem_cons_of_mem _ (wwMc_wsX120 _ h)) hown hw 0 rfl rfl 78 (by decide) (hq _ wM_63) rfl dX12_fail_1 ?_
  refine lv_if_ne (tgt := 12) hx hb dX12_fail_4 (by decide) (fun cc1 => ?_) (fun cc1 => ?_)
  · exact kr g lg ar bk _ _ _ _ ⟨hk_fr0, rfl, rfl, rfl, (om184 ((g 51).toInt) (((0 : Int32)).toInt) hi_g51 (hE_ne cc1) (by decide)), (om185 ((g 51).toInt) (((0 : Int32)).toInt) hi_g51 (hE_ne cc1) (by decide))⟩ hw dX12_fail_12
  · refine lv_aload_n hx hb dX12_fail_7 rfl (lv_at hl 0 rfl) ?_
    refine lv_iload_n hx hb dX12_fail_8 rfl (lv_at hl 1 rfl) ?_
    refine jx_putg mw (cI := cI) (cJ := cJ) (ad := ad) (g := g) (lg := lg) (ar := ar) (bk := bk) (x := y1) 51 (ci := 15) (C := RX12) (T := TX12) (N := 92) (ty := .int) hx hb hts (fun _ h => List.mem_cons_of_mem _ (wwMc_wsX120 _ h)) tyX12 tyX12_ok nmX12 hown hw 0 rfl rfl 78 (by decide) (hq _ wM_63) rfl (by decide +kernel) rfl rfl (Nat.le_of_ble_eq_true rfl) dX12_fail_9 rfl (fun H locs g2 h_g2 hw => ?_)
    have e_g2_51 : g2 51 = y1 := (hk_upgS h_g2)
    exact kr g2 lg ar bk _ _ _ _ ⟨(hk_frG hk_fr0 (by decide) h_g2), rfl, rfl, rfl, (om186 ((g2 51).toInt) ((y1).toInt) (congrArg Int32.toInt e_g2_51) hr0), (om187 ((g2 51).toInt) ((y1).toInt) (congrArg Int32.toInt e_g2_51) hr0)⟩ hw dX12_fail_12

set_option maxHeartbeats 4000000 in
set_option maxRecDepth 100000 in
/-- X12_next on (0,) -/
theorem jm_X12_next (l : Launch) (hlt : l.stackTraces = false) (D : va_G) (t3 : Nat × Nat × Nat) (cI cJ : ClassId) (ad : Nat → Nat) (g : Nat → Int32) (lg : Nat → Int64) (ar : Nat → Nat → Int32) (bk : Nat → Int64) (sz : Nat) (hi_g49 : 0 ≤ (g 49).toInt ∧ (g 49).toInt ≤ 1500) (hi_g51 : 0 ≤ (g 51).toInt ∧ (g 51).toInt ≤ 15) (hi_g12 : 0 ≤ (g 12).toInt ∧ (g 12).toInt ≤ 1500) (hi_a0rg : hk_rg 0 255 (ar 0)) : JMi l yX12_next (Cond.code yX12_next cX12_next 1 (some .int) :: wwM) { frames := 1, cells := 0, slots := 0, locals := 21 } t3 D mw cI cJ ad [.ref (ad 0)] (mw cI cJ ad g lg ar bk) sz 0 0 (fun (r : Int32) g' lg' ar' bk' => hk_fr [49, 51] g g' ∧ lg = lg' ∧ ar = ar' ∧ bk = bk' ∧ (0 ≤ (r).toInt ∧ (r).toInt ≤ 255) ∧ ((g' 49).toInt = (g 49).toInt + 1 ∧ (g' 51).toInt = (g 51).toInt ∨ (g' 49).toInt = (g 49).toInt ∧ 1 ≤ (g' 51).toInt) ∧ ((g 49).toInt ≤ (g' 49).toInt) ∧ (0 ≤ (g' 49).toInt ∧ (g' 49).toInt ≤ 1500) ∧ (0 ≤ (g' 51).toInt ∧ (g' 51).toInt ≤ 15)) (fun g' lg' ar' bk' => False) := by
  refine jx_meti (cc := cX12_next) (maxL := 1) (ret := (some .int)) rfl (by decide) rfl (Nat.le_of_ble_eq_true rfl) ?_
  intro p e s m args below meth c ls Q A hx hb hml hown hts hA hZ hw hl hQ kr kt
  have hq : ∀ w ∈ wwM, w.before args s = true := fun w h => hts w (List.mem_cons_of_mem _ h)
  have hl : lv_has ls 1 [(0, .ref (ad 0))] := hl
  refine lv_aload_n hx hb dX12_next_0 rfl (lv_at hl 0 rfl) ?_
  refine hk_get (ci := 15) (C := RX12) (T := TX12) (N := 92) (v := .int (g 51)) hx hb hts (fun _ h => List.mem_cons_of_mem _ (wwMc_wsX120 _ h)) hown hw 0 rfl rfl 78 (by decide) (hq _ wM_63) rfl dX12_next_1 ?_
  refine lv_if_le (tgt := 9) hx hb dX12_next_4 (by decide) (fun cc1 => ?_) (fun cc1 => ?_)
  · refine lv_aload_n hx hb dX12_next_9 rfl (lv_at hl 0 rfl) ?_
    refine hk_get (ci := 15) (C := RX12) (T := TX12) (N := 92) (v := .int (g 49)) hx hb hts (fun _ h => List.mem_cons_of_mem _ (wwMc_wsX120 _ h)) hown hw 0 rfl rfl 76 (by decide) (hq _ wM_92) rfl dX12_next_10 ?_
    refine lv_aload_n hx hb dX12_next_13 rfl (lv_at hl 0 rfl) ?_
    refine hk_get (ci := 15) (C := RX12) (T := TX12) (N := 92) (v := .int (g 50)) hx hb hts (fun _ h => List.mem_cons_of_mem _ (wwMc_wsX120 _ h)) hown hw 0 rfl rfl 77 (by decide) (hq _ wM_91) rfl dX12_next_14 ?_
    have B2 : ∀  (ls : Array Slot) (H : Heap) (locs : List Loc), hk_W D (jT cI cJ) A s H locs (mw cI cJ ad g lg ar bk) → lv_has ls 1 [(0, .ref (ad 0))] → W p l e { frames := 1, cells := 0, slots := 0, locals := 21 } s m args below meth c H locs 0 0 Q (F0 m 31 ls []) := by
      intro ls H locs hw hl
      refine lv_aload_n hx hb dX12_next_31 rfl (lv_at hl 0 rfl) ?_
      refine lv_iconst (v := 1) hx hb dX12_next_32 (by decide) ?_
      refine jx_Vv (As := [.int 1]) (rest := []) ⟨hx, hb, hml, hown, hts⟩ hZ hw hA (jm_X12_fail l hlt D t3 cI cJ ad g lg ar bk _ 1 (om188 (((1 : Int32)).toInt) (by decide)) (om189 ((g 51).toInt) (((0 : Int32)).toInt) hi_g51 (hE_le cc1) (by decide))) (cwV 1 hts (jx_gV wwM_good wM_64 wM_65 wM_66 wM_8 wM_67) rfl rfl rfl (by decide +kernel) ⟨Nat.le_of_ble_eq_true rfl, Nat.le_of_ble_eq_true rfl⟩) 0 (ci := 15) (T := TX12) (N := 92) rfl rfl rfl hl.1 rfl (Nat.le_of_ble_eq_true rfl) dX12_next_33 ⟨Nat.le_of_ble_eq_true rfl, Nat.le_of_ble_eq_true rfl⟩ (fun _ _ _ _ _ _ _ _ hp _ _ _ _ => hp.elim) (fun g8 l9 a10 b11 H locs hp12 hw => ?_)
      obtain ⟨h13, rfl, rfl, rfl, h17, h18⟩ := hp12
      refine lv_iconst (v := 0) hx hb dX12_next_36 (by decide) ?_
      have e_g8_49 : g8 49 = (g 49) := (h13 49 rfl)
      exact kr 0 g8 lg ar bk _ _ _ _ ⟨(hk_frT hk_fr0 (by decide) h13), rfl, rfl, rfl, (om190 (((0 : Int32)).toInt) (by decide)), (om191 ((g8 49).toInt) ((g 49).toInt) ((g8 51).toInt) ((g 51).toInt) h17 (congrArg Int32.toInt e_g8_49)), (om192 ((g 49).toInt) ((g8 49).toInt) (congrArg Int32.toInt e_g8_49)), (om21 ((g8 49).toInt) ((g 49).toInt) (congrArg Int32.toInt e_g8_49) hi_g49), (om193 ((g8 51).toInt) h17 h18)⟩ hw dX12_next_37
    refine lv_icmp_ge (tgt := 31) hx hb dX12_next_17 (by decide) (fun cc19 => ?_) (fun cc19 => ?_)
    · exact B2 ls _ _ hw (lv_sub hl [0] rfl)
    · refine lv_aload_n hx hb dX12_next_20 rfl (lv_at hl 0 rfl) ?_
      refine hk_get (ci := 15) (C := RX12) (T := TX12) (N := 92) (v := .int (g 49)) hx hb hts (fun _ h => List.mem_cons_of_mem _ (wwMc_wsX120 _ h)) hown hw 0 rfl rfl 76 (by decide) (hq _ wM_92) rfl dX12_next_21 ?_
      refine lv_aload_n hx hb dX12_next_24 rfl (lv_at hl 0 rfl) ?_
      refine hk_get (ci := 15) (C := RX12) (T := TX12) (N := 92) (v := .int (g 12)) hx hb hts (fun _ h => List.mem_cons_of_mem _ (wwMc_wsX120 _ h)) hown hw 0 rfl rfl 13 (by decide) (hq _ wM_194) rfl dX12_next_25 ?_
      refine lv_icmp_lt (tgt := 38) hx hb dX12_next_28 (by decide) (fun cc20 => ?_) (fun cc20 => ?_)
      · refine lv_aload_n hx hb dX12_next_38 rfl (lv_at hl 0 rfl) ?_
        refine lv_dup hx hb dX12_next_39 rfl ?_
        refine hk_get (ci := 15) (C := RX12) (T := TX12) (N := 92) (v := .int (g 49)) hx hb hts (fun _ h => List.mem_cons_of_mem _ (wwMc_wsX120 _ h)) hown hw 0 rfl rfl 76 (by decide) (hq _ wM_92) rfl dX12_next_40 ?_
        refine lv_iconst (v := 1) hx hb dX12_next_43 (by decide) ?_
        refine lv_iadd hx hb dX12_next_44 (jx_nm fun z21 hz21 => ?_)
        have xz21 : (z21).toInt = (g 49).toInt + ((1 : Int32)).toInt := (hE_imp (hE_add hz21) (om194 ((g 49).toInt) (((1 : Int32)).toInt) ((g 12).toInt) hi_g49 (hE_lt cc20) hi_g12 (by decide)))
        refine jx_putg mw (cI := cI) (cJ := cJ) (ad := ad) (g := g) (lg := lg) (ar := ar) (bk := bk) (x := z21) 49 (ci := 15) (C := RX12) (T := TX12) (N := 92) (ty := .int) hx hb hts (fun _ h => List.mem_cons_of_mem _ (wwMc_wsX120 _ h)) tyX12 tyX12_ok nmX12 hown hw 0 rfl rfl 76 (by decide) (hq _ wM_92) rfl (by decide +kernel) rfl rfl (Nat.le_of_ble_eq_true rfl) dX12_next_45 rfl (fun H locs g22 h_g22 hw => ?_)
        refine lv_aload_n hx hb dX12_next_48 rfl (lv_at hl 0 rfl) ?_
        refine hk_get (ci := 15) (C := RX12) (T := TX12) (N := 92) (v := .ref (ad 1)) hx hb hts (fun _ h => List.mem_cons_of_mem _ (wwMc_wsX120 _ h)) hown hw 0 rfl rfl 12 (by decide) (hq _ wM_203) rfl dX12_next_49 ?_
        refine lv_aload_n hx hb dX12_next_52 rfl (lv_at hl 0 rfl) ?_
        have e_g22_49 : g22 49 = z21 := (hk_upgS h_g22)
        refine hk_get (ci := 15) (C := RX12) (T := TX12) (N := 92) (v := .int z21) hx hb hts (fun _ h => List.mem_cons_of_mem _ (wwMc_wsX120 _ h)) hown hw 0 rfl rfl 76 (by decide) (hq _ wM_92) (congrArg (fun z => some (Value.int z)) e_g22_49) dX12_next_53 ?_
        refine lv_iconst (v := 1) hx hb dX12_next_56 (by decide) ?_
        refine lv_isub hx hb dX12_next_57 (jx_nm fun z23 hz23 => ?_)
        have xz23 : (z23).toInt = (z21).toInt - ((1 : Int32)).toInt := (hE_imp (hE_sub hz23) (om195 ((z21).toInt) (((1 : Int32)).toInt) ((g 49).toInt) ((g 12).toInt) xz21 hi_g49 (hE_lt cc20) hi_g12))
        refine jx_iald hx hb hw 1 0 rfl rfl (hE_in (n := 1500) (om196 ((z23).toInt) ((z21).toInt) (((1 : Int32)).toInt) ((g 49).toInt) ((g 12).toInt) xz23 xz21 hi_g49 (hE_lt cc20) hi_g12)) dX12_next_58 (fun z24 hz24 => ?_)
        have e_g22_51 : g22 51 = (g 51) := (hk_upgN h_g22 51 rfl)
        exact kr z24 g22 lg ar bk _ _ _ _ ⟨(hk_frG hk_fr0 (by decide) h_g22), rfl, rfl, rfl, (om34 ((z24).toInt) (hk_rgV hi_a0rg hz24)), (om197 ((g22 49).toInt) ((g 49).toInt) ((g22 51).toInt) ((g 51).toInt) ((z21).toInt) (((1 : Int32)).toInt) xz21 (congrArg Int32.toInt e_g22_49) (congrArg Int32.toInt e_g22_51) (by decide)), (om198 ((g 49).toInt) ((g22 49).toInt) ((z21).toInt) (((1 : Int32)).toInt) xz21 (congrArg Int32.toInt e_g22_49) (by decide)), (om199 ((g22 49).toInt) ((z21).toInt) ((g 49).toInt) (((1 : Int32)).toInt) ((g 12).toInt) (congrArg Int32.toInt e_g22_49) xz21 hi_g49 (hE_lt cc20) hi_g12 (by decide)), (om200 ((g22 51).toInt) ((g 51).toInt) (((0 : Int32)).toInt) (congrArg Int32.toInt e_g22_51) hi_g51 (hE_le cc1) (by decide))⟩ hw dX12_next_59
      · exact B2 ls _ _ hw (lv_sub hl [0] rfl)
  · refine lv_iconst (v := 0) hx hb dX12_next_7 (by decide) ?_
    exact kr 0 g lg ar bk _ _ _ _ ⟨hk_fr0, rfl, rfl, rfl, (om190 (((0 : Int32)).toInt) (by decide)), (om201 ((g 49).toInt) ((g 51).toInt) (((0 : Int32)).toInt) (hE_nle cc1) (by decide)), (om122 ((g 49).toInt)), (om202 ((g 49).toInt) hi_g49), (om203 ((g 51).toInt) (((0 : Int32)).toInt) hi_g51 (hE_nle cc1) (by decide))⟩ hw dX12_next_8

set_option maxHeartbeats 4000000 in
set_option maxRecDepth 100000 in
/-- X12_nextWide on (0,) -/
theorem jm_X12_nextWide (l : Launch) (hlt : l.stackTraces = false) (D : va_G) (t3 : Nat × Nat × Nat) (cI cJ : ClassId) (ad : Nat → Nat) (g : Nat → Int32) (lg : Nat → Int64) (ar : Nat → Nat → Int32) (bk : Nat → Int64) (sz : Nat) (y1 : Int32) (hr0 : 0 ≤ (y1).toInt ∧ (y1).toInt ≤ 8) (hi_g49 : 0 ≤ (g 49).toInt ∧ (g 49).toInt ≤ 1500) (hi_g51 : 0 ≤ (g 51).toInt ∧ (g 51).toInt ≤ 15) (hi_g12 : 0 ≤ (g 12).toInt ∧ (g 12).toInt ≤ 1500) (hi_a0rg : hk_rg 0 255 (ar 0)) : JMl l yX12_nextWide (Cond.code yX12_nextWide cX12_nextWide 5 (some .long) :: wwM) { frames := 2, cells := 0, slots := 0, locals := 41 } t3 D mw cI cJ ad [.ref (ad 0), .int y1] (mw cI cJ ad g lg ar bk) sz 0 0 (fun (r : Int64) g' lg' ar' bk' => hk_fr [49, 51] g g' ∧ lg = lg' ∧ ar = ar' ∧ bk = bk' ∧ ((g 49).toInt ≤ (g' 49).toInt) ∧ ((1 ≤ (g 51).toInt → 1 ≤ (g' 51).toInt)) ∧ (0 ≤ (g' 49).toInt ∧ (g' 49).toInt ≤ 1500) ∧ (0 ≤ (g' 51).toInt ∧ (g' 51).toInt ≤ 15)) (fun g' lg' ar' bk' => False) := by
  refine jx_metl (cc := cX12_nextWide) (maxL := 5) (ret := (some .long)) rfl (by decide) rfl (Nat.le_of_ble_eq_true rfl) ?_
  intro p e s m args below meth c ls Q A hx hb hml hown hts hA hZ hw hl hQ kr kt
  have hq : ∀ w ∈ wwM, w.before args s = true := fun w h => hts w (List.mem_cons_of_mem _ h)
  have hl : lv_has ls 5 [(0, .ref (ad 0)), (1, .int y1)] := hl
  refine lv_lconst (v := 0) hx hb dX12_nextWide_0 (by decide) ?_
  refine lv_lstore_n (lv' := [(2, .long 0), (0, .ref (ad 0)), (1, .int y1)]) hx hb dX12_nextWide_1 rfl hl (by decide) rfl (fun ls hl => ?_)
  refine lv_iconst (v := 0) hx hb dX12_nextWide_2 (by decide) ?_
  refine lv_istore (lv' := [(4, .int 0), (2, .long 0), (0, .ref (ad 0)), (1, .int y1)]) hx hb dX12_nextWide_3 hl (by decide) rfl (fun ls hl => ?_)
  have B1 : ∀ (k5 : Nat) (x2 : Int64) (x3 : Int32) (g4 : Nat → Int32) (ls : Array Slot) (H : Heap) (locs : List Loc), (2147483648 - (x3).toInt ≤ (k5 : Int)) → (0 ≤ (x3).toInt) → ((g 49).toInt ≤ (g4 49).toInt) → (1 ≤ (g 51).toInt → 1 ≤ (g4 51).toInt) → (0 ≤ (g4 49).toInt ∧ (g4 49).toInt ≤ 1500) → (0 ≤ (g4 51).toInt ∧ (g4 51).toInt ≤ 15) → (hk_fr [49, 51] g g4) → hk_W D (jT cI cJ) A s H locs (mw cI cJ ad g4 lg ar bk) → lv_has ls 5 [(0, .ref (ad 0)), (1, .int y1), (2, .long x2), (4, .int x3)] → W p l e { frames := 2, cells := 0, slots := 0, locals := 41 } s m args below meth c H locs 0 0 Q (F0 m 5 ls []) := by
    intro k5
    induction k5 with
    | zero =>
      intro x2 x3 g4 ls H locs hrk_B1 hf_B1_0 hf_B1_1 hf_B1_2 hf_B1_3 hf_B1_4 hfr_g4 hw hl
      exact False.elim (hk_no0 (0 * (x3).toInt) (om30 ((x3).toInt) hrk_B1 (hE_rng (x3))) (by simp))
    | succ k5 ih_B1 =>
      intro x2 x3 g4 ls H locs hrk_B1 hf_B1_0 hf_B1_1 hf_B1_2 hf_B1_3 hf_B1_4 hfr_g4 hw hl
      have hrk_B1 := hk_rk hrk_B1
      refine lv_iload hx hb dX12_nextWide_5 (lv_at hl 3 rfl) ?_
      refine lv_iload_n hx hb dX12_nextWide_7 rfl (lv_at hl 1 rfl) ?_
      refine lv_icmp_ge (tgt := 31) hx hb dX12_nextWide_8 (by decide) (fun cc6 => ?_) (fun cc6 => ?_)
      · refine lv_lload_n hx hb dX12_nextWide_31 rfl (lv_at hl 2 rfl) ?_
        exact kr x2 g4 lg ar bk _ _ _ _ ⟨hfr_g4, rfl, rfl, rfl, (om204 ((g 49).toInt) ((g4 49).toInt) hf_B1_1), (om205 ((g 51).toInt) ((g4 51).toInt) hf_B1_2), (om202 ((g4 49).toInt) hf_B1_3), (om206 ((g4 51).toInt) hf_B1_4)⟩ hw dX12_nextWide_32
      · refine lv_lload_n hx hb dX12_nextWide_11 rfl (lv_at hl 2 rfl) ?_
        refine lv_aload_n hx hb dX12_nextWide_12 rfl (lv_at hl 0 rfl) ?_
        have e_g4_12 : g4 12 = (g 12) := (hfr_g4 12 rfl)
        refine jx_Vi (As := []) (rest := [.long x2]) ⟨hx, hb, hml, hown, hts⟩ hZ hw hA (jm_X12_next l hlt D t3 cI cJ ad g4 lg ar bk _ (om202 ((g4 49).toInt) hf_B1_3) (om206 ((g4 51).toInt) hf_B1_4) (om21 ((g4 12).toInt) ((g 12).toInt) (congrArg Int32.toInt e_g4_12) hi_g12) hi_a0rg) (cwV 0 hts (jx_gV wwM_good wM_59 wM_60 wM_61 wM_8 wM_62) rfl rfl rfl (by decide +kernel) ⟨Nat.le_of_ble_eq_true rfl, Nat.le_of_ble_eq_true rfl⟩) 0 (ci := 15) (T := TX12) (N := 92) rfl rfl rfl hl.1 rfl (Nat.le_of_ble_eq_true rfl) dX12_nextWide_13 ⟨Nat.le_of_ble_eq_true rfl, Nat.le_of_ble_eq_true rfl⟩ (fun _ _ _ _ _ _ _ _ hp _ _ _ _ => hp.elim) (fun r11 g12 l13 a14 b15 H locs hp16 hw => ?_)
        obtain ⟨h17, rfl, rfl, rfl, h21, h22, h23, h24, h25⟩ := hp16
        refine lv_i2l hx hb dX12_nextWide_16 rfl (jx_nl fun z26 hz26 => ?_)
        refine lv_bipush (v := 8) hx hb dX12_nextWide_17 (by decide) ?_
        refine lv_iload hx hb dX12_nextWide_19 (lv_at hl 3 rfl) ?_
        refine lv_imul hx hb dX12_nextWide_21 (jx_nm fun z27 hz27 => ?_)
        have xz27 : (z27).toInt = (x3).toInt * 8 := (hE_imp (hE_mul' 8 hz27 (by decide)) (om207 ((x3).toInt) ((y1).toInt) hf_B1_0 (hE_nle cc6) hr0))
        refine lv_lshl hx hb dX12_nextWide_22 rfl (jx_nl fun z28 hz28 => ?_)
        refine lv_lor hx hb dX12_nextWide_23 (jx_nl fun z29 hz29 => ?_)
        refine lv_lstore_n (lv' := [(2, .long z29), (0, .ref (ad 0)), (1, .int y1), (4, .int x3)]) hx hb dX12_nextWide_24 rfl hl (by decide) rfl (fun ls hl => ?_)
        obtain ⟨z30, hz30⟩ : ∃ z : Int32, x3 + 1 = z := ⟨_, rfl⟩
        refine lv_iinc (v := z30) (lv' := [(4, .int z30), (2, .long z29), (0, .ref (ad 0)), (1, .int y1)]) hx hb dX12_nextWide_25 hl (k := 3) rfl hz30 (by decide) rfl (fun ls hl => ?_)
        have xz30 : (z30).toInt = (x3).toInt + ((1 : Int32)).toInt := (hE_imp (hE_add hz30) (om208 ((x3).toInt) (((1 : Int32)).toInt) ((y1).toInt) hf_B1_0 (hE_nle cc6) hr0 (by decide)))
        refine lv_goto (tgt := 5) hx hb dX12_nextWide_28 (by decide) ?_
        exact ih_B1 z29 z30 g12 ls _ _ (om11 ((z30).toInt) (k5 : Int) ((x3).toInt) (((1 : Int32)).toInt) hrk_B1 xz30 (by decide)) (om14 ((z30).toInt) ((x3).toInt) (((1 : Int32)).toInt) xz30 hf_B1_0 (by decide)) (om209 ((g 49).toInt) ((g12 49).toInt) ((g4 49).toInt) hf_B1_1 h23) (om210 ((g 51).toInt) ((g12 51).toInt) ((g4 51).toInt) ((g12 49).toInt) ((g4 49).toInt) hf_B1_2 h22) (om202 ((g12 49).toInt) h24) (om206 ((g12 51).toInt) h25) (hk_frT hfr_g4 (by decide) h17) hw (lv_sub hl [2, 3, 1, 0] rfl)
  exact B1 (2147483648 - ((0 : Int32)).toInt).toNat 0 0 g ls _ _ (Int.self_le_toNat _) (om18 (((0 : Int32)).toInt) (by decide)) (om122 ((g 49).toInt)) (om211 ((g 51).toInt)) (om202 ((g 49).toInt) hi_g49) (om206 ((g 51).toInt) hi_g51) hk_fr0 hw (lv_sub hl [2, 3, 1, 0] rfl)

set_option maxHeartbeats 4000000 in
set_option maxRecDepth 100000 in
/-- X12_beginOpening on (0,) -/
theorem jm_X12_beginOpening (l : Launch) (hlt : l.stackTraces = false) (D : va_G) (t3 : Nat × Nat × Nat) (cI cJ : ClassId) (ad : Nat → Nat) (g : Nat → Int32) (lg : Nat → Int64) (ar : Nat → Nat → Int32) (bk : Nat → Int64) (sz : Nat) (hi_g49 : 0 ≤ (g 49).toInt ∧ (g 49).toInt ≤ 1500) (hi_g51 : 0 ≤ (g 51).toInt ∧ (g 51).toInt ≤ 15) (hi_g12 : 0 ≤ (g 12).toInt ∧ (g 12).toInt ≤ 1500) (hi_a0rg : hk_rg 0 255 (ar 0)) : JMv l yX12_beginOpening (Cond.code yX12_beginOpening cX12_beginOpening 3 none :: wwM) { frames := 2, cells := 0, slots := 0, locals := 41 } t3 D mw cI cJ ad [.ref (ad 0)] (mw cI cJ ad g lg ar bk) sz 0 0 (fun g' lg' ar' bk' => hk_fr [49, 51] g g' ∧ hk_fr [3, 4] lg lg' ∧ ar = ar' ∧ bk = bk' ∧ ((g 49).toInt ≤ (g' 49).toInt) ∧ ((1 ≤ (g 51).toInt → 1 ≤ (g' 51).toInt)) ∧ (0 ≤ (g' 49).toInt ∧ (g' 49).toInt ≤ 1500) ∧ (0 ≤ (g' 51).toInt ∧ (g' 51).toInt ≤ 15)) (fun g' lg' ar' bk' => False) := by
  refine jx_metv (cc := cX12_beginOpening) (maxL := 3) (ret := none) rfl (by decide) rfl (Nat.le_of_ble_eq_true rfl) ?_
  intro p e s m args below meth c ls Q A hx hb hml hown hts hA hZ hw hl hQ kr kt
  have hq : ∀ w ∈ wwM, w.before args s = true := fun w h => hts w (List.mem_cons_of_mem _ h)
  have hl : lv_has ls 3 [(0, .ref (ad 0))] := hl
  refine lv_aload_n hx hb dX12_beginOpening_0 rfl (lv_at hl 0 rfl) ?_
  refine jx_Vi (As := []) (rest := []) ⟨hx, hb, hml, hown, hts⟩ hZ hw hA (jm_X12_next l hlt D t3 cI cJ ad g lg ar bk _ (om202 ((g 49).toInt) hi_g49) (om206 ((g 51).toInt) hi_g51) (om202 ((g 12).toInt) hi_g12) hi_a0rg) (cwV 0 hts (jx_gV wwM_good wM_59 wM_60 wM_61 wM_8 wM_62) rfl rfl rfl (by decide +kernel) ⟨Nat.le_of_ble_eq_true rfl, Nat.le_of_ble_eq_true rfl⟩) 0 (ci := 15) (T := TX12) (N := 92) rfl rfl rfl hl.1 rfl (Nat.le_of_ble_eq_true rfl) dX12_beginOpening_1 ⟨Nat.le_of_ble_eq_true rfl, Nat.le_of_ble_eq_true rfl⟩ (fun _ _ _ _ _ _ _ _ hp _ _ _ _ => hp.elim) (fun r5 g6 l7 a8 b9 H locs hp10 hw => ?_)
  obtain ⟨h11, rfl, rfl, rfl, h15, h16, h17, h18, h19⟩ := hp10
  refine lv_istore_n (lv' := [(1, .int r5), (0, .ref (ad 0))]) hx hb dX12_beginOpening_4 rfl hl (by decide) rfl (fun ls hl => ?_)
  refine lv_aload_n hx hb dX12_beginOpening_5 rfl (lv_at hl 1 rfl) ?_
  refine hk_get (ci := 15) (C := RX12) (T := TX12) (N := 92) (v := .int (g6 51)) hx hb hts (fun _ h => List.mem_cons_of_mem _ (wwMc_wsX120 _ h)) hown hw 0 rfl rfl 78 (by decide) (hq _ wM_63) rfl dX12_beginOpening_6 ?_
  have B20 : ∀  (g21 : Nat → Int32) (ls : Array Slot) (H : Heap) (locs : List Loc), (1 ≤ (g 51).toInt → 1 ≤ (g21 51).toInt) → (0 ≤ (g21 51).toInt ∧ (g21 51).toInt ≤ 15) → (hk_fr [51] g6 g21) → hk_W D (jT cI cJ) A s H locs (mw cI cJ ad g21 lg ar bk) → lv_has ls 3 [(0, .ref (ad 0))] → W p l e { frames := 2, cells := 0, slots := 0, locals := 41 } s m args below meth c H locs 0 0 Q (F0 m 21 ls []) := by
    intro g21 ls H locs hf_B20_0 hf_B20_1 hfr_g21 hw hl
    refine lv_aload_n hx hb dX12_beginOpening_21 rfl (lv_at hl 0 rfl) ?_
    refine lv_lconst (v := 0) hx hb dX12_beginOpening_22 (by decide) ?_
    refine jx_putl mw (cI := cI) (cJ := cJ) (ad := ad) (g := g21) (lg := lg) (ar := ar) (bk := bk) (x := 0) 4 (ci := 15) (C := RX12) (T := TX12) (N := 92) (ty := .long) hx hb hts (fun _ h => List.mem_cons_of_mem _ (wwMc_wsX120 _ h)) tyX12 tyX12_ok nmX12 hown hw 0 rfl rfl 79 (by decide) (hq _ wM_68) rfl (by decide +kernel) rfl rfl (Nat.le_of_ble_eq_true rfl) dX12_beginOpening_23 rfl (fun H locs l22 h_l22 hw => ?_)
    refine lv_iconst (v := 0) hx hb dX12_beginOpening_26 (by decide) ?_
    refine lv_istore_n (lv' := [(2, .int 0), (0, .ref (ad 0))]) hx hb dX12_beginOpening_27 rfl hl (by decide) rfl (fun ls hl => ?_)
    have B23 : ∀ (k27 : Nat) (x24 : Int32) (g25 : Nat → Int32) (l26 : Nat → Int64) (ls : Array Slot) (H : Heap) (locs : List Loc), (2147483648 - (x24).toInt ≤ (k27 : Int)) → (0 ≤ (x24).toInt) → ((g 49).toInt ≤ (g25 49).toInt) → (1 ≤ (g 51).toInt → 1 ≤ (g25 51).toInt) → (0 ≤ (g25 49).toInt ∧ (g25 49).toInt ≤ 1500) → (0 ≤ (g25 51).toInt ∧ (g25 51).toInt ≤ 15) → (hk_fr [49, 51] g21 g25) → (hk_fr [4] l22 l26) → hk_W D (jT cI cJ) A s H locs (mw cI cJ ad g25 l26 ar bk) → lv_has ls 3 [(0, .ref (ad 0)), (2, .int x24)] → W p l e { frames := 2, cells := 0, slots := 0, locals := 41 } s m args below meth c H locs 0 0 Q (F0 m 28 ls []) := by
      intro k27
      induction k27 with
      | zero =>
        intro x24 g25 l26 ls H locs hrk_B23 hf_B23_0 hf_B23_1 hf_B23_2 hf_B23_3 hf_B23_4 hfr_g25 hfr_l26 hw hl
        exact False.elim (hk_no0 (0 * (x24).toInt) (om30 ((x24).toInt) hrk_B23 (hE_rng (x24))) (by simp))
      | succ k27 ih_B23 =>
        intro x24 g25 l26 ls H locs hrk_B23 hf_B23_0 hf_B23_1 hf_B23_2 hf_B23_3 hf_B23_4 hfr_g25 hfr_l26 hw hl
        have hrk_B23 := hk_rk hrk_B23
        refine lv_iload_n hx hb dX12_beginOpening_28 rfl (lv_at hl 1 rfl) ?_
        refine lv_iconst (v := 4) hx hb dX12_beginOpening_29 (by decide) ?_
        refine lv_icmp_ge (tgt := 56) hx hb dX12_beginOpening_30 (by decide) (fun cc28 => ?_) (fun cc28 => ?_)
        · refine lv_aload_n hx hb dX12_beginOpening_56 rfl (lv_at hl 0 rfl) ?_
          refine lv_ldc2 (v := 4294967295) hx hb hown (hq _ wM_55) dX12_beginOpening_57 ?_
          refine jx_putl mw (cI := cI) (cJ := cJ) (ad := ad) (g := g25) (lg := l26) (ar := ar) (bk := bk) (x := 4294967295) 3 (ci := 15) (C := RX12) (T := TX12) (N := 92) (ty := .long) hx hb hts (fun _ h => List.mem_cons_of_mem _ (wwMc_wsX120 _ h)) tyX12 tyX12_ok nmX12 hown hw 0 rfl rfl 55 (by decide) (hq _ wM_56) rfl (by decide +kernel) rfl rfl (Nat.le_of_ble_eq_true rfl) dX12_beginOpening_60 rfl (fun H locs l29 h_l29 hw => ?_)
          exact kr g25 l29 ar bk _ _ _ _ ⟨(hk_frT (hk_frT h11 (by decide) hfr_g21) (by decide) hfr_g25), (hk_frL (hk_frT (hk_frL hk_fr0 (by decide) h_l22) (by decide) hfr_l26) (by decide) h_l29), rfl, rfl, (om204 ((g 49).toInt) ((g25 49).toInt) hf_B23_1), (om205 ((g 51).toInt) ((g25 51).toInt) hf_B23_2), (om202 ((g25 49).toInt) hf_B23_3), (om206 ((g25 51).toInt) hf_B23_4)⟩ hw dX12_beginOpening_63
        · refine lv_aload_n hx hb dX12_beginOpening_33 rfl (lv_at hl 0 rfl) ?_
          refine lv_aload_n hx hb dX12_beginOpening_34 rfl (lv_at hl 0 rfl) ?_
          refine hk_get (ci := 15) (C := RX12) (T := TX12) (N := 92) (v := .long (l26 4)) hx hb hts (fun _ h => List.mem_cons_of_mem _ (wwMc_wsX120 _ h)) hown hw 0 rfl rfl 79 (by decide) (hq _ wM_68) rfl dX12_beginOpening_35 ?_
          refine lv_bipush (v := 8) hx hb dX12_beginOpening_38 (by decide) ?_
          refine lv_lshl hx hb dX12_beginOpening_40 rfl (jx_nl fun z30 hz30 => ?_)
          refine lv_aload_n hx hb dX12_beginOpening_41 rfl (lv_at hl 0 rfl) ?_
          have e_g25_12 : g25 12 = (g 12) := ((hfr_g25 12 rfl)).trans (((hfr_g21 12 rfl)).trans (h11 12 rfl))
          refine jx_Vi (As := []) (rest := [.long z30, .ref (ad 0)]) ⟨hx, hb, hml, hown, hts⟩ hZ hw hA (jm_X12_next l hlt D t3 cI cJ ad g25 l26 ar bk _ (om202 ((g25 49).toInt) hf_B23_3) (om206 ((g25 51).toInt) hf_B23_4) (om21 ((g25 12).toInt) ((g 12).toInt) (congrArg Int32.toInt e_g25_12) hi_g12) hi_a0rg) (cwV 0 hts (jx_gV wwM_good wM_59 wM_60 wM_61 wM_8 wM_62) rfl rfl rfl (by decide +kernel) ⟨Nat.le_of_ble_eq_true rfl, Nat.le_of_ble_eq_true rfl⟩) 0 (ci := 15) (T := TX12) (N := 92) rfl rfl rfl hl.1 rfl (Nat.le_of_ble_eq_true rfl) dX12_beginOpening_42 ⟨Nat.le_of_ble_eq_true rfl, Nat.le_of_ble_eq_true rfl⟩ (fun _ _ _ _ _ _ _ _ hp _ _ _ _ => hp.elim) (fun r35 g36 l37 a38 b39 H locs hp40 hw => ?_)
          obtain ⟨h41, rfl, rfl, rfl, h45, h46, h47, h48, h49⟩ := hp40
          refine lv_i2l hx hb dX12_beginOpening_45 rfl (jx_nl fun z50 hz50 => ?_)
          refine lv_lor hx hb dX12_beginOpening_46 (jx_nl fun z51 hz51 => ?_)
          refine jx_putl mw (cI := cI) (cJ := cJ) (ad := ad) (g := g36) (lg := l26) (ar := ar) (bk := bk) (x := z51) 4 (ci := 15) (C := RX12) (T := TX12) (N := 92) (ty := .long) hx hb hts (fun _ h => List.mem_cons_of_mem _ (wwMc_wsX120 _ h)) tyX12 tyX12_ok nmX12 hown hw 0 rfl rfl 79 (by decide) (hq _ wM_68) rfl (by decide +kernel) rfl rfl (Nat.le_of_ble_eq_true rfl) dX12_beginOpening_47 rfl (fun H locs l52 h_l52 hw => ?_)
          obtain ⟨z53, hz53⟩ : ∃ z : Int32, x24 + 1 = z := ⟨_, rfl⟩
          refine lv_iinc (v := z53) (lv' := [(2, .int z53), (0, .ref (ad 0))]) hx hb dX12_beginOpening_50 hl (k := 1) rfl hz53 (by decide) rfl (fun ls hl => ?_)
          have xz53 : (z53).toInt = (x24).toInt + ((1 : Int32)).toInt := (hE_imp (hE_add hz53) (om102 ((x24).toInt) (((1 : Int32)).toInt) (((4 : Int32)).toInt) hf_B23_0 (hE_nle cc28) (by decide) (by decide)))
          refine lv_goto (tgt := 28) hx hb dX12_beginOpening_53 (by decide) ?_
          exact ih_B23 z53 g36 l52 ls _ _ (om11 ((z53).toInt) (k27 : Int) ((x24).toInt) (((1 : Int32)).toInt) hrk_B23 xz53 (by decide)) (om14 ((z53).toInt) ((x24).toInt) (((1 : Int32)).toInt) xz53 hf_B23_0 (by decide)) (om209 ((g 49).toInt) ((g36 49).toInt) ((g25 49).toInt) hf_B23_1 h47) (om210 ((g 51).toInt) ((g36 51).toInt) ((g25 51).toInt) ((g36 49).toInt) ((g25 49).toInt) hf_B23_2 h46) (om202 ((g36 49).toInt) h48) (om206 ((g36 51).toInt) h49) (hk_frT hfr_g25 (by decide) h41) (hk_frL hfr_l26 (by decide) h_l52) hw (lv_sub hl [1, 0] rfl)
    have e_g21_49 : g21 49 = (g6 49) := (hfr_g21 49 rfl)
    exact B23 (2147483648 - ((0 : Int32)).toInt).toNat 0 g21 l22 ls _ _ (Int.self_le_toNat _) (om18 (((0 : Int32)).toInt) (by decide)) (om212 ((g 49).toInt) ((g21 49).toInt) ((g6 49).toInt) h17 (congrArg Int32.toInt e_g21_49)) (om213 ((g 51).toInt) ((g21 51).toInt) hf_B20_0) (om21 ((g21 49).toInt) ((g6 49).toInt) (congrArg Int32.toInt e_g21_49) h18) (om206 ((g21 51).toInt) hf_B20_1) hk_fr0 hk_fr0 hw (lv_sub hl [1, 0] rfl)
  refine lv_if_ne (tgt := 21) hx hb dX12_beginOpening_9 (by decide) (fun cc54 => ?_) (fun cc54 => ?_)
  · exact B20 g6 ls _ _ (om214 ((g 51).toInt) ((g6 51).toInt) ((g6 49).toInt) ((g 49).toInt) h16) (om185 ((g6 51).toInt) (((0 : Int32)).toInt) h19 (hE_ne cc54) (by decide)) hk_fr0 hw (lv_sub hl [1] rfl)
  · refine lv_iload_n hx hb dX12_beginOpening_12 rfl (lv_at hl 0 rfl) ?_
    refine lv_if_eq (tgt := 21) hx hb dX12_beginOpening_13 (by decide) (fun cc55 => ?_) (fun cc55 => ?_)
    · exact B20 g6 ls _ _ (om214 ((g 51).toInt) ((g6 51).toInt) ((g6 49).toInt) ((g 49).toInt) h16) (om215 ((g6 51).toInt) (((0 : Int32)).toInt) h19 (hE_eq cc54) (by decide)) hk_fr0 hw (lv_sub hl [1] rfl)
    · refine lv_aload_n hx hb dX12_beginOpening_16 rfl (lv_at hl 1 rfl) ?_
      refine lv_iconst (v := 2) hx hb dX12_beginOpening_17 (by decide) ?_
      refine jx_Vv (As := [.int 2]) (rest := []) ⟨hx, hb, hml, hown, hts⟩ hZ hw hA (jm_X12_fail l hlt D t3 cI cJ ad g6 lg ar bk _ 2 (om216 (((2 : Int32)).toInt) (by decide)) (om215 ((g6 51).toInt) (((0 : Int32)).toInt) h19 (hE_eq cc54) (by decide))) (cwV 1 hts (jx_gV wwM_good wM_64 wM_65 wM_66 wM_8 wM_67) rfl rfl rfl (by decide +kernel) ⟨Nat.le_of_ble_eq_true rfl, Nat.le_of_ble_eq_true rfl⟩) 0 (ci := 15) (T := TX12) (N := 92) rfl rfl rfl hl.1 rfl (Nat.le_of_ble_eq_true rfl) dX12_beginOpening_18 ⟨Nat.le_of_ble_eq_true rfl, Nat.le_of_ble_eq_true rfl⟩ (fun _ _ _ _ _ _ _ _ hp _ _ _ _ => hp.elim) (fun g61 l62 a63 b64 H locs hp65 hw => ?_)
      obtain ⟨h66, rfl, rfl, rfl, h70, h71⟩ := hp65
      exact B20 g61 ls _ _ (om217 ((g 51).toInt) ((g61 51).toInt) h70) (om193 ((g61 51).toInt) h70 h71) h66 hw (lv_sub hl [1] rfl)

set_option maxHeartbeats 4000000 in
set_option maxRecDepth 100000 in
/-- X12_readOn on (0,) -/
theorem jm_X12_readOn (l : Launch) (hlt : l.stackTraces = false) (D : va_G) (t3 : Nat × Nat × Nat) (cI cJ : ClassId) (ad : Nat → Nat) (g : Nat → Int32) (lg : Nat → Int64) (ar : Nat → Nat → Int32) (bk : Nat → Int64) (sz : Nat) (hi_g49 : 0 ≤ (g 49).toInt ∧ (g 49).toInt ≤ 1500) (hi_g51 : 0 ≤ (g 51).toInt ∧ (g 51).toInt ≤ 15) (hi_g12 : 0 ≤ (g 12).toInt ∧ (g 12).toInt ≤ 1500) (hi_a0rg : hk_rg 0 255 (ar 0)) : JMv l yX12_readOn (Cond.code yX12_readOn cX12_readOn 1 none :: wwM) { frames := 2, cells := 0, slots := 0, locals := 41 } t3 D mw cI cJ ad [.ref (ad 0)] (mw cI cJ ad g lg ar bk) sz 0 0 (fun g' lg' ar' bk' => hk_fr [49, 51] g g' ∧ hk_fr [3, 4] lg lg' ∧ ar = ar' ∧ bk = bk' ∧ ((g 49).toInt ≤ (g' 49).toInt) ∧ ((1 ≤ (g 51).toInt → 1 ≤ (g' 51).toInt)) ∧ (0 ≤ (g' 49).toInt ∧ (g' 49).toInt ≤ 1500) ∧ (0 ≤ (g' 51).toInt ∧ (g' 51).toInt ≤ 15)) (fun g' lg' ar' bk' => False) := by
  refine jx_metv (cc := cX12_readOn) (maxL := 1) (ret := none) rfl (by decide) rfl (Nat.le_of_ble_eq_true rfl) ?_
  intro p e s m args below meth c ls Q A hx hb hml hown hts hA hZ hw hl hQ kr kt
  have hq : ∀ w ∈ wwM, w.before args s = true := fun w h => hts w (List.mem_cons_of_mem _ h)
  have hl : lv_has ls 1 [(0, .ref (ad 0))] := hl
  have B1 : ∀ (k4 : Nat) (g2 : Nat → Int32) (l3 : Nat → Int64) (ls : Array Slot) (H : Heap) (locs : List Loc), (20 * (1502 - (g2 49).toInt) - (g2 51).toInt ≤ (k4 : Int)) → ((g 49).toInt ≤ (g2 49).toInt) → (1 ≤ (g 51).toInt → 1 ≤ (g2 51).toInt) → (0 ≤ (g2 49).toInt ∧ (g2 49).toInt ≤ 1500) → (0 ≤ (g2 51).toInt ∧ (g2 51).toInt ≤ 15) → (hk_fr [49, 51] g g2) → (hk_fr [3, 4] lg l3) → hk_W D (jT cI cJ) A s H locs (mw cI cJ ad g2 l3 ar bk) → lv_has ls 1 [(0, .ref (ad 0))] → W p l e { frames := 2, cells := 0, slots := 0, locals := 41 } s m args below meth c H locs 0 0 Q (F0 m 0 ls []) := by
    intro k4
    induction k4 with
    | zero =>
      intro g2 l3 ls H locs hrk_B1 hf_B1_0 hf_B1_1 hf_B1_2 hf_B1_3 hfr_g2 hfr_l3 hw hl
      exact False.elim (hk_no0 (0 * (g2 49).toInt + 0 * (g2 51).toInt) (om218 ((g2 49).toInt) ((g2 51).toInt) hf_B1_2 hf_B1_3 hrk_B1) (by simp))
    | succ k4 ih_B1 =>
      intro g2 l3 ls H locs hrk_B1 hf_B1_0 hf_B1_1 hf_B1_2 hf_B1_3 hfr_g2 hfr_l3 hw hl
      have hrk_B1 := hk_rk hrk_B1
      refine lv_aload_n hx hb dX12_readOn_0 rfl (lv_at hl 0 rfl) ?_
      refine hk_get (ci := 15) (C := RX12) (T := TX12) (N := 92) (v := .long (l3 3)) hx hb hts (fun _ h => List.mem_cons_of_mem _ (wwMc_wsX120 _ h)) hown hw 0 rfl rfl 55 (by decide) (hq _ wM_56) rfl dX12_readOn_1 ?_
      refine lv_ldc2 (v := 16777216) hx hb hown (hq _ wM_254) dX12_readOn_4 ?_
      refine hk_lcmp_ge (tgt := 49) hx hb dX12_readOn_7 dX12_readOn_8 (by decide) (fun cc5 => ?_) (fun cc5 => ?_)
      · exact kr g2 l3 ar bk _ _ _ _ ⟨hfr_g2, hfr_l3, rfl, rfl, (om204 ((g 49).toInt) ((g2 49).toInt) hf_B1_0), (om205 ((g 51).toInt) ((g2 51).toInt) hf_B1_1), (om202 ((g2 49).toInt) hf_B1_2), (om206 ((g2 51).toInt) hf_B1_3)⟩ hw dX12_readOn_49
      · refine lv_aload_n hx hb dX12_readOn_11 rfl (lv_at hl 0 rfl) ?_
        refine hk_get (ci := 15) (C := RX12) (T := TX12) (N := 92) (v := .int (g2 51)) hx hb hts (fun _ h => List.mem_cons_of_mem _ (wwMc_wsX120 _ h)) hown hw 0 rfl rfl 78 (by decide) (hq _ wM_63) rfl dX12_readOn_12 ?_
        refine lv_if_ne (tgt := 49) hx hb dX12_readOn_15 (by decide) (fun cc6 => ?_) (fun cc6 => ?_)
        · exact kr g2 l3 ar bk _ _ _ _ ⟨hfr_g2, hfr_l3, rfl, rfl, (om204 ((g 49).toInt) ((g2 49).toInt) hf_B1_0), (om205 ((g 51).toInt) ((g2 51).toInt) hf_B1_1), (om202 ((g2 49).toInt) hf_B1_2), (om185 ((g2 51).toInt) (((0 : Int32)).toInt) hf_B1_3 (hE_ne cc6) (by decide))⟩ hw dX12_readOn_49
        · refine lv_aload_n hx hb dX12_readOn_18 rfl (lv_at hl 0 rfl) ?_
          refine lv_aload_n hx hb dX12_readOn_19 rfl (lv_at hl 0 rfl) ?_
          refine hk_get (ci := 15) (C := RX12) (T := TX12) (N := 92) (v := .long (l3 3)) hx hb hts (fun _ h => List.mem_cons_of_mem _ (wwMc_wsX120 _ h)) hown hw 0 rfl rfl 55 (by decide) (hq _ wM_56) rfl dX12_readOn_20 ?_
          refine lv_bipush (v := 8) hx hb dX12_readOn_23 (by decide) ?_
          refine lv_lshl hx hb dX12_readOn_25 rfl (jx_nl fun z7 hz7 => ?_)
          refine jx_putl mw (cI := cI) (cJ := cJ) (ad := ad) (g := g2) (lg := l3) (ar := ar) (bk := bk) (x := z7) 3 (ci := 15) (C := RX12) (T := TX12) (N := 92) (ty := .long) hx hb hts (fun _ h => List.mem_cons_of_mem _ (wwMc_wsX120 _ h)) tyX12 tyX12_ok nmX12 hown hw 0 rfl rfl 55 (by decide) (hq _ wM_56) rfl (by decide +kernel) rfl rfl (Nat.le_of_ble_eq_true rfl) dX12_readOn_26 rfl (fun H locs l8 h_l8 hw => ?_)
          refine lv_aload_n hx hb dX12_readOn_29 rfl (lv_at hl 0 rfl) ?_
          refine lv_aload_n hx hb dX12_readOn_30 rfl (lv_at hl 0 rfl) ?_
          have e_l8_4 : l8 4 = (l3 4) := (hk_uplN h_l8 4 rfl)
          refine hk_get (ci := 15) (C := RX12) (T := TX12) (N := 92) (v := .long (l3 4)) hx hb hts (fun _ h => List.mem_cons_of_mem _ (wwMc_wsX120 _ h)) hown hw 0 rfl rfl 79 (by decide) (hq _ wM_68) (congrArg (fun z => some (Value.long z)) e_l8_4) dX12_readOn_31 ?_
          refine lv_bipush (v := 8) hx hb dX12_readOn_34 (by decide) ?_
          refine lv_lshl hx hb dX12_readOn_36 rfl (jx_nl fun z9 hz9 => ?_)
          refine lv_aload_n hx hb dX12_readOn_37 rfl (lv_at hl 0 rfl) ?_
          have e_g2_12 : g2 12 = (g 12) := (hfr_g2 12 rfl)
          refine jx_Vi (As := []) (rest := [.long z9, .ref (ad 0)]) ⟨hx, hb, hml, hown, hts⟩ hZ hw hA (jm_X12_next l hlt D t3 cI cJ ad g2 l8 ar bk _ (om202 ((g2 49).toInt) hf_B1_2) (om215 ((g2 51).toInt) (((0 : Int32)).toInt) hf_B1_3 (hE_eq cc6) (by decide)) (om21 ((g2 12).toInt) ((g 12).toInt) (congrArg Int32.toInt e_g2_12) hi_g12) hi_a0rg) (cwV 0 hts (jx_gV wwM_good wM_59 wM_60 wM_61 wM_8 wM_62) rfl rfl rfl (by decide +kernel) ⟨Nat.le_of_ble_eq_true rfl, Nat.le_of_ble_eq_true rfl⟩) 0 (ci := 15) (T := TX12) (N := 92) rfl rfl rfl hl.1 rfl (Nat.le_of_ble_eq_true rfl) dX12_readOn_38 ⟨Nat.le_of_ble_eq_true rfl, Nat.le_of_ble_eq_true rfl⟩ (fun _ _ _ _ _ _ _ _ hp _ _ _ _ => hp.elim) (fun r14 g15 l16 a17 b18 H locs hp19 hw => ?_)
          obtain ⟨h20, rfl, rfl, rfl, h24, h25, h26, h27, h28⟩ := hp19
          refine lv_i2l hx hb dX12_readOn_41 rfl (jx_nl fun z29 hz29 => ?_)
          refine lv_lor hx hb dX12_readOn_42 (jx_nl fun z30 hz30 => ?_)
          refine jx_putl mw (cI := cI) (cJ := cJ) (ad := ad) (g := g15) (lg := l8) (ar := ar) (bk := bk) (x := z30) 4 (ci := 15) (C := RX12) (T := TX12) (N := 92) (ty := .long) hx hb hts (fun _ h => List.mem_cons_of_mem _ (wwMc_wsX120 _ h)) tyX12 tyX12_ok nmX12 hown hw 0 rfl rfl 79 (by decide) (hq _ wM_68) rfl (by decide +kernel) rfl rfl (Nat.le_of_ble_eq_true rfl) dX12_readOn_43 rfl (fun H locs l31 h_l31 hw => ?_)
          refine lv_goto (tgt := 0) hx hb dX12_readOn_46 (by decide) ?_
          exact ih_B1 g15 l31 ls _ _ (om219 ((g15 49).toInt) ((g15 51).toInt) (k4 : Int) ((g2 49).toInt) ((g2 51).toInt) (((0 : Int32)).toInt) hrk_B1 h25 h26 (hE_eq cc6) (by decide)) (om209 ((g 49).toInt) ((g15 49).toInt) ((g2 49).toInt) hf_B1_0 h26) (om220 ((g 51).toInt) ((g15 51).toInt) ((g2 51).toInt) (((0 : Int32)).toInt) hf_B1_1 (hE_eq cc6) (by decide)) (om202 ((g15 49).toInt) h27) (om221 ((g15 51).toInt) ((g15 49).toInt) ((g2 49).toInt) ((g2 51).toInt) (((0 : Int32)).toInt) h25 h28 (hE_eq cc6) (by decide)) (hk_frT hfr_g2 (by decide) h20) (hk_frL (hk_frL hfr_l3 (by decide) h_l8) (by decide) h_l31) hw (lv_sub hl [0] rfl)
  exact B1 (20 * (1502 - (g 49).toInt) - (g 51).toInt).toNat g lg ls _ _ (Int.self_le_toNat _) (om122 ((g 49).toInt)) (om211 ((g 51).toInt)) (om202 ((g 49).toInt) hi_g49) (om206 ((g 51).toInt) hi_g51) hk_fr0 hk_fr0 hw (lv_sub hl [0] rfl)

set_option maxHeartbeats 4000000 in
set_option maxRecDepth 100000 in
/-- X12_getBit on (0,) -/
theorem jm_X12_getBit (l : Launch) (hlt : l.stackTraces = false) (D : va_G) (t3 : Nat × Nat × Nat) (cI cJ : ClassId) (ad : Nat → Nat) (g : Nat → Int32) (lg : Nat → Int64) (ar : Nat → Nat → Int32) (bk : Nat → Int64) (sz : Nat) (y1 : Int32) (hr0 : 0 ≤ (y1).toInt ∧ (y1).toInt < 14344) (hi_g49 : 0 ≤ (g 49).toInt ∧ (g 49).toInt ≤ 1500) (hi_g51 : 0 ≤ (g 51).toInt ∧ (g 51).toInt ≤ 15) (hi_g12 : 0 ≤ (g 12).toInt ∧ (g 12).toInt ≤ 1500) (hi_a0rg : hk_rg 0 255 (ar 0)) : JMi l yX12_getBit (Cond.code yX12_getBit cX12_getBit 5 (some .int) :: wwM) { frames := 3, cells := 0, slots := 0, locals := 61 } t3 D mw cI cJ ad [.ref (ad 0), .int y1] (mw cI cJ ad g lg ar bk) sz 0 0 (fun (r : Int32) g' lg' ar' bk' => hk_fr [49, 51] g g' ∧ hk_fr [3, 4] lg lg' ∧ hk_fr [16] ar ar' ∧ bk = bk' ∧ (0 ≤ (r).toInt ∧ (r).toInt ≤ 1) ∧ ((g 49).toInt ≤ (g' 49).toInt) ∧ ((1 ≤ (g 51).toInt → 1 ≤ (g' 51).toInt)) ∧ (0 ≤ (g' 49).toInt ∧ (g' 49).toInt ≤ 1500) ∧ (0 ≤ (g' 51).toInt ∧ (g' 51).toInt ≤ 15)) (fun g' lg' ar' bk' => False) := by
  refine jx_meti (cc := cX12_getBit) (maxL := 5) (ret := (some .int)) rfl (by decide) rfl (Nat.le_of_ble_eq_true rfl) ?_
  intro p e s m args below meth c ls Q A hx hb hml hown hts hA hZ hw hl hQ kr kt
  have hq : ∀ w ∈ wwM, w.before args s = true := fun w h => hts w (List.mem_cons_of_mem _ h)
  have hl : lv_has ls 5 [(0, .ref (ad 0)), (1, .int y1)] := hl
  refine lv_aload_n hx hb dX12_getBit_0 rfl (lv_at hl 0 rfl) ?_
  refine hk_get (ci := 15) (C := RX12) (T := TX12) (N := 92) (v := .int (g 51)) hx hb hts (fun _ h => List.mem_cons_of_mem _ (wwMc_wsX120 _ h)) hown hw 0 rfl rfl 78 (by decide) (hq _ wM_63) rfl dX12_getBit_1 ?_
  refine lv_if_le (tgt := 9) hx hb dX12_getBit_4 (by decide) (fun cc1 => ?_) (fun cc1 => ?_)
  · refine lv_aload_n hx hb dX12_getBit_9 rfl (lv_at hl 0 rfl) ?_
    refine hk_get (ci := 15) (C := RX12) (T := TX12) (N := 92) (v := .long (lg 3)) hx hb hts (fun _ h => List.mem_cons_of_mem _ (wwMc_wsX120 _ h)) hown hw 0 rfl rfl 55 (by decide) (hq _ wM_56) rfl dX12_getBit_10 ?_
    refine lv_bipush (v := 11) hx hb dX12_getBit_13 (by decide) ?_
    refine lv_lshr hx hb dX12_getBit_15 rfl (jx_nl fun z2 hz2 => ?_)
    refine lv_aload_n hx hb dX12_getBit_16 rfl (lv_at hl 0 rfl) ?_
    refine hk_get (ci := 15) (C := RX12) (T := TX12) (N := 92) (v := .ref (ad 17)) hx hb hts (fun _ h => List.mem_cons_of_mem _ (wwMc_wsX120 _ h)) hown hw 0 rfl rfl 41 (by decide) (hq _ wM_207) rfl dX12_getBit_17 ?_
    refine lv_iload_n hx hb dX12_getBit_20 rfl (lv_at hl 1 rfl) ?_
    refine jx_iald hx hb hw 17 0 rfl rfl (hE_in (n := 14344) (om222 ((y1).toInt) hr0)) dX12_getBit_21 (fun z3 hz3 => ?_)
    refine lv_i2l hx hb dX12_getBit_22 rfl (jx_nl fun z4 hz4 => ?_)
    refine lv_lmul hx hb dX12_getBit_23 (jx_nl fun z5 hz5 => ?_)
    refine lv_lstore_n (lv' := [(2, .long z5), (0, .ref (ad 0)), (1, .int y1)]) hx hb dX12_getBit_24 rfl hl (by decide) rfl (fun ls hl => ?_)
    refine lv_aload_n hx hb dX12_getBit_25 rfl (lv_at hl 1 rfl) ?_
    refine hk_get (ci := 15) (C := RX12) (T := TX12) (N := 92) (v := .long (lg 4)) hx hb hts (fun _ h => List.mem_cons_of_mem _ (wwMc_wsX120 _ h)) hown hw 0 rfl rfl 79 (by decide) (hq _ wM_68) rfl dX12_getBit_26 ?_
    refine lv_lload_n hx hb dX12_getBit_29 rfl (lv_at hl 0 rfl) ?_
    have B6 : ∀  (x7 : Int32) (ls : Array Slot) (H : Heap) (locs : List Loc), (0 ≤ (x7).toInt ∧ (x7).toInt ≤ 1) → hk_W D (jT cI cJ) A s H locs (mw cI cJ ad g lg ar bk) → lv_has ls 5 [(0, .ref (ad 0)), (1, .int y1), (2, .long z5)] → W p l e { frames := 3, cells := 0, slots := 0, locals := 61 } s m args below meth c H locs 0 0 Q (F0 m 39 ls [.int x7]) := by
      intro x7 ls H locs hf_B6_0 hw hl
      refine lv_istore (lv' := [(4, .int x7), (0, .ref (ad 0)), (1, .int y1), (2, .long z5)]) hx hb dX12_getBit_39 hl (by decide) rfl (fun ls hl => ?_)
      refine lv_iload hx hb dX12_getBit_41 (lv_at hl 0 rfl) ?_
      have B8 : ∀  (l9 : Nat → Int64) (a10 : Nat → Nat → Int32) (ls : Array Slot) (H : Heap) (locs : List Loc), (hk_fr [3, 4] lg l9) → (hk_fr [16] ar a10) → hk_W D (jT cI cJ) A s H locs (mw cI cJ ad g l9 a10 bk) → lv_has ls 5 [(0, .ref (ad 0)), (4, .int x7)] → W p l e { frames := 3, cells := 0, slots := 0, locals := 61 } s m args below meth c H locs 0 0 Q (F0 m 112 ls []) := by
        intro l9 a10 ls H locs hfr_l9 hfr_a10 hw hl
        refine lv_aload_n hx hb dX12_getBit_112 rfl (lv_at hl 0 rfl) ?_
        refine jx_Vv (As := []) (rest := []) ⟨hx, hb, hml, hown, hts⟩ hZ hw hA (jm_X12_readOn l hlt D t3 cI cJ ad g l9 a10 bk _ (om202 ((g 49).toInt) hi_g49) (om189 ((g 51).toInt) (((0 : Int32)).toInt) hi_g51 (hE_le cc1) (by decide)) (om202 ((g 12).toInt) hi_g12) (hk_pE (P := hk_rg 0 255) hi_a0rg (hfr_a10 0 rfl))) (cwV 0 hts (jx_gV wwM_good wM_208 wM_209 wM_210 wM_8 wM_211) rfl rfl rfl (by decide +kernel) ⟨Nat.le_of_ble_eq_true rfl, Nat.le_of_ble_eq_true rfl⟩) 0 (ci := 15) (T := TX12) (N := 92) rfl rfl rfl hl.1 rfl (Nat.le_of_ble_eq_true rfl) dX12_getBit_113 ⟨Nat.le_of_ble_eq_true rfl, Nat.le_of_ble_eq_true rfl⟩ (fun _ _ _ _ _ _ _ _ hp _ _ _ _ => hp.elim) (fun g16 l17 a18 b19 H locs hp20 hw => ?_)
        obtain ⟨h21, h22, rfl, rfl, h25, h26, h27, h28⟩ := hp20
        refine lv_iload hx hb dX12_getBit_116 (lv_at hl 1 rfl) ?_
        exact kr x7 g16 l17 a10 bk _ _ _ _ ⟨h21, (hk_frT hfr_l9 (by decide) h22), hfr_a10, rfl, (om223 ((x7).toInt) hf_B6_0), (om204 ((g 49).toInt) ((g16 49).toInt) h25), (om224 ((g 51).toInt) ((g16 51).toInt) (((0 : Int32)).toInt) (hE_le cc1) (by decide)), (om202 ((g16 49).toInt) h27), (om206 ((g16 51).toInt) h28)⟩ hw dX12_getBit_118
      refine lv_if_ne (tgt := 75) hx hb dX12_getBit_43 (by decide) (fun cc29 => ?_) (fun cc29 => ?_)
      · refine lv_aload_n hx hb dX12_getBit_75 rfl (lv_at hl 1 rfl) ?_
        refine lv_dup hx hb dX12_getBit_76 rfl ?_
        refine hk_get (ci := 15) (C := RX12) (T := TX12) (N := 92) (v := .long (lg 4)) hx hb hts (fun _ h => List.mem_cons_of_mem _ (wwMc_wsX120 _ h)) hown hw 0 rfl rfl 79 (by decide) (hq _ wM_68) rfl dX12_getBit_77 ?_
        refine lv_lload_n hx hb dX12_getBit_80 rfl (lv_at hl 3 rfl) ?_
        refine lv_lsub hx hb dX12_getBit_81 (jx_nl fun z30 hz30 => ?_)
        refine jx_putl mw (cI := cI) (cJ := cJ) (ad := ad) (g := g) (lg := lg) (ar := ar) (bk := bk) (x := z30) 4 (ci := 15) (C := RX12) (T := TX12) (N := 92) (ty := .long) hx hb hts (fun _ h => List.mem_cons_of_mem _ (wwMc_wsX120 _ h)) tyX12 tyX12_ok nmX12 hown hw 0 rfl rfl 79 (by decide) (hq _ wM_68) rfl (by decide +kernel) rfl rfl (Nat.le_of_ble_eq_true rfl) dX12_getBit_82 rfl (fun H locs l31 h_l31 hw => ?_)
        refine lv_aload_n hx hb dX12_getBit_85 rfl (lv_at hl 1 rfl) ?_
        refine lv_dup hx hb dX12_getBit_86 rfl ?_
        have e_l31_3 : l31 3 = (lg 3) := (hk_uplN h_l31 3 rfl)
        refine hk_get (ci := 15) (C := RX12) (T := TX12) (N := 92) (v := .long (lg 3)) hx hb hts (fun _ h => List.mem_cons_of_mem _ (wwMc_wsX120 _ h)) hown hw 0 rfl rfl 55 (by decide) (hq _ wM_56) (congrArg (fun z => some (Value.long z)) e_l31_3) dX12_getBit_87 ?_
        refine lv_lload_n hx hb dX12_getBit_90 rfl (lv_at hl 3 rfl) ?_
        refine lv_lsub hx hb dX12_getBit_91 (jx_nl fun z32 hz32 => ?_)
        refine jx_putl mw (cI := cI) (cJ := cJ) (ad := ad) (g := g) (lg := l31) (ar := ar) (bk := bk) (x := z32) 3 (ci := 15) (C := RX12) (T := TX12) (N := 92) (ty := .long) hx hb hts (fun _ h => List.mem_cons_of_mem _ (wwMc_wsX120 _ h)) tyX12 tyX12_ok nmX12 hown hw 0 rfl rfl 55 (by decide) (hq _ wM_56) rfl (by decide +kernel) rfl rfl (Nat.le_of_ble_eq_true rfl) dX12_getBit_92 rfl (fun H locs l33 h_l33 hw => ?_)
        refine lv_aload_n hx hb dX12_getBit_95 rfl (lv_at hl 1 rfl) ?_
        refine hk_get (ci := 15) (C := RX12) (T := TX12) (N := 92) (v := .ref (ad 17)) hx hb hts (fun _ h => List.mem_cons_of_mem _ (wwMc_wsX120 _ h)) hown hw 0 rfl rfl 41 (by decide) (hq _ wM_207) rfl dX12_getBit_96 ?_
        refine lv_iload_n hx hb dX12_getBit_99 rfl (lv_at hl 2 rfl) ?_
        refine lv_dup2_11 hx hb dX12_getBit_100 rfl rfl ?_
        refine hk_iald (v := z3) hx hb hw 17 0 rfl rfl (hE_in (n := 14344) (om222 ((y1).toInt) hr0)) dX12_getBit_101 hz3 ?_
        refine lv_aload_n hx hb dX12_getBit_102 rfl (lv_at hl 1 rfl) ?_
        refine hk_get (ci := 15) (C := RX12) (T := TX12) (N := 92) (v := .ref (ad 17)) hx hb hts (fun _ h => List.mem_cons_of_mem _ (wwMc_wsX120 _ h)) hown hw 0 rfl rfl 41 (by decide) (hq _ wM_207) rfl dX12_getBit_103 ?_
        refine lv_iload_n hx hb dX12_getBit_106 rfl (lv_at hl 2 rfl) ?_
        refine hk_iald (v := z3) hx hb hw 17 0 rfl rfl (hE_in (n := 14344) (om222 ((y1).toInt) hr0)) dX12_getBit_107 hz3 ?_
        refine lv_iconst (v := 5) hx hb dX12_getBit_108 (by decide) ?_
        refine lv_ishr hx hb dX12_getBit_109 (jx_nm fun z36 hz36 => ?_)
        refine lv_isub hx hb dX12_getBit_110 (jx_nm fun z37 hz37 => ?_)
        refine jx_iast mw (cI := cI) (cJ := cJ) (ad := ad) (g := g) (lg := l33) (ar := ar) (bk := bk) 16 hx hb hw 17 0 rfl rfl (hE_in (n := 14344) (om222 ((y1).toInt) hr0)) dX12_getBit_111 rfl (fun H locs a38 h_a38 hw => ?_)
        exact B8 l33 a38 ls _ _ (hk_frL (hk_frL hk_fr0 (by decide) h_l31) (by decide) h_l33) (hk_frA hk_fr0 (by decide) h_a38) hw (lv_sub hl [1, 0] rfl)
      · refine lv_aload_n hx hb dX12_getBit_46 rfl (lv_at hl 1 rfl) ?_
        refine lv_lload_n hx hb dX12_getBit_47 rfl (lv_at hl 3 rfl) ?_
        refine jx_putl mw (cI := cI) (cJ := cJ) (ad := ad) (g := g) (lg := lg) (ar := ar) (bk := bk) (x := z5) 3 (ci := 15) (C := RX12) (T := TX12) (N := 92) (ty := .long) hx hb hts (fun _ h => List.mem_cons_of_mem _ (wwMc_wsX120 _ h)) tyX12 tyX12_ok nmX12 hown hw 0 rfl rfl 55 (by decide) (hq _ wM_56) rfl (by decide +kernel) rfl rfl (Nat.le_of_ble_eq_true rfl) dX12_getBit_48 rfl (fun H locs l39 h_l39 hw => ?_)
        refine lv_aload_n hx hb dX12_getBit_51 rfl (lv_at hl 1 rfl) ?_
        refine hk_get (ci := 15) (C := RX12) (T := TX12) (N := 92) (v := .ref (ad 17)) hx hb hts (fun _ h => List.mem_cons_of_mem _ (wwMc_wsX120 _ h)) hown hw 0 rfl rfl 41 (by decide) (hq _ wM_207) rfl dX12_getBit_52 ?_
        refine lv_iload_n hx hb dX12_getBit_55 rfl (lv_at hl 2 rfl) ?_
        refine lv_dup2_11 hx hb dX12_getBit_56 rfl rfl ?_
        refine hk_iald (v := z3) hx hb hw 17 0 rfl rfl (hE_in (n := 14344) (om222 ((y1).toInt) hr0)) dX12_getBit_57 hz3 ?_
        refine lv_sipush (v := 2048) hx hb dX12_getBit_58 (by decide) ?_
        refine lv_aload_n hx hb dX12_getBit_61 rfl (lv_at hl 1 rfl) ?_
        refine hk_get (ci := 15) (C := RX12) (T := TX12) (N := 92) (v := .ref (ad 17)) hx hb hts (fun _ h => List.mem_cons_of_mem _ (wwMc_wsX120 _ h)) hown hw 0 rfl rfl 41 (by decide) (hq _ wM_207) rfl dX12_getBit_62 ?_
        refine lv_iload_n hx hb dX12_getBit_65 rfl (lv_at hl 2 rfl) ?_
        refine hk_iald (v := z3) hx hb hw 17 0 rfl rfl (hE_in (n := 14344) (om222 ((y1).toInt) hr0)) dX12_getBit_66 hz3 ?_
        refine lv_isub hx hb dX12_getBit_67 (jx_nm fun z42 hz42 => ?_)
        refine lv_iconst (v := 5) hx hb dX12_getBit_68 (by decide) ?_
        refine lv_ishr hx hb dX12_getBit_69 (jx_nm fun z43 hz43 => ?_)
        refine lv_iadd hx hb dX12_getBit_70 (jx_nm fun z44 hz44 => ?_)
        refine jx_iast mw (cI := cI) (cJ := cJ) (ad := ad) (g := g) (lg := l39) (ar := ar) (bk := bk) 16 hx hb hw 17 0 rfl rfl (hE_in (n := 14344) (om222 ((y1).toInt) hr0)) dX12_getBit_71 rfl (fun H locs a45 h_a45 hw => ?_)
        refine lv_goto (tgt := 112) hx hb dX12_getBit_72 (by decide) ?_
        exact B8 l39 a45 ls _ _ (hk_frL hk_fr0 (by decide) h_l39) (hk_frA hk_fr0 (by decide) h_a45) hw (lv_sub hl [1, 0] rfl)
    refine hk_lcmp_ge (tgt := 38) hx hb dX12_getBit_30 dX12_getBit_31 (by decide) (fun cc46 => ?_) (fun cc46 => ?_)
    · refine lv_iconst (v := 1) hx hb dX12_getBit_38 (by decide) ?_
      exact B6 1 ls _ _ (om225 (((1 : Int32)).toInt) (by decide)) hw (lv_sub hl [1, 2, 0] rfl)
    · refine lv_iconst (v := 0) hx hb dX12_getBit_34 (by decide) ?_
      refine lv_goto (tgt := 39) hx hb dX12_getBit_35 (by decide) ?_
      exact B6 0 ls _ _ (om226 (((0 : Int32)).toInt) (by decide)) hw (lv_sub hl [1, 2, 0] rfl)
  · refine lv_iconst (v := 0) hx hb dX12_getBit_7 (by decide) ?_
    exact kr 0 g lg ar bk _ _ _ _ ⟨hk_fr0, hk_fr0, hk_fr0, rfl, (om226 (((0 : Int32)).toInt) (by decide)), (om122 ((g 49).toInt)), (om227 ((g 51).toInt)), (om202 ((g 49).toInt) hi_g49), (om203 ((g 51).toInt) (((0 : Int32)).toInt) hi_g51 (hE_nle cc1) (by decide))⟩ hw dX12_getBit_8

set_option maxHeartbeats 4000000 in
set_option maxRecDepth 100000 in
/-- X12_getPlain on (0,) -/
theorem jm_X12_getPlain (l : Launch) (hlt : l.stackTraces = false) (D : va_G) (t3 : Nat × Nat × Nat) (cI cJ : ClassId) (ad : Nat → Nat) (g : Nat → Int32) (lg : Nat → Int64) (ar : Nat → Nat → Int32) (bk : Nat → Int64) (sz : Nat) (hi_g49 : 0 ≤ (g 49).toInt ∧ (g 49).toInt ≤ 1500) (hi_g51 : 0 ≤ (g 51).toInt ∧ (g 51).toInt ≤ 15) (hi_g12 : 0 ≤ (g 12).toInt ∧ (g 12).toInt ≤ 1500) (hi_a0rg : hk_rg 0 255 (ar 0)) : JMi l yX12_getPlain (Cond.code yX12_getPlain cX12_getPlain 2 (some .int) :: wwM) { frames := 3, cells := 0, slots := 0, locals := 61 } t3 D mw cI cJ ad [.ref (ad 0)] (mw cI cJ ad g lg ar bk) sz 0 0 (fun (r : Int32) g' lg' ar' bk' => hk_fr [49, 51] g g' ∧ hk_fr [3, 4] lg lg' ∧ ar = ar' ∧ bk = bk' ∧ (0 ≤ (r).toInt ∧ (r).toInt ≤ 1) ∧ ((g 49).toInt ≤ (g' 49).toInt) ∧ ((1 ≤ (g 51).toInt → 1 ≤ (g' 51).toInt)) ∧ (0 ≤ (g' 49).toInt ∧ (g' 49).toInt ≤ 1500) ∧ (0 ≤ (g' 51).toInt ∧ (g' 51).toInt ≤ 15)) (fun g' lg' ar' bk' => False) := by
  refine jx_meti (cc := cX12_getPlain) (maxL := 2) (ret := (some .int)) rfl (by decide) rfl (Nat.le_of_ble_eq_true rfl) ?_
  intro p e s m args below meth c ls Q A hx hb hml hown hts hA hZ hw hl hQ kr kt
  have hq : ∀ w ∈ wwM, w.before args s = true := fun w h => hts w (List.mem_cons_of_mem _ h)
  have hl : lv_has ls 2 [(0, .ref (ad 0))] := hl
  refine lv_aload_n hx hb dX12_getPlain_0 rfl (lv_at hl 0 rfl) ?_
  refine hk_get (ci := 15) (C := RX12) (T := TX12) (N := 92) (v := .int (g 51)) hx hb hts (fun _ h => List.mem_cons_of_mem _ (wwMc_wsX120 _ h)) hown hw 0 rfl rfl 78 (by decide) (hq _ wM_63) rfl dX12_getPlain_1 ?_
  refine lv_if_le (tgt := 9) hx hb dX12_getPlain_4 (by decide) (fun cc1 => ?_) (fun cc1 => ?_)
  · refine lv_aload_n hx hb dX12_getPlain_9 rfl (lv_at hl 0 rfl) ?_
    refine lv_aload_n hx hb dX12_getPlain_10 rfl (lv_at hl 0 rfl) ?_
    refine hk_get (ci := 15) (C := RX12) (T := TX12) (N := 92) (v := .long (lg 3)) hx hb hts (fun _ h => List.mem_cons_of_mem _ (wwMc_wsX120 _ h)) hown hw 0 rfl rfl 55 (by decide) (hq _ wM_56) rfl dX12_getPlain_11 ?_
    refine lv_iconst (v := 1) hx hb dX12_getPlain_14 (by decide) ?_
    refine lv_lshr hx hb dX12_getPlain_15 rfl (jx_nl fun z2 hz2 => ?_)
    refine jx_putl mw (cI := cI) (cJ := cJ) (ad := ad) (g := g) (lg := lg) (ar := ar) (bk := bk) (x := z2) 3 (ci := 15) (C := RX12) (T := TX12) (N := 92) (ty := .long) hx hb hts (fun _ h => List.mem_cons_of_mem _ (wwMc_wsX120 _ h)) tyX12 tyX12_ok nmX12 hown hw 0 rfl rfl 55 (by decide) (hq _ wM_56) rfl (by decide +kernel) rfl rfl (Nat.le_of_ble_eq_true rfl) dX12_getPlain_16 rfl (fun H locs l3 h_l3 hw => ?_)
    refine lv_aload_n hx hb dX12_getPlain_19 rfl (lv_at hl 0 rfl) ?_
    have e_l3_4 : l3 4 = (lg 4) := (hk_uplN h_l3 4 rfl)
    refine hk_get (ci := 15) (C := RX12) (T := TX12) (N := 92) (v := .long (lg 4)) hx hb hts (fun _ h => List.mem_cons_of_mem _ (wwMc_wsX120 _ h)) hown hw 0 rfl rfl 79 (by decide) (hq _ wM_68) (congrArg (fun z => some (Value.long z)) e_l3_4) dX12_getPlain_20 ?_
    refine lv_aload_n hx hb dX12_getPlain_23 rfl (lv_at hl 0 rfl) ?_
    have e_l3_3 : l3 3 = z2 := (hk_uplS h_l3)
    refine hk_get (ci := 15) (C := RX12) (T := TX12) (N := 92) (v := .long z2) hx hb hts (fun _ h => List.mem_cons_of_mem _ (wwMc_wsX120 _ h)) hown hw 0 rfl rfl 55 (by decide) (hq _ wM_56) (congrArg (fun z => some (Value.long z)) e_l3_3) dX12_getPlain_24 ?_
    have B4 : ∀  (x5 : Int32) (ls : Array Slot) (H : Heap) (locs : List Loc), (0 ≤ (x5).toInt ∧ (x5).toInt ≤ 1) → hk_W D (jT cI cJ) A s H locs (mw cI cJ ad g l3 ar bk) → lv_has ls 2 [(0, .ref (ad 0))] → W p l e { frames := 3, cells := 0, slots := 0, locals := 61 } s m args below meth c H locs 0 0 Q (F0 m 36 ls [.int x5]) := by
      intro x5 ls H locs hf_B4_0 hw hl
      refine lv_istore_n (lv' := [(1, .int x5), (0, .ref (ad 0))]) hx hb dX12_getPlain_36 rfl hl (by decide) rfl (fun ls hl => ?_)
      refine lv_aload_n hx hb dX12_getPlain_37 rfl (lv_at hl 1 rfl) ?_
      refine lv_dup hx hb dX12_getPlain_38 rfl ?_
      refine hk_get (ci := 15) (C := RX12) (T := TX12) (N := 92) (v := .long (lg 4)) hx hb hts (fun _ h => List.mem_cons_of_mem _ (wwMc_wsX120 _ h)) hown hw 0 rfl rfl 79 (by decide) (hq _ wM_68) (congrArg (fun z => some (Value.long z)) e_l3_4) dX12_getPlain_39 ?_
      refine lv_iload_n hx hb dX12_getPlain_42 rfl (lv_at hl 0 rfl) ?_
      refine lv_iconst (v := 1) hx hb dX12_getPlain_43 (by decide) ?_
      have B6 : ∀  (x7 : Int64) (ls : Array Slot) (H : Heap) (locs : List Loc), hk_W D (jT cI cJ) A s H locs (mw cI cJ ad g l3 ar bk) → lv_has ls 2 [(0, .ref (ad 0)), (1, .int x5)] → W p l e { frames := 3, cells := 0, slots := 0, locals := 61 } s m args below meth c H locs 0 0 Q (F0 m 55 ls [.long x7, .long (lg 4), .ref (ad 0)]) := by
        intro x7 ls H locs hw hl
        refine lv_lsub hx hb dX12_getPlain_55 (jx_nl fun z8 hz8 => ?_)
        refine jx_putl mw (cI := cI) (cJ := cJ) (ad := ad) (g := g) (lg := l3) (ar := ar) (bk := bk) (x := z8) 4 (ci := 15) (C := RX12) (T := TX12) (N := 92) (ty := .long) hx hb hts (fun _ h => List.mem_cons_of_mem _ (wwMc_wsX120 _ h)) tyX12 tyX12_ok nmX12 hown hw 0 rfl rfl 79 (by decide) (hq _ wM_68) rfl (by decide +kernel) rfl rfl (Nat.le_of_ble_eq_true rfl) dX12_getPlain_56 rfl (fun H locs l9 h_l9 hw => ?_)
        refine lv_aload_n hx hb dX12_getPlain_59 rfl (lv_at hl 0 rfl) ?_
        refine jx_Vv (As := []) (rest := []) ⟨hx, hb, hml, hown, hts⟩ hZ hw hA (jm_X12_readOn l hlt D t3 cI cJ ad g l9 ar bk _ (om202 ((g 49).toInt) hi_g49) (om189 ((g 51).toInt) (((0 : Int32)).toInt) hi_g51 (hE_le cc1) (by decide)) (om202 ((g 12).toInt) hi_g12) hi_a0rg) (cwV 0 hts (jx_gV wwM_good wM_208 wM_209 wM_210 wM_8 wM_211) rfl rfl rfl (by decide +kernel) ⟨Nat.le_of_ble_eq_true rfl, Nat.le_of_ble_eq_true rfl⟩) 0 (ci := 15) (T := TX12) (N := 92) rfl rfl rfl hl.1 rfl (Nat.le_of_ble_eq_true rfl) dX12_getPlain_60 ⟨Nat.le_of_ble_eq_true rfl, Nat.le_of_ble_eq_true rfl⟩ (fun _ _ _ _ _ _ _ _ hp _ _ _ _ => hp.elim) (fun g15 l16 a17 b18 H locs hp19 hw => ?_)
        obtain ⟨h20, h21, rfl, rfl, h24, h25, h26, h27⟩ := hp19
        refine lv_iload_n hx hb dX12_getPlain_63 rfl (lv_at hl 1 rfl) ?_
        exact kr x5 g15 l16 ar bk _ _ _ _ ⟨h20, (hk_frT (hk_frL (hk_frL hk_fr0 (by decide) h_l3) (by decide) h_l9) (by decide) h21), rfl, rfl, (om223 ((x5).toInt) hf_B4_0), (om204 ((g 49).toInt) ((g15 49).toInt) h24), (om224 ((g 51).toInt) ((g15 51).toInt) (((0 : Int32)).toInt) (hE_le cc1) (by decide)), (om202 ((g15 49).toInt) h26), (om206 ((g15 51).toInt) h27)⟩ hw dX12_getPlain_64
      refine lv_icmp_ne (tgt := 54) hx hb dX12_getPlain_44 (by decide) (fun cc28 => ?_) (fun cc28 => ?_)
      · refine lv_lconst (v := 0) hx hb dX12_getPlain_54 (by decide) ?_
        exact B6 0 ls _ _ hw (lv_sub hl [1, 0] rfl)
      · refine lv_aload_n hx hb dX12_getPlain_47 rfl (lv_at hl 1 rfl) ?_
        refine hk_get (ci := 15) (C := RX12) (T := TX12) (N := 92) (v := .long z2) hx hb hts (fun _ h => List.mem_cons_of_mem _ (wwMc_wsX120 _ h)) hown hw 0 rfl rfl 55 (by decide) (hq _ wM_56) (congrArg (fun z => some (Value.long z)) e_l3_3) dX12_getPlain_48 ?_
        refine lv_goto (tgt := 55) hx hb dX12_getPlain_51 (by decide) ?_
        exact B6 z2 ls _ _ hw (lv_sub hl [1, 0] rfl)
    refine hk_lcmp_lt (tgt := 35) hx hb dX12_getPlain_27 dX12_getPlain_28 (by decide) (fun cc29 => ?_) (fun cc29 => ?_)
    · refine lv_iconst (v := 0) hx hb dX12_getPlain_35 (by decide) ?_
      exact B4 0 ls _ _ (om226 (((0 : Int32)).toInt) (by decide)) hw (lv_sub hl [0] rfl)
    · refine lv_iconst (v := 1) hx hb dX12_getPlain_31 (by decide) ?_
      refine lv_goto (tgt := 36) hx hb dX12_getPlain_32 (by decide) ?_
      exact B4 1 ls _ _ (om225 (((1 : Int32)).toInt) (by decide)) hw (lv_sub hl [0] rfl)
  · refine lv_iconst (v := 0) hx hb dX12_getPlain_7 (by decide) ?_
    exact kr 0 g lg ar bk _ _ _ _ ⟨hk_fr0, hk_fr0, rfl, rfl, (om226 (((0 : Int32)).toInt) (by decide)), (om122 ((g 49).toInt)), (om227 ((g 51).toInt)), (om202 ((g 49).toInt) hi_g49), (om203 ((g 51).toInt) (((0 : Int32)).toInt) hi_g51 (hE_nle cc1) (by decide))⟩ hw dX12_getPlain_8

set_option maxHeartbeats 4000000 in
set_option maxRecDepth 100000 in
/-- X12_getTree on (0,) -/
theorem jm_X12_getTree (l : Launch) (hlt : l.stackTraces = false) (D : va_G) (t3 : Nat × Nat × Nat) (cI cJ : ClassId) (ad : Nat → Nat) (g : Nat → Int32) (lg : Nat → Int64) (ar : Nat → Nat → Int32) (bk : Nat → Int64) (sz : Nat) (y1 : Int32) (y2 : Int32) (hr0 : 0 ≤ (y1).toInt ∧ (y1).toInt ≤ 14000) (hr1 : 0 ≤ (y2).toInt ∧ (y2).toInt ≤ 8) (hi_g49 : 0 ≤ (g 49).toInt ∧ (g 49).toInt ≤ 1500) (hi_g51 : 0 ≤ (g 51).toInt ∧ (g 51).toInt ≤ 15) (hi_g12 : 0 ≤ (g 12).toInt ∧ (g 12).toInt ≤ 1500) (hi_a0rg : hk_rg 0 255 (ar 0)) : JMi l yX12_getTree (Cond.code yX12_getTree cX12_getTree 5 (some .int) :: wwM) { frames := 4, cells := 0, slots := 0, locals := 85 } t3 D mw cI cJ ad [.ref (ad 0), .int y1, .int y2] (mw cI cJ ad g lg ar bk) sz 0 0 (fun (r : Int32) g' lg' ar' bk' => hk_fr [49, 51] g g' ∧ hk_fr [3, 4] lg lg' ∧ hk_fr [16] ar ar' ∧ bk = bk' ∧ (((y2).toInt = 3 → 0 ≤ (r).toInt ∧ (r).toInt ≤ 7) ∧ ((y2).toInt = 6 → 0 ≤ (r).toInt ∧ (r).toInt ≤ 63) ∧ ((y2).toInt = 8 → 0 ≤ (r).toInt ∧ (r).toInt ≤ 255)) ∧ ((g 49).toInt ≤ (g' 49).toInt) ∧ ((1 ≤ (g 51).toInt → 1 ≤ (g' 51).toInt)) ∧ (0 ≤ (g' 49).toInt ∧ (g' 49).toInt ≤ 1500) ∧ (0 ≤ (g' 51).toInt ∧ (g' 51).toInt ≤ 15)) (fun g' lg' ar' bk' => False) := by
  refine jx_meti (cc := cX12_getTree) (maxL := 5) (ret := (some .int)) rfl (by decide) rfl (Nat.le_of_ble_eq_true rfl) ?_
  intro p e s m args below meth c ls Q A hx hb hml hown hts hA hZ hw hl hQ kr kt
  have hq : ∀ w ∈ wwM, w.before args s = true := fun w h => hts w (List.mem_cons_of_mem _ h)
  have hl : lv_has ls 5 [(0, .ref (ad 0)), (1, .int y1), (2, .int y2)] := hl
  refine lv_iconst (v := 1) hx hb dX12_getTree_0 (by decide) ?_
  refine lv_istore_n (lv' := [(3, .int 1), (0, .ref (ad 0)), (1, .int y1), (2, .int y2)]) hx hb dX12_getTree_1 rfl hl (by decide) rfl (fun ls hl => ?_)
  refine lv_iconst (v := 0) hx hb dX12_getTree_2 (by decide) ?_
  refine lv_istore (lv' := [(4, .int 0), (3, .int 1), (0, .ref (ad 0)), (1, .int y1), (2, .int y2)]) hx hb dX12_getTree_3 hl (by decide) rfl (fun ls hl => ?_)
  have B1 : ∀ (k7 : Nat) (x2 : Int32) (x3 : Int32) (g4 : Nat → Int32) (l5 : Nat → Int64) (a6 : Nat → Nat → Int32) (ls : Array Slot) (H : Heap) (locs : List Loc), (2147483648 - (x3).toInt ≤ (k7 : Int)) → ((x3).toInt ≤ (y2).toInt) → (1 ≤ (x2).toInt ∧ (x2).toInt ≤ 511) → (((x3).toInt = 0 → 1 ≤ (x2).toInt ∧ (x2).toInt ≤ 1) ∧ ((x3).toInt = 1 → 2 ≤ (x2).toInt ∧ (x2).toInt ≤ 3) ∧ ((x3).toInt = 2 → 4 ≤ (x2).toInt ∧ (x2).toInt ≤ 7) ∧ ((x3).toInt = 3 → 8 ≤ (x2).toInt ∧ (x2).toInt ≤ 15) ∧ ((x3).toInt = 4 → 16 ≤ (x2).toInt ∧ (x2).toInt ≤ 31) ∧ ((x3).toInt = 5 → 32 ≤ (x2).toInt ∧ (x2).toInt ≤ 63) ∧ ((x3).toInt = 6 → 64 ≤ (x2).toInt ∧ (x2).toInt ≤ 127) ∧ ((x3).toInt = 7 → 128 ≤ (x2).toInt ∧ (x2).toInt ≤ 255) ∧ ((x3).toInt = 8 → 256 ≤ (x2).toInt ∧ (x2).toInt ≤ 511)) → (0 ≤ (x3).toInt) → ((g 49).toInt ≤ (g4 49).toInt) → (1 ≤ (g 51).toInt → 1 ≤ (g4 51).toInt) → (0 ≤ (g4 49).toInt ∧ (g4 49).toInt ≤ 1500) → (0 ≤ (g4 51).toInt ∧ (g4 51).toInt ≤ 15) → (hk_fr [49, 51] g g4) → (hk_fr [3, 4] lg l5) → (hk_fr [16] ar a6) → hk_W D (jT cI cJ) A s H locs (mw cI cJ ad g4 l5 a6 bk) → lv_has ls 5 [(0, .ref (ad 0)), (1, .int y1), (2, .int y2), (3, .int x2), (4, .int x3)] → W p l e { frames := 4, cells := 0, slots := 0, locals := 85 } s m args below meth c H locs 0 0 Q (F0 m 5 ls []) := by
    intro k7
    induction k7 with
    | zero =>
      intro x2 x3 g4 l5 a6 ls H locs hrk_B1 hf_B1_0 hf_B1_1 hf_B1_2 hf_B1_3 hf_B1_4 hf_B1_5 hf_B1_6 hf_B1_7 hfr_g4 hfr_l5 hfr_a6 hw hl
      exact False.elim (hk_no0 (0 * (x3).toInt) (om228 ((x3).toInt) ((y2).toInt) hf_B1_0 hrk_B1 hr1) (by simp))
    | succ k7 ih_B1 =>
      intro x2 x3 g4 l5 a6 ls H locs hrk_B1 hf_B1_0 hf_B1_1 hf_B1_2 hf_B1_3 hf_B1_4 hf_B1_5 hf_B1_6 hf_B1_7 hfr_g4 hfr_l5 hfr_a6 hw hl
      have hrk_B1 := hk_rk hrk_B1
      refine lv_iload hx hb dX12_getTree_5 (lv_at hl 4 rfl) ?_
      refine lv_iload_n hx hb dX12_getTree_7 rfl (lv_at hl 2 rfl) ?_
      refine lv_icmp_ge (tgt := 29) hx hb dX12_getTree_8 (by decide) (fun cc8 => ?_) (fun cc8 => ?_)
      · refine lv_iload_n hx hb dX12_getTree_29 rfl (lv_at hl 3 rfl) ?_
        refine lv_iconst (v := 1) hx hb dX12_getTree_30 (by decide) ?_
        refine lv_iload_n hx hb dX12_getTree_31 rfl (lv_at hl 2 rfl) ?_
        refine lv_ishl hx hb dX12_getTree_32 (jx_nm fun z9 hz9 => ?_)
        have ha10 : 1 ≤ (z9).toInt ∧ (z9).toInt ≤ 256 := (om229 ((z9).toInt) ((y2).toInt) (hE_shlv1_8 hz9) hr1)
        refine lv_isub hx hb dX12_getTree_33 (jx_nm fun z11 hz11 => ?_)
        have xz11 : (z11).toInt = (x2).toInt - (z9).toInt := (hE_imp (hE_sub hz11) (om230 ((x2).toInt) ((z9).toInt) hf_B1_1 ha10))
        exact kr z11 g4 l5 a6 bk _ _ _ _ ⟨hfr_g4, hfr_l5, hfr_a6, rfl, (om231 ((y2).toInt) ((z11).toInt) ((x3).toInt) ((z9).toInt) ((x2).toInt) (k7 : Int) hr1 hf_B1_0 (hE_le cc8) (hE_shlv1_8 hz9) xz11 hf_B1_1 hf_B1_2 hf_B1_3 hrk_B1 ha10 (hE_rng (y2)) (hE_rng (z11)) (hE_rng (x3)) (hE_rng (z9)) (hE_rng (x2))), (om204 ((g 49).toInt) ((g4 49).toInt) hf_B1_4), (om205 ((g 51).toInt) ((g4 51).toInt) hf_B1_5), (om202 ((g4 49).toInt) hf_B1_6), (om206 ((g4 51).toInt) hf_B1_7)⟩ hw dX12_getTree_34
      · refine lv_iconst (v := 2) hx hb dX12_getTree_11 (by decide) ?_
        refine lv_iload_n hx hb dX12_getTree_12 rfl (lv_at hl 3 rfl) ?_
        refine lv_imul hx hb dX12_getTree_13 (jx_nm fun z12 hz12 => ?_)
        have xz12 : (z12).toInt = (x2).toInt * 2 := (hE_imp (hE_mul' 2 hz12 (by decide)) (om232 ((x2).toInt) hf_B1_1))
        refine lv_aload_n hx hb dX12_getTree_14 rfl (lv_at hl 0 rfl) ?_
        refine lv_iload_n hx hb dX12_getTree_15 rfl (lv_at hl 1 rfl) ?_
        refine lv_iload_n hx hb dX12_getTree_16 rfl (lv_at hl 3 rfl) ?_
        refine lv_iadd hx hb dX12_getTree_17 (jx_nm fun z13 hz13 => ?_)
        have xz13 : (z13).toInt = (y1).toInt + (x2).toInt := (hE_imp (hE_add hz13) (om233 ((y1).toInt) ((x2).toInt) hr0 hf_B1_1))
        have e_g4_12 : g4 12 = (g 12) := (hfr_g4 12 rfl)
        refine jx_Vi (As := [.int z13]) (rest := [.int z12]) ⟨hx, hb, hml, hown, hts⟩ hZ hw hA (jm_X12_getBit l hlt D t3 cI cJ ad g4 l5 a6 bk _ z13 (om234 ((z13).toInt) ((y1).toInt) ((x2).toInt) ((x3).toInt) ((y2).toInt) xz13 hr0 hf_B1_1 hf_B1_2 hf_B1_3 (hE_nle cc8) hr1) (om202 ((g4 49).toInt) hf_B1_6) (om206 ((g4 51).toInt) hf_B1_7) (om21 ((g4 12).toInt) ((g 12).toInt) (congrArg Int32.toInt e_g4_12) hi_g12) (hk_pE (P := hk_rg 0 255) hi_a0rg (hfr_a6 0 rfl))) (cwV 1 hts (jx_gV wwM_good wM_139 wM_140 wM_141 wM_8 wM_142) rfl rfl rfl (by decide +kernel) ⟨Nat.le_of_ble_eq_true rfl, Nat.le_of_ble_eq_true rfl⟩) 0 (ci := 15) (T := TX12) (N := 92) rfl rfl rfl hl.1 rfl (Nat.le_of_ble_eq_true rfl) dX12_getTree_18 ⟨Nat.le_of_ble_eq_true rfl, Nat.le_of_ble_eq_true rfl⟩ (fun _ _ _ _ _ _ _ _ hp _ _ _ _ => hp.elim) (fun r18 g19 l20 a21 b22 H locs hp23 hw => ?_)
        obtain ⟨h24, h25, h26, rfl, h28, h29, h30, h31, h32⟩ := hp23
        have hr33 : hk_rg 0 255 (a21 0) := (hk_pE (P := hk_rg 0 255) (hk_pE (P := hk_rg 0 255) hi_a0rg (hfr_a6 0 rfl)) (h26 0 rfl))
        refine lv_iadd hx hb dX12_getTree_21 (jx_nm fun z34 hz34 => ?_)
        have xz34 : (z34).toInt = (z12).toInt + (r18).toInt := (hE_imp (hE_add hz34) (om235 ((z12).toInt) ((r18).toInt) ((x2).toInt) xz12 h28 hf_B1_1 (hE_rng (z12))))
        refine lv_istore_n (lv' := [(3, .int z34), (0, .ref (ad 0)), (1, .int y1), (2, .int y2), (4, .int x3)]) hx hb dX12_getTree_22 rfl hl (by decide) rfl (fun ls hl => ?_)
        obtain ⟨z35, hz35⟩ : ∃ z : Int32, x3 + 1 = z := ⟨_, rfl⟩
        refine lv_iinc (v := z35) (lv' := [(4, .int z35), (3, .int z34), (0, .ref (ad 0)), (1, .int y1), (2, .int y2)]) hx hb dX12_getTree_23 hl (k := 4) rfl hz35 (by decide) rfl (fun ls hl => ?_)
        have xz35 : (z35).toInt = (x3).toInt + ((1 : Int32)).toInt := (hE_imp (hE_add hz35) (om208 ((x3).toInt) (((1 : Int32)).toInt) ((y2).toInt) hf_B1_3 (hE_nle cc8) hr1 (by decide)))
        refine lv_goto (tgt := 5) hx hb dX12_getTree_26 (by decide) ?_
        exact ih_B1 z34 z35 g19 l20 a21 ls _ _ (om11 ((z35).toInt) (k7 : Int) ((x3).toInt) (((1 : Int32)).toInt) hrk_B1 xz35 (by decide)) (om236 ((z35).toInt) ((y2).toInt) ((x3).toInt) (((1 : Int32)).toInt) (hE_nle cc8) xz35 (by decide)) (om237 ((z34).toInt) ((z12).toInt) ((r18).toInt) ((x2).toInt) ((x3).toInt) ((y2).toInt) xz34 xz12 h28 hf_B1_1 hf_B1_2 hf_B1_3 (hE_nle cc8) hr1) (om238 ((z35).toInt) ((z34).toInt) ((z12).toInt) ((r18).toInt) ((x3).toInt) (((1 : Int32)).toInt) ((x2).toInt) ((y2).toInt) xz34 xz35 hf_B1_2 hf_B1_3 (hE_nle cc8) xz12 h28 hr1 hf_B1_1 (by decide)) (om14 ((z35).toInt) ((x3).toInt) (((1 : Int32)).toInt) xz35 hf_B1_3 (by decide)) (om209 ((g 49).toInt) ((g19 49).toInt) ((g4 49).toInt) hf_B1_4 h29) (om239 ((g 51).toInt) ((g19 51).toInt) ((g4 51).toInt) hf_B1_5 h30) (om202 ((g19 49).toInt) h31) (om206 ((g19 51).toInt) h32) (hk_frT hfr_g4 (by decide) h24) (hk_frT hfr_l5 (by decide) h25) (hk_frT hfr_a6 (by decide) h26) hw (lv_sub hl [2, 3, 4, 1, 0] rfl)
  exact B1 (2147483648 - ((0 : Int32)).toInt).toNat 1 0 g lg ar ls _ _ (Int.self_le_toNat _) (om240 (((0 : Int32)).toInt) ((y2).toInt) hr1 (by decide)) (om241 (((1 : Int32)).toInt) (by decide)) (om242 (((0 : Int32)).toInt) (((1 : Int32)).toInt) (by decide) (by decide)) (om18 (((0 : Int32)).toInt) (by decide)) (om122 ((g 49).toInt)) (om211 ((g 51).toInt)) (om202 ((g 49).toInt) hi_g49) (om206 ((g 51).toInt) hi_g51) hk_fr0 hk_fr0 hk_fr0 hw (lv_sub hl [2, 3, 4, 1, 0] rfl)

set_option maxHeartbeats 4000000 in
set_option maxRecDepth 100000 in
/-- X12_getTurned on (0,) -/
theorem jm_X12_getTurned (l : Launch) (hlt : l.stackTraces = false) (D : va_G) (t3 : Nat × Nat × Nat) (cI cJ : ClassId) (ad : Nat → Nat) (g : Nat → Int32) (lg : Nat → Int64) (ar : Nat → Nat → Int32) (bk : Nat → Int64) (sz : Nat) (y1 : Int32) (y2 : Int32) (hr0 : 0 ≤ (y1).toInt ∧ (y1).toInt ≤ 14000) (hr1 : 0 ≤ (y2).toInt ∧ (y2).toInt ≤ 5) (hi_g49 : 0 ≤ (g 49).toInt ∧ (g 49).toInt ≤ 1500) (hi_g51 : 0 ≤ (g 51).toInt ∧ (g 51).toInt ≤ 15) (hi_g12 : 0 ≤ (g 12).toInt ∧ (g 12).toInt ≤ 1500) (hi_a0rg : hk_rg 0 255 (ar 0)) : JMi l yX12_getTurned (Cond.code yX12_getTurned cX12_getTurned 7 (some .int) :: wwM) { frames := 4, cells := 0, slots := 0, locals := 85 } t3 D mw cI cJ ad [.ref (ad 0), .int y1, .int y2] (mw cI cJ ad g lg ar bk) sz 0 0 (fun (r : Int32) g' lg' ar' bk' => hk_fr [49, 51] g g' ∧ hk_fr [3, 4] lg lg' ∧ hk_fr [16] ar ar' ∧ bk = bk' ∧ (0 ≤ (r).toInt ∧ (r).toInt < 64) ∧ ((g 49).toInt ≤ (g' 49).toInt) ∧ ((1 ≤ (g 51).toInt → 1 ≤ (g' 51).toInt)) ∧ (0 ≤ (g' 49).toInt ∧ (g' 49).toInt ≤ 1500) ∧ (0 ≤ (g' 51).toInt ∧ (g' 51).toInt ≤ 15)) (fun g' lg' ar' bk' => False) := by
  refine jx_meti (cc := cX12_getTurned) (maxL := 7) (ret := (some .int)) rfl (by decide) rfl (Nat.le_of_ble_eq_true rfl) ?_
  intro p e s m args below meth c ls Q A hx hb hml hown hts hA hZ hw hl hQ kr kt
  have hq : ∀ w ∈ wwM, w.before args s = true := fun w h => hts w (List.mem_cons_of_mem _ h)
  have hl : lv_has ls 7 [(0, .ref (ad 0)), (1, .int y1), (2, .int y2)] := hl
  refine lv_iconst (v := 1) hx hb dX12_getTurned_0 (by decide) ?_
  refine lv_istore_n (lv' := [(3, .int 1), (0, .ref (ad 0)), (1, .int y1), (2, .int y2)]) hx hb dX12_getTurned_1 rfl hl (by decide) rfl (fun ls hl => ?_)
  refine lv_iconst (v := 0) hx hb dX12_getTurned_2 (by decide) ?_
  refine lv_istore (lv' := [(4, .int 0), (3, .int 1), (0, .ref (ad 0)), (1, .int y1), (2, .int y2)]) hx hb dX12_getTurned_3 hl (by decide) rfl (fun ls hl => ?_)
  refine lv_iconst (v := 0) hx hb dX12_getTurned_5 (by decide) ?_
  refine lv_istore (lv' := [(5, .int 0), (4, .int 0), (3, .int 1), (0, .ref (ad 0)), (1, .int y1), (2, .int y2)]) hx hb dX12_getTurned_6 hl (by decide) rfl (fun ls hl => ?_)
  have B1 : ∀ (k8 : Nat) (x2 : Int32) (x3 : Int32) (x4 : Int32) (g5 : Nat → Int32) (l6 : Nat → Int64) (a7 : Nat → Nat → Int32) (ls : Array Slot) (H : Heap) (locs : List Loc), (2147483648 - (x4).toInt ≤ (k8 : Int)) → ((x4).toInt ≤ (y2).toInt) → (1 ≤ (x2).toInt ∧ (x2).toInt ≤ 63) → (0 ≤ (x3).toInt ∧ (x3).toInt < 64) → (((x4).toInt = 0 → 1 ≤ (x2).toInt ∧ (x2).toInt ≤ 1) ∧ ((x4).toInt = 1 → 2 ≤ (x2).toInt ∧ (x2).toInt ≤ 3) ∧ ((x4).toInt = 2 → 4 ≤ (x2).toInt ∧ (x2).toInt ≤ 7) ∧ ((x4).toInt = 3 → 8 ≤ (x2).toInt ∧ (x2).toInt ≤ 15) ∧ ((x4).toInt = 4 → 16 ≤ (x2).toInt ∧ (x2).toInt ≤ 31) ∧ ((x4).toInt = 5 → 32 ≤ (x2).toInt ∧ (x2).toInt ≤ 63)) → (0 ≤ (x4).toInt) → ((g 49).toInt ≤ (g5 49).toInt) → (1 ≤ (g 51).toInt → 1 ≤ (g5 51).toInt) → (0 ≤ (g5 49).toInt ∧ (g5 49).toInt ≤ 1500) → (0 ≤ (g5 51).toInt ∧ (g5 51).toInt ≤ 15) → (hk_fr [49, 51] g g5) → (hk_fr [3, 4] lg l6) → (hk_fr [16] ar a7) → hk_W D (jT cI cJ) A s H locs (mw cI cJ ad g5 l6 a7 bk) → lv_has ls 7 [(0, .ref (ad 0)), (1, .int y1), (2, .int y2), (3, .int x2), (4, .int x3), (5, .int x4)] → W p l e { frames := 4, cells := 0, slots := 0, locals := 85 } s m args below meth c H locs 0 0 Q (F0 m 8 ls []) := by
    intro k8
    induction k8 with
    | zero =>
      intro x2 x3 x4 g5 l6 a7 ls H locs hrk_B1 hf_B1_0 hf_B1_1 hf_B1_2 hf_B1_3 hf_B1_4 hf_B1_5 hf_B1_6 hf_B1_7 hf_B1_8 hfr_g5 hfr_l6 hfr_a7 hw hl
      exact False.elim (hk_no0 (0 * (x4).toInt) (om243 ((x4).toInt) ((y2).toInt) hf_B1_0 hrk_B1 hr1) (by simp))
    | succ k8 ih_B1 =>
      intro x2 x3 x4 g5 l6 a7 ls H locs hrk_B1 hf_B1_0 hf_B1_1 hf_B1_2 hf_B1_3 hf_B1_4 hf_B1_5 hf_B1_6 hf_B1_7 hf_B1_8 hfr_g5 hfr_l6 hfr_a7 hw hl
      have hrk_B1 := hk_rk hrk_B1
      refine lv_iload hx hb dX12_getTurned_8 (lv_at hl 5 rfl) ?_
      refine lv_iload_n hx hb dX12_getTurned_10 rfl (lv_at hl 2 rfl) ?_
      refine lv_icmp_ge (tgt := 46) hx hb dX12_getTurned_11 (by decide) (fun cc9 => ?_) (fun cc9 => ?_)
      · refine lv_iload hx hb dX12_getTurned_46 (lv_at hl 4 rfl) ?_
        exact kr x3 g5 l6 a7 bk _ _ _ _ ⟨hfr_g5, hfr_l6, hfr_a7, rfl, (om244 ((x3).toInt) hf_B1_2), (om204 ((g 49).toInt) ((g5 49).toInt) hf_B1_5), (om205 ((g 51).toInt) ((g5 51).toInt) hf_B1_6), (om202 ((g5 49).toInt) hf_B1_7), (om206 ((g5 51).toInt) hf_B1_8)⟩ hw dX12_getTurned_48
      · refine lv_aload_n hx hb dX12_getTurned_14 rfl (lv_at hl 0 rfl) ?_
        refine lv_iload_n hx hb dX12_getTurned_15 rfl (lv_at hl 1 rfl) ?_
        refine lv_iload_n hx hb dX12_getTurned_16 rfl (lv_at hl 3 rfl) ?_
        refine lv_iadd hx hb dX12_getTurned_17 (jx_nm fun z10 hz10 => ?_)
        have xz10 : (z10).toInt = (y1).toInt + (x2).toInt := (hE_imp (hE_add hz10) (om245 ((y1).toInt) ((x2).toInt) hr0 hf_B1_1))
        have e_g5_12 : g5 12 = (g 12) := (hfr_g5 12 rfl)
        refine jx_Vi (As := [.int z10]) (rest := []) ⟨hx, hb, hml, hown, hts⟩ hZ hw hA (jm_X12_getBit l hlt D t3 cI cJ ad g5 l6 a7 bk _ z10 (om246 ((z10).toInt) ((y1).toInt) ((x2).toInt) xz10 hr0 hf_B1_1) (om202 ((g5 49).toInt) hf_B1_7) (om206 ((g5 51).toInt) hf_B1_8) (om21 ((g5 12).toInt) ((g 12).toInt) (congrArg Int32.toInt e_g5_12) hi_g12) (hk_pE (P := hk_rg 0 255) hi_a0rg (hfr_a7 0 rfl))) (cwV 1 hts (jx_gV wwM_good wM_139 wM_140 wM_141 wM_8 wM_142) rfl rfl rfl (by decide +kernel) ⟨Nat.le_of_ble_eq_true rfl, Nat.le_of_ble_eq_true rfl⟩) 0 (ci := 15) (T := TX12) (N := 92) rfl rfl rfl hl.1 rfl (Nat.le_of_ble_eq_true rfl) dX12_getTurned_18 ⟨Nat.le_of_ble_eq_true rfl, Nat.le_of_ble_eq_true rfl⟩ (fun _ _ _ _ _ _ _ _ hp _ _ _ _ => hp.elim) (fun r15 g16 l17 a18 b19 H locs hp20 hw => ?_)
        obtain ⟨h21, h22, h23, rfl, h25, h26, h27, h28, h29⟩ := hp20
        have hr30 : hk_rg 0 255 (a18 0) := (hk_pE (P := hk_rg 0 255) (hk_pE (P := hk_rg 0 255) hi_a0rg (hfr_a7 0 rfl)) (h23 0 rfl))
        refine lv_istore (lv' := [(6, .int r15), (0, .ref (ad 0)), (1, .int y1), (2, .int y2), (3, .int x2), (4, .int x3), (5, .int x4)]) hx hb dX12_getTurned_21 hl (by decide) rfl (fun ls hl => ?_)
        refine lv_iconst (v := 2) hx hb dX12_getTurned_23 (by decide) ?_
        refine lv_iload_n hx hb dX12_getTurned_24 rfl (lv_at hl 4 rfl) ?_
        refine lv_imul hx hb dX12_getTurned_25 (jx_nm fun z31 hz31 => ?_)
        have xz31 : (z31).toInt = (x2).toInt * 2 := (hE_imp (hE_mul' 2 hz31 (by decide)) (om247 ((x2).toInt) hf_B1_1))
        refine lv_iload hx hb dX12_getTurned_26 (lv_at hl 0 rfl) ?_
        refine lv_iadd hx hb dX12_getTurned_28 (jx_nm fun z32 hz32 => ?_)
        have xz32 : (z32).toInt = (z31).toInt + (r15).toInt := (hE_imp (hE_add hz32) (om248 ((z31).toInt) ((r15).toInt) ((x2).toInt) h25 xz31 hf_B1_1 (hE_rng (z31))))
        refine lv_istore_n (lv' := [(3, .int z32), (6, .int r15), (0, .ref (ad 0)), (1, .int y1), (2, .int y2), (4, .int x3), (5, .int x4)]) hx hb dX12_getTurned_29 rfl hl (by decide) rfl (fun ls hl => ?_)
        refine lv_iload hx hb dX12_getTurned_30 (lv_at hl 5 rfl) ?_
        refine lv_iload hx hb dX12_getTurned_32 (lv_at hl 1 rfl) ?_
        refine lv_iload hx hb dX12_getTurned_34 (lv_at hl 6 rfl) ?_
        refine lv_ishl hx hb dX12_getTurned_36 (jx_nm fun z33 hz33 => ?_)
        refine lv_ior hx hb dX12_getTurned_37 (jx_nm fun z34 hz34 => ?_)
        refine lv_istore (lv' := [(4, .int z34), (3, .int z32), (6, .int r15), (0, .ref (ad 0)), (1, .int y1), (2, .int y2), (5, .int x4)]) hx hb dX12_getTurned_38 hl (by decide) rfl (fun ls hl => ?_)
        obtain ⟨z35, hz35⟩ : ∃ z : Int32, x4 + 1 = z := ⟨_, rfl⟩
        refine lv_iinc (v := z35) (lv' := [(5, .int z35), (4, .int z34), (3, .int z32), (6, .int r15), (0, .ref (ad 0)), (1, .int y1), (2, .int y2)]) hx hb dX12_getTurned_40 hl (k := 6) rfl hz35 (by decide) rfl (fun ls hl => ?_)
        have xz35 : (z35).toInt = (x4).toInt + ((1 : Int32)).toInt := (hE_imp (hE_add hz35) (om249 ((x4).toInt) (((1 : Int32)).toInt) ((y2).toInt) hf_B1_4 (hE_nle cc9) hr1 (by decide)))
        refine lv_goto (tgt := 8) hx hb dX12_getTurned_43 (by decide) ?_
        exact ih_B1 z32 z34 z35 g16 l17 a18 ls _ _ (om11 ((z35).toInt) (k8 : Int) ((x4).toInt) (((1 : Int32)).toInt) hrk_B1 xz35 (by decide)) (om236 ((z35).toInt) ((y2).toInt) ((x4).toInt) (((1 : Int32)).toInt) (hE_nle cc9) xz35 (by decide)) (om250 ((z32).toInt) ((z31).toInt) ((r15).toInt) ((x2).toInt) ((x4).toInt) ((y2).toInt) xz32 h25 xz31 hf_B1_1 hf_B1_3 hf_B1_4 (hE_nle cc9) hr1) (om251 ((z34).toInt) ((x3).toInt) ((z33).toInt) ((r15).toInt) ((x4).toInt) ((y2).toInt) (hE_or64 hz34) hf_B1_2 (hE_shlb hz33) hf_B1_4 (hE_nle cc9) h25 hr1) (om252 ((z35).toInt) ((z32).toInt) ((z31).toInt) ((r15).toInt) ((x4).toInt) (((1 : Int32)).toInt) ((x2).toInt) ((y2).toInt) xz32 xz35 hf_B1_3 hf_B1_4 (hE_nle cc9) h25 xz31 hr1 hf_B1_1 (by decide)) (om14 ((z35).toInt) ((x4).toInt) (((1 : Int32)).toInt) xz35 hf_B1_4 (by decide)) (om209 ((g 49).toInt) ((g16 49).toInt) ((g5 49).toInt) hf_B1_5 h26) (om239 ((g 51).toInt) ((g16 51).toInt) ((g5 51).toInt) hf_B1_6 h27) (om202 ((g16 49).toInt) h28) (om206 ((g16 51).toInt) h29) (hk_frT hfr_g5 (by decide) h21) (hk_frT hfr_l6 (by decide) h22) (hk_frT hfr_a7 (by decide) h23) hw (lv_sub hl [4, 5, 6, 2, 1, 0] rfl)
  exact B1 (2147483648 - ((0 : Int32)).toInt).toNat 1 0 0 g lg ar ls _ _ (Int.self_le_toNat _) (om253 (((0 : Int32)).toInt) ((y2).toInt) hr1 (by decide)) (om254 (((1 : Int32)).toInt) (by decide)) (om255 (((0 : Int32)).toInt) (by decide)) (om256 (((0 : Int32)).toInt) (((1 : Int32)).toInt) (by decide) (by decide)) (om18 (((0 : Int32)).toInt) (by decide)) (om122 ((g 49).toInt)) (om211 ((g 51).toInt)) (om202 ((g 49).toInt) hi_g49) (om206 ((g 51).toInt) hi_g51) hk_fr0 hk_fr0 hk_fr0 hw (lv_sub hl [3, 4, 5, 2, 1, 0] rfl)

set_option maxHeartbeats 4000000 in
set_option maxRecDepth 100000 in
/-- X12_getLength on (0,) -/
theorem jm_X12_getLength (l : Launch) (hlt : l.stackTraces = false) (D : va_G) (t3 : Nat × Nat × Nat) (cI cJ : ClassId) (ad : Nat → Nat) (g : Nat → Int32) (lg : Nat → Int64) (ar : Nat → Nat → Int32) (bk : Nat → Int64) (sz : Nat) (y1 : Int32) (hr0 : 0 ≤ (y1).toInt ∧ (y1).toInt ≤ 2000) (hi_g31 : 0 ≤ (g 31).toInt ∧ (g 31).toInt ≤ 4) (hi_g49 : 0 ≤ (g 49).toInt ∧ (g 49).toInt ≤ 1500) (hi_g51 : 0 ≤ (g 51).toInt ∧ (g 51).toInt ≤ 15) (hi_g12 : 0 ≤ (g 12).toInt ∧ (g 12).toInt ≤ 1500) (hi_a0rg : hk_rg 0 255 (ar 0)) : JMi l yX12_getLength (Cond.code yX12_getLength cX12_getLength 3 (some .int) :: wwM) { frames := 5, cells := 0, slots := 0, locals := 109 } t3 D mw cI cJ ad [.ref (ad 0), .int y1] (mw cI cJ ad g lg ar bk) sz 0 0 (fun (r : Int32) g' lg' ar' bk' => hk_fr [49, 51] g g' ∧ hk_fr [3, 4] lg lg' ∧ hk_fr [16] ar ar' ∧ bk = bk' ∧ (2 ≤ (r).toInt ∧ (r).toInt ≤ 273) ∧ ((g 49).toInt ≤ (g' 49).toInt) ∧ ((1 ≤ (g 51).toInt → 1 ≤ (g' 51).toInt)) ∧ (0 ≤ (g' 49).toInt ∧ (g' 49).toInt ≤ 1500) ∧ (0 ≤ (g' 51).toInt ∧ (g' 51).toInt ≤ 15)) (fun g' lg' ar' bk' => False) := by
  refine jx_meti (cc := cX12_getLength) (maxL := 3) (ret := (some .int)) rfl (by decide) rfl (Nat.le_of_ble_eq_true rfl) ?_
  intro p e s m args below meth c ls Q A hx hb hml hown hts hA hZ hw hl hQ kr kt
  have hq : ∀ w ∈ wwM, w.before args s = true := fun w h => hts w (List.mem_cons_of_mem _ h)
  have hl : lv_has ls 3 [(0, .ref (ad 0)), (1, .int y1)] := hl
  refine lv_aload_n hx hb dX12_getLength_0 rfl (lv_at hl 0 rfl) ?_
  refine jx_Vi (As := []) (rest := []) ⟨hx, hb, hml, hown, hts⟩ hZ hw hA (jm_X12_part l hlt D t3 cI cJ ad g lg ar bk _ (om257 ((g 31).toInt) hi_g31)) (cwV 0 hts (jx_gV wwM_good wM_135 wM_136 wM_137 wM_8 wM_138) rfl rfl rfl (by decide +kernel) ⟨Nat.le_of_ble_eq_true rfl, Nat.le_of_ble_eq_true rfl⟩) 0 (ci := 15) (T := TX12) (N := 92) rfl rfl rfl hl.1 rfl (Nat.le_of_ble_eq_true rfl) dX12_getLength_1 ⟨Nat.le_of_ble_eq_true rfl, Nat.le_of_ble_eq_true rfl⟩ (fun _ _ _ _ _ _ _ _ hp _ _ _ _ => hp.elim) (fun r5 g6 l7 a8 b9 H locs hp10 hw => ?_)
  obtain ⟨rfl, rfl, rfl, rfl, h15⟩ := hp10
  refine lv_istore_n (lv' := [(2, .int r5), (0, .ref (ad 0)), (1, .int y1)]) hx hb dX12_getLength_4 rfl hl (by decide) rfl (fun ls hl => ?_)
  refine lv_aload_n hx hb dX12_getLength_5 rfl (lv_at hl 1 rfl) ?_
  refine lv_iload_n hx hb dX12_getLength_6 rfl (lv_at hl 2 rfl) ?_
  refine jx_Vi (As := [.int y1]) (rest := []) ⟨hx, hb, hml, hown, hts⟩ hZ hw hA (jm_X12_getBit l hlt D t3 cI cJ ad g lg ar bk _ y1 (om258 ((y1).toInt) hr0) (om202 ((g 49).toInt) hi_g49) (om206 ((g 51).toInt) hi_g51) (om202 ((g 12).toInt) hi_g12) hi_a0rg) (cwV 1 hts (jx_gV wwM_good wM_139 wM_140 wM_141 wM_8 wM_142) rfl rfl rfl (by decide +kernel) ⟨Nat.le_of_ble_eq_true rfl, Nat.le_of_ble_eq_true rfl⟩) 0 (ci := 15) (T := TX12) (N := 92) rfl rfl rfl hl.1 rfl (Nat.le_of_ble_eq_true rfl) dX12_getLength_7 ⟨Nat.le_of_ble_eq_true rfl, Nat.le_of_ble_eq_true rfl⟩ (fun _ _ _ _ _ _ _ _ hp _ _ _ _ => hp.elim) (fun r20 g21 l22 a23 b24 H locs hp25 hw => ?_)
  obtain ⟨h26, h27, h28, rfl, h30, h31, h32, h33, h34⟩ := hp25
  refine lv_if_ne (tgt := 29) hx hb dX12_getLength_10 (by decide) (fun cc35 => ?_) (fun cc35 => ?_)
  · refine lv_aload_n hx hb dX12_getLength_29 rfl (lv_at hl 1 rfl) ?_
    refine lv_iload_n hx hb dX12_getLength_30 rfl (lv_at hl 2 rfl) ?_
    refine lv_iconst (v := 1) hx hb dX12_getLength_31 (by decide) ?_
    refine lv_iadd hx hb dX12_getLength_32 (jx_nm fun z36 hz36 => ?_)
    have xz36 : (z36).toInt = (y1).toInt + ((1 : Int32)).toInt := (hE_imp (hE_add hz36) (om259 ((y1).toInt) (((1 : Int32)).toInt) hr0 (by decide)))
    have e_g21_12 : g21 12 = (g 12) := (h26 12 rfl)
    refine jx_Vi (As := [.int z36]) (rest := []) ⟨hx, hb, hml, hown, hts⟩ hZ hw hA (jm_X12_getBit l hlt D t3 cI cJ ad g21 l22 a23 bk _ z36 (om260 ((z36).toInt) ((y1).toInt) (((1 : Int32)).toInt) xz36 hr0 (by decide)) (om202 ((g21 49).toInt) h33) (om206 ((g21 51).toInt) h34) (om21 ((g21 12).toInt) ((g 12).toInt) (congrArg Int32.toInt e_g21_12) hi_g12) (hk_pE (P := hk_rg 0 255) hi_a0rg (h28 0 rfl))) (cwV 1 hts (jx_gV wwM_good wM_139 wM_140 wM_141 wM_8 wM_142) rfl rfl rfl (by decide +kernel) ⟨Nat.le_of_ble_eq_true rfl, Nat.le_of_ble_eq_true rfl⟩) 0 (ci := 15) (T := TX12) (N := 92) rfl rfl rfl hl.1 rfl (Nat.le_of_ble_eq_true rfl) dX12_getLength_33 ⟨Nat.le_of_ble_eq_true rfl, Nat.le_of_ble_eq_true rfl⟩ (fun _ _ _ _ _ _ _ _ hp _ _ _ _ => hp.elim) (fun r41 g42 l43 a44 b45 H locs hp46 hw => ?_)
    obtain ⟨h47, h48, h49, rfl, h51, h52, h53, h54, h55⟩ := hp46
    have hr56 : hk_rg 0 255 (a44 0) := (hk_pE (P := hk_rg 0 255) (hk_pE (P := hk_rg 0 255) hi_a0rg (h28 0 rfl)) (h49 0 rfl))
    refine lv_if_ne (tgt := 58) hx hb dX12_getLength_36 (by decide) (fun cc57 => ?_) (fun cc57 => ?_)
    · refine lv_bipush (v := 18) hx hb dX12_getLength_58 (by decide) ?_
      refine lv_aload_n hx hb dX12_getLength_60 rfl (lv_at hl 1 rfl) ?_
      refine lv_iload_n hx hb dX12_getLength_61 rfl (lv_at hl 2 rfl) ?_
      refine lv_sipush (v := 260) hx hb dX12_getLength_62 (by decide) ?_
      refine lv_iadd hx hb dX12_getLength_65 (jx_nm fun z58 hz58 => ?_)
      have xz58 : (z58).toInt = (y1).toInt + ((260 : Int32)).toInt := (hE_imp (hE_add hz58) (om261 ((y1).toInt) (((260 : Int32)).toInt) hr0 (by decide)))
      refine lv_bipush (v := 8) hx hb dX12_getLength_66 (by decide) ?_
      have e_g42_12 : g42 12 = (g 12) := ((h47 12 rfl)).trans e_g21_12
      refine jx_Vi (As := [.int z58, .int 8]) (rest := [.int 18]) ⟨hx, hb, hml, hown, hts⟩ hZ hw hA (jm_X12_getTree l hlt D t3 cI cJ ad g42 l43 a44 bk _ z58 8 (om262 ((z58).toInt) ((y1).toInt) (((260 : Int32)).toInt) xz58 hr0 (by decide)) (om263 (((8 : Int32)).toInt) (by decide)) (om202 ((g42 49).toInt) h54) (om206 ((g42 51).toInt) h55) (om21 ((g42 12).toInt) ((g 12).toInt) (congrArg Int32.toInt e_g42_12) hi_g12) hr56) (cwV 2 hts (jx_gV wwM_good wM_212 wM_213 wM_214 wM_8 wM_215) rfl rfl rfl (by decide +kernel) ⟨Nat.le_of_ble_eq_true rfl, Nat.le_of_ble_eq_true rfl⟩) 0 (ci := 15) (T := TX12) (N := 92) rfl rfl rfl hl.1 rfl (Nat.le_of_ble_eq_true rfl) dX12_getLength_68 ⟨Nat.le_of_ble_eq_true rfl, Nat.le_of_ble_eq_true rfl⟩ (fun _ _ _ _ _ _ _ _ hp _ _ _ _ => hp.elim) (fun r63 g64 l65 a66 b67 H locs hp68 hw => ?_)
      obtain ⟨h69, h70, h71, rfl, h73, h74, h75, h76, h77⟩ := hp68
      have ha78 : 0 ≤ (r63).toInt ∧ (r63).toInt ≤ 255 := (om264 ((r63).toInt) (((8 : Int32)).toInt) h73 (by decide))
      refine lv_iadd hx hb dX12_getLength_71 (jx_nm fun z79 hz79 => ?_)
      have xz79 : (z79).toInt = ((18 : Int32)).toInt + (r63).toInt := (hE_imp (hE_add hz79) (om265 (((18 : Int32)).toInt) ((r63).toInt) ha78 (by decide)))
      exact kr z79 g64 l65 a66 bk _ _ _ _ ⟨(hk_frT (hk_frT h26 (by decide) h47) (by decide) h69), (hk_frT (hk_frT h27 (by decide) h48) (by decide) h70), (hk_frT (hk_frT h28 (by decide) h49) (by decide) h71), rfl, (om266 ((z79).toInt) (((18 : Int32)).toInt) ((r63).toInt) xz79 ha78 (by decide)), (om267 ((g 49).toInt) ((g64 49).toInt) ((g21 49).toInt) ((g42 49).toInt) h31 h74 h52), (om268 ((g 51).toInt) ((g64 51).toInt) ((g21 51).toInt) ((g42 51).toInt) h32 h75 h53), (om202 ((g64 49).toInt) h76), (om206 ((g64 51).toInt) h77)⟩ hw dX12_getLength_72
    · refine lv_bipush (v := 10) hx hb dX12_getLength_39 (by decide) ?_
      refine lv_aload_n hx hb dX12_getLength_41 rfl (lv_at hl 1 rfl) ?_
      refine lv_iload_n hx hb dX12_getLength_42 rfl (lv_at hl 2 rfl) ?_
      refine lv_sipush (v := 132) hx hb dX12_getLength_43 (by decide) ?_
      refine lv_iadd hx hb dX12_getLength_46 (jx_nm fun z80 hz80 => ?_)
      have xz80 : (z80).toInt = (y1).toInt + ((132 : Int32)).toInt := (hE_imp (hE_add hz80) (om269 ((y1).toInt) (((132 : Int32)).toInt) hr0 (by decide)))
      refine lv_bipush (v := 8) hx hb dX12_getLength_47 (by decide) ?_
      refine lv_iload_n hx hb dX12_getLength_49 rfl (lv_at hl 0 rfl) ?_
      refine lv_imul hx hb dX12_getLength_50 (jx_nm fun z81 hz81 => ?_)
      have xz81 : (z81).toInt = (r5).toInt * 8 := (hE_imp (hE_mul' 8 hz81 (by decide)) (om270 ((r5).toInt) h15))
      refine lv_iadd hx hb dX12_getLength_51 (jx_nm fun z82 hz82 => ?_)
      have xz82 : (z82).toInt = (z80).toInt + (z81).toInt := (hE_imp (hE_add hz82) (om271 ((z80).toInt) ((z81).toInt) ((y1).toInt) (((132 : Int32)).toInt) ((r5).toInt) xz80 xz81 hr0 h15 (hE_rng (z81)) (by decide)))
      refine lv_iconst (v := 3) hx hb dX12_getLength_52 (by decide) ?_
      have e_g42_12 : g42 12 = (g 12) := ((h47 12 rfl)).trans e_g21_12
      refine jx_Vi (As := [.int z82, .int 3]) (rest := [.int 10]) ⟨hx, hb, hml, hown, hts⟩ hZ hw hA (jm_X12_getTree l hlt D t3 cI cJ ad g42 l43 a44 bk _ z82 3 (om272 ((z82).toInt) ((z80).toInt) ((z81).toInt) ((y1).toInt) (((132 : Int32)).toInt) ((r5).toInt) xz82 xz80 xz81 hr0 h15 (by decide)) (om273 (((3 : Int32)).toInt) (by decide)) (om202 ((g42 49).toInt) h54) (om206 ((g42 51).toInt) h55) (om21 ((g42 12).toInt) ((g 12).toInt) (congrArg Int32.toInt e_g42_12) hi_g12) hr56) (cwV 2 hts (jx_gV wwM_good wM_212 wM_213 wM_214 wM_8 wM_215) rfl rfl rfl (by decide +kernel) ⟨Nat.le_of_ble_eq_true rfl, Nat.le_of_ble_eq_true rfl⟩) 0 (ci := 15) (T := TX12) (N := 92) rfl rfl rfl hl.1 rfl (Nat.le_of_ble_eq_true rfl) dX12_getLength_53 ⟨Nat.le_of_ble_eq_true rfl, Nat.le_of_ble_eq_true rfl⟩ (fun _ _ _ _ _ _ _ _ hp _ _ _ _ => hp.elim) (fun r87 g88 l89 a90 b91 H locs hp92 hw => ?_)
      obtain ⟨h93, h94, h95, rfl, h97, h98, h99, h100, h101⟩ := hp92
      have ha102 : 0 ≤ (r87).toInt ∧ (r87).toInt ≤ 7 := (om274 ((r87).toInt) (((3 : Int32)).toInt) h97 (by decide))
      refine lv_iadd hx hb dX12_getLength_56 (jx_nm fun z103 hz103 => ?_)
      have xz103 : (z103).toInt = ((10 : Int32)).toInt + (r87).toInt := (hE_imp (hE_add hz103) (om275 (((10 : Int32)).toInt) ((r87).toInt) ha102 (by decide)))
      exact kr z103 g88 l89 a90 bk _ _ _ _ ⟨(hk_frT (hk_frT h26 (by decide) h47) (by decide) h93), (hk_frT (hk_frT h27 (by decide) h48) (by decide) h94), (hk_frT (hk_frT h28 (by decide) h49) (by decide) h95), rfl, (om276 ((z103).toInt) (((10 : Int32)).toInt) ((r87).toInt) xz103 ha102 (by decide)), (om267 ((g 49).toInt) ((g88 49).toInt) ((g21 49).toInt) ((g42 49).toInt) h31 h98 h52), (om268 ((g 51).toInt) ((g88 51).toInt) ((g21 51).toInt) ((g42 51).toInt) h32 h99 h53), (om202 ((g88 49).toInt) h100), (om206 ((g88 51).toInt) h101)⟩ hw dX12_getLength_57
  · refine lv_iconst (v := 2) hx hb dX12_getLength_13 (by decide) ?_
    refine lv_aload_n hx hb dX12_getLength_14 rfl (lv_at hl 1 rfl) ?_
    refine lv_iload_n hx hb dX12_getLength_15 rfl (lv_at hl 2 rfl) ?_
    refine lv_iconst (v := 4) hx hb dX12_getLength_16 (by decide) ?_
    refine lv_iadd hx hb dX12_getLength_17 (jx_nm fun z104 hz104 => ?_)
    have xz104 : (z104).toInt = (y1).toInt + ((4 : Int32)).toInt := (hE_imp (hE_add hz104) (om277 ((y1).toInt) (((4 : Int32)).toInt) hr0 (by decide)))
    refine lv_bipush (v := 8) hx hb dX12_getLength_18 (by decide) ?_
    refine lv_iload_n hx hb dX12_getLength_20 rfl (lv_at hl 0 rfl) ?_
    refine lv_imul hx hb dX12_getLength_21 (jx_nm fun z105 hz105 => ?_)
    have xz105 : (z105).toInt = (r5).toInt * 8 := (hE_imp (hE_mul' 8 hz105 (by decide)) (om270 ((r5).toInt) h15))
    refine lv_iadd hx hb dX12_getLength_22 (jx_nm fun z106 hz106 => ?_)
    have xz106 : (z106).toInt = (z104).toInt + (z105).toInt := (hE_imp (hE_add hz106) (om278 ((z104).toInt) ((z105).toInt) ((y1).toInt) (((4 : Int32)).toInt) ((r5).toInt) xz104 xz105 hr0 h15 (hE_rng (z105)) (by decide)))
    refine lv_iconst (v := 3) hx hb dX12_getLength_23 (by decide) ?_
    have e_g21_12 : g21 12 = (g 12) := (h26 12 rfl)
    refine jx_Vi (As := [.int z106, .int 3]) (rest := [.int 2]) ⟨hx, hb, hml, hown, hts⟩ hZ hw hA (jm_X12_getTree l hlt D t3 cI cJ ad g21 l22 a23 bk _ z106 3 (om279 ((z106).toInt) ((z104).toInt) ((z105).toInt) ((y1).toInt) (((4 : Int32)).toInt) ((r5).toInt) xz106 xz104 xz105 hr0 h15 (by decide)) (om273 (((3 : Int32)).toInt) (by decide)) (om202 ((g21 49).toInt) h33) (om206 ((g21 51).toInt) h34) (om21 ((g21 12).toInt) ((g 12).toInt) (congrArg Int32.toInt e_g21_12) hi_g12) (hk_pE (P := hk_rg 0 255) hi_a0rg (h28 0 rfl))) (cwV 2 hts (jx_gV wwM_good wM_212 wM_213 wM_214 wM_8 wM_215) rfl rfl rfl (by decide +kernel) ⟨Nat.le_of_ble_eq_true rfl, Nat.le_of_ble_eq_true rfl⟩) 0 (ci := 15) (T := TX12) (N := 92) rfl rfl rfl hl.1 rfl (Nat.le_of_ble_eq_true rfl) dX12_getLength_24 ⟨Nat.le_of_ble_eq_true rfl, Nat.le_of_ble_eq_true rfl⟩ (fun _ _ _ _ _ _ _ _ hp _ _ _ _ => hp.elim) (fun r111 g112 l113 a114 b115 H locs hp116 hw => ?_)
    obtain ⟨h117, h118, h119, rfl, h121, h122, h123, h124, h125⟩ := hp116
    have hr126 : hk_rg 0 255 (a114 0) := (hk_pE (P := hk_rg 0 255) (hk_pE (P := hk_rg 0 255) hi_a0rg (h28 0 rfl)) (h119 0 rfl))
    have ha127 : 0 ≤ (r111).toInt ∧ (r111).toInt ≤ 7 := (om274 ((r111).toInt) (((3 : Int32)).toInt) h121 (by decide))
    refine lv_iadd hx hb dX12_getLength_27 (jx_nm fun z128 hz128 => ?_)
    have xz128 : (z128).toInt = ((2 : Int32)).toInt + (r111).toInt := (hE_imp (hE_add hz128) (om280 (((2 : Int32)).toInt) ((r111).toInt) ha127 (by decide)))
    exact kr z128 g112 l113 a114 bk _ _ _ _ ⟨(hk_frT h26 (by decide) h117), (hk_frT h27 (by decide) h118), (hk_frT h28 (by decide) h119), rfl, (om281 ((z128).toInt) (((2 : Int32)).toInt) ((r111).toInt) xz128 ha127 (by decide)), (om209 ((g 49).toInt) ((g112 49).toInt) ((g21 49).toInt) h31 h122), (om282 ((g 51).toInt) ((g112 51).toInt) ((g21 51).toInt) h32 h123), (om202 ((g112 49).toInt) h124), (om206 ((g112 51).toInt) h125)⟩ hw dX12_getLength_28

set_option maxHeartbeats 4000000 in
set_option maxRecDepth 100000 in
/-- X12_getFar on (0,) -/
theorem jm_X12_getFar (l : Launch) (hlt : l.stackTraces = false) (D : va_G) (t3 : Nat × Nat × Nat) (cI cJ : ClassId) (ad : Nat → Nat) (g : Nat → Int32) (lg : Nat → Int64) (ar : Nat → Nat → Int32) (bk : Nat → Int64) (sz : Nat) (y1 : Int32) (hr0 : 2 ≤ (y1).toInt ∧ (y1).toInt ≤ 273) (hi_g49 : 0 ≤ (g 49).toInt ∧ (g 49).toInt ≤ 1500) (hi_g51 : 0 ≤ (g 51).toInt ∧ (g 51).toInt ≤ 15) (hi_g12 : 0 ≤ (g 12).toInt ∧ (g 12).toInt ≤ 1500) (hi_a0rg : hk_rg 0 255 (ar 0)) : JMl l yX12_getFar (Cond.code yX12_getFar cX12_getFar 8 (some .long) :: wwM) { frames := 5, cells := 0, slots := 0, locals := 111 } t3 D mw cI cJ ad [.ref (ad 0), .int y1] (mw cI cJ ad g lg ar bk) sz 0 0 (fun (r : Int64) g' lg' ar' bk' => hk_fr [49, 51] g g' ∧ hk_fr [3, 4] lg lg' ∧ hk_fr [16] ar ar' ∧ bk = bk' ∧ (1 ≤ (r).toInt) ∧ ((g 49).toInt ≤ (g' 49).toInt) ∧ ((1 ≤ (g 51).toInt → 1 ≤ (g' 51).toInt)) ∧ (0 ≤ (g' 49).toInt ∧ (g' 49).toInt ≤ 1500) ∧ (0 ≤ (g' 51).toInt ∧ (g' 51).toInt ≤ 15)) (fun g' lg' ar' bk' => False) := by
  refine jx_metl (cc := cX12_getFar) (maxL := 8) (ret := (some .long)) rfl (by decide) rfl (Nat.le_of_ble_eq_true rfl) ?_
  intro p e s m args below meth c ls Q A hx hb hml hown hts hA hZ hw hl hQ kr kt
  have hq : ∀ w ∈ wwM, w.before args s = true := fun w h => hts w (List.mem_cons_of_mem _ h)
  have hl : lv_has ls 8 [(0, .ref (ad 0)), (1, .int y1)] := hl
  refine lv_iload_n hx hb dX12_getFar_0 rfl (lv_at hl 1 rfl) ?_
  refine lv_iconst (v := 2) hx hb dX12_getFar_1 (by decide) ?_
  refine lv_isub hx hb dX12_getFar_2 (jx_nm fun z1 hz1 => ?_)
  have xz1 : (z1).toInt = (y1).toInt - ((2 : Int32)).toInt := (hE_imp (hE_sub hz1) (om283 ((y1).toInt) (((2 : Int32)).toInt) hr0 (by decide)))
  refine lv_iconst (v := 3) hx hb dX12_getFar_3 (by decide) ?_
  have B2 : ∀  (x3 : Int32) (ls : Array Slot) (H : Heap) (locs : List Loc), (0 ≤ (x3).toInt ∧ (x3).toInt ≤ 3) → hk_W D (jT cI cJ) A s H locs (mw cI cJ ad g lg ar bk) → lv_has ls 8 [(0, .ref (ad 0))] → W p l e { frames := 5, cells := 0, slots := 0, locals := 111 } s m args below meth c H locs 0 0 Q (F0 m 14 ls [.int x3]) := by
    intro x3 ls H locs hf_B2_0 hw hl
    refine lv_istore_n (lv' := [(2, .int x3), (0, .ref (ad 0))]) hx hb dX12_getFar_14 rfl hl (by decide) rfl (fun ls hl => ?_)
    refine lv_aload_n hx hb dX12_getFar_15 rfl (lv_at hl 1 rfl) ?_
    refine lv_sipush (v := 432) hx hb dX12_getFar_16 (by decide) ?_
    refine lv_bipush (v := 64) hx hb dX12_getFar_19 (by decide) ?_
    refine lv_iload_n hx hb dX12_getFar_21 rfl (lv_at hl 0 rfl) ?_
    refine lv_imul hx hb dX12_getFar_22 (jx_nm fun z4 hz4 => ?_)
    have xz4 : (z4).toInt = (x3).toInt * 64 := (hE_imp (hE_mul' 64 hz4 (by decide)) (om284 ((x3).toInt) hf_B2_0))
    refine lv_iadd hx hb dX12_getFar_23 (jx_nm fun z5 hz5 => ?_)
    have xz5 : (z5).toInt = ((432 : Int32)).toInt + (z4).toInt := (hE_imp (hE_add hz5) (om285 (((432 : Int32)).toInt) ((z4).toInt) ((x3).toInt) xz4 hf_B2_0 (by decide) (hE_rng (z4))))
    refine lv_bipush (v := 6) hx hb dX12_getFar_24 (by decide) ?_
    refine jx_Vi (As := [.int z5, .int 6]) (rest := []) ⟨hx, hb, hml, hown, hts⟩ hZ hw hA (jm_X12_getTree l hlt D t3 cI cJ ad g lg ar bk _ z5 6 (om286 ((z5).toInt) (((432 : Int32)).toInt) ((z4).toInt) ((x3).toInt) xz5 xz4 hf_B2_0 (by decide)) (om287 (((6 : Int32)).toInt) (by decide)) (om202 ((g 49).toInt) hi_g49) (om206 ((g 51).toInt) hi_g51) (om202 ((g 12).toInt) hi_g12) hi_a0rg) (cwV 2 hts (jx_gV wwM_good wM_212 wM_213 wM_214 wM_8 wM_215) rfl rfl rfl (by decide +kernel) ⟨Nat.le_of_ble_eq_true rfl, Nat.le_of_ble_eq_true rfl⟩) 0 (ci := 15) (T := TX12) (N := 92) rfl rfl rfl hl.1 rfl (Nat.le_of_ble_eq_true rfl) dX12_getFar_26 ⟨Nat.le_of_ble_eq_true rfl, Nat.le_of_ble_eq_true rfl⟩ (fun _ _ _ _ _ _ _ _ hp _ _ _ _ => hp.elim) (fun r10 g11 l12 a13 b14 H locs hp15 hw => ?_)
    obtain ⟨h16, h17, h18, rfl, h20, h21, h22, h23, h24⟩ := hp15
    have ha25 : 0 ≤ (r10).toInt ∧ (r10).toInt ≤ 63 := (om288 ((r10).toInt) (((6 : Int32)).toInt) h20 (by decide))
    refine lv_istore_n (lv' := [(3, .int r10), (2, .int x3), (0, .ref (ad 0))]) hx hb dX12_getFar_29 rfl hl (by decide) rfl (fun ls hl => ?_)
    refine lv_iload_n hx hb dX12_getFar_30 rfl (lv_at hl 0 rfl) ?_
    refine lv_iconst (v := 4) hx hb dX12_getFar_31 (by decide) ?_
    refine lv_icmp_ge (tgt := 40) hx hb dX12_getFar_32 (by decide) (fun cc26 => ?_) (fun cc26 => ?_)
    · refine lv_iload_n hx hb dX12_getFar_40 rfl (lv_at hl 0 rfl) ?_
      refine lv_iconst (v := 2) hx hb dX12_getFar_41 (by decide) ?_
      refine lv_idiv hx hb dX12_getFar_42 (by decide) (jx_nm fun z27 hz27 => ?_)
      refine lv_iconst (v := 1) hx hb dX12_getFar_43 (by decide) ?_
      refine lv_isub hx hb dX12_getFar_44 (jx_nm fun z28 hz28 => ?_)
      have xz28 : (z28).toInt = (z27).toInt - ((1 : Int32)).toInt := (hE_imp (hE_sub hz28) (om290 ((z27).toInt) (((1 : Int32)).toInt) ((r10).toInt) (((4 : Int32)).toInt) ((hE_div 2 hz27 (by decide) (by decide)).1 (om289 ((r10).toInt) (((4 : Int32)).toInt) (hE_le cc26) (by decide))) ha25 (hE_le cc26) (by decide) (by decide)))
      refine lv_istore (lv' := [(4, .int z28), (3, .int r10), (2, .int x3), (0, .ref (ad 0))]) hx hb dX12_getFar_45 hl (by decide) rfl (fun ls hl => ?_)
      refine lv_ldc2 (v := 2) hx hb hown (hq _ wM_216) dX12_getFar_47 ?_
      refine lv_iload_n hx hb dX12_getFar_50 rfl (lv_at hl 1 rfl) ?_
      refine lv_iconst (v := 2) hx hb dX12_getFar_51 (by decide) ?_
      refine lv_irem hx hb dX12_getFar_52 (by decide) (jx_nm fun z29 hz29 => ?_)
      refine lv_i2l hx hb dX12_getFar_53 rfl (jx_nl fun z30 hz30 => ?_)
      refine lv_ladd hx hb dX12_getFar_54 (jx_nl fun z31 hz31 => ?_)
      have xz31 : (z31).toInt = ((2 : Int64)).toInt + (z30).toInt := (hE_impL (hE_addL hz31) (om291 (((2 : Int64)).toInt) ((z30).toInt) ((z29).toInt) ((r10).toInt) (hE_i2l hz30) ((hE_rem 2 hz29 (by decide) (by decide)).1 (om289 ((r10).toInt) (((4 : Int32)).toInt) (hE_le cc26) (by decide))) (by decide)))
      refine lv_iload hx hb dX12_getFar_55 (lv_at hl 0 rfl) ?_
      refine lv_lshl hx hb dX12_getFar_57 rfl (jx_nl fun z32 hz32 => ?_)
      have ha33 : 2 ≤ (z32).toInt ∧ (z32).toInt ≤ 3221225472 := (om292 ((z32).toInt) ((z31).toInt) ((z28).toInt) ((z27).toInt) (((1 : Int32)).toInt) (((2 : Int64)).toInt) ((z30).toInt) ((r10).toInt) ((z29).toInt) (((4 : Int32)).toInt) (hE_lshlv hz32) xz28 xz31 ((hE_div 2 hz27 (by decide) (by decide)).1 (om289 ((r10).toInt) (((4 : Int32)).toInt) (hE_le cc26) (by decide))) (hE_i2l hz30) ha25 (hE_le cc26) ((hE_rem 2 hz29 (by decide) (by decide)).1 (om289 ((r10).toInt) (((4 : Int32)).toInt) (hE_le cc26) (by decide))) (by decide) (by decide) (by decide))
      refine lv_lstore (lv' := [(5, .long z32), (4, .int z28), (3, .int r10), (2, .int x3), (0, .ref (ad 0))]) hx hb dX12_getFar_58 hl (by decide) rfl (fun ls hl => ?_)
      refine lv_iload_n hx hb dX12_getFar_60 rfl (lv_at hl 2 rfl) ?_
      refine lv_bipush (v := 14) hx hb dX12_getFar_61 (by decide) ?_
      refine lv_icmp_ge (tgt := 89) hx hb dX12_getFar_63 (by decide) (fun cc34 => ?_) (fun cc34 => ?_)
      · refine lv_iload hx hb dX12_getFar_89 (lv_at hl 1 rfl) ?_
        refine lv_iconst (v := 1) hx hb dX12_getFar_91 (by decide) ?_
        refine lv_isub hx hb dX12_getFar_92 (jx_nm fun z35 hz35 => ?_)
        have xz35 : (z35).toInt = (z28).toInt - ((1 : Int32)).toInt := (hE_imp (hE_sub hz35) (om293 ((z28).toInt) (((1 : Int32)).toInt) ((z27).toInt) ((r10).toInt) (((14 : Int32)).toInt) xz28 ((hE_div 2 hz27 (by decide) (by decide)).1 (om289 ((r10).toInt) (((4 : Int32)).toInt) (hE_le cc26) (by decide))) ha25 (hE_le cc34) (by decide) (by decide)))
        refine lv_istore (lv' := [(7, .int z35), (5, .long z32), (4, .int z28), (3, .int r10), (2, .int x3), (0, .ref (ad 0))]) hx hb dX12_getFar_93 hl (by decide) rfl (fun ls hl => ?_)
        have B36 : ∀ (k41 : Nat) (x37 : Int64) (x38 : Int32) (g39 : Nat → Int32) (l40 : Nat → Int64) (ls : Array Slot) (H : Heap) (locs : List Loc), ((x38).toInt + 2147483649 ≤ (k41 : Int)) → (2 ≤ (x37).toInt ∧ (x37).toInt ≤ 3221225472 + (30 - (x38).toInt) * 536870912) → ((x38).toInt ≤ 29) → ((g 49).toInt ≤ (g39 49).toInt) → (1 ≤ (g 51).toInt → 1 ≤ (g39 51).toInt) → (0 ≤ (g39 49).toInt ∧ (g39 49).toInt ≤ 1500) → (0 ≤ (g39 51).toInt ∧ (g39 51).toInt ≤ 15) → (hk_fr [49, 51] g11 g39) → (hk_fr [3, 4] l12 l40) → hk_W D (jT cI cJ) A s H locs (mw cI cJ ad g39 l40 a13 bk) → lv_has ls 8 [(0, .ref (ad 0)), (5, .long x37), (7, .int x38)] → W p l e { frames := 5, cells := 0, slots := 0, locals := 111 } s m args below meth c H locs 0 0 Q (F0 m 95 ls []) := by
          intro k41
          induction k41 with
          | zero =>
            intro x37 x38 g39 l40 ls H locs hrk_B36 hf_B36_0 hf_B36_1 hf_B36_2 hf_B36_3 hf_B36_4 hf_B36_5 hfr_g39 hfr_l40 hw hl
            exact False.elim (hk_no0 (0 * (x38).toInt) (om81 ((x38).toInt) hrk_B36 (hE_rng (x38))) (by simp))
          | succ k41 ih_B36 =>
            intro x37 x38 g39 l40 ls H locs hrk_B36 hf_B36_0 hf_B36_1 hf_B36_2 hf_B36_3 hf_B36_4 hf_B36_5 hfr_g39 hfr_l40 hw hl
            have hrk_B36 := hk_rk hrk_B36
            refine lv_iload hx hb dX12_getFar_95 (lv_at hl 2 rfl) ?_
            refine lv_iconst (v := 4) hx hb dX12_getFar_97 (by decide) ?_
            refine lv_icmp_lt (tgt := 120) hx hb dX12_getFar_98 (by decide) (fun cc42 => ?_) (fun cc42 => ?_)
            · refine lv_lload hx hb dX12_getFar_120 (lv_at hl 1 rfl) ?_
              refine lv_aload_n hx hb dX12_getFar_122 rfl (lv_at hl 0 rfl) ?_
              refine lv_sipush (v := 1008) hx hb dX12_getFar_123 (by decide) ?_
              refine lv_iconst (v := 4) hx hb dX12_getFar_126 (by decide) ?_
              have e_g39_12 : g39 12 = (g 12) := ((hfr_g39 12 rfl)).trans (h16 12 rfl)
              refine jx_Vi (As := [.int 1008, .int 4]) (rest := [.long x37]) ⟨hx, hb, hml, hown, hts⟩ hZ hw hA (jm_X12_getTurned l hlt D t3 cI cJ ad g39 l40 a13 bk _ 1008 4 (om294 (((1008 : Int32)).toInt) (by decide)) (om295 (((4 : Int32)).toInt) (by decide)) (om202 ((g39 49).toInt) hf_B36_4) (om206 ((g39 51).toInt) hf_B36_5) (om21 ((g39 12).toInt) ((g 12).toInt) (congrArg Int32.toInt e_g39_12) hi_g12) (hk_pE (P := hk_rg 0 255) hi_a0rg (h18 0 rfl))) (cwV 2 hts (jx_gV wwM_good wM_217 wM_218 wM_219 wM_8 wM_220) rfl rfl rfl (by decide +kernel) ⟨Nat.le_of_ble_eq_true rfl, Nat.le_of_ble_eq_true rfl⟩) 0 (ci := 15) (T := TX12) (N := 92) rfl rfl rfl hl.1 rfl (Nat.le_of_ble_eq_true rfl) dX12_getFar_127 ⟨Nat.le_of_ble_eq_true rfl, Nat.le_of_ble_eq_true rfl⟩ (fun _ _ _ _ _ _ _ _ hp _ _ _ _ => hp.elim) (fun r47 g48 l49 a50 b51 H locs hp52 hw => ?_)
              obtain ⟨h53, h54, h55, rfl, h57, h58, h59, h60, h61⟩ := hp52
              have hr62 : hk_rg 0 255 (a50 0) := (hk_pE (P := hk_rg 0 255) (hk_pE (P := hk_rg 0 255) hi_a0rg (h18 0 rfl)) (h55 0 rfl))
              refine lv_i2l hx hb dX12_getFar_130 rfl (jx_nl fun z63 hz63 => ?_)
              refine lv_ladd hx hb dX12_getFar_131 (jx_nl fun z64 hz64 => ?_)
              have xz64 : (z64).toInt = (x37).toInt + (z63).toInt := (hE_impL (hE_addL hz64) (om296 ((x37).toInt) ((z63).toInt) ((x38).toInt) ((r47).toInt) hf_B36_0 (hE_i2l hz63) h57 (hE_rng (x38))))
              refine lv_lconst (v := 1) hx hb dX12_getFar_132 (by decide) ?_
              refine lv_ladd hx hb dX12_getFar_133 (jx_nl fun z65 hz65 => ?_)
              have xz65 : (z65).toInt = (z64).toInt + ((1 : Int64)).toInt := (hE_impL (hE_addL hz65) (om297 ((z64).toInt) (((1 : Int64)).toInt) ((x37).toInt) ((z63).toInt) ((x38).toInt) ((r47).toInt) xz64 hf_B36_0 (hE_i2l hz63) h57 (by decide) (hE_rng (x38))))
              exact kr z65 g48 l49 a50 bk _ _ _ _ ⟨(hk_frT (hk_frT h16 (by decide) hfr_g39) (by decide) h53), (hk_frT (hk_frT h17 (by decide) hfr_l40) (by decide) h54), (hk_frT h18 (by decide) h55), rfl, (om298 ((z65).toInt) ((z64).toInt) (((1 : Int64)).toInt) ((x37).toInt) ((z63).toInt) ((x38).toInt) ((r47).toInt) xz65 xz64 hf_B36_0 (hE_i2l hz63) h57 (by decide)), (om209 ((g 49).toInt) ((g48 49).toInt) ((g39 49).toInt) hf_B36_2 h58), (om299 ((g 51).toInt) ((g48 51).toInt) ((g39 51).toInt) hf_B36_3 h59), (om202 ((g48 49).toInt) h60), (om206 ((g48 51).toInt) h61)⟩ hw dX12_getFar_134
            · refine lv_lload hx hb dX12_getFar_101 (lv_at hl 1 rfl) ?_
              refine lv_aload_n hx hb dX12_getFar_103 rfl (lv_at hl 0 rfl) ?_
              have e_g39_12 : g39 12 = (g 12) := ((hfr_g39 12 rfl)).trans (h16 12 rfl)
              refine jx_Vi (As := []) (rest := [.long x37]) ⟨hx, hb, hml, hown, hts⟩ hZ hw hA (jm_X12_getPlain l hlt D t3 cI cJ ad g39 l40 a13 bk _ (om202 ((g39 49).toInt) hf_B36_4) (om206 ((g39 51).toInt) hf_B36_5) (om21 ((g39 12).toInt) ((g 12).toInt) (congrArg Int32.toInt e_g39_12) hi_g12) (hk_pE (P := hk_rg 0 255) hi_a0rg (h18 0 rfl))) (cwV 0 hts (jx_gV wwM_good wM_221 wM_222 wM_223 wM_8 wM_224) rfl rfl rfl (by decide +kernel) ⟨Nat.le_of_ble_eq_true rfl, Nat.le_of_ble_eq_true rfl⟩) 0 (ci := 15) (T := TX12) (N := 92) rfl rfl rfl hl.1 rfl (Nat.le_of_ble_eq_true rfl) dX12_getFar_104 ⟨Nat.le_of_ble_eq_true rfl, Nat.le_of_ble_eq_true rfl⟩ (fun _ _ _ _ _ _ _ _ hp _ _ _ _ => hp.elim) (fun r70 g71 l72 a73 b74 H locs hp75 hw => ?_)
              obtain ⟨h76, h77, rfl, rfl, h80, h81, h82, h83, h84⟩ := hp75
              refine lv_i2l hx hb dX12_getFar_107 rfl (jx_nl fun z85 hz85 => ?_)
              refine lv_iload hx hb dX12_getFar_108 (lv_at hl 2 rfl) ?_
              refine lv_lshl hx hb dX12_getFar_110 rfl (jx_nl fun z86 hz86 => ?_)
              have ha87 : 0 ≤ (z86).toInt ∧ (z86).toInt ≤ 536870912 := (om300 ((z86).toInt) ((z85).toInt) ((x38).toInt) (((4 : Int32)).toInt) ((r70).toInt) (hE_lshlb hz86) hf_B36_1 (hE_nlt cc42) (hE_i2l hz85) h80 (by decide))
              refine lv_ladd hx hb dX12_getFar_111 (jx_nl fun z88 hz88 => ?_)
              have xz88 : (z88).toInt = (x37).toInt + (z86).toInt := (hE_impL (hE_addL hz88) (om301 ((x37).toInt) ((z86).toInt) ((x38).toInt) (((4 : Int32)).toInt) hf_B36_0 ha87 (hE_nlt cc42) (hE_rng (x38)) (by decide)))
              refine lv_lstore (lv' := [(5, .long z88), (0, .ref (ad 0)), (7, .int x38)]) hx hb dX12_getFar_112 hl (by decide) rfl (fun ls hl => ?_)
              obtain ⟨z89, hz89⟩ : ∃ z : Int32, x38 + (-1) = z := ⟨_, rfl⟩
              refine lv_iinc (v := z89) (lv' := [(7, .int z89), (5, .long z88), (0, .ref (ad 0))]) hx hb dX12_getFar_114 hl (k := 2) rfl hz89 (by decide) rfl (fun ls hl => ?_)
              have xz89 : (z89).toInt = (x38).toInt + (((-1) : Int32)).toInt := (hE_imp (hE_add hz89) (om302 ((x38).toInt) ((((-1) : Int32)).toInt) (((4 : Int32)).toInt) hf_B36_1 (hE_nlt cc42) (by decide) (by decide)))
              refine lv_goto (tgt := 95) hx hb dX12_getFar_117 (by decide) ?_
              exact ih_B36 z88 z89 g71 l72 ls _ _ (om113 ((z89).toInt) (k41 : Int) ((x38).toInt) ((((-1) : Int32)).toInt) hrk_B36 xz89 (by decide)) (om303 ((z88).toInt) ((z89).toInt) ((x37).toInt) ((z86).toInt) ((x38).toInt) ((((-1) : Int32)).toInt) (k41 : Int) (((4 : Int32)).toInt) xz88 xz89 hf_B36_0 hf_B36_1 hrk_B36 (hE_nlt cc42) ha87 (hE_rngL (z88)) (hE_rng (z89)) (hE_rngL (x37)) (hE_rngL (z86)) (hE_rng (x38)) (by decide)) (om304 ((z89).toInt) ((x38).toInt) ((((-1) : Int32)).toInt) xz89 hf_B36_1 (by decide)) (om209 ((g 49).toInt) ((g71 49).toInt) ((g39 49).toInt) hf_B36_2 h81) (om239 ((g 51).toInt) ((g71 51).toInt) ((g39 51).toInt) hf_B36_3 h82) (om202 ((g71 49).toInt) h83) (om206 ((g71 51).toInt) h84) (hk_frT hfr_g39 (by decide) h76) (hk_frT hfr_l40 (by decide) h77) hw (lv_sub hl [2, 1, 0] rfl)
        exact B36 ((z35).toInt + 2147483649).toNat z32 z35 g11 l12 ls _ _ (Int.self_le_toNat _) (om305 ((z32).toInt) ((z35).toInt) ((z28).toInt) (((1 : Int32)).toInt) ((z27).toInt) ((r10).toInt) (((4 : Int32)).toInt) ((z29).toInt) (((14 : Int32)).toInt) ha33 xz35 xz28 ((hE_div 2 hz27 (by decide) (by decide)).1 (om289 ((r10).toInt) (((4 : Int32)).toInt) (hE_le cc26) (by decide))) ha25 (hE_le cc26) ((hE_rem 2 hz29 (by decide) (by decide)).1 (om289 ((r10).toInt) (((4 : Int32)).toInt) (hE_le cc26) (by decide))) (hE_le cc34) (hE_rngL (z32)) (hE_rng (z35)) (hE_rng (z28)) (by decide) (hE_rng (z27)) (hE_rng (r10))) (om306 ((z35).toInt) ((z28).toInt) (((1 : Int32)).toInt) ((z27).toInt) ((r10).toInt) xz35 xz28 ((hE_div 2 hz27 (by decide) (by decide)).1 (om289 ((r10).toInt) (((4 : Int32)).toInt) (hE_le cc26) (by decide))) ha25 (by decide)) (om204 ((g 49).toInt) ((g11 49).toInt) h21) (om307 ((g 51).toInt) ((g11 51).toInt) h22) (om202 ((g11 49).toInt) h23) (om206 ((g11 51).toInt) h24) hk_fr0 hk_fr0 hw (lv_sub hl [5, 1, 0] rfl)
      · refine lv_lload hx hb dX12_getFar_66 (lv_at hl 0 rfl) ?_
        refine lv_aload_n hx hb dX12_getFar_68 rfl (lv_at hl 4 rfl) ?_
        refine lv_sipush (v := 688) hx hb dX12_getFar_69 (by decide) ?_
        refine lv_bipush (v := 32) hx hb dX12_getFar_72 (by decide) ?_
        refine lv_iload_n hx hb dX12_getFar_74 rfl (lv_at hl 2 rfl) ?_
        refine lv_iconst (v := 4) hx hb dX12_getFar_75 (by decide) ?_
        refine lv_isub hx hb dX12_getFar_76 (jx_nm fun z90 hz90 => ?_)
        have xz90 : (z90).toInt = (r10).toInt - ((4 : Int32)).toInt := (hE_imp (hE_sub hz90) (om308 ((r10).toInt) (((4 : Int32)).toInt) (((14 : Int32)).toInt) (hE_le cc26) (hE_nle cc34) (by decide) (by decide)))
        refine lv_imul hx hb dX12_getFar_77 (jx_nm fun z91 hz91 => ?_)
        have xz91 : (z91).toInt = (z90).toInt * 32 := (hE_imp (hE_mul' 32 hz91 (by decide)) (om309 ((z90).toInt) ((r10).toInt) (((4 : Int32)).toInt) (((14 : Int32)).toInt) xz90 (hE_le cc26) (hE_nle cc34) (by decide) (by decide)))
        refine lv_iadd hx hb dX12_getFar_78 (jx_nm fun z92 hz92 => ?_)
        have xz92 : (z92).toInt = ((688 : Int32)).toInt + (z91).toInt := (hE_imp (hE_add hz92) (om310 (((688 : Int32)).toInt) ((z91).toInt) ((z90).toInt) ((r10).toInt) (((4 : Int32)).toInt) (((14 : Int32)).toInt) xz91 xz90 (hE_le cc26) (hE_nle cc34) (by decide) (hE_rng (z91)) (by decide) (by decide)))
        refine lv_iload hx hb dX12_getFar_79 (lv_at hl 1 rfl) ?_
        have e_g11_12 : g11 12 = (g 12) := (h16 12 rfl)
        refine jx_Vi (As := [.int z92, .int z28]) (rest := [.long z32]) ⟨hx, hb, hml, hown, hts⟩ hZ hw hA (jm_X12_getTurned l hlt D t3 cI cJ ad g11 l12 a13 bk _ z92 z28 (om311 ((z92).toInt) (((688 : Int32)).toInt) ((z91).toInt) ((z90).toInt) ((r10).toInt) (((4 : Int32)).toInt) (((14 : Int32)).toInt) xz92 xz91 xz90 (hE_le cc26) (hE_nle cc34) (by decide) (by decide) (by decide)) (om312 ((z28).toInt) ((z27).toInt) (((1 : Int32)).toInt) ((r10).toInt) (((4 : Int32)).toInt) (((14 : Int32)).toInt) xz28 ((hE_div 2 hz27 (by decide) (by decide)).1 (om289 ((r10).toInt) (((4 : Int32)).toInt) (hE_le cc26) (by decide))) (hE_le cc26) (hE_nle cc34) (by decide) (by decide) (by decide)) (om202 ((g11 49).toInt) h23) (om206 ((g11 51).toInt) h24) (om21 ((g11 12).toInt) ((g 12).toInt) (congrArg Int32.toInt e_g11_12) hi_g12) (hk_pE (P := hk_rg 0 255) hi_a0rg (h18 0 rfl))) (cwV 2 hts (jx_gV wwM_good wM_217 wM_218 wM_219 wM_8 wM_220) rfl rfl rfl (by decide +kernel) ⟨Nat.le_of_ble_eq_true rfl, Nat.le_of_ble_eq_true rfl⟩) 0 (ci := 15) (T := TX12) (N := 92) rfl rfl rfl hl.1 rfl (Nat.le_of_ble_eq_true rfl) dX12_getFar_81 ⟨Nat.le_of_ble_eq_true rfl, Nat.le_of_ble_eq_true rfl⟩ (fun _ _ _ _ _ _ _ _ hp _ _ _ _ => hp.elim) (fun r97 g98 l99 a100 b101 H locs hp102 hw => ?_)
        obtain ⟨h103, h104, h105, rfl, h107, h108, h109, h110, h111⟩ := hp102
        have hr112 : hk_rg 0 255 (a100 0) := (hk_pE (P := hk_rg 0 255) (hk_pE (P := hk_rg 0 255) hi_a0rg (h18 0 rfl)) (h105 0 rfl))
        refine lv_i2l hx hb dX12_getFar_84 rfl (jx_nl fun z113 hz113 => ?_)
        refine lv_ladd hx hb dX12_getFar_85 (jx_nl fun z114 hz114 => ?_)
        have xz114 : (z114).toInt = (z32).toInt + (z113).toInt := (hE_impL (hE_addL hz114) (om313 ((z32).toInt) ((z113).toInt) ((r97).toInt) ha33 (hE_i2l hz113) h107))
        refine lv_lconst (v := 1) hx hb dX12_getFar_86 (by decide) ?_
        refine lv_ladd hx hb dX12_getFar_87 (jx_nl fun z115 hz115 => ?_)
        have xz115 : (z115).toInt = (z114).toInt + ((1 : Int64)).toInt := (hE_impL (hE_addL hz115) (om314 ((z114).toInt) (((1 : Int64)).toInt) ((z32).toInt) ((z113).toInt) ((r97).toInt) xz114 ha33 (hE_i2l hz113) h107 (by decide)))
        exact kr z115 g98 l99 a100 bk _ _ _ _ ⟨(hk_frT h16 (by decide) h103), (hk_frT h17 (by decide) h104), (hk_frT h18 (by decide) h105), rfl, (om315 ((z115).toInt) ((z114).toInt) (((1 : Int64)).toInt) ((z32).toInt) ((z113).toInt) ((r97).toInt) xz115 xz114 ha33 (hE_i2l hz113) h107 (by decide)), (om209 ((g 49).toInt) ((g98 49).toInt) ((g11 49).toInt) h21 h108), (om282 ((g 51).toInt) ((g98 51).toInt) ((g11 51).toInt) h22 h109), (om202 ((g98 49).toInt) h110), (om206 ((g98 51).toInt) h111)⟩ hw dX12_getFar_88
    · refine lv_iload_n hx hb dX12_getFar_35 rfl (lv_at hl 0 rfl) ?_
      refine lv_i2l hx hb dX12_getFar_36 rfl (jx_nl fun z116 hz116 => ?_)
      refine lv_lconst (v := 1) hx hb dX12_getFar_37 (by decide) ?_
      refine lv_ladd hx hb dX12_getFar_38 (jx_nl fun z117 hz117 => ?_)
      have xz117 : (z117).toInt = (z116).toInt + ((1 : Int64)).toInt := (hE_impL (hE_addL hz117) (om316 ((z116).toInt) (((1 : Int64)).toInt) ((r10).toInt) (((4 : Int32)).toInt) (hE_i2l hz116) ha25 (hE_nle cc26) (by decide) (by decide)))
      exact kr z117 g11 l12 a13 bk _ _ _ _ ⟨h16, h17, h18, rfl, (om317 ((z117).toInt) ((z116).toInt) (((1 : Int64)).toInt) ((r10).toInt) xz117 (hE_i2l hz116) ha25 (by decide)), (om204 ((g 49).toInt) ((g11 49).toInt) h21), (om318 ((g 51).toInt) ((g11 51).toInt) h22), (om202 ((g11 49).toInt) h23), (om206 ((g11 51).toInt) h24)⟩ hw dX12_getFar_39
  refine lv_icmp_ge (tgt := 13) hx hb dX12_getFar_4 (by decide) (fun cc118 => ?_) (fun cc118 => ?_)
  · refine lv_iconst (v := 3) hx hb dX12_getFar_13 (by decide) ?_
    exact B2 3 ls _ _ (om319 (((3 : Int32)).toInt) (by decide)) hw (lv_sub hl [0] rfl)
  · refine lv_iload_n hx hb dX12_getFar_7 rfl (lv_at hl 1 rfl) ?_
    refine lv_iconst (v := 2) hx hb dX12_getFar_8 (by decide) ?_
    refine lv_isub hx hb dX12_getFar_9 (jx_nm fun z119 hz119 => ?_)
    have xz119 : (z119).toInt = (y1).toInt - ((2 : Int32)).toInt := (hE_imp (hE_sub hz119) (om320 ((y1).toInt) (((2 : Int32)).toInt) ((z1).toInt) (((3 : Int32)).toInt) hr0 xz1 (hE_nle cc118) (by decide) (by decide)))
    refine lv_goto (tgt := 14) hx hb dX12_getFar_10 (by decide) ?_
    exact B2 z119 ls _ _ (om321 ((z119).toInt) ((y1).toInt) (((2 : Int32)).toInt) ((z1).toInt) (((3 : Int32)).toInt) xz119 hr0 xz1 (hE_nle cc118) (by decide) (by decide)) hw (lv_sub hl [0] rfl)
