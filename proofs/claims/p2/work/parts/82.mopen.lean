/-! 82.mopen -/
theorem om322 (v0 : Int) (v1 : Int) (h0 : 0 ≤ v0 ∧ v0 ≤ 3000) (h1 : 0 ≤ v1 ∧ v1 ≤ 3000) : -2147483648 ≤ v0 + v1 ∧ v0 + v1 ≤ 2147483647 := by omega
theorem om323 (v0 : Int) (v1 : Int) (v2 : Int) (v3 : Int) (h0 : 1 ≤ v1 ∧ v1 ≤ 300) (h1 : v0 = v2 + v3) (h2 : 0 ≤ v2 ∧ v2 ≤ 3000) (h3 : 0 ≤ v3 ∧ v3 ≤ 3000) : -2147483648 ≤ v0 + v1 ∧ v0 + v1 ≤ 2147483647 := by omega
theorem om324 (v0 : Int) (v1 : Int) (v2 : Int) (v3 : Int) (v4 : Int) (v5 : Int) (v6 : Int) (h0 : v4 = v1 + v2) (h1 : v5 = v4 + v3) (h2 : v5 ≤ v6) (h3 : v6 = 3000) : v0 = 0 → v1 + v2 + v3 ≤ 3000 := by omega
theorem om325 (v0 : Int) (v1 : Int) (v2 : Int) (v3 : Int) (h0 : v0 = 1) : v0 = 0 → v1 + v2 + v3 ≤ 3000 := by omega
theorem om326 (v0 : Int) (v1 : Int) (h0 : v0 + v1 ≤ 4) : v0 + v1 ≤ 4 := by omega
theorem om327 (v0 : Int) (h0 : v0 ≤ 7 ∧ -1 ≤ v0) (h1 : v0 + 2147483649 ≤ 0) : (0 * v0) ≤ -1 := by omega
theorem om328 (v0 : Int) (h0 : v0 = 1) : 1 ≤ v0 ∧ v0 ≤ 300 := by omega
theorem om329 (v0 : Int) (v1 : Int) (h0 : 0 ≤ v0 ∧ v0 ≤ 3000) (h1 : v0 + v1 ≤ 3000) (h2 : 0 ≤ v1 ∧ v1 ≤ 3000) : -2147483648 ≤ v0 + v1 ∧ v0 + v1 ≤ 2147483647 := by omega
theorem om330 (v0 : Int) (v1 : Int) (v2 : Int) (v3 : Int) (v4 : Int) (h0 : v0 = v1) (h1 : 0 ≤ v1 ∧ v1 ≤ v2 + v3 + v4) (h2 : v4 = 0) (h3 : v2 + v3 ≤ 3000) : 0 ≤ v0 ∧ v0 ≤ 100000 := by omega
theorem om331 (v0 : Int) (v1 : Int) (v2 : Int) (v3 : Int) (v4 : Int) (v5 : Int) (v6 : Int) (h0 : 0 ≤ v0 ∧ v0 ≤ 3000) (h1 : v1 = v0) (h2 : 0 ≤ v2 ∧ v2 ≤ 3000) (h3 : v3 = v2) (h4 : v4 = 0 → v3 + v1 + v5 ≤ 3000) (h5 : v4 = v6) (h6 : v5 = 1) (h7 : v6 = 0) : 0 ≤ v0 ∧ v0 < (3000 : Nat) := by omega
theorem om332 (v0 : Int) (v1 : Int) (h0 : 0 ≤ v0 ∧ v0 ≤ 3000) (h1 : v1 = 1) : -2147483648 ≤ v0 + v1 ∧ v0 + v1 ≤ 2147483647 := by omega
theorem om333 (v0 : Int) (v1 : Int) (h0 : v0 = v1) (h1 : 0 ≤ v1 ∧ v1 ≤ 11) : 0 ≤ v0 ∧ v0 ≤ 11 := by omega
theorem om334 (v0 : Int) (v1 : Int) (v2 : Int) (h0 : 1 ≤ v0 → 1 ≤ v2) (h1 : v1 = v2) : (1 ≤ v0 → 1 ≤ v1) := by omega
theorem om335 (v0 : Int) (v1 : Int) (v2 : Int) (v3 : Int) (v4 : Int) (h0 : v3 = v0 + v4) (h1 : v1 = v3) (h2 : v4 = 1) : v0 < v1 ∨ 1 ≤ v2 := by omega
theorem om336 (v0 : Int) (v1 : Int) (h0 : v0 = v1) (h1 : v1 = 0) (h2 : 0 ≤ v1 ∧ v1 ≤ 1) : v0 = 0 := by omega
theorem om337 (v0 : Int) (v1 : Int) (v2 : Int) (v3 : Int) (v4 : Int) (v5 : Int) (v6 : Int) (v7 : Int) (v8 : Int) (v9 : Int) (h0 : v1 = v2) (h1 : v0 = v3) (h2 : v4 = v3) (h3 : v2 = v5 + v6) (h4 : v7 = v5) (h5 : v8 = 0 → v4 + v7 + v6 ≤ 3000) (h6 : v8 = v9) (h7 : v9 = 0) : v0 + v1 ≤ 3000 := by omega
theorem om338 (v0 : Int) (v1 : Int) (v2 : Int) (v3 : Int) (v4 : Int) (v5 : Int) (v6 : Int) (v7 : Int) (v8 : Int) (v9 : Int) (v10 : Int) (v11 : Int) (h0 : v2 = v4) (h1 : v3 = v5) (h2 : v1 = v6) (h3 : v0 = v7) (h4 : 0 ≤ v8 ∧ v8 ≤ v6 + v9 + v5) (h5 : v7 = v10 + 1) (h6 : v4 = v9 + v11) (h7 : v10 = v8) (h8 : v10 = v8) (h9 : v11 = 1) : 0 ≤ v0 ∧ v0 ≤ v1 + v2 + v3 := by omega
theorem om339 (v0 : Int) (v1 : Int) (v2 : Int) (v3 : Int) (v4 : Int) (v5 : Int) (v6 : Int) (v7 : Int) (v8 : Int) (h0 : v0 = v1) (h1 : v1 = v2 + v3) (h2 : 0 ≤ v2 ∧ v2 ≤ 3000) (h3 : v4 = v2) (h4 : v5 = 0 → v6 + v4 + v3 ≤ 3000) (h5 : 0 ≤ v7 ∧ v7 ≤ 3000) (h6 : v6 = v7) (h7 : v5 = v8) (h8 : v3 = 1) (h9 : v8 = 0) : 0 ≤ v0 ∧ v0 ≤ 3000 := by omega
theorem om340 (v0 : Int) (h0 : v0 ≤ 6) (h1 : 0 ≤ v0 ∧ v0 ≤ 11) : 0 ≤ v0 ∧ v0 ≤ 11 := by omega
theorem om341 (v0 : Int) (h0 : v0 = 13) : 1 ≤ v0 ∧ v0 ≤ 15 := by omega
theorem om342 (v0 : Int) (v1 : Int) (h0 : 1 ≤ v1) : (1 ≤ v0 → 1 ≤ v1) := by omega
theorem om343 (v0 : Int) (v1 : Int) (v2 : Int) (h0 : 1 ≤ v2) : v0 < v1 ∨ 1 ≤ v2 := by omega
theorem om344 (v0 : Int) (v1 : Int) (v2 : Int) (v3 : Int) (h0 : v1 = v2) (h1 : v0 = v3) (h2 : v3 + v2 ≤ 3000) : v0 + v1 ≤ 3000 := by omega
theorem om345 (v0 : Int) (v1 : Int) (v2 : Int) (v3 : Int) (v4 : Int) (v5 : Int) (v6 : Int) (v7 : Int) (h0 : v2 = v4) (h1 : v3 = v5) (h2 : v1 = v6) (h3 : v0 = v7) (h4 : 0 ≤ v7 ∧ v7 ≤ v6 + v4 + v5) : 0 ≤ v0 ∧ v0 ≤ v1 + v2 + v3 := by omega
theorem om346 (v0 : Int) (v1 : Int) (v2 : Int) (h0 : v2 < v1) (h1 : v2 = 0) : (1 ≤ v0 → 1 ≤ v1) := by omega
theorem om347 (v0 : Int) (v1 : Int) (v2 : Int) (v3 : Int) (h0 : v3 < v2) (h1 : v3 = 0) : v0 < v1 ∨ 1 ≤ v2 := by omega
theorem om348 (v0 : Int) (h0 : 0 ≤ v0 ∧ v0 < 14344) : 0 ≤ v0 ∧ v0 < 14344 := by omega
theorem om349 (v0 : Int) (v1 : Int) (v2 : Int) (h0 : 0 ≤ v1 ∧ v1 ≤ 1) (h1 : v0 = v2 * 2) (h2 : 1 ≤ v2 ∧ v2 ≤ 511) (h3 : -2147483648 ≤ v0 ∧ v0 ≤ 2147483647) : -2147483648 ≤ v0 + v1 ∧ v0 + v1 ≤ 2147483647 := by omega
theorem om350 (v0 : Int) (v1 : Int) (v2 : Int) (h0 : v0 ≤ 7 ∧ -1 ≤ v0) (h1 : v2 ≤ v0) (h2 : v1 = (-1)) (h3 : v2 = 0) : -2147483648 ≤ v0 + v1 ∧ v0 + v1 ≤ 2147483647 := by omega
theorem om351 (v0 : Int) (v1 : Int) (v2 : Int) (v3 : Int) (h0 : v0 = v1 + v2) (h1 : v1 ≤ 7 ∧ -1 ≤ v1) (h2 : v3 ≤ v1) (h3 : v2 = (-1)) (h4 : v3 = 0) : v0 ≤ 7 ∧ -1 ≤ v0 := by omega
theorem om352 (v0 : Int) (v1 : Int) (v2 : Int) (v3 : Int) (v4 : Int) (v5 : Int) (h0 : v0 = v1 + v2) (h1 : 0 ≤ v2 ∧ v2 ≤ 1) (h2 : v1 = v3 * 2) (h3 : 1 ≤ v3 ∧ v3 ≤ 511) (h4 : (7 - v4 = 0 → 1 ≤ v3 ∧ v3 ≤ 1) ∧ (7 - v4 = 1 → 2 ≤ v3 ∧ v3 ≤ 3) ∧ (7 - v4 = 2 → 4 ≤ v3 ∧ v3 ≤ 7) ∧ (7 - v4 = 3 → 8 ≤ v3 ∧ v3 ≤ 15) ∧ (7 - v4 = 4 → 16 ≤ v3 ∧ v3 ≤ 31) ∧ (7 - v4 = 5 → 32 ≤ v3 ∧ v3 ≤ 63) ∧ (7 - v4 = 6 → 64 ≤ v3 ∧ v3 ≤ 127) ∧ (7 - v4 = 7 → 128 ≤ v3 ∧ v3 ≤ 255) ∧ (7 - v4 = 8 → 256 ≤ v3 ∧ v3 ≤ 511)) (h5 : v4 ≤ 7 ∧ -1 ≤ v4) (h6 : v5 ≤ v4) (h7 : v5 = 0) : 1 ≤ v0 ∧ v0 ≤ 511 := by omega
theorem om353 (v0 : Int) (v1 : Int) (v2 : Int) (v3 : Int) (v4 : Int) (v5 : Int) (v6 : Int) (v7 : Int) (h0 : v1 = v2 + v3) (h1 : v0 = v4 + v5) (h2 : v4 ≤ 7 ∧ -1 ≤ v4) (h3 : (7 - v4 = 0 → 1 ≤ v6 ∧ v6 ≤ 1) ∧ (7 - v4 = 1 → 2 ≤ v6 ∧ v6 ≤ 3) ∧ (7 - v4 = 2 → 4 ≤ v6 ∧ v6 ≤ 7) ∧ (7 - v4 = 3 → 8 ≤ v6 ∧ v6 ≤ 15) ∧ (7 - v4 = 4 → 16 ≤ v6 ∧ v6 ≤ 31) ∧ (7 - v4 = 5 → 32 ≤ v6 ∧ v6 ≤ 63) ∧ (7 - v4 = 6 → 64 ≤ v6 ∧ v6 ≤ 127) ∧ (7 - v4 = 7 → 128 ≤ v6 ∧ v6 ≤ 255) ∧ (7 - v4 = 8 → 256 ≤ v6 ∧ v6 ≤ 511)) (h4 : v4 ≤ 7) (h5 : v7 ≤ v4) (h6 : 0 ≤ v3 ∧ v3 ≤ 1) (h7 : v2 = v6 * 2) (h8 : 1 ≤ v6 ∧ v6 ≤ 511) (h9 : v5 = (-1)) (h10 : v7 = 0) : (7 - v0 = 0 → 1 ≤ v1 ∧ v1 ≤ 1) ∧ (7 - v0 = 1 → 2 ≤ v1 ∧ v1 ≤ 3) ∧ (7 - v0 = 2 → 4 ≤ v1 ∧ v1 ≤ 7) ∧ (7 - v0 = 3 → 8 ≤ v1 ∧ v1 ≤ 15) ∧ (7 - v0 = 4 → 16 ≤ v1 ∧ v1 ≤ 31) ∧ (7 - v0 = 5 → 32 ≤ v1 ∧ v1 ≤ 63) ∧ (7 - v0 = 6 → 64 ≤ v1 ∧ v1 ≤ 127) ∧ (7 - v0 = 7 → 128 ≤ v1 ∧ v1 ≤ 255) ∧ (7 - v0 = 8 → 256 ≤ v1 ∧ v1 ≤ 511) := by omega
theorem om354 (v0 : Int) (v1 : Int) (v2 : Int) (h0 : v0 = v1 + v2) (h1 : v1 ≤ 7 ∧ -1 ≤ v1) (h2 : v2 = (-1)) : v0 ≤ 7 := by omega
theorem om355 (v0 : Int) (v1 : Int) (h0 : 2056 ≤ v0 ∧ v0 ≤ 13576) (h1 : 1 ≤ v1 ∧ v1 ≤ 511) : -2147483648 ≤ v0 + v1 ∧ v0 + v1 ≤ 2147483647 := by omega
theorem om356 (v0 : Int) (v1 : Int) (v2 : Int) (h0 : v0 = v1 + v2) (h1 : 2056 ≤ v1 ∧ v1 ≤ 13576) (h2 : 1 ≤ v2 ∧ v2 ≤ 511) : 0 ≤ v0 ∧ v0 < 14344 := by omega
theorem om357 (v0 : Int) (v1 : Int) (h0 : 2056 ≤ v0 ∧ v0 ≤ 13576) (h1 : v1 = 256) : -2147483648 ≤ v0 + v1 ∧ v0 + v1 ≤ 2147483647 := by omega
theorem om358 (v0 : Int) (v1 : Int) (h0 : v0 = v1 % 2) : -2147483648 ≤ v0 * 256 ∧ v0 * 256 ≤ 2147483647 := by omega
theorem om359 (v0 : Int) (v1 : Int) (v2 : Int) (v3 : Int) (v4 : Int) (v5 : Int) (h0 : v0 = v2 + v3) (h1 : v1 = v4 * 256) (h2 : 2056 ≤ v2 ∧ v2 ≤ 13576) (h3 : v4 = v5 % 2) (h4 : -2147483648 ≤ v1 ∧ v1 ≤ 2147483647) (h5 : v3 = 256) : -2147483648 ≤ v0 + v1 ∧ v0 + v1 ≤ 2147483647 := by omega
theorem om360 (v0 : Int) (v1 : Int) (v2 : Int) (v3 : Int) (v4 : Int) (v5 : Int) (v6 : Int) (v7 : Int) (h0 : 1 ≤ v1 ∧ v1 ≤ 511) (h1 : v0 = v2 + v3) (h2 : v2 = v4 + v5) (h3 : v3 = v6 * 256) (h4 : 2056 ≤ v4 ∧ v4 ≤ 13576) (h5 : v6 = v7 % 2) (h6 : -2147483648 ≤ v3 ∧ v3 ≤ 2147483647) (h7 : v5 = 256) : -2147483648 ≤ v0 + v1 ∧ v0 + v1 ≤ 2147483647 := by omega
theorem om361 (v0 : Int) (v1 : Int) (v2 : Int) (v3 : Int) (v4 : Int) (v5 : Int) (v6 : Int) (v7 : Int) (v8 : Int) (v9 : Int) (v10 : Int) (h0 : v0 = v1 + v2) (h1 : 1 ≤ v2 ∧ v2 ≤ 511) (h2 : (7 - v3 = 0 → 1 ≤ v2 ∧ v2 ≤ 1) ∧ (7 - v3 = 1 → 2 ≤ v2 ∧ v2 ≤ 3) ∧ (7 - v3 = 2 → 4 ≤ v2 ∧ v2 ≤ 7) ∧ (7 - v3 = 3 → 8 ≤ v2 ∧ v2 ≤ 15) ∧ (7 - v3 = 4 → 16 ≤ v2 ∧ v2 ≤ 31) ∧ (7 - v3 = 5 → 32 ≤ v2 ∧ v2 ≤ 63) ∧ (7 - v3 = 6 → 64 ≤ v2 ∧ v2 ≤ 127) ∧ (7 - v3 = 7 → 128 ≤ v2 ∧ v2 ≤ 255) ∧ (7 - v3 = 8 → 256 ≤ v2 ∧ v2 ≤ 511)) (h3 : v1 = v4 + v5) (h4 : v3 ≤ 7 ∧ -1 ≤ v3) (h5 : v6 ≤ v3) (h6 : v4 = v7 + v8) (h7 : v5 = v9 * 256) (h8 : 2056 ≤ v7 ∧ v7 ≤ 13576) (h9 : v9 = v10 % 2) (h10 : v6 = 0) (h11 : v8 = 256) : 0 ≤ v0 ∧ v0 < 14344 := by omega
theorem om362 (v0 : Int) (h0 : v0 = 7) : v0 ≤ 7 ∧ -1 ≤ v0 := by omega
theorem om363 (v0 : Int) (v1 : Int) (h0 : v0 = 7) (h1 : v1 = 1) : (7 - v0 = 0 → 1 ≤ v1 ∧ v1 ≤ 1) ∧ (7 - v0 = 1 → 2 ≤ v1 ∧ v1 ≤ 3) ∧ (7 - v0 = 2 → 4 ≤ v1 ∧ v1 ≤ 7) ∧ (7 - v0 = 3 → 8 ≤ v1 ∧ v1 ≤ 15) ∧ (7 - v0 = 4 → 16 ≤ v1 ∧ v1 ≤ 31) ∧ (7 - v0 = 5 → 32 ≤ v1 ∧ v1 ≤ 63) ∧ (7 - v0 = 6 → 64 ≤ v1 ∧ v1 ≤ 127) ∧ (7 - v0 = 7 → 128 ≤ v1 ∧ v1 ≤ 255) ∧ (7 - v0 = 8 → 256 ≤ v1 ∧ v1 ≤ 511) := by omega
theorem om364 (v0 : Int) (h0 : v0 = 7) : v0 ≤ 7 := by omega
theorem om365 (v0 : Int) (v1 : Int) (h0 : 0 ≤ v1 ∧ v1 ≤ 3000) (h1 : 0 ≤ v0 ∧ v0 ≤ 3000) : -2147483648 ≤ v0 - v1 ∧ v0 - v1 ≤ 2147483647 := by omega
theorem om366 (v0 : Int) (v1 : Int) (v2 : Int) (v3 : Int) (h0 : 1 ≤ v1 ∧ v1 ≤ 3000) (h1 : 0 ≤ v0 ∧ v0 ≤ 3000) (h2 : v2 = v0 - v3) (h3 : v1 ≤ v2) (h4 : 0 ≤ v3 ∧ v3 ≤ 3000) : -2147483648 ≤ v0 - v1 ∧ v0 - v1 ≤ 2147483647 := by omega
theorem om367 (v0 : Int) (v1 : Int) (v2 : Int) (v3 : Int) (v4 : Int) (h0 : v0 = v1 - v2) (h1 : 1 ≤ v2 ∧ v2 ≤ 3000) (h2 : 0 ≤ v1 ∧ v1 ≤ 3000) (h3 : v3 = v1 - v4) (h4 : v2 ≤ v3) (h5 : 0 ≤ v4 ∧ v4 ≤ 3000) : 0 ≤ v0 ∧ v0 < (3000 : Nat) := by omega
theorem om368 (v0 : Int) (v1 : Int) (v2 : Int) (h0 : 0 ≤ v0 ∧ v0 ≤ 3000) (h1 : v2 < v0) (h2 : 0 ≤ v2 ∧ v2 ≤ 3000) (h3 : v1 = 1) : -2147483648 ≤ v0 - v1 ∧ v0 - v1 ≤ 2147483647 := by omega
theorem om369 (v0 : Int) (v1 : Int) (v2 : Int) (v3 : Int) (h0 : v0 = v1 - v2) (h1 : 0 ≤ v1 ∧ v1 ≤ 3000) (h2 : v3 < v1) (h3 : 0 ≤ v3 ∧ v3 ≤ 3000) (h4 : v2 = 1) : 0 ≤ v0 ∧ v0 < (3000 : Nat) := by omega
theorem om370 (v0 : Int) (h0 : v0 = 4) : 1 ≤ v0 ∧ v0 ≤ 15 := by omega
theorem om371 (v0 : Int) (v1 : Int) (v2 : Int) (h0 : v0 ≤ v2) (h1 : 1 ≤ v1) (h2 : v2 = 0) : (1 ≤ v0 → 1 ≤ v1) := by omega
theorem om372 (v0 : Int) (v1 : Int) (v2 : Int) (v3 : Int) (v4 : Int) (h0 : v0 = 0) : v0 = 1 → v1 = v2 + v3 ∧ v4 ≤ 3000 := by omega
theorem om373 (v0 : Int) (v1 : Int) (h0 : 1 ≤ v1) : v0 = 0 → 1 ≤ v1 := by omega
theorem om374 (v0 : Int) (v1 : Int) (v2 : Int) (v3 : Int) (v4 : Int) (v5 : Int) (v6 : Int) (v7 : Int) (h0 : v2 = v4) (h1 : v1 = v5) (h2 : v0 = v6) (h3 : v3 = v7) (h4 : 0 ≤ v6 ∧ v6 ≤ v5 + v4 + v7) : 0 ≤ v0 ∧ v0 ≤ v1 + v2 + v3 := by omega
theorem om375 (v0 : Int) (h0 : 1 ≤ v0 ∧ v0 ≤ 273) : 1 ≤ v0 ∧ v0 ≤ 300 := by omega
theorem om376 (v0 : Int) (v1 : Int) (v2 : Int) (v3 : Int) (v4 : Int) (v5 : Int) (h0 : 0 ≤ v0 ∧ v0 ≤ 3000) (h1 : v0 + v1 ≤ 3000) (h2 : v2 = v1 - v3) (h3 : 0 ≤ v3 ∧ v3 ≤ 3000) (h4 : v4 = v2) (h5 : v5 ≤ v4) (h6 : 1 ≤ v5) : 0 ≤ v0 ∧ v0 ≤ 3000 := by omega
theorem om377 (v0 : Int) (v1 : Int) (v2 : Int) (v3 : Int) (v4 : Int) (h0 : 0 ≤ v0 ∧ v0 ≤ 3000) (h1 : v1 = v0 - v2) (h2 : 0 ≤ v2 ∧ v2 ≤ 3000) (h3 : v3 = v1) (h4 : v4 ≤ v3) (h5 : 1 ≤ v4) : 0 ≤ v0 ∧ v0 ≤ 3000 := by omega
theorem om378 (v0 : Int) (v1 : Int) (v2 : Int) (v3 : Int) (v4 : Int) (v5 : Int) (h0 : 0 ≤ v0 ∧ v0 ≤ 3000) (h1 : v0 + v1 ≤ 3000) (h2 : v2 = v1 - v3) (h3 : 0 ≤ v3 ∧ v3 ≤ 3000) (h4 : v4 = v2) (h5 : v5 ≤ v4) (h6 : 1 ≤ v5) : -2147483648 ≤ v0 + v1 ∧ v0 + v1 ≤ 2147483647 := by omega
theorem om379 (v0 : Int) (v1 : Int) (v2 : Int) (v3 : Int) (v4 : Int) (h0 : 1 ≤ v0) (h1 : v0 ≤ v1) (h2 : v1 = v2) (h3 : v2 = v3 - v4) (h4 : 0 ≤ v4 ∧ v4 ≤ 3000) (h5 : 0 ≤ v3 ∧ v3 ≤ 3000) : -2147483648 ≤ v0 ∧ v0 ≤ 2147483647 := by omega
theorem om380 (v0 : Int) (v1 : Int) (v2 : Int) (v3 : Int) (h0 : 0 ≤ v0 ∧ v0 ≤ v1 + v2 + v3) (h1 : 0 ≤ v3 ∧ v3 ≤ 1) (h2 : v1 + v2 ≤ 3000) : 0 ≤ v0 ∧ v0 ≤ 100000 := by omega
theorem om381 (v0 : Int) (v1 : Int) (h0 : v0 ≤ v1) (h1 : 2147483648 - v0 ≤ 0) (h2 : 1 ≤ v1 ∧ v1 ≤ 273) : (0 * v0) ≤ -1 := by omega
theorem om382 (v0 : Int) (v1 : Int) (h0 : v1 = v0) : (1 ≤ v0 → 1 ≤ v1) := by omega
theorem om383 (v0 : Int) (v1 : Int) (v2 : Int) (v3 : Int) (v4 : Int) (h0 : v2 = v0 + v3) (h1 : v1 = v2) (h2 : 1 ≤ v4 ∧ v4 ≤ 273) (h3 : v4 ≤ v3) : v0 ≤ v1 := by omega
theorem om384 (v0 : Int) (v1 : Int) (v2 : Int) (v3 : Int) (v4 : Int) (v5 : Int) (v6 : Int) (v7 : Int) (v8 : Int) (v9 : Int) (h0 : 1 ≤ v3 ∧ v3 ≤ 273) (h1 : v5 = v2 - v6) (h2 : v4 ≤ v7) (h3 : v8 = v2 + v9) (h4 : v9 ≤ v3) (h5 : v3 ≤ v9) (h6 : v1 = v8) (h7 : 0 ≤ v6 ∧ v6 ≤ 3000) (h8 : v7 = v5) (h9 : 0 ≤ v8 ∧ v8 ≤ 3000) : v0 = 1 → v1 = v2 + v3 ∧ v4 ≤ 3000 := by omega
theorem om385 (v0 : Int) (v1 : Int) (h0 : v0 = 1) : v0 = 0 → 1 ≤ v1 := by omega
theorem om386 (v0 : Int) (v1 : Int) (v2 : Int) (v3 : Int) (v4 : Int) (v5 : Int) (v6 : Int) (v7 : Int) (v8 : Int) (v9 : Int) (v10 : Int) (v11 : Int) (h0 : v2 = v4) (h1 : v1 = v5) (h2 : v0 = v6) (h3 : v3 = v7) (h4 : 0 ≤ v8 ∧ v8 ≤ v5 + v9 + v7) (h5 : v6 = v8 + 1) (h6 : v4 = v9 + v10) (h7 : 1 ≤ v11 ∧ v11 ≤ 273) (h8 : v11 ≤ v10) : 0 ≤ v0 ∧ v0 ≤ v1 + v2 + v3 := by omega
theorem om387 (v0 : Int) (v1 : Int) (v2 : Int) (v3 : Int) (v4 : Int) (v5 : Int) (v6 : Int) (v7 : Int) (v8 : Int) (h0 : v0 = v1) (h1 : v1 = v2 + v3) (h2 : 0 ≤ v1 ∧ v1 ≤ 3000) (h3 : v4 = v2 - v5) (h4 : v6 ≤ v3) (h5 : 1 ≤ v6 ∧ v6 ≤ 273) (h6 : 0 ≤ v5 ∧ v5 ≤ 3000) (h7 : v7 = v4) (h8 : v8 ≤ v7) (h9 : 1 ≤ v8) : 0 ≤ v0 ∧ v0 ≤ 3000 := by omega
theorem om388 (v0 : Int) (v1 : Int) (v2 : Int) (v3 : Int) (v4 : Int) (v5 : Int) (v6 : Int) (v7 : Int) (h0 : v0 = v2 + v3) (h1 : 0 ≤ v0 ∧ v0 ≤ 3000) (h2 : v1 = v4) (h3 : 1 ≤ v4) (h4 : v5 = v2 - v6) (h5 : v4 ≤ v7) (h6 : 0 ≤ v3) (h7 : 0 ≤ v6 ∧ v6 ≤ 3000) (h8 : v7 = v5) : -2147483648 ≤ v0 - v1 ∧ v0 - v1 ≤ 2147483647 := by omega
theorem om389 (v0 : Int) (v1 : Int) (v2 : Int) (v3 : Int) (v4 : Int) (v5 : Int) (v6 : Int) (v7 : Int) (v8 : Int) (h0 : v0 = v1 - v2) (h1 : v1 = v3 + v4) (h2 : 0 ≤ v1 ∧ v1 ≤ 3000) (h3 : v2 = v5) (h4 : 1 ≤ v5) (h5 : v6 = v3 - v7) (h6 : v5 ≤ v8) (h7 : 0 ≤ v4) (h8 : 0 ≤ v7 ∧ v7 ≤ 3000) (h9 : v8 = v6) : 0 ≤ v0 ∧ v0 < (3000 : Nat) := by omega
theorem om390 (v0 : Int) (v1 : Int) (v2 : Int) (v3 : Int) (v4 : Int) (v5 : Int) (v6 : Int) (v7 : Int) (v8 : Int) (v9 : Int) (v10 : Int) (h0 : v0 = v1 + v2) (h1 : 0 ≤ v3 ∧ v3 ≤ 3000) (h2 : v4 = v1 - v5) (h3 : v6 = 0 → v3 + v1 + v7 ≤ 3000) (h4 : 0 ≤ v2) (h5 : v2 < v7) (h6 : 1 ≤ v8) (h7 : 0 ≤ v5 ∧ v5 ≤ 3000) (h8 : v9 = v4) (h9 : v8 ≤ v9) (h10 : v6 = v10) (h11 : v10 = 0) : 0 ≤ v0 ∧ v0 < (3000 : Nat) := by omega
theorem om391 (v0 : Int) (v1 : Int) (v2 : Int) (v3 : Int) (v4 : Int) (v5 : Int) (v6 : Int) (v7 : Int) (h0 : v0 = v2 + v3) (h1 : 0 ≤ v0 ∧ v0 ≤ 3000) (h2 : v4 = v2 - v5) (h3 : 0 ≤ v3) (h4 : 1 ≤ v6) (h5 : 0 ≤ v5 ∧ v5 ≤ 3000) (h6 : v7 = v4) (h7 : v6 ≤ v7) (h8 : v1 = 1) : -2147483648 ≤ v0 + v1 ∧ v0 + v1 ≤ 2147483647 := by omega
theorem om392 (v0 : Int) (v1 : Int) (v2 : Int) (h0 : 0 ≤ v0) (h1 : v0 < v2) (h2 : 1 ≤ v2 ∧ v2 ≤ 273) (h3 : v1 = 1) : -2147483648 ≤ v0 + v1 ∧ v0 + v1 ≤ 2147483647 := by omega
theorem om393 (v0 : Int) (v1 : Int) (v2 : Int) (v3 : Int) (v4 : Int) (v5 : Int) (v6 : Int) (v7 : Int) (v8 : Int) (v9 : Int) (h0 : v2 = 0 → v0 + v3 + v4 ≤ 3000) (h1 : v1 = v5) (h2 : v2 = v6) (h3 : v7 = v3 + v8) (h4 : v8 < v4) (h5 : v5 = v7 + v9) (h6 : v6 = 0) (h7 : v9 = 1) : v0 + v1 ≤ 3000 := by omega
theorem om394 (v0 : Int) (v1 : Int) (v2 : Int) (v3 : Int) (v4 : Int) (v5 : Int) (v6 : Int) (v7 : Int) (v8 : Int) (v9 : Int) (v10 : Int) (v11 : Int) (v12 : Int) (v13 : Int) (h0 : v0 = v1) (h1 : v1 = v2 + v3) (h2 : v2 = v4 + v5) (h3 : 0 ≤ v6 ∧ v6 ≤ 3000) (h4 : v7 = v4 - v8) (h5 : v9 = 0 → v6 + v4 + v10 ≤ 3000) (h6 : 0 ≤ v5) (h7 : v5 < v10) (h8 : 1 ≤ v11) (h9 : 0 ≤ v8 ∧ v8 ≤ 3000) (h10 : v12 = v7) (h11 : v11 ≤ v12) (h12 : v9 = v13) (h13 : v3 = 1) (h14 : v13 = 0) : 0 ≤ v0 ∧ v0 ≤ 3000 := by omega
theorem om395 (v0 : Int) (v1 : Int) (h0 : 1 ≤ v1 ∧ v1 ≤ 273) (h1 : v0 = 0) : v0 ≤ v1 := by omega
theorem om396 (v0 : Int) (v1 : Int) (v2 : Int) (h0 : v0 + v2 ≤ 3000) (h1 : v1 = v2) : v0 + v1 ≤ 3000 := by omega
theorem om397 (v0 : Int) (v1 : Int) (v2 : Int) (v3 : Int) (v4 : Int) (v5 : Int) (h0 : v0 = v1) (h1 : 0 ≤ v1 ∧ v1 ≤ 3000) (h2 : v2 = v1 - v3) (h3 : 0 ≤ v3 ∧ v3 ≤ 3000) (h4 : v4 = v2) (h5 : v5 ≤ v4) (h6 : 1 ≤ v5) : 0 ≤ v0 ∧ v0 ≤ 3000 := by omega
theorem om398 (v0 : Int) (v1 : Int) (v2 : Int) (v3 : Int) (v4 : Int) (v5 : Int) (h0 : 1 ≤ v1 ∧ v1 ≤ 273) (h1 : 0 ≤ v0 ∧ v0 ≤ 3000) (h2 : v2 = v0 - v3) (h3 : 0 ≤ v3 ∧ v3 ≤ 3000) (h4 : v4 = v2) (h5 : v5 ≤ v4) (h6 : 1 ≤ v5) : -2147483648 ≤ v0 + v1 ∧ v0 + v1 ≤ 2147483647 := by omega
theorem om399 (v0 : Int) (h0 : v0 = 6) : 1 ≤ v0 ∧ v0 ≤ 15 := by omega
theorem om400 (v0 : Int) (v1 : Int) (v2 : Int) (v3 : Int) (h0 : v0 = 0) : v0 = 1 → v1 = v1 + v2 ∧ v3 ≤ 3000 := by omega
theorem om401 (v0 : Int) (v1 : Int) (h0 : v0 < v1) (h1 : v0 = 0) : v0 = 0 → 1 ≤ v1 := by omega
theorem om402 (v0 : Int) (v1 : Int) (h0 : v0 + v1 ≤ 3000) : v0 + v1 ≤ 3000 := by omega
theorem om403 (v0 : Int) (v1 : Int) (v2 : Int) (v3 : Int) (h0 : 0 ≤ v0 ∧ v0 ≤ v1 + v2 + v3) : 0 ≤ v0 ∧ v0 ≤ v1 + v2 + v3 := by omega
theorem om404 (v0 : Int) (h0 : 0 ≤ v0 ∧ v0 ≤ 3000) : 0 ≤ v0 ∧ v0 ≤ 3000 := by omega
theorem om405 (v0 : Int) (h0 : v0 = 1024) : 0 ≤ v0 ∧ v0 ≤ 2000 := by omega
theorem om406 (v0 : Int) (h0 : 2 ≤ v0 ∧ v0 ≤ 273) : 2 ≤ v0 ∧ v0 ≤ 273 := by omega
theorem om407 (v0 : Int) (h0 : 2 ≤ v0 ∧ v0 ≤ 273) : 1 ≤ v0 ∧ v0 ≤ 273 := by omega
theorem om408 (v0 : Int) (h0 : 1 ≤ v0) : 1 ≤ v0 := by omega
theorem om409 (v0 : Int) (v1 : Int) (h0 : v0 = v1) (h1 : v1 = 0) (h2 : 0 ≤ v1 ∧ v1 ≤ 1) : 0 ≤ v0 ∧ v0 ≤ 1 := by omega
theorem om410 (v0 : Int) (v1 : Int) (v2 : Int) (v3 : Int) (h0 : v0 = v2) (h1 : v1 = v3) (h2 : v2 + v3 ≤ 3000) : v0 + v1 ≤ 3000 := by omega
theorem om411 (v0 : Int) (v1 : Int) (v2 : Int) (v3 : Int) (v4 : Int) (v5 : Int) (v6 : Int) (v7 : Int) (h0 : v1 = v4) (h1 : v3 = v5) (h2 : v2 = v6) (h3 : v0 = v7) (h4 : 0 ≤ v7 ∧ v7 ≤ v4 + v6 + v5) : 0 ≤ v0 ∧ v0 ≤ v1 + v2 + v3 := by omega
theorem om412 (v0 : Int) (v1 : Int) (v2 : Int) (v3 : Int) (h0 : v0 ≤ v2) (h1 : v1 = v3) (h2 : v2 ≤ v3) : v0 ≤ v1 := by omega
theorem om413 (v0 : Int) (v1 : Int) (v2 : Int) (v3 : Int) (v4 : Int) (h0 : (1 ≤ v0 → 1 ≤ v2)) (h1 : (1 ≤ v2 → 1 ≤ v3)) (h2 : v3 ≤ v4) (h3 : v4 = 0) : (1 ≤ v0 → 1 ≤ v1) := by omega
theorem om414 (v0 : Int) (v1 : Int) (v2 : Int) (h0 : v2 = v0) (h1 : v2 ≤ v1) : v0 ≤ v1 := by omega
theorem om415 (v0 : Int) (v1 : Int) (v2 : Int) (v3 : Int) (v4 : Int) (v5 : Int) (h0 : v4 = 0 → 1 ≤ v2) (h1 : 0 ≤ v4 ∧ v4 ≤ 1) (h2 : v4 = v5) (h3 : v5 = 0) : v0 < v1 ∨ 1 ≤ v2 ∨ v3 = 1 := by omega
theorem om416 (v0 : Int) (v1 : Int) (h0 : v0 = v1) (h1 : v1 = 0) : 0 ≤ v0 ∧ v0 ≤ 1 := by omega
theorem om417 (v0 : Int) (v1 : Int) (v2 : Int) (v3 : Int) (v4 : Int) (v5 : Int) (h0 : v1 = 1 → v2 = v3 + v4 ∧ v0 ≤ 3000) (h1 : 0 ≤ v1 ∧ v1 ≤ 1) (h2 : v1 ≠ v5) (h3 : v5 = 0) : v0 ≤ 3000 := by omega
theorem om418 (v0 : Int) (h0 : 1 ≤ v0) (h1 : v0 ≤ 3000) : -2147483648 ≤ v0 ∧ v0 ≤ 2147483647 := by omega
theorem om419 (v0 : Int) (v1 : Int) (h0 : v0 = v1) (h1 : 1 ≤ v1) (h2 : v1 ≤ 3000) : 1 ≤ v0 ∧ v0 ≤ 3000 := by omega
theorem om420 (v0 : Int) (v1 : Int) (v2 : Int) (v3 : Int) (h0 : v2 = v0) (h1 : v1 = v3) (h2 : v2 ≤ v3) : v0 ≤ v1 := by omega
theorem om421 (v0 : Int) (v1 : Int) (v2 : Int) (v3 : Int) (v4 : Int) (v5 : Int) (v6 : Int) (v7 : Int) (v8 : Int) (v9 : Int) (h0 : v4 = v0) (h1 : v1 = v5) (h2 : v6 = 1 → v5 = v4 + v7 ∧ v8 ≤ 3000) (h3 : 2 ≤ v7 ∧ v7 ≤ 273) (h4 : 0 ≤ v6 ∧ v6 ≤ 1) (h5 : v6 ≠ v9) (h6 : v9 = 0) : v0 < v1 ∨ 1 ≤ v2 ∨ v3 = 1 := by omega
theorem om422 (v0 : Int) (v1 : Int) (h0 : v0 = v1) (h1 : 0 ≤ v1 ∧ v1 ≤ 15) : 0 ≤ v0 ∧ v0 ≤ 15 := by omega
theorem om423 (v0 : Int) (v1 : Int) (v2 : Int) (v3 : Int) (v4 : Int) (h0 : v1 = v2) (h1 : v0 = v3) (h2 : v4 + v2 ≤ 3000) (h3 : v4 = v3) : v0 + v1 ≤ 3000 := by omega
theorem om424 (v0 : Int) (v1 : Int) (v2 : Int) (v3 : Int) (v4 : Int) (v5 : Int) (v6 : Int) (v7 : Int) (v8 : Int) (v9 : Int) (h0 : v2 = v4) (h1 : v3 = v5) (h2 : v1 = v6) (h3 : v0 = v7) (h4 : v8 = v6) (h5 : 0 ≤ v7 ∧ v7 ≤ v8 + v4 + v9) (h6 : v9 = v5) : 0 ≤ v0 ∧ v0 ≤ v1 + v2 + v3 := by omega
theorem om425 (v0 : Int) (v1 : Int) (h0 : v0 = v1) (h1 : 7 ≤ v1 ∧ v1 ≤ 10) : 0 ≤ v0 ∧ v0 ≤ 11 := by omega
theorem om426 (v0 : Int) (h0 : v0 = 10) : 7 ≤ v0 ∧ v0 ≤ 10 := by omega
theorem om427 (v0 : Int) (h0 : v0 = 7) : 7 ≤ v0 ∧ v0 ≤ 10 := by omega
theorem om428 (v0 : Int) (h0 : v0 = 7) : 1 ≤ v0 ∧ v0 ≤ 15 := by omega
theorem om429 (v0 : Int) (v1 : Int) (v2 : Int) (v3 : Int) (h0 : 1 ≤ v2) : v0 < v1 ∨ 1 ≤ v2 ∨ v3 = 1 := by omega
theorem om430 (v0 : Int) (v1 : Int) (v2 : Int) (v3 : Int) (v4 : Int) (h0 : v3 = v4) (h1 : v4 = 1) : v0 < v1 ∨ 1 ≤ v2 ∨ v3 = 1 := by omega
theorem om431 (v0 : Int) (v1 : Int) (h0 : v0 = v1) (h1 : v1 = 1) : 0 ≤ v0 ∧ v0 ≤ 1 := by omega
theorem om432 (v0 : Int) (v1 : Int) (v2 : Int) (v3 : Int) (v4 : Int) (v5 : Int) (v6 : Int) (v7 : Int) (v8 : Int) (v9 : Int) (h0 : v0 = v4 + 1) (h1 : v2 = v5) (h2 : v3 = v6) (h3 : v1 = v7) (h4 : 0 ≤ v8 ∧ v8 ≤ v7 + v5 + v9) (h5 : v4 = v8) (h6 : v4 = v8) (h7 : v9 = 0) (h8 : v6 = 1) : 0 ≤ v0 ∧ v0 ≤ v1 + v2 + v3 := by omega
theorem om433 (v0 : Int) (v1 : Int) (v2 : Int) (v3 : Int) (v4 : Int) (h0 : v4 < v2) (h1 : v4 = 0) : v0 < v1 ∨ 1 ≤ v2 ∨ v3 = 1 := by omega
theorem om434 (v0 : Int) (h0 : 0 ≤ v0 ∧ v0 ≤ 11) : -2147483648 ≤ v0 * 16 ∧ v0 * 16 ≤ 2147483647 := by omega
theorem om435 (v0 : Int) (v1 : Int) (v2 : Int) (h0 : v1 = v2 * 16) (h1 : 0 ≤ v2 ∧ v2 ≤ 11) (h2 : v0 = 0) (h3 : -2147483648 ≤ v1 ∧ v1 ≤ 2147483647) : -2147483648 ≤ v0 + v1 ∧ v0 + v1 ≤ 2147483647 := by omega
theorem om436 (v0 : Int) (v1 : Int) (v2 : Int) (v3 : Int) (v4 : Int) (h0 : 0 ≤ v1 ∧ v1 ≤ 15) (h1 : v0 = v2 + v3) (h2 : v3 = v4 * 16) (h3 : 0 ≤ v4 ∧ v4 ≤ 11) (h4 : -2147483648 ≤ v0 ∧ v0 ≤ 2147483647) (h5 : v2 = 0) : -2147483648 ≤ v0 + v1 ∧ v0 + v1 ≤ 2147483647 := by omega
theorem om437 (v0 : Int) (v1 : Int) (v2 : Int) (v3 : Int) (v4 : Int) (v5 : Int) (h0 : v0 = v1 + v2) (h1 : 0 ≤ v2 ∧ v2 ≤ 15) (h2 : v1 = v3 + v4) (h3 : v4 = v5 * 16) (h4 : 0 ≤ v5 ∧ v5 ≤ 11) (h5 : v3 = 0) : 0 ≤ v0 ∧ v0 < 14344 := by omega
theorem om438 (v0 : Int) (v1 : Int) (h0 : 0 ≤ v1 ∧ v1 ≤ 11) (h1 : v0 = 192) : -2147483648 ≤ v0 + v1 ∧ v0 + v1 ≤ 2147483647 := by omega
theorem om439 (v0 : Int) (v1 : Int) (v2 : Int) (h0 : v0 = v1 + v2) (h1 : 0 ≤ v2 ∧ v2 ≤ 11) (h2 : v1 = 192) : 0 ≤ v0 ∧ v0 < 14344 := by omega
theorem om440 (v0 : Int) (v1 : Int) (h0 : 0 ≤ v1 ∧ v1 ≤ 11) (h1 : v0 = 204) : -2147483648 ≤ v0 + v1 ∧ v0 + v1 ≤ 2147483647 := by omega
theorem om441 (v0 : Int) (v1 : Int) (v2 : Int) (h0 : v0 = v1 + v2) (h1 : 0 ≤ v2 ∧ v2 ≤ 11) (h2 : v1 = 204) : 0 ≤ v0 ∧ v0 < 14344 := by omega
theorem om442 (v0 : Int) (h0 : v0 = 1540) : 0 ≤ v0 ∧ v0 ≤ 2000 := by omega
theorem om443 (v0 : Int) (v1 : Int) (h0 : 0 ≤ v1 ∧ v1 ≤ 3) (h1 : v0 = 2) : -2147483648 ≤ v0 + v1 ∧ v0 + v1 ≤ 2147483647 := by omega
theorem om444 (v0 : Int) (v1 : Int) (v2 : Int) (v3 : Int) (v4 : Int) (v5 : Int) (v6 : Int) (v7 : Int) (v8 : Int) (v9 : Int) (v10 : Int) (h0 : v0 = v1) (h1 : (v2 = 0 → v1 = v3) ∧ (v2 = 1 → v1 = v4) ∧ (v2 = 2 → v1 = v5) ∧ (v2 = 3 → v1 = v6)) (h2 : 0 ≤ v2 ∧ v2 ≤ 3) (h3 : v3 = v7) (h4 : v4 = v8) (h5 : v5 = v9) (h6 : v6 = v10) (h7 : 1 ≤ v7 ∧ v7 ≤ 3000) (h8 : 1 ≤ v8 ∧ v8 ≤ 3000) (h9 : 1 ≤ v9 ∧ v9 ≤ 3000) (h10 : 1 ≤ v10 ∧ v10 ≤ 3000) : 1 ≤ v0 := by omega
theorem om445 (v0 : Int) (v1 : Int) (v2 : Int) (v3 : Int) (h0 : 1 ≤ v0 → 1 ≤ v2) (h1 : (1 ≤ v3 → 1 ≤ v1)) (h2 : (1 ≤ v2 → 1 ≤ v3)) : (1 ≤ v0 → 1 ≤ v1) := by omega
theorem om446 (v0 : Int) (v1 : Int) (v2 : Int) (v3 : Int) (v4 : Int) (h0 : 1 ≤ v0 → 1 ≤ v2) (h1 : v1 = v3) (h2 : (1 ≤ v2 → 1 ≤ v4)) (h3 : (1 ≤ v4 → 1 ≤ v3)) : (1 ≤ v0 → 1 ≤ v1) := by omega
theorem om447 (v0 : Int) (v1 : Int) (h0 : v0 = v1) (h1 : 8 ≤ v1 ∧ v1 ≤ 11) : 0 ≤ v0 ∧ v0 ≤ 11 := by omega
theorem om448 (v0 : Int) (h0 : v0 = 11) : 8 ≤ v0 ∧ v0 ≤ 11 := by omega
theorem om449 (v0 : Int) (h0 : v0 = 8) : 8 ≤ v0 ∧ v0 ≤ 11 := by omega
theorem om450 (v0 : Int) (v1 : Int) (h0 : 0 ≤ v1 ∧ v1 ≤ 11) (h1 : v0 = 216) : -2147483648 ≤ v0 + v1 ∧ v0 + v1 ≤ 2147483647 := by omega
theorem om451 (v0 : Int) (v1 : Int) (v2 : Int) (h0 : v0 = v1 + v2) (h1 : 0 ≤ v2 ∧ v2 ≤ 11) (h2 : v1 = 216) : 0 ≤ v0 ∧ v0 < 14344 := by omega
theorem om452 (v0 : Int) (v1 : Int) (h0 : 0 ≤ v1 ∧ v1 ≤ 11) (h1 : v0 = 228) : -2147483648 ≤ v0 + v1 ∧ v0 + v1 ≤ 2147483647 := by omega
theorem om453 (v0 : Int) (v1 : Int) (v2 : Int) (h0 : v0 = v1 + v2) (h1 : 0 ≤ v2 ∧ v2 ≤ 11) (h2 : v1 = 228) : 0 ≤ v0 ∧ v0 < 14344 := by omega
theorem om454 (v0 : Int) (v1 : Int) (v2 : Int) (v3 : Int) (v4 : Int) (v5 : Int) (h0 : v0 ≤ v2) (h1 : v3 ≤ v1) (h2 : v2 ≤ v4) (h3 : v5 ≤ v3) (h4 : v4 ≤ v5) : v0 ≤ v1 := by omega
theorem om455 (v0 : Int) (v1 : Int) (v2 : Int) (v3 : Int) (v4 : Int) (v5 : Int) (h0 : (1 ≤ v0 → 1 ≤ v2)) (h1 : (1 ≤ v3 → 1 ≤ v1)) (h2 : (1 ≤ v2 → 1 ≤ v4)) (h3 : (1 ≤ v5 → 1 ≤ v3)) (h4 : (1 ≤ v4 → 1 ≤ v5)) : 1 ≤ v0 → 1 ≤ v1 := by omega
theorem om456 (v0 : Int) (h0 : v0 = 2) : 0 ≤ v0 ∧ v0 ≤ 3 := by omega
theorem om457 (v0 : Int) (h0 : v0 = 1) : 0 ≤ v0 ∧ v0 ≤ 3 := by omega
theorem om458 (v0 : Int) (v1 : Int) (v2 : Int) (v3 : Int) (v4 : Int) (h0 : v0 ≤ v2) (h1 : v3 ≤ v1) (h2 : v2 ≤ v4) (h3 : v4 ≤ v3) : v0 ≤ v1 := by omega
theorem om459 (v0 : Int) (v1 : Int) (v2 : Int) (v3 : Int) (v4 : Int) (h0 : (1 ≤ v0 → 1 ≤ v2)) (h1 : (1 ≤ v3 → 1 ≤ v1)) (h2 : (1 ≤ v2 → 1 ≤ v4)) (h3 : (1 ≤ v4 → 1 ≤ v3)) : 1 ≤ v0 → 1 ≤ v1 := by omega
theorem om460 (v0 : Int) (v1 : Int) (h0 : 0 ≤ v0 ∧ v0 ≤ 11) (h1 : v1 = v0 * 16) (h2 : -2147483648 ≤ v1 ∧ v1 ≤ 2147483647) : -2147483648 ≤ v0 * 16 ∧ v0 * 16 ≤ 2147483647 := by omega
theorem om461 (v0 : Int) (v1 : Int) (v2 : Int) (h0 : v1 = v2 * 16) (h1 : 0 ≤ v2 ∧ v2 ≤ 11) (h2 : v0 = 240) (h3 : -2147483648 ≤ v1 ∧ v1 ≤ 2147483647) : -2147483648 ≤ v0 + v1 ∧ v0 + v1 ≤ 2147483647 := by omega
theorem om462 (v0 : Int) (v1 : Int) (v2 : Int) (v3 : Int) (v4 : Int) (h0 : 0 ≤ v1 ∧ v1 ≤ 15) (h1 : v0 = v2 + v3) (h2 : v3 = v4 * 16) (h3 : 0 ≤ v4 ∧ v4 ≤ 11) (h4 : v2 = 240) (h5 : -2147483648 ≤ v3 ∧ v3 ≤ 2147483647) : -2147483648 ≤ v0 + v1 ∧ v0 + v1 ≤ 2147483647 := by omega
theorem om463 (v0 : Int) (v1 : Int) (v2 : Int) (v3 : Int) (v4 : Int) (v5 : Int) (h0 : v0 = v1 + v2) (h1 : 0 ≤ v2 ∧ v2 ≤ 15) (h2 : v1 = v3 + v4) (h3 : v4 = v5 * 16) (h4 : 0 ≤ v5 ∧ v5 ≤ 11) (h5 : v3 = 240) : 0 ≤ v0 ∧ v0 < 14344 := by omega
theorem om464 (v0 : Int) (h0 : v0 = 0) : 0 ≤ v0 ∧ v0 ≤ 3 := by omega
theorem om465 (v0 : Int) (h0 : v0 = 1) : 1 ≤ v0 ∧ v0 ≤ 273 := by omega
theorem om466 (v0 : Int) (v1 : Int) (h0 : v0 = v1) (h1 : 1 ≤ v1 ∧ v1 ≤ 3000) : 1 ≤ v0 := by omega
theorem om467 (v0 : Int) (v1 : Int) (v2 : Int) (v3 : Int) (v4 : Int) (v5 : Int) (h0 : v0 ≤ v2) (h1 : v1 = v3) (h2 : v2 ≤ v4) (h3 : v5 ≤ v3) (h4 : v4 ≤ v5) : v0 ≤ v1 := by omega
theorem om468 (v0 : Int) (v1 : Int) (v2 : Int) (v3 : Int) (v4 : Int) (v5 : Int) (h0 : (1 ≤ v0 → 1 ≤ v2)) (h1 : (1 ≤ v3 → 1 ≤ v1)) (h2 : (1 ≤ v2 → 1 ≤ v4)) (h3 : (1 ≤ v5 → 1 ≤ v3)) (h4 : (1 ≤ v4 → 1 ≤ v5)) : (1 ≤ v0 → 1 ≤ v1) := by omega
theorem om469 (v0 : Int) (v1 : Int) (v2 : Int) (v3 : Int) (v4 : Int) (v5 : Int) (v6 : Int) (h0 : (1 ≤ v0 → 1 ≤ v2)) (h1 : v1 = v3) (h2 : (1 ≤ v2 → 1 ≤ v4)) (h3 : (1 ≤ v5 → 1 ≤ v3)) (h4 : (1 ≤ v4 → 1 ≤ v6)) (h5 : (1 ≤ v6 → 1 ≤ v5)) : (1 ≤ v0 → 1 ≤ v1) := by omega
theorem om470 (v0 : Int) (v1 : Int) (v2 : Int) (v3 : Int) (v4 : Int) (v5 : Int) (v6 : Int) (v7 : Int) (v8 : Int) (v9 : Int) (h0 : v4 = v0) (h1 : v1 = v5) (h2 : v6 = 1 → v5 = v4 + v7 ∧ v8 ≤ 3000) (h3 : 0 ≤ v6 ∧ v6 ≤ 1) (h4 : v6 ≠ v9) (h5 : v7 = 1) (h6 : v9 = 0) : v0 < v1 ∨ 1 ≤ v2 ∨ v3 = 1 := by omega
theorem om471 (v0 : Int) (v1 : Int) (h0 : v0 = v1) (h1 : 9 ≤ v1 ∧ v1 ≤ 11) : 0 ≤ v0 ∧ v0 ≤ 11 := by omega
theorem om472 (v0 : Int) (h0 : v0 = 11) : 9 ≤ v0 ∧ v0 ≤ 11 := by omega
theorem om473 (v0 : Int) (h0 : v0 = 9) : 9 ≤ v0 ∧ v0 ≤ 11 := by omega
theorem om474 (v0 : Int) (v1 : Int) (h0 : v0 = v1) (h1 : v1 = 0) : v0 = 0 := by omega
theorem om475 (v0 : Int) (v1 : Int) (v2 : Int) (v3 : Int) (v4 : Int) (v5 : Int) (v6 : Int) (v7 : Int) (h0 : v3 = v4) (h1 : v1 = v5) (h2 : v2 = v6) (h3 : v0 = v7) (h4 : 0 ≤ v7 ∧ v7 ≤ v5 + v6 + v4) : 0 ≤ v0 ∧ v0 ≤ v1 + v2 + v3 := by omega
theorem om476 (v0 : Int) (v1 : Int) (v2 : Int) (v3 : Int) (v4 : Int) (h0 : v4 = v0) (h1 : v4 < v1 ∨ 1 ≤ v2 ∨ v3 = 1) (h2 : 0 ≤ v3 ∧ v3 ≤ 1) : v0 < v1 ∨ 1 ≤ v2 ∨ v3 = 1 := by omega
theorem om477 (v0 : Int) (h0 : 0 ≤ v0 ∧ v0 ≤ 11) : 0 ≤ v0 ∧ v0 ≤ 11 := by omega
theorem om478 (v0 : Int) (v1 : Int) (v2 : Int) (v3 : Int) (v4 : Int) (h0 : v4 = v0) (h1 : v4 < v1 ∨ 1 ≤ v2) : v0 < v1 ∨ 1 ≤ v2 ∨ v3 = 1 := by omega
theorem om479 (v0 : Int) (h0 : 0 ≤ v0 ∧ v0 ≤ 255) : 0 ≤ v0 := by omega
theorem om480 (v0 : Int) (v1 : Int) (h0 : v0 = v1 / 9) (h1 : 0 ≤ v1 ∧ v1 ≤ 255) : 0 ≤ v0 := by omega
theorem om481 (v0 : Int) (h0 : v0 = 3) : 1 ≤ v0 ∧ v0 ≤ 15 := by omega
theorem om482 (v0 : Int) (v1 : Int) (v2 : Int) (v3 : Int) (h0 : v0 = 0) : v0 = 1 → (0 ≤ v1 ∧ v1 ≤ 4 ∧ 0 ≤ v2 ∧ v2 ≤ 4 ∧ v1 + v2 ≤ 4 ∧ 0 ≤ v3 ∧ v3 ≤ 4) := by omega
theorem om483 (v0 : Int) (v1 : Int) (v2 : Int) (v3 : Int) (v4 : Int) (v5 : Int) (h0 : v0 = v1) (h1 : v1 = v2 + 1 ∧ v3 = v4 ∨ v1 = v2 ∧ 1 ≤ v3) (h2 : 0 ≤ v1 ∧ v1 ≤ 1500) (h3 : 0 ≤ v2 ∧ v2 ≤ 1500) (h4 : v3 ≤ v5) (h5 : v5 = 0) : 0 ≤ v0 ∧ v0 ≤ 1500 := by omega
theorem om484 (v0 : Int) (v1 : Int) (v2 : Int) (v3 : Int) (h0 : v0 = v2 % 9) (h1 : v1 = v3 % 5) : -2147483648 ≤ v0 + v1 ∧ v0 + v1 ≤ 2147483647 := by omega
theorem om485 (v0 : Int) (v1 : Int) (v2 : Int) (v3 : Int) (v4 : Int) (v5 : Int) (v6 : Int) (v7 : Int) (v8 : Int) (v9 : Int) (v10 : Int) (v11 : Int) (h0 : v1 = v4) (h1 : v2 = v5) (h2 : v3 = v6) (h3 : v4 = v7 % 9) (h4 : v5 = v8 % 5) (h5 : v6 = v7 / 45) (h6 : v9 = v4 + v5) (h7 : 0 ≤ v7 ∧ v7 ≤ 255) (h8 : v7 < v10) (h9 : v9 ≤ v11) (h10 : v10 = 225) (h11 : v11 = 4) : v0 = 1 → (0 ≤ v1 ∧ v1 ≤ 4 ∧ 0 ≤ v2 ∧ v2 ≤ 4 ∧ v1 + v2 ≤ 4 ∧ 0 ≤ v3 ∧ v3 ≤ 4) := by omega
theorem om486 (v0 : Int) (v1 : Int) (v2 : Int) (v3 : Int) (v4 : Int) (v5 : Int) (h0 : v2 = v3 + 1 ∧ v4 = v0 ∨ v2 = v3 ∧ 1 ≤ v4) (h1 : v4 ≤ v5) (h2 : v5 = 0) : (1 ≤ v0 → 1 ≤ v1) := by omega
theorem om487 (v0 : Int) (v1 : Int) (h0 : v0 < v1) : v0 = 0 → 1 ≤ v1 := by omega
set_option maxHeartbeats 4000000 in
set_option maxRecDepth 100000 in
/-- X12_isFull on (0,) -/
theorem jm_X12_isFull (l : Launch) (hlt : l.stackTraces = false) (D : va_G) (t3 : Nat × Nat × Nat) (cI cJ : ClassId) (ad : Nat → Nat) (g : Nat → Int32) (lg : Nat → Int64) (ar : Nat → Nat → Int32) (bk : Nat → Int64) (sz : Nat) (y1 : Int32) (hr0 : 1 ≤ (y1).toInt ∧ (y1).toInt ≤ 300) (hi_g53 : 0 ≤ (g 53).toInt ∧ (g 53).toInt ≤ 3000) (hi_g17 : 0 ≤ (g 17).toInt ∧ (g 17).toInt ≤ 3000) : JMi l yX12_isFull (Cond.code yX12_isFull cX12_isFull 2 (some .boolean) :: wwM) { frames := 0, cells := 0, slots := 0, locals := 0 } t3 D mw cI cJ ad [.ref (ad 0), .int y1] (mw cI cJ ad g lg ar bk) sz 0 0 (fun (r : Int32) g' lg' ar' bk' => g = g' ∧ lg = lg' ∧ ar = ar' ∧ bk = bk' ∧ ((r).toInt = 0 → (g 53).toInt + (g 17).toInt + (y1).toInt ≤ 3000)) (fun g' lg' ar' bk' => False) := by
  refine jx_metz (cc := cX12_isFull) (maxL := 2) (ret := (some .boolean)) rfl (by decide) rfl (Nat.le_of_ble_eq_true rfl) ?_
  intro p e s m args below meth c ls Q A hx hb hml hown hts hA hZ hw hl hQ kr kt
  have hq : ∀ w ∈ wwM, w.before args s = true := fun w h => hts w (List.mem_cons_of_mem _ h)
  have hl : lv_has ls 2 [(0, .ref (ad 0)), (1, .int y1)] := hl
  refine lv_aload_n hx hb dX12_isFull_0 rfl (lv_at hl 0 rfl) ?_
  refine hk_get (ci := 15) (C := RX12) (T := TX12) (N := 92) (v := .int (g 53)) hx hb hts (fun _ h => List.mem_cons_of_mem _ (wwMc_wsX120 _ h)) hown hw 0 rfl rfl 82 (by decide) (hq _ wM_189) rfl dX12_isFull_1 ?_
  refine lv_aload_n hx hb dX12_isFull_4 rfl (lv_at hl 0 rfl) ?_
  refine hk_get (ci := 15) (C := RX12) (T := TX12) (N := 92) (v := .int (g 17)) hx hb hts (fun _ h => List.mem_cons_of_mem _ (wwMc_wsX120 _ h)) hown hw 0 rfl rfl 26 (by decide) (hq _ wM_82) rfl dX12_isFull_5 ?_
  refine lv_iadd hx hb dX12_isFull_8 (jx_nm fun z1 hz1 => ?_)
  have xz1 : (z1).toInt = (g 53).toInt + (g 17).toInt := (hE_imp (hE_add hz1) (om322 ((g 53).toInt) ((g 17).toInt) hi_g53 hi_g17))
  refine lv_iload_n hx hb dX12_isFull_9 rfl (lv_at hl 1 rfl) ?_
  refine lv_iadd hx hb dX12_isFull_10 (jx_nm fun z2 hz2 => ?_)
  have xz2 : (z2).toInt = (z1).toInt + (y1).toInt := (hE_imp (hE_add hz2) (om323 ((z1).toInt) ((y1).toInt) ((g 53).toInt) ((g 17).toInt) hr0 xz1 hi_g53 hi_g17))
  refine lv_sipush (v := 3000) hx hb dX12_isFull_11 (by decide) ?_
  refine lv_icmp_le (tgt := 21) hx hb dX12_isFull_14 (by decide) (fun cc3 => ?_) (fun cc3 => ?_)
  · refine lv_iconst (v := 0) hx hb dX12_isFull_21 (by decide) ?_
    exact kr 0 g lg ar bk _ _ _ _ rfl ⟨rfl, rfl, rfl, rfl, (om324 (((0 : Int32)).toInt) ((g 53).toInt) ((g 17).toInt) ((y1).toInt) ((z1).toInt) ((z2).toInt) (((3000 : Int32)).toInt) xz1 xz2 (hE_le cc3) (by decide))⟩ hw dX12_isFull_22
  · refine lv_iconst (v := 1) hx hb dX12_isFull_17 (by decide) ?_
    refine lv_goto (tgt := 22) hx hb dX12_isFull_18 (by decide) ?_
    exact kr 1 g lg ar bk _ _ _ _ rfl ⟨rfl, rfl, rfl, rfl, (om325 (((1 : Int32)).toInt) ((g 53).toInt) ((g 17).toInt) ((y1).toInt) (by decide))⟩ hw dX12_isFull_22

set_option maxHeartbeats 4000000 in
set_option maxRecDepth 100000 in
/-- X12_literal on (0,) -/
theorem jm_X12_literal (l : Launch) (hlt : l.stackTraces = false) (D : va_G) (t3 : Nat × Nat × Nat) (cI cJ : ClassId) (ad : Nat → Nat) (g : Nat → Int32) (lg : Nat → Int64) (ar : Nat → Nat → Int32) (bk : Nat → Int64) (sz : Nat) (hr0 : (g 55).toInt = 0) (hi_g49 : 0 ≤ (g 49).toInt ∧ (g 49).toInt ≤ 1500) (hi_g51 : 0 ≤ (g 51).toInt ∧ (g 51).toInt ≤ 15) (hi_g52 : 0 ≤ (g 52).toInt ∧ (g 52).toInt ≤ 3000) (hi_g53 : 0 ≤ (g 53).toInt ∧ (g 53).toInt ≤ 3000) (hi_g55 : 0 ≤ (g 55).toInt ∧ (g 55).toInt ≤ 1) (hi_tfull : (g 53).toInt + (g 17).toInt ≤ 3000) (hi_tst : 0 ≤ (g 18).toInt ∧ (g 18).toInt ≤ (g 53).toInt + (g 17).toInt + (g 55).toInt) (hi_g24 : 1 ≤ (g 24).toInt ∧ (g 24).toInt ≤ 3000) (hi_g25 : 1 ≤ (g 25).toInt ∧ (g 25).toInt ≤ 3000) (hi_g26 : 1 ≤ (g 26).toInt ∧ (g 26).toInt ≤ 3000) (hi_g27 : 1 ≤ (g 27).toInt ∧ (g 27).toInt ≤ 3000) (hi_g29 : 0 ≤ (g 29).toInt ∧ (g 29).toInt ≤ 4) (hi_g30 : 0 ≤ (g 30).toInt ∧ (g 30).toInt ≤ 4) (hi_tnow : (g 29).toInt + (g 30).toInt ≤ 4) (hi_g31 : 0 ≤ (g 31).toInt ∧ (g 31).toInt ≤ 4) (hi_g12 : 0 ≤ (g 12).toInt ∧ (g 12).toInt ≤ 1500) (hi_a0rg : hk_rg 0 255 (ar 0)) (hi_g17 : 0 ≤ (g 17).toInt ∧ (g 17).toInt ≤ 3000) (hi_g23 : 0 ≤ (g 23).toInt ∧ (g 23).toInt ≤ 11) (hi_a6rg : hk_rg 0 255 (ar 6)) : JMv l yX12_literal (Cond.code yX12_literal cX12_literal 9 none :: wwM) { frames := 4, cells := 0, slots := 0, locals := 85 } t3 D mw cI cJ ad [.ref (ad 0)] (mw cI cJ ad g lg ar bk) sz 0 0 (fun g' lg' ar' bk' => hk_fr [17, 18, 23, 28, 49, 51] g g' ∧ hk_fr [3, 4] lg lg' ∧ hk_fr [6, 7, 8, 9, 10, 16] ar ar' ∧ bk = bk' ∧ ((g 49).toInt ≤ (g' 49).toInt) ∧ ((1 ≤ (g 51).toInt → 1 ≤ (g' 51).toInt)) ∧ ((g 17).toInt ≤ (g' 17).toInt) ∧ ((g 17).toInt < (g' 17).toInt ∨ 1 ≤ (g' 51).toInt) ∧ ((g' 55).toInt = 0) ∧ (0 ≤ (g' 49).toInt ∧ (g' 49).toInt ≤ 1500) ∧ (0 ≤ (g' 51).toInt ∧ (g' 51).toInt ≤ 15) ∧ ((g' 53).toInt + (g' 17).toInt ≤ 3000) ∧ (0 ≤ (g' 18).toInt ∧ (g' 18).toInt ≤ (g' 53).toInt + (g' 17).toInt + (g' 55).toInt) ∧ (0 ≤ (g' 17).toInt ∧ (g' 17).toInt ≤ 3000) ∧ (0 ≤ (g' 23).toInt ∧ (g' 23).toInt ≤ 11) ∧ hk_rg 0 255 (ar' 6)) (fun g' lg' ar' bk' => False) := by
  refine jx_metv (cc := cX12_literal) (maxL := 9) (ret := none) rfl (by decide) rfl (Nat.le_of_ble_eq_true rfl) ?_
  intro p e s m args below meth c ls Q A hx hb hml hown hts hA hZ hw hl hQ kr kt
  have hq : ∀ w ∈ wwM, w.before args s = true := fun w h => hts w (List.mem_cons_of_mem _ h)
  have hl : lv_has ls 9 [(0, .ref (ad 0))] := hl
  refine lv_aload_n hx hb dX12_literal_0 rfl (lv_at hl 0 rfl) ?_
  refine hk_get (ci := 15) (C := RX12) (T := TX12) (N := 92) (v := .int (g 17)) hx hb hts (fun _ h => List.mem_cons_of_mem _ (wwMc_wsX120 _ h)) hown hw 0 rfl rfl 26 (by decide) (hq _ wM_82) rfl dX12_literal_1 ?_
  refine lv_aload_n hx hb dX12_literal_4 rfl (lv_at hl 0 rfl) ?_
  refine hk_get (ci := 15) (C := RX12) (T := TX12) (N := 92) (v := .int (g 52)) hx hb hts (fun _ h => List.mem_cons_of_mem _ (wwMc_wsX120 _ h)) hown hw 0 rfl rfl 81 (by decide) (hq _ wM_83) rfl dX12_literal_5 ?_
  have B1 : ∀  (x2 : Int32) (ls : Array Slot) (H : Heap) (locs : List Loc), (0 ≤ (x2).toInt ∧ (x2).toInt ≤ 255) → hk_W D (jT cI cJ) A s H locs (mw cI cJ ad g lg ar bk) → lv_has ls 9 [(0, .ref (ad 0))] → W p l e { frames := 4, cells := 0, slots := 0, locals := 85 } s m args below meth c H locs 0 0 Q (F0 m 26 ls [.int x2]) := by
    intro x2 ls H locs hf_B1_0 hw hl
    refine lv_istore_n (lv' := [(1, .int x2), (0, .ref (ad 0))]) hx hb dX12_literal_26 rfl hl (by decide) rfl (fun ls hl => ?_)
    refine lv_aload_n hx hb dX12_literal_27 rfl (lv_at hl 1 rfl) ?_
    refine lv_iload_n hx hb dX12_literal_28 rfl (lv_at hl 0 rfl) ?_
    refine jx_Vi (As := [.int x2]) (rest := []) ⟨hx, hb, hml, hown, hts⟩ hZ hw hA (jm_X12_literalAt l hlt D t3 cI cJ ad g lg ar bk _ x2 (om34 ((x2).toInt) hf_B1_0) (om257 ((g 29).toInt) hi_g29) (om257 ((g 30).toInt) hi_g30) (om326 ((g 29).toInt) ((g 30).toInt) hi_tnow)) (cwV 1 hts (jx_gV wwM_good wM_231 wM_232 wM_233 wM_8 wM_234) rfl rfl rfl (by decide +kernel) ⟨Nat.le_of_ble_eq_true rfl, Nat.le_of_ble_eq_true rfl⟩) 0 (ci := 15) (T := TX12) (N := 92) rfl rfl rfl hl.1 rfl (Nat.le_of_ble_eq_true rfl) dX12_literal_29 ⟨Nat.le_of_ble_eq_true rfl, Nat.le_of_ble_eq_true rfl⟩ (fun _ _ _ _ _ _ _ _ hp _ _ _ _ => hp.elim) (fun r7 g8 l9 a10 b11 H locs hp12 hw => ?_)
    obtain ⟨rfl, rfl, rfl, rfl, h17⟩ := hp12
    refine lv_istore_n (lv' := [(2, .int r7), (1, .int x2), (0, .ref (ad 0))]) hx hb dX12_literal_32 rfl hl (by decide) rfl (fun ls hl => ?_)
    refine lv_aload_n hx hb dX12_literal_33 rfl (lv_at hl 2 rfl) ?_
    refine hk_get (ci := 15) (C := RX12) (T := TX12) (N := 92) (v := .int (g 23)) hx hb hts (fun _ h => List.mem_cons_of_mem _ (wwMc_wsX120 _ h)) hown hw 0 rfl rfl 43 (by decide) (hq _ wM_31) rfl dX12_literal_34 ?_
    refine lv_bipush (v := 7) hx hb dX12_literal_37 (by decide) ?_
    have B18 : ∀  (x19 : Int32) (ls : Array Slot) (H : Heap) (locs : List Loc), (0 ≤ (x19).toInt ∧ (x19).toInt ≤ 1) → hk_W D (jT cI cJ) A s H locs (mw cI cJ ad g lg ar bk) → lv_has ls 9 [(0, .ref (ad 0)), (2, .int r7)] → W p l e { frames := 4, cells := 0, slots := 0, locals := 85 } s m args below meth c H locs 0 0 Q (F0 m 47 ls [.int x19]) := by
      intro x19 ls H locs hf_B18_0 hw hl
      refine lv_istore_n (lv' := [(3, .int x19), (0, .ref (ad 0)), (2, .int r7)]) hx hb dX12_literal_47 rfl hl (by decide) rfl (fun ls hl => ?_)
      refine lv_iload_n hx hb dX12_literal_48 rfl (lv_at hl 0 rfl) ?_
      have B20 : ∀  (x21 : Int32) (ls : Array Slot) (H : Heap) (locs : List Loc), (0 ≤ (x21).toInt ∧ (x21).toInt ≤ 255) → hk_W D (jT cI cJ) A s H locs (mw cI cJ ad g lg ar bk) → lv_has ls 9 [(0, .ref (ad 0)), (2, .int r7), (3, .int x19)] → W p l e { frames := 4, cells := 0, slots := 0, locals := 85 } s m args below meth c H locs 0 0 Q (F0 m 86 ls [.int x21]) := by
        intro x21 ls H locs hf_B20_0 hw hl
        refine lv_istore (lv' := [(4, .int x21), (0, .ref (ad 0)), (2, .int r7), (3, .int x19)]) hx hb dX12_literal_86 hl (by decide) rfl (fun ls hl => ?_)
        refine lv_iconst (v := 1) hx hb dX12_literal_88 (by decide) ?_
        refine lv_istore (lv' := [(5, .int 1), (4, .int x21), (0, .ref (ad 0)), (2, .int r7), (3, .int x19)]) hx hb dX12_literal_89 hl (by decide) rfl (fun ls hl => ?_)
        refine lv_bipush (v := 7) hx hb dX12_literal_91 (by decide) ?_
        refine lv_istore (lv' := [(6, .int 7), (5, .int 1), (4, .int x21), (0, .ref (ad 0)), (2, .int r7), (3, .int x19)]) hx hb dX12_literal_93 hl (by decide) rfl (fun ls hl => ?_)
        have B22 : ∀ (k29 : Nat) (x23 : Int32) (x24 : Int32) (x25 : Int32) (g26 : Nat → Int32) (l27 : Nat → Int64) (a28 : Nat → Nat → Int32) (ls : Array Slot) (H : Heap) (locs : List Loc), ((x25).toInt + 2147483649 ≤ (k29 : Int)) → ((x25).toInt ≤ 7 ∧ -1 ≤ (x25).toInt) → (1 ≤ (x24).toInt ∧ (x24).toInt ≤ 511) → ((7 - (x25).toInt = 0 → 1 ≤ (x24).toInt ∧ (x24).toInt ≤ 1) ∧ (7 - (x25).toInt = 1 → 2 ≤ (x24).toInt ∧ (x24).toInt ≤ 3) ∧ (7 - (x25).toInt = 2 → 4 ≤ (x24).toInt ∧ (x24).toInt ≤ 7) ∧ (7 - (x25).toInt = 3 → 8 ≤ (x24).toInt ∧ (x24).toInt ≤ 15) ∧ (7 - (x25).toInt = 4 → 16 ≤ (x24).toInt ∧ (x24).toInt ≤ 31) ∧ (7 - (x25).toInt = 5 → 32 ≤ (x24).toInt ∧ (x24).toInt ≤ 63) ∧ (7 - (x25).toInt = 6 → 64 ≤ (x24).toInt ∧ (x24).toInt ≤ 127) ∧ (7 - (x25).toInt = 7 → 128 ≤ (x24).toInt ∧ (x24).toInt ≤ 255) ∧ (7 - (x25).toInt = 8 → 256 ≤ (x24).toInt ∧ (x24).toInt ≤ 511)) → ((x25).toInt ≤ 7) → ((g 49).toInt ≤ (g26 49).toInt) → (1 ≤ (g 51).toInt → 1 ≤ (g26 51).toInt) → (0 ≤ (g26 49).toInt ∧ (g26 49).toInt ≤ 1500) → (0 ≤ (g26 51).toInt ∧ (g26 51).toInt ≤ 15) → (hk_fr [49, 51] g g26) → (hk_fr [3, 4] lg l27) → (hk_fr [16] ar a28) → hk_W D (jT cI cJ) A s H locs (mw cI cJ ad g26 l27 a28 bk) → lv_has ls 9 [(0, .ref (ad 0)), (2, .int r7), (3, .int x23), (4, .int x21), (5, .int x24), (6, .int x25)] → W p l e { frames := 4, cells := 0, slots := 0, locals := 85 } s m args below meth c H locs 0 0 Q (F0 m 95 ls []) := by
          intro k29
          induction k29 with
          | zero =>
            intro x23 x24 x25 g26 l27 a28 ls H locs hrk_B22 hf_B22_0 hf_B22_1 hf_B22_2 hf_B22_3 hf_B22_4 hf_B22_5 hf_B22_6 hf_B22_7 hfr_g26 hfr_l27 hfr_a28 hw hl
            exact False.elim (hk_no0 (0 * (x25).toInt) (om327 ((x25).toInt) hf_B22_0 hrk_B22) (by simp))
          | succ k29 ih_B22 =>
            intro x23 x24 x25 g26 l27 a28 ls H locs hrk_B22 hf_B22_0 hf_B22_1 hf_B22_2 hf_B22_3 hf_B22_4 hf_B22_5 hf_B22_6 hf_B22_7 hfr_g26 hfr_l27 hfr_a28 hw hl
            have hrk_B22 := hk_rk hrk_B22
            refine lv_iload hx hb dX12_literal_95 (lv_at hl 5 rfl) ?_
            refine lv_if_lt (tgt := 173) hx hb dX12_literal_97 (by decide) (fun cc30 => ?_) (fun cc30 => ?_)
            · refine lv_aload_n hx hb dX12_literal_173 rfl (lv_at hl 0 rfl) ?_
              refine hk_get (ci := 15) (C := RX12) (T := TX12) (N := 92) (v := .int (g26 51)) hx hb hts (fun _ h => List.mem_cons_of_mem _ (wwMc_wsX120 _ h)) hown hw 0 rfl rfl 78 (by decide) (hq _ wM_63) rfl dX12_literal_174 ?_
              refine lv_if_le (tgt := 181) hx hb dX12_literal_177 (by decide) (fun cc31 => ?_) (fun cc31 => ?_)
              · refine lv_aload_n hx hb dX12_literal_181 rfl (lv_at hl 0 rfl) ?_
                refine lv_iconst (v := 1) hx hb dX12_literal_182 (by decide) ?_
                have e_g26_53 : g26 53 = (g 53) := (hfr_g26 53 rfl)
                have e_g26_17 : g26 17 = (g 17) := (hfr_g26 17 rfl)
                refine jx_Vi (As := [.int 1]) (rest := []) ⟨hx, hb, hml, hown, hts⟩ hZ hw hA (jm_X12_isFull l hlt D t3 cI cJ ad g26 l27 a28 bk _ 1 (om328 (((1 : Int32)).toInt) (by decide)) (om141 ((g26 53).toInt) ((g 53).toInt) (congrArg Int32.toInt e_g26_53) hi_g53) (om141 ((g26 17).toInt) ((g 17).toInt) (congrArg Int32.toInt e_g26_17) hi_g17)) (cwV 1 hts (jx_gV wwM_good wM_185 wM_186 wM_187 wM_8 wM_188) rfl rfl rfl (by decide +kernel) ⟨Nat.le_of_ble_eq_true rfl, Nat.le_of_ble_eq_true rfl⟩) 0 (ci := 15) (T := TX12) (N := 92) rfl rfl rfl hl.1 rfl (Nat.le_of_ble_eq_true rfl) dX12_literal_183 ⟨Nat.le_of_ble_eq_true rfl, Nat.le_of_ble_eq_true rfl⟩ (fun _ _ _ _ _ _ _ _ hp _ _ _ _ => hp.elim) (fun r36 g37 l38 a39 b40 H locs hp41 hw => ?_)
                obtain ⟨rfl, rfl, rfl, rfl, h46⟩ := hp41
                have e_g26_53 : g26 53 = (g 53) := (hfr_g26 53 rfl)
                have e_g26_17 : g26 17 = (g 17) := (hfr_g26 17 rfl)
                refine lv_if_eq (tgt := 196) hx hb dX12_literal_186 (by decide) (fun cc47 => ?_) (fun cc47 => ?_)
                · refine lv_aload_n hx hb dX12_literal_196 rfl (lv_at hl 0 rfl) ?_
                  refine lv_iconst (v := 0) hx hb dX12_literal_197 (by decide) ?_
                  refine lv_aload_n hx hb dX12_literal_198 rfl (lv_at hl 0 rfl) ?_
                  refine hk_get (ci := 15) (C := RX12) (T := TX12) (N := 92) (v := .int (g 53)) hx hb hts (fun _ h => List.mem_cons_of_mem _ (wwMc_wsX120 _ h)) hown hw 0 rfl rfl 82 (by decide) (hq _ wM_189) (congrArg (fun z => some (Value.int z)) e_g26_53) dX12_literal_199 ?_
                  refine lv_aload_n hx hb dX12_literal_202 rfl (lv_at hl 0 rfl) ?_
                  refine hk_get (ci := 15) (C := RX12) (T := TX12) (N := 92) (v := .int (g 17)) hx hb hts (fun _ h => List.mem_cons_of_mem _ (wwMc_wsX120 _ h)) hown hw 0 rfl rfl 26 (by decide) (hq _ wM_82) (congrArg (fun z => some (Value.int z)) e_g26_17) dX12_literal_203 ?_
                  refine lv_iadd hx hb dX12_literal_206 (jx_nm fun z48 hz48 => ?_)
                  have xz48 : (z48).toInt = (g 53).toInt + (g 17).toInt := (hE_imp (hE_add hz48) (om329 ((g 53).toInt) ((g 17).toInt) hi_g53 hi_tfull hi_g17))
                  refine lv_iconst (v := 1) hx hb dX12_literal_207 (by decide) ?_
                  refine lv_iconst (v := 0) hx hb dX12_literal_208 (by decide) ?_
                  have e_g26_18 : g26 18 = (g 18) := (hfr_g26 18 rfl)
                  refine jx_Vv (As := [.int 0, .int z48, .int 1, .int 0]) (rest := []) ⟨hx, hb, hml, hown, hts⟩ hZ hw hA (jm_X12_addStep l hlt D t3 cI cJ ad g26 l27 a28 bk _ 0 z48 1 0 (om330 ((g26 18).toInt) ((g 18).toInt) ((g 53).toInt) ((g 17).toInt) ((g 55).toInt) (congrArg Int32.toInt e_g26_18) hi_tst hr0 hi_tfull)) (cwV 4 hts (jx_gV wwM_good wM_190 wM_191 wM_192 wM_8 wM_193) rfl rfl rfl (by decide +kernel) ⟨Nat.le_of_ble_eq_true rfl, Nat.le_of_ble_eq_true rfl⟩) 0 (ci := 15) (T := TX12) (N := 92) rfl rfl rfl hl.1 rfl (Nat.le_of_ble_eq_true rfl) dX12_literal_209 ⟨Nat.le_of_ble_eq_true rfl, Nat.le_of_ble_eq_true rfl⟩ (fun _ _ _ _ _ _ _ _ hp _ _ _ _ => hp.elim) (fun g54 l55 a56 b57 H locs hp58 hw => ?_)
                  obtain ⟨h59, rfl, h61, rfl, h63⟩ := hp58
                  have e_g26_18 : g26 18 = (g 18) := (hfr_g26 18 rfl)
                  have hr64 : hk_rg 0 255 (a56 0) := (hk_pE (P := hk_rg 0 255) (hk_pE (P := hk_rg 0 255) hi_a0rg (hfr_a28 0 rfl)) (h61 0 rfl))
                  have hr65 : hk_rg 0 255 (a56 6) := (hk_pE (P := hk_rg 0 255) (hk_pE (P := hk_rg 0 255) hi_a6rg (hfr_a28 6 rfl)) (h61 6 rfl))
                  refine lv_aload_n hx hb dX12_literal_212 rfl (lv_at hl 0 rfl) ?_
                  refine hk_get (ci := 15) (C := RX12) (T := TX12) (N := 92) (v := .ref (ad 7)) hx hb hts (fun _ h => List.mem_cons_of_mem _ (wwMc_wsX120 _ h)) hown hw 0 rfl rfl 25 (by decide) (hq _ wM_110) rfl dX12_literal_213 ?_
                  refine lv_aload_n hx hb dX12_literal_216 rfl (lv_at hl 0 rfl) ?_
                  have e_g54_17 : g54 17 = (g 17) := ((h59 17 rfl)).trans e_g26_17
                  refine hk_get (ci := 15) (C := RX12) (T := TX12) (N := 92) (v := .int (g 17)) hx hb hts (fun _ h => List.mem_cons_of_mem _ (wwMc_wsX120 _ h)) hown hw 0 rfl rfl 26 (by decide) (hq _ wM_82) (congrArg (fun z => some (Value.int z)) e_g54_17) dX12_literal_217 ?_
                  refine lv_iload hx hb dX12_literal_220 (lv_at hl 4 rfl) ?_
                  refine lv_sipush (v := 255) hx hb dX12_literal_222 (by decide) ?_
                  refine lv_iand hx hb dX12_literal_225 (jx_nm fun z66 hz66 => ?_)
                  refine jx_iast mw (cI := cI) (cJ := cJ) (ad := ad) (g := g54) (lg := l27) (ar := a56) (bk := bk) 6 hx hb hw 7 0 rfl rfl (hE_in (n := 3000) (om331 ((g 17).toInt) ((g26 17).toInt) ((g 53).toInt) ((g26 53).toInt) ((r36).toInt) (((1 : Int32)).toInt) (((0 : Int32)).toInt) hi_g17 (congrArg Int32.toInt e_g26_17) hi_g53 (congrArg Int32.toInt e_g26_53) h46 (hE_eq cc47) (by decide) (by decide))) dX12_literal_226 rfl (fun H locs a67 h_a67 hw => ?_)
                  have hr68 : hk_rg 0 255 (a67 6) := (hk_rgS h_a67 hr65 (om8 ((z66).toInt) ((x24).toInt) (hE_and 8 256 hz66 (by decide) (by decide) (by decide))))
                  refine lv_aload_n hx hb dX12_literal_227 rfl (lv_at hl 0 rfl) ?_
                  refine lv_dup hx hb dX12_literal_228 rfl ?_
                  refine hk_get (ci := 15) (C := RX12) (T := TX12) (N := 92) (v := .int (g 17)) hx hb hts (fun _ h => List.mem_cons_of_mem _ (wwMc_wsX120 _ h)) hown hw 0 rfl rfl 26 (by decide) (hq _ wM_82) (congrArg (fun z => some (Value.int z)) e_g54_17) dX12_literal_229 ?_
                  refine lv_iconst (v := 1) hx hb dX12_literal_232 (by decide) ?_
                  refine lv_iadd hx hb dX12_literal_233 (jx_nm fun z69 hz69 => ?_)
                  have xz69 : (z69).toInt = (g 17).toInt + ((1 : Int32)).toInt := (hE_imp (hE_add hz69) (om332 ((g 17).toInt) (((1 : Int32)).toInt) hi_g17 (by decide)))
                  refine jx_putg mw (cI := cI) (cJ := cJ) (ad := ad) (g := g54) (lg := l27) (ar := a67) (bk := bk) (x := z69) 17 (ci := 15) (C := RX12) (T := TX12) (N := 92) (ty := .int) hx hb hts (fun _ h => List.mem_cons_of_mem _ (wwMc_wsX120 _ h)) tyX12 tyX12_ok nmX12 hown hw 0 rfl rfl 26 (by decide) (hq _ wM_82) rfl (by decide +kernel) rfl rfl (Nat.le_of_ble_eq_true rfl) dX12_literal_234 rfl (fun H locs g70 h_g70 hw => ?_)
                  refine lv_aload_n hx hb dX12_literal_237 rfl (lv_at hl 0 rfl) ?_
                  refine lv_dup hx hb dX12_literal_238 rfl ?_
                  have e_g70_28 : g70 28 = (g 28) := ((hk_upgN h_g70 28 rfl)).trans (((h59 28 rfl)).trans (hfr_g26 28 rfl))
                  refine hk_get (ci := 15) (C := RX12) (T := TX12) (N := 92) (v := .int (g 28)) hx hb hts (fun _ h => List.mem_cons_of_mem _ (wwMc_wsX120 _ h)) hown hw 0 rfl rfl 48 (by decide) (hq _ wM_84) (congrArg (fun z => some (Value.int z)) e_g70_28) dX12_literal_239 ?_
                  refine lv_iconst (v := 1) hx hb dX12_literal_242 (by decide) ?_
                  refine lv_iadd hx hb dX12_literal_243 (jx_nm fun z71 hz71 => ?_)
                  refine jx_putg mw (cI := cI) (cJ := cJ) (ad := ad) (g := g70) (lg := l27) (ar := a67) (bk := bk) (x := z71) 28 (ci := 15) (C := RX12) (T := TX12) (N := 92) (ty := .int) hx hb hts (fun _ h => List.mem_cons_of_mem _ (wwMc_wsX120 _ h)) tyX12 tyX12_ok nmX12 hown hw 0 rfl rfl 48 (by decide) (hq _ wM_84) rfl (by decide +kernel) rfl rfl (Nat.le_of_ble_eq_true rfl) dX12_literal_244 rfl (fun H locs g72 h_g72 hw => ?_)
                  refine lv_aload_n hx hb dX12_literal_247 rfl (lv_at hl 0 rfl) ?_
                  have e_g72_23 : g72 23 = (g 23) := ((hk_upgN h_g72 23 rfl)).trans (((hk_upgN h_g70 23 rfl)).trans (((h59 23 rfl)).trans (hfr_g26 23 rfl)))
                  refine jx_Vv (As := []) (rest := []) ⟨hx, hb, hml, hown, hts⟩ hZ hw hA (jm_X12_afterLiteral l hlt D t3 cI cJ ad g72 l27 a67 bk _ (om333 ((g72 23).toInt) ((g 23).toInt) (congrArg Int32.toInt e_g72_23) hi_g23)) (cwV 0 hts (jx_gV wwM_good wM_235 wM_236 wM_237 wM_8 wM_238) rfl rfl rfl (by decide +kernel) ⟨Nat.le_of_ble_eq_true rfl, Nat.le_of_ble_eq_true rfl⟩) 0 (ci := 15) (T := TX12) (N := 92) rfl rfl rfl hl.1 rfl (Nat.le_of_ble_eq_true rfl) dX12_literal_248 ⟨Nat.le_of_ble_eq_true rfl, Nat.le_of_ble_eq_true rfl⟩ (fun _ _ _ _ _ _ _ _ hp _ _ _ _ => hp.elim) (fun g78 l79 a80 b81 H locs hp82 hw => ?_)
                  obtain ⟨h83, rfl, rfl, rfl, h87, h88⟩ := hp82
                  have e_g78_49 : g78 49 = (g26 49) := ((h83 49 rfl)).trans (((hk_upgN h_g72 49 rfl)).trans (((hk_upgN h_g70 49 rfl)).trans (h59 49 rfl)))
                  have e_g78_51 : g78 51 = (g26 51) := ((h83 51 rfl)).trans (((hk_upgN h_g72 51 rfl)).trans (((hk_upgN h_g70 51 rfl)).trans (h59 51 rfl)))
                  have e_g78_17 : g78 17 = z69 := ((h83 17 rfl)).trans (((hk_upgN h_g72 17 rfl)).trans (hk_upgS h_g70))
                  have e_g78_55 : g78 55 = (g 55) := ((h83 55 rfl)).trans (((hk_upgN h_g72 55 rfl)).trans (((hk_upgN h_g70 55 rfl)).trans (((h59 55 rfl)).trans (hfr_g26 55 rfl))))
                  have e_g78_53 : g78 53 = (g 53) := ((h83 53 rfl)).trans (((hk_upgN h_g72 53 rfl)).trans (((hk_upgN h_g70 53 rfl)).trans (((h59 53 rfl)).trans e_g26_53)))
                  have e_g78_18 : g78 18 = (g54 18) := ((h83 18 rfl)).trans (((hk_upgN h_g72 18 rfl)).trans (hk_upgN h_g70 18 rfl))
                  exact kr g78 l27 a67 bk _ _ _ _ ⟨(hk_frT (hk_frG (hk_frG (hk_frT (hk_frT hk_fr0 (by decide) hfr_g26) (by decide) h59) (by decide) h_g70) (by decide) h_g72) (by decide) h83), hfr_l27, (hk_frA (hk_frT (hk_frT hk_fr0 (by decide) hfr_a28) (by decide) h61) (by decide) h_a67), rfl, (om212 ((g 49).toInt) ((g78 49).toInt) ((g26 49).toInt) hf_B22_4 (congrArg Int32.toInt e_g78_49)), (om334 ((g 51).toInt) ((g78 51).toInt) ((g26 51).toInt) hf_B22_5 (congrArg Int32.toInt e_g78_51)), (om198 ((g 17).toInt) ((g78 17).toInt) ((z69).toInt) (((1 : Int32)).toInt) xz69 (congrArg Int32.toInt e_g78_17) (by decide)), (om335 ((g 17).toInt) ((g78 17).toInt) ((g78 51).toInt) ((z69).toInt) (((1 : Int32)).toInt) xz69 (congrArg Int32.toInt e_g78_17) (by decide)), (om336 ((g78 55).toInt) ((g 55).toInt) (congrArg Int32.toInt e_g78_55) hr0 hi_g55), (om21 ((g78 49).toInt) ((g26 49).toInt) (congrArg Int32.toInt e_g78_49) hf_B22_6), (om200 ((g78 51).toInt) ((g26 51).toInt) (((0 : Int32)).toInt) (congrArg Int32.toInt e_g78_51) hf_B22_7 (hE_le cc31) (by decide)), (om337 ((g78 53).toInt) ((g78 17).toInt) ((z69).toInt) ((g 53).toInt) ((g26 53).toInt) ((g 17).toInt) (((1 : Int32)).toInt) ((g26 17).toInt) ((r36).toInt) (((0 : Int32)).toInt) (congrArg Int32.toInt e_g78_17) (congrArg Int32.toInt e_g78_53) (congrArg Int32.toInt e_g26_53) xz69 (congrArg Int32.toInt e_g26_17) h46 (hE_eq cc47) (by decide)), (om338 ((g78 18).toInt) ((g78 53).toInt) ((g78 17).toInt) ((g78 55).toInt) ((z69).toInt) ((g 55).toInt) ((g 53).toInt) ((g54 18).toInt) ((g 18).toInt) ((g 17).toInt) ((g26 18).toInt) (((1 : Int32)).toInt) (congrArg Int32.toInt e_g78_17) (congrArg Int32.toInt e_g78_55) (congrArg Int32.toInt e_g78_53) (congrArg Int32.toInt e_g78_18) hi_tst h63 xz69 (congrArg Int32.toInt e_g26_18) (congrArg Int32.toInt e_g26_18) (by decide)), (om339 ((g78 17).toInt) ((z69).toInt) ((g 17).toInt) (((1 : Int32)).toInt) ((g26 17).toInt) ((r36).toInt) ((g26 53).toInt) ((g 53).toInt) (((0 : Int32)).toInt) (congrArg Int32.toInt e_g78_17) xz69 hi_g17 (congrArg Int32.toInt e_g26_17) h46 hi_g53 (congrArg Int32.toInt e_g26_53) (hE_eq cc47) (by decide) (by decide)), (om340 ((g78 23).toInt) h87 h88), hr68⟩ hw dX12_literal_251
                · refine lv_aload_n hx hb dX12_literal_189 rfl (lv_at hl 0 rfl) ?_
                  refine lv_bipush (v := 13) hx hb dX12_literal_190 (by decide) ?_
                  refine jx_Vv (As := [.int 13]) (rest := []) ⟨hx, hb, hml, hown, hts⟩ hZ hw hA (jm_X12_fail l hlt D t3 cI cJ ad g26 l27 a28 bk _ 13 (om341 (((13 : Int32)).toInt) (by decide)) (om189 ((g26 51).toInt) (((0 : Int32)).toInt) hf_B22_7 (hE_le cc31) (by decide))) (cwV 1 hts (jx_gV wwM_good wM_64 wM_65 wM_66 wM_8 wM_67) rfl rfl rfl (by decide +kernel) ⟨Nat.le_of_ble_eq_true rfl, Nat.le_of_ble_eq_true rfl⟩) 0 (ci := 15) (T := TX12) (N := 92) rfl rfl rfl hl.1 rfl (Nat.le_of_ble_eq_true rfl) dX12_literal_192 ⟨Nat.le_of_ble_eq_true rfl, Nat.le_of_ble_eq_true rfl⟩ (fun _ _ _ _ _ _ _ _ hp _ _ _ _ => hp.elim) (fun g94 l95 a96 b97 H locs hp98 hw => ?_)
                  obtain ⟨h99, rfl, rfl, rfl, h103, h104⟩ := hp98
                  have e_g94_49 : g94 49 = (g26 49) := (h99 49 rfl)
                  have e_g94_17 : g94 17 = (g 17) := ((h99 17 rfl)).trans e_g26_17
                  have e_g94_55 : g94 55 = (g 55) := ((h99 55 rfl)).trans (hfr_g26 55 rfl)
                  have e_g94_53 : g94 53 = (g 53) := ((h99 53 rfl)).trans e_g26_53
                  have e_g94_18 : g94 18 = (g 18) := ((h99 18 rfl)).trans (hfr_g26 18 rfl)
                  have e_g94_23 : g94 23 = (g 23) := ((h99 23 rfl)).trans (hfr_g26 23 rfl)
                  exact kr g94 l27 a28 bk _ _ _ _ ⟨(hk_frT (hk_frT hk_fr0 (by decide) hfr_g26) (by decide) h99), hfr_l27, (hk_frT hk_fr0 (by decide) hfr_a28), rfl, (om212 ((g 49).toInt) ((g94 49).toInt) ((g26 49).toInt) hf_B22_4 (congrArg Int32.toInt e_g94_49)), (om342 ((g 51).toInt) ((g94 51).toInt) h103), (om192 ((g 17).toInt) ((g94 17).toInt) (congrArg Int32.toInt e_g94_17)), (om343 ((g 17).toInt) ((g94 17).toInt) ((g94 51).toInt) h103), (om336 ((g94 55).toInt) ((g 55).toInt) (congrArg Int32.toInt e_g94_55) hr0 hi_g55), (om21 ((g94 49).toInt) ((g26 49).toInt) (congrArg Int32.toInt e_g94_49) hf_B22_6), (om193 ((g94 51).toInt) h103 h104), (om344 ((g94 53).toInt) ((g94 17).toInt) ((g 17).toInt) ((g 53).toInt) (congrArg Int32.toInt e_g94_17) (congrArg Int32.toInt e_g94_53) hi_tfull), (om345 ((g94 18).toInt) ((g94 53).toInt) ((g94 17).toInt) ((g94 55).toInt) ((g 17).toInt) ((g 55).toInt) ((g 53).toInt) ((g 18).toInt) (congrArg Int32.toInt e_g94_17) (congrArg Int32.toInt e_g94_55) (congrArg Int32.toInt e_g94_53) (congrArg Int32.toInt e_g94_18) hi_tst), (om141 ((g94 17).toInt) ((g 17).toInt) (congrArg Int32.toInt e_g94_17) hi_g17), (om333 ((g94 23).toInt) ((g 23).toInt) (congrArg Int32.toInt e_g94_23) hi_g23), (hk_pE (P := hk_rg 0 255) hi_a6rg (hfr_a28 6 rfl))⟩ hw dX12_literal_195
              · have e_g26_17 : g26 17 = (g 17) := (hfr_g26 17 rfl)
                have e_g26_55 : g26 55 = (g 55) := (hfr_g26 55 rfl)
                have e_g26_53 : g26 53 = (g 53) := (hfr_g26 53 rfl)
                have e_g26_18 : g26 18 = (g 18) := (hfr_g26 18 rfl)
                have e_g26_23 : g26 23 = (g 23) := (hfr_g26 23 rfl)
                exact kr g26 l27 a28 bk _ _ _ _ ⟨(hk_frT hk_fr0 (by decide) hfr_g26), hfr_l27, (hk_frT hk_fr0 (by decide) hfr_a28), rfl, (om204 ((g 49).toInt) ((g26 49).toInt) hf_B22_4), (om346 ((g 51).toInt) ((g26 51).toInt) (((0 : Int32)).toInt) (hE_nle cc31) (by decide)), (om192 ((g 17).toInt) ((g26 17).toInt) (congrArg Int32.toInt e_g26_17)), (om347 ((g 17).toInt) ((g26 17).toInt) ((g26 51).toInt) (((0 : Int32)).toInt) (hE_nle cc31) (by decide)), (om336 ((g26 55).toInt) ((g 55).toInt) (congrArg Int32.toInt e_g26_55) hr0 hi_g55), (om202 ((g26 49).toInt) hf_B22_6), (om203 ((g26 51).toInt) (((0 : Int32)).toInt) hf_B22_7 (hE_nle cc31) (by decide)), (om344 ((g26 53).toInt) ((g26 17).toInt) ((g 17).toInt) ((g 53).toInt) (congrArg Int32.toInt e_g26_17) (congrArg Int32.toInt e_g26_53) hi_tfull), (om345 ((g26 18).toInt) ((g26 53).toInt) ((g26 17).toInt) ((g26 55).toInt) ((g 17).toInt) ((g 55).toInt) ((g 53).toInt) ((g 18).toInt) (congrArg Int32.toInt e_g26_17) (congrArg Int32.toInt e_g26_55) (congrArg Int32.toInt e_g26_53) (congrArg Int32.toInt e_g26_18) hi_tst), (om141 ((g26 17).toInt) ((g 17).toInt) (congrArg Int32.toInt e_g26_17) hi_g17), (om333 ((g26 23).toInt) ((g 23).toInt) (congrArg Int32.toInt e_g26_23) hi_g23), (hk_pE (P := hk_rg 0 255) hi_a6rg (hfr_a28 6 rfl))⟩ hw dX12_literal_180
            · refine lv_iload hx hb dX12_literal_100 (lv_at hl 3 rfl) ?_
              refine lv_iload hx hb dX12_literal_102 (lv_at hl 5 rfl) ?_
              refine lv_ishr hx hb dX12_literal_104 (jx_nm fun z105 hz105 => ?_)
              refine lv_iconst (v := 1) hx hb dX12_literal_105 (by decide) ?_
              refine lv_iand hx hb dX12_literal_106 (jx_nm fun z106 hz106 => ?_)
              refine lv_istore (lv' := [(7, .int z106), (0, .ref (ad 0)), (2, .int r7), (3, .int x23), (4, .int x21), (5, .int x24), (6, .int x25)]) hx hb dX12_literal_107 hl (by decide) rfl (fun ls hl => ?_)
              refine lv_aload_n hx hb dX12_literal_109 rfl (lv_at hl 1 rfl) ?_
              refine lv_iload_n hx hb dX12_literal_110 rfl (lv_at hl 3 rfl) ?_
              have B107 : ∀  (x108 : Int32) (ls : Array Slot) (H : Heap) (locs : List Loc), (0 ≤ (x108).toInt ∧ (x108).toInt < 14344) → hk_W D (jT cI cJ) A s H locs (mw cI cJ ad g26 l27 a28 bk) → lv_has ls 9 [(0, .ref (ad 0)), (2, .int r7), (3, .int x23), (4, .int x21), (5, .int x24), (6, .int x25), (7, .int z106)] → W p l e { frames := 4, cells := 0, slots := 0, locals := 85 } s m args below meth c H locs 0 0 Q (F0 m 136 ls [.int x108, .ref (ad 0)]) := by
                intro x108 ls H locs hf_B107_0 hw hl
                have e_g26_12 : g26 12 = (g 12) := (hfr_g26 12 rfl)
                refine jx_Vi (As := [.int x108]) (rest := []) ⟨hx, hb, hml, hown, hts⟩ hZ hw hA (jm_X12_getBit l hlt D t3 cI cJ ad g26 l27 a28 bk _ x108 (om348 ((x108).toInt) hf_B107_0) (om202 ((g26 49).toInt) hf_B22_6) (om206 ((g26 51).toInt) hf_B22_7) (om21 ((g26 12).toInt) ((g 12).toInt) (congrArg Int32.toInt e_g26_12) hi_g12) (hk_pE (P := hk_rg 0 255) hi_a0rg (hfr_a28 0 rfl))) (cwV 1 hts (jx_gV wwM_good wM_139 wM_140 wM_141 wM_8 wM_142) rfl rfl rfl (by decide +kernel) ⟨Nat.le_of_ble_eq_true rfl, Nat.le_of_ble_eq_true rfl⟩) 0 (ci := 15) (T := TX12) (N := 92) rfl rfl rfl hl.1 rfl (Nat.le_of_ble_eq_true rfl) dX12_literal_136 ⟨Nat.le_of_ble_eq_true rfl, Nat.le_of_ble_eq_true rfl⟩ (fun _ _ _ _ _ _ _ _ hp _ _ _ _ => hp.elim) (fun r113 g114 l115 a116 b117 H locs hp118 hw => ?_)
                obtain ⟨h119, h120, h121, rfl, h123, h124, h125, h126, h127⟩ := hp118
                have hr128 : hk_rg 0 255 (a116 0) := (hk_pE (P := hk_rg 0 255) (hk_pE (P := hk_rg 0 255) hi_a0rg (hfr_a28 0 rfl)) (h121 0 rfl))
                have hr129 : hk_rg 0 255 (a116 6) := (hk_pE (P := hk_rg 0 255) (hk_pE (P := hk_rg 0 255) hi_a6rg (hfr_a28 6 rfl)) (h121 6 rfl))
                refine lv_istore (lv' := [(8, .int r113), (0, .ref (ad 0)), (2, .int r7), (3, .int x23), (4, .int x21), (5, .int x24), (6, .int x25), (7, .int z106)]) hx hb dX12_literal_139 hl (by decide) rfl (fun ls hl => ?_)
                refine lv_iload_n hx hb dX12_literal_141 rfl (lv_at hl 3 rfl) ?_
                have B130 : ∀  (x131 : Int32) (ls : Array Slot) (H : Heap) (locs : List Loc), (0 ≤ (x131).toInt ∧ (x131).toInt ≤ 1) → hk_W D (jT cI cJ) A s H locs (mw cI cJ ad g114 l115 a116 bk) → lv_has ls 9 [(0, .ref (ad 0)), (2, .int r7), (4, .int x21), (5, .int x24), (6, .int x25), (8, .int r113)] → W p l e { frames := 4, cells := 0, slots := 0, locals := 85 } s m args below meth c H locs 0 0 Q (F0 m 157 ls [.int x131]) := by
                  intro x131 ls H locs hf_B130_0 hw hl
                  refine lv_istore_n (lv' := [(3, .int x131), (0, .ref (ad 0)), (2, .int r7), (4, .int x21), (5, .int x24), (6, .int x25), (8, .int r113)]) hx hb dX12_literal_157 rfl hl (by decide) rfl (fun ls hl => ?_)
                  refine lv_iconst (v := 2) hx hb dX12_literal_158 (by decide) ?_
                  refine lv_iload hx hb dX12_literal_159 (lv_at hl 4 rfl) ?_
                  refine lv_imul hx hb dX12_literal_161 (jx_nm fun z132 hz132 => ?_)
                  have xz132 : (z132).toInt = (x24).toInt * 2 := (hE_imp (hE_mul' 2 hz132 (by decide)) (om232 ((x24).toInt) hf_B22_1))
                  refine lv_iload hx hb dX12_literal_162 (lv_at hl 6 rfl) ?_
                  refine lv_iadd hx hb dX12_literal_164 (jx_nm fun z133 hz133 => ?_)
                  have xz133 : (z133).toInt = (z132).toInt + (r113).toInt := (hE_imp (hE_add hz133) (om349 ((z132).toInt) ((r113).toInt) ((x24).toInt) h123 xz132 hf_B22_1 (hE_rng (z132))))
                  refine lv_istore (lv' := [(5, .int z133), (3, .int x131), (0, .ref (ad 0)), (2, .int r7), (4, .int x21), (6, .int x25), (8, .int r113)]) hx hb dX12_literal_165 hl (by decide) rfl (fun ls hl => ?_)
                  obtain ⟨z134, hz134⟩ : ∃ z : Int32, x25 + (-1) = z := ⟨_, rfl⟩
                  refine lv_iinc (v := z134) (lv' := [(6, .int z134), (5, .int z133), (3, .int x131), (0, .ref (ad 0)), (2, .int r7), (4, .int x21), (8, .int r113)]) hx hb dX12_literal_167 hl (k := 5) rfl hz134 (by decide) rfl (fun ls hl => ?_)
                  have xz134 : (z134).toInt = (x25).toInt + (((-1) : Int32)).toInt := (hE_imp (hE_add hz134) (om350 ((x25).toInt) ((((-1) : Int32)).toInt) (((0 : Int32)).toInt) hf_B22_0 (hE_nlt cc30) (by decide) (by decide)))
                  refine lv_goto (tgt := 95) hx hb dX12_literal_170 (by decide) ?_
                  exact ih_B22 x131 z133 z134 g114 l115 a116 ls _ _ (om113 ((z134).toInt) (k29 : Int) ((x25).toInt) ((((-1) : Int32)).toInt) hrk_B22 xz134 (by decide)) (om351 ((z134).toInt) ((x25).toInt) ((((-1) : Int32)).toInt) (((0 : Int32)).toInt) xz134 hf_B22_0 (hE_nlt cc30) (by decide) (by decide)) (om352 ((z133).toInt) ((z132).toInt) ((r113).toInt) ((x24).toInt) ((x25).toInt) (((0 : Int32)).toInt) xz133 h123 xz132 hf_B22_1 hf_B22_2 hf_B22_0 (hE_nlt cc30) (by decide)) (om353 ((z134).toInt) ((z133).toInt) ((z132).toInt) ((r113).toInt) ((x25).toInt) ((((-1) : Int32)).toInt) ((x24).toInt) (((0 : Int32)).toInt) xz133 xz134 hf_B22_0 hf_B22_2 hf_B22_3 (hE_nlt cc30) h123 xz132 hf_B22_1 (by decide) (by decide)) (om354 ((z134).toInt) ((x25).toInt) ((((-1) : Int32)).toInt) xz134 hf_B22_0 (by decide)) (om209 ((g 49).toInt) ((g114 49).toInt) ((g26 49).toInt) hf_B22_4 h124) (om239 ((g 51).toInt) ((g114 51).toInt) ((g26 51).toInt) hf_B22_5 h125) (om202 ((g114 49).toInt) h126) (om206 ((g114 51).toInt) h127) (hk_frT hfr_g26 (by decide) h119) (hk_frT hfr_l27 (by decide) h120) (hk_frT hfr_a28 (by decide) h121) hw (lv_sub hl [3, 4, 2, 5, 1, 0] rfl)
                have B135 : ∀  (ls : Array Slot) (H : Heap) (locs : List Loc), hk_W D (jT cI cJ) A s H locs (mw cI cJ ad g114 l115 a116 bk) → lv_has ls 9 [(0, .ref (ad 0)), (2, .int r7), (4, .int x21), (5, .int x24), (6, .int x25), (8, .int r113)] → W p l e { frames := 4, cells := 0, slots := 0, locals := 85 } s m args below meth c H locs 0 0 Q (F0 m 156 ls []) := by
                  intro ls H locs hw hl
                  refine lv_iconst (v := 0) hx hb dX12_literal_156 (by decide) ?_
                  exact B130 0 ls _ _ (om226 (((0 : Int32)).toInt) (by decide)) hw (lv_sub hl [0, 1, 2, 3, 4, 5] rfl)
                refine lv_if_eq (tgt := 156) hx hb dX12_literal_142 (by decide) (fun cc136 => ?_) (fun cc136 => ?_)
                · exact B135 ls _ _ hw (lv_sub hl [1, 2, 4, 5, 6, 0] rfl)
                · refine lv_iload hx hb dX12_literal_145 (lv_at hl 0 rfl) ?_
                  refine lv_iload hx hb dX12_literal_147 (lv_at hl 7 rfl) ?_
                  refine lv_icmp_ne (tgt := 156) hx hb dX12_literal_149 (by decide) (fun cc137 => ?_) (fun cc137 => ?_)
                  · exact B135 ls _ _ hw (lv_sub hl [1, 2, 4, 5, 6, 0] rfl)
                  · refine lv_iconst (v := 1) hx hb dX12_literal_152 (by decide) ?_
                    refine lv_goto (tgt := 157) hx hb dX12_literal_153 (by decide) ?_
                    exact B130 1 ls _ _ (om225 (((1 : Int32)).toInt) (by decide)) hw (lv_sub hl [1, 2, 4, 5, 6, 0] rfl)
              refine lv_if_eq (tgt := 132) hx hb dX12_literal_111 (by decide) (fun cc138 => ?_) (fun cc138 => ?_)
              · refine lv_iload_n hx hb dX12_literal_132 rfl (lv_at hl 2 rfl) ?_
                refine lv_iload hx hb dX12_literal_133 (lv_at hl 5 rfl) ?_
                refine lv_iadd hx hb dX12_literal_135 (jx_nm fun z139 hz139 => ?_)
                have xz139 : (z139).toInt = (r7).toInt + (x24).toInt := (hE_imp (hE_add hz139) (om355 ((r7).toInt) ((x24).toInt) h17 hf_B22_1))
                exact B107 z139 ls _ _ (om356 ((z139).toInt) ((r7).toInt) ((x24).toInt) xz139 h17 hf_B22_1) hw (lv_sub hl [1, 2, 3, 4, 5, 6, 0] rfl)
              · refine lv_iload_n hx hb dX12_literal_114 rfl (lv_at hl 2 rfl) ?_
                refine lv_sipush (v := 256) hx hb dX12_literal_115 (by decide) ?_
                refine lv_iadd hx hb dX12_literal_118 (jx_nm fun z140 hz140 => ?_)
                have xz140 : (z140).toInt = (r7).toInt + ((256 : Int32)).toInt := (hE_imp (hE_add hz140) (om357 ((r7).toInt) (((256 : Int32)).toInt) h17 (by decide)))
                refine lv_sipush (v := 256) hx hb dX12_literal_119 (by decide) ?_
                refine lv_iload hx hb dX12_literal_122 (lv_at hl 0 rfl) ?_
                refine lv_imul hx hb dX12_literal_124 (jx_nm fun z141 hz141 => ?_)
                have xz141 : (z141).toInt = (z106).toInt * 256 := (hE_imp (hE_mul' 256 hz141 (by decide)) (om358 ((z106).toInt) ((z105).toInt) (hE_and 1 2 hz106 (by decide) (by decide) (by decide))))
                refine lv_iadd hx hb dX12_literal_125 (jx_nm fun z142 hz142 => ?_)
                have xz142 : (z142).toInt = (z140).toInt + (z141).toInt := (hE_imp (hE_add hz142) (om359 ((z140).toInt) ((z141).toInt) ((r7).toInt) (((256 : Int32)).toInt) ((z106).toInt) ((z105).toInt) xz140 xz141 h17 (hE_and 1 2 hz106 (by decide) (by decide) (by decide)) (hE_rng (z141)) (by decide)))
                refine lv_iload hx hb dX12_literal_126 (lv_at hl 5 rfl) ?_
                refine lv_iadd hx hb dX12_literal_128 (jx_nm fun z143 hz143 => ?_)
                have xz143 : (z143).toInt = (z142).toInt + (x24).toInt := (hE_imp (hE_add hz143) (om360 ((z142).toInt) ((x24).toInt) ((z140).toInt) ((z141).toInt) ((r7).toInt) (((256 : Int32)).toInt) ((z106).toInt) ((z105).toInt) hf_B22_1 xz142 xz140 xz141 h17 (hE_and 1 2 hz106 (by decide) (by decide) (by decide)) (hE_rng (z141)) (by decide)))
                refine lv_goto (tgt := 136) hx hb dX12_literal_129 (by decide) ?_
                exact B107 z143 ls _ _ (om361 ((z143).toInt) ((z142).toInt) ((x24).toInt) ((x25).toInt) ((z140).toInt) ((z141).toInt) (((0 : Int32)).toInt) ((r7).toInt) (((256 : Int32)).toInt) ((z106).toInt) ((z105).toInt) xz143 hf_B22_1 hf_B22_2 xz142 hf_B22_0 (hE_nlt cc30) xz140 xz141 h17 (hE_and 1 2 hz106 (by decide) (by decide) (by decide)) (by decide) (by decide)) hw (lv_sub hl [1, 2, 3, 4, 5, 6, 0] rfl)
        exact B22 (((7 : Int32)).toInt + 2147483649).toNat x19 1 7 g lg ar ls _ _ (Int.self_le_toNat _) (om362 (((7 : Int32)).toInt) (by decide)) (om241 (((1 : Int32)).toInt) (by decide)) (om363 (((7 : Int32)).toInt) (((1 : Int32)).toInt) (by decide) (by decide)) (om364 (((7 : Int32)).toInt) (by decide)) (om122 ((g 49).toInt)) (om211 ((g 51).toInt)) (om202 ((g 49).toInt) hi_g49) (om206 ((g 51).toInt) hi_g51) hk_fr0 hk_fr0 hk_fr0 hw (lv_sub hl [3, 4, 5, 2, 1, 0] rfl)
      have B144 : ∀  (ls : Array Slot) (H : Heap) (locs : List Loc), hk_W D (jT cI cJ) A s H locs (mw cI cJ ad g lg ar bk) → lv_has ls 9 [(0, .ref (ad 0)), (2, .int r7), (3, .int x19)] → W p l e { frames := 4, cells := 0, slots := 0, locals := 85 } s m args below meth c H locs 0 0 Q (F0 m 85 ls []) := by
        intro ls H locs hw hl
        refine lv_iconst (v := 0) hx hb dX12_literal_85 (by decide) ?_
        exact B20 0 ls _ _ (om190 (((0 : Int32)).toInt) (by decide)) hw (lv_sub hl [0, 1, 2] rfl)
      refine lv_if_eq (tgt := 85) hx hb dX12_literal_49 (by decide) (fun cc145 => ?_) (fun cc145 => ?_)
      · exact B144 ls _ _ hw (lv_sub hl [1, 2, 0] rfl)
      · refine lv_aload_n hx hb dX12_literal_52 rfl (lv_at hl 1 rfl) ?_
        refine hk_get (ci := 15) (C := RX12) (T := TX12) (N := 92) (v := .int (g 24)) hx hb hts (fun _ h => List.mem_cons_of_mem _ (wwMc_wsX120 _ h)) hown hw 0 rfl rfl 44 (by decide) (hq _ wM_40) rfl dX12_literal_53 ?_
        refine lv_aload_n hx hb dX12_literal_56 rfl (lv_at hl 1 rfl) ?_
        refine hk_get (ci := 15) (C := RX12) (T := TX12) (N := 92) (v := .int (g 17)) hx hb hts (fun _ h => List.mem_cons_of_mem _ (wwMc_wsX120 _ h)) hown hw 0 rfl rfl 26 (by decide) (hq _ wM_82) rfl dX12_literal_57 ?_
        refine lv_aload_n hx hb dX12_literal_60 rfl (lv_at hl 1 rfl) ?_
        refine hk_get (ci := 15) (C := RX12) (T := TX12) (N := 92) (v := .int (g 52)) hx hb hts (fun _ h => List.mem_cons_of_mem _ (wwMc_wsX120 _ h)) hown hw 0 rfl rfl 81 (by decide) (hq _ wM_83) rfl dX12_literal_61 ?_
        refine lv_isub hx hb dX12_literal_64 (jx_nm fun z146 hz146 => ?_)
        have xz146 : (z146).toInt = (g 17).toInt - (g 52).toInt := (hE_imp (hE_sub hz146) (om365 ((g 17).toInt) ((g 52).toInt) hi_g52 hi_g17))
        refine lv_icmp_gt (tgt := 85) hx hb dX12_literal_65 (by decide) (fun cc147 => ?_) (fun cc147 => ?_)
        · exact B144 ls _ _ hw (lv_sub hl [1, 2, 0] rfl)
        · refine lv_aload_n hx hb dX12_literal_68 rfl (lv_at hl 1 rfl) ?_
          refine hk_get (ci := 15) (C := RX12) (T := TX12) (N := 92) (v := .ref (ad 7)) hx hb hts (fun _ h => List.mem_cons_of_mem _ (wwMc_wsX120 _ h)) hown hw 0 rfl rfl 25 (by decide) (hq _ wM_110) rfl dX12_literal_69 ?_
          refine lv_aload_n hx hb dX12_literal_72 rfl (lv_at hl 1 rfl) ?_
          refine hk_get (ci := 15) (C := RX12) (T := TX12) (N := 92) (v := .int (g 17)) hx hb hts (fun _ h => List.mem_cons_of_mem _ (wwMc_wsX120 _ h)) hown hw 0 rfl rfl 26 (by decide) (hq _ wM_82) rfl dX12_literal_73 ?_
          refine lv_aload_n hx hb dX12_literal_76 rfl (lv_at hl 1 rfl) ?_
          refine hk_get (ci := 15) (C := RX12) (T := TX12) (N := 92) (v := .int (g 24)) hx hb hts (fun _ h => List.mem_cons_of_mem _ (wwMc_wsX120 _ h)) hown hw 0 rfl rfl 44 (by decide) (hq _ wM_40) rfl dX12_literal_77 ?_
          refine lv_isub hx hb dX12_literal_80 (jx_nm fun z148 hz148 => ?_)
          have xz148 : (z148).toInt = (g 17).toInt - (g 24).toInt := (hE_imp (hE_sub hz148) (om366 ((g 17).toInt) ((g 24).toInt) ((z146).toInt) ((g 52).toInt) hi_g24 hi_g17 xz146 (hE_nlt cc147) hi_g52))
          refine jx_iald hx hb hw 7 0 rfl rfl (hE_in (n := 3000) (om367 ((z148).toInt) ((g 17).toInt) ((g 24).toInt) ((z146).toInt) ((g 52).toInt) xz148 hi_g24 hi_g17 xz146 (hE_nlt cc147) hi_g52)) dX12_literal_81 (fun z149 hz149 => ?_)
          refine lv_goto (tgt := 86) hx hb dX12_literal_82 (by decide) ?_
          exact B20 z149 ls _ _ (om34 ((z149).toInt) (hk_rgV hi_a6rg hz149)) hw (lv_sub hl [1, 2, 0] rfl)
    refine lv_icmp_lt (tgt := 46) hx hb dX12_literal_39 (by decide) (fun cc150 => ?_) (fun cc150 => ?_)
    · refine lv_iconst (v := 0) hx hb dX12_literal_46 (by decide) ?_
      exact B18 0 ls _ _ (om226 (((0 : Int32)).toInt) (by decide)) hw (lv_sub hl [2, 0] rfl)
    · refine lv_iconst (v := 1) hx hb dX12_literal_42 (by decide) ?_
      refine lv_goto (tgt := 47) hx hb dX12_literal_43 (by decide) ?_
      exact B18 1 ls _ _ (om225 (((1 : Int32)).toInt) (by decide)) hw (lv_sub hl [2, 0] rfl)
  refine lv_icmp_le (tgt := 25) hx hb dX12_literal_8 (by decide) (fun cc151 => ?_) (fun cc151 => ?_)
  · refine lv_iconst (v := 0) hx hb dX12_literal_25 (by decide) ?_
    exact B1 0 ls _ _ (om190 (((0 : Int32)).toInt) (by decide)) hw (lv_sub hl [0] rfl)
  · refine lv_aload_n hx hb dX12_literal_11 rfl (lv_at hl 0 rfl) ?_
    refine hk_get (ci := 15) (C := RX12) (T := TX12) (N := 92) (v := .ref (ad 7)) hx hb hts (fun _ h => List.mem_cons_of_mem _ (wwMc_wsX120 _ h)) hown hw 0 rfl rfl 25 (by decide) (hq _ wM_110) rfl dX12_literal_12 ?_
    refine lv_aload_n hx hb dX12_literal_15 rfl (lv_at hl 0 rfl) ?_
    refine hk_get (ci := 15) (C := RX12) (T := TX12) (N := 92) (v := .int (g 17)) hx hb hts (fun _ h => List.mem_cons_of_mem _ (wwMc_wsX120 _ h)) hown hw 0 rfl rfl 26 (by decide) (hq _ wM_82) rfl dX12_literal_16 ?_
    refine lv_iconst (v := 1) hx hb dX12_literal_19 (by decide) ?_
    refine lv_isub hx hb dX12_literal_20 (jx_nm fun z152 hz152 => ?_)
    have xz152 : (z152).toInt = (g 17).toInt - ((1 : Int32)).toInt := (hE_imp (hE_sub hz152) (om368 ((g 17).toInt) (((1 : Int32)).toInt) ((g 52).toInt) hi_g17 (hE_nle cc151) hi_g52 (by decide)))
    refine jx_iald hx hb hw 7 0 rfl rfl (hE_in (n := 3000) (om369 ((z152).toInt) ((g 17).toInt) (((1 : Int32)).toInt) ((g 52).toInt) xz152 hi_g17 (hE_nle cc151) hi_g52 (by decide))) dX12_literal_21 (fun z153 hz153 => ?_)
    refine lv_goto (tgt := 26) hx hb dX12_literal_22 (by decide) ?_
    exact B1 z153 ls _ _ (om34 ((z153).toInt) (hk_rgV hi_a6rg hz153)) hw (lv_sub hl [0] rfl)

set_option maxHeartbeats 4000000 in
set_option maxRecDepth 100000 in
/-- X12_copies on (0,) -/
theorem jm_X12_copies (l : Launch) (hlt : l.stackTraces = false) (D : va_G) (t3 : Nat × Nat × Nat) (cI cJ : ClassId) (ad : Nat → Nat) (g : Nat → Int32) (lg : Nat → Int64) (ar : Nat → Nat → Int32) (bk : Nat → Int64) (sz : Nat) (y1 : Int32) (y2 : Int32) (y3 : Int64) (hr0 : 1 ≤ (y2).toInt ∧ (y2).toInt ≤ 273) (hr1 : 1 ≤ (y3).toInt) (hi_g49 : 0 ≤ (g 49).toInt ∧ (g 49).toInt ≤ 1500) (hi_g51 : 0 ≤ (g 51).toInt ∧ (g 51).toInt ≤ 15) (hi_g52 : 0 ≤ (g 52).toInt ∧ (g 52).toInt ≤ 3000) (hi_g53 : 0 ≤ (g 53).toInt ∧ (g 53).toInt ≤ 3000) (hi_g55 : 0 ≤ (g 55).toInt ∧ (g 55).toInt ≤ 1) (hi_tfull : (g 53).toInt + (g 17).toInt ≤ 3000) (hi_tst : 0 ≤ (g 18).toInt ∧ (g 18).toInt ≤ (g 53).toInt + (g 17).toInt + (g 55).toInt) (hi_g24 : 1 ≤ (g 24).toInt ∧ (g 24).toInt ≤ 3000) (hi_g25 : 1 ≤ (g 25).toInt ∧ (g 25).toInt ≤ 3000) (hi_g26 : 1 ≤ (g 26).toInt ∧ (g 26).toInt ≤ 3000) (hi_g27 : 1 ≤ (g 27).toInt ∧ (g 27).toInt ≤ 3000) (hi_g17 : 0 ≤ (g 17).toInt ∧ (g 17).toInt ≤ 3000) (hi_a6rg : hk_rg 0 255 (ar 6)) : JMi l yX12_copies (Cond.code yX12_copies cX12_copies 6 (some .boolean) :: wwM) { frames := 1, cells := 0, slots := 0, locals := 24 } t3 D mw cI cJ ad [.ref (ad 0), .int y1, .int y2, .long y3] (mw cI cJ ad g lg ar bk) sz 0 0 (fun (r : Int32) g' lg' ar' bk' => hk_fr [17, 18, 28, 51] g g' ∧ lg = lg' ∧ hk_fr [6, 7, 8, 9, 10] ar ar' ∧ bk = bk' ∧ (0 ≤ (r).toInt ∧ (r).toInt ≤ 1) ∧ ((1 ≤ (g 51).toInt → 1 ≤ (g' 51).toInt)) ∧ ((g 17).toInt ≤ (g' 17).toInt) ∧ ((r).toInt = 1 → (g' 17).toInt = (g 17).toInt + (y2).toInt ∧ (y3).toInt ≤ 3000) ∧ ((r).toInt = 0 → 1 ≤ (g' 51).toInt) ∧ (0 ≤ (g' 51).toInt ∧ (g' 51).toInt ≤ 15) ∧ ((g' 53).toInt + (g' 17).toInt ≤ 3000) ∧ (0 ≤ (g' 18).toInt ∧ (g' 18).toInt ≤ (g' 53).toInt + (g' 17).toInt + (g' 55).toInt) ∧ (0 ≤ (g' 17).toInt ∧ (g' 17).toInt ≤ 3000) ∧ hk_rg 0 255 (ar' 6)) (fun g' lg' ar' bk' => False) := by
  refine jx_metz (cc := cX12_copies) (maxL := 6) (ret := (some .boolean)) rfl (by decide) rfl (Nat.le_of_ble_eq_true rfl) ?_
  intro p e s m args below meth c ls Q A hx hb hml hown hts hA hZ hw hl hQ kr kt
  have hq : ∀ w ∈ wwM, w.before args s = true := fun w h => hts w (List.mem_cons_of_mem _ h)
  have hl : lv_has ls 6 [(0, .ref (ad 0)), (1, .int y1), (2, .int y2), (3, .long y3)] := hl
  refine lv_aload_n hx hb dX12_copies_0 rfl (lv_at hl 0 rfl) ?_
  refine hk_get (ci := 15) (C := RX12) (T := TX12) (N := 92) (v := .int (g 51)) hx hb hts (fun _ h => List.mem_cons_of_mem _ (wwMc_wsX120 _ h)) hown hw 0 rfl rfl 78 (by decide) (hq _ wM_63) rfl dX12_copies_1 ?_
  refine lv_if_le (tgt := 9) hx hb dX12_copies_4 (by decide) (fun cc1 => ?_) (fun cc1 => ?_)
  · refine lv_lload_n hx hb dX12_copies_9 rfl (lv_at hl 3 rfl) ?_
    refine lv_aload_n hx hb dX12_copies_10 rfl (lv_at hl 0 rfl) ?_
    refine hk_get (ci := 15) (C := RX12) (T := TX12) (N := 92) (v := .long (lg 5)) hx hb hts (fun _ h => List.mem_cons_of_mem _ (wwMc_wsX120 _ h)) hown hw 0 rfl rfl 80 (by decide) (hq _ wM_184) rfl dX12_copies_11 ?_
    have B2 : ∀  (ls : Array Slot) (H : Heap) (locs : List Loc), hk_W D (jT cI cJ) A s H locs (mw cI cJ ad g lg ar bk) → lv_has ls 6 [(0, .ref (ad 0))] → W p l e { frames := 1, cells := 0, slots := 0, locals := 24 } s m args below meth c H locs 0 0 Q (F0 m 33 ls []) := by
      intro ls H locs hw hl
      refine lv_aload_n hx hb dX12_copies_33 rfl (lv_at hl 0 rfl) ?_
      refine lv_iconst (v := 4) hx hb dX12_copies_34 (by decide) ?_
      refine jx_Vv (As := [.int 4]) (rest := []) ⟨hx, hb, hml, hown, hts⟩ hZ hw hA (jm_X12_fail l hlt D t3 cI cJ ad g lg ar bk _ 4 (om370 (((4 : Int32)).toInt) (by decide)) (om189 ((g 51).toInt) (((0 : Int32)).toInt) hi_g51 (hE_le cc1) (by decide))) (cwV 1 hts (jx_gV wwM_good wM_64 wM_65 wM_66 wM_8 wM_67) rfl rfl rfl (by decide +kernel) ⟨Nat.le_of_ble_eq_true rfl, Nat.le_of_ble_eq_true rfl⟩) 0 (ci := 15) (T := TX12) (N := 92) rfl rfl rfl hl.1 rfl (Nat.le_of_ble_eq_true rfl) dX12_copies_35 ⟨Nat.le_of_ble_eq_true rfl, Nat.le_of_ble_eq_true rfl⟩ (fun _ _ _ _ _ _ _ _ hp _ _ _ _ => hp.elim) (fun g8 l9 a10 b11 H locs hp12 hw => ?_)
      obtain ⟨h13, rfl, rfl, rfl, h17, h18⟩ := hp12
      refine lv_iconst (v := 0) hx hb dX12_copies_38 (by decide) ?_
      have e_g8_17 : g8 17 = (g 17) := (h13 17 rfl)
      have e_g8_53 : g8 53 = (g 53) := (h13 53 rfl)
      have e_g8_18 : g8 18 = (g 18) := (h13 18 rfl)
      have e_g8_55 : g8 55 = (g 55) := (h13 55 rfl)
      exact kr 0 g8 lg ar bk _ _ _ _ rfl ⟨(hk_frT hk_fr0 (by decide) h13), rfl, hk_fr0, rfl, (om226 (((0 : Int32)).toInt) (by decide)), (om371 ((g 51).toInt) ((g8 51).toInt) (((0 : Int32)).toInt) (hE_le cc1) h17 (by decide)), (om192 ((g 17).toInt) ((g8 17).toInt) (congrArg Int32.toInt e_g8_17)), (om372 (((0 : Int32)).toInt) ((g8 17).toInt) ((g 17).toInt) ((y2).toInt) ((y3).toInt) (by decide)), (om373 (((0 : Int32)).toInt) ((g8 51).toInt) h17), (om193 ((g8 51).toInt) h17 h18), (om344 ((g8 53).toInt) ((g8 17).toInt) ((g 17).toInt) ((g 53).toInt) (congrArg Int32.toInt e_g8_17) (congrArg Int32.toInt e_g8_53) hi_tfull), (om374 ((g8 18).toInt) ((g8 53).toInt) ((g8 17).toInt) ((g8 55).toInt) ((g 17).toInt) ((g 53).toInt) ((g 18).toInt) ((g 55).toInt) (congrArg Int32.toInt e_g8_17) (congrArg Int32.toInt e_g8_53) (congrArg Int32.toInt e_g8_18) (congrArg Int32.toInt e_g8_55) hi_tst), (om141 ((g8 17).toInt) ((g 17).toInt) (congrArg Int32.toInt e_g8_17) hi_g17), hi_a6rg⟩ hw dX12_copies_39
    refine hk_lcmp_gt (tgt := 33) hx hb dX12_copies_14 dX12_copies_15 (by decide) (fun cc19 => ?_) (fun cc19 => ?_)
    · exact B2 ls _ _ hw (lv_sub hl [0] rfl)
    · refine lv_lload_n hx hb dX12_copies_18 rfl (lv_at hl 3 rfl) ?_
      refine lv_aload_n hx hb dX12_copies_19 rfl (lv_at hl 0 rfl) ?_
      refine hk_get (ci := 15) (C := RX12) (T := TX12) (N := 92) (v := .int (g 17)) hx hb hts (fun _ h => List.mem_cons_of_mem _ (wwMc_wsX120 _ h)) hown hw 0 rfl rfl 26 (by decide) (hq _ wM_82) rfl dX12_copies_20 ?_
      refine lv_aload_n hx hb dX12_copies_23 rfl (lv_at hl 0 rfl) ?_
      refine hk_get (ci := 15) (C := RX12) (T := TX12) (N := 92) (v := .int (g 52)) hx hb hts (fun _ h => List.mem_cons_of_mem _ (wwMc_wsX120 _ h)) hown hw 0 rfl rfl 81 (by decide) (hq _ wM_83) rfl dX12_copies_24 ?_
      refine lv_isub hx hb dX12_copies_27 (jx_nm fun z20 hz20 => ?_)
      have xz20 : (z20).toInt = (g 17).toInt - (g 52).toInt := (hE_imp (hE_sub hz20) (om365 ((g 17).toInt) ((g 52).toInt) hi_g52 hi_g17))
      refine lv_i2l hx hb dX12_copies_28 rfl (jx_nl fun z21 hz21 => ?_)
      refine hk_lcmp_le (tgt := 40) hx hb dX12_copies_29 dX12_copies_30 (by decide) (fun cc22 => ?_) (fun cc22 => ?_)
      · refine lv_aload_n hx hb dX12_copies_40 rfl (lv_at hl 0 rfl) ?_
        refine hk_get (ci := 15) (C := RX12) (T := TX12) (N := 92) (v := .int (g 54)) hx hb hts (fun _ h => List.mem_cons_of_mem _ (wwMc_wsX120 _ h)) hown hw 0 rfl rfl 83 (by decide) (hq _ wM_93) rfl dX12_copies_41 ?_
        have B23 : ∀  (ls : Array Slot) (H : Heap) (locs : List Loc), hk_W D (jT cI cJ) A s H locs (mw cI cJ ad g lg ar bk) → lv_has ls 6 [(0, .ref (ad 0)), (1, .int y1), (2, .int y2), (3, .long y3)] → W p l e { frames := 1, cells := 0, slots := 0, locals := 24 } s m args below meth c H locs 0 0 Q (F0 m 68 ls []) := by
          intro ls H locs hw hl
          refine lv_aload_n hx hb dX12_copies_68 rfl (lv_at hl 0 rfl) ?_
          refine lv_iload_n hx hb dX12_copies_69 rfl (lv_at hl 2 rfl) ?_
          refine jx_Vi (As := [.int y2]) (rest := []) ⟨hx, hb, hml, hown, hts⟩ hZ hw hA (jm_X12_isFull l hlt D t3 cI cJ ad g lg ar bk _ y2 (om375 ((y2).toInt) hr0) (om376 ((g 53).toInt) ((g 17).toInt) ((z20).toInt) ((g 52).toInt) ((z21).toInt) ((y3).toInt) hi_g53 hi_tfull xz20 hi_g52 (hE_i2l hz21) (hE_leL cc22) hr1) (om377 ((g 17).toInt) ((z20).toInt) ((g 52).toInt) ((z21).toInt) ((y3).toInt) hi_g17 xz20 hi_g52 (hE_i2l hz21) (hE_leL cc22) hr1)) (cwV 1 hts (jx_gV wwM_good wM_185 wM_186 wM_187 wM_8 wM_188) rfl rfl rfl (by decide +kernel) ⟨Nat.le_of_ble_eq_true rfl, Nat.le_of_ble_eq_true rfl⟩) 0 (ci := 15) (T := TX12) (N := 92) rfl rfl rfl hl.1 rfl (Nat.le_of_ble_eq_true rfl) dX12_copies_70 ⟨Nat.le_of_ble_eq_true rfl, Nat.le_of_ble_eq_true rfl⟩ (fun _ _ _ _ _ _ _ _ hp _ _ _ _ => hp.elim) (fun r28 g29 l30 a31 b32 H locs hp33 hw => ?_)
          obtain ⟨rfl, rfl, rfl, rfl, h38⟩ := hp33
          refine lv_if_eq (tgt := 84) hx hb dX12_copies_73 (by decide) (fun cc39 => ?_) (fun cc39 => ?_)
          · refine lv_aload_n hx hb dX12_copies_84 rfl (lv_at hl 0 rfl) ?_
            refine lv_iload_n hx hb dX12_copies_85 rfl (lv_at hl 1 rfl) ?_
            refine lv_aload_n hx hb dX12_copies_86 rfl (lv_at hl 0 rfl) ?_
            refine hk_get (ci := 15) (C := RX12) (T := TX12) (N := 92) (v := .int (g 53)) hx hb hts (fun _ h => List.mem_cons_of_mem _ (wwMc_wsX120 _ h)) hown hw 0 rfl rfl 82 (by decide) (hq _ wM_189) rfl dX12_copies_87 ?_
            refine lv_aload_n hx hb dX12_copies_90 rfl (lv_at hl 0 rfl) ?_
            refine hk_get (ci := 15) (C := RX12) (T := TX12) (N := 92) (v := .int (g 17)) hx hb hts (fun _ h => List.mem_cons_of_mem _ (wwMc_wsX120 _ h)) hown hw 0 rfl rfl 26 (by decide) (hq _ wM_82) rfl dX12_copies_91 ?_
            refine lv_iadd hx hb dX12_copies_94 (jx_nm fun z40 hz40 => ?_)
            have xz40 : (z40).toInt = (g 53).toInt + (g 17).toInt := (hE_imp (hE_add hz40) (om378 ((g 53).toInt) ((g 17).toInt) ((z20).toInt) ((g 52).toInt) ((z21).toInt) ((y3).toInt) hi_g53 hi_tfull xz20 hi_g52 (hE_i2l hz21) (hE_leL cc22) hr1))
            refine lv_iload_n hx hb dX12_copies_95 rfl (lv_at hl 2 rfl) ?_
            refine lv_lload_n hx hb dX12_copies_96 rfl (lv_at hl 3 rfl) ?_
            refine lv_l2i hx hb dX12_copies_97 rfl (jx_nm fun z41 hz41 => ?_)
            refine jx_Vv (As := [.int y1, .int z40, .int y2, .int z41]) (rest := []) ⟨hx, hb, hml, hown, hts⟩ hZ hw hA (jm_X12_addStep l hlt D t3 cI cJ ad g lg ar bk _ y1 z40 y2 z41 (om380 ((g 18).toInt) ((g 53).toInt) ((g 17).toInt) ((g 55).toInt) hi_tst hi_g55 hi_tfull)) (cwV 4 hts (jx_gV wwM_good wM_190 wM_191 wM_192 wM_8 wM_193) rfl rfl rfl (by decide +kernel) ⟨Nat.le_of_ble_eq_true rfl, Nat.le_of_ble_eq_true rfl⟩) 0 (ci := 15) (T := TX12) (N := 92) rfl rfl rfl hl.1 rfl (Nat.le_of_ble_eq_true rfl) dX12_copies_98 ⟨Nat.le_of_ble_eq_true rfl, Nat.le_of_ble_eq_true rfl⟩ (fun _ _ _ _ _ _ _ _ hp _ _ _ _ => hp.elim) (fun g47 l48 a49 b50 H locs hp51 hw => ?_)
            obtain ⟨h52, rfl, h54, rfl, h56⟩ := hp51
            refine lv_iconst (v := 0) hx hb dX12_copies_101 (by decide) ?_
            refine lv_istore (lv' := [(5, .int 0), (0, .ref (ad 0)), (1, .int y1), (2, .int y2), (3, .long y3)]) hx hb dX12_copies_102 hl (by decide) rfl (fun ls hl => ?_)
            have e_g47_53 : g47 53 = (g 53) := (h52 53 rfl)
            have B57 : ∀ (k61 : Nat) (x58 : Int32) (g59 : Nat → Int32) (a60 : Nat → Nat → Int32) (ls : Array Slot) (H : Heap) (locs : List Loc), (2147483648 - (x58).toInt ≤ (k61 : Int)) → ((g59 17).toInt = (g 17).toInt + (x58).toInt) → ((x58).toInt ≤ (y2).toInt) → (0 ≤ (x58).toInt) → ((g 53).toInt + (g59 17).toInt ≤ 3000) → (0 ≤ (g59 17).toInt ∧ (g59 17).toInt ≤ 3000) → (hk_fr [17] g47 g59) → (hk_fr [6] a49 a60) → (hk_rg 0 255 (a60 6)) → hk_W D (jT cI cJ) A s H locs (mw cI cJ ad g59 lg a60 bk) → lv_has ls 6 [(0, .ref (ad 0)), (2, .int y2), (3, .long y3), (5, .int x58)] → W p l e { frames := 1, cells := 0, slots := 0, locals := 24 } s m args below meth c H locs 0 0 Q (F0 m 104 ls []) := by
              intro k61
              induction k61 with
              | zero =>
                intro x58 g59 a60 ls H locs hrk_B57 hf_B57_0 hf_B57_1 hf_B57_2 hf_B57_3 hf_B57_4 hfr_g59 hfr_a60 ha60_r6rg hw hl
                exact False.elim (hk_no0 (0 * (x58).toInt) (om381 ((x58).toInt) ((y2).toInt) hf_B57_1 hrk_B57 hr0) (by simp))
              | succ k61 ih_B57 =>
                intro x58 g59 a60 ls H locs hrk_B57 hf_B57_0 hf_B57_1 hf_B57_2 hf_B57_3 hf_B57_4 hfr_g59 hfr_a60 ha60_r6rg hw hl
                have hrk_B57 := hk_rk hrk_B57
                refine lv_iload hx hb dX12_copies_104 (lv_at hl 3 rfl) ?_
                refine lv_iload_n hx hb dX12_copies_106 rfl (lv_at hl 1 rfl) ?_
                refine lv_icmp_ge (tgt := 147) hx hb dX12_copies_107 (by decide) (fun cc62 => ?_) (fun cc62 => ?_)
                · refine lv_aload_n hx hb dX12_copies_147 rfl (lv_at hl 0 rfl) ?_
                  refine lv_dup hx hb dX12_copies_148 rfl ?_
                  have e_g59_28 : g59 28 = (g 28) := ((hfr_g59 28 rfl)).trans (h52 28 rfl)
                  refine hk_get (ci := 15) (C := RX12) (T := TX12) (N := 92) (v := .int (g 28)) hx hb hts (fun _ h => List.mem_cons_of_mem _ (wwMc_wsX120 _ h)) hown hw 0 rfl rfl 48 (by decide) (hq _ wM_84) (congrArg (fun z => some (Value.int z)) e_g59_28) dX12_copies_149 ?_
                  refine lv_iload_n hx hb dX12_copies_152 rfl (lv_at hl 1 rfl) ?_
                  refine lv_iadd hx hb dX12_copies_153 (jx_nm fun z63 hz63 => ?_)
                  refine jx_putg mw (cI := cI) (cJ := cJ) (ad := ad) (g := g59) (lg := lg) (ar := a60) (bk := bk) (x := z63) 28 (ci := 15) (C := RX12) (T := TX12) (N := 92) (ty := .int) hx hb hts (fun _ h => List.mem_cons_of_mem _ (wwMc_wsX120 _ h)) tyX12 tyX12_ok nmX12 hown hw 0 rfl rfl 48 (by decide) (hq _ wM_84) rfl (by decide +kernel) rfl rfl (Nat.le_of_ble_eq_true rfl) dX12_copies_154 rfl (fun H locs g64 h_g64 hw => ?_)
                  refine lv_iconst (v := 1) hx hb dX12_copies_157 (by decide) ?_
                  have e_g64_51 : g64 51 = (g 51) := ((hk_upgN h_g64 51 rfl)).trans (((hfr_g59 51 rfl)).trans (h52 51 rfl))
                  have e_g64_17 : g64 17 = (g59 17) := (hk_upgN h_g64 17 rfl)
                  have e_g64_53 : g64 53 = (g 53) := ((hk_upgN h_g64 53 rfl)).trans (((hfr_g59 53 rfl)).trans (h52 53 rfl))
                  have e_g64_18 : g64 18 = (g47 18) := ((hk_upgN h_g64 18 rfl)).trans (hfr_g59 18 rfl)
                  have e_g64_55 : g64 55 = (g 55) := ((hk_upgN h_g64 55 rfl)).trans (((hfr_g59 55 rfl)).trans (h52 55 rfl))
                  exact kr 1 g64 lg a60 bk _ _ _ _ rfl ⟨(hk_frG (hk_frT (hk_frT hk_fr0 (by decide) h52) (by decide) hfr_g59) (by decide) h_g64), rfl, (hk_frT (hk_frT hk_fr0 (by decide) h54) (by decide) hfr_a60), rfl, (om225 (((1 : Int32)).toInt) (by decide)), (om382 ((g 51).toInt) ((g64 51).toInt) (congrArg Int32.toInt e_g64_51)), (om383 ((g 17).toInt) ((g64 17).toInt) ((g59 17).toInt) ((x58).toInt) ((y2).toInt) hf_B57_0 (congrArg Int32.toInt e_g64_17) hr0 (hE_le cc62)), (om384 (((1 : Int32)).toInt) ((g64 17).toInt) ((g 17).toInt) ((y2).toInt) ((y3).toInt) ((z20).toInt) ((g 52).toInt) ((z21).toInt) ((g59 17).toInt) ((x58).toInt) hr0 xz20 (hE_leL cc22) hf_B57_0 hf_B57_1 (hE_le cc62) (congrArg Int32.toInt e_g64_17) hi_g52 (hE_i2l hz21) hf_B57_4), (om385 (((1 : Int32)).toInt) ((g64 51).toInt) (by decide)), (om200 ((g64 51).toInt) ((g 51).toInt) (((0 : Int32)).toInt) (congrArg Int32.toInt e_g64_51) hi_g51 (hE_le cc1) (by decide)), (om344 ((g64 53).toInt) ((g64 17).toInt) ((g59 17).toInt) ((g 53).toInt) (congrArg Int32.toInt e_g64_17) (congrArg Int32.toInt e_g64_53) hf_B57_3), (om386 ((g64 18).toInt) ((g64 53).toInt) ((g64 17).toInt) ((g64 55).toInt) ((g59 17).toInt) ((g 53).toInt) ((g47 18).toInt) ((g 55).toInt) ((g 18).toInt) ((g 17).toInt) ((x58).toInt) ((y2).toInt) (congrArg Int32.toInt e_g64_17) (congrArg Int32.toInt e_g64_53) (congrArg Int32.toInt e_g64_18) (congrArg Int32.toInt e_g64_55) hi_tst h56 hf_B57_0 hr0 (hE_le cc62)), (om387 ((g64 17).toInt) ((g59 17).toInt) ((g 17).toInt) ((x58).toInt) ((z20).toInt) ((g 52).toInt) ((y2).toInt) ((z21).toInt) ((y3).toInt) (congrArg Int32.toInt e_g64_17) hf_B57_0 hf_B57_4 xz20 (hE_le cc62) hr0 hi_g52 (hE_i2l hz21) (hE_leL cc22) hr1), ha60_r6rg⟩ hw dX12_copies_158
                · refine lv_aload_n hx hb dX12_copies_110 rfl (lv_at hl 0 rfl) ?_
                  refine hk_get (ci := 15) (C := RX12) (T := TX12) (N := 92) (v := .ref (ad 7)) hx hb hts (fun _ h => List.mem_cons_of_mem _ (wwMc_wsX120 _ h)) hown hw 0 rfl rfl 25 (by decide) (hq _ wM_110) rfl dX12_copies_111 ?_
                  refine lv_aload_n hx hb dX12_copies_114 rfl (lv_at hl 0 rfl) ?_
                  refine hk_get (ci := 15) (C := RX12) (T := TX12) (N := 92) (v := .int (g59 17)) hx hb hts (fun _ h => List.mem_cons_of_mem _ (wwMc_wsX120 _ h)) hown hw 0 rfl rfl 26 (by decide) (hq _ wM_82) rfl dX12_copies_115 ?_
                  refine lv_aload_n hx hb dX12_copies_118 rfl (lv_at hl 0 rfl) ?_
                  refine hk_get (ci := 15) (C := RX12) (T := TX12) (N := 92) (v := .ref (ad 7)) hx hb hts (fun _ h => List.mem_cons_of_mem _ (wwMc_wsX120 _ h)) hown hw 0 rfl rfl 25 (by decide) (hq _ wM_110) rfl dX12_copies_119 ?_
                  refine lv_aload_n hx hb dX12_copies_122 rfl (lv_at hl 0 rfl) ?_
                  refine hk_get (ci := 15) (C := RX12) (T := TX12) (N := 92) (v := .int (g59 17)) hx hb hts (fun _ h => List.mem_cons_of_mem _ (wwMc_wsX120 _ h)) hown hw 0 rfl rfl 26 (by decide) (hq _ wM_82) rfl dX12_copies_123 ?_
                  refine lv_lload_n hx hb dX12_copies_126 rfl (lv_at hl 2 rfl) ?_
                  refine lv_l2i hx hb dX12_copies_127 rfl (jx_nm fun z65 hz65 => ?_)
                  refine lv_isub hx hb dX12_copies_128 (jx_nm fun z66 hz66 => ?_)
                  have xz66 : (z66).toInt = (g59 17).toInt - (z65).toInt := (hE_imp (hE_sub hz66) (om388 ((g59 17).toInt) ((z65).toInt) ((g 17).toInt) ((x58).toInt) ((y3).toInt) ((z20).toInt) ((g 52).toInt) ((z21).toInt) hf_B57_0 hf_B57_4 (hE_imp (hE_l2i hz65) (om379 ((y3).toInt) ((z21).toInt) ((z20).toInt) ((g 17).toInt) ((g 52).toInt) hr1 (hE_leL cc22) (hE_i2l hz21) xz20 hi_g52 hi_g17)) hr1 xz20 (hE_leL cc22) hf_B57_2 hi_g52 (hE_i2l hz21)))
                  refine jx_iald hx hb hw 7 0 rfl rfl (hE_in (n := 3000) (om389 ((z66).toInt) ((g59 17).toInt) ((z65).toInt) ((g 17).toInt) ((x58).toInt) ((y3).toInt) ((z20).toInt) ((g 52).toInt) ((z21).toInt) xz66 hf_B57_0 hf_B57_4 (hE_imp (hE_l2i hz65) (om379 ((y3).toInt) ((z21).toInt) ((z20).toInt) ((g 17).toInt) ((g 52).toInt) hr1 (hE_leL cc22) (hE_i2l hz21) xz20 hi_g52 hi_g17)) hr1 xz20 (hE_leL cc22) hf_B57_2 hi_g52 (hE_i2l hz21))) dX12_copies_129 (fun z67 hz67 => ?_)
                  refine jx_iast mw (cI := cI) (cJ := cJ) (ad := ad) (g := g59) (lg := lg) (ar := a60) (bk := bk) 6 hx hb hw 7 0 rfl rfl (hE_in (n := 3000) (om390 ((g59 17).toInt) ((g 17).toInt) ((x58).toInt) ((g 53).toInt) ((z20).toInt) ((g 52).toInt) ((r28).toInt) ((y2).toInt) ((y3).toInt) ((z21).toInt) (((0 : Int32)).toInt) hf_B57_0 hi_g53 xz20 h38 hf_B57_2 (hE_nle cc62) hr1 hi_g52 (hE_i2l hz21) (hE_leL cc22) (hE_eq cc39) (by decide))) dX12_copies_130 rfl (fun H locs a68 h_a68 hw => ?_)
                  refine lv_aload_n hx hb dX12_copies_131 rfl (lv_at hl 0 rfl) ?_
                  refine lv_dup hx hb dX12_copies_132 rfl ?_
                  refine hk_get (ci := 15) (C := RX12) (T := TX12) (N := 92) (v := .int (g59 17)) hx hb hts (fun _ h => List.mem_cons_of_mem _ (wwMc_wsX120 _ h)) hown hw 0 rfl rfl 26 (by decide) (hq _ wM_82) rfl dX12_copies_133 ?_
                  refine lv_iconst (v := 1) hx hb dX12_copies_136 (by decide) ?_
                  refine lv_iadd hx hb dX12_copies_137 (jx_nm fun z69 hz69 => ?_)
                  have xz69 : (z69).toInt = (g59 17).toInt + ((1 : Int32)).toInt := (hE_imp (hE_add hz69) (om391 ((g59 17).toInt) (((1 : Int32)).toInt) ((g 17).toInt) ((x58).toInt) ((z20).toInt) ((g 52).toInt) ((y3).toInt) ((z21).toInt) hf_B57_0 hf_B57_4 xz20 hf_B57_2 hr1 hi_g52 (hE_i2l hz21) (hE_leL cc22) (by decide)))
                  refine jx_putg mw (cI := cI) (cJ := cJ) (ad := ad) (g := g59) (lg := lg) (ar := a68) (bk := bk) (x := z69) 17 (ci := 15) (C := RX12) (T := TX12) (N := 92) (ty := .int) hx hb hts (fun _ h => List.mem_cons_of_mem _ (wwMc_wsX120 _ h)) tyX12 tyX12_ok nmX12 hown hw 0 rfl rfl 26 (by decide) (hq _ wM_82) rfl (by decide +kernel) rfl rfl (Nat.le_of_ble_eq_true rfl) dX12_copies_138 rfl (fun H locs g70 h_g70 hw => ?_)
                  obtain ⟨z71, hz71⟩ : ∃ z : Int32, x58 + 1 = z := ⟨_, rfl⟩
                  refine lv_iinc (v := z71) (lv' := [(5, .int z71), (0, .ref (ad 0)), (2, .int y2), (3, .long y3)]) hx hb dX12_copies_141 hl (k := 3) rfl hz71 (by decide) rfl (fun ls hl => ?_)
                  have xz71 : (z71).toInt = (x58).toInt + ((1 : Int32)).toInt := (hE_imp (hE_add hz71) (om392 ((x58).toInt) (((1 : Int32)).toInt) ((y2).toInt) hf_B57_2 (hE_nle cc62) hr0 (by decide)))
                  refine lv_goto (tgt := 104) hx hb dX12_copies_144 (by decide) ?_
                  have e_g70_17 : g70 17 = z69 := (hk_upgS h_g70)
                  exact ih_B57 z71 g70 a68 ls _ _ (om11 ((z71).toInt) (k61 : Int) ((x58).toInt) (((1 : Int32)).toInt) hrk_B57 xz71 (by decide)) (om12 ((g70 17).toInt) ((g 17).toInt) ((z71).toInt) ((g59 17).toInt) ((x58).toInt) (((1 : Int32)).toInt) ((z69).toInt) hf_B57_0 xz71 (congrArg Int32.toInt e_g70_17) xz69) (om236 ((z71).toInt) ((y2).toInt) ((x58).toInt) (((1 : Int32)).toInt) (hE_nle cc62) xz71 (by decide)) (om14 ((z71).toInt) ((x58).toInt) (((1 : Int32)).toInt) xz71 hf_B57_2 (by decide)) (om393 ((g 53).toInt) ((g70 17).toInt) ((r28).toInt) ((g 17).toInt) ((y2).toInt) ((z69).toInt) (((0 : Int32)).toInt) ((g59 17).toInt) ((x58).toInt) (((1 : Int32)).toInt) h38 (congrArg Int32.toInt e_g70_17) (hE_eq cc39) hf_B57_0 (hE_nle cc62) xz69 (by decide) (by decide)) (om394 ((g70 17).toInt) ((z69).toInt) ((g59 17).toInt) (((1 : Int32)).toInt) ((g 17).toInt) ((x58).toInt) ((g 53).toInt) ((z20).toInt) ((g 52).toInt) ((r28).toInt) ((y2).toInt) ((y3).toInt) ((z21).toInt) (((0 : Int32)).toInt) (congrArg Int32.toInt e_g70_17) xz69 hf_B57_0 hi_g53 xz20 h38 hf_B57_2 (hE_nle cc62) hr1 hi_g52 (hE_i2l hz21) (hE_leL cc22) (hE_eq cc39) (by decide) (by decide)) (hk_frG hfr_g59 (by decide) h_g70) (hk_frA hfr_a60 (by decide) h_a68) (hk_rgS h_a68 ha60_r6rg (om34 ((z67).toInt) (hk_rgV ha60_r6rg hz67))) hw (lv_sub hl [1, 2, 3, 0] rfl)
            have e_g47_17 : g47 17 = (g 17) := (h52 17 rfl)
            exact B57 (2147483648 - ((0 : Int32)).toInt).toNat 0 g47 a49 ls _ _ (Int.self_le_toNat _) (om16 ((g47 17).toInt) ((g 17).toInt) (((0 : Int32)).toInt) (congrArg Int32.toInt e_g47_17) (by decide)) (om395 (((0 : Int32)).toInt) ((y2).toInt) hr0 (by decide)) (om18 (((0 : Int32)).toInt) (by decide)) (om396 ((g 53).toInt) ((g47 17).toInt) ((g 17).toInt) hi_tfull (congrArg Int32.toInt e_g47_17)) (om397 ((g47 17).toInt) ((g 17).toInt) ((z20).toInt) ((g 52).toInt) ((z21).toInt) ((y3).toInt) (congrArg Int32.toInt e_g47_17) hi_g17 xz20 hi_g52 (hE_i2l hz21) (hE_leL cc22) hr1) hk_fr0 hk_fr0 (hk_pE (P := hk_rg 0 255) hi_a6rg (h54 6 rfl)) hw (lv_sub hl [1, 3, 4, 0] rfl)
          · refine lv_aload_n hx hb dX12_copies_76 rfl (lv_at hl 0 rfl) ?_
            refine lv_bipush (v := 13) hx hb dX12_copies_77 (by decide) ?_
            refine jx_Vv (As := [.int 13]) (rest := []) ⟨hx, hb, hml, hown, hts⟩ hZ hw hA (jm_X12_fail l hlt D t3 cI cJ ad g lg ar bk _ 13 (om341 (((13 : Int32)).toInt) (by decide)) (om189 ((g 51).toInt) (((0 : Int32)).toInt) hi_g51 (hE_le cc1) (by decide))) (cwV 1 hts (jx_gV wwM_good wM_64 wM_65 wM_66 wM_8 wM_67) rfl rfl rfl (by decide +kernel) ⟨Nat.le_of_ble_eq_true rfl, Nat.le_of_ble_eq_true rfl⟩) 0 (ci := 15) (T := TX12) (N := 92) rfl rfl rfl hl.1 rfl (Nat.le_of_ble_eq_true rfl) dX12_copies_79 ⟨Nat.le_of_ble_eq_true rfl, Nat.le_of_ble_eq_true rfl⟩ (fun _ _ _ _ _ _ _ _ hp _ _ _ _ => hp.elim) (fun g77 l78 a79 b80 H locs hp81 hw => ?_)
            obtain ⟨h82, rfl, rfl, rfl, h86, h87⟩ := hp81
            refine lv_iconst (v := 0) hx hb dX12_copies_82 (by decide) ?_
            have e_g77_17 : g77 17 = (g 17) := (h82 17 rfl)
            have e_g77_53 : g77 53 = (g 53) := (h82 53 rfl)
            have e_g77_18 : g77 18 = (g 18) := (h82 18 rfl)
            have e_g77_55 : g77 55 = (g 55) := (h82 55 rfl)
            exact kr 0 g77 lg ar bk _ _ _ _ rfl ⟨(hk_frT hk_fr0 (by decide) h82), rfl, hk_fr0, rfl, (om226 (((0 : Int32)).toInt) (by decide)), (om371 ((g 51).toInt) ((g77 51).toInt) (((0 : Int32)).toInt) (hE_le cc1) h86 (by decide)), (om192 ((g 17).toInt) ((g77 17).toInt) (congrArg Int32.toInt e_g77_17)), (om372 (((0 : Int32)).toInt) ((g77 17).toInt) ((g 17).toInt) ((y2).toInt) ((y3).toInt) (by decide)), (om373 (((0 : Int32)).toInt) ((g77 51).toInt) h86), (om193 ((g77 51).toInt) h86 h87), (om344 ((g77 53).toInt) ((g77 17).toInt) ((g 17).toInt) ((g 53).toInt) (congrArg Int32.toInt e_g77_17) (congrArg Int32.toInt e_g77_53) hi_tfull), (om374 ((g77 18).toInt) ((g77 53).toInt) ((g77 17).toInt) ((g77 55).toInt) ((g 17).toInt) ((g 53).toInt) ((g 18).toInt) ((g 55).toInt) (congrArg Int32.toInt e_g77_17) (congrArg Int32.toInt e_g77_53) (congrArg Int32.toInt e_g77_18) (congrArg Int32.toInt e_g77_55) hi_tst), (om397 ((g77 17).toInt) ((g 17).toInt) ((z20).toInt) ((g 52).toInt) ((z21).toInt) ((y3).toInt) (congrArg Int32.toInt e_g77_17) hi_g17 xz20 hi_g52 (hE_i2l hz21) (hE_leL cc22) hr1), hi_a6rg⟩ hw dX12_copies_83
        refine lv_if_lt (tgt := 68) hx hb dX12_copies_44 (by decide) (fun cc88 => ?_) (fun cc88 => ?_)
        · exact B23 ls _ _ hw (lv_sub hl [0, 1, 2, 3] rfl)
        · refine lv_aload_n hx hb dX12_copies_47 rfl (lv_at hl 0 rfl) ?_
          refine hk_get (ci := 15) (C := RX12) (T := TX12) (N := 92) (v := .int (g 17)) hx hb hts (fun _ h => List.mem_cons_of_mem _ (wwMc_wsX120 _ h)) hown hw 0 rfl rfl 26 (by decide) (hq _ wM_82) rfl dX12_copies_48 ?_
          refine lv_iload_n hx hb dX12_copies_51 rfl (lv_at hl 2 rfl) ?_
          refine lv_iadd hx hb dX12_copies_52 (jx_nm fun z89 hz89 => ?_)
          have xz89 : (z89).toInt = (g 17).toInt + (y2).toInt := (hE_imp (hE_add hz89) (om398 ((g 17).toInt) ((y2).toInt) ((z20).toInt) ((g 52).toInt) ((z21).toInt) ((y3).toInt) hr0 hi_g17 xz20 hi_g52 (hE_i2l hz21) (hE_leL cc22) hr1))
          refine lv_aload_n hx hb dX12_copies_53 rfl (lv_at hl 0 rfl) ?_
          refine hk_get (ci := 15) (C := RX12) (T := TX12) (N := 92) (v := .int (g 54)) hx hb hts (fun _ h => List.mem_cons_of_mem _ (wwMc_wsX120 _ h)) hown hw 0 rfl rfl 83 (by decide) (hq _ wM_93) rfl dX12_copies_54 ?_
          refine lv_icmp_le (tgt := 68) hx hb dX12_copies_57 (by decide) (fun cc90 => ?_) (fun cc90 => ?_)
          · exact B23 ls _ _ hw (lv_sub hl [0, 1, 2, 3] rfl)
          · refine lv_aload_n hx hb dX12_copies_60 rfl (lv_at hl 0 rfl) ?_
            refine lv_bipush (v := 6) hx hb dX12_copies_61 (by decide) ?_
            refine jx_Vv (As := [.int 6]) (rest := []) ⟨hx, hb, hml, hown, hts⟩ hZ hw hA (jm_X12_fail l hlt D t3 cI cJ ad g lg ar bk _ 6 (om399 (((6 : Int32)).toInt) (by decide)) (om189 ((g 51).toInt) (((0 : Int32)).toInt) hi_g51 (hE_le cc1) (by decide))) (cwV 1 hts (jx_gV wwM_good wM_64 wM_65 wM_66 wM_8 wM_67) rfl rfl rfl (by decide +kernel) ⟨Nat.le_of_ble_eq_true rfl, Nat.le_of_ble_eq_true rfl⟩) 0 (ci := 15) (T := TX12) (N := 92) rfl rfl rfl hl.1 rfl (Nat.le_of_ble_eq_true rfl) dX12_copies_63 ⟨Nat.le_of_ble_eq_true rfl, Nat.le_of_ble_eq_true rfl⟩ (fun _ _ _ _ _ _ _ _ hp _ _ _ _ => hp.elim) (fun g96 l97 a98 b99 H locs hp100 hw => ?_)
            obtain ⟨h101, rfl, rfl, rfl, h105, h106⟩ := hp100
            refine lv_iconst (v := 0) hx hb dX12_copies_66 (by decide) ?_
            have e_g96_17 : g96 17 = (g 17) := (h101 17 rfl)
            have e_g96_53 : g96 53 = (g 53) := (h101 53 rfl)
            have e_g96_18 : g96 18 = (g 18) := (h101 18 rfl)
            have e_g96_55 : g96 55 = (g 55) := (h101 55 rfl)
            exact kr 0 g96 lg ar bk _ _ _ _ rfl ⟨(hk_frT hk_fr0 (by decide) h101), rfl, hk_fr0, rfl, (om226 (((0 : Int32)).toInt) (by decide)), (om371 ((g 51).toInt) ((g96 51).toInt) (((0 : Int32)).toInt) (hE_le cc1) h105 (by decide)), (om192 ((g 17).toInt) ((g96 17).toInt) (congrArg Int32.toInt e_g96_17)), (om372 (((0 : Int32)).toInt) ((g96 17).toInt) ((g 17).toInt) ((y2).toInt) ((y3).toInt) (by decide)), (om373 (((0 : Int32)).toInt) ((g96 51).toInt) h105), (om193 ((g96 51).toInt) h105 h106), (om344 ((g96 53).toInt) ((g96 17).toInt) ((g 17).toInt) ((g 53).toInt) (congrArg Int32.toInt e_g96_17) (congrArg Int32.toInt e_g96_53) hi_tfull), (om374 ((g96 18).toInt) ((g96 53).toInt) ((g96 17).toInt) ((g96 55).toInt) ((g 17).toInt) ((g 53).toInt) ((g 18).toInt) ((g 55).toInt) (congrArg Int32.toInt e_g96_17) (congrArg Int32.toInt e_g96_53) (congrArg Int32.toInt e_g96_18) (congrArg Int32.toInt e_g96_55) hi_tst), (om397 ((g96 17).toInt) ((g 17).toInt) ((z20).toInt) ((g 52).toInt) ((z21).toInt) ((y3).toInt) (congrArg Int32.toInt e_g96_17) hi_g17 xz20 hi_g52 (hE_i2l hz21) (hE_leL cc22) hr1), hi_a6rg⟩ hw dX12_copies_67
      · exact B2 ls _ _ hw (lv_sub hl [0] rfl)
  · refine lv_iconst (v := 0) hx hb dX12_copies_7 (by decide) ?_
    exact kr 0 g lg ar bk _ _ _ _ rfl ⟨hk_fr0, rfl, hk_fr0, rfl, (om226 (((0 : Int32)).toInt) (by decide)), (om227 ((g 51).toInt)), (om122 ((g 17).toInt)), (om400 (((0 : Int32)).toInt) ((g 17).toInt) ((y2).toInt) ((y3).toInt) (by decide)), (om401 (((0 : Int32)).toInt) ((g 51).toInt) (hE_nle cc1) (by decide)), (om203 ((g 51).toInt) (((0 : Int32)).toInt) hi_g51 (hE_nle cc1) (by decide)), (om402 ((g 53).toInt) ((g 17).toInt) hi_tfull), (om403 ((g 18).toInt) ((g 53).toInt) ((g 17).toInt) ((g 55).toInt) hi_tst), (om404 ((g 17).toInt) hi_g17), hi_a6rg⟩ hw dX12_copies_8

set_option maxHeartbeats 4000000 in
set_option maxRecDepth 100000 in
/-- X12_matchNow on (0,) -/
theorem jm_X12_matchNow (l : Launch) (hlt : l.stackTraces = false) (D : va_G) (t3 : Nat × Nat × Nat) (cI cJ : ClassId) (ad : Nat → Nat) (g : Nat → Int32) (lg : Nat → Int64) (ar : Nat → Nat → Int32) (bk : Nat → Int64) (sz : Nat) (y1 : Int32) (hr0 : (g 55).toInt = 0) (hi_g49 : 0 ≤ (g 49).toInt ∧ (g 49).toInt ≤ 1500) (hi_g51 : 0 ≤ (g 51).toInt ∧ (g 51).toInt ≤ 15) (hi_g52 : 0 ≤ (g 52).toInt ∧ (g 52).toInt ≤ 3000) (hi_g53 : 0 ≤ (g 53).toInt ∧ (g 53).toInt ≤ 3000) (hi_g55 : 0 ≤ (g 55).toInt ∧ (g 55).toInt ≤ 1) (hi_tfull : (g 53).toInt + (g 17).toInt ≤ 3000) (hi_tst : 0 ≤ (g 18).toInt ∧ (g 18).toInt ≤ (g 53).toInt + (g 17).toInt + (g 55).toInt) (hi_g24 : 1 ≤ (g 24).toInt ∧ (g 24).toInt ≤ 3000) (hi_g25 : 1 ≤ (g 25).toInt ∧ (g 25).toInt ≤ 3000) (hi_g26 : 1 ≤ (g 26).toInt ∧ (g 26).toInt ≤ 3000) (hi_g27 : 1 ≤ (g 27).toInt ∧ (g 27).toInt ≤ 3000) (hi_g29 : 0 ≤ (g 29).toInt ∧ (g 29).toInt ≤ 4) (hi_g30 : 0 ≤ (g 30).toInt ∧ (g 30).toInt ≤ 4) (hi_tnow : (g 29).toInt + (g 30).toInt ≤ 4) (hi_g31 : 0 ≤ (g 31).toInt ∧ (g 31).toInt ≤ 4) (hi_g12 : 0 ≤ (g 12).toInt ∧ (g 12).toInt ≤ 1500) (hi_a0rg : hk_rg 0 255 (ar 0)) (hi_g17 : 0 ≤ (g 17).toInt ∧ (g 17).toInt ≤ 3000) (hi_a6rg : hk_rg 0 255 (ar 6)) (hi_g23 : 0 ≤ (g 23).toInt ∧ (g 23).toInt ≤ 11) : JMv l yX12_matchNow (Cond.code yX12_matchNow cX12_matchNow 5 none :: wwM) { frames := 6, cells := 0, slots := 0, locals := 138 } t3 D mw cI cJ ad [.ref (ad 0), .int y1] (mw cI cJ ad g lg ar bk) sz 0 0 (fun g' lg' ar' bk' => hk_fr [17, 18, 23, 24, 25, 26, 27, 28, 49, 51, 55] g g' ∧ hk_fr [3, 4] lg lg' ∧ hk_fr [6, 7, 8, 9, 10, 16] ar ar' ∧ bk = bk' ∧ ((g 49).toInt ≤ (g' 49).toInt) ∧ ((1 ≤ (g 51).toInt → 1 ≤ (g' 51).toInt)) ∧ ((g 17).toInt ≤ (g' 17).toInt) ∧ ((g 17).toInt < (g' 17).toInt ∨ 1 ≤ (g' 51).toInt ∨ (g' 55).toInt = 1) ∧ (0 ≤ (g' 49).toInt ∧ (g' 49).toInt ≤ 1500) ∧ (0 ≤ (g' 51).toInt ∧ (g' 51).toInt ≤ 15) ∧ (0 ≤ (g' 55).toInt ∧ (g' 55).toInt ≤ 1) ∧ ((g' 53).toInt + (g' 17).toInt ≤ 3000) ∧ (0 ≤ (g' 18).toInt ∧ (g' 18).toInt ≤ (g' 53).toInt + (g' 17).toInt + (g' 55).toInt) ∧ (1 ≤ (g' 24).toInt ∧ (g' 24).toInt ≤ 3000) ∧ (1 ≤ (g' 25).toInt ∧ (g' 25).toInt ≤ 3000) ∧ (1 ≤ (g' 26).toInt ∧ (g' 26).toInt ≤ 3000) ∧ (1 ≤ (g' 27).toInt ∧ (g' 27).toInt ≤ 3000) ∧ (0 ≤ (g' 17).toInt ∧ (g' 17).toInt ≤ 3000) ∧ hk_rg 0 255 (ar' 6) ∧ (0 ≤ (g' 23).toInt ∧ (g' 23).toInt ≤ 11)) (fun g' lg' ar' bk' => False) := by
  refine jx_metv (cc := cX12_matchNow) (maxL := 5) (ret := none) rfl (by decide) rfl (Nat.le_of_ble_eq_true rfl) ?_
  intro p e s m args below meth c ls Q A hx hb hml hown hts hA hZ hw hl hQ kr kt
  have hq : ∀ w ∈ wwM, w.before args s = true := fun w h => hts w (List.mem_cons_of_mem _ h)
  have hl : lv_has ls 5 [(0, .ref (ad 0)), (1, .int y1)] := hl
  refine lv_aload_n hx hb dX12_matchNow_0 rfl (lv_at hl 0 rfl) ?_
  refine lv_sipush (v := 1024) hx hb dX12_matchNow_1 (by decide) ?_
  refine jx_Vi (As := [.int 1024]) (rest := []) ⟨hx, hb, hml, hown, hts⟩ hZ hw hA (jm_X12_getLength l hlt D t3 cI cJ ad g lg ar bk _ 1024 (om405 (((1024 : Int32)).toInt) (by decide)) (om257 ((g 31).toInt) hi_g31) (om202 ((g 49).toInt) hi_g49) (om206 ((g 51).toInt) hi_g51) (om202 ((g 12).toInt) hi_g12) hi_a0rg) (cwV 1 hts (jx_gV wwM_good wM_155 wM_156 wM_157 wM_8 wM_158) rfl rfl rfl (by decide +kernel) ⟨Nat.le_of_ble_eq_true rfl, Nat.le_of_ble_eq_true rfl⟩) 0 (ci := 15) (T := TX12) (N := 92) rfl rfl rfl hl.1 rfl (Nat.le_of_ble_eq_true rfl) dX12_matchNow_4 ⟨Nat.le_of_ble_eq_true rfl, Nat.le_of_ble_eq_true rfl⟩ (fun _ _ _ _ _ _ _ _ hp _ _ _ _ => hp.elim) (fun r5 g6 l7 a8 b9 H locs hp10 hw => ?_)
  obtain ⟨h11, h12, h13, rfl, h15, h16, h17, h18, h19⟩ := hp10
  refine lv_istore_n (lv' := [(2, .int r5), (0, .ref (ad 0)), (1, .int y1)]) hx hb dX12_matchNow_7 rfl hl (by decide) rfl (fun ls hl => ?_)
  refine lv_aload_n hx hb dX12_matchNow_8 rfl (lv_at hl 1 rfl) ?_
  refine lv_iload_n hx hb dX12_matchNow_9 rfl (lv_at hl 0 rfl) ?_
  have e_g6_12 : g6 12 = (g 12) := (h11 12 rfl)
  refine jx_Vl (As := [.int r5]) (rest := []) ⟨hx, hb, hml, hown, hts⟩ hZ hw hA (jm_X12_getFar l hlt D t3 cI cJ ad g6 l7 a8 bk _ r5 (om406 ((r5).toInt) h15) (om202 ((g6 49).toInt) h18) (om206 ((g6 51).toInt) h19) (om21 ((g6 12).toInt) ((g 12).toInt) (congrArg Int32.toInt e_g6_12) hi_g12) (hk_pE (P := hk_rg 0 255) hi_a0rg (h13 0 rfl))) (cwV 1 hts (jx_gV wwM_good wM_241 wM_242 wM_243 wM_8 wM_244) rfl rfl rfl (by decide +kernel) ⟨Nat.le_of_ble_eq_true rfl, Nat.le_of_ble_eq_true rfl⟩) 0 (ci := 15) (T := TX12) (N := 92) rfl rfl rfl hl.1 rfl (Nat.le_of_ble_eq_true rfl) dX12_matchNow_10 ⟨Nat.le_of_ble_eq_true rfl, Nat.le_of_ble_eq_true rfl⟩ (fun _ _ _ _ _ _ _ _ hp _ _ _ _ => hp.elim) (fun r24 g25 l26 a27 b28 H locs hp29 hw => ?_)
  obtain ⟨h30, h31, h32, rfl, h34, h35, h36, h37, h38⟩ := hp29
  have hr39 : hk_rg 0 255 (a27 0) := (hk_pE (P := hk_rg 0 255) (hk_pE (P := hk_rg 0 255) hi_a0rg (h13 0 rfl)) (h32 0 rfl))
  have hr40 : hk_rg 0 255 (a27 6) := (hk_pE (P := hk_rg 0 255) (hk_pE (P := hk_rg 0 255) hi_a6rg (h13 6 rfl)) (h32 6 rfl))
  refine lv_lstore_n (lv' := [(3, .long r24), (2, .int r5), (0, .ref (ad 0)), (1, .int y1)]) hx hb dX12_matchNow_13 rfl hl (by decide) rfl (fun ls hl => ?_)
  refine lv_aload_n hx hb dX12_matchNow_14 rfl (lv_at hl 2 rfl) ?_
  refine hk_get (ci := 15) (C := RX12) (T := TX12) (N := 92) (v := .int (g25 51)) hx hb hts (fun _ h => List.mem_cons_of_mem _ (wwMc_wsX120 _ h)) hown hw 0 rfl rfl 78 (by decide) (hq _ wM_63) rfl dX12_matchNow_15 ?_
  refine lv_if_le (tgt := 22) hx hb dX12_matchNow_18 (by decide) (fun cc41 => ?_) (fun cc41 => ?_)
  · refine lv_lload_n hx hb dX12_matchNow_22 rfl (lv_at hl 0 rfl) ?_
    refine lv_ldc2 (v := 4294967296) hx hb hown (hq _ wM_245) dX12_matchNow_23 ?_
    refine hk_lcmp_ne (tgt := 53) hx hb dX12_matchNow_26 dX12_matchNow_27 (by decide) (fun cc42 => ?_) (fun cc42 => ?_)
    · refine lv_iload_n hx hb dX12_matchNow_53 rfl (lv_at hl 3 rfl) ?_
      refine lv_if_eq (tgt := 64) hx hb dX12_matchNow_54 (by decide) (fun cc43 => ?_) (fun cc43 => ?_)
      · refine lv_aload_n hx hb dX12_matchNow_64 rfl (lv_at hl 2 rfl) ?_
        refine lv_iconst (v := 1) hx hb dX12_matchNow_65 (by decide) ?_
        refine lv_iload_n hx hb dX12_matchNow_66 rfl (lv_at hl 1 rfl) ?_
        refine lv_lload_n hx hb dX12_matchNow_67 rfl (lv_at hl 0 rfl) ?_
        have e_g25_52 : g25 52 = (g 52) := ((h30 52 rfl)).trans (h11 52 rfl)
        have e_g25_53 : g25 53 = (g 53) := ((h30 53 rfl)).trans (h11 53 rfl)
        have e_g25_55 : g25 55 = (g 55) := ((h30 55 rfl)).trans (h11 55 rfl)
        have e_g25_17 : g25 17 = (g 17) := ((h30 17 rfl)).trans (h11 17 rfl)
        have e_g25_18 : g25 18 = (g 18) := ((h30 18 rfl)).trans (h11 18 rfl)
        have e_g25_24 : g25 24 = (g 24) := ((h30 24 rfl)).trans (h11 24 rfl)
        have e_g25_25 : g25 25 = (g 25) := ((h30 25 rfl)).trans (h11 25 rfl)
        have e_g25_26 : g25 26 = (g 26) := ((h30 26 rfl)).trans (h11 26 rfl)
        have e_g25_27 : g25 27 = (g 27) := ((h30 27 rfl)).trans (h11 27 rfl)
        refine jx_Vi (As := [.int 1, .int r5, .long r24]) (rest := []) ⟨hx, hb, hml, hown, hts⟩ hZ hw hA (jm_X12_copies l hlt D t3 cI cJ ad g25 l26 a27 bk _ 1 r5 r24 (om407 ((r5).toInt) h15) (om408 ((r24).toInt) h34) (om202 ((g25 49).toInt) h37) (om189 ((g25 51).toInt) (((0 : Int32)).toInt) h38 (hE_le cc41) (by decide)) (om141 ((g25 52).toInt) ((g 52).toInt) (congrArg Int32.toInt e_g25_52) hi_g52) (om141 ((g25 53).toInt) ((g 53).toInt) (congrArg Int32.toInt e_g25_53) hi_g53) (om409 ((g25 55).toInt) ((g 55).toInt) (congrArg Int32.toInt e_g25_55) hr0 hi_g55) (om410 ((g25 53).toInt) ((g25 17).toInt) ((g 53).toInt) ((g 17).toInt) (congrArg Int32.toInt e_g25_53) (congrArg Int32.toInt e_g25_17) hi_tfull) (om411 ((g25 18).toInt) ((g25 53).toInt) ((g25 17).toInt) ((g25 55).toInt) ((g 53).toInt) ((g 55).toInt) ((g 17).toInt) ((g 18).toInt) (congrArg Int32.toInt e_g25_53) (congrArg Int32.toInt e_g25_55) (congrArg Int32.toInt e_g25_17) (congrArg Int32.toInt e_g25_18) hi_tst) (om162 ((g25 24).toInt) ((g 24).toInt) (congrArg Int32.toInt e_g25_24) hi_g24) (om162 ((g25 25).toInt) ((g 25).toInt) (congrArg Int32.toInt e_g25_25) hi_g25) (om162 ((g25 26).toInt) ((g 26).toInt) (congrArg Int32.toInt e_g25_26) hi_g26) (om162 ((g25 27).toInt) ((g 27).toInt) (congrArg Int32.toInt e_g25_27) hi_g27) (om141 ((g25 17).toInt) ((g 17).toInt) (congrArg Int32.toInt e_g25_17) hi_g17) hr40) (cwV 3 hts (jx_gV wwM_good wM_151 wM_152 wM_153 wM_8 wM_154) rfl rfl rfl (by decide +kernel) ⟨Nat.le_of_ble_eq_true rfl, Nat.le_of_ble_eq_true rfl⟩) 0 (ci := 15) (T := TX12) (N := 92) rfl rfl rfl hl.1 rfl (Nat.le_of_ble_eq_true rfl) dX12_matchNow_68 ⟨Nat.le_of_ble_eq_true rfl, Nat.le_of_ble_eq_true rfl⟩ (fun _ _ _ _ _ _ _ _ hp _ _ _ _ => hp.elim) (fun r48 g49 l50 a51 b52 H locs hp53 hw => ?_)
        obtain ⟨h54, rfl, h56, rfl, h58, h59, h60, h61, h62, h63, h64, h65, h66, h67⟩ := hp53
        have e_g25_17 : g25 17 = (g 17) := ((h30 17 rfl)).trans (h11 17 rfl)
        have e_g49_53 : g49 53 = (g 53) := ((h54 53 rfl)).trans e_g25_53
        have e_g49_55 : g49 55 = (g 55) := ((h54 55 rfl)).trans e_g25_55
        refine lv_if_eq (tgt := 100) hx hb dX12_matchNow_71 (by decide) (fun cc68 => ?_) (fun cc68 => ?_)
        · have e_g49_49 : g49 49 = (g25 49) := (h54 49 rfl)
          have e_g49_24 : g49 24 = (g 24) := ((h54 24 rfl)).trans e_g25_24
          have e_g49_25 : g49 25 = (g 25) := ((h54 25 rfl)).trans e_g25_25
          have e_g49_26 : g49 26 = (g 26) := ((h54 26 rfl)).trans e_g25_26
          have e_g49_27 : g49 27 = (g 27) := ((h54 27 rfl)).trans e_g25_27
          have e_g49_23 : g49 23 = (g 23) := ((h54 23 rfl)).trans (((h30 23 rfl)).trans (h11 23 rfl))
          exact kr g49 l26 a51 bk _ _ _ _ ⟨(hk_frT (hk_frT (hk_frT hk_fr0 (by decide) h11) (by decide) h30) (by decide) h54), (hk_frT h12 (by decide) h31), (hk_frT (hk_frT (hk_frT hk_fr0 (by decide) h13) (by decide) h32) (by decide) h56), rfl, (om412 ((g 49).toInt) ((g49 49).toInt) ((g6 49).toInt) ((g25 49).toInt) h16 (congrArg Int32.toInt e_g49_49) h35), (om413 ((g 51).toInt) ((g49 51).toInt) ((g6 51).toInt) ((g25 51).toInt) (((0 : Int32)).toInt) h17 h36 (hE_le cc41) (by decide)), (om414 ((g 17).toInt) ((g49 17).toInt) ((g25 17).toInt) (congrArg Int32.toInt e_g25_17) h60), (om415 ((g 17).toInt) ((g49 17).toInt) ((g49 51).toInt) ((g49 55).toInt) ((r48).toInt) (((0 : Int32)).toInt) h62 h58 (hE_eq cc68) (by decide)), (om21 ((g49 49).toInt) ((g25 49).toInt) (congrArg Int32.toInt e_g49_49) h37), (om206 ((g49 51).toInt) h63), (om416 ((g49 55).toInt) ((g 55).toInt) (congrArg Int32.toInt e_g49_55) hr0), (om402 ((g49 53).toInt) ((g49 17).toInt) h64), (om403 ((g49 18).toInt) ((g49 53).toInt) ((g49 17).toInt) ((g49 55).toInt) h65), (om162 ((g49 24).toInt) ((g 24).toInt) (congrArg Int32.toInt e_g49_24) hi_g24), (om162 ((g49 25).toInt) ((g 25).toInt) (congrArg Int32.toInt e_g49_25) hi_g25), (om162 ((g49 26).toInt) ((g 26).toInt) (congrArg Int32.toInt e_g49_26) hi_g26), (om162 ((g49 27).toInt) ((g 27).toInt) (congrArg Int32.toInt e_g49_27) hi_g27), (om404 ((g49 17).toInt) h66), h67, (om333 ((g49 23).toInt) ((g 23).toInt) (congrArg Int32.toInt e_g49_23) hi_g23)⟩ hw dX12_matchNow_100
        · refine lv_aload_n hx hb dX12_matchNow_74 rfl (lv_at hl 2 rfl) ?_
          refine lv_lload_n hx hb dX12_matchNow_75 rfl (lv_at hl 0 rfl) ?_
          have ha69 : (r24).toInt ≤ 3000 := (om417 ((r24).toInt) ((r48).toInt) ((g49 17).toInt) ((g25 17).toInt) ((r5).toInt) (((0 : Int32)).toInt) h61 h58 (hE_ne cc68) (by decide))
          refine lv_l2i hx hb dX12_matchNow_76 rfl (jx_nm fun z70 hz70 => ?_)
          have e_g49_24 : g49 24 = (g 24) := ((h54 24 rfl)).trans e_g25_24
          have e_g49_25 : g49 25 = (g 25) := ((h54 25 rfl)).trans e_g25_25
          have e_g49_26 : g49 26 = (g 26) := ((h54 26 rfl)).trans e_g25_26
          have e_g49_27 : g49 27 = (g 27) := ((h54 27 rfl)).trans e_g25_27
          refine jx_Vv (As := [.int z70]) (rest := []) ⟨hx, hb, hml, hown, hts⟩ hZ hw hA (jm_X12_newBack l hlt D t3 cI cJ ad g49 l26 a51 bk _ z70 (om419 ((z70).toInt) ((r24).toInt) (hE_imp (hE_l2i hz70) (om418 ((r24).toInt) h34 ha69)) h34 ha69) (om162 ((g49 24).toInt) ((g 24).toInt) (congrArg Int32.toInt e_g49_24) hi_g24) (om162 ((g49 25).toInt) ((g 25).toInt) (congrArg Int32.toInt e_g49_25) hi_g25) (om162 ((g49 26).toInt) ((g 26).toInt) (congrArg Int32.toInt e_g49_26) hi_g26) (om162 ((g49 27).toInt) ((g 27).toInt) (congrArg Int32.toInt e_g49_27) hi_g27)) (cwV 1 hts (jx_gV wwM_good wM_246 wM_247 wM_248 wM_8 wM_249) rfl rfl rfl (by decide +kernel) ⟨Nat.le_of_ble_eq_true rfl, Nat.le_of_ble_eq_true rfl⟩) 0 (ci := 15) (T := TX12) (N := 92) rfl rfl rfl hl.1 rfl (Nat.le_of_ble_eq_true rfl) dX12_matchNow_77 ⟨Nat.le_of_ble_eq_true rfl, Nat.le_of_ble_eq_true rfl⟩ (fun _ _ _ _ _ _ _ _ hp _ _ _ _ => hp.elim) (fun g76 l77 a78 b79 H locs hp80 hw => ?_)
          obtain ⟨h81, rfl, rfl, rfl, h85, h86, h87, h88, h89⟩ := hp80
          refine lv_aload_n hx hb dX12_matchNow_80 rfl (lv_at hl 2 rfl) ?_
          refine lv_aload_n hx hb dX12_matchNow_81 rfl (lv_at hl 2 rfl) ?_
          have e_g76_23 : g76 23 = (g 23) := ((h81 23 rfl)).trans (((h54 23 rfl)).trans (((h30 23 rfl)).trans (h11 23 rfl)))
          refine hk_get (ci := 15) (C := RX12) (T := TX12) (N := 92) (v := .int (g 23)) hx hb hts (fun _ h => List.mem_cons_of_mem _ (wwMc_wsX120 _ h)) hown hw 0 rfl rfl 43 (by decide) (hq _ wM_31) (congrArg (fun z => some (Value.int z)) e_g76_23) dX12_matchNow_82 ?_
          refine lv_bipush (v := 7) hx hb dX12_matchNow_85 (by decide) ?_
          have B90 : ∀  (x91 : Int32) (ls : Array Slot) (H : Heap) (locs : List Loc), (7 ≤ (x91).toInt ∧ (x91).toInt ≤ 10) → hk_W D (jT cI cJ) A s H locs (mw cI cJ ad g76 l26 a51 bk) → lv_has ls 5 [] → W p l e { frames := 6, cells := 0, slots := 0, locals := 138 } s m args below meth c H locs 0 0 Q (F0 m 97 ls [.int x91, .ref (ad 0)]) := by
            intro x91 ls H locs hf_B90_0 hw hl
            refine jx_putg mw (cI := cI) (cJ := cJ) (ad := ad) (g := g76) (lg := l26) (ar := a51) (bk := bk) (x := x91) 23 (ci := 15) (C := RX12) (T := TX12) (N := 92) (ty := .int) hx hb hts (fun _ h => List.mem_cons_of_mem _ (wwMc_wsX120 _ h)) tyX12 tyX12_ok nmX12 hown hw 0 rfl rfl 43 (by decide) (hq _ wM_31) rfl (by decide +kernel) rfl rfl (Nat.le_of_ble_eq_true rfl) dX12_matchNow_97 rfl (fun H locs g92 h_g92 hw => ?_)
            have e_g92_49 : g92 49 = (g25 49) := ((hk_upgN h_g92 49 rfl)).trans (((h81 49 rfl)).trans (h54 49 rfl))
            have e_g92_51 : g92 51 = (g49 51) := ((hk_upgN h_g92 51 rfl)).trans (h81 51 rfl)
            have e_g92_17 : g92 17 = (g49 17) := ((hk_upgN h_g92 17 rfl)).trans (h81 17 rfl)
            have e_g92_55 : g92 55 = (g 55) := ((hk_upgN h_g92 55 rfl)).trans (((h81 55 rfl)).trans e_g49_55)
            have e_g92_53 : g92 53 = (g 53) := ((hk_upgN h_g92 53 rfl)).trans (((h81 53 rfl)).trans e_g49_53)
            have e_g92_18 : g92 18 = (g49 18) := ((hk_upgN h_g92 18 rfl)).trans (h81 18 rfl)
            have e_g92_24 : g92 24 = (g76 24) := (hk_upgN h_g92 24 rfl)
            have e_g92_25 : g92 25 = (g76 25) := (hk_upgN h_g92 25 rfl)
            have e_g92_26 : g92 26 = (g76 26) := (hk_upgN h_g92 26 rfl)
            have e_g92_27 : g92 27 = (g76 27) := (hk_upgN h_g92 27 rfl)
            have e_g92_23 : g92 23 = x91 := (hk_upgS h_g92)
            exact kr g92 l26 a51 bk _ _ _ _ ⟨(hk_frG (hk_frT (hk_frT (hk_frT (hk_frT hk_fr0 (by decide) h11) (by decide) h30) (by decide) h54) (by decide) h81) (by decide) h_g92), (hk_frT h12 (by decide) h31), (hk_frT (hk_frT (hk_frT hk_fr0 (by decide) h13) (by decide) h32) (by decide) h56), rfl, (om412 ((g 49).toInt) ((g92 49).toInt) ((g6 49).toInt) ((g25 49).toInt) h16 (congrArg Int32.toInt e_g92_49) h35), (om413 ((g 51).toInt) ((g92 51).toInt) ((g6 51).toInt) ((g25 51).toInt) (((0 : Int32)).toInt) h17 h36 (hE_le cc41) (by decide)), (om420 ((g 17).toInt) ((g92 17).toInt) ((g25 17).toInt) ((g49 17).toInt) (congrArg Int32.toInt e_g25_17) (congrArg Int32.toInt e_g92_17) h60), (om421 ((g 17).toInt) ((g92 17).toInt) ((g92 51).toInt) ((g92 55).toInt) ((g25 17).toInt) ((g49 17).toInt) ((r48).toInt) ((r5).toInt) ((r24).toInt) (((0 : Int32)).toInt) (congrArg Int32.toInt e_g25_17) (congrArg Int32.toInt e_g92_17) h61 h15 h58 (hE_ne cc68) (by decide)), (om21 ((g92 49).toInt) ((g25 49).toInt) (congrArg Int32.toInt e_g92_49) h37), (om422 ((g92 51).toInt) ((g49 51).toInt) (congrArg Int32.toInt e_g92_51) h63), (om416 ((g92 55).toInt) ((g 55).toInt) (congrArg Int32.toInt e_g92_55) hr0), (om423 ((g92 53).toInt) ((g92 17).toInt) ((g49 17).toInt) ((g 53).toInt) ((g49 53).toInt) (congrArg Int32.toInt e_g92_17) (congrArg Int32.toInt e_g92_53) h64 (congrArg Int32.toInt e_g49_53)), (om424 ((g92 18).toInt) ((g92 53).toInt) ((g92 17).toInt) ((g92 55).toInt) ((g49 17).toInt) ((g 55).toInt) ((g 53).toInt) ((g49 18).toInt) ((g49 53).toInt) ((g49 55).toInt) (congrArg Int32.toInt e_g92_17) (congrArg Int32.toInt e_g92_55) (congrArg Int32.toInt e_g92_53) (congrArg Int32.toInt e_g92_18) (congrArg Int32.toInt e_g49_53) h65 (congrArg Int32.toInt e_g49_55)), (om162 ((g92 24).toInt) ((g76 24).toInt) (congrArg Int32.toInt e_g92_24) h86), (om162 ((g92 25).toInt) ((g76 25).toInt) (congrArg Int32.toInt e_g92_25) h87), (om162 ((g92 26).toInt) ((g76 26).toInt) (congrArg Int32.toInt e_g92_26) h88), (om162 ((g92 27).toInt) ((g76 27).toInt) (congrArg Int32.toInt e_g92_27) h89), (om141 ((g92 17).toInt) ((g49 17).toInt) (congrArg Int32.toInt e_g92_17) h66), h67, (om425 ((g92 23).toInt) ((x91).toInt) (congrArg Int32.toInt e_g92_23) hf_B90_0)⟩ hw dX12_matchNow_100
          refine lv_icmp_ge (tgt := 95) hx hb dX12_matchNow_87 (by decide) (fun cc93 => ?_) (fun cc93 => ?_)
          · refine lv_bipush (v := 10) hx hb dX12_matchNow_95 (by decide) ?_
            exact B90 10 ls _ _ (om426 (((10 : Int32)).toInt) (by decide)) hw (lv_sub hl [] rfl)
          · refine lv_bipush (v := 7) hx hb dX12_matchNow_90 (by decide) ?_
            refine lv_goto (tgt := 97) hx hb dX12_matchNow_92 (by decide) ?_
            exact B90 7 ls _ _ (om427 (((7 : Int32)).toInt) (by decide)) hw (lv_sub hl [] rfl)
      · refine lv_aload_n hx hb dX12_matchNow_57 rfl (lv_at hl 2 rfl) ?_
        refine lv_bipush (v := 7) hx hb dX12_matchNow_58 (by decide) ?_
        refine jx_Vv (As := [.int 7]) (rest := []) ⟨hx, hb, hml, hown, hts⟩ hZ hw hA (jm_X12_fail l hlt D t3 cI cJ ad g25 l26 a27 bk _ 7 (om428 (((7 : Int32)).toInt) (by decide)) (om189 ((g25 51).toInt) (((0 : Int32)).toInt) h38 (hE_le cc41) (by decide))) (cwV 1 hts (jx_gV wwM_good wM_64 wM_65 wM_66 wM_8 wM_67) rfl rfl rfl (by decide +kernel) ⟨Nat.le_of_ble_eq_true rfl, Nat.le_of_ble_eq_true rfl⟩) 0 (ci := 15) (T := TX12) (N := 92) rfl rfl rfl hl.1 rfl (Nat.le_of_ble_eq_true rfl) dX12_matchNow_60 ⟨Nat.le_of_ble_eq_true rfl, Nat.le_of_ble_eq_true rfl⟩ (fun _ _ _ _ _ _ _ _ hp _ _ _ _ => hp.elim) (fun g99 l100 a101 b102 H locs hp103 hw => ?_)
        obtain ⟨h104, rfl, rfl, rfl, h108, h109⟩ := hp103
        have e_g99_49 : g99 49 = (g25 49) := (h104 49 rfl)
        have e_g99_17 : g99 17 = (g 17) := ((h104 17 rfl)).trans (((h30 17 rfl)).trans (h11 17 rfl))
        have e_g99_55 : g99 55 = (g 55) := ((h104 55 rfl)).trans (((h30 55 rfl)).trans (h11 55 rfl))
        have e_g99_53 : g99 53 = (g 53) := ((h104 53 rfl)).trans (((h30 53 rfl)).trans (h11 53 rfl))
        have e_g99_18 : g99 18 = (g 18) := ((h104 18 rfl)).trans (((h30 18 rfl)).trans (h11 18 rfl))
        have e_g99_24 : g99 24 = (g 24) := ((h104 24 rfl)).trans (((h30 24 rfl)).trans (h11 24 rfl))
        have e_g99_25 : g99 25 = (g 25) := ((h104 25 rfl)).trans (((h30 25 rfl)).trans (h11 25 rfl))
        have e_g99_26 : g99 26 = (g 26) := ((h104 26 rfl)).trans (((h30 26 rfl)).trans (h11 26 rfl))
        have e_g99_27 : g99 27 = (g 27) := ((h104 27 rfl)).trans (((h30 27 rfl)).trans (h11 27 rfl))
        have e_g99_23 : g99 23 = (g 23) := ((h104 23 rfl)).trans (((h30 23 rfl)).trans (h11 23 rfl))
        exact kr g99 l26 a27 bk _ _ _ _ ⟨(hk_frT (hk_frT (hk_frT hk_fr0 (by decide) h11) (by decide) h30) (by decide) h104), (hk_frT h12 (by decide) h31), (hk_frT (hk_frT hk_fr0 (by decide) h13) (by decide) h32), rfl, (om412 ((g 49).toInt) ((g99 49).toInt) ((g6 49).toInt) ((g25 49).toInt) h16 (congrArg Int32.toInt e_g99_49) h35), (om342 ((g 51).toInt) ((g99 51).toInt) h108), (om192 ((g 17).toInt) ((g99 17).toInt) (congrArg Int32.toInt e_g99_17)), (om429 ((g 17).toInt) ((g99 17).toInt) ((g99 51).toInt) ((g99 55).toInt) h108), (om21 ((g99 49).toInt) ((g25 49).toInt) (congrArg Int32.toInt e_g99_49) h37), (om193 ((g99 51).toInt) h108 h109), (om409 ((g99 55).toInt) ((g 55).toInt) (congrArg Int32.toInt e_g99_55) hr0 hi_g55), (om344 ((g99 53).toInt) ((g99 17).toInt) ((g 17).toInt) ((g 53).toInt) (congrArg Int32.toInt e_g99_17) (congrArg Int32.toInt e_g99_53) hi_tfull), (om345 ((g99 18).toInt) ((g99 53).toInt) ((g99 17).toInt) ((g99 55).toInt) ((g 17).toInt) ((g 55).toInt) ((g 53).toInt) ((g 18).toInt) (congrArg Int32.toInt e_g99_17) (congrArg Int32.toInt e_g99_55) (congrArg Int32.toInt e_g99_53) (congrArg Int32.toInt e_g99_18) hi_tst), (om162 ((g99 24).toInt) ((g 24).toInt) (congrArg Int32.toInt e_g99_24) hi_g24), (om162 ((g99 25).toInt) ((g 25).toInt) (congrArg Int32.toInt e_g99_25) hi_g25), (om162 ((g99 26).toInt) ((g 26).toInt) (congrArg Int32.toInt e_g99_26) hi_g26), (om162 ((g99 27).toInt) ((g 27).toInt) (congrArg Int32.toInt e_g99_27) hi_g27), (om141 ((g99 17).toInt) ((g 17).toInt) (congrArg Int32.toInt e_g99_17) hi_g17), hr40, (om333 ((g99 23).toInt) ((g 23).toInt) (congrArg Int32.toInt e_g99_23) hi_g23)⟩ hw dX12_matchNow_63
    · refine lv_aload_n hx hb dX12_matchNow_30 rfl (lv_at hl 2 rfl) ?_
      refine lv_iconst (v := 1) hx hb dX12_matchNow_31 (by decide) ?_
      refine jx_putg mw (cI := cI) (cJ := cJ) (ad := ad) (g := g25) (lg := l26) (ar := a27) (bk := bk) (x := 1) 55 (ci := 15) (C := RX12) (T := TX12) (N := 92) (ty := .boolean) hx hb hts (fun _ h => List.mem_cons_of_mem _ (wwMc_wsX120 _ h)) tyX12 tyX12_ok nmX12 hown hw 0 rfl rfl 84 (by decide) (hq _ wM_98) rfl (by decide +kernel) rfl rfl (Nat.le_of_ble_eq_true rfl) dX12_matchNow_32 rfl (fun H locs g110 h_g110 hw => ?_)
      refine lv_aload_n hx hb dX12_matchNow_35 rfl (lv_at hl 2 rfl) ?_
      refine lv_bipush (v := 7) hx hb dX12_matchNow_36 (by decide) ?_
      refine lv_aload_n hx hb dX12_matchNow_38 rfl (lv_at hl 2 rfl) ?_
      have e_g110_53 : g110 53 = (g 53) := ((hk_upgN h_g110 53 rfl)).trans (((h30 53 rfl)).trans (h11 53 rfl))
      refine hk_get (ci := 15) (C := RX12) (T := TX12) (N := 92) (v := .int (g 53)) hx hb hts (fun _ h => List.mem_cons_of_mem _ (wwMc_wsX120 _ h)) hown hw 0 rfl rfl 82 (by decide) (hq _ wM_189) (congrArg (fun z => some (Value.int z)) e_g110_53) dX12_matchNow_39 ?_
      refine lv_aload_n hx hb dX12_matchNow_42 rfl (lv_at hl 2 rfl) ?_
      have e_g110_17 : g110 17 = (g 17) := ((hk_upgN h_g110 17 rfl)).trans (((h30 17 rfl)).trans (h11 17 rfl))
      refine hk_get (ci := 15) (C := RX12) (T := TX12) (N := 92) (v := .int (g 17)) hx hb hts (fun _ h => List.mem_cons_of_mem _ (wwMc_wsX120 _ h)) hown hw 0 rfl rfl 26 (by decide) (hq _ wM_82) (congrArg (fun z => some (Value.int z)) e_g110_17) dX12_matchNow_43 ?_
      refine lv_iadd hx hb dX12_matchNow_46 (jx_nm fun z111 hz111 => ?_)
      have xz111 : (z111).toInt = (g 53).toInt + (g 17).toInt := (hE_imp (hE_add hz111) (om329 ((g 53).toInt) ((g 17).toInt) hi_g53 hi_tfull hi_g17))
      refine lv_iconst (v := 0) hx hb dX12_matchNow_47 (by decide) ?_
      refine lv_iconst (v := 0) hx hb dX12_matchNow_48 (by decide) ?_
      have e_g110_18 : g110 18 = (g 18) := ((hk_upgN h_g110 18 rfl)).trans (((h30 18 rfl)).trans (h11 18 rfl))
      refine jx_Vv (As := [.int 7, .int z111, .int 0, .int 0]) (rest := []) ⟨hx, hb, hml, hown, hts⟩ hZ hw hA (jm_X12_addStep l hlt D t3 cI cJ ad g110 l26 a27 bk _ 7 z111 0 0 (om330 ((g110 18).toInt) ((g 18).toInt) ((g 53).toInt) ((g 17).toInt) ((g 55).toInt) (congrArg Int32.toInt e_g110_18) hi_tst hr0 hi_tfull)) (cwV 4 hts (jx_gV wwM_good wM_190 wM_191 wM_192 wM_8 wM_193) rfl rfl rfl (by decide +kernel) ⟨Nat.le_of_ble_eq_true rfl, Nat.le_of_ble_eq_true rfl⟩) 0 (ci := 15) (T := TX12) (N := 92) rfl rfl rfl hl.1 rfl (Nat.le_of_ble_eq_true rfl) dX12_matchNow_49 ⟨Nat.le_of_ble_eq_true rfl, Nat.le_of_ble_eq_true rfl⟩ (fun _ _ _ _ _ _ _ _ hp _ _ _ _ => hp.elim) (fun g117 l118 a119 b120 H locs hp121 hw => ?_)
      obtain ⟨h122, rfl, h124, rfl, h126⟩ := hp121
      have e_g110_18 : g110 18 = (g 18) := ((hk_upgN h_g110 18 rfl)).trans (((h30 18 rfl)).trans (h11 18 rfl))
      have e_g117_49 : g117 49 = (g25 49) := ((h122 49 rfl)).trans (hk_upgN h_g110 49 rfl)
      have e_g117_51 : g117 51 = (g25 51) := ((h122 51 rfl)).trans (hk_upgN h_g110 51 rfl)
      have e_g117_17 : g117 17 = (g 17) := ((h122 17 rfl)).trans e_g110_17
      have e_g117_55 : g117 55 = (1 : Int32) := ((h122 55 rfl)).trans (hk_upgS h_g110)
      have e_g117_53 : g117 53 = (g 53) := ((h122 53 rfl)).trans e_g110_53
      have e_g117_24 : g117 24 = (g 24) := ((h122 24 rfl)).trans (((hk_upgN h_g110 24 rfl)).trans (((h30 24 rfl)).trans (h11 24 rfl)))
      have e_g117_25 : g117 25 = (g 25) := ((h122 25 rfl)).trans (((hk_upgN h_g110 25 rfl)).trans (((h30 25 rfl)).trans (h11 25 rfl)))
      have e_g117_26 : g117 26 = (g 26) := ((h122 26 rfl)).trans (((hk_upgN h_g110 26 rfl)).trans (((h30 26 rfl)).trans (h11 26 rfl)))
      have e_g117_27 : g117 27 = (g 27) := ((h122 27 rfl)).trans (((hk_upgN h_g110 27 rfl)).trans (((h30 27 rfl)).trans (h11 27 rfl)))
      have e_g117_23 : g117 23 = (g 23) := ((h122 23 rfl)).trans (((hk_upgN h_g110 23 rfl)).trans (((h30 23 rfl)).trans (h11 23 rfl)))
      exact kr g117 l26 a119 bk _ _ _ _ ⟨(hk_frT (hk_frG (hk_frT (hk_frT hk_fr0 (by decide) h11) (by decide) h30) (by decide) h_g110) (by decide) h122), (hk_frT h12 (by decide) h31), (hk_frT (hk_frT (hk_frT hk_fr0 (by decide) h13) (by decide) h32) (by decide) h124), rfl, (om412 ((g 49).toInt) ((g117 49).toInt) ((g6 49).toInt) ((g25 49).toInt) h16 (congrArg Int32.toInt e_g117_49) h35), (om413 ((g 51).toInt) ((g117 51).toInt) ((g6 51).toInt) ((g25 51).toInt) (((0 : Int32)).toInt) h17 h36 (hE_le cc41) (by decide)), (om192 ((g 17).toInt) ((g117 17).toInt) (congrArg Int32.toInt e_g117_17)), (om430 ((g 17).toInt) ((g117 17).toInt) ((g117 51).toInt) ((g117 55).toInt) (((1 : Int32)).toInt) (congrArg Int32.toInt e_g117_55) (by decide)), (om21 ((g117 49).toInt) ((g25 49).toInt) (congrArg Int32.toInt e_g117_49) h37), (om200 ((g117 51).toInt) ((g25 51).toInt) (((0 : Int32)).toInt) (congrArg Int32.toInt e_g117_51) h38 (hE_le cc41) (by decide)), (om431 ((g117 55).toInt) (((1 : Int32)).toInt) (congrArg Int32.toInt e_g117_55) (by decide)), (om344 ((g117 53).toInt) ((g117 17).toInt) ((g 17).toInt) ((g 53).toInt) (congrArg Int32.toInt e_g117_17) (congrArg Int32.toInt e_g117_53) hi_tfull), (om432 ((g117 18).toInt) ((g117 53).toInt) ((g117 17).toInt) ((g117 55).toInt) ((g110 18).toInt) ((g 17).toInt) (((1 : Int32)).toInt) ((g 53).toInt) ((g 18).toInt) ((g 55).toInt) h126 (congrArg Int32.toInt e_g117_17) (congrArg Int32.toInt e_g117_55) (congrArg Int32.toInt e_g117_53) hi_tst (congrArg Int32.toInt e_g110_18) (congrArg Int32.toInt e_g110_18) hr0 (by decide)), (om162 ((g117 24).toInt) ((g 24).toInt) (congrArg Int32.toInt e_g117_24) hi_g24), (om162 ((g117 25).toInt) ((g 25).toInt) (congrArg Int32.toInt e_g117_25) hi_g25), (om162 ((g117 26).toInt) ((g 26).toInt) (congrArg Int32.toInt e_g117_26) hi_g26), (om162 ((g117 27).toInt) ((g 27).toInt) (congrArg Int32.toInt e_g117_27) hi_g27), (om141 ((g117 17).toInt) ((g 17).toInt) (congrArg Int32.toInt e_g117_17) hi_g17), (hk_pE (P := hk_rg 0 255) hr40 (h124 6 rfl)), (om333 ((g117 23).toInt) ((g 23).toInt) (congrArg Int32.toInt e_g117_23) hi_g23)⟩ hw dX12_matchNow_52
  · have e_g25_17 : g25 17 = (g 17) := ((h30 17 rfl)).trans (h11 17 rfl)
    have e_g25_55 : g25 55 = (g 55) := ((h30 55 rfl)).trans (h11 55 rfl)
    have e_g25_53 : g25 53 = (g 53) := ((h30 53 rfl)).trans (h11 53 rfl)
    have e_g25_18 : g25 18 = (g 18) := ((h30 18 rfl)).trans (h11 18 rfl)
    have e_g25_24 : g25 24 = (g 24) := ((h30 24 rfl)).trans (h11 24 rfl)
    have e_g25_25 : g25 25 = (g 25) := ((h30 25 rfl)).trans (h11 25 rfl)
    have e_g25_26 : g25 26 = (g 26) := ((h30 26 rfl)).trans (h11 26 rfl)
    have e_g25_27 : g25 27 = (g 27) := ((h30 27 rfl)).trans (h11 27 rfl)
    have e_g25_23 : g25 23 = (g 23) := ((h30 23 rfl)).trans (h11 23 rfl)
    exact kr g25 l26 a27 bk _ _ _ _ ⟨(hk_frT (hk_frT hk_fr0 (by decide) h11) (by decide) h30), (hk_frT h12 (by decide) h31), (hk_frT (hk_frT hk_fr0 (by decide) h13) (by decide) h32), rfl, (om209 ((g 49).toInt) ((g25 49).toInt) ((g6 49).toInt) h16 h35), (om346 ((g 51).toInt) ((g25 51).toInt) (((0 : Int32)).toInt) (hE_nle cc41) (by decide)), (om192 ((g 17).toInt) ((g25 17).toInt) (congrArg Int32.toInt e_g25_17)), (om433 ((g 17).toInt) ((g25 17).toInt) ((g25 51).toInt) ((g25 55).toInt) (((0 : Int32)).toInt) (hE_nle cc41) (by decide)), (om202 ((g25 49).toInt) h37), (om203 ((g25 51).toInt) (((0 : Int32)).toInt) h38 (hE_nle cc41) (by decide)), (om409 ((g25 55).toInt) ((g 55).toInt) (congrArg Int32.toInt e_g25_55) hr0 hi_g55), (om344 ((g25 53).toInt) ((g25 17).toInt) ((g 17).toInt) ((g 53).toInt) (congrArg Int32.toInt e_g25_17) (congrArg Int32.toInt e_g25_53) hi_tfull), (om345 ((g25 18).toInt) ((g25 53).toInt) ((g25 17).toInt) ((g25 55).toInt) ((g 17).toInt) ((g 55).toInt) ((g 53).toInt) ((g 18).toInt) (congrArg Int32.toInt e_g25_17) (congrArg Int32.toInt e_g25_55) (congrArg Int32.toInt e_g25_53) (congrArg Int32.toInt e_g25_18) hi_tst), (om162 ((g25 24).toInt) ((g 24).toInt) (congrArg Int32.toInt e_g25_24) hi_g24), (om162 ((g25 25).toInt) ((g 25).toInt) (congrArg Int32.toInt e_g25_25) hi_g25), (om162 ((g25 26).toInt) ((g 26).toInt) (congrArg Int32.toInt e_g25_26) hi_g26), (om162 ((g25 27).toInt) ((g 27).toInt) (congrArg Int32.toInt e_g25_27) hi_g27), (om141 ((g25 17).toInt) ((g 17).toInt) (congrArg Int32.toInt e_g25_17) hi_g17), hr40, (om333 ((g25 23).toInt) ((g 23).toInt) (congrArg Int32.toInt e_g25_23) hi_g23)⟩ hw dX12_matchNow_21

set_option maxHeartbeats 4000000 in
set_option maxRecDepth 100000 in
/-- X12_choiceNow on (0,) -/
theorem jm_X12_choiceNow (l : Launch) (hlt : l.stackTraces = false) (D : va_G) (t3 : Nat × Nat × Nat) (cI cJ : ClassId) (ad : Nat → Nat) (g : Nat → Int32) (lg : Nat → Int64) (ar : Nat → Nat → Int32) (bk : Nat → Int64) (sz : Nat) (y1 : Int32) (hr0 : (g 55).toInt = 0) (hi_g49 : 0 ≤ (g 49).toInt ∧ (g 49).toInt ≤ 1500) (hi_g51 : 0 ≤ (g 51).toInt ∧ (g 51).toInt ≤ 15) (hi_g52 : 0 ≤ (g 52).toInt ∧ (g 52).toInt ≤ 3000) (hi_g53 : 0 ≤ (g 53).toInt ∧ (g 53).toInt ≤ 3000) (hi_g55 : 0 ≤ (g 55).toInt ∧ (g 55).toInt ≤ 1) (hi_tfull : (g 53).toInt + (g 17).toInt ≤ 3000) (hi_tst : 0 ≤ (g 18).toInt ∧ (g 18).toInt ≤ (g 53).toInt + (g 17).toInt + (g 55).toInt) (hi_g24 : 1 ≤ (g 24).toInt ∧ (g 24).toInt ≤ 3000) (hi_g25 : 1 ≤ (g 25).toInt ∧ (g 25).toInt ≤ 3000) (hi_g26 : 1 ≤ (g 26).toInt ∧ (g 26).toInt ≤ 3000) (hi_g27 : 1 ≤ (g 27).toInt ∧ (g 27).toInt ≤ 3000) (hi_g29 : 0 ≤ (g 29).toInt ∧ (g 29).toInt ≤ 4) (hi_g30 : 0 ≤ (g 30).toInt ∧ (g 30).toInt ≤ 4) (hi_tnow : (g 29).toInt + (g 30).toInt ≤ 4) (hi_g31 : 0 ≤ (g 31).toInt ∧ (g 31).toInt ≤ 4) (hi_g12 : 0 ≤ (g 12).toInt ∧ (g 12).toInt ≤ 1500) (hi_a0rg : hk_rg 0 255 (ar 0)) (hi_g17 : 0 ≤ (g 17).toInt ∧ (g 17).toInt ≤ 3000) (hi_g23 : 0 ≤ (g 23).toInt ∧ (g 23).toInt ≤ 11) (hi_a6rg : hk_rg 0 255 (ar 6)) : JMv l yX12_choiceNow (Cond.code yX12_choiceNow cX12_choiceNow 5 none :: wwM) { frames := 7, cells := 0, slots := 0, locals := 162 } t3 D mw cI cJ ad [.ref (ad 0), .int y1] (mw cI cJ ad g lg ar bk) sz 0 0 (fun g' lg' ar' bk' => hk_fr [17, 18, 23, 24, 25, 26, 27, 28, 49, 51, 55] g g' ∧ hk_fr [3, 4] lg lg' ∧ hk_fr [6, 7, 8, 9, 10, 16] ar ar' ∧ bk = bk' ∧ ((g 49).toInt ≤ (g' 49).toInt) ∧ ((1 ≤ (g 51).toInt → 1 ≤ (g' 51).toInt)) ∧ ((g 17).toInt ≤ (g' 17).toInt) ∧ ((g 17).toInt < (g' 17).toInt ∨ 1 ≤ (g' 51).toInt ∨ (g' 55).toInt = 1) ∧ (0 ≤ (g' 49).toInt ∧ (g' 49).toInt ≤ 1500) ∧ (0 ≤ (g' 51).toInt ∧ (g' 51).toInt ≤ 15) ∧ (0 ≤ (g' 55).toInt ∧ (g' 55).toInt ≤ 1) ∧ ((g' 53).toInt + (g' 17).toInt ≤ 3000) ∧ (0 ≤ (g' 18).toInt ∧ (g' 18).toInt ≤ (g' 53).toInt + (g' 17).toInt + (g' 55).toInt) ∧ (1 ≤ (g' 24).toInt ∧ (g' 24).toInt ≤ 3000) ∧ (1 ≤ (g' 25).toInt ∧ (g' 25).toInt ≤ 3000) ∧ (1 ≤ (g' 26).toInt ∧ (g' 26).toInt ≤ 3000) ∧ (1 ≤ (g' 27).toInt ∧ (g' 27).toInt ≤ 3000) ∧ (0 ≤ (g' 17).toInt ∧ (g' 17).toInt ≤ 3000) ∧ (0 ≤ (g' 23).toInt ∧ (g' 23).toInt ≤ 11) ∧ hk_rg 0 255 (ar' 6)) (fun g' lg' ar' bk' => False) := by
  refine jx_metv (cc := cX12_choiceNow) (maxL := 5) (ret := none) rfl (by decide) rfl (Nat.le_of_ble_eq_true rfl) ?_
  intro p e s m args below meth c ls Q A hx hb hml hown hts hA hZ hw hl hQ kr kt
  have hq : ∀ w ∈ wwM, w.before args s = true := fun w h => hts w (List.mem_cons_of_mem _ h)
  have hl : lv_has ls 5 [(0, .ref (ad 0)), (1, .int y1)] := hl
  refine lv_aload_n hx hb dX12_choiceNow_0 rfl (lv_at hl 0 rfl) ?_
  refine jx_Vi (As := []) (rest := []) ⟨hx, hb, hml, hown, hts⟩ hZ hw hA (jm_X12_part l hlt D t3 cI cJ ad g lg ar bk _ (om257 ((g 31).toInt) hi_g31)) (cwV 0 hts (jx_gV wwM_good wM_135 wM_136 wM_137 wM_8 wM_138) rfl rfl rfl (by decide +kernel) ⟨Nat.le_of_ble_eq_true rfl, Nat.le_of_ble_eq_true rfl⟩) 0 (ci := 15) (T := TX12) (N := 92) rfl rfl rfl hl.1 rfl (Nat.le_of_ble_eq_true rfl) dX12_choiceNow_1 ⟨Nat.le_of_ble_eq_true rfl, Nat.le_of_ble_eq_true rfl⟩ (fun _ _ _ _ _ _ _ _ hp _ _ _ _ => hp.elim) (fun r5 g6 l7 a8 b9 H locs hp10 hw => ?_)
  obtain ⟨rfl, rfl, rfl, rfl, h15⟩ := hp10
  refine lv_istore_n (lv' := [(2, .int r5), (0, .ref (ad 0)), (1, .int y1)]) hx hb dX12_choiceNow_4 rfl hl (by decide) rfl (fun ls hl => ?_)
  refine lv_aload_n hx hb dX12_choiceNow_5 rfl (lv_at hl 1 rfl) ?_
  refine lv_iconst (v := 0) hx hb dX12_choiceNow_6 (by decide) ?_
  refine lv_bipush (v := 16) hx hb dX12_choiceNow_7 (by decide) ?_
  refine lv_aload_n hx hb dX12_choiceNow_9 rfl (lv_at hl 1 rfl) ?_
  refine hk_get (ci := 15) (C := RX12) (T := TX12) (N := 92) (v := .int (g 23)) hx hb hts (fun _ h => List.mem_cons_of_mem _ (wwMc_wsX120 _ h)) hown hw 0 rfl rfl 43 (by decide) (hq _ wM_31) rfl dX12_choiceNow_10 ?_
  refine lv_imul hx hb dX12_choiceNow_13 (jx_nm fun z16 hz16 => ?_)
  have xz16 : (z16).toInt = (g 23).toInt * 16 := (hE_imp (hE_mul' 16 hz16 (by decide)) (om434 ((g 23).toInt) hi_g23))
  refine lv_iadd hx hb dX12_choiceNow_14 (jx_nm fun z17 hz17 => ?_)
  have xz17 : (z17).toInt = ((0 : Int32)).toInt + (z16).toInt := (hE_imp (hE_add hz17) (om435 (((0 : Int32)).toInt) ((z16).toInt) ((g 23).toInt) xz16 hi_g23 (by decide) (hE_rng (z16))))
  refine lv_iload_n hx hb dX12_choiceNow_15 rfl (lv_at hl 0 rfl) ?_
  refine lv_iadd hx hb dX12_choiceNow_16 (jx_nm fun z18 hz18 => ?_)
  have xz18 : (z18).toInt = (z17).toInt + (r5).toInt := (hE_imp (hE_add hz18) (om436 ((z17).toInt) ((r5).toInt) (((0 : Int32)).toInt) ((z16).toInt) ((g 23).toInt) h15 xz17 xz16 hi_g23 (hE_rng (z17)) (by decide)))
  refine jx_Vi (As := [.int z18]) (rest := []) ⟨hx, hb, hml, hown, hts⟩ hZ hw hA (jm_X12_getBit l hlt D t3 cI cJ ad g lg ar bk _ z18 (om437 ((z18).toInt) ((z17).toInt) ((r5).toInt) (((0 : Int32)).toInt) ((z16).toInt) ((g 23).toInt) xz18 h15 xz17 xz16 hi_g23 (by decide)) (om202 ((g 49).toInt) hi_g49) (om206 ((g 51).toInt) hi_g51) (om202 ((g 12).toInt) hi_g12) hi_a0rg) (cwV 1 hts (jx_gV wwM_good wM_139 wM_140 wM_141 wM_8 wM_142) rfl rfl rfl (by decide +kernel) ⟨Nat.le_of_ble_eq_true rfl, Nat.le_of_ble_eq_true rfl⟩) 0 (ci := 15) (T := TX12) (N := 92) rfl rfl rfl hl.1 rfl (Nat.le_of_ble_eq_true rfl) dX12_choiceNow_17 ⟨Nat.le_of_ble_eq_true rfl, Nat.le_of_ble_eq_true rfl⟩ (fun _ _ _ _ _ _ _ _ hp _ _ _ _ => hp.elim) (fun r23 g24 l25 a26 b27 H locs hp28 hw => ?_)
  obtain ⟨h29, h30, h31, rfl, h33, h34, h35, h36, h37⟩ := hp28
  refine lv_if_ne (tgt := 39) hx hb dX12_choiceNow_20 (by decide) (fun cc38 => ?_) (fun cc38 => ?_)
  · refine lv_aload_n hx hb dX12_choiceNow_39 rfl (lv_at hl 1 rfl) ?_
    refine lv_sipush (v := 192) hx hb dX12_choiceNow_40 (by decide) ?_
    refine lv_aload_n hx hb dX12_choiceNow_43 rfl (lv_at hl 1 rfl) ?_
    have e_g24_23 : g24 23 = (g 23) := (h29 23 rfl)
    refine hk_get (ci := 15) (C := RX12) (T := TX12) (N := 92) (v := .int (g 23)) hx hb hts (fun _ h => List.mem_cons_of_mem _ (wwMc_wsX120 _ h)) hown hw 0 rfl rfl 43 (by decide) (hq _ wM_31) (congrArg (fun z => some (Value.int z)) e_g24_23) dX12_choiceNow_44 ?_
    refine lv_iadd hx hb dX12_choiceNow_47 (jx_nm fun z39 hz39 => ?_)
    have xz39 : (z39).toInt = ((192 : Int32)).toInt + (g 23).toInt := (hE_imp (hE_add hz39) (om438 (((192 : Int32)).toInt) ((g 23).toInt) hi_g23 (by decide)))
    have e_g24_12 : g24 12 = (g 12) := (h29 12 rfl)
    refine jx_Vi (As := [.int z39]) (rest := []) ⟨hx, hb, hml, hown, hts⟩ hZ hw hA (jm_X12_getBit l hlt D t3 cI cJ ad g24 l25 a26 bk _ z39 (om439 ((z39).toInt) (((192 : Int32)).toInt) ((g 23).toInt) xz39 hi_g23 (by decide)) (om202 ((g24 49).toInt) h36) (om206 ((g24 51).toInt) h37) (om21 ((g24 12).toInt) ((g 12).toInt) (congrArg Int32.toInt e_g24_12) hi_g12) (hk_pE (P := hk_rg 0 255) hi_a0rg (h31 0 rfl))) (cwV 1 hts (jx_gV wwM_good wM_139 wM_140 wM_141 wM_8 wM_142) rfl rfl rfl (by decide +kernel) ⟨Nat.le_of_ble_eq_true rfl, Nat.le_of_ble_eq_true rfl⟩) 0 (ci := 15) (T := TX12) (N := 92) rfl rfl rfl hl.1 rfl (Nat.le_of_ble_eq_true rfl) dX12_choiceNow_48 ⟨Nat.le_of_ble_eq_true rfl, Nat.le_of_ble_eq_true rfl⟩ (fun _ _ _ _ _ _ _ _ hp _ _ _ _ => hp.elim) (fun r44 g45 l46 a47 b48 H locs hp49 hw => ?_)
    obtain ⟨h50, h51, h52, rfl, h54, h55, h56, h57, h58⟩ := hp49
    have hr59 : hk_rg 0 255 (a47 0) := (hk_pE (P := hk_rg 0 255) (hk_pE (P := hk_rg 0 255) hi_a0rg (h31 0 rfl)) (h52 0 rfl))
    have hr60 : hk_rg 0 255 (a47 6) := (hk_pE (P := hk_rg 0 255) (hk_pE (P := hk_rg 0 255) hi_a6rg (h31 6 rfl)) (h52 6 rfl))
    refine lv_if_ne (tgt := 60) hx hb dX12_choiceNow_51 (by decide) (fun cc61 => ?_) (fun cc61 => ?_)
    · refine lv_iload_n hx hb dX12_choiceNow_60 rfl (lv_at hl 2 rfl) ?_
      refine lv_if_eq (tgt := 71) hx hb dX12_choiceNow_61 (by decide) (fun cc62 => ?_) (fun cc62 => ?_)
      · refine lv_iconst (v := 0) hx hb dX12_choiceNow_71 (by decide) ?_
        refine lv_istore_n (lv' := [(3, .int 0), (2, .int r5), (0, .ref (ad 0)), (1, .int y1)]) hx hb dX12_choiceNow_72 rfl hl (by decide) rfl (fun ls hl => ?_)
        refine lv_aload_n hx hb dX12_choiceNow_73 rfl (lv_at hl 2 rfl) ?_
        refine lv_sipush (v := 204) hx hb dX12_choiceNow_74 (by decide) ?_
        refine lv_aload_n hx hb dX12_choiceNow_77 rfl (lv_at hl 2 rfl) ?_
        have e_g45_23 : g45 23 = (g 23) := ((h50 23 rfl)).trans e_g24_23
        refine hk_get (ci := 15) (C := RX12) (T := TX12) (N := 92) (v := .int (g 23)) hx hb hts (fun _ h => List.mem_cons_of_mem _ (wwMc_wsX120 _ h)) hown hw 0 rfl rfl 43 (by decide) (hq _ wM_31) (congrArg (fun z => some (Value.int z)) e_g45_23) dX12_choiceNow_78 ?_
        refine lv_iadd hx hb dX12_choiceNow_81 (jx_nm fun z63 hz63 => ?_)
        have xz63 : (z63).toInt = ((204 : Int32)).toInt + (g 23).toInt := (hE_imp (hE_add hz63) (om440 (((204 : Int32)).toInt) ((g 23).toInt) hi_g23 (by decide)))
        have e_g45_12 : g45 12 = (g 12) := ((h50 12 rfl)).trans e_g24_12
        refine jx_Vi (As := [.int z63]) (rest := []) ⟨hx, hb, hml, hown, hts⟩ hZ hw hA (jm_X12_getBit l hlt D t3 cI cJ ad g45 l46 a47 bk _ z63 (om441 ((z63).toInt) (((204 : Int32)).toInt) ((g 23).toInt) xz63 hi_g23 (by decide)) (om202 ((g45 49).toInt) h57) (om206 ((g45 51).toInt) h58) (om21 ((g45 12).toInt) ((g 12).toInt) (congrArg Int32.toInt e_g45_12) hi_g12) hr59) (cwV 1 hts (jx_gV wwM_good wM_139 wM_140 wM_141 wM_8 wM_142) rfl rfl rfl (by decide +kernel) ⟨Nat.le_of_ble_eq_true rfl, Nat.le_of_ble_eq_true rfl⟩) 0 (ci := 15) (T := TX12) (N := 92) rfl rfl rfl hl.1 rfl (Nat.le_of_ble_eq_true rfl) dX12_choiceNow_82 ⟨Nat.le_of_ble_eq_true rfl, Nat.le_of_ble_eq_true rfl⟩ (fun _ _ _ _ _ _ _ _ hp _ _ _ _ => hp.elim) (fun r68 g69 l70 a71 b72 H locs hp73 hw => ?_)
        obtain ⟨h74, h75, h76, rfl, h78, h79, h80, h81, h82⟩ := hp73
        have B83 : ∀  (x84 : Int32) (g85 : Nat → Int32) (l86 : Nat → Int64) (a87 : Nat → Nat → Int32) (ls : Array Slot) (H : Heap) (locs : List Loc), (0 ≤ (x84).toInt ∧ (x84).toInt ≤ 3) → ((g 49).toInt ≤ (g85 49).toInt) → (1 ≤ (g 51).toInt → 1 ≤ (g85 51).toInt) → (0 ≤ (g85 49).toInt ∧ (g85 49).toInt ≤ 1500) → (0 ≤ (g85 51).toInt ∧ (g85 51).toInt ≤ 15) → (hk_fr [49, 51] g69 g85) → (hk_fr [3, 4] l70 l86) → (hk_fr [16] a71 a87) → hk_W D (jT cI cJ) A s H locs (mw cI cJ ad g85 l86 a87 bk) → lv_has ls 5 [(0, .ref (ad 0)), (3, .int x84)] → W p l e { frames := 7, cells := 0, slots := 0, locals := 162 } s m args below meth c H locs 0 0 Q (F0 m 184 ls []) := by
          intro x84 g85 l86 a87 ls H locs hf_B83_0 hf_B83_1 hf_B83_2 hf_B83_3 hf_B83_4 hfr_g85 hfr_l86 hfr_a87 hw hl
          refine lv_aload_n hx hb dX12_choiceNow_184 rfl (lv_at hl 0 rfl) ?_
          refine lv_sipush (v := 1540) hx hb dX12_choiceNow_185 (by decide) ?_
          have e_g85_31 : g85 31 = (g 31) := ((hfr_g85 31 rfl)).trans (((h74 31 rfl)).trans (((h50 31 rfl)).trans (h29 31 rfl)))
          have e_g85_12 : g85 12 = (g 12) := ((hfr_g85 12 rfl)).trans (((h74 12 rfl)).trans e_g45_12)
          refine jx_Vi (As := [.int 1540]) (rest := []) ⟨hx, hb, hml, hown, hts⟩ hZ hw hA (jm_X12_getLength l hlt D t3 cI cJ ad g85 l86 a87 bk _ 1540 (om442 (((1540 : Int32)).toInt) (by decide)) (om39 ((g85 31).toInt) ((g 31).toInt) (congrArg Int32.toInt e_g85_31) hi_g31) (om202 ((g85 49).toInt) hf_B83_3) (om206 ((g85 51).toInt) hf_B83_4) (om21 ((g85 12).toInt) ((g 12).toInt) (congrArg Int32.toInt e_g85_12) hi_g12) (hk_pE (P := hk_rg 0 255) (hk_pE (P := hk_rg 0 255) hr59 (h76 0 rfl)) (hfr_a87 0 rfl))) (cwV 1 hts (jx_gV wwM_good wM_155 wM_156 wM_157 wM_8 wM_158) rfl rfl rfl (by decide +kernel) ⟨Nat.le_of_ble_eq_true rfl, Nat.le_of_ble_eq_true rfl⟩) 0 (ci := 15) (T := TX12) (N := 92) rfl rfl rfl hl.1 rfl (Nat.le_of_ble_eq_true rfl) dX12_choiceNow_188 ⟨Nat.le_of_ble_eq_true rfl, Nat.le_of_ble_eq_true rfl⟩ (fun _ _ _ _ _ _ _ _ hp _ _ _ _ => hp.elim) (fun r92 g93 l94 a95 b96 H locs hp97 hw => ?_)
          obtain ⟨h98, h99, h100, rfl, h102, h103, h104, h105, h106⟩ := hp97
          have hr107 : hk_rg 0 255 (a95 0) := (hk_pE (P := hk_rg 0 255) (hk_pE (P := hk_rg 0 255) (hk_pE (P := hk_rg 0 255) hr59 (h76 0 rfl)) (hfr_a87 0 rfl)) (h100 0 rfl))
          have hr108 : hk_rg 0 255 (a95 6) := (hk_pE (P := hk_rg 0 255) (hk_pE (P := hk_rg 0 255) (hk_pE (P := hk_rg 0 255) hr60 (h76 6 rfl)) (hfr_a87 6 rfl)) (h100 6 rfl))
          refine lv_istore (lv' := [(4, .int r92), (0, .ref (ad 0)), (3, .int x84)]) hx hb dX12_choiceNow_191 hl (by decide) rfl (fun ls hl => ?_)
          refine lv_aload_n hx hb dX12_choiceNow_193 rfl (lv_at hl 1 rfl) ?_
          refine lv_iconst (v := 2) hx hb dX12_choiceNow_194 (by decide) ?_
          refine lv_iload_n hx hb dX12_choiceNow_195 rfl (lv_at hl 2 rfl) ?_
          refine lv_iadd hx hb dX12_choiceNow_196 (jx_nm fun z109 hz109 => ?_)
          have xz109 : (z109).toInt = ((2 : Int32)).toInt + (x84).toInt := (hE_imp (hE_add hz109) (om443 (((2 : Int32)).toInt) ((x84).toInt) hf_B83_0 (by decide)))
          refine lv_iload hx hb dX12_choiceNow_197 (lv_at hl 0 rfl) ?_
          refine lv_aload_n hx hb dX12_choiceNow_199 rfl (lv_at hl 1 rfl) ?_
          refine lv_iload_n hx hb dX12_choiceNow_200 rfl (lv_at hl 2 rfl) ?_
          refine jx_Vi (As := [.int x84]) (rest := [.int r92, .int z109, .ref (ad 0)]) ⟨hx, hb, hml, hown, hts⟩ hZ hw hA (jm_X12_backOf l hlt D t3 cI cJ ad g93 l94 a95 bk _ x84 (om159 ((x84).toInt) hf_B83_0)) (cwV 1 hts (jx_gV wwM_good wM_32 wM_33 wM_34 wM_8 wM_35) rfl rfl rfl (by decide +kernel) ⟨Nat.le_of_ble_eq_true rfl, Nat.le_of_ble_eq_true rfl⟩) 0 (ci := 15) (T := TX12) (N := 92) rfl rfl rfl hl.1 rfl (Nat.le_of_ble_eq_true rfl) dX12_choiceNow_201 ⟨Nat.le_of_ble_eq_true rfl, Nat.le_of_ble_eq_true rfl⟩ (fun _ _ _ _ _ _ _ _ hp _ _ _ _ => hp.elim) (fun r114 g115 l116 a117 b118 H locs hp119 hw => ?_)
          obtain ⟨rfl, rfl, rfl, rfl, h124⟩ := hp119
          have e_g93_24 : g93 24 = (g 24) := ((h98 24 rfl)).trans (((hfr_g85 24 rfl)).trans (((h74 24 rfl)).trans (((h50 24 rfl)).trans (h29 24 rfl))))
          have e_g93_25 : g93 25 = (g 25) := ((h98 25 rfl)).trans (((hfr_g85 25 rfl)).trans (((h74 25 rfl)).trans (((h50 25 rfl)).trans (h29 25 rfl))))
          have e_g93_26 : g93 26 = (g 26) := ((h98 26 rfl)).trans (((hfr_g85 26 rfl)).trans (((h74 26 rfl)).trans (((h50 26 rfl)).trans (h29 26 rfl))))
          have e_g93_27 : g93 27 = (g 27) := ((h98 27 rfl)).trans (((hfr_g85 27 rfl)).trans (((h74 27 rfl)).trans (((h50 27 rfl)).trans (h29 27 rfl))))
          refine lv_i2l hx hb dX12_choiceNow_204 rfl (jx_nl fun z125 hz125 => ?_)
          have e_g93_52 : g93 52 = (g 52) := ((h98 52 rfl)).trans (((hfr_g85 52 rfl)).trans (((h74 52 rfl)).trans (((h50 52 rfl)).trans (h29 52 rfl))))
          have e_g93_53 : g93 53 = (g 53) := ((h98 53 rfl)).trans (((hfr_g85 53 rfl)).trans (((h74 53 rfl)).trans (((h50 53 rfl)).trans (h29 53 rfl))))
          have e_g93_55 : g93 55 = (g 55) := ((h98 55 rfl)).trans (((hfr_g85 55 rfl)).trans (((h74 55 rfl)).trans (((h50 55 rfl)).trans (h29 55 rfl))))
          have e_g93_17 : g93 17 = (g 17) := ((h98 17 rfl)).trans (((hfr_g85 17 rfl)).trans (((h74 17 rfl)).trans (((h50 17 rfl)).trans (h29 17 rfl))))
          have e_g93_18 : g93 18 = (g 18) := ((h98 18 rfl)).trans (((hfr_g85 18 rfl)).trans (((h74 18 rfl)).trans (((h50 18 rfl)).trans (h29 18 rfl))))
          refine jx_Vi (As := [.int z109, .int r92, .long z125]) (rest := []) ⟨hx, hb, hml, hown, hts⟩ hZ hw hA (jm_X12_copies l hlt D t3 cI cJ ad g93 l94 a95 bk _ z109 r92 z125 (om407 ((r92).toInt) h102) (om444 ((z125).toInt) ((r114).toInt) ((x84).toInt) ((g93 24).toInt) ((g93 25).toInt) ((g93 26).toInt) ((g93 27).toInt) ((g 24).toInt) ((g 25).toInt) ((g 26).toInt) ((g 27).toInt) (hE_i2l hz125) h124 hf_B83_0 (congrArg Int32.toInt e_g93_24) (congrArg Int32.toInt e_g93_25) (congrArg Int32.toInt e_g93_26) (congrArg Int32.toInt e_g93_27) hi_g24 hi_g25 hi_g26 hi_g27) (om202 ((g93 49).toInt) h105) (om206 ((g93 51).toInt) h106) (om141 ((g93 52).toInt) ((g 52).toInt) (congrArg Int32.toInt e_g93_52) hi_g52) (om141 ((g93 53).toInt) ((g 53).toInt) (congrArg Int32.toInt e_g93_53) hi_g53) (om409 ((g93 55).toInt) ((g 55).toInt) (congrArg Int32.toInt e_g93_55) hr0 hi_g55) (om410 ((g93 53).toInt) ((g93 17).toInt) ((g 53).toInt) ((g 17).toInt) (congrArg Int32.toInt e_g93_53) (congrArg Int32.toInt e_g93_17) hi_tfull) (om411 ((g93 18).toInt) ((g93 53).toInt) ((g93 17).toInt) ((g93 55).toInt) ((g 53).toInt) ((g 55).toInt) ((g 17).toInt) ((g 18).toInt) (congrArg Int32.toInt e_g93_53) (congrArg Int32.toInt e_g93_55) (congrArg Int32.toInt e_g93_17) (congrArg Int32.toInt e_g93_18) hi_tst) (om162 ((g93 24).toInt) ((g 24).toInt) (congrArg Int32.toInt e_g93_24) hi_g24) (om162 ((g93 25).toInt) ((g 25).toInt) (congrArg Int32.toInt e_g93_25) hi_g25) (om162 ((g93 26).toInt) ((g 26).toInt) (congrArg Int32.toInt e_g93_26) hi_g26) (om162 ((g93 27).toInt) ((g 27).toInt) (congrArg Int32.toInt e_g93_27) hi_g27) (om141 ((g93 17).toInt) ((g 17).toInt) (congrArg Int32.toInt e_g93_17) hi_g17) hr108) (cwV 3 hts (jx_gV wwM_good wM_151 wM_152 wM_153 wM_8 wM_154) rfl rfl rfl (by decide +kernel) ⟨Nat.le_of_ble_eq_true rfl, Nat.le_of_ble_eq_true rfl⟩) 0 (ci := 15) (T := TX12) (N := 92) rfl rfl rfl hl.1 rfl (Nat.le_of_ble_eq_true rfl) dX12_choiceNow_205 ⟨Nat.le_of_ble_eq_true rfl, Nat.le_of_ble_eq_true rfl⟩ (fun _ _ _ _ _ _ _ _ hp _ _ _ _ => hp.elim) (fun r130 g131 l132 a133 b134 H locs hp135 hw => ?_)
          obtain ⟨h136, rfl, h138, rfl, h140, h141, h142, h143, h144, h145, h146, h147, h148, h149⟩ := hp135
          have e_g93_17 : g93 17 = (g 17) := ((h98 17 rfl)).trans (((hfr_g85 17 rfl)).trans (((h74 17 rfl)).trans (((h50 17 rfl)).trans (h29 17 rfl))))
          have e_g131_53 : g131 53 = (g 53) := ((h136 53 rfl)).trans e_g93_53
          have e_g131_55 : g131 55 = (g 55) := ((h136 55 rfl)).trans e_g93_55
          refine lv_if_eq (tgt := 236) hx hb dX12_choiceNow_208 (by decide) (fun cc150 => ?_) (fun cc150 => ?_)
          · have e_g131_49 : g131 49 = (g93 49) := (h136 49 rfl)
            have e_g131_24 : g131 24 = (g 24) := ((h136 24 rfl)).trans e_g93_24
            have e_g131_25 : g131 25 = (g 25) := ((h136 25 rfl)).trans e_g93_25
            have e_g131_26 : g131 26 = (g 26) := ((h136 26 rfl)).trans e_g93_26
            have e_g131_27 : g131 27 = (g 27) := ((h136 27 rfl)).trans e_g93_27
            have e_g131_23 : g131 23 = (g 23) := ((h136 23 rfl)).trans (((h98 23 rfl)).trans (((hfr_g85 23 rfl)).trans (((h74 23 rfl)).trans e_g45_23)))
            exact kr g131 l94 a133 bk _ _ _ _ ⟨(hk_frT (hk_frT (hk_frT (hk_frT (hk_frT (hk_frT hk_fr0 (by decide) h29) (by decide) h50) (by decide) h74) (by decide) hfr_g85) (by decide) h98) (by decide) h136), (hk_frT (hk_frT (hk_frT (hk_frT h30 (by decide) h51) (by decide) h75) (by decide) hfr_l86) (by decide) h99), (hk_frT (hk_frT (hk_frT (hk_frT (hk_frT (hk_frT hk_fr0 (by decide) h31) (by decide) h52) (by decide) h76) (by decide) hfr_a87) (by decide) h100) (by decide) h138), rfl, (om412 ((g 49).toInt) ((g131 49).toInt) ((g85 49).toInt) ((g93 49).toInt) hf_B83_1 (congrArg Int32.toInt e_g131_49) h103), (om445 ((g 51).toInt) ((g131 51).toInt) ((g85 51).toInt) ((g93 51).toInt) hf_B83_2 h141 h104), (om414 ((g 17).toInt) ((g131 17).toInt) ((g93 17).toInt) (congrArg Int32.toInt e_g93_17) h142), (om415 ((g 17).toInt) ((g131 17).toInt) ((g131 51).toInt) ((g131 55).toInt) ((r130).toInt) (((0 : Int32)).toInt) h144 h140 (hE_eq cc150) (by decide)), (om21 ((g131 49).toInt) ((g93 49).toInt) (congrArg Int32.toInt e_g131_49) h105), (om206 ((g131 51).toInt) h145), (om409 ((g131 55).toInt) ((g 55).toInt) (congrArg Int32.toInt e_g131_55) hr0 hi_g55), (om402 ((g131 53).toInt) ((g131 17).toInt) h146), (om403 ((g131 18).toInt) ((g131 53).toInt) ((g131 17).toInt) ((g131 55).toInt) h147), (om162 ((g131 24).toInt) ((g 24).toInt) (congrArg Int32.toInt e_g131_24) hi_g24), (om162 ((g131 25).toInt) ((g 25).toInt) (congrArg Int32.toInt e_g131_25) hi_g25), (om162 ((g131 26).toInt) ((g 26).toInt) (congrArg Int32.toInt e_g131_26) hi_g26), (om162 ((g131 27).toInt) ((g 27).toInt) (congrArg Int32.toInt e_g131_27) hi_g27), (om404 ((g131 17).toInt) h148), (om333 ((g131 23).toInt) ((g 23).toInt) (congrArg Int32.toInt e_g131_23) hi_g23), h149⟩ hw dX12_choiceNow_236
          · refine lv_aload_n hx hb dX12_choiceNow_211 rfl (lv_at hl 1 rfl) ?_
            refine lv_iload_n hx hb dX12_choiceNow_212 rfl (lv_at hl 2 rfl) ?_
            have e_g131_24 : g131 24 = (g 24) := ((h136 24 rfl)).trans e_g93_24
            have e_g131_25 : g131 25 = (g 25) := ((h136 25 rfl)).trans e_g93_25
            have e_g131_26 : g131 26 = (g 26) := ((h136 26 rfl)).trans e_g93_26
            have e_g131_27 : g131 27 = (g 27) := ((h136 27 rfl)).trans e_g93_27
            refine jx_Vv (As := [.int x84]) (rest := []) ⟨hx, hb, hml, hown, hts⟩ hZ hw hA (jm_X12_toFront l hlt D t3 cI cJ ad g131 l94 a133 bk _ x84 (om159 ((x84).toInt) hf_B83_0) (om162 ((g131 24).toInt) ((g 24).toInt) (congrArg Int32.toInt e_g131_24) hi_g24) (om162 ((g131 25).toInt) ((g 25).toInt) (congrArg Int32.toInt e_g131_25) hi_g25) (om162 ((g131 26).toInt) ((g 26).toInt) (congrArg Int32.toInt e_g131_26) hi_g26) (om162 ((g131 27).toInt) ((g 27).toInt) (congrArg Int32.toInt e_g131_27) hi_g27)) (cwV 1 hts (jx_gV wwM_good wM_159 wM_160 wM_161 wM_8 wM_162) rfl rfl rfl (by decide +kernel) ⟨Nat.le_of_ble_eq_true rfl, Nat.le_of_ble_eq_true rfl⟩) 0 (ci := 15) (T := TX12) (N := 92) rfl rfl rfl hl.1 rfl (Nat.le_of_ble_eq_true rfl) dX12_choiceNow_213 ⟨Nat.le_of_ble_eq_true rfl, Nat.le_of_ble_eq_true rfl⟩ (fun _ _ _ _ _ _ _ _ hp _ _ _ _ => hp.elim) (fun g156 l157 a158 b159 H locs hp160 hw => ?_)
            obtain ⟨h161, rfl, rfl, rfl, h165, h166, h167, h168, h169⟩ := hp160
            have e_g131_24 : g131 24 = (g 24) := ((h136 24 rfl)).trans e_g93_24
            have e_g131_25 : g131 25 = (g 25) := ((h136 25 rfl)).trans e_g93_25
            have e_g131_26 : g131 26 = (g 26) := ((h136 26 rfl)).trans e_g93_26
            have e_g131_27 : g131 27 = (g 27) := ((h136 27 rfl)).trans e_g93_27
            refine lv_aload_n hx hb dX12_choiceNow_216 rfl (lv_at hl 1 rfl) ?_
            refine lv_aload_n hx hb dX12_choiceNow_217 rfl (lv_at hl 1 rfl) ?_
            have e_g156_23 : g156 23 = (g 23) := ((h161 23 rfl)).trans (((h136 23 rfl)).trans (((h98 23 rfl)).trans (((hfr_g85 23 rfl)).trans (((h74 23 rfl)).trans e_g45_23))))
            refine hk_get (ci := 15) (C := RX12) (T := TX12) (N := 92) (v := .int (g 23)) hx hb hts (fun _ h => List.mem_cons_of_mem _ (wwMc_wsX120 _ h)) hown hw 0 rfl rfl 43 (by decide) (hq _ wM_31) (congrArg (fun z => some (Value.int z)) e_g156_23) dX12_choiceNow_218 ?_
            refine lv_bipush (v := 7) hx hb dX12_choiceNow_221 (by decide) ?_
            have B170 : ∀  (x171 : Int32) (ls : Array Slot) (H : Heap) (locs : List Loc), (8 ≤ (x171).toInt ∧ (x171).toInt ≤ 11) → hk_W D (jT cI cJ) A s H locs (mw cI cJ ad g156 l94 a133 bk) → lv_has ls 5 [] → W p l e { frames := 7, cells := 0, slots := 0, locals := 162 } s m args below meth c H locs 0 0 Q (F0 m 233 ls [.int x171, .ref (ad 0)]) := by
              intro x171 ls H locs hf_B170_0 hw hl
              refine jx_putg mw (cI := cI) (cJ := cJ) (ad := ad) (g := g156) (lg := l94) (ar := a133) (bk := bk) (x := x171) 23 (ci := 15) (C := RX12) (T := TX12) (N := 92) (ty := .int) hx hb hts (fun _ h => List.mem_cons_of_mem _ (wwMc_wsX120 _ h)) tyX12 tyX12_ok nmX12 hown hw 0 rfl rfl 43 (by decide) (hq _ wM_31) rfl (by decide +kernel) rfl rfl (Nat.le_of_ble_eq_true rfl) dX12_choiceNow_233 rfl (fun H locs g172 h_g172 hw => ?_)
              have e_g172_49 : g172 49 = (g93 49) := ((hk_upgN h_g172 49 rfl)).trans (((h161 49 rfl)).trans (h136 49 rfl))
              have e_g172_51 : g172 51 = (g131 51) := ((hk_upgN h_g172 51 rfl)).trans (h161 51 rfl)
              have e_g172_17 : g172 17 = (g131 17) := ((hk_upgN h_g172 17 rfl)).trans (h161 17 rfl)
              have e_g172_55 : g172 55 = (g 55) := ((hk_upgN h_g172 55 rfl)).trans (((h161 55 rfl)).trans e_g131_55)
              have e_g172_53 : g172 53 = (g 53) := ((hk_upgN h_g172 53 rfl)).trans (((h161 53 rfl)).trans e_g131_53)
              have e_g172_18 : g172 18 = (g131 18) := ((hk_upgN h_g172 18 rfl)).trans (h161 18 rfl)
              have e_g172_24 : g172 24 = (g156 24) := (hk_upgN h_g172 24 rfl)
              have e_g172_25 : g172 25 = (g156 25) := (hk_upgN h_g172 25 rfl)
              have e_g172_26 : g172 26 = (g156 26) := (hk_upgN h_g172 26 rfl)
              have e_g172_27 : g172 27 = (g156 27) := (hk_upgN h_g172 27 rfl)
              have e_g172_23 : g172 23 = x171 := (hk_upgS h_g172)
              exact kr g172 l94 a133 bk _ _ _ _ ⟨(hk_frG (hk_frT (hk_frT (hk_frT (hk_frT (hk_frT (hk_frT (hk_frT hk_fr0 (by decide) h29) (by decide) h50) (by decide) h74) (by decide) hfr_g85) (by decide) h98) (by decide) h136) (by decide) h161) (by decide) h_g172), (hk_frT (hk_frT (hk_frT (hk_frT h30 (by decide) h51) (by decide) h75) (by decide) hfr_l86) (by decide) h99), (hk_frT (hk_frT (hk_frT (hk_frT (hk_frT (hk_frT hk_fr0 (by decide) h31) (by decide) h52) (by decide) h76) (by decide) hfr_a87) (by decide) h100) (by decide) h138), rfl, (om412 ((g 49).toInt) ((g172 49).toInt) ((g85 49).toInt) ((g93 49).toInt) hf_B83_1 (congrArg Int32.toInt e_g172_49) h103), (om446 ((g 51).toInt) ((g172 51).toInt) ((g85 51).toInt) ((g131 51).toInt) ((g93 51).toInt) hf_B83_2 (congrArg Int32.toInt e_g172_51) h104 h141), (om420 ((g 17).toInt) ((g172 17).toInt) ((g93 17).toInt) ((g131 17).toInt) (congrArg Int32.toInt e_g93_17) (congrArg Int32.toInt e_g172_17) h142), (om421 ((g 17).toInt) ((g172 17).toInt) ((g172 51).toInt) ((g172 55).toInt) ((g93 17).toInt) ((g131 17).toInt) ((r130).toInt) ((r92).toInt) ((z125).toInt) (((0 : Int32)).toInt) (congrArg Int32.toInt e_g93_17) (congrArg Int32.toInt e_g172_17) h143 h102 h140 (hE_ne cc150) (by decide)), (om21 ((g172 49).toInt) ((g93 49).toInt) (congrArg Int32.toInt e_g172_49) h105), (om422 ((g172 51).toInt) ((g131 51).toInt) (congrArg Int32.toInt e_g172_51) h145), (om409 ((g172 55).toInt) ((g 55).toInt) (congrArg Int32.toInt e_g172_55) hr0 hi_g55), (om423 ((g172 53).toInt) ((g172 17).toInt) ((g131 17).toInt) ((g 53).toInt) ((g131 53).toInt) (congrArg Int32.toInt e_g172_17) (congrArg Int32.toInt e_g172_53) h146 (congrArg Int32.toInt e_g131_53)), (om424 ((g172 18).toInt) ((g172 53).toInt) ((g172 17).toInt) ((g172 55).toInt) ((g131 17).toInt) ((g 55).toInt) ((g 53).toInt) ((g131 18).toInt) ((g131 53).toInt) ((g131 55).toInt) (congrArg Int32.toInt e_g172_17) (congrArg Int32.toInt e_g172_55) (congrArg Int32.toInt e_g172_53) (congrArg Int32.toInt e_g172_18) (congrArg Int32.toInt e_g131_53) h147 (congrArg Int32.toInt e_g131_55)), (om162 ((g172 24).toInt) ((g156 24).toInt) (congrArg Int32.toInt e_g172_24) h166), (om162 ((g172 25).toInt) ((g156 25).toInt) (congrArg Int32.toInt e_g172_25) h167), (om162 ((g172 26).toInt) ((g156 26).toInt) (congrArg Int32.toInt e_g172_26) h168), (om162 ((g172 27).toInt) ((g156 27).toInt) (congrArg Int32.toInt e_g172_27) h169), (om141 ((g172 17).toInt) ((g131 17).toInt) (congrArg Int32.toInt e_g172_17) h148), (om447 ((g172 23).toInt) ((x171).toInt) (congrArg Int32.toInt e_g172_23) hf_B170_0), h149⟩ hw dX12_choiceNow_236
            refine lv_icmp_ge (tgt := 231) hx hb dX12_choiceNow_223 (by decide) (fun cc173 => ?_) (fun cc173 => ?_)
            · refine lv_bipush (v := 11) hx hb dX12_choiceNow_231 (by decide) ?_
              exact B170 11 ls _ _ (om448 (((11 : Int32)).toInt) (by decide)) hw (lv_sub hl [] rfl)
            · refine lv_bipush (v := 8) hx hb dX12_choiceNow_226 (by decide) ?_
              refine lv_goto (tgt := 233) hx hb dX12_choiceNow_228 (by decide) ?_
              exact B170 8 ls _ _ (om449 (((8 : Int32)).toInt) (by decide)) hw (lv_sub hl [] rfl)
        refine lv_if_ne (tgt := 144) hx hb dX12_choiceNow_85 (by decide) (fun cc174 => ?_) (fun cc174 => ?_)
        · refine lv_aload_n hx hb dX12_choiceNow_144 rfl (lv_at hl 2 rfl) ?_
          refine lv_sipush (v := 216) hx hb dX12_choiceNow_145 (by decide) ?_
          refine lv_aload_n hx hb dX12_choiceNow_148 rfl (lv_at hl 2 rfl) ?_
          have e_g69_23 : g69 23 = (g 23) := ((h74 23 rfl)).trans e_g45_23
          refine hk_get (ci := 15) (C := RX12) (T := TX12) (N := 92) (v := .int (g 23)) hx hb hts (fun _ h => List.mem_cons_of_mem _ (wwMc_wsX120 _ h)) hown hw 0 rfl rfl 43 (by decide) (hq _ wM_31) (congrArg (fun z => some (Value.int z)) e_g69_23) dX12_choiceNow_149 ?_
          refine lv_iadd hx hb dX12_choiceNow_152 (jx_nm fun z175 hz175 => ?_)
          have xz175 : (z175).toInt = ((216 : Int32)).toInt + (g 23).toInt := (hE_imp (hE_add hz175) (om450 (((216 : Int32)).toInt) ((g 23).toInt) hi_g23 (by decide)))
          have e_g69_12 : g69 12 = (g 12) := ((h74 12 rfl)).trans e_g45_12
          refine jx_Vi (As := [.int z175]) (rest := []) ⟨hx, hb, hml, hown, hts⟩ hZ hw hA (jm_X12_getBit l hlt D t3 cI cJ ad g69 l70 a71 bk _ z175 (om451 ((z175).toInt) (((216 : Int32)).toInt) ((g 23).toInt) xz175 hi_g23 (by decide)) (om202 ((g69 49).toInt) h81) (om206 ((g69 51).toInt) h82) (om21 ((g69 12).toInt) ((g 12).toInt) (congrArg Int32.toInt e_g69_12) hi_g12) (hk_pE (P := hk_rg 0 255) hr59 (h76 0 rfl))) (cwV 1 hts (jx_gV wwM_good wM_139 wM_140 wM_141 wM_8 wM_142) rfl rfl rfl (by decide +kernel) ⟨Nat.le_of_ble_eq_true rfl, Nat.le_of_ble_eq_true rfl⟩) 0 (ci := 15) (T := TX12) (N := 92) rfl rfl rfl hl.1 rfl (Nat.le_of_ble_eq_true rfl) dX12_choiceNow_153 ⟨Nat.le_of_ble_eq_true rfl, Nat.le_of_ble_eq_true rfl⟩ (fun _ _ _ _ _ _ _ _ hp _ _ _ _ => hp.elim) (fun r180 g181 l182 a183 b184 H locs hp185 hw => ?_)
          obtain ⟨h186, h187, h188, rfl, h190, h191, h192, h193, h194⟩ := hp185
          have hr195 : hk_rg 0 255 (a183 0) := (hk_pE (P := hk_rg 0 255) (hk_pE (P := hk_rg 0 255) hr59 (h76 0 rfl)) (h188 0 rfl))
          have hr196 : hk_rg 0 255 (a183 6) := (hk_pE (P := hk_rg 0 255) (hk_pE (P := hk_rg 0 255) hr60 (h76 6 rfl)) (h188 6 rfl))
          have B197 : ∀  (x198 : Int32) (g199 : Nat → Int32) (l200 : Nat → Int64) (a201 : Nat → Nat → Int32) (ls : Array Slot) (H : Heap) (locs : List Loc), (0 ≤ (x198).toInt ∧ (x198).toInt ≤ 3) → ((g 49).toInt ≤ (g199 49).toInt) → (1 ≤ (g 51).toInt → 1 ≤ (g199 51).toInt) → (0 ≤ (g199 49).toInt ∧ (g199 49).toInt ≤ 1500) → (0 ≤ (g199 51).toInt ∧ (g199 51).toInt ≤ 15) → (hk_fr [49, 51] g181 g199) → (hk_fr [3, 4] l182 l200) → (hk_fr [16] a183 a201) → hk_W D (jT cI cJ) A s H locs (mw cI cJ ad g199 l200 a201 bk) → lv_has ls 5 [(0, .ref (ad 0))] → W p l e { frames := 7, cells := 0, slots := 0, locals := 162 } s m args below meth c H locs 0 0 Q (F0 m 183 ls [.int x198]) := by
            intro x198 g199 l200 a201 ls H locs hf_B197_0 hf_B197_1 hf_B197_2 hf_B197_3 hf_B197_4 hfr_g199 hfr_l200 hfr_a201 hw hl
            refine lv_istore_n (lv' := [(3, .int x198), (0, .ref (ad 0))]) hx hb dX12_choiceNow_183 rfl hl (by decide) rfl (fun ls hl => ?_)
            exact B83 x198 g199 l200 a201 ls _ _ (om159 ((x198).toInt) hf_B197_0) (om204 ((g 49).toInt) ((g199 49).toInt) hf_B197_1) (om213 ((g 51).toInt) ((g199 51).toInt) hf_B197_2) (om202 ((g199 49).toInt) hf_B197_3) (om206 ((g199 51).toInt) hf_B197_4) (hk_frT h186 (by decide) hfr_g199) (hk_frT h187 (by decide) hfr_l200) (hk_frT h188 (by decide) hfr_a201) hw (lv_sub hl [1, 0] rfl)
          refine lv_if_ne (tgt := 163) hx hb dX12_choiceNow_156 (by decide) (fun cc202 => ?_) (fun cc202 => ?_)
          · refine lv_aload_n hx hb dX12_choiceNow_163 rfl (lv_at hl 2 rfl) ?_
            refine lv_sipush (v := 228) hx hb dX12_choiceNow_164 (by decide) ?_
            refine lv_aload_n hx hb dX12_choiceNow_167 rfl (lv_at hl 2 rfl) ?_
            have e_g181_23 : g181 23 = (g 23) := ((h186 23 rfl)).trans e_g69_23
            refine hk_get (ci := 15) (C := RX12) (T := TX12) (N := 92) (v := .int (g 23)) hx hb hts (fun _ h => List.mem_cons_of_mem _ (wwMc_wsX120 _ h)) hown hw 0 rfl rfl 43 (by decide) (hq _ wM_31) (congrArg (fun z => some (Value.int z)) e_g181_23) dX12_choiceNow_168 ?_
            refine lv_iadd hx hb dX12_choiceNow_171 (jx_nm fun z203 hz203 => ?_)
            have xz203 : (z203).toInt = ((228 : Int32)).toInt + (g 23).toInt := (hE_imp (hE_add hz203) (om452 (((228 : Int32)).toInt) ((g 23).toInt) hi_g23 (by decide)))
            have e_g181_12 : g181 12 = (g 12) := ((h186 12 rfl)).trans e_g69_12
            refine jx_Vi (As := [.int z203]) (rest := []) ⟨hx, hb, hml, hown, hts⟩ hZ hw hA (jm_X12_getBit l hlt D t3 cI cJ ad g181 l182 a183 bk _ z203 (om453 ((z203).toInt) (((228 : Int32)).toInt) ((g 23).toInt) xz203 hi_g23 (by decide)) (om202 ((g181 49).toInt) h193) (om206 ((g181 51).toInt) h194) (om21 ((g181 12).toInt) ((g 12).toInt) (congrArg Int32.toInt e_g181_12) hi_g12) hr195) (cwV 1 hts (jx_gV wwM_good wM_139 wM_140 wM_141 wM_8 wM_142) rfl rfl rfl (by decide +kernel) ⟨Nat.le_of_ble_eq_true rfl, Nat.le_of_ble_eq_true rfl⟩) 0 (ci := 15) (T := TX12) (N := 92) rfl rfl rfl hl.1 rfl (Nat.le_of_ble_eq_true rfl) dX12_choiceNow_172 ⟨Nat.le_of_ble_eq_true rfl, Nat.le_of_ble_eq_true rfl⟩ (fun _ _ _ _ _ _ _ _ hp _ _ _ _ => hp.elim) (fun r208 g209 l210 a211 b212 H locs hp213 hw => ?_)
            obtain ⟨h214, h215, h216, rfl, h218, h219, h220, h221, h222⟩ := hp213
            refine lv_if_ne (tgt := 182) hx hb dX12_choiceNow_175 (by decide) (fun cc223 => ?_) (fun cc223 => ?_)
            · refine lv_iconst (v := 3) hx hb dX12_choiceNow_182 (by decide) ?_
              exact B197 3 g209 l210 a211 ls _ _ (om319 (((3 : Int32)).toInt) (by decide)) (om454 ((g 49).toInt) ((g209 49).toInt) ((g24 49).toInt) ((g181 49).toInt) ((g45 49).toInt) ((g69 49).toInt) h34 h219 h55 h191 h79) (om455 ((g 51).toInt) ((g209 51).toInt) ((g24 51).toInt) ((g181 51).toInt) ((g45 51).toInt) ((g69 51).toInt) h35 h220 h56 h192 h80) (om202 ((g209 49).toInt) h221) (om206 ((g209 51).toInt) h222) h214 h215 h216 hw (lv_sub hl [2] rfl)
            · refine lv_iconst (v := 2) hx hb dX12_choiceNow_178 (by decide) ?_
              refine lv_goto (tgt := 183) hx hb dX12_choiceNow_179 (by decide) ?_
              exact B197 2 g209 l210 a211 ls _ _ (om456 (((2 : Int32)).toInt) (by decide)) (om454 ((g 49).toInt) ((g209 49).toInt) ((g24 49).toInt) ((g181 49).toInt) ((g45 49).toInt) ((g69 49).toInt) h34 h219 h55 h191 h79) (om455 ((g 51).toInt) ((g209 51).toInt) ((g24 51).toInt) ((g181 51).toInt) ((g45 51).toInt) ((g69 51).toInt) h35 h220 h56 h192 h80) (om202 ((g209 49).toInt) h221) (om206 ((g209 51).toInt) h222) h214 h215 h216 hw (lv_sub hl [2] rfl)
          · refine lv_iconst (v := 1) hx hb dX12_choiceNow_159 (by decide) ?_
            refine lv_goto (tgt := 183) hx hb dX12_choiceNow_160 (by decide) ?_
            exact B197 1 g181 l182 a183 ls _ _ (om457 (((1 : Int32)).toInt) (by decide)) (om458 ((g 49).toInt) ((g181 49).toInt) ((g24 49).toInt) ((g69 49).toInt) ((g45 49).toInt) h34 h191 h55 h79) (om459 ((g 51).toInt) ((g181 51).toInt) ((g24 51).toInt) ((g69 51).toInt) ((g45 51).toInt) h35 h192 h56 h80) (om202 ((g181 49).toInt) h193) (om206 ((g181 51).toInt) h194) hk_fr0 hk_fr0 hk_fr0 hw (lv_sub hl [2] rfl)
        · refine lv_aload_n hx hb dX12_choiceNow_88 rfl (lv_at hl 2 rfl) ?_
          refine lv_sipush (v := 240) hx hb dX12_choiceNow_89 (by decide) ?_
          refine lv_bipush (v := 16) hx hb dX12_choiceNow_92 (by decide) ?_
          refine lv_aload_n hx hb dX12_choiceNow_94 rfl (lv_at hl 2 rfl) ?_
          have e_g69_23 : g69 23 = (g 23) := ((h74 23 rfl)).trans e_g45_23
          refine hk_get (ci := 15) (C := RX12) (T := TX12) (N := 92) (v := .int (g 23)) hx hb hts (fun _ h => List.mem_cons_of_mem _ (wwMc_wsX120 _ h)) hown hw 0 rfl rfl 43 (by decide) (hq _ wM_31) (congrArg (fun z => some (Value.int z)) e_g69_23) dX12_choiceNow_95 ?_
          refine lv_imul hx hb dX12_choiceNow_98 (jx_nm fun z224 hz224 => ?_)
          have xz224 : (z224).toInt = (g 23).toInt * 16 := (hE_imp (hE_mul' 16 hz224 (by decide)) (om460 ((g 23).toInt) ((z16).toInt) hi_g23 xz16 (hE_rng (z16))))
          refine lv_iadd hx hb dX12_choiceNow_99 (jx_nm fun z225 hz225 => ?_)
          have xz225 : (z225).toInt = ((240 : Int32)).toInt + (z224).toInt := (hE_imp (hE_add hz225) (om461 (((240 : Int32)).toInt) ((z224).toInt) ((g 23).toInt) xz224 hi_g23 (by decide) (hE_rng (z224))))
          refine lv_iload_n hx hb dX12_choiceNow_100 rfl (lv_at hl 1 rfl) ?_
          refine lv_iadd hx hb dX12_choiceNow_101 (jx_nm fun z226 hz226 => ?_)
          have xz226 : (z226).toInt = (z225).toInt + (r5).toInt := (hE_imp (hE_add hz226) (om462 ((z225).toInt) ((r5).toInt) (((240 : Int32)).toInt) ((z224).toInt) ((g 23).toInt) h15 xz225 xz224 hi_g23 (by decide) (hE_rng (z224))))
          have e_g69_12 : g69 12 = (g 12) := ((h74 12 rfl)).trans e_g45_12
          refine jx_Vi (As := [.int z226]) (rest := []) ⟨hx, hb, hml, hown, hts⟩ hZ hw hA (jm_X12_getBit l hlt D t3 cI cJ ad g69 l70 a71 bk _ z226 (om463 ((z226).toInt) ((z225).toInt) ((r5).toInt) (((240 : Int32)).toInt) ((z224).toInt) ((g 23).toInt) xz226 h15 xz225 xz224 hi_g23 (by decide)) (om202 ((g69 49).toInt) h81) (om206 ((g69 51).toInt) h82) (om21 ((g69 12).toInt) ((g 12).toInt) (congrArg Int32.toInt e_g69_12) hi_g12) (hk_pE (P := hk_rg 0 255) hr59 (h76 0 rfl))) (cwV 1 hts (jx_gV wwM_good wM_139 wM_140 wM_141 wM_8 wM_142) rfl rfl rfl (by decide +kernel) ⟨Nat.le_of_ble_eq_true rfl, Nat.le_of_ble_eq_true rfl⟩) 0 (ci := 15) (T := TX12) (N := 92) rfl rfl rfl hl.1 rfl (Nat.le_of_ble_eq_true rfl) dX12_choiceNow_102 ⟨Nat.le_of_ble_eq_true rfl, Nat.le_of_ble_eq_true rfl⟩ (fun _ _ _ _ _ _ _ _ hp _ _ _ _ => hp.elim) (fun r231 g232 l233 a234 b235 H locs hp236 hw => ?_)
          obtain ⟨h237, h238, h239, rfl, h241, h242, h243, h244, h245⟩ := hp236
          have hr246 : hk_rg 0 255 (a234 0) := (hk_pE (P := hk_rg 0 255) (hk_pE (P := hk_rg 0 255) hr59 (h76 0 rfl)) (h239 0 rfl))
          have hr247 : hk_rg 0 255 (a234 6) := (hk_pE (P := hk_rg 0 255) (hk_pE (P := hk_rg 0 255) hr60 (h76 6 rfl)) (h239 6 rfl))
          refine lv_if_ne (tgt := 184) hx hb dX12_choiceNow_105 (by decide) (fun cc248 => ?_) (fun cc248 => ?_)
          · exact B83 0 g232 l233 a234 ls _ _ (om464 (((0 : Int32)).toInt) (by decide)) (om458 ((g 49).toInt) ((g232 49).toInt) ((g24 49).toInt) ((g69 49).toInt) ((g45 49).toInt) h34 h242 h55 h79) (om459 ((g 51).toInt) ((g232 51).toInt) ((g24 51).toInt) ((g69 51).toInt) ((g45 51).toInt) h35 h243 h56 h80) (om202 ((g232 49).toInt) h244) (om206 ((g232 51).toInt) h245) h237 h238 h239 hw (lv_sub hl [2, 0] rfl)
          · refine lv_aload_n hx hb dX12_choiceNow_108 rfl (lv_at hl 2 rfl) ?_
            refine lv_bipush (v := 6) hx hb dX12_choiceNow_109 (by decide) ?_
            refine lv_iconst (v := 1) hx hb dX12_choiceNow_111 (by decide) ?_
            refine lv_aload_n hx hb dX12_choiceNow_112 rfl (lv_at hl 2 rfl) ?_
            have e_g232_24 : g232 24 = (g 24) := ((h237 24 rfl)).trans (((h74 24 rfl)).trans (((h50 24 rfl)).trans (h29 24 rfl)))
            refine hk_get (ci := 15) (C := RX12) (T := TX12) (N := 92) (v := .int (g 24)) hx hb hts (fun _ h => List.mem_cons_of_mem _ (wwMc_wsX120 _ h)) hown hw 0 rfl rfl 44 (by decide) (hq _ wM_40) (congrArg (fun z => some (Value.int z)) e_g232_24) dX12_choiceNow_113 ?_
            refine lv_i2l hx hb dX12_choiceNow_116 rfl (jx_nl fun z249 hz249 => ?_)
            have e_g232_52 : g232 52 = (g 52) := ((h237 52 rfl)).trans (((h74 52 rfl)).trans (((h50 52 rfl)).trans (h29 52 rfl)))
            have e_g232_53 : g232 53 = (g 53) := ((h237 53 rfl)).trans (((h74 53 rfl)).trans (((h50 53 rfl)).trans (h29 53 rfl)))
            have e_g232_55 : g232 55 = (g 55) := ((h237 55 rfl)).trans (((h74 55 rfl)).trans (((h50 55 rfl)).trans (h29 55 rfl)))
            have e_g232_17 : g232 17 = (g 17) := ((h237 17 rfl)).trans (((h74 17 rfl)).trans (((h50 17 rfl)).trans (h29 17 rfl)))
            have e_g232_18 : g232 18 = (g 18) := ((h237 18 rfl)).trans (((h74 18 rfl)).trans (((h50 18 rfl)).trans (h29 18 rfl)))
            have e_g232_25 : g232 25 = (g 25) := ((h237 25 rfl)).trans (((h74 25 rfl)).trans (((h50 25 rfl)).trans (h29 25 rfl)))
            have e_g232_26 : g232 26 = (g 26) := ((h237 26 rfl)).trans (((h74 26 rfl)).trans (((h50 26 rfl)).trans (h29 26 rfl)))
            have e_g232_27 : g232 27 = (g 27) := ((h237 27 rfl)).trans (((h74 27 rfl)).trans (((h50 27 rfl)).trans (h29 27 rfl)))
            refine jx_Vi (As := [.int 6, .int 1, .long z249]) (rest := []) ⟨hx, hb, hml, hown, hts⟩ hZ hw hA (jm_X12_copies l hlt D t3 cI cJ ad g232 l233 a234 bk _ 6 1 z249 (om465 (((1 : Int32)).toInt) (by decide)) (om466 ((z249).toInt) ((g 24).toInt) (hE_i2l hz249) hi_g24) (om202 ((g232 49).toInt) h244) (om206 ((g232 51).toInt) h245) (om141 ((g232 52).toInt) ((g 52).toInt) (congrArg Int32.toInt e_g232_52) hi_g52) (om141 ((g232 53).toInt) ((g 53).toInt) (congrArg Int32.toInt e_g232_53) hi_g53) (om409 ((g232 55).toInt) ((g 55).toInt) (congrArg Int32.toInt e_g232_55) hr0 hi_g55) (om410 ((g232 53).toInt) ((g232 17).toInt) ((g 53).toInt) ((g 17).toInt) (congrArg Int32.toInt e_g232_53) (congrArg Int32.toInt e_g232_17) hi_tfull) (om411 ((g232 18).toInt) ((g232 53).toInt) ((g232 17).toInt) ((g232 55).toInt) ((g 53).toInt) ((g 55).toInt) ((g 17).toInt) ((g 18).toInt) (congrArg Int32.toInt e_g232_53) (congrArg Int32.toInt e_g232_55) (congrArg Int32.toInt e_g232_17) (congrArg Int32.toInt e_g232_18) hi_tst) (om162 ((g232 24).toInt) ((g 24).toInt) (congrArg Int32.toInt e_g232_24) hi_g24) (om162 ((g232 25).toInt) ((g 25).toInt) (congrArg Int32.toInt e_g232_25) hi_g25) (om162 ((g232 26).toInt) ((g 26).toInt) (congrArg Int32.toInt e_g232_26) hi_g26) (om162 ((g232 27).toInt) ((g 27).toInt) (congrArg Int32.toInt e_g232_27) hi_g27) (om141 ((g232 17).toInt) ((g 17).toInt) (congrArg Int32.toInt e_g232_17) hi_g17) hr247) (cwV 3 hts (jx_gV wwM_good wM_151 wM_152 wM_153 wM_8 wM_154) rfl rfl rfl (by decide +kernel) ⟨Nat.le_of_ble_eq_true rfl, Nat.le_of_ble_eq_true rfl⟩) 0 (ci := 15) (T := TX12) (N := 92) rfl rfl rfl hl.1 rfl (Nat.le_of_ble_eq_true rfl) dX12_choiceNow_117 ⟨Nat.le_of_ble_eq_true rfl, Nat.le_of_ble_eq_true rfl⟩ (fun _ _ _ _ _ _ _ _ hp _ _ _ _ => hp.elim) (fun r254 g255 l256 a257 b258 H locs hp259 hw => ?_)
            obtain ⟨h260, rfl, h262, rfl, h264, h265, h266, h267, h268, h269, h270, h271, h272, h273⟩ := hp259
            have e_g232_17 : g232 17 = (g 17) := ((h237 17 rfl)).trans (((h74 17 rfl)).trans (((h50 17 rfl)).trans (h29 17 rfl)))
            have e_g255_53 : g255 53 = (g 53) := ((h260 53 rfl)).trans e_g232_53
            have e_g255_55 : g255 55 = (g 55) := ((h260 55 rfl)).trans e_g232_55
            refine lv_if_eq (tgt := 143) hx hb dX12_choiceNow_120 (by decide) (fun cc274 => ?_) (fun cc274 => ?_)
            · have e_g255_49 : g255 49 = (g232 49) := (h260 49 rfl)
              have e_g255_24 : g255 24 = (g 24) := ((h260 24 rfl)).trans e_g232_24
              have e_g255_25 : g255 25 = (g 25) := ((h260 25 rfl)).trans e_g232_25
              have e_g255_26 : g255 26 = (g 26) := ((h260 26 rfl)).trans e_g232_26
              have e_g255_27 : g255 27 = (g 27) := ((h260 27 rfl)).trans e_g232_27
              have e_g255_23 : g255 23 = (g 23) := ((h260 23 rfl)).trans (((h237 23 rfl)).trans e_g69_23)
              exact kr g255 l233 a257 bk _ _ _ _ ⟨(hk_frT (hk_frT (hk_frT (hk_frT (hk_frT hk_fr0 (by decide) h29) (by decide) h50) (by decide) h74) (by decide) h237) (by decide) h260), (hk_frT (hk_frT (hk_frT h30 (by decide) h51) (by decide) h75) (by decide) h238), (hk_frT (hk_frT (hk_frT (hk_frT (hk_frT hk_fr0 (by decide) h31) (by decide) h52) (by decide) h76) (by decide) h239) (by decide) h262), rfl, (om467 ((g 49).toInt) ((g255 49).toInt) ((g24 49).toInt) ((g232 49).toInt) ((g45 49).toInt) ((g69 49).toInt) h34 (congrArg Int32.toInt e_g255_49) h55 h242 h79), (om468 ((g 51).toInt) ((g255 51).toInt) ((g24 51).toInt) ((g232 51).toInt) ((g45 51).toInt) ((g69 51).toInt) h35 h265 h56 h243 h80), (om414 ((g 17).toInt) ((g255 17).toInt) ((g232 17).toInt) (congrArg Int32.toInt e_g232_17) h266), (om415 ((g 17).toInt) ((g255 17).toInt) ((g255 51).toInt) ((g255 55).toInt) ((r254).toInt) (((0 : Int32)).toInt) h268 h264 (hE_eq cc274) (by decide)), (om21 ((g255 49).toInt) ((g232 49).toInt) (congrArg Int32.toInt e_g255_49) h244), (om206 ((g255 51).toInt) h269), (om409 ((g255 55).toInt) ((g 55).toInt) (congrArg Int32.toInt e_g255_55) hr0 hi_g55), (om402 ((g255 53).toInt) ((g255 17).toInt) h270), (om403 ((g255 18).toInt) ((g255 53).toInt) ((g255 17).toInt) ((g255 55).toInt) h271), (om162 ((g255 24).toInt) ((g 24).toInt) (congrArg Int32.toInt e_g255_24) hi_g24), (om162 ((g255 25).toInt) ((g 25).toInt) (congrArg Int32.toInt e_g255_25) hi_g25), (om162 ((g255 26).toInt) ((g 26).toInt) (congrArg Int32.toInt e_g255_26) hi_g26), (om162 ((g255 27).toInt) ((g 27).toInt) (congrArg Int32.toInt e_g255_27) hi_g27), (om404 ((g255 17).toInt) h272), (om333 ((g255 23).toInt) ((g 23).toInt) (congrArg Int32.toInt e_g255_23) hi_g23), h273⟩ hw dX12_choiceNow_143
            · refine lv_aload_n hx hb dX12_choiceNow_123 rfl (lv_at hl 2 rfl) ?_
              refine lv_aload_n hx hb dX12_choiceNow_124 rfl (lv_at hl 2 rfl) ?_
              have e_g255_23 : g255 23 = (g 23) := ((h260 23 rfl)).trans (((h237 23 rfl)).trans e_g69_23)
              refine hk_get (ci := 15) (C := RX12) (T := TX12) (N := 92) (v := .int (g 23)) hx hb hts (fun _ h => List.mem_cons_of_mem _ (wwMc_wsX120 _ h)) hown hw 0 rfl rfl 43 (by decide) (hq _ wM_31) (congrArg (fun z => some (Value.int z)) e_g255_23) dX12_choiceNow_125 ?_
              refine lv_bipush (v := 7) hx hb dX12_choiceNow_128 (by decide) ?_
              have B275 : ∀  (x276 : Int32) (ls : Array Slot) (H : Heap) (locs : List Loc), (9 ≤ (x276).toInt ∧ (x276).toInt ≤ 11) → hk_W D (jT cI cJ) A s H locs (mw cI cJ ad g255 l233 a257 bk) → lv_has ls 5 [] → W p l e { frames := 7, cells := 0, slots := 0, locals := 162 } s m args below meth c H locs 0 0 Q (F0 m 140 ls [.int x276, .ref (ad 0)]) := by
                intro x276 ls H locs hf_B275_0 hw hl
                refine jx_putg mw (cI := cI) (cJ := cJ) (ad := ad) (g := g255) (lg := l233) (ar := a257) (bk := bk) (x := x276) 23 (ci := 15) (C := RX12) (T := TX12) (N := 92) (ty := .int) hx hb hts (fun _ h => List.mem_cons_of_mem _ (wwMc_wsX120 _ h)) tyX12 tyX12_ok nmX12 hown hw 0 rfl rfl 43 (by decide) (hq _ wM_31) rfl (by decide +kernel) rfl rfl (Nat.le_of_ble_eq_true rfl) dX12_choiceNow_140 rfl (fun H locs g277 h_g277 hw => ?_)
                have e_g277_49 : g277 49 = (g232 49) := ((hk_upgN h_g277 49 rfl)).trans (h260 49 rfl)
                have e_g277_51 : g277 51 = (g255 51) := (hk_upgN h_g277 51 rfl)
                have e_g277_17 : g277 17 = (g255 17) := (hk_upgN h_g277 17 rfl)
                have e_g277_55 : g277 55 = (g 55) := ((hk_upgN h_g277 55 rfl)).trans e_g255_55
                have e_g277_53 : g277 53 = (g 53) := ((hk_upgN h_g277 53 rfl)).trans e_g255_53
                have e_g277_18 : g277 18 = (g255 18) := (hk_upgN h_g277 18 rfl)
                have e_g277_24 : g277 24 = (g 24) := ((hk_upgN h_g277 24 rfl)).trans (((h260 24 rfl)).trans e_g232_24)
                have e_g277_25 : g277 25 = (g 25) := ((hk_upgN h_g277 25 rfl)).trans (((h260 25 rfl)).trans e_g232_25)
                have e_g277_26 : g277 26 = (g 26) := ((hk_upgN h_g277 26 rfl)).trans (((h260 26 rfl)).trans e_g232_26)
                have e_g277_27 : g277 27 = (g 27) := ((hk_upgN h_g277 27 rfl)).trans (((h260 27 rfl)).trans e_g232_27)
                have e_g277_23 : g277 23 = x276 := (hk_upgS h_g277)
                exact kr g277 l233 a257 bk _ _ _ _ ⟨(hk_frG (hk_frT (hk_frT (hk_frT (hk_frT (hk_frT hk_fr0 (by decide) h29) (by decide) h50) (by decide) h74) (by decide) h237) (by decide) h260) (by decide) h_g277), (hk_frT (hk_frT (hk_frT h30 (by decide) h51) (by decide) h75) (by decide) h238), (hk_frT (hk_frT (hk_frT (hk_frT (hk_frT hk_fr0 (by decide) h31) (by decide) h52) (by decide) h76) (by decide) h239) (by decide) h262), rfl, (om467 ((g 49).toInt) ((g277 49).toInt) ((g24 49).toInt) ((g232 49).toInt) ((g45 49).toInt) ((g69 49).toInt) h34 (congrArg Int32.toInt e_g277_49) h55 h242 h79), (om469 ((g 51).toInt) ((g277 51).toInt) ((g24 51).toInt) ((g255 51).toInt) ((g45 51).toInt) ((g232 51).toInt) ((g69 51).toInt) h35 (congrArg Int32.toInt e_g277_51) h56 h265 h80 h243), (om420 ((g 17).toInt) ((g277 17).toInt) ((g232 17).toInt) ((g255 17).toInt) (congrArg Int32.toInt e_g232_17) (congrArg Int32.toInt e_g277_17) h266), (om470 ((g 17).toInt) ((g277 17).toInt) ((g277 51).toInt) ((g277 55).toInt) ((g232 17).toInt) ((g255 17).toInt) ((r254).toInt) (((1 : Int32)).toInt) ((z249).toInt) (((0 : Int32)).toInt) (congrArg Int32.toInt e_g232_17) (congrArg Int32.toInt e_g277_17) h267 h264 (hE_ne cc274) (by decide) (by decide)), (om21 ((g277 49).toInt) ((g232 49).toInt) (congrArg Int32.toInt e_g277_49) h244), (om422 ((g277 51).toInt) ((g255 51).toInt) (congrArg Int32.toInt e_g277_51) h269), (om409 ((g277 55).toInt) ((g 55).toInt) (congrArg Int32.toInt e_g277_55) hr0 hi_g55), (om423 ((g277 53).toInt) ((g277 17).toInt) ((g255 17).toInt) ((g 53).toInt) ((g255 53).toInt) (congrArg Int32.toInt e_g277_17) (congrArg Int32.toInt e_g277_53) h270 (congrArg Int32.toInt e_g255_53)), (om424 ((g277 18).toInt) ((g277 53).toInt) ((g277 17).toInt) ((g277 55).toInt) ((g255 17).toInt) ((g 55).toInt) ((g 53).toInt) ((g255 18).toInt) ((g255 53).toInt) ((g255 55).toInt) (congrArg Int32.toInt e_g277_17) (congrArg Int32.toInt e_g277_55) (congrArg Int32.toInt e_g277_53) (congrArg Int32.toInt e_g277_18) (congrArg Int32.toInt e_g255_53) h271 (congrArg Int32.toInt e_g255_55)), (om162 ((g277 24).toInt) ((g 24).toInt) (congrArg Int32.toInt e_g277_24) hi_g24), (om162 ((g277 25).toInt) ((g 25).toInt) (congrArg Int32.toInt e_g277_25) hi_g25), (om162 ((g277 26).toInt) ((g 26).toInt) (congrArg Int32.toInt e_g277_26) hi_g26), (om162 ((g277 27).toInt) ((g 27).toInt) (congrArg Int32.toInt e_g277_27) hi_g27), (om141 ((g277 17).toInt) ((g255 17).toInt) (congrArg Int32.toInt e_g277_17) h272), (om471 ((g277 23).toInt) ((x276).toInt) (congrArg Int32.toInt e_g277_23) hf_B275_0), h273⟩ hw dX12_choiceNow_143
              refine lv_icmp_ge (tgt := 138) hx hb dX12_choiceNow_130 (by decide) (fun cc278 => ?_) (fun cc278 => ?_)
              · refine lv_bipush (v := 11) hx hb dX12_choiceNow_138 (by decide) ?_
                exact B275 11 ls _ _ (om472 (((11 : Int32)).toInt) (by decide)) hw (lv_sub hl [] rfl)
              · refine lv_bipush (v := 9) hx hb dX12_choiceNow_133 (by decide) ?_
                refine lv_goto (tgt := 140) hx hb dX12_choiceNow_135 (by decide) ?_
                exact B275 9 ls _ _ (om473 (((9 : Int32)).toInt) (by decide)) hw (lv_sub hl [] rfl)
      · refine lv_aload_n hx hb dX12_choiceNow_64 rfl (lv_at hl 1 rfl) ?_
        refine lv_bipush (v := 7) hx hb dX12_choiceNow_65 (by decide) ?_
        refine jx_Vv (As := [.int 7]) (rest := []) ⟨hx, hb, hml, hown, hts⟩ hZ hw hA (jm_X12_fail l hlt D t3 cI cJ ad g45 l46 a47 bk _ 7 (om428 (((7 : Int32)).toInt) (by decide)) (om206 ((g45 51).toInt) h58)) (cwV 1 hts (jx_gV wwM_good wM_64 wM_65 wM_66 wM_8 wM_67) rfl rfl rfl (by decide +kernel) ⟨Nat.le_of_ble_eq_true rfl, Nat.le_of_ble_eq_true rfl⟩) 0 (ci := 15) (T := TX12) (N := 92) rfl rfl rfl hl.1 rfl (Nat.le_of_ble_eq_true rfl) dX12_choiceNow_67 ⟨Nat.le_of_ble_eq_true rfl, Nat.le_of_ble_eq_true rfl⟩ (fun _ _ _ _ _ _ _ _ hp _ _ _ _ => hp.elim) (fun g284 l285 a286 b287 H locs hp288 hw => ?_)
        obtain ⟨h289, rfl, rfl, rfl, h293, h294⟩ := hp288
        have e_g284_49 : g284 49 = (g45 49) := (h289 49 rfl)
        have e_g284_17 : g284 17 = (g 17) := ((h289 17 rfl)).trans (((h50 17 rfl)).trans (h29 17 rfl))
        have e_g284_55 : g284 55 = (g 55) := ((h289 55 rfl)).trans (((h50 55 rfl)).trans (h29 55 rfl))
        have e_g284_53 : g284 53 = (g 53) := ((h289 53 rfl)).trans (((h50 53 rfl)).trans (h29 53 rfl))
        have e_g284_18 : g284 18 = (g 18) := ((h289 18 rfl)).trans (((h50 18 rfl)).trans (h29 18 rfl))
        have e_g284_24 : g284 24 = (g 24) := ((h289 24 rfl)).trans (((h50 24 rfl)).trans (h29 24 rfl))
        have e_g284_25 : g284 25 = (g 25) := ((h289 25 rfl)).trans (((h50 25 rfl)).trans (h29 25 rfl))
        have e_g284_26 : g284 26 = (g 26) := ((h289 26 rfl)).trans (((h50 26 rfl)).trans (h29 26 rfl))
        have e_g284_27 : g284 27 = (g 27) := ((h289 27 rfl)).trans (((h50 27 rfl)).trans (h29 27 rfl))
        have e_g284_23 : g284 23 = (g 23) := ((h289 23 rfl)).trans (((h50 23 rfl)).trans e_g24_23)
        exact kr g284 l46 a47 bk _ _ _ _ ⟨(hk_frT (hk_frT (hk_frT hk_fr0 (by decide) h29) (by decide) h50) (by decide) h289), (hk_frT h30 (by decide) h51), (hk_frT (hk_frT hk_fr0 (by decide) h31) (by decide) h52), rfl, (om412 ((g 49).toInt) ((g284 49).toInt) ((g24 49).toInt) ((g45 49).toInt) h34 (congrArg Int32.toInt e_g284_49) h55), (om342 ((g 51).toInt) ((g284 51).toInt) h293), (om192 ((g 17).toInt) ((g284 17).toInt) (congrArg Int32.toInt e_g284_17)), (om429 ((g 17).toInt) ((g284 17).toInt) ((g284 51).toInt) ((g284 55).toInt) h293), (om21 ((g284 49).toInt) ((g45 49).toInt) (congrArg Int32.toInt e_g284_49) h57), (om193 ((g284 51).toInt) h293 h294), (om409 ((g284 55).toInt) ((g 55).toInt) (congrArg Int32.toInt e_g284_55) hr0 hi_g55), (om344 ((g284 53).toInt) ((g284 17).toInt) ((g 17).toInt) ((g 53).toInt) (congrArg Int32.toInt e_g284_17) (congrArg Int32.toInt e_g284_53) hi_tfull), (om345 ((g284 18).toInt) ((g284 53).toInt) ((g284 17).toInt) ((g284 55).toInt) ((g 17).toInt) ((g 55).toInt) ((g 53).toInt) ((g 18).toInt) (congrArg Int32.toInt e_g284_17) (congrArg Int32.toInt e_g284_55) (congrArg Int32.toInt e_g284_53) (congrArg Int32.toInt e_g284_18) hi_tst), (om162 ((g284 24).toInt) ((g 24).toInt) (congrArg Int32.toInt e_g284_24) hi_g24), (om162 ((g284 25).toInt) ((g 25).toInt) (congrArg Int32.toInt e_g284_25) hi_g25), (om162 ((g284 26).toInt) ((g 26).toInt) (congrArg Int32.toInt e_g284_26) hi_g26), (om162 ((g284 27).toInt) ((g 27).toInt) (congrArg Int32.toInt e_g284_27) hi_g27), (om141 ((g284 17).toInt) ((g 17).toInt) (congrArg Int32.toInt e_g284_17) hi_g17), (om333 ((g284 23).toInt) ((g 23).toInt) (congrArg Int32.toInt e_g284_23) hi_g23), hr60⟩ hw dX12_choiceNow_70
    · refine lv_aload_n hx hb dX12_choiceNow_54 rfl (lv_at hl 1 rfl) ?_
      refine lv_iload_n hx hb dX12_choiceNow_55 rfl (lv_at hl 2 rfl) ?_
      have e_g45_55 : g45 55 = (g 55) := ((h50 55 rfl)).trans (h29 55 rfl)
      have e_g45_52 : g45 52 = (g 52) := ((h50 52 rfl)).trans (h29 52 rfl)
      have e_g45_53 : g45 53 = (g 53) := ((h50 53 rfl)).trans (h29 53 rfl)
      have e_g45_17 : g45 17 = (g 17) := ((h50 17 rfl)).trans (h29 17 rfl)
      have e_g45_18 : g45 18 = (g 18) := ((h50 18 rfl)).trans (h29 18 rfl)
      have e_g45_24 : g45 24 = (g 24) := ((h50 24 rfl)).trans (h29 24 rfl)
      have e_g45_25 : g45 25 = (g 25) := ((h50 25 rfl)).trans (h29 25 rfl)
      have e_g45_26 : g45 26 = (g 26) := ((h50 26 rfl)).trans (h29 26 rfl)
      have e_g45_27 : g45 27 = (g 27) := ((h50 27 rfl)).trans (h29 27 rfl)
      have e_g45_29 : g45 29 = (g 29) := ((h50 29 rfl)).trans (h29 29 rfl)
      have e_g45_30 : g45 30 = (g 30) := ((h50 30 rfl)).trans (h29 30 rfl)
      have e_g45_31 : g45 31 = (g 31) := ((h50 31 rfl)).trans (h29 31 rfl)
      have e_g45_12 : g45 12 = (g 12) := ((h50 12 rfl)).trans e_g24_12
      have e_g45_23 : g45 23 = (g 23) := ((h50 23 rfl)).trans e_g24_23
      refine jx_Vv (As := [.int y1]) (rest := []) ⟨hx, hb, hml, hown, hts⟩ hZ hw hA (jm_X12_matchNow l hlt D t3 cI cJ ad g45 l46 a47 bk _ y1 (om474 ((g45 55).toInt) ((g 55).toInt) (congrArg Int32.toInt e_g45_55) hr0) (om202 ((g45 49).toInt) h57) (om206 ((g45 51).toInt) h58) (om141 ((g45 52).toInt) ((g 52).toInt) (congrArg Int32.toInt e_g45_52) hi_g52) (om141 ((g45 53).toInt) ((g 53).toInt) (congrArg Int32.toInt e_g45_53) hi_g53) (om409 ((g45 55).toInt) ((g 55).toInt) (congrArg Int32.toInt e_g45_55) hr0 hi_g55) (om410 ((g45 53).toInt) ((g45 17).toInt) ((g 53).toInt) ((g 17).toInt) (congrArg Int32.toInt e_g45_53) (congrArg Int32.toInt e_g45_17) hi_tfull) (om475 ((g45 18).toInt) ((g45 53).toInt) ((g45 17).toInt) ((g45 55).toInt) ((g 55).toInt) ((g 53).toInt) ((g 17).toInt) ((g 18).toInt) (congrArg Int32.toInt e_g45_55) (congrArg Int32.toInt e_g45_53) (congrArg Int32.toInt e_g45_17) (congrArg Int32.toInt e_g45_18) hi_tst) (om162 ((g45 24).toInt) ((g 24).toInt) (congrArg Int32.toInt e_g45_24) hi_g24) (om162 ((g45 25).toInt) ((g 25).toInt) (congrArg Int32.toInt e_g45_25) hi_g25) (om162 ((g45 26).toInt) ((g 26).toInt) (congrArg Int32.toInt e_g45_26) hi_g26) (om162 ((g45 27).toInt) ((g 27).toInt) (congrArg Int32.toInt e_g45_27) hi_g27) (om39 ((g45 29).toInt) ((g 29).toInt) (congrArg Int32.toInt e_g45_29) hi_g29) (om39 ((g45 30).toInt) ((g 30).toInt) (congrArg Int32.toInt e_g45_30) hi_g30) (om40 ((g45 29).toInt) ((g45 30).toInt) ((g 29).toInt) ((g 30).toInt) (congrArg Int32.toInt e_g45_29) (congrArg Int32.toInt e_g45_30) hi_tnow) (om39 ((g45 31).toInt) ((g 31).toInt) (congrArg Int32.toInt e_g45_31) hi_g31) (om21 ((g45 12).toInt) ((g 12).toInt) (congrArg Int32.toInt e_g45_12) hi_g12) hr59 (om141 ((g45 17).toInt) ((g 17).toInt) (congrArg Int32.toInt e_g45_17) hi_g17) hr60 (om333 ((g45 23).toInt) ((g 23).toInt) (congrArg Int32.toInt e_g45_23) hi_g23)) (cwV 1 hts (jx_gV wwM_good wM_147 wM_148 wM_149 wM_8 wM_150) rfl rfl rfl (by decide +kernel) ⟨Nat.le_of_ble_eq_true rfl, Nat.le_of_ble_eq_true rfl⟩) 0 (ci := 15) (T := TX12) (N := 92) rfl rfl rfl hl.1 rfl (Nat.le_of_ble_eq_true rfl) dX12_choiceNow_56 ⟨Nat.le_of_ble_eq_true rfl, Nat.le_of_ble_eq_true rfl⟩ (fun _ _ _ _ _ _ _ _ hp _ _ _ _ => hp.elim) (fun g300 l301 a302 b303 H locs hp304 hw => ?_)
      obtain ⟨h305, h306, h307, rfl, h309, h310, h311, h312, h313, h314, h315, h316, h317, h318, h319, h320, h321, h322, h323, h324⟩ := hp304
      have e_g45_17 : g45 17 = (g 17) := ((h50 17 rfl)).trans (h29 17 rfl)
      have e_g300_53 : g300 53 = (g 53) := ((h305 53 rfl)).trans e_g45_53
      exact kr g300 l301 a302 bk _ _ _ _ ⟨(hk_frT (hk_frT (hk_frT hk_fr0 (by decide) h29) (by decide) h50) (by decide) h305), (hk_frT (hk_frT h30 (by decide) h51) (by decide) h306), (hk_frT (hk_frT (hk_frT hk_fr0 (by decide) h31) (by decide) h52) (by decide) h307), rfl, (om267 ((g 49).toInt) ((g300 49).toInt) ((g24 49).toInt) ((g45 49).toInt) h34 h309 h55), (om268 ((g 51).toInt) ((g300 51).toInt) ((g24 51).toInt) ((g45 51).toInt) h35 h310 h56), (om414 ((g 17).toInt) ((g300 17).toInt) ((g45 17).toInt) (congrArg Int32.toInt e_g45_17) h311), (om476 ((g 17).toInt) ((g300 17).toInt) ((g300 51).toInt) ((g300 55).toInt) ((g45 17).toInt) (congrArg Int32.toInt e_g45_17) h312 h315), (om202 ((g300 49).toInt) h313), (om206 ((g300 51).toInt) h314), (om223 ((g300 55).toInt) h315), (om402 ((g300 53).toInt) ((g300 17).toInt) h316), (om403 ((g300 18).toInt) ((g300 53).toInt) ((g300 17).toInt) ((g300 55).toInt) h317), (om163 ((g300 24).toInt) h318), (om163 ((g300 25).toInt) h319), (om163 ((g300 26).toInt) h320), (om163 ((g300 27).toInt) h321), (om404 ((g300 17).toInt) h322), (om477 ((g300 23).toInt) h324), h323⟩ hw dX12_choiceNow_59
  · refine lv_iload_n hx hb dX12_choiceNow_23 rfl (lv_at hl 2 rfl) ?_
    refine lv_if_eq (tgt := 34) hx hb dX12_choiceNow_24 (by decide) (fun cc325 => ?_) (fun cc325 => ?_)
    · refine lv_aload_n hx hb dX12_choiceNow_34 rfl (lv_at hl 1 rfl) ?_
      have e_g24_55 : g24 55 = (g 55) := (h29 55 rfl)
      have e_g24_52 : g24 52 = (g 52) := (h29 52 rfl)
      have e_g24_53 : g24 53 = (g 53) := (h29 53 rfl)
      have e_g24_17 : g24 17 = (g 17) := (h29 17 rfl)
      have e_g24_18 : g24 18 = (g 18) := (h29 18 rfl)
      have e_g24_24 : g24 24 = (g 24) := (h29 24 rfl)
      have e_g24_25 : g24 25 = (g 25) := (h29 25 rfl)
      have e_g24_26 : g24 26 = (g 26) := (h29 26 rfl)
      have e_g24_27 : g24 27 = (g 27) := (h29 27 rfl)
      have e_g24_29 : g24 29 = (g 29) := (h29 29 rfl)
      have e_g24_30 : g24 30 = (g 30) := (h29 30 rfl)
      have e_g24_31 : g24 31 = (g 31) := (h29 31 rfl)
      have e_g24_12 : g24 12 = (g 12) := (h29 12 rfl)
      have e_g24_23 : g24 23 = (g 23) := (h29 23 rfl)
      refine jx_Vv (As := []) (rest := []) ⟨hx, hb, hml, hown, hts⟩ hZ hw hA (jm_X12_literal l hlt D t3 cI cJ ad g24 l25 a26 bk _ (om474 ((g24 55).toInt) ((g 55).toInt) (congrArg Int32.toInt e_g24_55) hr0) (om202 ((g24 49).toInt) h36) (om206 ((g24 51).toInt) h37) (om141 ((g24 52).toInt) ((g 52).toInt) (congrArg Int32.toInt e_g24_52) hi_g52) (om141 ((g24 53).toInt) ((g 53).toInt) (congrArg Int32.toInt e_g24_53) hi_g53) (om409 ((g24 55).toInt) ((g 55).toInt) (congrArg Int32.toInt e_g24_55) hr0 hi_g55) (om410 ((g24 53).toInt) ((g24 17).toInt) ((g 53).toInt) ((g 17).toInt) (congrArg Int32.toInt e_g24_53) (congrArg Int32.toInt e_g24_17) hi_tfull) (om475 ((g24 18).toInt) ((g24 53).toInt) ((g24 17).toInt) ((g24 55).toInt) ((g 55).toInt) ((g 53).toInt) ((g 17).toInt) ((g 18).toInt) (congrArg Int32.toInt e_g24_55) (congrArg Int32.toInt e_g24_53) (congrArg Int32.toInt e_g24_17) (congrArg Int32.toInt e_g24_18) hi_tst) (om162 ((g24 24).toInt) ((g 24).toInt) (congrArg Int32.toInt e_g24_24) hi_g24) (om162 ((g24 25).toInt) ((g 25).toInt) (congrArg Int32.toInt e_g24_25) hi_g25) (om162 ((g24 26).toInt) ((g 26).toInt) (congrArg Int32.toInt e_g24_26) hi_g26) (om162 ((g24 27).toInt) ((g 27).toInt) (congrArg Int32.toInt e_g24_27) hi_g27) (om39 ((g24 29).toInt) ((g 29).toInt) (congrArg Int32.toInt e_g24_29) hi_g29) (om39 ((g24 30).toInt) ((g 30).toInt) (congrArg Int32.toInt e_g24_30) hi_g30) (om40 ((g24 29).toInt) ((g24 30).toInt) ((g 29).toInt) ((g 30).toInt) (congrArg Int32.toInt e_g24_29) (congrArg Int32.toInt e_g24_30) hi_tnow) (om39 ((g24 31).toInt) ((g 31).toInt) (congrArg Int32.toInt e_g24_31) hi_g31) (om21 ((g24 12).toInt) ((g 12).toInt) (congrArg Int32.toInt e_g24_12) hi_g12) (hk_pE (P := hk_rg 0 255) hi_a0rg (h31 0 rfl)) (om141 ((g24 17).toInt) ((g 17).toInt) (congrArg Int32.toInt e_g24_17) hi_g17) (om333 ((g24 23).toInt) ((g 23).toInt) (congrArg Int32.toInt e_g24_23) hi_g23) (hk_pE (P := hk_rg 0 255) hi_a6rg (h31 6 rfl))) (cwV 0 hts (jx_gV wwM_good wM_143 wM_144 wM_145 wM_8 wM_146) rfl rfl rfl (by decide +kernel) ⟨Nat.le_of_ble_eq_true rfl, Nat.le_of_ble_eq_true rfl⟩) 0 (ci := 15) (T := TX12) (N := 92) rfl rfl rfl hl.1 rfl (Nat.le_of_ble_eq_true rfl) dX12_choiceNow_35 ⟨Nat.le_of_ble_eq_true rfl, Nat.le_of_ble_eq_true rfl⟩ (fun _ _ _ _ _ _ _ _ hp _ _ _ _ => hp.elim) (fun g331 l332 a333 b334 H locs hp335 hw => ?_)
      obtain ⟨h336, h337, h338, rfl, h340, h341, h342, h343, h344, h345, h346, h347, h348, h349, h350, h351⟩ := hp335
      have e_g24_17 : g24 17 = (g 17) := (h29 17 rfl)
      have e_g331_53 : g331 53 = (g 53) := ((h336 53 rfl)).trans e_g24_53
      have e_g331_55 : g331 55 = (g 55) := ((h336 55 rfl)).trans e_g24_55
      have hr352 : hk_rg 0 255 (a333 0) := (hk_pE (P := hk_rg 0 255) (hk_pE (P := hk_rg 0 255) hi_a0rg (h31 0 rfl)) (h338 0 rfl))
      have e_g331_24 : g331 24 = (g 24) := ((h336 24 rfl)).trans e_g24_24
      have e_g331_25 : g331 25 = (g 25) := ((h336 25 rfl)).trans e_g24_25
      have e_g331_26 : g331 26 = (g 26) := ((h336 26 rfl)).trans e_g24_26
      have e_g331_27 : g331 27 = (g 27) := ((h336 27 rfl)).trans e_g24_27
      exact kr g331 l332 a333 bk _ _ _ _ ⟨(hk_frT (hk_frT hk_fr0 (by decide) h29) (by decide) h336), (hk_frT h30 (by decide) h337), (hk_frT (hk_frT hk_fr0 (by decide) h31) (by decide) h338), rfl, (om209 ((g 49).toInt) ((g331 49).toInt) ((g24 49).toInt) h34 h340), (om282 ((g 51).toInt) ((g331 51).toInt) ((g24 51).toInt) h35 h341), (om414 ((g 17).toInt) ((g331 17).toInt) ((g24 17).toInt) (congrArg Int32.toInt e_g24_17) h342), (om478 ((g 17).toInt) ((g331 17).toInt) ((g331 51).toInt) ((g331 55).toInt) ((g24 17).toInt) (congrArg Int32.toInt e_g24_17) h343), (om202 ((g331 49).toInt) h345), (om206 ((g331 51).toInt) h346), (om226 ((g331 55).toInt) h344), (om402 ((g331 53).toInt) ((g331 17).toInt) h347), (om403 ((g331 18).toInt) ((g331 53).toInt) ((g331 17).toInt) ((g331 55).toInt) h348), (om162 ((g331 24).toInt) ((g 24).toInt) (congrArg Int32.toInt e_g331_24) hi_g24), (om162 ((g331 25).toInt) ((g 25).toInt) (congrArg Int32.toInt e_g331_25) hi_g25), (om162 ((g331 26).toInt) ((g 26).toInt) (congrArg Int32.toInt e_g331_26) hi_g26), (om162 ((g331 27).toInt) ((g 27).toInt) (congrArg Int32.toInt e_g331_27) hi_g27), (om404 ((g331 17).toInt) h349), (om477 ((g331 23).toInt) h350), h351⟩ hw dX12_choiceNow_38
    · refine lv_aload_n hx hb dX12_choiceNow_27 rfl (lv_at hl 1 rfl) ?_
      refine lv_bipush (v := 7) hx hb dX12_choiceNow_28 (by decide) ?_
      refine jx_Vv (As := [.int 7]) (rest := []) ⟨hx, hb, hml, hown, hts⟩ hZ hw hA (jm_X12_fail l hlt D t3 cI cJ ad g24 l25 a26 bk _ 7 (om428 (((7 : Int32)).toInt) (by decide)) (om206 ((g24 51).toInt) h37)) (cwV 1 hts (jx_gV wwM_good wM_64 wM_65 wM_66 wM_8 wM_67) rfl rfl rfl (by decide +kernel) ⟨Nat.le_of_ble_eq_true rfl, Nat.le_of_ble_eq_true rfl⟩) 0 (ci := 15) (T := TX12) (N := 92) rfl rfl rfl hl.1 rfl (Nat.le_of_ble_eq_true rfl) dX12_choiceNow_30 ⟨Nat.le_of_ble_eq_true rfl, Nat.le_of_ble_eq_true rfl⟩ (fun _ _ _ _ _ _ _ _ hp _ _ _ _ => hp.elim) (fun g358 l359 a360 b361 H locs hp362 hw => ?_)
      obtain ⟨h363, rfl, rfl, rfl, h367, h368⟩ := hp362
      have e_g358_49 : g358 49 = (g24 49) := (h363 49 rfl)
      have e_g358_17 : g358 17 = (g 17) := ((h363 17 rfl)).trans (h29 17 rfl)
      have e_g358_55 : g358 55 = (g 55) := ((h363 55 rfl)).trans (h29 55 rfl)
      have e_g358_53 : g358 53 = (g 53) := ((h363 53 rfl)).trans (h29 53 rfl)
      have e_g358_18 : g358 18 = (g 18) := ((h363 18 rfl)).trans (h29 18 rfl)
      have e_g358_24 : g358 24 = (g 24) := ((h363 24 rfl)).trans (h29 24 rfl)
      have e_g358_25 : g358 25 = (g 25) := ((h363 25 rfl)).trans (h29 25 rfl)
      have e_g358_26 : g358 26 = (g 26) := ((h363 26 rfl)).trans (h29 26 rfl)
      have e_g358_27 : g358 27 = (g 27) := ((h363 27 rfl)).trans (h29 27 rfl)
      have e_g358_23 : g358 23 = (g 23) := ((h363 23 rfl)).trans (h29 23 rfl)
      exact kr g358 l25 a26 bk _ _ _ _ ⟨(hk_frT (hk_frT hk_fr0 (by decide) h29) (by decide) h363), h30, (hk_frT hk_fr0 (by decide) h31), rfl, (om212 ((g 49).toInt) ((g358 49).toInt) ((g24 49).toInt) h34 (congrArg Int32.toInt e_g358_49)), (om342 ((g 51).toInt) ((g358 51).toInt) h367), (om192 ((g 17).toInt) ((g358 17).toInt) (congrArg Int32.toInt e_g358_17)), (om429 ((g 17).toInt) ((g358 17).toInt) ((g358 51).toInt) ((g358 55).toInt) h367), (om21 ((g358 49).toInt) ((g24 49).toInt) (congrArg Int32.toInt e_g358_49) h36), (om193 ((g358 51).toInt) h367 h368), (om409 ((g358 55).toInt) ((g 55).toInt) (congrArg Int32.toInt e_g358_55) hr0 hi_g55), (om344 ((g358 53).toInt) ((g358 17).toInt) ((g 17).toInt) ((g 53).toInt) (congrArg Int32.toInt e_g358_17) (congrArg Int32.toInt e_g358_53) hi_tfull), (om345 ((g358 18).toInt) ((g358 53).toInt) ((g358 17).toInt) ((g358 55).toInt) ((g 17).toInt) ((g 55).toInt) ((g 53).toInt) ((g 18).toInt) (congrArg Int32.toInt e_g358_17) (congrArg Int32.toInt e_g358_55) (congrArg Int32.toInt e_g358_53) (congrArg Int32.toInt e_g358_18) hi_tst), (om162 ((g358 24).toInt) ((g 24).toInt) (congrArg Int32.toInt e_g358_24) hi_g24), (om162 ((g358 25).toInt) ((g 25).toInt) (congrArg Int32.toInt e_g358_25) hi_g25), (om162 ((g358 26).toInt) ((g 26).toInt) (congrArg Int32.toInt e_g358_26) hi_g26), (om162 ((g358 27).toInt) ((g 27).toInt) (congrArg Int32.toInt e_g358_27) hi_g27), (om141 ((g358 17).toInt) ((g 17).toInt) (congrArg Int32.toInt e_g358_17) hi_g17), (om333 ((g358 23).toInt) ((g 23).toInt) (congrArg Int32.toInt e_g358_23) hi_g23), (hk_pE (P := hk_rg 0 255) hi_a6rg (h31 6 rfl))⟩ hw dX12_choiceNow_33

set_option maxHeartbeats 4000000 in
set_option maxRecDepth 100000 in
/-- X12_readProperty on (0,) -/
theorem jm_X12_readProperty (l : Launch) (hlt : l.stackTraces = false) (D : va_G) (t3 : Nat × Nat × Nat) (cI cJ : ClassId) (ad : Nat → Nat) (g : Nat → Int32) (lg : Nat → Int64) (ar : Nat → Nat → Int32) (bk : Nat → Int64) (sz : Nat) (hi_g49 : 0 ≤ (g 49).toInt ∧ (g 49).toInt ≤ 1500) (hi_g51 : 0 ≤ (g 51).toInt ∧ (g 51).toInt ≤ 15) (hi_g12 : 0 ≤ (g 12).toInt ∧ (g 12).toInt ≤ 1500) (hi_a0rg : hk_rg 0 255 (ar 0)) : JMi l yX12_readProperty (Cond.code yX12_readProperty cX12_readProperty 2 (some .boolean) :: wwM) { frames := 2, cells := 0, slots := 0, locals := 41 } t3 D mw cI cJ ad [.ref (ad 0)] (mw cI cJ ad g lg ar bk) sz 0 0 (fun (r : Int32) g' lg' ar' bk' => hk_fr [29, 30, 31, 49, 51] g g' ∧ lg = lg' ∧ ar = ar' ∧ bk = bk' ∧ (0 ≤ (r).toInt ∧ (r).toInt ≤ 1) ∧ ((r).toInt = 1 → (0 ≤ (g' 29).toInt ∧ (g' 29).toInt ≤ 4 ∧ 0 ≤ (g' 30).toInt ∧ (g' 30).toInt ≤ 4 ∧ (g' 29).toInt + (g' 30).toInt ≤ 4 ∧ 0 ≤ (g' 31).toInt ∧ (g' 31).toInt ≤ 4)) ∧ ((r).toInt = 0 → 1 ≤ (g' 51).toInt) ∧ ((g 49).toInt ≤ (g' 49).toInt) ∧ ((1 ≤ (g 51).toInt → 1 ≤ (g' 51).toInt)) ∧ (0 ≤ (g' 49).toInt ∧ (g' 49).toInt ≤ 1500) ∧ (0 ≤ (g' 51).toInt ∧ (g' 51).toInt ≤ 15)) (fun g' lg' ar' bk' => False) := by
  refine jx_metz (cc := cX12_readProperty) (maxL := 2) (ret := (some .boolean)) rfl (by decide) rfl (Nat.le_of_ble_eq_true rfl) ?_
  intro p e s m args below meth c ls Q A hx hb hml hown hts hA hZ hw hl hQ kr kt
  have hq : ∀ w ∈ wwM, w.before args s = true := fun w h => hts w (List.mem_cons_of_mem _ h)
  have hl : lv_has ls 2 [(0, .ref (ad 0))] := hl
  refine lv_aload_n hx hb dX12_readProperty_0 rfl (lv_at hl 0 rfl) ?_
  refine jx_Vi (As := []) (rest := []) ⟨hx, hb, hml, hown, hts⟩ hZ hw hA (jm_X12_next l hlt D t3 cI cJ ad g lg ar bk _ (om202 ((g 49).toInt) hi_g49) (om206 ((g 51).toInt) hi_g51) (om202 ((g 12).toInt) hi_g12) hi_a0rg) (cwV 0 hts (jx_gV wwM_good wM_59 wM_60 wM_61 wM_8 wM_62) rfl rfl rfl (by decide +kernel) ⟨Nat.le_of_ble_eq_true rfl, Nat.le_of_ble_eq_true rfl⟩) 0 (ci := 15) (T := TX12) (N := 92) rfl rfl rfl hl.1 rfl (Nat.le_of_ble_eq_true rfl) dX12_readProperty_1 ⟨Nat.le_of_ble_eq_true rfl, Nat.le_of_ble_eq_true rfl⟩ (fun _ _ _ _ _ _ _ _ hp _ _ _ _ => hp.elim) (fun r5 g6 l7 a8 b9 H locs hp10 hw => ?_)
  obtain ⟨h11, rfl, rfl, rfl, h15, h16, h17, h18, h19⟩ := hp10
  refine lv_istore_n (lv' := [(1, .int r5), (0, .ref (ad 0))]) hx hb dX12_readProperty_4 rfl hl (by decide) rfl (fun ls hl => ?_)
  refine lv_aload_n hx hb dX12_readProperty_5 rfl (lv_at hl 1 rfl) ?_
  refine hk_get (ci := 15) (C := RX12) (T := TX12) (N := 92) (v := .int (g6 51)) hx hb hts (fun _ h => List.mem_cons_of_mem _ (wwMc_wsX120 _ h)) hown hw 0 rfl rfl 78 (by decide) (hq _ wM_63) rfl dX12_readProperty_6 ?_
  refine lv_if_le (tgt := 14) hx hb dX12_readProperty_9 (by decide) (fun cc20 => ?_) (fun cc20 => ?_)
  · refine lv_aload_n hx hb dX12_readProperty_14 rfl (lv_at hl 1 rfl) ?_
    refine lv_iload_n hx hb dX12_readProperty_15 rfl (lv_at hl 0 rfl) ?_
    refine lv_bipush (v := 9) hx hb dX12_readProperty_16 (by decide) ?_
    refine lv_irem hx hb dX12_readProperty_18 (by decide) (jx_nm fun z21 hz21 => ?_)
    refine jx_putg mw (cI := cI) (cJ := cJ) (ad := ad) (g := g6) (lg := lg) (ar := ar) (bk := bk) (x := z21) 29 (ci := 15) (C := RX12) (T := TX12) (N := 92) (ty := .int) hx hb hts (fun _ h => List.mem_cons_of_mem _ (wwMc_wsX120 _ h)) tyX12 tyX12_ok nmX12 hown hw 0 rfl rfl 49 (by decide) (hq _ wM_240) rfl (by decide +kernel) rfl rfl (Nat.le_of_ble_eq_true rfl) dX12_readProperty_19 rfl (fun H locs g22 h_g22 hw => ?_)
    refine lv_aload_n hx hb dX12_readProperty_22 rfl (lv_at hl 1 rfl) ?_
    refine lv_iload_n hx hb dX12_readProperty_23 rfl (lv_at hl 0 rfl) ?_
    refine lv_bipush (v := 9) hx hb dX12_readProperty_24 (by decide) ?_
    refine lv_idiv hx hb dX12_readProperty_26 (by decide) (jx_nm fun z23 hz23 => ?_)
    refine lv_iconst (v := 5) hx hb dX12_readProperty_27 (by decide) ?_
    refine lv_irem hx hb dX12_readProperty_28 (by decide) (jx_nm fun z24 hz24 => ?_)
    refine jx_putg mw (cI := cI) (cJ := cJ) (ad := ad) (g := g22) (lg := lg) (ar := ar) (bk := bk) (x := z24) 30 (ci := 15) (C := RX12) (T := TX12) (N := 92) (ty := .int) hx hb hts (fun _ h => List.mem_cons_of_mem _ (wwMc_wsX120 _ h)) tyX12 tyX12_ok nmX12 hown hw 0 rfl rfl 50 (by decide) (hq _ wM_239) rfl (by decide +kernel) rfl rfl (Nat.le_of_ble_eq_true rfl) dX12_readProperty_29 rfl (fun H locs g25 h_g25 hw => ?_)
    refine lv_aload_n hx hb dX12_readProperty_32 rfl (lv_at hl 1 rfl) ?_
    refine lv_iload_n hx hb dX12_readProperty_33 rfl (lv_at hl 0 rfl) ?_
    refine lv_bipush (v := 45) hx hb dX12_readProperty_34 (by decide) ?_
    refine lv_idiv hx hb dX12_readProperty_36 (by decide) (jx_nm fun z26 hz26 => ?_)
    refine jx_putg mw (cI := cI) (cJ := cJ) (ad := ad) (g := g25) (lg := lg) (ar := ar) (bk := bk) (x := z26) 31 (ci := 15) (C := RX12) (T := TX12) (N := 92) (ty := .int) hx hb hts (fun _ h => List.mem_cons_of_mem _ (wwMc_wsX120 _ h)) tyX12 tyX12_ok nmX12 hown hw 0 rfl rfl 51 (by decide) (hq _ wM_422) rfl (by decide +kernel) rfl rfl (Nat.le_of_ble_eq_true rfl) dX12_readProperty_37 rfl (fun H locs g27 h_g27 hw => ?_)
    refine lv_iload_n hx hb dX12_readProperty_40 rfl (lv_at hl 0 rfl) ?_
    refine lv_sipush (v := 225) hx hb dX12_readProperty_41 (by decide) ?_
    have B28 : ∀  (ls : Array Slot) (H : Heap) (locs : List Loc), hk_W D (jT cI cJ) A s H locs (mw cI cJ ad g27 lg ar bk) → lv_has ls 2 [(0, .ref (ad 0))] → W p l e { frames := 2, cells := 0, slots := 0, locals := 41 } s m args below meth c H locs 0 0 Q (F0 m 60 ls []) := by
      intro ls H locs hw hl
      refine lv_aload_n hx hb dX12_readProperty_60 rfl (lv_at hl 0 rfl) ?_
      refine lv_iconst (v := 3) hx hb dX12_readProperty_61 (by decide) ?_
      have e_g27_51 : g27 51 = (g6 51) := ((hk_upgN h_g27 51 rfl)).trans (((hk_upgN h_g25 51 rfl)).trans (hk_upgN h_g22 51 rfl))
      refine jx_Vv (As := [.int 3]) (rest := []) ⟨hx, hb, hml, hown, hts⟩ hZ hw hA (jm_X12_fail l hlt D t3 cI cJ ad g27 lg ar bk _ 3 (om481 (((3 : Int32)).toInt) (by decide)) (om200 ((g27 51).toInt) ((g6 51).toInt) (((0 : Int32)).toInt) (congrArg Int32.toInt e_g27_51) h19 (hE_le cc20) (by decide))) (cwV 1 hts (jx_gV wwM_good wM_64 wM_65 wM_66 wM_8 wM_67) rfl rfl rfl (by decide +kernel) ⟨Nat.le_of_ble_eq_true rfl, Nat.le_of_ble_eq_true rfl⟩) 0 (ci := 15) (T := TX12) (N := 92) rfl rfl rfl hl.1 rfl (Nat.le_of_ble_eq_true rfl) dX12_readProperty_62 ⟨Nat.le_of_ble_eq_true rfl, Nat.le_of_ble_eq_true rfl⟩ (fun _ _ _ _ _ _ _ _ hp _ _ _ _ => hp.elim) (fun g34 l35 a36 b37 H locs hp38 hw => ?_)
      obtain ⟨h39, rfl, rfl, rfl, h43, h44⟩ := hp38
      refine lv_iconst (v := 0) hx hb dX12_readProperty_65 (by decide) ?_
      have e_g34_29 : g34 29 = z21 := ((h39 29 rfl)).trans (((hk_upgN h_g27 29 rfl)).trans (((hk_upgN h_g25 29 rfl)).trans (hk_upgS h_g22)))
      have e_g34_30 : g34 30 = z24 := ((h39 30 rfl)).trans (((hk_upgN h_g27 30 rfl)).trans (hk_upgS h_g25))
      have e_g34_31 : g34 31 = z26 := ((h39 31 rfl)).trans (hk_upgS h_g27)
      have e_g34_49 : g34 49 = (g6 49) := ((h39 49 rfl)).trans (((hk_upgN h_g27 49 rfl)).trans (((hk_upgN h_g25 49 rfl)).trans (hk_upgN h_g22 49 rfl)))
      exact kr 0 g34 lg ar bk _ _ _ _ rfl ⟨(hk_frT (hk_frG (hk_frG (hk_frG (hk_frT hk_fr0 (by decide) h11) (by decide) h_g22) (by decide) h_g25) (by decide) h_g27) (by decide) h39), rfl, rfl, rfl, (om226 (((0 : Int32)).toInt) (by decide)), (om482 (((0 : Int32)).toInt) ((g34 29).toInt) ((g34 30).toInt) ((g34 31).toInt) (by decide)), (om373 (((0 : Int32)).toInt) ((g34 51).toInt) h43), (om212 ((g 49).toInt) ((g34 49).toInt) ((g6 49).toInt) h17 (congrArg Int32.toInt e_g34_49)), (om342 ((g 51).toInt) ((g34 51).toInt) h43), (om483 ((g34 49).toInt) ((g6 49).toInt) ((g 49).toInt) ((g6 51).toInt) ((g 51).toInt) (((0 : Int32)).toInt) (congrArg Int32.toInt e_g34_49) h16 h18 hi_g49 (hE_le cc20) (by decide)), (om193 ((g34 51).toInt) h43 h44)⟩ hw dX12_readProperty_66
    refine lv_icmp_ge (tgt := 60) hx hb dX12_readProperty_44 (by decide) (fun cc45 => ?_) (fun cc45 => ?_)
    · exact B28 ls _ _ hw (lv_sub hl [1] rfl)
    · refine lv_aload_n hx hb dX12_readProperty_47 rfl (lv_at hl 1 rfl) ?_
      have e_g27_29 : g27 29 = z21 := ((hk_upgN h_g27 29 rfl)).trans (((hk_upgN h_g25 29 rfl)).trans (hk_upgS h_g22))
      refine hk_get (ci := 15) (C := RX12) (T := TX12) (N := 92) (v := .int z21) hx hb hts (fun _ h => List.mem_cons_of_mem _ (wwMc_wsX120 _ h)) hown hw 0 rfl rfl 49 (by decide) (hq _ wM_240) (congrArg (fun z => some (Value.int z)) e_g27_29) dX12_readProperty_48 ?_
      refine lv_aload_n hx hb dX12_readProperty_51 rfl (lv_at hl 1 rfl) ?_
      have e_g27_30 : g27 30 = z24 := ((hk_upgN h_g27 30 rfl)).trans (hk_upgS h_g25)
      refine hk_get (ci := 15) (C := RX12) (T := TX12) (N := 92) (v := .int z24) hx hb hts (fun _ h => List.mem_cons_of_mem _ (wwMc_wsX120 _ h)) hown hw 0 rfl rfl 50 (by decide) (hq _ wM_239) (congrArg (fun z => some (Value.int z)) e_g27_30) dX12_readProperty_52 ?_
      refine lv_iadd hx hb dX12_readProperty_55 (jx_nm fun z46 hz46 => ?_)
      have xz46 : (z46).toInt = (z21).toInt + (z24).toInt := (hE_imp (hE_add hz46) (om484 ((z21).toInt) ((z24).toInt) ((r5).toInt) ((z23).toInt) ((hE_rem 9 hz21 (by decide) (by decide)).1 (om479 ((r5).toInt) h15)) ((hE_rem 5 hz24 (by decide) (by decide)).1 (om480 ((z23).toInt) ((r5).toInt) ((hE_div 9 hz23 (by decide) (by decide)).1 (om479 ((r5).toInt) h15)) h15))))
      refine lv_iconst (v := 4) hx hb dX12_readProperty_56 (by decide) ?_
      refine lv_icmp_le (tgt := 67) hx hb dX12_readProperty_57 (by decide) (fun cc47 => ?_) (fun cc47 => ?_)
      · refine lv_iconst (v := 1) hx hb dX12_readProperty_67 (by decide) ?_
        have e_g27_31 : g27 31 = z26 := (hk_upgS h_g27)
        have e_g27_51 : g27 51 = (g6 51) := ((hk_upgN h_g27 51 rfl)).trans (((hk_upgN h_g25 51 rfl)).trans (hk_upgN h_g22 51 rfl))
        have e_g27_49 : g27 49 = (g6 49) := ((hk_upgN h_g27 49 rfl)).trans (((hk_upgN h_g25 49 rfl)).trans (hk_upgN h_g22 49 rfl))
        exact kr 1 g27 lg ar bk _ _ _ _ rfl ⟨(hk_frG (hk_frG (hk_frG (hk_frT hk_fr0 (by decide) h11) (by decide) h_g22) (by decide) h_g25) (by decide) h_g27), rfl, rfl, rfl, (om225 (((1 : Int32)).toInt) (by decide)), (om485 (((1 : Int32)).toInt) ((g27 29).toInt) ((g27 30).toInt) ((g27 31).toInt) ((z21).toInt) ((z24).toInt) ((z26).toInt) ((r5).toInt) ((z23).toInt) ((z46).toInt) (((225 : Int32)).toInt) (((4 : Int32)).toInt) (congrArg Int32.toInt e_g27_29) (congrArg Int32.toInt e_g27_30) (congrArg Int32.toInt e_g27_31) ((hE_rem 9 hz21 (by decide) (by decide)).1 (om479 ((r5).toInt) h15)) ((hE_rem 5 hz24 (by decide) (by decide)).1 (om480 ((z23).toInt) ((r5).toInt) ((hE_div 9 hz23 (by decide) (by decide)).1 (om479 ((r5).toInt) h15)) h15)) ((hE_div 45 hz26 (by decide) (by decide)).1 (om479 ((r5).toInt) h15)) xz46 h15 (hE_nle cc45) (hE_le cc47) (by decide) (by decide)), (om385 (((1 : Int32)).toInt) ((g27 51).toInt) (by decide)), (om212 ((g 49).toInt) ((g27 49).toInt) ((g6 49).toInt) h17 (congrArg Int32.toInt e_g27_49)), (om486 ((g 51).toInt) ((g27 51).toInt) ((g6 49).toInt) ((g 49).toInt) ((g6 51).toInt) (((0 : Int32)).toInt) h16 (hE_le cc20) (by decide)), (om483 ((g27 49).toInt) ((g6 49).toInt) ((g 49).toInt) ((g6 51).toInt) ((g 51).toInt) (((0 : Int32)).toInt) (congrArg Int32.toInt e_g27_49) h16 h18 hi_g49 (hE_le cc20) (by decide)), (om200 ((g27 51).toInt) ((g6 51).toInt) (((0 : Int32)).toInt) (congrArg Int32.toInt e_g27_51) h19 (hE_le cc20) (by decide))⟩ hw dX12_readProperty_68
      · exact B28 ls _ _ hw (lv_sub hl [1] rfl)
  · refine lv_iconst (v := 0) hx hb dX12_readProperty_12 (by decide) ?_
    have e_g6_29 : g6 29 = (g 29) := (h11 29 rfl)
    have e_g6_30 : g6 30 = (g 30) := (h11 30 rfl)
    have e_g6_31 : g6 31 = (g 31) := (h11 31 rfl)
    exact kr 0 g6 lg ar bk _ _ _ _ rfl ⟨(hk_frT hk_fr0 (by decide) h11), rfl, rfl, rfl, (om226 (((0 : Int32)).toInt) (by decide)), (om482 (((0 : Int32)).toInt) ((g6 29).toInt) ((g6 30).toInt) ((g6 31).toInt) (by decide)), (om487 (((0 : Int32)).toInt) ((g6 51).toInt) (hE_nle cc20)), (om204 ((g 49).toInt) ((g6 49).toInt) h17), (om346 ((g 51).toInt) ((g6 51).toInt) (((0 : Int32)).toInt) (hE_nle cc20) (by decide)), (om202 ((g6 49).toInt) h18), (om203 ((g6 51).toInt) (((0 : Int32)).toInt) h19 (hE_nle cc20) (by decide))⟩ hw dX12_readProperty_13
