/-! 80.mface -/
theorem om1 (v0 : Int) (v1 : Int) (h0 : 0 ≤ v0 ∧ v0 ≤ 1500) (h1 : v1 = 20) : -2147483648 ≤ v0 + v1 ∧ v0 + v1 ≤ 2147483647 := by omega
theorem om2 (v0 : Int) (h0 : v0 ≤ 20) (h1 : 2147483648 - v0 ≤ 0) : (0 * v0) ≤ -1 := by omega
theorem om3 (v0 : Int) (v1 : Int) (v2 : Int) (v3 : Int) (h0 : v0 = v1 + v2) (h1 : 0 ≤ v0 ∧ v0 ≤ 1500) (h2 : 0 ≤ v1 ∧ v1 ≤ 1500) (h3 : v3 ≤ v2) (h4 : v3 = 20) : 0 ≤ v0 ∧ v0 ≤ 1500 := by omega
theorem om4 (v0 : Int) (h0 : 0 ≤ v0) : 0 ≤ v0 := by omega
theorem om5 (v0 : Int) (v1 : Int) (h0 : v0 = v1 % 4) : -2147483648 ≤ v0 * 8 ∧ v0 * 8 ≤ 2147483647 := by omega
theorem om6 (v0 : Int) (v1 : Int) (v2 : Int) (v3 : Int) (h0 : v1 = v2 * 8) (h1 : v2 = v3 % 4) (h2 : v0 = 24) (h3 : -2147483648 ≤ v1 ∧ v1 ≤ 2147483647) : -2147483648 ≤ v0 - v1 ∧ v0 - v1 ≤ 2147483647 := by omega
theorem om7 (v0 : Int) (v1 : Int) (v2 : Int) (v3 : Int) (v4 : Int) (v5 : Int) (v6 : Int) (v7 : Int) (h0 : v0 = v1 + v2) (h1 : 0 ≤ v0 ∧ v0 ≤ 1500) (h2 : v3 = v1 + v4) (h3 : v2 ≤ 20) (h4 : 0 ≤ v2) (h5 : 2147483648 - v2 ≤ v5 + 1) (h6 : v2 < v4) (h7 : v6 = v2 % 4) (h8 : v3 ≤ v7) (h9 : -2147483648 ≤ v2 ∧ v2 ≤ 2147483647) (h10 : v4 = 20) (h11 : v7 = 1500) : 0 ≤ v0 ∧ v0 < (1500 : Nat) := by omega
theorem om8 (v0 : Int) (v1 : Int) (h0 : v0 = v1 % 256) : 0 ≤ v0 ∧ v0 ≤ 255 := by omega
theorem om9 (v0 : Int) (v1 : Int) (v2 : Int) (v3 : Int) (v4 : Int) (v5 : Int) (v6 : Int) (v7 : Int) (v8 : Int) (h0 : v0 = v2 + v3) (h1 : 0 ≤ v0 ∧ v0 ≤ 1500) (h2 : v4 = v2 + v5) (h3 : v3 ≤ 20) (h4 : 0 ≤ v3) (h5 : 2147483648 - v3 ≤ v6 + 1) (h6 : v3 < v5) (h7 : v7 = v3 % 4) (h8 : v4 ≤ v8) (h9 : v1 = 1) (h10 : -2147483648 ≤ v3 ∧ v3 ≤ 2147483647) (h11 : v5 = 20) (h12 : v8 = 1500) : -2147483648 ≤ v0 + v1 ∧ v0 + v1 ≤ 2147483647 := by omega
theorem om10 (v0 : Int) (v1 : Int) (v2 : Int) (v3 : Int) (v4 : Int) (v5 : Int) (v6 : Int) (h0 : v2 = v3 + v0) (h1 : v0 ≤ 20) (h2 : 0 ≤ v0) (h3 : 2147483648 - v0 ≤ v4 + 1) (h4 : v0 < v5) (h5 : v6 = v0 % 4) (h6 : -2147483648 ≤ v0 ∧ v0 ≤ 2147483647) (h7 : v1 = 1) : -2147483648 ≤ v0 + v1 ∧ v0 + v1 ≤ 2147483647 := by omega
theorem om11 (v0 : Int) (v1 : Int) (v2 : Int) (v3 : Int) (h0 : 2147483648 - v2 ≤ v1 + 1) (h1 : v0 = v2 + v3) (h2 : v3 = 1) : 2147483648 - v0 ≤ v1 := by omega
theorem om12 (v0 : Int) (v1 : Int) (v2 : Int) (v3 : Int) (v4 : Int) (v5 : Int) (v6 : Int) (h0 : v3 = v1 + v4) (h1 : v2 = v4 + v5) (h2 : v0 = v6) (h3 : v6 = v3 + v5) : v0 = v1 + v2 := by omega
theorem om13 (v0 : Int) (v1 : Int) (v2 : Int) (v3 : Int) (h0 : v0 = v1 + v2) (h1 : v1 < v3) (h2 : v2 = 1) (h3 : v3 = 20) : v0 ≤ 20 := by omega
theorem om14 (v0 : Int) (v1 : Int) (v2 : Int) (h0 : v0 = v1 + v2) (h1 : 0 ≤ v1) (h2 : v2 = 1) : 0 ≤ v0 := by omega
theorem om15 (v0 : Int) (v1 : Int) (v2 : Int) (v3 : Int) (v4 : Int) (v5 : Int) (v6 : Int) (v7 : Int) (v8 : Int) (h0 : v0 = v1) (h1 : v1 = v2 + v3) (h2 : v2 = v4 + v5) (h3 : 0 ≤ v2 ∧ v2 ≤ 1500) (h4 : v6 = v4 + v7) (h5 : v5 < v7) (h6 : v6 ≤ v8) (h7 : v3 = 1) (h8 : v8 = 1500) : 0 ≤ v0 ∧ v0 ≤ 1500 := by omega
theorem om16 (v0 : Int) (v1 : Int) (v2 : Int) (h0 : v0 = v1) (h1 : v2 = 0) : v0 = v1 + v2 := by omega
theorem om17 (v0 : Int) (h0 : v0 = 0) : v0 ≤ 20 := by omega
theorem om18 (v0 : Int) (h0 : v0 = 0) : 0 ≤ v0 := by omega
theorem om19 (v0 : Int) (v1 : Int) (v2 : Int) (v3 : Int) (v4 : Int) (h0 : v0 = v1) (h1 : 0 ≤ v1 ∧ v1 ≤ 1500) (h2 : v2 = v1 + v3) (h3 : v2 ≤ v4) (h4 : v3 = 20) (h5 : v4 = 1500) : 0 ≤ v0 ∧ v0 ≤ 1500 := by omega
theorem om20 (v0 : Int) (v1 : Int) (v2 : Int) (v3 : Int) (v4 : Int) (h0 : v0 = v1) (h1 : 0 ≤ v1 ∧ v1 ≤ 1500) (h2 : v2 = v1 + v3) (h3 : v4 < v2) (h4 : v3 = 20) (h5 : v4 = 1500) : 0 ≤ v0 ∧ v0 ≤ 1500 := by omega
theorem om21 (v0 : Int) (v1 : Int) (h0 : v0 = v1) (h1 : 0 ≤ v1 ∧ v1 ≤ 1500) : 0 ≤ v0 ∧ v0 ≤ 1500 := by omega
theorem om22 (v0 : Int) (v1 : Int) (h0 : 0 ≤ v0 ∧ v0 ≤ 1500) (h1 : v1 ≤ v0) (h2 : v1 = 20) : -2147483648 ≤ v0 - v1 ∧ v0 - v1 ≤ 2147483647 := by omega
theorem om23 (v0 : Int) (v1 : Int) (v2 : Int) (v3 : Int) (v4 : Int) (h0 : v2 ≤ v1) (h1 : v1 ≤ v3) (h2 : v0 = v4 - v3) (h3 : 0 ≤ v4 ∧ v4 ≤ 1500) (h4 : v3 ≤ v4) (h5 : v2 = 0) : -2147483648 ≤ v0 + v1 ∧ v0 + v1 ≤ 2147483647 := by omega
theorem om24 (v0 : Int) (v1 : Int) (v2 : Int) (v3 : Int) (v4 : Int) (v5 : Int) (v6 : Int) (h0 : v0 = v1) (h1 : v1 = v2 + v3) (h2 : v4 ≤ v3) (h3 : v3 ≤ v5) (h4 : v2 = v6 - v5) (h5 : 0 ≤ v6 ∧ v6 ≤ 1500) (h6 : v5 ≤ v6) (h7 : v4 = 0) : 0 ≤ v0 ∧ v0 ≤ 1500 := by omega
theorem om25 (v0 : Int) (v1 : Int) (v2 : Int) (h0 : v0 = v1) (h1 : 0 ≤ v1 ∧ v1 ≤ 1500) (h2 : v1 < v2) (h3 : v2 = 20) : 0 ≤ v0 ∧ v0 ≤ 1500 := by omega
theorem om26 (v0 : Int) (v1 : Int) (h0 : 0 ≤ v0 ∧ v0 ≤ 1500) (h1 : v0 ≠ v1) (h2 : v1 = 1500) : 0 ≤ v0 ∧ v0 < (1500 : Nat) := by omega
theorem om27 (v0 : Int) (v1 : Int) (h0 : 0 ≤ v0 ∧ v0 ≤ 1500) (h1 : v1 = 1) : -2147483648 ≤ v0 + v1 ∧ v0 + v1 ≤ 2147483647 := by omega
theorem om28 (v0 : Int) (v1 : Int) (v2 : Int) (v3 : Int) (v4 : Int) (h0 : v0 = v1) (h1 : v1 = v2 + v3) (h2 : 0 ≤ v2 ∧ v2 ≤ 1500) (h3 : v2 ≠ v4) (h4 : v3 = 1) (h5 : v4 = 1500) : 0 ≤ v0 ∧ v0 ≤ 1500 := by omega
theorem om29 (v0 : Int) (v1 : Int) (v2 : Int) (h0 : v0 = v1) (h1 : 0 ≤ v1 ∧ v1 ≤ 1500) (h2 : v1 = v2) (h3 : v2 = 1500) : 0 ≤ v0 ∧ v0 ≤ 1500 := by omega
theorem om30 (v0 : Int) (h0 : 2147483648 - v0 ≤ 0) (h1 : -2147483648 ≤ v0 ∧ v0 ≤ 2147483647) : (0 * v0) ≤ -1 := by omega
theorem om31 (v0 : Int) (v1 : Int) (v2 : Int) (h0 : v0 = v1) (h1 : 0 ≤ v1 ∧ v1 ≤ 3000) (h2 : v1 ≤ v2) (h3 : v2 = 1500) : 0 ≤ v0 ∧ v0 ≤ 1500 := by omega
theorem om32 (v0 : Int) (v1 : Int) (v2 : Int) (h0 : 0 ≤ v0) (h1 : v0 < v1) (h2 : v1 ≤ v2) (h3 : v2 = 1500) : 0 ≤ v0 ∧ v0 < (3000 : Nat) := by omega
theorem om33 (v0 : Int) (v1 : Int) (v2 : Int) (h0 : 0 ≤ v0) (h1 : v0 < v1) (h2 : v1 ≤ v2) (h3 : v2 = 1500) : 0 ≤ v0 ∧ v0 < (1500 : Nat) := by omega
theorem om34 (v0 : Int) (h0 : 0 ≤ v0 ∧ v0 ≤ 255) : 0 ≤ v0 ∧ v0 ≤ 255 := by omega
theorem om35 (v0 : Int) (v1 : Int) (v2 : Int) (v3 : Int) (h0 : 0 ≤ v0) (h1 : v0 < v2) (h2 : v2 ≤ v3) (h3 : v1 = 1) (h4 : v3 = 1500) : -2147483648 ≤ v0 + v1 ∧ v0 + v1 ≤ 2147483647 := by omega
theorem om36 (v0 : Int) (v1 : Int) (v2 : Int) (h0 : v1 ≤ v0) (h1 : v0 < v2) (h2 : 0 ≤ v2 ∧ v2 ≤ 3000) (h3 : v1 = 0) : 0 ≤ v0 ∧ v0 < (3000 : Nat) := by omega
theorem om37 (v0 : Int) (v1 : Int) (h0 : v0 = v1) (h1 : 0 ≤ v1 ∧ v1 ≤ 256) : 0 ≤ v0 ∧ v0 ≤ 256 := by omega
theorem om38 (v0 : Int) (v1 : Int) (v2 : Int) (v3 : Int) (h0 : v0 = v1) (h1 : v2 ≤ v1) (h2 : v1 ≤ v3) (h3 : v2 = 0) (h4 : v3 = 256) : 0 ≤ v0 ∧ v0 ≤ 256 := by omega
theorem om39 (v0 : Int) (v1 : Int) (h0 : v0 = v1) (h1 : 0 ≤ v1 ∧ v1 ≤ 4) : 0 ≤ v0 ∧ v0 ≤ 4 := by omega
theorem om40 (v0 : Int) (v1 : Int) (v2 : Int) (v3 : Int) (h0 : v0 = v2) (h1 : v1 = v3) (h2 : v2 + v3 ≤ 4) : v0 + v1 ≤ 4 := by omega
theorem om41 (v0 : Int) (v1 : Int) (h0 : v0 = v1) (h1 : 1 ≤ v1 ∧ v1 ≤ 4096) : 1 ≤ v0 ∧ v0 ≤ 4096 := by omega
theorem om42 (v0 : Int) (v1 : Int) (h0 : v0 = v1) (h1 : 1 ≤ v1 ∧ v1 ≤ 1500) : 1 ≤ v0 ∧ v0 ≤ 1500 := by omega
theorem om43 (v0 : Int) (v1 : Int) (v2 : Int) (v3 : Int) (h0 : 0 ≤ v1 ∧ v1 ≤ 4) (h1 : v2 ≤ v0) (h2 : v0 ≤ v3) (h3 : v2 = 0) (h4 : v3 = 4) : -2147483648 ≤ v0 + v1 ∧ v0 + v1 ≤ 2147483647 := by omega
theorem om44 (v0 : Int) (v1 : Int) (v2 : Int) (v3 : Int) (v4 : Int) (v5 : Int) (h0 : v0 = v1) (h1 : 0 ≤ v1 ∧ v1 ≤ 4) (h2 : v1 + v2 ≤ 4) (h3 : v3 = v4 + v2) (h4 : v4 ≤ v5) (h5 : v5 < v3) : 0 ≤ v0 ∧ v0 ≤ 4 := by omega
theorem om45 (v0 : Int) (v1 : Int) (v2 : Int) (v3 : Int) (v4 : Int) (h0 : v0 = v1) (h1 : 0 ≤ v1 ∧ v1 ≤ 4) (h2 : v2 = v3 + v1) (h3 : v3 ≤ v4) (h4 : v4 < v2) : 0 ≤ v0 ∧ v0 ≤ 4 := by omega
theorem om46 (v0 : Int) (v1 : Int) (v2 : Int) (v3 : Int) (h0 : v0 = v1) (h1 : v2 ≤ v1) (h2 : v1 ≤ v3) (h3 : v2 = 0) (h4 : v3 = 4) : 0 ≤ v0 ∧ v0 ≤ 4 := by omega
theorem om47 (v0 : Int) (v1 : Int) (v2 : Int) (v3 : Int) (v4 : Int) (v5 : Int) (h0 : v0 = v2) (h1 : v1 = v3) (h2 : v4 = v2 + v3) (h3 : v4 ≤ v5) (h4 : v5 = 4) : v0 + v1 ≤ 4 := by omega
theorem om48 (v0 : Int) (v1 : Int) (v2 : Int) (v3 : Int) (v4 : Int) (v5 : Int) (h0 : v0 = v1) (h1 : 0 ≤ v1 ∧ v1 ≤ 4) (h2 : v2 + v1 ≤ 4) (h3 : v3 = v4 + v2) (h4 : v4 ≤ v5) (h5 : v5 < v3) : 0 ≤ v0 ∧ v0 ≤ 4 := by omega
theorem om49 (v0 : Int) (v1 : Int) (v2 : Int) (v3 : Int) (v4 : Int) (v5 : Int) (h0 : v0 = v2) (h1 : v1 = v3) (h2 : v4 = v3 + v2) (h3 : v4 ≤ v5) (h4 : v5 = 4) : v0 + v1 ≤ 4 := by omega
theorem om50 (v0 : Int) (v1 : Int) (v2 : Int) (v3 : Int) (h0 : v0 = v1) (h1 : v2 ≤ v1) (h2 : v1 ≤ v3) (h3 : v2 = 1) (h4 : v3 = 4096) : 1 ≤ v0 ∧ v0 ≤ 4096 := by omega
theorem om51 (v0 : Int) (v1 : Int) (v2 : Int) (h0 : v0 = v1) (h1 : v1 ≤ v2) (h2 : v1 = v2) (h3 : v2 = 4096) : 1 ≤ v0 ∧ v0 ≤ 4096 := by omega
theorem om52 (v0 : Int) (v1 : Int) (v2 : Int) (v3 : Int) (h0 : v0 = v1) (h1 : v2 ≤ v1) (h2 : v1 ≤ v3) (h3 : v2 = 1) (h4 : v3 = 1500) : 1 ≤ v0 ∧ v0 ≤ 1500 := by omega
theorem om53 (v0 : Int) (v1 : Int) (h0 : v0 = v1 % 256) : 0 ≤ v0 ∧ v0 < (256 : Nat) := by omega
theorem om54 (v0 : Int) (v1 : Int) (v2 : Int) (h0 : 0 ≤ v0) (h1 : v0 < v2) (h2 : v1 = 1) (h3 : v2 = 8) : -2147483648 ≤ v0 + v1 ∧ v0 + v1 ≤ 2147483647 := by omega
theorem om55 (v0 : Int) (v1 : Int) (h0 : v0 = v1) (h1 : v1 = 0) : 0 ≤ v0 ∧ v0 ≤ 63 := by omega
theorem om56 (v0 : Int) (v1 : Int) (h0 : 0 ≤ v0) (h1 : v0 < v1) (h2 : v1 = 64) : 0 ≤ v0 ∧ v0 < (64 : Nat) := by omega
theorem om57 (v0 : Int) (v1 : Int) (v2 : Int) (h0 : 0 ≤ v0) (h1 : v0 < v2) (h2 : v1 = 1) (h3 : v2 = 64) : -2147483648 ≤ v0 + v1 ∧ v0 + v1 ≤ 2147483647 := by omega
theorem om58 (v0 : Int) (v1 : Int) (v2 : Int) (h0 : 16 ≤ v0) (h1 : v0 < v2) (h2 : v1 = 15) (h3 : v2 = 64) : -2147483648 ≤ v0 - v1 ∧ v0 - v1 ≤ 2147483647 := by omega
theorem om59 (v0 : Int) (v1 : Int) (v2 : Int) (v3 : Int) (h0 : v0 = v1 - v2) (h1 : 16 ≤ v1) (h2 : v1 < v3) (h3 : v2 = 15) (h4 : v3 = 64) : 0 ≤ v0 ∧ v0 < (64 : Nat) := by omega
theorem om60 (v0 : Int) (v1 : Int) (v2 : Int) (h0 : 16 ≤ v0) (h1 : v0 < v2) (h2 : v1 = 2) (h3 : v2 = 64) : -2147483648 ≤ v0 - v1 ∧ v0 - v1 ≤ 2147483647 := by omega
theorem om61 (v0 : Int) (v1 : Int) (v2 : Int) (v3 : Int) (h0 : v0 = v1 - v2) (h1 : 16 ≤ v1) (h2 : v1 < v3) (h3 : v2 = 2) (h4 : v3 = 64) : 0 ≤ v0 ∧ v0 < (64 : Nat) := by omega
theorem om62 (v0 : Int) (v1 : Int) (v2 : Int) (h0 : 16 ≤ v0) (h1 : v0 < v2) (h2 : v1 = 16) (h3 : v2 = 64) : -2147483648 ≤ v0 - v1 ∧ v0 - v1 ≤ 2147483647 := by omega
theorem om63 (v0 : Int) (v1 : Int) (v2 : Int) (v3 : Int) (h0 : v0 = v1 - v2) (h1 : 16 ≤ v1) (h2 : v1 < v3) (h3 : v2 = 16) (h4 : v3 = 64) : 0 ≤ v0 ∧ v0 < (64 : Nat) := by omega
theorem om64 (v0 : Int) (v1 : Int) (v2 : Int) (h0 : 16 ≤ v0) (h1 : v0 < v2) (h2 : v1 = 7) (h3 : v2 = 64) : -2147483648 ≤ v0 - v1 ∧ v0 - v1 ≤ 2147483647 := by omega
theorem om65 (v0 : Int) (v1 : Int) (v2 : Int) (v3 : Int) (h0 : v0 = v1 - v2) (h1 : 16 ≤ v1) (h2 : v1 < v3) (h3 : v2 = 7) (h4 : v3 = 64) : 0 ≤ v0 ∧ v0 < (64 : Nat) := by omega
theorem om66 (v0 : Int) (v1 : Int) (h0 : 16 ≤ v0) (h1 : v0 < v1) (h2 : v1 = 64) : 0 ≤ v0 ∧ v0 < (64 : Nat) := by omega
theorem om67 (v0 : Int) (v1 : Int) (v2 : Int) (h0 : 16 ≤ v0) (h1 : v0 < v2) (h2 : v1 = 1) (h3 : v2 = 64) : -2147483648 ≤ v0 + v1 ∧ v0 + v1 ≤ 2147483647 := by omega
theorem om68 (v0 : Int) (v1 : Int) (v2 : Int) (h0 : v0 = v1 + v2) (h1 : 16 ≤ v1) (h2 : v2 = 1) : 16 ≤ v0 := by omega
theorem om69 (v0 : Int) (h0 : v0 = 16) : 16 ≤ v0 := by omega
theorem om70 (v0 : Int) (h0 : 0 ≤ v0 ∧ v0 ≤ 63) : 0 ≤ v0 := by omega
theorem om71 (v0 : Int) (v1 : Int) (h0 : v0 = v1 / 4) (h1 : 0 ≤ v1 ∧ v1 ≤ 63) : 0 ≤ v0 ∧ v0 < (64 : Nat) := by omega
theorem om72 (v0 : Int) (v1 : Int) (h0 : 0 ≤ v0 ∧ v0 ≤ 63) (h1 : v1 = 1) : -2147483648 ≤ v0 + v1 ∧ v0 + v1 ≤ 2147483647 := by omega
theorem om73 (v0 : Int) (v1 : Int) (v2 : Int) (v3 : Int) (v4 : Int) (h0 : 0 ≤ v1 ∧ v1 ≤ 63) (h1 : v2 = v1 + v3) (h2 : v0 = v2) (h3 : v2 ≠ v4) (h4 : v3 = 1) (h5 : v4 = 64) : (v0 = v1 + 1 ∧ v1 ≤ 62) ∨ (v1 = 63 ∧ v0 = 0) := by omega
theorem om74 (v0 : Int) (v1 : Int) (v2 : Int) (v3 : Int) (v4 : Int) (h0 : v0 = v1) (h1 : v1 = v2 + v3) (h2 : v1 ≠ v4) (h3 : 0 ≤ v2 ∧ v2 ≤ 63) (h4 : v3 = 1) (h5 : v4 = 64) : 0 ≤ v0 ∧ v0 ≤ 63 := by omega
theorem om75 (v0 : Int) (v1 : Int) (v2 : Int) (v3 : Int) (v4 : Int) (v5 : Int) (h0 : 0 ≤ v1 ∧ v1 ≤ 63) (h1 : v2 = v1 + v3) (h2 : v0 = v4) (h3 : v2 = v5) (h4 : v3 = 1) (h5 : v4 = 0) (h6 : v5 = 64) : (v0 = v1 + 1 ∧ v1 ≤ 62) ∨ (v1 = 63 ∧ v0 = 0) := by omega
theorem om76 (v0 : Int) (v1 : Int) (v2 : Int) (v3 : Int) (h0 : v0 = v1 / 4) (h1 : 0 ≤ v1 ∧ v1 ≤ 63) (h2 : v2 = v1 % 4) (h3 : v2 ≠ v3) (h4 : v3 = 0) : 0 ≤ v0 ∧ v0 < (64 : Nat) := by omega
theorem om77 (v0 : Int) (v1 : Int) (v2 : Int) (v3 : Int) (h0 : v0 = v1 % 4) (h1 : v2 = v1 % 4) (h2 : v2 ≠ v3) (h3 : v3 = 0) : -2147483648 ≤ v0 * 8 ∧ v0 * 8 ≤ 2147483647 := by omega
theorem om78 (v0 : Int) (v1 : Int) (v2 : Int) (v3 : Int) (v4 : Int) (v5 : Int) (h0 : v1 = v2 * 8) (h1 : v2 = v3 % 4) (h2 : v4 = v3 % 4) (h3 : v4 ≠ v5) (h4 : v0 = 24) (h5 : -2147483648 ≤ v1 ∧ v1 ≤ 2147483647) (h6 : v5 = 0) : -2147483648 ≤ v0 - v1 ∧ v0 - v1 ≤ 2147483647 := by omega
theorem om79 (v0 : Int) (h0 : 0 ≤ v0 ∧ v0 ≤ 63) : 0 ≤ v0 ∧ v0 ≤ 63 := by omega
theorem om80 (v0 : Int) (h0 : (120 - v0) % 64 + 1 ≤ 0) : (0 * v0) ≤ -1 := by omega
theorem om81 (v0 : Int) (h0 : v0 + 2147483649 ≤ 0) (h1 : -2147483648 ≤ v0 ∧ v0 ≤ 2147483647) : (0 * v0) ≤ -1 := by omega
theorem om82 (v0 : Int) (v1 : Int) (v2 : Int) (h0 : v0 ≤ 56) (h1 : v2 ≤ v0) (h2 : v1 = (-8)) (h3 : v2 = 0) : -2147483648 ≤ v0 + v1 ∧ v0 + v1 ≤ 2147483647 := by omega
theorem om83 (v0 : Int) (v1 : Int) (v2 : Int) (v3 : Int) (h0 : v2 + 2147483649 ≤ v1 + 1) (h1 : v0 = v2 + v3) (h2 : v3 = (-8)) : v0 + 2147483649 ≤ v1 := by omega
theorem om84 (v0 : Int) (v1 : Int) (v2 : Int) (h0 : v0 = v1 + v2) (h1 : v1 ≤ 56) (h2 : v2 = (-8)) : v0 ≤ 56 := by omega
theorem om85 (v0 : Int) (v1 : Int) (h0 : (v0 = v1 + 1 ∧ v1 ≤ 62) ∨ (v1 = 63 ∧ v0 = 0)) (h1 : 0 ≤ v0 ∧ v0 ≤ 63) (h2 : 0 ≤ v1 ∧ v1 ≤ 63) : 0 ≤ v0 ∧ v0 ≤ 63 := by omega
theorem om86 (v0 : Int) (h0 : v0 = 56) : v0 ≤ 56 := by omega
theorem om87 (v0 : Int) (v1 : Int) (v2 : Int) (h0 : 0 ≤ v0 ∧ v0 ≤ 63) (h1 : (120 - v0) % 64 + 1 ≤ v1 + 1) (h2 : v0 = v2) (h3 : -2147483648 ≤ v0 ∧ v0 ≤ 2147483647) (h4 : v2 = 56) : 0 ≤ v0 ∧ v0 ≤ 63 := by omega
theorem om88 (v0 : Int) (v1 : Int) (v2 : Int) (v3 : Int) (h0 : (120 - v2) % 64 + 1 ≤ v1 + 1) (h1 : (v0 = v2 + 1 ∧ v2 ≤ 62) ∨ (v2 = 63 ∧ v0 = 0)) (h2 : 0 ≤ v0 ∧ v0 ≤ 63) (h3 : 0 ≤ v2 ∧ v2 ≤ 63) (h4 : v2 ≠ v3) (h5 : -2147483648 ≤ v0 ∧ v0 ≤ 2147483647) (h6 : -2147483648 ≤ v2 ∧ v2 ≤ 2147483647) (h7 : v3 = 56) : (120 - v0) % 64 + 1 ≤ v1 := by omega
theorem om89 (v0 : Int) (v1 : Int) (h0 : v0 = v1) (h1 : 0 ≤ v1 ∧ v1 ≤ 63) : 0 ≤ v0 ∧ v0 ≤ 63 := by omega
theorem om90 (v0 : Int) (h0 : v0 = 0) : 0 ≤ v0 ∧ v0 ≤ 32 := by omega
theorem om91 (v0 : Int) (h0 : v0 = 32) : 0 ≤ v0 ∧ v0 ≤ 32 := by omega
theorem om92 (v0 : Int) (h0 : v0 = 8) : 0 ≤ v0 ∧ v0 ≤ 32 := by omega
theorem om93 (v0 : Int) (h0 : v0 = 4) : 0 ≤ v0 ∧ v0 ≤ 32 := by omega
theorem om94 (v0 : Int) (v1 : Int) (h0 : 0 ≤ v0) (h1 : v0 < v1) (h2 : 0 ≤ v1 ∧ v1 ≤ 32) : 0 ≤ v0 ∧ v0 < (32 : Nat) := by omega
theorem om95 (v0 : Int) (v1 : Int) (v2 : Int) (h0 : 0 ≤ v0) (h1 : v0 < v2) (h2 : 0 ≤ v2 ∧ v2 ≤ 32) (h3 : v1 = 1) : -2147483648 ≤ v0 + v1 ∧ v0 + v1 ≤ 2147483647 := by omega
theorem om96 (v0 : Int) (v1 : Int) (v2 : Int) (h0 : v0 = v1 / 4) (h1 : 0 ≤ v1) (h2 : v1 < v2) (h3 : 0 ≤ v2 ∧ v2 ≤ 32) : 0 ≤ v0 ∧ v0 < (8 : Nat) := by omega
theorem om97 (v0 : Int) (v1 : Int) (h0 : 0 ≤ v0) (h1 : v0 < v1) (h2 : 0 ≤ v1 ∧ v1 ≤ 32) : -2147483648 ≤ v0 * 8 ∧ v0 * 8 ≤ 2147483647 := by omega
theorem om98 (v0 : Int) (h0 : 0 ≤ v0 ∧ v0 ≤ 32) : 0 ≤ v0 := by omega
theorem om99 (v0 : Int) (v1 : Int) (v2 : Int) (v3 : Int) (h0 : v1 ≤ v0) (h1 : v0 < v2) (h2 : v2 = v3 / 4) (h3 : 0 ≤ v3 ∧ v3 ≤ 32) (h4 : v1 = 0) : -2147483648 ≤ v0 * 4 ∧ v0 * 4 ≤ 2147483647 := by omega
theorem om100 (v0 : Int) (v1 : Int) (v2 : Int) (v3 : Int) (v4 : Int) (v5 : Int) (v6 : Int) (h0 : 0 ≤ v1) (h1 : v1 < v2) (h2 : v0 = v3 * 4) (h3 : v4 ≤ v3) (h4 : v3 < v5) (h5 : v5 = v6 / 4) (h6 : 0 ≤ v6 ∧ v6 ≤ 32) (h7 : -2147483648 ≤ v0 ∧ v0 ≤ 2147483647) (h8 : v2 = 4) (h9 : v4 = 0) : -2147483648 ≤ v0 + v1 ∧ v0 + v1 ≤ 2147483647 := by omega
theorem om101 (v0 : Int) (v1 : Int) (v2 : Int) (v3 : Int) (v4 : Int) (v5 : Int) (v6 : Int) (v7 : Int) (h0 : v0 = v1 + v2) (h1 : 0 ≤ v2) (h2 : v2 < v3) (h3 : v1 = v4 * 4) (h4 : v5 ≤ v4) (h5 : v4 < v6) (h6 : v6 = v7 / 4) (h7 : 0 ≤ v7 ∧ v7 ≤ 32) (h8 : v3 = 4) (h9 : v5 = 0) : 0 ≤ v0 ∧ v0 < (32 : Nat) := by omega
theorem om102 (v0 : Int) (v1 : Int) (v2 : Int) (h0 : 0 ≤ v0) (h1 : v0 < v2) (h2 : v1 = 1) (h3 : v2 = 4) : -2147483648 ≤ v0 + v1 ∧ v0 + v1 ≤ 2147483647 := by omega
theorem om103 (v0 : Int) (v1 : Int) (h0 : 0 ≤ v0) (h1 : v0 < v1) (h2 : v1 = 4) : -2147483648 ≤ v0 * 8 ∧ v0 * 8 ≤ 2147483647 := by omega
theorem om104 (v0 : Int) (v1 : Int) (v2 : Int) (v3 : Int) (h0 : v1 = v2 * 8) (h1 : 0 ≤ v2) (h2 : v2 < v3) (h3 : v0 = 24) (h4 : -2147483648 ≤ v1 ∧ v1 ≤ 2147483647) (h5 : v3 = 4) : -2147483648 ≤ v0 - v1 ∧ v0 - v1 ≤ 2147483647 := by omega
theorem om105 (v0 : Int) (v1 : Int) (h0 : 0 ≤ v0) (h1 : v0 < v1) (h2 : 0 ≤ v1 ∧ v1 ≤ 3000) : 0 ≤ v0 ∧ v0 < (3000 : Nat) := by omega
theorem om106 (v0 : Int) (v1 : Int) (v2 : Int) (h0 : 0 ≤ v0) (h1 : v0 < v2) (h2 : 0 ≤ v2 ∧ v2 ≤ 3000) (h3 : v1 = 1) : -2147483648 ≤ v0 + v1 ∧ v0 + v1 ≤ 2147483647 := by omega
theorem om107 (v0 : Int) (v1 : Int) (h0 : 0 ≤ v0 ∧ v0 ≤ 3000) (h1 : v1 = 1) : -2147483648 ≤ v0 - v1 ∧ v0 - v1 ≤ 2147483647 := by omega
theorem om108 (v0 : Int) (v1 : Int) (h0 : v0 < 3000) (h1 : v1 ≤ v0) (h2 : 0 ≤ v1) : 0 ≤ v0 ∧ v0 < (3000 : Nat) := by omega
theorem om109 (v0 : Int) (v1 : Int) (h0 : 0 ≤ v1) (h1 : v0 < 3000) (h2 : v1 ≤ v0) : -2147483648 ≤ v0 - v1 ∧ v0 - v1 ≤ 2147483647 := by omega
theorem om110 (v0 : Int) (v1 : Int) (v2 : Int) (h0 : v0 = v1 - v2) (h1 : 0 ≤ v2) (h2 : v1 < 3000) (h3 : v2 ≤ v1) : 0 ≤ v0 ∧ v0 < (3000 : Nat) := by omega
theorem om111 (v0 : Int) (v1 : Int) (h0 : 0 ≤ v0 ∧ v0 ≤ 255) (h1 : 0 ≤ v1 ∧ v1 ≤ 255) : -2147483648 ≤ v0 - v1 ∧ v0 - v1 ≤ 2147483647 := by omega
theorem om112 (v0 : Int) (v1 : Int) (v2 : Int) (h0 : v0 < 3000) (h1 : v2 ≤ v0) (h2 : 0 ≤ v2) (h3 : v1 = (-1)) : -2147483648 ≤ v0 + v1 ∧ v0 + v1 ≤ 2147483647 := by omega
theorem om113 (v0 : Int) (v1 : Int) (v2 : Int) (v3 : Int) (h0 : v2 + 2147483649 ≤ v1 + 1) (h1 : v0 = v2 + v3) (h2 : v3 = (-1)) : v0 + 2147483649 ≤ v1 := by omega
theorem om114 (v0 : Int) (v1 : Int) (v2 : Int) (h0 : v0 = v1 + v2) (h1 : v1 < 3000) (h2 : v2 = (-1)) : v0 < 3000 := by omega
theorem om115 (v0 : Int) (v1 : Int) (v2 : Int) (h0 : v0 = v1 - v2) (h1 : 0 ≤ v1 ∧ v1 ≤ 3000) (h2 : v2 = 1) : v0 < 3000 := by omega
theorem om116 (v0 : Int) (v1 : Int) (v2 : Int) (h0 : v1 ≤ v0) (h1 : v0 < v2) (h2 : 0 ≤ v1) (h3 : 0 ≤ v2 ∧ v2 ≤ 3000) : 0 ≤ v0 ∧ v0 < (3000 : Nat) := by omega
theorem om117 (v0 : Int) (v1 : Int) (v2 : Int) (h0 : 0 ≤ v1) (h1 : v1 ≤ v0) (h2 : v0 < v2) (h3 : 0 ≤ v2 ∧ v2 ≤ 3000) : -2147483648 ≤ v0 - v1 ∧ v0 - v1 ≤ 2147483647 := by omega
theorem om118 (v0 : Int) (v1 : Int) (v2 : Int) (v3 : Int) (h0 : v0 = v1 - v2) (h1 : 0 ≤ v2) (h2 : v2 ≤ v1) (h3 : v1 < v3) (h4 : 0 ≤ v3 ∧ v3 ≤ 3000) : 0 ≤ v0 ∧ v0 < (3000 : Nat) := by omega
theorem om119 (v0 : Int) (v1 : Int) (h0 : 0 ≤ v0 ∧ v0 ≤ 255) (h1 : 0 ≤ v1 ∧ v1 ≤ 255) : -2147483648 ≤ v0 + v1 ∧ v0 + v1 ≤ 2147483647 := by omega
theorem om120 (v0 : Int) (v1 : Int) (v2 : Int) (v3 : Int) (h0 : v2 ≤ v0) (h1 : v0 < v3) (h2 : 0 ≤ v2) (h3 : 0 ≤ v3 ∧ v3 ≤ 3000) (h4 : v1 = 1) : -2147483648 ≤ v0 + v1 ∧ v0 + v1 ≤ 2147483647 := by omega
theorem om121 (v0 : Int) (v1 : Int) (v2 : Int) (v3 : Int) (h0 : v0 ≤ v2) (h1 : v1 = v2 + v3) (h2 : v3 = 1) : v0 ≤ v1 := by omega
theorem om122 (v0 : Int)  : v0 ≤ v0 := by omega
theorem om123 (v0 : Int) (h0 : v0 ≤ 3000) (h1 : 2147483648 - v0 ≤ 0) : (0 * v0) ≤ -1 := by omega
theorem om124 (v0 : Int) (v1 : Int) (h0 : v0 ≤ 3000) (h1 : 0 ≤ v0) (h2 : v1 = 4) : -2147483648 ≤ v0 + v1 ∧ v0 + v1 ≤ 2147483647 := by omega
theorem om125 (v0 : Int) (v1 : Int) (v2 : Int) (v3 : Int) (v4 : Int) (h0 : 0 ≤ v0) (h1 : v2 = v0 + v3) (h2 : v2 ≤ v4) (h3 : 0 ≤ v4 ∧ v4 ≤ 3000) (h4 : v1 = 3) (h5 : v3 = 4) : -2147483648 ≤ v0 + v1 ∧ v0 + v1 ≤ 2147483647 := by omega
theorem om126 (v0 : Int) (v1 : Int) (v2 : Int) (v3 : Int) (v4 : Int) (v5 : Int) (h0 : v0 = v1 + v2) (h1 : 0 ≤ v1) (h2 : v3 = v1 + v4) (h3 : v3 ≤ v5) (h4 : 0 ≤ v5 ∧ v5 ≤ 3000) (h5 : v2 = 3) (h6 : v4 = 4) : 0 ≤ v0 ∧ v0 < (3000 : Nat) := by omega
theorem om127 (v0 : Int) (v1 : Int) (v2 : Int) (v3 : Int) (h0 : 0 ≤ v0) (h1 : v2 = v0 + v1) (h2 : v2 ≤ v3) (h3 : 0 ≤ v3 ∧ v3 ≤ 3000) (h4 : v1 = 4) : -2147483648 ≤ v0 + v1 ∧ v0 + v1 ≤ 2147483647 := by omega
theorem om128 (v0 : Int) (v1 : Int) (v2 : Int) (v3 : Int) (h0 : 2147483648 - v2 ≤ v1 + 1) (h1 : v0 = v2 + v3) (h2 : v3 = 4) : 2147483648 - v0 ≤ v1 := by omega
theorem om129 (v0 : Int) (v1 : Int) (v2 : Int) (v3 : Int) (v4 : Int) (h0 : v0 = v1 + v2) (h1 : v3 = v1 + v2) (h2 : v3 ≤ v4) (h3 : 0 ≤ v4 ∧ v4 ≤ 3000) : v0 ≤ 3000 := by omega
theorem om130 (v0 : Int) (v1 : Int) (v2 : Int) (h0 : v0 = v1 + v2) (h1 : 0 ≤ v1) (h2 : v2 = 4) : 0 ≤ v0 := by omega
theorem om131 (v0 : Int) (v1 : Int) (v2 : Int) (v3 : Int) (h0 : 0 ≤ v0) (h1 : v1 = v0 + v2) (h2 : v1 ≤ v3) (h3 : 0 ≤ v3 ∧ v3 ≤ 3000) (h4 : v2 = 4) : 0 ≤ v0 ∧ v0 < (3000 : Nat) := by omega
theorem om132 (v0 : Int) (v1 : Int) (v2 : Int) (v3 : Int) (v4 : Int) (h0 : 0 ≤ v0) (h1 : v2 = v0 + v3) (h2 : v2 ≤ v4) (h3 : 0 ≤ v4 ∧ v4 ≤ 3000) (h4 : v1 = 1) (h5 : v3 = 4) : -2147483648 ≤ v0 + v1 ∧ v0 + v1 ≤ 2147483647 := by omega
theorem om133 (v0 : Int) (v1 : Int) (v2 : Int) (v3 : Int) (v4 : Int) (v5 : Int) (h0 : v0 = v1 + v2) (h1 : 0 ≤ v1) (h2 : v3 = v1 + v4) (h3 : v3 ≤ v5) (h4 : 0 ≤ v5 ∧ v5 ≤ 3000) (h5 : v2 = 1) (h6 : v4 = 4) : 0 ≤ v0 ∧ v0 < (3000 : Nat) := by omega
theorem om134 (v0 : Int) (h0 : 0 ≤ v0 ∧ v0 ≤ 255) : -2147483648 ≤ v0 * 256 ∧ v0 * 256 ≤ 2147483647 := by omega
theorem om135 (v0 : Int) (v1 : Int) (v2 : Int) (v3 : Int) (v4 : Int) (h0 : 0 ≤ v0) (h1 : v2 = v0 + v3) (h2 : v2 ≤ v4) (h3 : 0 ≤ v4 ∧ v4 ≤ 3000) (h4 : v1 = 2) (h5 : v3 = 4) : -2147483648 ≤ v0 + v1 ∧ v0 + v1 ≤ 2147483647 := by omega
theorem om136 (v0 : Int) (v1 : Int) (v2 : Int) (v3 : Int) (v4 : Int) (v5 : Int) (h0 : v0 = v1 + v2) (h1 : 0 ≤ v1) (h2 : v3 = v1 + v4) (h3 : v3 ≤ v5) (h4 : 0 ≤ v5 ∧ v5 ≤ 3000) (h5 : v2 = 2) (h6 : v4 = 4) : 0 ≤ v0 ∧ v0 < (3000 : Nat) := by omega
theorem om137 (v0 : Int) (h0 : 0 ≤ v0 ∧ v0 ≤ 255) : -2147483648 ≤ v0 * 65536 ∧ v0 * 65536 ≤ 2147483647 := by omega
theorem om138 (v0 : Int) (v1 : Int) (v2 : Int) (v3 : Int) (v4 : Int) (h0 : 0 ≤ v0) (h1 : v2 = v0 + v3) (h2 : v2 ≤ v4) (h3 : 0 ≤ v4 ∧ v4 ≤ 3000) (h4 : v1 = 8) (h5 : v3 = 4) : -2147483648 ≤ v0 + v1 ∧ v0 + v1 ≤ 2147483647 := by omega
theorem om139 (v0 : Int) (v1 : Int) (v2 : Int) (h0 : v0 = v1 / 65536) (h1 : v1 = v2 % 16777216) : 0 ≤ v0 ∧ v0 ≤ 255 := by omega
theorem om140 (v0 : Int) (h0 : v0 = 0) : v0 ≤ 3000 := by omega
theorem om141 (v0 : Int) (v1 : Int) (h0 : v0 = v1) (h1 : 0 ≤ v1 ∧ v1 ≤ 3000) : 0 ≤ v0 ∧ v0 ≤ 3000 := by omega
theorem om142 (v0 : Int) (v1 : Int) (v2 : Int) (h0 : v1 = 1 ∨ 1 ≤ v0) (h1 : v1 ≤ v2) (h2 : v1 ≠ v2) (h3 : v2 = 1) : 0 ≤ v0 := by omega
theorem om143 (v0 : Int) (v1 : Int) (v2 : Int) (v3 : Int) (h0 : v2 ≤ v0) (h1 : v0 ≤ v3) (h2 : v0 ≠ v2) (h3 : v2 = 0) (h4 : v3 = 1) : v0 = 1 ∨ 1 ≤ v1 := by omega
theorem om144 (v0 : Int) (v1 : Int) (v2 : Int) (h0 : v2 ≤ v1) (h1 : v2 = 1) : v0 = 1 ∨ 1 ≤ v1 := by omega
theorem om145 (v0 : Int) (v1 : Int) (h0 : 0 ≤ v0 ∧ v0 ≤ 100000) (h1 : v1 = 1) : -2147483648 ≤ v0 + v1 ∧ v0 + v1 ≤ 2147483647 := by omega
theorem om146 (v0 : Int) (v1 : Int) (v2 : Int) (v3 : Int) (h0 : v2 = v1 + v3) (h1 : v0 = v2) (h2 : v3 = 1) : v0 = v1 + 1 := by omega
theorem om147 (v0 : Int) (v1 : Int) (h0 : 0 ≤ v0 ∧ v0 ≤ 100000) (h1 : v0 < v1) (h2 : v1 = 2000) : 0 ≤ v0 ∧ v0 < (2000 : Nat) := by omega
theorem om148 (v0 : Int) (v1 : Int) (v2 : Int) (h0 : v1 ≤ v0) (h1 : v0 < v2) (h2 : v1 = 0) (h3 : v2 = 2000) : 0 ≤ v0 ∧ v0 < (2000 : Nat) := by omega
theorem om149 (v0 : Int) (v1 : Int) (v2 : Int) (h0 : v1 ≤ v0) (h1 : v0 < v2) (h2 : 0 ≤ v2 ∧ v2 ≤ 3001) (h3 : v1 = 0) : 0 ≤ v0 ∧ v0 < (3001 : Nat) := by omega
set_option maxHeartbeats 4000000 in
set_option maxRecDepth 100000 in
/-- X12_feed on (0,) -/
theorem jm_X12_feed (l : Launch) (hlt : l.stackTraces = false) (D : va_G) (t3 : Nat × Nat × Nat) (cI cJ : ClassId) (ad : Nat → Nat) (g : Nat → Int32) (lg : Nat → Int64) (ar : Nat → Nat → Int32) (bk : Nat → Int64) (sz : Nat) (y1 : Int32) (y2 : Int32) (y3 : Int32) (y4 : Int32) (y5 : Int32) (hi_g12 : 0 ≤ (g 12).toInt ∧ (g 12).toInt ≤ 1500) (hi_a0rg : hk_rg 0 255 (ar 0)) : JMi l yX12_feed (Cond.code yX12_feed cX12_feed 8 (some .int) :: wwM) { frames := 0, cells := 0, slots := 0, locals := 0 } t3 D mw cI cJ ad [.ref (ad 0), .int y1, .int y2, .int y3, .int y4, .int y5] (mw cI cJ ad g lg ar bk) sz 0 0 (fun (r : Int32) g' lg' ar' bk' => hk_fr [1, 12] g g' ∧ lg = lg' ∧ hk_fr [0] ar ar' ∧ bk = bk' ∧ (0 ≤ (g' 12).toInt ∧ (g' 12).toInt ≤ 1500) ∧ hk_rg 0 255 (ar' 0)) (fun g' lg' ar' bk' => False) := by
  refine jx_meti (cc := cX12_feed) (maxL := 8) (ret := (some .int)) rfl (by decide) rfl (Nat.le_of_ble_eq_true rfl) ?_
  intro p e s m args below meth c ls Q A hx hb hml hown hts hA hZ hw hl hQ kr kt
  have hq : ∀ w ∈ wwM, w.before args s = true := fun w h => hts w (List.mem_cons_of_mem _ h)
  have hl : lv_has ls 8 [(0, .ref (ad 0)), (1, .int y1), (2, .int y2), (3, .int y3), (4, .int y4), (5, .int y5)] := hl
  refine lv_aload_n hx hb dX12_feed_0 rfl (lv_at hl 0 rfl) ?_
  refine lv_iconst (v := 0) hx hb dX12_feed_1 (by decide) ?_
  refine jx_putg mw (cI := cI) (cJ := cJ) (ad := ad) (g := g) (lg := lg) (ar := ar) (bk := bk) (x := 0) 1 (ci := 15) (C := RX12) (T := TX12) (N := 92) (ty := .int) hx hb hts (fun _ h => List.mem_cons_of_mem _ (wwMc_wsX120 _ h)) tyX12 tyX12_ok nmX12 hown hw 0 rfl rfl 1 (by decide) (hq _ wM_103) rfl (by decide +kernel) rfl rfl (Nat.le_of_ble_eq_true rfl) dX12_feed_2 rfl (fun H locs g1 h_g1 hw => ?_)
  refine lv_aload_n hx hb dX12_feed_5 rfl (lv_at hl 0 rfl) ?_
  have e_g1_12 : g1 12 = (g 12) := (hk_upgN h_g1 12 rfl)
  refine hk_get (ci := 15) (C := RX12) (T := TX12) (N := 92) (v := .int (g 12)) hx hb hts (fun _ h => List.mem_cons_of_mem _ (wwMc_wsX120 _ h)) hown hw 0 rfl rfl 13 (by decide) (hq _ wM_194) (congrArg (fun z => some (Value.int z)) e_g1_12) dX12_feed_6 ?_
  refine lv_bipush (v := 20) hx hb dX12_feed_9 (by decide) ?_
  refine lv_iadd hx hb dX12_feed_11 (jx_nm fun z2 hz2 => ?_)
  have xz2 : (z2).toInt = (g 12).toInt + ((20 : Int32)).toInt := (hE_imp (hE_add hz2) (om1 ((g 12).toInt) (((20 : Int32)).toInt) hi_g12 (by decide)))
  refine lv_sipush (v := 1500) hx hb dX12_feed_12 (by decide) ?_
  refine lv_icmp_le (tgt := 21) hx hb dX12_feed_15 (by decide) (fun cc3 => ?_) (fun cc3 => ?_)
  · refine lv_iconst (v := 0) hx hb dX12_feed_21 (by decide) ?_
    refine lv_istore (lv' := [(6, .int 0), (0, .ref (ad 0)), (1, .int y1), (2, .int y2), (3, .int y3), (4, .int y4), (5, .int y5)]) hx hb dX12_feed_22 hl (by decide) rfl (fun ls hl => ?_)
    have B4 : ∀ (k8 : Nat) (x5 : Int32) (g6 : Nat → Int32) (a7 : Nat → Nat → Int32) (ls : Array Slot) (H : Heap) (locs : List Loc), (2147483648 - (x5).toInt ≤ (k8 : Int)) → ((g6 12).toInt = (g 12).toInt + (x5).toInt) → ((x5).toInt ≤ 20) → (0 ≤ (x5).toInt) → (0 ≤ (g6 12).toInt ∧ (g6 12).toInt ≤ 1500) → (hk_fr [12] g1 g6) → (hk_fr [0] ar a7) → (hk_rg 0 255 (a7 0)) → hk_W D (jT cI cJ) A s H locs (mw cI cJ ad g6 lg a7 bk) → lv_has ls 8 [(0, .ref (ad 0)), (1, .int y1), (2, .int y2), (3, .int y3), (4, .int y4), (5, .int y5), (6, .int x5)] → W p l e { frames := 0, cells := 0, slots := 0, locals := 0 } s m args below meth c H locs 0 0 Q (F0 m 24 ls []) := by
      intro k8
      induction k8 with
      | zero =>
        intro x5 g6 a7 ls H locs hrk_B4 hf_B4_0 hf_B4_1 hf_B4_2 hf_B4_3 hfr_g6 hfr_a7 ha7_r0rg hw hl
        exact False.elim (hk_no0 (0 * (x5).toInt) (om2 ((x5).toInt) hf_B4_1 hrk_B4) (by simp))
      | succ k8 ih_B4 =>
        intro x5 g6 a7 ls H locs hrk_B4 hf_B4_0 hf_B4_1 hf_B4_2 hf_B4_3 hfr_g6 hfr_a7 ha7_r0rg hw hl
        have hrk_B4 := hk_rk hrk_B4
        refine lv_iload hx hb dX12_feed_24 (lv_at hl 6 rfl) ?_
        refine lv_bipush (v := 20) hx hb dX12_feed_26 (by decide) ?_
        refine lv_icmp_ge (tgt := 121) hx hb dX12_feed_28 (by decide) (fun cc9 => ?_) (fun cc9 => ?_)
        · refine lv_aload_n hx hb dX12_feed_121 rfl (lv_at hl 0 rfl) ?_
          refine hk_get (ci := 15) (C := RX12) (T := TX12) (N := 92) (v := .int (g6 12)) hx hb hts (fun _ h => List.mem_cons_of_mem _ (wwMc_wsX120 _ h)) hown hw 0 rfl rfl 13 (by decide) (hq _ wM_194) rfl dX12_feed_122 ?_
          exact kr (g6 12) g6 lg a7 bk _ _ _ _ ⟨(hk_frT (hk_frG hk_fr0 (by decide) h_g1) (by decide) hfr_g6), rfl, hfr_a7, rfl, (om3 ((g6 12).toInt) ((g 12).toInt) ((x5).toInt) (((20 : Int32)).toInt) hf_B4_0 hf_B4_3 hi_g12 (hE_le cc9) (by decide)), ha7_r0rg⟩ hw dX12_feed_125
        · refine lv_iload hx hb dX12_feed_31 (lv_at hl 6 rfl) ?_
          refine lv_iconst (v := 4) hx hb dX12_feed_33 (by decide) ?_
          have B10 : ∀  (x11 : Int32) (ls : Array Slot) (H : Heap) (locs : List Loc), hk_W D (jT cI cJ) A s H locs (mw cI cJ ad g6 lg a7 bk) → lv_has ls 8 [(0, .ref (ad 0)), (1, .int y1), (2, .int y2), (3, .int y3), (4, .int y4), (5, .int y5), (6, .int x5)] → W p l e { frames := 0, cells := 0, slots := 0, locals := 0 } s m args below meth c H locs 0 0 Q (F0 m 77 ls [.int x11]) := by
            intro x11 ls H locs hw hl
            refine lv_istore (lv' := [(7, .int x11), (0, .ref (ad 0)), (1, .int y1), (2, .int y2), (3, .int y3), (4, .int y4), (5, .int y5), (6, .int x5)]) hx hb dX12_feed_77 hl (by decide) rfl (fun ls hl => ?_)
            refine lv_aload_n hx hb dX12_feed_79 rfl (lv_at hl 1 rfl) ?_
            refine hk_get (ci := 15) (C := RX12) (T := TX12) (N := 92) (v := .ref (ad 1)) hx hb hts (fun _ h => List.mem_cons_of_mem _ (wwMc_wsX120 _ h)) hown hw 0 rfl rfl 12 (by decide) (hq _ wM_203) rfl dX12_feed_80 ?_
            refine lv_aload_n hx hb dX12_feed_83 rfl (lv_at hl 1 rfl) ?_
            refine hk_get (ci := 15) (C := RX12) (T := TX12) (N := 92) (v := .int (g6 12)) hx hb hts (fun _ h => List.mem_cons_of_mem _ (wwMc_wsX120 _ h)) hown hw 0 rfl rfl 13 (by decide) (hq _ wM_194) rfl dX12_feed_84 ?_
            refine lv_iload hx hb dX12_feed_87 (lv_at hl 0 rfl) ?_
            refine lv_bipush (v := 24) hx hb dX12_feed_89 (by decide) ?_
            refine lv_bipush (v := 8) hx hb dX12_feed_91 (by decide) ?_
            refine lv_iload hx hb dX12_feed_93 (lv_at hl 7 rfl) ?_
            refine lv_iconst (v := 4) hx hb dX12_feed_95 (by decide) ?_
            refine lv_irem hx hb dX12_feed_96 (by decide) (jx_nm fun z12 hz12 => ?_)
            refine lv_imul hx hb dX12_feed_97 (jx_nm fun z13 hz13 => ?_)
            have xz13 : (z13).toInt = (z12).toInt * 8 := (hE_imp (hE_mul' 8 hz13 (by decide)) (om5 ((z12).toInt) ((x5).toInt) ((hE_rem 4 hz12 (by decide) (by decide)).1 (om4 ((x5).toInt) hf_B4_2))))
            refine lv_isub hx hb dX12_feed_98 (jx_nm fun z14 hz14 => ?_)
            have xz14 : (z14).toInt = ((24 : Int32)).toInt - (z13).toInt := (hE_imp (hE_sub hz14) (om6 (((24 : Int32)).toInt) ((z13).toInt) ((z12).toInt) ((x5).toInt) xz13 ((hE_rem 4 hz12 (by decide) (by decide)).1 (om4 ((x5).toInt) hf_B4_2)) (by decide) (hE_rng (z13))))
            refine lv_ishr hx hb dX12_feed_99 (jx_nm fun z15 hz15 => ?_)
            refine lv_sipush (v := 255) hx hb dX12_feed_100 (by decide) ?_
            refine lv_iand hx hb dX12_feed_103 (jx_nm fun z16 hz16 => ?_)
            refine jx_iast mw (cI := cI) (cJ := cJ) (ad := ad) (g := g6) (lg := lg) (ar := a7) (bk := bk) 0 hx hb hw 1 0 rfl rfl (hE_in (n := 1500) (om7 ((g6 12).toInt) ((g 12).toInt) ((x5).toInt) ((z2).toInt) (((20 : Int32)).toInt) (k8 : Int) ((z12).toInt) (((1500 : Int32)).toInt) hf_B4_0 hf_B4_3 xz2 hf_B4_1 hf_B4_2 hrk_B4 (hE_nle cc9) ((hE_rem 4 hz12 (by decide) (by decide)).1 (om4 ((x5).toInt) hf_B4_2)) (hE_le cc3) (hE_rng (x5)) (by decide) (by decide))) dX12_feed_104 rfl (fun H locs a17 h_a17 hw => ?_)
            have hr18 : hk_rg 0 255 (a17 0) := (hk_rgS h_a17 ha7_r0rg (om8 ((z16).toInt) ((z15).toInt) (hE_and 8 256 hz16 (by decide) (by decide) (by decide))))
            refine lv_aload_n hx hb dX12_feed_105 rfl (lv_at hl 1 rfl) ?_
            refine lv_dup hx hb dX12_feed_106 rfl ?_
            refine hk_get (ci := 15) (C := RX12) (T := TX12) (N := 92) (v := .int (g6 12)) hx hb hts (fun _ h => List.mem_cons_of_mem _ (wwMc_wsX120 _ h)) hown hw 0 rfl rfl 13 (by decide) (hq _ wM_194) rfl dX12_feed_107 ?_
            refine lv_iconst (v := 1) hx hb dX12_feed_110 (by decide) ?_
            refine lv_iadd hx hb dX12_feed_111 (jx_nm fun z19 hz19 => ?_)
            have xz19 : (z19).toInt = (g6 12).toInt + ((1 : Int32)).toInt := (hE_imp (hE_add hz19) (om9 ((g6 12).toInt) (((1 : Int32)).toInt) ((g 12).toInt) ((x5).toInt) ((z2).toInt) (((20 : Int32)).toInt) (k8 : Int) ((z12).toInt) (((1500 : Int32)).toInt) hf_B4_0 hf_B4_3 xz2 hf_B4_1 hf_B4_2 hrk_B4 (hE_nle cc9) ((hE_rem 4 hz12 (by decide) (by decide)).1 (om4 ((x5).toInt) hf_B4_2)) (hE_le cc3) (by decide) (hE_rng (x5)) (by decide) (by decide)))
            refine jx_putg mw (cI := cI) (cJ := cJ) (ad := ad) (g := g6) (lg := lg) (ar := a17) (bk := bk) (x := z19) 12 (ci := 15) (C := RX12) (T := TX12) (N := 92) (ty := .int) hx hb hts (fun _ h => List.mem_cons_of_mem _ (wwMc_wsX120 _ h)) tyX12 tyX12_ok nmX12 hown hw 0 rfl rfl 13 (by decide) (hq _ wM_194) rfl (by decide +kernel) rfl rfl (Nat.le_of_ble_eq_true rfl) dX12_feed_112 rfl (fun H locs g20 h_g20 hw => ?_)
            obtain ⟨z21, hz21⟩ : ∃ z : Int32, x5 + 1 = z := ⟨_, rfl⟩
            refine lv_iinc (v := z21) (lv' := [(6, .int z21), (7, .int x11), (0, .ref (ad 0)), (1, .int y1), (2, .int y2), (3, .int y3), (4, .int y4), (5, .int y5)]) hx hb dX12_feed_115 hl (k := 7) rfl hz21 (by decide) rfl (fun ls hl => ?_)
            have xz21 : (z21).toInt = (x5).toInt + ((1 : Int32)).toInt := (hE_imp (hE_add hz21) (om10 ((x5).toInt) (((1 : Int32)).toInt) ((g6 12).toInt) ((g 12).toInt) (k8 : Int) (((20 : Int32)).toInt) ((z12).toInt) hf_B4_0 hf_B4_1 hf_B4_2 hrk_B4 (hE_nle cc9) ((hE_rem 4 hz12 (by decide) (by decide)).1 (om4 ((x5).toInt) hf_B4_2)) (hE_rng (x5)) (by decide)))
            refine lv_goto (tgt := 24) hx hb dX12_feed_118 (by decide) ?_
            have e_g20_12 : g20 12 = z19 := (hk_upgS h_g20)
            exact ih_B4 z21 g20 a17 ls _ _ (om11 ((z21).toInt) (k8 : Int) ((x5).toInt) (((1 : Int32)).toInt) hrk_B4 xz21 (by decide)) (om12 ((g20 12).toInt) ((g 12).toInt) ((z21).toInt) ((g6 12).toInt) ((x5).toInt) (((1 : Int32)).toInt) ((z19).toInt) hf_B4_0 xz21 (congrArg Int32.toInt e_g20_12) xz19) (om13 ((z21).toInt) ((x5).toInt) (((1 : Int32)).toInt) (((20 : Int32)).toInt) xz21 (hE_nle cc9) (by decide) (by decide)) (om14 ((z21).toInt) ((x5).toInt) (((1 : Int32)).toInt) xz21 hf_B4_2 (by decide)) (om15 ((g20 12).toInt) ((z19).toInt) ((g6 12).toInt) (((1 : Int32)).toInt) ((g 12).toInt) ((x5).toInt) ((z2).toInt) (((20 : Int32)).toInt) (((1500 : Int32)).toInt) (congrArg Int32.toInt e_g20_12) xz19 hf_B4_0 hf_B4_3 xz2 (hE_nle cc9) (hE_le cc3) (by decide) (by decide)) (hk_frG hfr_g6 (by decide) h_g20) (hk_frA hfr_a7 (by decide) h_a17) hr18 hw (lv_sub hl [2, 3, 4, 5, 6, 7, 0] rfl)
          refine lv_icmp_ge (tgt := 41) hx hb dX12_feed_34 (by decide) (fun cc22 => ?_) (fun cc22 => ?_)
          · refine lv_iload hx hb dX12_feed_41 (lv_at hl 6 rfl) ?_
            refine lv_bipush (v := 8) hx hb dX12_feed_43 (by decide) ?_
            refine lv_icmp_ge (tgt := 52) hx hb dX12_feed_45 (by decide) (fun cc23 => ?_) (fun cc23 => ?_)
            · refine lv_iload hx hb dX12_feed_52 (lv_at hl 6 rfl) ?_
              refine lv_bipush (v := 12) hx hb dX12_feed_54 (by decide) ?_
              refine lv_icmp_ge (tgt := 63) hx hb dX12_feed_56 (by decide) (fun cc24 => ?_) (fun cc24 => ?_)
              · refine lv_iload hx hb dX12_feed_63 (lv_at hl 6 rfl) ?_
                refine lv_bipush (v := 16) hx hb dX12_feed_65 (by decide) ?_
                refine lv_icmp_ge (tgt := 75) hx hb dX12_feed_67 (by decide) (fun cc25 => ?_) (fun cc25 => ?_)
                · refine lv_iload hx hb dX12_feed_75 (lv_at hl 5 rfl) ?_
                  exact B10 y5 ls _ _ hw (lv_sub hl [0, 1, 2, 3, 4, 5, 6] rfl)
                · refine lv_iload hx hb dX12_feed_70 (lv_at hl 4 rfl) ?_
                  refine lv_goto (tgt := 77) hx hb dX12_feed_72 (by decide) ?_
                  exact B10 y4 ls _ _ hw (lv_sub hl [0, 1, 2, 3, 4, 5, 6] rfl)
              · refine lv_iload_n hx hb dX12_feed_59 rfl (lv_at hl 3 rfl) ?_
                refine lv_goto (tgt := 77) hx hb dX12_feed_60 (by decide) ?_
                exact B10 y3 ls _ _ hw (lv_sub hl [0, 1, 2, 3, 4, 5, 6] rfl)
            · refine lv_iload_n hx hb dX12_feed_48 rfl (lv_at hl 2 rfl) ?_
              refine lv_goto (tgt := 77) hx hb dX12_feed_49 (by decide) ?_
              exact B10 y2 ls _ _ hw (lv_sub hl [0, 1, 2, 3, 4, 5, 6] rfl)
          · refine lv_iload_n hx hb dX12_feed_37 rfl (lv_at hl 1 rfl) ?_
            refine lv_goto (tgt := 77) hx hb dX12_feed_38 (by decide) ?_
            exact B10 y1 ls _ _ hw (lv_sub hl [0, 1, 2, 3, 4, 5, 6] rfl)
    exact B4 (2147483648 - ((0 : Int32)).toInt).toNat 0 g1 ar ls _ _ (Int.self_le_toNat _) (om16 ((g1 12).toInt) ((g 12).toInt) (((0 : Int32)).toInt) (congrArg Int32.toInt e_g1_12) (by decide)) (om17 (((0 : Int32)).toInt) (by decide)) (om18 (((0 : Int32)).toInt) (by decide)) (om19 ((g1 12).toInt) ((g 12).toInt) ((z2).toInt) (((20 : Int32)).toInt) (((1500 : Int32)).toInt) (congrArg Int32.toInt e_g1_12) hi_g12 xz2 (hE_le cc3) (by decide) (by decide)) hk_fr0 hk_fr0 hi_a0rg hw (lv_sub hl [1, 2, 3, 4, 5, 6, 0] rfl)
  · refine lv_bipush (v := (-3)) hx hb dX12_feed_18 (by decide) ?_
    exact kr (-3) g1 lg ar bk _ _ _ _ ⟨(hk_frG hk_fr0 (by decide) h_g1), rfl, hk_fr0, rfl, (om20 ((g1 12).toInt) ((g 12).toInt) ((z2).toInt) (((20 : Int32)).toInt) (((1500 : Int32)).toInt) (congrArg Int32.toInt e_g1_12) hi_g12 xz2 (hE_nle cc3) (by decide) (by decide)), hi_a0rg⟩ hw dX12_feed_20

set_option maxHeartbeats 4000000 in
set_option maxRecDepth 100000 in
/-- X12_end on (0,) -/
theorem jm_X12_end (l : Launch) (hlt : l.stackTraces = false) (D : va_G) (t3 : Nat × Nat × Nat) (cI cJ : ClassId) (ad : Nat → Nat) (g : Nat → Int32) (lg : Nat → Int64) (ar : Nat → Nat → Int32) (bk : Nat → Int64) (sz : Nat) (y1 : Int32) (hi_g12 : 0 ≤ (g 12).toInt ∧ (g 12).toInt ≤ 1500) : JMi l yX12_end (Cond.code yX12_end cX12_end 2 (some .int) :: wwM) { frames := 0, cells := 0, slots := 0, locals := 0 } t3 D mw cI cJ ad [.ref (ad 0), .int y1] (mw cI cJ ad g lg ar bk) sz 0 0 (fun (r : Int32) g' lg' ar' bk' => hk_fr [1, 12] g g' ∧ lg = lg' ∧ ar = ar' ∧ bk = bk' ∧ (0 ≤ (g' 12).toInt ∧ (g' 12).toInt ≤ 1500)) (fun g' lg' ar' bk' => False) := by
  refine jx_meti (cc := cX12_end) (maxL := 2) (ret := (some .int)) rfl (by decide) rfl (Nat.le_of_ble_eq_true rfl) ?_
  intro p e s m args below meth c ls Q A hx hb hml hown hts hA hZ hw hl hQ kr kt
  have hq : ∀ w ∈ wwM, w.before args s = true := fun w h => hts w (List.mem_cons_of_mem _ h)
  have hl : lv_has ls 2 [(0, .ref (ad 0)), (1, .int y1)] := hl
  refine lv_aload_n hx hb dX12_end_0 rfl (lv_at hl 0 rfl) ?_
  refine lv_iconst (v := 0) hx hb dX12_end_1 (by decide) ?_
  refine jx_putg mw (cI := cI) (cJ := cJ) (ad := ad) (g := g) (lg := lg) (ar := ar) (bk := bk) (x := 0) 1 (ci := 15) (C := RX12) (T := TX12) (N := 92) (ty := .int) hx hb hts (fun _ h => List.mem_cons_of_mem _ (wwMc_wsX120 _ h)) tyX12 tyX12_ok nmX12 hown hw 0 rfl rfl 1 (by decide) (hq _ wM_103) rfl (by decide +kernel) rfl rfl (Nat.le_of_ble_eq_true rfl) dX12_end_2 rfl (fun H locs g1 h_g1 hw => ?_)
  refine lv_iload_n hx hb dX12_end_5 rfl (lv_at hl 1 rfl) ?_
  refine lv_if_lt (tgt := 24) hx hb dX12_end_6 (by decide) (fun cc2 => ?_) (fun cc2 => ?_)
  · refine lv_iconst (v := (-1)) hx hb dX12_end_24 (by decide) ?_
    have e_g1_12 : g1 12 = (g 12) := (hk_upgN h_g1 12 rfl)
    exact kr (-1) g1 lg ar bk _ _ _ _ ⟨(hk_frG hk_fr0 (by decide) h_g1), rfl, rfl, rfl, (om21 ((g1 12).toInt) ((g 12).toInt) (congrArg Int32.toInt e_g1_12) hi_g12)⟩ hw dX12_end_25
  · refine lv_iload_n hx hb dX12_end_9 rfl (lv_at hl 1 rfl) ?_
    refine lv_bipush (v := 20) hx hb dX12_end_10 (by decide) ?_
    refine lv_icmp_gt (tgt := 24) hx hb dX12_end_12 (by decide) (fun cc3 => ?_) (fun cc3 => ?_)
    · refine lv_iconst (v := (-1)) hx hb dX12_end_24 (by decide) ?_
      have e_g1_12 : g1 12 = (g 12) := (hk_upgN h_g1 12 rfl)
      exact kr (-1) g1 lg ar bk _ _ _ _ ⟨(hk_frG hk_fr0 (by decide) h_g1), rfl, rfl, rfl, (om21 ((g1 12).toInt) ((g 12).toInt) (congrArg Int32.toInt e_g1_12) hi_g12)⟩ hw dX12_end_25
    · refine lv_aload_n hx hb dX12_end_15 rfl (lv_at hl 0 rfl) ?_
      have e_g1_12 : g1 12 = (g 12) := (hk_upgN h_g1 12 rfl)
      refine hk_get (ci := 15) (C := RX12) (T := TX12) (N := 92) (v := .int (g 12)) hx hb hts (fun _ h => List.mem_cons_of_mem _ (wwMc_wsX120 _ h)) hown hw 0 rfl rfl 13 (by decide) (hq _ wM_194) (congrArg (fun z => some (Value.int z)) e_g1_12) dX12_end_16 ?_
      refine lv_bipush (v := 20) hx hb dX12_end_19 (by decide) ?_
      refine lv_icmp_ge (tgt := 26) hx hb dX12_end_21 (by decide) (fun cc4 => ?_) (fun cc4 => ?_)
      · refine lv_aload_n hx hb dX12_end_26 rfl (lv_at hl 0 rfl) ?_
        refine lv_aload_n hx hb dX12_end_27 rfl (lv_at hl 0 rfl) ?_
        refine hk_get (ci := 15) (C := RX12) (T := TX12) (N := 92) (v := .int (g 12)) hx hb hts (fun _ h => List.mem_cons_of_mem _ (wwMc_wsX120 _ h)) hown hw 0 rfl rfl 13 (by decide) (hq _ wM_194) (congrArg (fun z => some (Value.int z)) e_g1_12) dX12_end_28 ?_
        refine lv_bipush (v := 20) hx hb dX12_end_31 (by decide) ?_
        refine lv_isub hx hb dX12_end_33 (jx_nm fun z5 hz5 => ?_)
        have xz5 : (z5).toInt = (g 12).toInt - ((20 : Int32)).toInt := (hE_imp (hE_sub hz5) (om22 ((g 12).toInt) (((20 : Int32)).toInt) hi_g12 (hE_le cc4) (by decide)))
        refine lv_iload_n hx hb dX12_end_34 rfl (lv_at hl 1 rfl) ?_
        refine lv_iadd hx hb dX12_end_35 (jx_nm fun z6 hz6 => ?_)
        have xz6 : (z6).toInt = (z5).toInt + (y1).toInt := (hE_imp (hE_add hz6) (om23 ((z5).toInt) ((y1).toInt) (((0 : Int32)).toInt) (((20 : Int32)).toInt) ((g 12).toInt) (hE_nlt cc2) (hE_nlt cc3) xz5 hi_g12 (hE_le cc4) (by decide)))
        refine jx_putg mw (cI := cI) (cJ := cJ) (ad := ad) (g := g1) (lg := lg) (ar := ar) (bk := bk) (x := z6) 12 (ci := 15) (C := RX12) (T := TX12) (N := 92) (ty := .int) hx hb hts (fun _ h => List.mem_cons_of_mem _ (wwMc_wsX120 _ h)) tyX12 tyX12_ok nmX12 hown hw 0 rfl rfl 13 (by decide) (hq _ wM_194) rfl (by decide +kernel) rfl rfl (Nat.le_of_ble_eq_true rfl) dX12_end_36 rfl (fun H locs g7 h_g7 hw => ?_)
        refine lv_aload_n hx hb dX12_end_39 rfl (lv_at hl 0 rfl) ?_
        have e_g7_12 : g7 12 = z6 := (hk_upgS h_g7)
        refine hk_get (ci := 15) (C := RX12) (T := TX12) (N := 92) (v := .int z6) hx hb hts (fun _ h => List.mem_cons_of_mem _ (wwMc_wsX120 _ h)) hown hw 0 rfl rfl 13 (by decide) (hq _ wM_194) (congrArg (fun z => some (Value.int z)) e_g7_12) dX12_end_40 ?_
        exact kr z6 g7 lg ar bk _ _ _ _ ⟨(hk_frG (hk_frG hk_fr0 (by decide) h_g1) (by decide) h_g7), rfl, rfl, rfl, (om24 ((g7 12).toInt) ((z6).toInt) ((z5).toInt) ((y1).toInt) (((0 : Int32)).toInt) (((20 : Int32)).toInt) ((g 12).toInt) (congrArg Int32.toInt e_g7_12) xz6 (hE_nlt cc2) (hE_nlt cc3) xz5 hi_g12 (hE_le cc4) (by decide))⟩ hw dX12_end_43
      · refine lv_iconst (v := (-1)) hx hb dX12_end_24 (by decide) ?_
        exact kr (-1) g1 lg ar bk _ _ _ _ ⟨(hk_frG hk_fr0 (by decide) h_g1), rfl, rfl, rfl, (om25 ((g1 12).toInt) ((g 12).toInt) (((20 : Int32)).toInt) (congrArg Int32.toInt e_g1_12) hi_g12 (hE_nle cc4) (by decide))⟩ hw dX12_end_25

set_option maxHeartbeats 4000000 in
set_option maxRecDepth 100000 in
/-- X12_octet on (0,) -/
theorem jm_X12_octet (l : Launch) (hlt : l.stackTraces = false) (D : va_G) (t3 : Nat × Nat × Nat) (cI cJ : ClassId) (ad : Nat → Nat) (g : Nat → Int32) (lg : Nat → Int64) (ar : Nat → Nat → Int32) (bk : Nat → Int64) (sz : Nat) (y1 : Int32) (hi_g12 : 0 ≤ (g 12).toInt ∧ (g 12).toInt ≤ 1500) (hi_a0rg : hk_rg 0 255 (ar 0)) : JMi l yX12_octet (Cond.code yX12_octet cX12_octet 2 (some .int) :: wwM) { frames := 0, cells := 0, slots := 0, locals := 0 } t3 D mw cI cJ ad [.ref (ad 0), .int y1] (mw cI cJ ad g lg ar bk) sz 0 0 (fun (r : Int32) g' lg' ar' bk' => hk_fr [1, 12] g g' ∧ lg = lg' ∧ hk_fr [0] ar ar' ∧ bk = bk' ∧ (0 ≤ (g' 12).toInt ∧ (g' 12).toInt ≤ 1500) ∧ hk_rg 0 255 (ar' 0)) (fun g' lg' ar' bk' => False) := by
  refine jx_meti (cc := cX12_octet) (maxL := 2) (ret := (some .int)) rfl (by decide) rfl (Nat.le_of_ble_eq_true rfl) ?_
  intro p e s m args below meth c ls Q A hx hb hml hown hts hA hZ hw hl hQ kr kt
  have hq : ∀ w ∈ wwM, w.before args s = true := fun w h => hts w (List.mem_cons_of_mem _ h)
  have hl : lv_has ls 2 [(0, .ref (ad 0)), (1, .int y1)] := hl
  refine lv_aload_n hx hb dX12_octet_0 rfl (lv_at hl 0 rfl) ?_
  refine lv_iconst (v := 0) hx hb dX12_octet_1 (by decide) ?_
  refine jx_putg mw (cI := cI) (cJ := cJ) (ad := ad) (g := g) (lg := lg) (ar := ar) (bk := bk) (x := 0) 1 (ci := 15) (C := RX12) (T := TX12) (N := 92) (ty := .int) hx hb hts (fun _ h => List.mem_cons_of_mem _ (wwMc_wsX120 _ h)) tyX12 tyX12_ok nmX12 hown hw 0 rfl rfl 1 (by decide) (hq _ wM_103) rfl (by decide +kernel) rfl rfl (Nat.le_of_ble_eq_true rfl) dX12_octet_2 rfl (fun H locs g1 h_g1 hw => ?_)
  refine lv_aload_n hx hb dX12_octet_5 rfl (lv_at hl 0 rfl) ?_
  have e_g1_12 : g1 12 = (g 12) := (hk_upgN h_g1 12 rfl)
  refine hk_get (ci := 15) (C := RX12) (T := TX12) (N := 92) (v := .int (g 12)) hx hb hts (fun _ h => List.mem_cons_of_mem _ (wwMc_wsX120 _ h)) hown hw 0 rfl rfl 13 (by decide) (hq _ wM_194) (congrArg (fun z => some (Value.int z)) e_g1_12) dX12_octet_6 ?_
  refine lv_sipush (v := 1500) hx hb dX12_octet_9 (by decide) ?_
  refine lv_icmp_ne (tgt := 18) hx hb dX12_octet_12 (by decide) (fun cc2 => ?_) (fun cc2 => ?_)
  · refine lv_aload_n hx hb dX12_octet_18 rfl (lv_at hl 0 rfl) ?_
    refine hk_get (ci := 15) (C := RX12) (T := TX12) (N := 92) (v := .ref (ad 1)) hx hb hts (fun _ h => List.mem_cons_of_mem _ (wwMc_wsX120 _ h)) hown hw 0 rfl rfl 12 (by decide) (hq _ wM_203) rfl dX12_octet_19 ?_
    refine lv_aload_n hx hb dX12_octet_22 rfl (lv_at hl 0 rfl) ?_
    refine hk_get (ci := 15) (C := RX12) (T := TX12) (N := 92) (v := .int (g 12)) hx hb hts (fun _ h => List.mem_cons_of_mem _ (wwMc_wsX120 _ h)) hown hw 0 rfl rfl 13 (by decide) (hq _ wM_194) (congrArg (fun z => some (Value.int z)) e_g1_12) dX12_octet_23 ?_
    refine lv_iload_n hx hb dX12_octet_26 rfl (lv_at hl 1 rfl) ?_
    refine lv_sipush (v := 255) hx hb dX12_octet_27 (by decide) ?_
    refine lv_iand hx hb dX12_octet_30 (jx_nm fun z3 hz3 => ?_)
    refine jx_iast mw (cI := cI) (cJ := cJ) (ad := ad) (g := g1) (lg := lg) (ar := ar) (bk := bk) 0 hx hb hw 1 0 rfl rfl (hE_in (n := 1500) (om26 ((g 12).toInt) (((1500 : Int32)).toInt) hi_g12 (hE_ne cc2) (by decide))) dX12_octet_31 rfl (fun H locs a4 h_a4 hw => ?_)
    have hr5 : hk_rg 0 255 (a4 0) := (hk_rgS h_a4 hi_a0rg (om8 ((z3).toInt) ((y1).toInt) (hE_and 8 256 hz3 (by decide) (by decide) (by decide))))
    refine lv_aload_n hx hb dX12_octet_32 rfl (lv_at hl 0 rfl) ?_
    refine lv_dup hx hb dX12_octet_33 rfl ?_
    refine hk_get (ci := 15) (C := RX12) (T := TX12) (N := 92) (v := .int (g 12)) hx hb hts (fun _ h => List.mem_cons_of_mem _ (wwMc_wsX120 _ h)) hown hw 0 rfl rfl 13 (by decide) (hq _ wM_194) (congrArg (fun z => some (Value.int z)) e_g1_12) dX12_octet_34 ?_
    refine lv_iconst (v := 1) hx hb dX12_octet_37 (by decide) ?_
    refine lv_iadd hx hb dX12_octet_38 (jx_nm fun z6 hz6 => ?_)
    have xz6 : (z6).toInt = (g 12).toInt + ((1 : Int32)).toInt := (hE_imp (hE_add hz6) (om27 ((g 12).toInt) (((1 : Int32)).toInt) hi_g12 (by decide)))
    refine jx_putg mw (cI := cI) (cJ := cJ) (ad := ad) (g := g1) (lg := lg) (ar := a4) (bk := bk) (x := z6) 12 (ci := 15) (C := RX12) (T := TX12) (N := 92) (ty := .int) hx hb hts (fun _ h => List.mem_cons_of_mem _ (wwMc_wsX120 _ h)) tyX12 tyX12_ok nmX12 hown hw 0 rfl rfl 13 (by decide) (hq _ wM_194) rfl (by decide +kernel) rfl rfl (Nat.le_of_ble_eq_true rfl) dX12_octet_39 rfl (fun H locs g7 h_g7 hw => ?_)
    refine lv_aload_n hx hb dX12_octet_42 rfl (lv_at hl 0 rfl) ?_
    have e_g7_12 : g7 12 = z6 := (hk_upgS h_g7)
    refine hk_get (ci := 15) (C := RX12) (T := TX12) (N := 92) (v := .int z6) hx hb hts (fun _ h => List.mem_cons_of_mem _ (wwMc_wsX120 _ h)) hown hw 0 rfl rfl 13 (by decide) (hq _ wM_194) (congrArg (fun z => some (Value.int z)) e_g7_12) dX12_octet_43 ?_
    exact kr z6 g7 lg a4 bk _ _ _ _ ⟨(hk_frG (hk_frG hk_fr0 (by decide) h_g1) (by decide) h_g7), rfl, (hk_frA hk_fr0 (by decide) h_a4), rfl, (om28 ((g7 12).toInt) ((z6).toInt) ((g 12).toInt) (((1 : Int32)).toInt) (((1500 : Int32)).toInt) (congrArg Int32.toInt e_g7_12) xz6 hi_g12 (hE_ne cc2) (by decide) (by decide)), hr5⟩ hw dX12_octet_46
  · refine lv_bipush (v := (-3)) hx hb dX12_octet_15 (by decide) ?_
    exact kr (-3) g1 lg ar bk _ _ _ _ ⟨(hk_frG hk_fr0 (by decide) h_g1), rfl, hk_fr0, rfl, (om29 ((g1 12).toInt) ((g 12).toInt) (((1500 : Int32)).toInt) (congrArg Int32.toInt e_g1_12) hi_g12 (hE_eq cc2) (by decide)), hi_a0rg⟩ hw dX12_octet_17

set_option maxHeartbeats 4000000 in
set_option maxRecDepth 100000 in
/-- X12_pass on (0,) -/
theorem jm_X12_pass (l : Launch) (hlt : l.stackTraces = false) (D : va_G) (t3 : Nat × Nat × Nat) (cI cJ : ClassId) (ad : Nat → Nat) (g : Nat → Int32) (lg : Nat → Int64) (ar : Nat → Nat → Int32) (bk : Nat → Int64) (sz : Nat) (hi_g12 : 0 ≤ (g 12).toInt ∧ (g 12).toInt ≤ 1500) (hi_g13 : 0 ≤ (g 13).toInt ∧ (g 13).toInt ≤ 3000) (hi_a1rg : hk_rg 0 255 (ar 1)) (hi_a0rg : hk_rg 0 255 (ar 0)) : JMi l yX12_pass (Cond.code yX12_pass cX12_pass 2 (some .int) :: wwM) { frames := 0, cells := 0, slots := 0, locals := 0 } t3 D mw cI cJ ad [.ref (ad 0)] (mw cI cJ ad g lg ar bk) sz 0 0 (fun (r : Int32) g' lg' ar' bk' => hk_fr [1, 12] g g' ∧ lg = lg' ∧ hk_fr [0] ar ar' ∧ bk = bk' ∧ (0 ≤ (g' 12).toInt ∧ (g' 12).toInt ≤ 1500) ∧ hk_rg 0 255 (ar' 0)) (fun g' lg' ar' bk' => False) := by
  refine jx_meti (cc := cX12_pass) (maxL := 2) (ret := (some .int)) rfl (by decide) rfl (Nat.le_of_ble_eq_true rfl) ?_
  intro p e s m args below meth c ls Q A hx hb hml hown hts hA hZ hw hl hQ kr kt
  have hq : ∀ w ∈ wwM, w.before args s = true := fun w h => hts w (List.mem_cons_of_mem _ h)
  have hl : lv_has ls 2 [(0, .ref (ad 0))] := hl
  refine lv_aload_n hx hb dX12_pass_0 rfl (lv_at hl 0 rfl) ?_
  refine lv_iconst (v := 0) hx hb dX12_pass_1 (by decide) ?_
  refine jx_putg mw (cI := cI) (cJ := cJ) (ad := ad) (g := g) (lg := lg) (ar := ar) (bk := bk) (x := 0) 1 (ci := 15) (C := RX12) (T := TX12) (N := 92) (ty := .int) hx hb hts (fun _ h => List.mem_cons_of_mem _ (wwMc_wsX120 _ h)) tyX12 tyX12_ok nmX12 hown hw 0 rfl rfl 1 (by decide) (hq _ wM_103) rfl (by decide +kernel) rfl rfl (Nat.le_of_ble_eq_true rfl) dX12_pass_2 rfl (fun H locs g1 h_g1 hw => ?_)
  refine lv_aload_n hx hb dX12_pass_5 rfl (lv_at hl 0 rfl) ?_
  have e_g1_13 : g1 13 = (g 13) := (hk_upgN h_g1 13 rfl)
  refine hk_get (ci := 15) (C := RX12) (T := TX12) (N := 92) (v := .int (g 13)) hx hb hts (fun _ h => List.mem_cons_of_mem _ (wwMc_wsX120 _ h)) hown hw 0 rfl rfl 15 (by decide) (hq _ wM_119) (congrArg (fun z => some (Value.int z)) e_g1_13) dX12_pass_6 ?_
  refine lv_sipush (v := 1500) hx hb dX12_pass_9 (by decide) ?_
  refine lv_icmp_le (tgt := 18) hx hb dX12_pass_12 (by decide) (fun cc2 => ?_) (fun cc2 => ?_)
  · refine lv_iconst (v := 0) hx hb dX12_pass_18 (by decide) ?_
    refine lv_istore_n (lv' := [(1, .int 0), (0, .ref (ad 0))]) hx hb dX12_pass_19 rfl hl (by decide) rfl (fun ls hl => ?_)
    have B3 : ∀ (k6 : Nat) (x4 : Int32) (a5 : Nat → Nat → Int32) (ls : Array Slot) (H : Heap) (locs : List Loc), (2147483648 - (x4).toInt ≤ (k6 : Int)) → (0 ≤ (x4).toInt) → (hk_fr [0] ar a5) → (hk_rg 0 255 (a5 0)) → hk_W D (jT cI cJ) A s H locs (mw cI cJ ad g1 lg a5 bk) → lv_has ls 2 [(0, .ref (ad 0)), (1, .int x4)] → W p l e { frames := 0, cells := 0, slots := 0, locals := 0 } s m args below meth c H locs 0 0 Q (F0 m 20 ls []) := by
      intro k6
      induction k6 with
      | zero =>
        intro x4 a5 ls H locs hrk_B3 hf_B3_0 hfr_a5 ha5_r0rg hw hl
        exact False.elim (hk_no0 (0 * (x4).toInt) (om30 ((x4).toInt) hrk_B3 (hE_rng (x4))) (by simp))
      | succ k6 ih_B3 =>
        intro x4 a5 ls H locs hrk_B3 hf_B3_0 hfr_a5 ha5_r0rg hw hl
        have hrk_B3 := hk_rk hrk_B3
        refine lv_iload_n hx hb dX12_pass_20 rfl (lv_at hl 1 rfl) ?_
        refine lv_aload_n hx hb dX12_pass_21 rfl (lv_at hl 0 rfl) ?_
        refine hk_get (ci := 15) (C := RX12) (T := TX12) (N := 92) (v := .int (g 13)) hx hb hts (fun _ h => List.mem_cons_of_mem _ (wwMc_wsX120 _ h)) hown hw 0 rfl rfl 15 (by decide) (hq _ wM_119) (congrArg (fun z => some (Value.int z)) e_g1_13) dX12_pass_22 ?_
        refine lv_icmp_ge (tgt := 46) hx hb dX12_pass_25 (by decide) (fun cc7 => ?_) (fun cc7 => ?_)
        · refine lv_aload_n hx hb dX12_pass_46 rfl (lv_at hl 0 rfl) ?_
          refine lv_aload_n hx hb dX12_pass_47 rfl (lv_at hl 0 rfl) ?_
          refine hk_get (ci := 15) (C := RX12) (T := TX12) (N := 92) (v := .int (g 13)) hx hb hts (fun _ h => List.mem_cons_of_mem _ (wwMc_wsX120 _ h)) hown hw 0 rfl rfl 15 (by decide) (hq _ wM_119) (congrArg (fun z => some (Value.int z)) e_g1_13) dX12_pass_48 ?_
          refine jx_putg mw (cI := cI) (cJ := cJ) (ad := ad) (g := g1) (lg := lg) (ar := a5) (bk := bk) (x := (g 13)) 12 (ci := 15) (C := RX12) (T := TX12) (N := 92) (ty := .int) hx hb hts (fun _ h => List.mem_cons_of_mem _ (wwMc_wsX120 _ h)) tyX12 tyX12_ok nmX12 hown hw 0 rfl rfl 13 (by decide) (hq _ wM_194) rfl (by decide +kernel) rfl rfl (Nat.le_of_ble_eq_true rfl) dX12_pass_51 rfl (fun H locs g8 h_g8 hw => ?_)
          refine lv_aload_n hx hb dX12_pass_54 rfl (lv_at hl 0 rfl) ?_
          have e_g8_12 : g8 12 = (g 13) := (hk_upgS h_g8)
          refine hk_get (ci := 15) (C := RX12) (T := TX12) (N := 92) (v := .int (g 13)) hx hb hts (fun _ h => List.mem_cons_of_mem _ (wwMc_wsX120 _ h)) hown hw 0 rfl rfl 13 (by decide) (hq _ wM_194) (congrArg (fun z => some (Value.int z)) e_g8_12) dX12_pass_55 ?_
          exact kr (g 13) g8 lg a5 bk _ _ _ _ ⟨(hk_frG (hk_frG hk_fr0 (by decide) h_g1) (by decide) h_g8), rfl, hfr_a5, rfl, (om31 ((g8 12).toInt) ((g 13).toInt) (((1500 : Int32)).toInt) (congrArg Int32.toInt e_g8_12) hi_g13 (hE_le cc2) (by decide)), ha5_r0rg⟩ hw dX12_pass_58
        · refine lv_aload_n hx hb dX12_pass_28 rfl (lv_at hl 0 rfl) ?_
          refine hk_get (ci := 15) (C := RX12) (T := TX12) (N := 92) (v := .ref (ad 1)) hx hb hts (fun _ h => List.mem_cons_of_mem _ (wwMc_wsX120 _ h)) hown hw 0 rfl rfl 12 (by decide) (hq _ wM_203) rfl dX12_pass_29 ?_
          refine lv_iload_n hx hb dX12_pass_32 rfl (lv_at hl 1 rfl) ?_
          refine lv_aload_n hx hb dX12_pass_33 rfl (lv_at hl 0 rfl) ?_
          refine hk_get (ci := 15) (C := RX12) (T := TX12) (N := 92) (v := .ref (ad 2)) hx hb hts (fun _ h => List.mem_cons_of_mem _ (wwMc_wsX120 _ h)) hown hw 0 rfl rfl 14 (by decide) (hq _ wM_120) rfl dX12_pass_34 ?_
          refine lv_iload_n hx hb dX12_pass_37 rfl (lv_at hl 1 rfl) ?_
          refine jx_iald hx hb hw 2 0 rfl rfl (hE_in (n := 3000) (om32 ((x4).toInt) ((g 13).toInt) (((1500 : Int32)).toInt) hf_B3_0 (hE_nle cc7) (hE_le cc2) (by decide))) dX12_pass_38 (fun z9 hz9 => ?_)
          refine jx_iast mw (cI := cI) (cJ := cJ) (ad := ad) (g := g1) (lg := lg) (ar := a5) (bk := bk) 0 hx hb hw 1 0 rfl rfl (hE_in (n := 1500) (om33 ((x4).toInt) ((g 13).toInt) (((1500 : Int32)).toInt) hf_B3_0 (hE_nle cc7) (hE_le cc2) (by decide))) dX12_pass_39 rfl (fun H locs a10 h_a10 hw => ?_)
          have hr11 : hk_rg 0 255 (a10 1) := (hk_pE (P := hk_rg 0 255) (hk_pE (P := hk_rg 0 255) hi_a1rg (hfr_a5 1 rfl)) (hk_upaN h_a10 1 rfl))
          have hr12 : hk_rg 0 255 (a10 0) := (hk_rgS h_a10 ha5_r0rg (om34 ((z9).toInt) (hk_rgV (hk_pE (P := hk_rg 0 255) hi_a1rg (hfr_a5 1 rfl)) hz9)))
          obtain ⟨z13, hz13⟩ : ∃ z : Int32, x4 + 1 = z := ⟨_, rfl⟩
          refine lv_iinc (v := z13) (lv' := [(1, .int z13), (0, .ref (ad 0))]) hx hb dX12_pass_40 hl (k := 1) rfl hz13 (by decide) rfl (fun ls hl => ?_)
          have xz13 : (z13).toInt = (x4).toInt + ((1 : Int32)).toInt := (hE_imp (hE_add hz13) (om35 ((x4).toInt) (((1 : Int32)).toInt) ((g 13).toInt) (((1500 : Int32)).toInt) hf_B3_0 (hE_nle cc7) (hE_le cc2) (by decide) (by decide)))
          refine lv_goto (tgt := 20) hx hb dX12_pass_43 (by decide) ?_
          exact ih_B3 z13 a10 ls _ _ (om11 ((z13).toInt) (k6 : Int) ((x4).toInt) (((1 : Int32)).toInt) hrk_B3 xz13 (by decide)) (om14 ((z13).toInt) ((x4).toInt) (((1 : Int32)).toInt) xz13 hf_B3_0 (by decide)) (hk_frA hfr_a5 (by decide) h_a10) hr12 hw (lv_sub hl [1, 0] rfl)
    exact B3 (2147483648 - ((0 : Int32)).toInt).toNat 0 ar ls _ _ (Int.self_le_toNat _) (om18 (((0 : Int32)).toInt) (by decide)) hk_fr0 hi_a0rg hw (lv_sub hl [1, 0] rfl)
  · refine lv_bipush (v := (-3)) hx hb dX12_pass_15 (by decide) ?_
    have e_g1_12 : g1 12 = (g 12) := (hk_upgN h_g1 12 rfl)
    exact kr (-3) g1 lg ar bk _ _ _ _ ⟨(hk_frG hk_fr0 (by decide) h_g1), rfl, hk_fr0, rfl, (om21 ((g1 12).toInt) ((g 12).toInt) (congrArg Int32.toInt e_g1_12) hi_g12), hi_a0rg⟩ hw dX12_pass_17

set_option maxHeartbeats 4000000 in
set_option maxRecDepth 100000 in
/-- X12_out on (0,) -/
theorem jm_X12_out (l : Launch) (hlt : l.stackTraces = false) (D : va_G) (t3 : Nat × Nat × Nat) (cI cJ : ClassId) (ad : Nat → Nat) (g : Nat → Int32) (lg : Nat → Int64) (ar : Nat → Nat → Int32) (bk : Nat → Int64) (sz : Nat) (y1 : Int32) (hi_g13 : 0 ≤ (g 13).toInt ∧ (g 13).toInt ≤ 3000) : JMi l yX12_out (Cond.code yX12_out cX12_out 2 (some .int) :: wwM) { frames := 0, cells := 0, slots := 0, locals := 0 } t3 D mw cI cJ ad [.ref (ad 0), .int y1] (mw cI cJ ad g lg ar bk) sz 0 0 (fun (r : Int32) g' lg' ar' bk' => hk_fr [1] g g' ∧ lg = lg' ∧ ar = ar' ∧ bk = bk') (fun g' lg' ar' bk' => False) := by
  refine jx_meti (cc := cX12_out) (maxL := 2) (ret := (some .int)) rfl (by decide) rfl (Nat.le_of_ble_eq_true rfl) ?_
  intro p e s m args below meth c ls Q A hx hb hml hown hts hA hZ hw hl hQ kr kt
  have hq : ∀ w ∈ wwM, w.before args s = true := fun w h => hts w (List.mem_cons_of_mem _ h)
  have hl : lv_has ls 2 [(0, .ref (ad 0)), (1, .int y1)] := hl
  refine lv_aload_n hx hb dX12_out_0 rfl (lv_at hl 0 rfl) ?_
  refine lv_iload_n hx hb dX12_out_1 rfl (lv_at hl 1 rfl) ?_
  have B1 : ∀  (ls : Array Slot) (H : Heap) (locs : List Loc), hk_W D (jT cI cJ) A s H locs (mw cI cJ ad g lg ar bk) → lv_has ls 2 [(0, .ref (ad 0)), (1, .int y1)] → W p l e { frames := 0, cells := 0, slots := 0, locals := 0 } s m args below meth c H locs 0 0 Q (F0 m 13 ls [.ref (ad 0)]) := by
    intro ls H locs hw hl
    refine lv_iconst (v := 1) hx hb dX12_out_13 (by decide) ?_
    refine lv_goto (tgt := 18) hx hb dX12_out_14 (by decide) ?_
    refine jx_putg mw (cI := cI) (cJ := cJ) (ad := ad) (g := g) (lg := lg) (ar := ar) (bk := bk) (x := 1) 1 (ci := 15) (C := RX12) (T := TX12) (N := 92) (ty := .int) hx hb hts (fun _ h => List.mem_cons_of_mem _ (wwMc_wsX120 _ h)) tyX12 tyX12_ok nmX12 hown hw 0 rfl rfl 1 (by decide) (hq _ wM_103) rfl (by decide +kernel) rfl rfl (Nat.le_of_ble_eq_true rfl) dX12_out_18 rfl (fun H locs g2 h_g2 hw => ?_)
    refine lv_aload_n hx hb dX12_out_21 rfl (lv_at hl 0 rfl) ?_
    have e_g2_1 : g2 1 = (1 : Int32) := (hk_upgS h_g2)
    refine hk_get (ci := 15) (C := RX12) (T := TX12) (N := 92) (v := .int 1) hx hb hts (fun _ h => List.mem_cons_of_mem _ (wwMc_wsX120 _ h)) hown hw 0 rfl rfl 1 (by decide) (hq _ wM_103) (congrArg (fun z => some (Value.int z)) e_g2_1) dX12_out_22 ?_
    refine lv_if_le (tgt := 32) hx hb dX12_out_25 (by decide) (fun cc3 => absurd cc3 (by decide)) (fun _ => ?_)
    refine lv_iconst (v := 0) hx hb dX12_out_28 (by decide) ?_
    refine lv_goto (tgt := 38) hx hb dX12_out_29 (by decide) ?_
    exact kr 0 g2 lg ar bk _ _ _ _ ⟨(hk_frG hk_fr0 (by decide) h_g2), rfl, rfl, rfl⟩ hw dX12_out_38
  refine lv_if_lt (tgt := 13) hx hb dX12_out_2 (by decide) (fun cc4 => ?_) (fun cc4 => ?_)
  · exact B1 ls _ _ hw (lv_sub hl [0, 1] rfl)
  · refine lv_iload_n hx hb dX12_out_5 rfl (lv_at hl 1 rfl) ?_
    refine lv_aload_n hx hb dX12_out_6 rfl (lv_at hl 0 rfl) ?_
    refine hk_get (ci := 15) (C := RX12) (T := TX12) (N := 92) (v := .int (g 13)) hx hb hts (fun _ h => List.mem_cons_of_mem _ (wwMc_wsX120 _ h)) hown hw 0 rfl rfl 15 (by decide) (hq _ wM_119) rfl dX12_out_7 ?_
    refine lv_icmp_lt (tgt := 17) hx hb dX12_out_10 (by decide) (fun cc5 => ?_) (fun cc5 => ?_)
    · refine lv_iconst (v := 0) hx hb dX12_out_17 (by decide) ?_
      refine jx_putg mw (cI := cI) (cJ := cJ) (ad := ad) (g := g) (lg := lg) (ar := ar) (bk := bk) (x := 0) 1 (ci := 15) (C := RX12) (T := TX12) (N := 92) (ty := .int) hx hb hts (fun _ h => List.mem_cons_of_mem _ (wwMc_wsX120 _ h)) tyX12 tyX12_ok nmX12 hown hw 0 rfl rfl 1 (by decide) (hq _ wM_103) rfl (by decide +kernel) rfl rfl (Nat.le_of_ble_eq_true rfl) dX12_out_18 rfl (fun H locs g6 h_g6 hw => ?_)
      refine lv_aload_n hx hb dX12_out_21 rfl (lv_at hl 0 rfl) ?_
      have e_g6_1 : g6 1 = (0 : Int32) := (hk_upgS h_g6)
      refine hk_get (ci := 15) (C := RX12) (T := TX12) (N := 92) (v := .int 0) hx hb hts (fun _ h => List.mem_cons_of_mem _ (wwMc_wsX120 _ h)) hown hw 0 rfl rfl 1 (by decide) (hq _ wM_103) (congrArg (fun z => some (Value.int z)) e_g6_1) dX12_out_22 ?_
      refine lv_if_le (tgt := 32) hx hb dX12_out_25 (by decide) (fun _ => ?_) (fun cc7 => absurd (by decide) cc7)
      refine lv_aload_n hx hb dX12_out_32 rfl (lv_at hl 0 rfl) ?_
      refine hk_get (ci := 15) (C := RX12) (T := TX12) (N := 92) (v := .ref (ad 2)) hx hb hts (fun _ h => List.mem_cons_of_mem _ (wwMc_wsX120 _ h)) hown hw 0 rfl rfl 14 (by decide) (hq _ wM_120) rfl dX12_out_33 ?_
      refine lv_iload_n hx hb dX12_out_36 rfl (lv_at hl 1 rfl) ?_
      refine jx_iald hx hb hw 2 0 rfl rfl (hE_in (n := 3000) (om36 ((y1).toInt) (((0 : Int32)).toInt) ((g 13).toInt) (hE_nlt cc4) (hE_lt cc5) hi_g13 (by decide))) dX12_out_37 (fun z8 hz8 => ?_)
      exact kr z8 g6 lg ar bk _ _ _ _ ⟨(hk_frG hk_fr0 (by decide) h_g6), rfl, rfl, rfl⟩ hw dX12_out_38
    · exact B1 ls _ _ hw (lv_sub hl [0, 1] rfl)

set_option maxHeartbeats 4000000 in
set_option maxRecDepth 100000 in
/-- X12_count on (0,) -/
theorem jm_X12_count (l : Launch) (hlt : l.stackTraces = false) (D : va_G) (t3 : Nat × Nat × Nat) (cI cJ : ClassId) (ad : Nat → Nat) (g : Nat → Int32) (lg : Nat → Int64) (ar : Nat → Nat → Int32) (bk : Nat → Int64) (sz : Nat) (y1 : Int32) : JMi l yX12_count (Cond.code yX12_count cX12_count 2 (some .int) :: wwM) { frames := 0, cells := 0, slots := 0, locals := 0 } t3 D mw cI cJ ad [.ref (ad 0), .int y1] (mw cI cJ ad g lg ar bk) sz 0 0 (fun (r : Int32) g' lg' ar' bk' => hk_fr [1] g g' ∧ lg = lg' ∧ ar = ar' ∧ bk = bk') (fun g' lg' ar' bk' => False) := by
  refine jx_meti (cc := cX12_count) (maxL := 2) (ret := (some .int)) rfl (by decide) rfl (Nat.le_of_ble_eq_true rfl) ?_
  intro p e s m args below meth c ls Q A hx hb hml hown hts hA hZ hw hl hQ kr kt
  have hq : ∀ w ∈ wwM, w.before args s = true := fun w h => hts w (List.mem_cons_of_mem _ h)
  have hl : lv_has ls 2 [(0, .ref (ad 0)), (1, .int y1)] := hl
  refine lv_aload_n hx hb dX12_count_0 rfl (lv_at hl 0 rfl) ?_
  refine lv_iconst (v := 0) hx hb dX12_count_1 (by decide) ?_
  refine jx_putg mw (cI := cI) (cJ := cJ) (ad := ad) (g := g) (lg := lg) (ar := ar) (bk := bk) (x := 0) 1 (ci := 15) (C := RX12) (T := TX12) (N := 92) (ty := .int) hx hb hts (fun _ h => List.mem_cons_of_mem _ (wwMc_wsX120 _ h)) tyX12 tyX12_ok nmX12 hown hw 0 rfl rfl 1 (by decide) (hq _ wM_103) rfl (by decide +kernel) rfl rfl (Nat.le_of_ble_eq_true rfl) dX12_count_2 rfl (fun H locs g1 h_g1 hw => ?_)
  refine lv_iload_n hx hb dX12_count_5 rfl (lv_at hl 1 rfl) ?_
  refine lv_if_ne (tgt := 16) hx hb dX12_count_6 (by decide) (fun cc2 => ?_) (fun cc2 => ?_)
  · refine lv_iload_n hx hb dX12_count_16 rfl (lv_at hl 1 rfl) ?_
    refine lv_iconst (v := 1) hx hb dX12_count_17 (by decide) ?_
    refine lv_icmp_ne (tgt := 28) hx hb dX12_count_18 (by decide) (fun cc3 => ?_) (fun cc3 => ?_)
    · refine lv_iconst (v := (-1)) hx hb dX12_count_28 (by decide) ?_
      exact kr (-1) g1 lg ar bk _ _ _ _ ⟨(hk_frG hk_fr0 (by decide) h_g1), rfl, rfl, rfl⟩ hw dX12_count_29
    · refine lv_aload_n hx hb dX12_count_21 rfl (lv_at hl 0 rfl) ?_
      have e_g1_13 : g1 13 = (g 13) := (hk_upgN h_g1 13 rfl)
      refine hk_get (ci := 15) (C := RX12) (T := TX12) (N := 92) (v := .int (g 13)) hx hb hts (fun _ h => List.mem_cons_of_mem _ (wwMc_wsX120 _ h)) hown hw 0 rfl rfl 15 (by decide) (hq _ wM_119) (congrArg (fun z => some (Value.int z)) e_g1_13) dX12_count_22 ?_
      refine lv_goto (tgt := 29) hx hb dX12_count_25 (by decide) ?_
      exact kr (g 13) g1 lg ar bk _ _ _ _ ⟨(hk_frG hk_fr0 (by decide) h_g1), rfl, rfl, rfl⟩ hw dX12_count_29
  · refine lv_aload_n hx hb dX12_count_9 rfl (lv_at hl 0 rfl) ?_
    have e_g1_12 : g1 12 = (g 12) := (hk_upgN h_g1 12 rfl)
    refine hk_get (ci := 15) (C := RX12) (T := TX12) (N := 92) (v := .int (g 12)) hx hb hts (fun _ h => List.mem_cons_of_mem _ (wwMc_wsX120 _ h)) hown hw 0 rfl rfl 13 (by decide) (hq _ wM_194) (congrArg (fun z => some (Value.int z)) e_g1_12) dX12_count_10 ?_
    refine lv_goto (tgt := 29) hx hb dX12_count_13 (by decide) ?_
    exact kr (g 12) g1 lg ar bk _ _ _ _ ⟨(hk_frG hk_fr0 (by decide) h_g1), rfl, rfl, rfl⟩ hw dX12_count_29

set_option maxHeartbeats 4000000 in
set_option maxRecDepth 100000 in
/-- X12_filter on (0,) -/
theorem jm_X12_filter (l : Launch) (hlt : l.stackTraces = false) (D : va_G) (t3 : Nat × Nat × Nat) (cI cJ : ClassId) (ad : Nat → Nat) (g : Nat → Int32) (lg : Nat → Int64) (ar : Nat → Nat → Int32) (bk : Nat → Int64) (sz : Nat) (y1 : Int32) (y2 : Int32) (hi_g10 : 0 ≤ (g 10).toInt ∧ (g 10).toInt ≤ 256) : JMi l yX12_filter (Cond.code yX12_filter cX12_filter 3 (some .int) :: wwM) { frames := 0, cells := 0, slots := 0, locals := 0 } t3 D mw cI cJ ad [.ref (ad 0), .int y1, .int y2] (mw cI cJ ad g lg ar bk) sz 0 0 (fun (r : Int32) g' lg' ar' bk' => hk_fr [1, 10, 11] g g' ∧ lg = lg' ∧ ar = ar' ∧ bk = bk' ∧ (0 ≤ (g' 10).toInt ∧ (g' 10).toInt ≤ 256)) (fun g' lg' ar' bk' => False) := by
  refine jx_meti (cc := cX12_filter) (maxL := 3) (ret := (some .int)) rfl (by decide) rfl (Nat.le_of_ble_eq_true rfl) ?_
  intro p e s m args below meth c ls Q A hx hb hml hown hts hA hZ hw hl hQ kr kt
  have hq : ∀ w ∈ wwM, w.before args s = true := fun w h => hts w (List.mem_cons_of_mem _ h)
  have hl : lv_has ls 3 [(0, .ref (ad 0)), (1, .int y1), (2, .int y2)] := hl
  refine lv_aload_n hx hb dX12_filter_0 rfl (lv_at hl 0 rfl) ?_
  refine lv_iconst (v := 0) hx hb dX12_filter_1 (by decide) ?_
  refine jx_putg mw (cI := cI) (cJ := cJ) (ad := ad) (g := g) (lg := lg) (ar := ar) (bk := bk) (x := 0) 1 (ci := 15) (C := RX12) (T := TX12) (N := 92) (ty := .int) hx hb hts (fun _ h => List.mem_cons_of_mem _ (wwMc_wsX120 _ h)) tyX12 tyX12_ok nmX12 hown hw 0 rfl rfl 1 (by decide) (hq _ wM_103) rfl (by decide +kernel) rfl rfl (Nat.le_of_ble_eq_true rfl) dX12_filter_2 rfl (fun H locs g1 h_g1 hw => ?_)
  refine lv_iload_n hx hb dX12_filter_5 rfl (lv_at hl 1 rfl) ?_
  have B2 : ∀  (ls : Array Slot) (H : Heap) (locs : List Loc), hk_W D (jT cI cJ) A s H locs (mw cI cJ ad g1 lg ar bk) → lv_has ls 3 [(0, .ref (ad 0)), (1, .int y1), (2, .int y2)] → W p l e { frames := 0, cells := 0, slots := 0, locals := 0 } s m args below meth c H locs 0 0 Q (F0 m 27 ls []) := by
    intro ls H locs hw hl
    refine lv_iload_n hx hb dX12_filter_27 rfl (lv_at hl 1 rfl) ?_
    refine lv_iconst (v := 1) hx hb dX12_filter_28 (by decide) ?_
    refine lv_icmp_ne (tgt := 48) hx hb dX12_filter_29 (by decide) (fun cc3 => ?_) (fun cc3 => ?_)
    · refine lv_iconst (v := 0) hx hb dX12_filter_48 (by decide) ?_
      have e_g1_10 : g1 10 = (g 10) := (hk_upgN h_g1 10 rfl)
      exact kr 0 g1 lg ar bk _ _ _ _ ⟨(hk_frG hk_fr0 (by decide) h_g1), rfl, rfl, rfl, (om37 ((g1 10).toInt) ((g 10).toInt) (congrArg Int32.toInt e_g1_10) hi_g10)⟩ hw dX12_filter_49
    · refine lv_iload_n hx hb dX12_filter_32 rfl (lv_at hl 2 rfl) ?_
      refine lv_if_lt (tgt := 48) hx hb dX12_filter_33 (by decide) (fun cc4 => ?_) (fun cc4 => ?_)
      · refine lv_iconst (v := 0) hx hb dX12_filter_48 (by decide) ?_
        have e_g1_10 : g1 10 = (g 10) := (hk_upgN h_g1 10 rfl)
        exact kr 0 g1 lg ar bk _ _ _ _ ⟨(hk_frG hk_fr0 (by decide) h_g1), rfl, rfl, rfl, (om37 ((g1 10).toInt) ((g 10).toInt) (congrArg Int32.toInt e_g1_10) hi_g10)⟩ hw dX12_filter_49
      · refine lv_iload_n hx hb dX12_filter_36 rfl (lv_at hl 2 rfl) ?_
        refine lv_iconst (v := 1) hx hb dX12_filter_37 (by decide) ?_
        refine lv_icmp_gt (tgt := 48) hx hb dX12_filter_38 (by decide) (fun cc5 => ?_) (fun cc5 => ?_)
        · refine lv_iconst (v := 0) hx hb dX12_filter_48 (by decide) ?_
          have e_g1_10 : g1 10 = (g 10) := (hk_upgN h_g1 10 rfl)
          exact kr 0 g1 lg ar bk _ _ _ _ ⟨(hk_frG hk_fr0 (by decide) h_g1), rfl, rfl, rfl, (om37 ((g1 10).toInt) ((g 10).toInt) (congrArg Int32.toInt e_g1_10) hi_g10)⟩ hw dX12_filter_49
        · refine lv_aload_n hx hb dX12_filter_41 rfl (lv_at hl 0 rfl) ?_
          refine lv_iload_n hx hb dX12_filter_42 rfl (lv_at hl 2 rfl) ?_
          refine jx_putg mw (cI := cI) (cJ := cJ) (ad := ad) (g := g1) (lg := lg) (ar := ar) (bk := bk) (x := y2) 11 (ci := 15) (C := RX12) (T := TX12) (N := 92) (ty := .int) hx hb hts (fun _ h => List.mem_cons_of_mem _ (wwMc_wsX120 _ h)) tyX12 tyX12_ok nmX12 hown hw 0 rfl rfl 11 (by decide) (hq _ wM_205) rfl (by decide +kernel) rfl rfl (Nat.le_of_ble_eq_true rfl) dX12_filter_43 rfl (fun H locs g6 h_g6 hw => ?_)
          refine lv_iconst (v := 1) hx hb dX12_filter_46 (by decide) ?_
          have e_g6_10 : g6 10 = (g 10) := ((hk_upgN h_g6 10 rfl)).trans (hk_upgN h_g1 10 rfl)
          exact kr 1 g6 lg ar bk _ _ _ _ ⟨(hk_frG (hk_frG hk_fr0 (by decide) h_g1) (by decide) h_g6), rfl, rfl, rfl, (om37 ((g6 10).toInt) ((g 10).toInt) (congrArg Int32.toInt e_g6_10) hi_g10)⟩ hw dX12_filter_47
  refine lv_if_ne (tgt := 27) hx hb dX12_filter_6 (by decide) (fun cc7 => ?_) (fun cc7 => ?_)
  · exact B2 ls _ _ hw (lv_sub hl [0, 1, 2] rfl)
  · refine lv_iload_n hx hb dX12_filter_9 rfl (lv_at hl 2 rfl) ?_
    refine lv_if_lt (tgt := 27) hx hb dX12_filter_10 (by decide) (fun cc8 => ?_) (fun cc8 => ?_)
    · exact B2 ls _ _ hw (lv_sub hl [0, 1, 2] rfl)
    · refine lv_iload_n hx hb dX12_filter_13 rfl (lv_at hl 2 rfl) ?_
      refine lv_sipush (v := 256) hx hb dX12_filter_14 (by decide) ?_
      refine lv_icmp_gt (tgt := 27) hx hb dX12_filter_17 (by decide) (fun cc9 => ?_) (fun cc9 => ?_)
      · exact B2 ls _ _ hw (lv_sub hl [0, 1, 2] rfl)
      · refine lv_aload_n hx hb dX12_filter_20 rfl (lv_at hl 0 rfl) ?_
        refine lv_iload_n hx hb dX12_filter_21 rfl (lv_at hl 2 rfl) ?_
        refine jx_putg mw (cI := cI) (cJ := cJ) (ad := ad) (g := g1) (lg := lg) (ar := ar) (bk := bk) (x := y2) 10 (ci := 15) (C := RX12) (T := TX12) (N := 92) (ty := .int) hx hb hts (fun _ h => List.mem_cons_of_mem _ (wwMc_wsX120 _ h)) tyX12 tyX12_ok nmX12 hown hw 0 rfl rfl 10 (by decide) (hq _ wM_204) rfl (by decide +kernel) rfl rfl (Nat.le_of_ble_eq_true rfl) dX12_filter_22 rfl (fun H locs g10 h_g10 hw => ?_)
        refine lv_iconst (v := 1) hx hb dX12_filter_25 (by decide) ?_
        have e_g10_10 : g10 10 = y2 := (hk_upgS h_g10)
        exact kr 1 g10 lg ar bk _ _ _ _ ⟨(hk_frG (hk_frG hk_fr0 (by decide) h_g1) (by decide) h_g10), rfl, rfl, rfl, (om38 ((g10 10).toInt) ((y2).toInt) (((0 : Int32)).toInt) (((256 : Int32)).toInt) (congrArg Int32.toInt e_g10_10) (hE_nlt cc8) (hE_nlt cc9) (by decide) (by decide))⟩ hw dX12_filter_26

set_option maxHeartbeats 4000000 in
set_option maxRecDepth 100000 in
/-- X12_property on (0,) -/
theorem jm_X12_property (l : Launch) (hlt : l.stackTraces = false) (D : va_G) (t3 : Nat × Nat × Nat) (cI cJ : ClassId) (ad : Nat → Nat) (g : Nat → Int32) (lg : Nat → Int64) (ar : Nat → Nat → Int32) (bk : Nat → Int64) (sz : Nat) (y1 : Int32) (y2 : Int32) (hi_g2 : 0 ≤ (g 2).toInt ∧ (g 2).toInt ≤ 4) (hi_g3 : 0 ≤ (g 3).toInt ∧ (g 3).toInt ≤ 4) (hi_tlclp : (g 2).toInt + (g 3).toInt ≤ 4) (hi_g4 : 0 ≤ (g 4).toInt ∧ (g 4).toInt ≤ 4) (hi_g5 : 1 ≤ (g 5).toInt ∧ (g 5).toInt ≤ 4096) (hi_g6 : 1 ≤ (g 6).toInt ∧ (g 6).toInt ≤ 1500) (hi_g7 : 1 ≤ (g 7).toInt ∧ (g 7).toInt ≤ 1500) : JMi l yX12_property (Cond.code yX12_property cX12_property 4 (some .int) :: wwM) { frames := 0, cells := 0, slots := 0, locals := 0 } t3 D mw cI cJ ad [.ref (ad 0), .int y1, .int y2] (mw cI cJ ad g lg ar bk) sz 0 0 (fun (r : Int32) g' lg' ar' bk' => hk_fr [1, 2, 3, 4, 5, 6, 7, 8, 9] g g' ∧ lg = lg' ∧ ar = ar' ∧ bk = bk' ∧ (0 ≤ (g' 2).toInt ∧ (g' 2).toInt ≤ 4) ∧ (0 ≤ (g' 3).toInt ∧ (g' 3).toInt ≤ 4) ∧ ((g' 2).toInt + (g' 3).toInt ≤ 4) ∧ (0 ≤ (g' 4).toInt ∧ (g' 4).toInt ≤ 4) ∧ (1 ≤ (g' 5).toInt ∧ (g' 5).toInt ≤ 4096) ∧ (1 ≤ (g' 6).toInt ∧ (g' 6).toInt ≤ 1500) ∧ (1 ≤ (g' 7).toInt ∧ (g' 7).toInt ≤ 1500)) (fun g' lg' ar' bk' => False) := by
  refine jx_meti (cc := cX12_property) (maxL := 4) (ret := (some .int)) rfl (by decide) rfl (Nat.le_of_ble_eq_true rfl) ?_
  intro p e s m args below meth c ls Q A hx hb hml hown hts hA hZ hw hl hQ kr kt
  have hq : ∀ w ∈ wwM, w.before args s = true := fun w h => hts w (List.mem_cons_of_mem _ h)
  have hl : lv_has ls 4 [(0, .ref (ad 0)), (1, .int y1), (2, .int y2)] := hl
  refine lv_aload_n hx hb dX12_property_0 rfl (lv_at hl 0 rfl) ?_
  refine lv_iconst (v := 0) hx hb dX12_property_1 (by decide) ?_
  refine jx_putg mw (cI := cI) (cJ := cJ) (ad := ad) (g := g) (lg := lg) (ar := ar) (bk := bk) (x := 0) 1 (ci := 15) (C := RX12) (T := TX12) (N := 92) (ty := .int) hx hb hts (fun _ h => List.mem_cons_of_mem _ (wwMc_wsX120 _ h)) tyX12 tyX12_ok nmX12 hown hw 0 rfl rfl 1 (by decide) (hq _ wM_103) rfl (by decide +kernel) rfl rfl (Nat.le_of_ble_eq_true rfl) dX12_property_2 rfl (fun H locs g1 h_g1 hw => ?_)
  refine lv_iload_n hx hb dX12_property_5 rfl (lv_at hl 1 rfl) ?_
  rcases hk_eqOr y1 0 with cc2 | cc2
  · refine lv_tableIn (tgt := 52) (off := 46) hx hb dX12_property_6 (by rw [cc2]; decide) (by rw [cc2]; decide) (by rw [cc2]; rfl) (by decide) ?_
    refine lv_iload_n hx hb dX12_property_52 rfl (lv_at hl 2 rfl) ?_
    refine lv_if_lt (tgt := 75) hx hb dX12_property_53 (by decide) (fun cc3 => ?_) (fun cc3 => ?_)
    · refine lv_iconst (v := 0) hx hb dX12_property_75 (by decide) ?_
      refine lv_istore_n (lv' := [(3, .int 0), (0, .ref (ad 0)), (1, .int y1), (2, .int y2)]) hx hb dX12_property_76 rfl hl (by decide) rfl (fun ls hl => ?_)
      refine lv_aload_n hx hb dX12_property_77 rfl (lv_at hl 1 rfl) ?_
      refine lv_iload_n hx hb dX12_property_78 rfl (lv_at hl 0 rfl) ?_
      refine lv_if_eq (tgt := 86) hx hb dX12_property_79 (by decide) (fun _ => ?_) (fun cc4 => absurd (by decide) cc4)
      refine lv_aload_n hx hb dX12_property_86 rfl (lv_at hl 1 rfl) ?_
      have e_g1_2 : g1 2 = (g 2) := (hk_upgN h_g1 2 rfl)
      refine hk_get (ci := 15) (C := RX12) (T := TX12) (N := 92) (v := .int (g 2)) hx hb hts (fun _ h => List.mem_cons_of_mem _ (wwMc_wsX120 _ h)) hown hw 0 rfl rfl 2 (by decide) (hq _ wM_428) (congrArg (fun z => some (Value.int z)) e_g1_2) dX12_property_87 ?_
      refine jx_putg mw (cI := cI) (cJ := cJ) (ad := ad) (g := g1) (lg := lg) (ar := ar) (bk := bk) (x := (g 2)) 2 (ci := 15) (C := RX12) (T := TX12) (N := 92) (ty := .int) hx hb hts (fun _ h => List.mem_cons_of_mem _ (wwMc_wsX120 _ h)) tyX12 tyX12_ok nmX12 hown hw 0 rfl rfl 2 (by decide) (hq _ wM_428) rfl (by decide +kernel) rfl rfl (Nat.le_of_ble_eq_true rfl) dX12_property_90 rfl (fun H locs g5 h_g5 hw => ?_)
      refine lv_goto (tgt := 381) hx hb dX12_property_93 (by decide) ?_
      refine lv_iload_n hx hb dX12_property_381 rfl (lv_at hl 0 rfl) ?_
      refine lv_if_eq (tgt := 389) hx hb dX12_property_382 (by decide) (fun _ => ?_) (fun cc6 => absurd (by decide) cc6)
      refine lv_iconst (v := 0) hx hb dX12_property_389 (by decide) ?_
      have e_g5_2 : g5 2 = (g 2) := (hk_upgS h_g5)
      have e_g5_3 : g5 3 = (g 3) := ((hk_upgN h_g5 3 rfl)).trans (hk_upgN h_g1 3 rfl)
      have e_g5_4 : g5 4 = (g 4) := ((hk_upgN h_g5 4 rfl)).trans (hk_upgN h_g1 4 rfl)
      have e_g5_5 : g5 5 = (g 5) := ((hk_upgN h_g5 5 rfl)).trans (hk_upgN h_g1 5 rfl)
      have e_g5_6 : g5 6 = (g 6) := ((hk_upgN h_g5 6 rfl)).trans (hk_upgN h_g1 6 rfl)
      have e_g5_7 : g5 7 = (g 7) := ((hk_upgN h_g5 7 rfl)).trans (hk_upgN h_g1 7 rfl)
      exact kr 0 g5 lg ar bk _ _ _ _ ⟨(hk_frG (hk_frG hk_fr0 (by decide) h_g1) (by decide) h_g5), rfl, rfl, rfl, (om39 ((g5 2).toInt) ((g 2).toInt) (congrArg Int32.toInt e_g5_2) hi_g2), (om39 ((g5 3).toInt) ((g 3).toInt) (congrArg Int32.toInt e_g5_3) hi_g3), (om40 ((g5 2).toInt) ((g5 3).toInt) ((g 2).toInt) ((g 3).toInt) (congrArg Int32.toInt e_g5_2) (congrArg Int32.toInt e_g5_3) hi_tlclp), (om39 ((g5 4).toInt) ((g 4).toInt) (congrArg Int32.toInt e_g5_4) hi_g4), (om41 ((g5 5).toInt) ((g 5).toInt) (congrArg Int32.toInt e_g5_5) hi_g5), (om42 ((g5 6).toInt) ((g 6).toInt) (congrArg Int32.toInt e_g5_6) hi_g6), (om42 ((g5 7).toInt) ((g 7).toInt) (congrArg Int32.toInt e_g5_7) hi_g7)⟩ hw dX12_property_390
    · refine lv_iload_n hx hb dX12_property_56 rfl (lv_at hl 2 rfl) ?_
      refine lv_iconst (v := 4) hx hb dX12_property_57 (by decide) ?_
      refine lv_icmp_gt (tgt := 75) hx hb dX12_property_58 (by decide) (fun cc7 => ?_) (fun cc7 => ?_)
      · refine lv_iconst (v := 0) hx hb dX12_property_75 (by decide) ?_
        refine lv_istore_n (lv' := [(3, .int 0), (0, .ref (ad 0)), (1, .int y1), (2, .int y2)]) hx hb dX12_property_76 rfl hl (by decide) rfl (fun ls hl => ?_)
        refine lv_aload_n hx hb dX12_property_77 rfl (lv_at hl 1 rfl) ?_
        refine lv_iload_n hx hb dX12_property_78 rfl (lv_at hl 0 rfl) ?_
        refine lv_if_eq (tgt := 86) hx hb dX12_property_79 (by decide) (fun _ => ?_) (fun cc8 => absurd (by decide) cc8)
        refine lv_aload_n hx hb dX12_property_86 rfl (lv_at hl 1 rfl) ?_
        have e_g1_2 : g1 2 = (g 2) := (hk_upgN h_g1 2 rfl)
        refine hk_get (ci := 15) (C := RX12) (T := TX12) (N := 92) (v := .int (g 2)) hx hb hts (fun _ h => List.mem_cons_of_mem _ (wwMc_wsX120 _ h)) hown hw 0 rfl rfl 2 (by decide) (hq _ wM_428) (congrArg (fun z => some (Value.int z)) e_g1_2) dX12_property_87 ?_
        refine jx_putg mw (cI := cI) (cJ := cJ) (ad := ad) (g := g1) (lg := lg) (ar := ar) (bk := bk) (x := (g 2)) 2 (ci := 15) (C := RX12) (T := TX12) (N := 92) (ty := .int) hx hb hts (fun _ h => List.mem_cons_of_mem _ (wwMc_wsX120 _ h)) tyX12 tyX12_ok nmX12 hown hw 0 rfl rfl 2 (by decide) (hq _ wM_428) rfl (by decide +kernel) rfl rfl (Nat.le_of_ble_eq_true rfl) dX12_property_90 rfl (fun H locs g9 h_g9 hw => ?_)
        refine lv_goto (tgt := 381) hx hb dX12_property_93 (by decide) ?_
        refine lv_iload_n hx hb dX12_property_381 rfl (lv_at hl 0 rfl) ?_
        refine lv_if_eq (tgt := 389) hx hb dX12_property_382 (by decide) (fun _ => ?_) (fun cc10 => absurd (by decide) cc10)
        refine lv_iconst (v := 0) hx hb dX12_property_389 (by decide) ?_
        have e_g9_2 : g9 2 = (g 2) := (hk_upgS h_g9)
        have e_g9_3 : g9 3 = (g 3) := ((hk_upgN h_g9 3 rfl)).trans (hk_upgN h_g1 3 rfl)
        have e_g9_4 : g9 4 = (g 4) := ((hk_upgN h_g9 4 rfl)).trans (hk_upgN h_g1 4 rfl)
        have e_g9_5 : g9 5 = (g 5) := ((hk_upgN h_g9 5 rfl)).trans (hk_upgN h_g1 5 rfl)
        have e_g9_6 : g9 6 = (g 6) := ((hk_upgN h_g9 6 rfl)).trans (hk_upgN h_g1 6 rfl)
        have e_g9_7 : g9 7 = (g 7) := ((hk_upgN h_g9 7 rfl)).trans (hk_upgN h_g1 7 rfl)
        exact kr 0 g9 lg ar bk _ _ _ _ ⟨(hk_frG (hk_frG hk_fr0 (by decide) h_g1) (by decide) h_g9), rfl, rfl, rfl, (om39 ((g9 2).toInt) ((g 2).toInt) (congrArg Int32.toInt e_g9_2) hi_g2), (om39 ((g9 3).toInt) ((g 3).toInt) (congrArg Int32.toInt e_g9_3) hi_g3), (om40 ((g9 2).toInt) ((g9 3).toInt) ((g 2).toInt) ((g 3).toInt) (congrArg Int32.toInt e_g9_2) (congrArg Int32.toInt e_g9_3) hi_tlclp), (om39 ((g9 4).toInt) ((g 4).toInt) (congrArg Int32.toInt e_g9_4) hi_g4), (om41 ((g9 5).toInt) ((g 5).toInt) (congrArg Int32.toInt e_g9_5) hi_g5), (om42 ((g9 6).toInt) ((g 6).toInt) (congrArg Int32.toInt e_g9_6) hi_g6), (om42 ((g9 7).toInt) ((g 7).toInt) (congrArg Int32.toInt e_g9_7) hi_g7)⟩ hw dX12_property_390
      · refine lv_iload_n hx hb dX12_property_61 rfl (lv_at hl 2 rfl) ?_
        refine lv_aload_n hx hb dX12_property_62 rfl (lv_at hl 0 rfl) ?_
        have e_g1_3 : g1 3 = (g 3) := (hk_upgN h_g1 3 rfl)
        refine hk_get (ci := 15) (C := RX12) (T := TX12) (N := 92) (v := .int (g 3)) hx hb hts (fun _ h => List.mem_cons_of_mem _ (wwMc_wsX120 _ h)) hown hw 0 rfl rfl 3 (by decide) (hq _ wM_427) (congrArg (fun z => some (Value.int z)) e_g1_3) dX12_property_63 ?_
        refine lv_iadd hx hb dX12_property_66 (jx_nm fun z11 hz11 => ?_)
        have xz11 : (z11).toInt = (y2).toInt + (g 3).toInt := (hE_imp (hE_add hz11) (om43 ((y2).toInt) ((g 3).toInt) (((0 : Int32)).toInt) (((4 : Int32)).toInt) hi_g3 (hE_nlt cc3) (hE_nlt cc7) (by decide) (by decide)))
        refine lv_iconst (v := 4) hx hb dX12_property_67 (by decide) ?_
        refine lv_icmp_gt (tgt := 75) hx hb dX12_property_68 (by decide) (fun cc12 => ?_) (fun cc12 => ?_)
        · refine lv_iconst (v := 0) hx hb dX12_property_75 (by decide) ?_
          refine lv_istore_n (lv' := [(3, .int 0), (0, .ref (ad 0)), (1, .int y1), (2, .int y2)]) hx hb dX12_property_76 rfl hl (by decide) rfl (fun ls hl => ?_)
          refine lv_aload_n hx hb dX12_property_77 rfl (lv_at hl 1 rfl) ?_
          refine lv_iload_n hx hb dX12_property_78 rfl (lv_at hl 0 rfl) ?_
          refine lv_if_eq (tgt := 86) hx hb dX12_property_79 (by decide) (fun _ => ?_) (fun cc13 => absurd (by decide) cc13)
          refine lv_aload_n hx hb dX12_property_86 rfl (lv_at hl 1 rfl) ?_
          have e_g1_2 : g1 2 = (g 2) := (hk_upgN h_g1 2 rfl)
          refine hk_get (ci := 15) (C := RX12) (T := TX12) (N := 92) (v := .int (g 2)) hx hb hts (fun _ h => List.mem_cons_of_mem _ (wwMc_wsX120 _ h)) hown hw 0 rfl rfl 2 (by decide) (hq _ wM_428) (congrArg (fun z => some (Value.int z)) e_g1_2) dX12_property_87 ?_
          refine jx_putg mw (cI := cI) (cJ := cJ) (ad := ad) (g := g1) (lg := lg) (ar := ar) (bk := bk) (x := (g 2)) 2 (ci := 15) (C := RX12) (T := TX12) (N := 92) (ty := .int) hx hb hts (fun _ h => List.mem_cons_of_mem _ (wwMc_wsX120 _ h)) tyX12 tyX12_ok nmX12 hown hw 0 rfl rfl 2 (by decide) (hq _ wM_428) rfl (by decide +kernel) rfl rfl (Nat.le_of_ble_eq_true rfl) dX12_property_90 rfl (fun H locs g14 h_g14 hw => ?_)
          refine lv_goto (tgt := 381) hx hb dX12_property_93 (by decide) ?_
          refine lv_iload_n hx hb dX12_property_381 rfl (lv_at hl 0 rfl) ?_
          refine lv_if_eq (tgt := 389) hx hb dX12_property_382 (by decide) (fun _ => ?_) (fun cc15 => absurd (by decide) cc15)
          refine lv_iconst (v := 0) hx hb dX12_property_389 (by decide) ?_
          have e_g14_2 : g14 2 = (g 2) := (hk_upgS h_g14)
          have e_g14_3 : g14 3 = (g 3) := ((hk_upgN h_g14 3 rfl)).trans e_g1_3
          have e_g14_4 : g14 4 = (g 4) := ((hk_upgN h_g14 4 rfl)).trans (hk_upgN h_g1 4 rfl)
          have e_g14_5 : g14 5 = (g 5) := ((hk_upgN h_g14 5 rfl)).trans (hk_upgN h_g1 5 rfl)
          have e_g14_6 : g14 6 = (g 6) := ((hk_upgN h_g14 6 rfl)).trans (hk_upgN h_g1 6 rfl)
          have e_g14_7 : g14 7 = (g 7) := ((hk_upgN h_g14 7 rfl)).trans (hk_upgN h_g1 7 rfl)
          exact kr 0 g14 lg ar bk _ _ _ _ ⟨(hk_frG (hk_frG hk_fr0 (by decide) h_g1) (by decide) h_g14), rfl, rfl, rfl, (om44 ((g14 2).toInt) ((g 2).toInt) ((g 3).toInt) ((z11).toInt) ((y2).toInt) (((4 : Int32)).toInt) (congrArg Int32.toInt e_g14_2) hi_g2 hi_tlclp xz11 (hE_nlt cc7) (hE_lt cc12)), (om45 ((g14 3).toInt) ((g 3).toInt) ((z11).toInt) ((y2).toInt) (((4 : Int32)).toInt) (congrArg Int32.toInt e_g14_3) hi_g3 xz11 (hE_nlt cc7) (hE_lt cc12)), (om40 ((g14 2).toInt) ((g14 3).toInt) ((g 2).toInt) ((g 3).toInt) (congrArg Int32.toInt e_g14_2) (congrArg Int32.toInt e_g14_3) hi_tlclp), (om39 ((g14 4).toInt) ((g 4).toInt) (congrArg Int32.toInt e_g14_4) hi_g4), (om41 ((g14 5).toInt) ((g 5).toInt) (congrArg Int32.toInt e_g14_5) hi_g5), (om42 ((g14 6).toInt) ((g 6).toInt) (congrArg Int32.toInt e_g14_6) hi_g6), (om42 ((g14 7).toInt) ((g 7).toInt) (congrArg Int32.toInt e_g14_7) hi_g7)⟩ hw dX12_property_390
        · refine lv_iconst (v := 1) hx hb dX12_property_71 (by decide) ?_
          refine lv_goto (tgt := 76) hx hb dX12_property_72 (by decide) ?_
          refine lv_istore_n (lv' := [(3, .int 1), (0, .ref (ad 0)), (1, .int y1), (2, .int y2)]) hx hb dX12_property_76 rfl hl (by decide) rfl (fun ls hl => ?_)
          refine lv_aload_n hx hb dX12_property_77 rfl (lv_at hl 1 rfl) ?_
          refine lv_iload_n hx hb dX12_property_78 rfl (lv_at hl 0 rfl) ?_
          refine lv_if_eq (tgt := 86) hx hb dX12_property_79 (by decide) (fun cc16 => absurd cc16 (by decide)) (fun _ => ?_)
          refine lv_iload_n hx hb dX12_property_82 rfl (lv_at hl 3 rfl) ?_
          refine lv_goto (tgt := 90) hx hb dX12_property_83 (by decide) ?_
          refine jx_putg mw (cI := cI) (cJ := cJ) (ad := ad) (g := g1) (lg := lg) (ar := ar) (bk := bk) (x := y2) 2 (ci := 15) (C := RX12) (T := TX12) (N := 92) (ty := .int) hx hb hts (fun _ h => List.mem_cons_of_mem _ (wwMc_wsX120 _ h)) tyX12 tyX12_ok nmX12 hown hw 0 rfl rfl 2 (by decide) (hq _ wM_428) rfl (by decide +kernel) rfl rfl (Nat.le_of_ble_eq_true rfl) dX12_property_90 rfl (fun H locs g17 h_g17 hw => ?_)
          refine lv_goto (tgt := 381) hx hb dX12_property_93 (by decide) ?_
          refine lv_iload_n hx hb dX12_property_381 rfl (lv_at hl 0 rfl) ?_
          refine lv_if_eq (tgt := 389) hx hb dX12_property_382 (by decide) (fun cc18 => absurd cc18 (by decide)) (fun _ => ?_)
          refine lv_iconst (v := 1) hx hb dX12_property_385 (by decide) ?_
          refine lv_goto (tgt := 390) hx hb dX12_property_386 (by decide) ?_
          have e_g17_2 : g17 2 = y2 := (hk_upgS h_g17)
          have e_g17_3 : g17 3 = (g 3) := ((hk_upgN h_g17 3 rfl)).trans e_g1_3
          have e_g17_4 : g17 4 = (g 4) := ((hk_upgN h_g17 4 rfl)).trans (hk_upgN h_g1 4 rfl)
          have e_g17_5 : g17 5 = (g 5) := ((hk_upgN h_g17 5 rfl)).trans (hk_upgN h_g1 5 rfl)
          have e_g17_6 : g17 6 = (g 6) := ((hk_upgN h_g17 6 rfl)).trans (hk_upgN h_g1 6 rfl)
          have e_g17_7 : g17 7 = (g 7) := ((hk_upgN h_g17 7 rfl)).trans (hk_upgN h_g1 7 rfl)
          exact kr 1 g17 lg ar bk _ _ _ _ ⟨(hk_frG (hk_frG hk_fr0 (by decide) h_g1) (by decide) h_g17), rfl, rfl, rfl, (om46 ((g17 2).toInt) ((y2).toInt) (((0 : Int32)).toInt) (((4 : Int32)).toInt) (congrArg Int32.toInt e_g17_2) (hE_nlt cc3) (hE_nlt cc7) (by decide) (by decide)), (om39 ((g17 3).toInt) ((g 3).toInt) (congrArg Int32.toInt e_g17_3) hi_g3), (om47 ((g17 2).toInt) ((g17 3).toInt) ((y2).toInt) ((g 3).toInt) ((z11).toInt) (((4 : Int32)).toInt) (congrArg Int32.toInt e_g17_2) (congrArg Int32.toInt e_g17_3) xz11 (hE_nlt cc12) (by decide)), (om39 ((g17 4).toInt) ((g 4).toInt) (congrArg Int32.toInt e_g17_4) hi_g4), (om41 ((g17 5).toInt) ((g 5).toInt) (congrArg Int32.toInt e_g17_5) hi_g5), (om42 ((g17 6).toInt) ((g 6).toInt) (congrArg Int32.toInt e_g17_6) hi_g6), (om42 ((g17 7).toInt) ((g 7).toInt) (congrArg Int32.toInt e_g17_7) hi_g7)⟩ hw dX12_property_390
  rcases hk_eqOr y1 1 with cc19 | cc19
  · refine lv_tableIn (tgt := 96) (off := 90) hx hb dX12_property_6 (by rw [cc19]; decide) (by rw [cc19]; decide) (by rw [cc19]; rfl) (by decide) ?_
    refine lv_iload_n hx hb dX12_property_96 rfl (lv_at hl 2 rfl) ?_
    refine lv_if_lt (tgt := 119) hx hb dX12_property_97 (by decide) (fun cc20 => ?_) (fun cc20 => ?_)
    · refine lv_iconst (v := 0) hx hb dX12_property_119 (by decide) ?_
      refine lv_istore_n (lv' := [(3, .int 0), (0, .ref (ad 0)), (1, .int y1), (2, .int y2)]) hx hb dX12_property_120 rfl hl (by decide) rfl (fun ls hl => ?_)
      refine lv_aload_n hx hb dX12_property_121 rfl (lv_at hl 1 rfl) ?_
      refine lv_iload_n hx hb dX12_property_122 rfl (lv_at hl 0 rfl) ?_
      refine lv_if_eq (tgt := 130) hx hb dX12_property_123 (by decide) (fun _ => ?_) (fun cc21 => absurd (by decide) cc21)
      refine lv_aload_n hx hb dX12_property_130 rfl (lv_at hl 1 rfl) ?_
      have e_g1_3 : g1 3 = (g 3) := (hk_upgN h_g1 3 rfl)
      refine hk_get (ci := 15) (C := RX12) (T := TX12) (N := 92) (v := .int (g 3)) hx hb hts (fun _ h => List.mem_cons_of_mem _ (wwMc_wsX120 _ h)) hown hw 0 rfl rfl 3 (by decide) (hq _ wM_427) (congrArg (fun z => some (Value.int z)) e_g1_3) dX12_property_131 ?_
      refine jx_putg mw (cI := cI) (cJ := cJ) (ad := ad) (g := g1) (lg := lg) (ar := ar) (bk := bk) (x := (g 3)) 3 (ci := 15) (C := RX12) (T := TX12) (N := 92) (ty := .int) hx hb hts (fun _ h => List.mem_cons_of_mem _ (wwMc_wsX120 _ h)) tyX12 tyX12_ok nmX12 hown hw 0 rfl rfl 3 (by decide) (hq _ wM_427) rfl (by decide +kernel) rfl rfl (Nat.le_of_ble_eq_true rfl) dX12_property_134 rfl (fun H locs g22 h_g22 hw => ?_)
      refine lv_goto (tgt := 381) hx hb dX12_property_137 (by decide) ?_
      refine lv_iload_n hx hb dX12_property_381 rfl (lv_at hl 0 rfl) ?_
      refine lv_if_eq (tgt := 389) hx hb dX12_property_382 (by decide) (fun _ => ?_) (fun cc23 => absurd (by decide) cc23)
      refine lv_iconst (v := 0) hx hb dX12_property_389 (by decide) ?_
      have e_g22_2 : g22 2 = (g 2) := ((hk_upgN h_g22 2 rfl)).trans (hk_upgN h_g1 2 rfl)
      have e_g22_3 : g22 3 = (g 3) := (hk_upgS h_g22)
      have e_g22_4 : g22 4 = (g 4) := ((hk_upgN h_g22 4 rfl)).trans (hk_upgN h_g1 4 rfl)
      have e_g22_5 : g22 5 = (g 5) := ((hk_upgN h_g22 5 rfl)).trans (hk_upgN h_g1 5 rfl)
      have e_g22_6 : g22 6 = (g 6) := ((hk_upgN h_g22 6 rfl)).trans (hk_upgN h_g1 6 rfl)
      have e_g22_7 : g22 7 = (g 7) := ((hk_upgN h_g22 7 rfl)).trans (hk_upgN h_g1 7 rfl)
      exact kr 0 g22 lg ar bk _ _ _ _ ⟨(hk_frG (hk_frG hk_fr0 (by decide) h_g1) (by decide) h_g22), rfl, rfl, rfl, (om39 ((g22 2).toInt) ((g 2).toInt) (congrArg Int32.toInt e_g22_2) hi_g2), (om39 ((g22 3).toInt) ((g 3).toInt) (congrArg Int32.toInt e_g22_3) hi_g3), (om40 ((g22 2).toInt) ((g22 3).toInt) ((g 2).toInt) ((g 3).toInt) (congrArg Int32.toInt e_g22_2) (congrArg Int32.toInt e_g22_3) hi_tlclp), (om39 ((g22 4).toInt) ((g 4).toInt) (congrArg Int32.toInt e_g22_4) hi_g4), (om41 ((g22 5).toInt) ((g 5).toInt) (congrArg Int32.toInt e_g22_5) hi_g5), (om42 ((g22 6).toInt) ((g 6).toInt) (congrArg Int32.toInt e_g22_6) hi_g6), (om42 ((g22 7).toInt) ((g 7).toInt) (congrArg Int32.toInt e_g22_7) hi_g7)⟩ hw dX12_property_390
    · refine lv_iload_n hx hb dX12_property_100 rfl (lv_at hl 2 rfl) ?_
      refine lv_iconst (v := 4) hx hb dX12_property_101 (by decide) ?_
      refine lv_icmp_gt (tgt := 119) hx hb dX12_property_102 (by decide) (fun cc24 => ?_) (fun cc24 => ?_)
      · refine lv_iconst (v := 0) hx hb dX12_property_119 (by decide) ?_
        refine lv_istore_n (lv' := [(3, .int 0), (0, .ref (ad 0)), (1, .int y1), (2, .int y2)]) hx hb dX12_property_120 rfl hl (by decide) rfl (fun ls hl => ?_)
        refine lv_aload_n hx hb dX12_property_121 rfl (lv_at hl 1 rfl) ?_
        refine lv_iload_n hx hb dX12_property_122 rfl (lv_at hl 0 rfl) ?_
        refine lv_if_eq (tgt := 130) hx hb dX12_property_123 (by decide) (fun _ => ?_) (fun cc25 => absurd (by decide) cc25)
        refine lv_aload_n hx hb dX12_property_130 rfl (lv_at hl 1 rfl) ?_
        have e_g1_3 : g1 3 = (g 3) := (hk_upgN h_g1 3 rfl)
        refine hk_get (ci := 15) (C := RX12) (T := TX12) (N := 92) (v := .int (g 3)) hx hb hts (fun _ h => List.mem_cons_of_mem _ (wwMc_wsX120 _ h)) hown hw 0 rfl rfl 3 (by decide) (hq _ wM_427) (congrArg (fun z => some (Value.int z)) e_g1_3) dX12_property_131 ?_
        refine jx_putg mw (cI := cI) (cJ := cJ) (ad := ad) (g := g1) (lg := lg) (ar := ar) (bk := bk) (x := (g 3)) 3 (ci := 15) (C := RX12) (T := TX12) (N := 92) (ty := .int) hx hb hts (fun _ h => List.mem_cons_of_mem _ (wwMc_wsX120 _ h)) tyX12 tyX12_ok nmX12 hown hw 0 rfl rfl 3 (by decide) (hq _ wM_427) rfl (by decide +kernel) rfl rfl (Nat.le_of_ble_eq_true rfl) dX12_property_134 rfl (fun H locs g26 h_g26 hw => ?_)
        refine lv_goto (tgt := 381) hx hb dX12_property_137 (by decide) ?_
        refine lv_iload_n hx hb dX12_property_381 rfl (lv_at hl 0 rfl) ?_
        refine lv_if_eq (tgt := 389) hx hb dX12_property_382 (by decide) (fun _ => ?_) (fun cc27 => absurd (by decide) cc27)
        refine lv_iconst (v := 0) hx hb dX12_property_389 (by decide) ?_
        have e_g26_2 : g26 2 = (g 2) := ((hk_upgN h_g26 2 rfl)).trans (hk_upgN h_g1 2 rfl)
        have e_g26_3 : g26 3 = (g 3) := (hk_upgS h_g26)
        have e_g26_4 : g26 4 = (g 4) := ((hk_upgN h_g26 4 rfl)).trans (hk_upgN h_g1 4 rfl)
        have e_g26_5 : g26 5 = (g 5) := ((hk_upgN h_g26 5 rfl)).trans (hk_upgN h_g1 5 rfl)
        have e_g26_6 : g26 6 = (g 6) := ((hk_upgN h_g26 6 rfl)).trans (hk_upgN h_g1 6 rfl)
        have e_g26_7 : g26 7 = (g 7) := ((hk_upgN h_g26 7 rfl)).trans (hk_upgN h_g1 7 rfl)
        exact kr 0 g26 lg ar bk _ _ _ _ ⟨(hk_frG (hk_frG hk_fr0 (by decide) h_g1) (by decide) h_g26), rfl, rfl, rfl, (om39 ((g26 2).toInt) ((g 2).toInt) (congrArg Int32.toInt e_g26_2) hi_g2), (om39 ((g26 3).toInt) ((g 3).toInt) (congrArg Int32.toInt e_g26_3) hi_g3), (om40 ((g26 2).toInt) ((g26 3).toInt) ((g 2).toInt) ((g 3).toInt) (congrArg Int32.toInt e_g26_2) (congrArg Int32.toInt e_g26_3) hi_tlclp), (om39 ((g26 4).toInt) ((g 4).toInt) (congrArg Int32.toInt e_g26_4) hi_g4), (om41 ((g26 5).toInt) ((g 5).toInt) (congrArg Int32.toInt e_g26_5) hi_g5), (om42 ((g26 6).toInt) ((g 6).toInt) (congrArg Int32.toInt e_g26_6) hi_g6), (om42 ((g26 7).toInt) ((g 7).toInt) (congrArg Int32.toInt e_g26_7) hi_g7)⟩ hw dX12_property_390
      · refine lv_iload_n hx hb dX12_property_105 rfl (lv_at hl 2 rfl) ?_
        refine lv_aload_n hx hb dX12_property_106 rfl (lv_at hl 0 rfl) ?_
        have e_g1_2 : g1 2 = (g 2) := (hk_upgN h_g1 2 rfl)
        refine hk_get (ci := 15) (C := RX12) (T := TX12) (N := 92) (v := .int (g 2)) hx hb hts (fun _ h => List.mem_cons_of_mem _ (wwMc_wsX120 _ h)) hown hw 0 rfl rfl 2 (by decide) (hq _ wM_428) (congrArg (fun z => some (Value.int z)) e_g1_2) dX12_property_107 ?_
        refine lv_iadd hx hb dX12_property_110 (jx_nm fun z28 hz28 => ?_)
        have xz28 : (z28).toInt = (y2).toInt + (g 2).toInt := (hE_imp (hE_add hz28) (om43 ((y2).toInt) ((g 2).toInt) (((0 : Int32)).toInt) (((4 : Int32)).toInt) hi_g2 (hE_nlt cc20) (hE_nlt cc24) (by decide) (by decide)))
        refine lv_iconst (v := 4) hx hb dX12_property_111 (by decide) ?_
        refine lv_icmp_gt (tgt := 119) hx hb dX12_property_112 (by decide) (fun cc29 => ?_) (fun cc29 => ?_)
        · refine lv_iconst (v := 0) hx hb dX12_property_119 (by decide) ?_
          refine lv_istore_n (lv' := [(3, .int 0), (0, .ref (ad 0)), (1, .int y1), (2, .int y2)]) hx hb dX12_property_120 rfl hl (by decide) rfl (fun ls hl => ?_)
          refine lv_aload_n hx hb dX12_property_121 rfl (lv_at hl 1 rfl) ?_
          refine lv_iload_n hx hb dX12_property_122 rfl (lv_at hl 0 rfl) ?_
          refine lv_if_eq (tgt := 130) hx hb dX12_property_123 (by decide) (fun _ => ?_) (fun cc30 => absurd (by decide) cc30)
          refine lv_aload_n hx hb dX12_property_130 rfl (lv_at hl 1 rfl) ?_
          have e_g1_3 : g1 3 = (g 3) := (hk_upgN h_g1 3 rfl)
          refine hk_get (ci := 15) (C := RX12) (T := TX12) (N := 92) (v := .int (g 3)) hx hb hts (fun _ h => List.mem_cons_of_mem _ (wwMc_wsX120 _ h)) hown hw 0 rfl rfl 3 (by decide) (hq _ wM_427) (congrArg (fun z => some (Value.int z)) e_g1_3) dX12_property_131 ?_
          refine jx_putg mw (cI := cI) (cJ := cJ) (ad := ad) (g := g1) (lg := lg) (ar := ar) (bk := bk) (x := (g 3)) 3 (ci := 15) (C := RX12) (T := TX12) (N := 92) (ty := .int) hx hb hts (fun _ h => List.mem_cons_of_mem _ (wwMc_wsX120 _ h)) tyX12 tyX12_ok nmX12 hown hw 0 rfl rfl 3 (by decide) (hq _ wM_427) rfl (by decide +kernel) rfl rfl (Nat.le_of_ble_eq_true rfl) dX12_property_134 rfl (fun H locs g31 h_g31 hw => ?_)
          refine lv_goto (tgt := 381) hx hb dX12_property_137 (by decide) ?_
          refine lv_iload_n hx hb dX12_property_381 rfl (lv_at hl 0 rfl) ?_
          refine lv_if_eq (tgt := 389) hx hb dX12_property_382 (by decide) (fun _ => ?_) (fun cc32 => absurd (by decide) cc32)
          refine lv_iconst (v := 0) hx hb dX12_property_389 (by decide) ?_
          have e_g31_2 : g31 2 = (g 2) := ((hk_upgN h_g31 2 rfl)).trans e_g1_2
          have e_g31_3 : g31 3 = (g 3) := (hk_upgS h_g31)
          have e_g31_4 : g31 4 = (g 4) := ((hk_upgN h_g31 4 rfl)).trans (hk_upgN h_g1 4 rfl)
          have e_g31_5 : g31 5 = (g 5) := ((hk_upgN h_g31 5 rfl)).trans (hk_upgN h_g1 5 rfl)
          have e_g31_6 : g31 6 = (g 6) := ((hk_upgN h_g31 6 rfl)).trans (hk_upgN h_g1 6 rfl)
          have e_g31_7 : g31 7 = (g 7) := ((hk_upgN h_g31 7 rfl)).trans (hk_upgN h_g1 7 rfl)
          exact kr 0 g31 lg ar bk _ _ _ _ ⟨(hk_frG (hk_frG hk_fr0 (by decide) h_g1) (by decide) h_g31), rfl, rfl, rfl, (om45 ((g31 2).toInt) ((g 2).toInt) ((z28).toInt) ((y2).toInt) (((4 : Int32)).toInt) (congrArg Int32.toInt e_g31_2) hi_g2 xz28 (hE_nlt cc24) (hE_lt cc29)), (om48 ((g31 3).toInt) ((g 3).toInt) ((g 2).toInt) ((z28).toInt) ((y2).toInt) (((4 : Int32)).toInt) (congrArg Int32.toInt e_g31_3) hi_g3 hi_tlclp xz28 (hE_nlt cc24) (hE_lt cc29)), (om40 ((g31 2).toInt) ((g31 3).toInt) ((g 2).toInt) ((g 3).toInt) (congrArg Int32.toInt e_g31_2) (congrArg Int32.toInt e_g31_3) hi_tlclp), (om39 ((g31 4).toInt) ((g 4).toInt) (congrArg Int32.toInt e_g31_4) hi_g4), (om41 ((g31 5).toInt) ((g 5).toInt) (congrArg Int32.toInt e_g31_5) hi_g5), (om42 ((g31 6).toInt) ((g 6).toInt) (congrArg Int32.toInt e_g31_6) hi_g6), (om42 ((g31 7).toInt) ((g 7).toInt) (congrArg Int32.toInt e_g31_7) hi_g7)⟩ hw dX12_property_390
        · refine lv_iconst (v := 1) hx hb dX12_property_115 (by decide) ?_
          refine lv_goto (tgt := 120) hx hb dX12_property_116 (by decide) ?_
          refine lv_istore_n (lv' := [(3, .int 1), (0, .ref (ad 0)), (1, .int y1), (2, .int y2)]) hx hb dX12_property_120 rfl hl (by decide) rfl (fun ls hl => ?_)
          refine lv_aload_n hx hb dX12_property_121 rfl (lv_at hl 1 rfl) ?_
          refine lv_iload_n hx hb dX12_property_122 rfl (lv_at hl 0 rfl) ?_
          refine lv_if_eq (tgt := 130) hx hb dX12_property_123 (by decide) (fun cc33 => absurd cc33 (by decide)) (fun _ => ?_)
          refine lv_iload_n hx hb dX12_property_126 rfl (lv_at hl 3 rfl) ?_
          refine lv_goto (tgt := 134) hx hb dX12_property_127 (by decide) ?_
          refine jx_putg mw (cI := cI) (cJ := cJ) (ad := ad) (g := g1) (lg := lg) (ar := ar) (bk := bk) (x := y2) 3 (ci := 15) (C := RX12) (T := TX12) (N := 92) (ty := .int) hx hb hts (fun _ h => List.mem_cons_of_mem _ (wwMc_wsX120 _ h)) tyX12 tyX12_ok nmX12 hown hw 0 rfl rfl 3 (by decide) (hq _ wM_427) rfl (by decide +kernel) rfl rfl (Nat.le_of_ble_eq_true rfl) dX12_property_134 rfl (fun H locs g34 h_g34 hw => ?_)
          refine lv_goto (tgt := 381) hx hb dX12_property_137 (by decide) ?_
          refine lv_iload_n hx hb dX12_property_381 rfl (lv_at hl 0 rfl) ?_
          refine lv_if_eq (tgt := 389) hx hb dX12_property_382 (by decide) (fun cc35 => absurd cc35 (by decide)) (fun _ => ?_)
          refine lv_iconst (v := 1) hx hb dX12_property_385 (by decide) ?_
          refine lv_goto (tgt := 390) hx hb dX12_property_386 (by decide) ?_
          have e_g34_2 : g34 2 = (g 2) := ((hk_upgN h_g34 2 rfl)).trans e_g1_2
          have e_g34_3 : g34 3 = y2 := (hk_upgS h_g34)
          have e_g34_4 : g34 4 = (g 4) := ((hk_upgN h_g34 4 rfl)).trans (hk_upgN h_g1 4 rfl)
          have e_g34_5 : g34 5 = (g 5) := ((hk_upgN h_g34 5 rfl)).trans (hk_upgN h_g1 5 rfl)
          have e_g34_6 : g34 6 = (g 6) := ((hk_upgN h_g34 6 rfl)).trans (hk_upgN h_g1 6 rfl)
          have e_g34_7 : g34 7 = (g 7) := ((hk_upgN h_g34 7 rfl)).trans (hk_upgN h_g1 7 rfl)
          exact kr 1 g34 lg ar bk _ _ _ _ ⟨(hk_frG (hk_frG hk_fr0 (by decide) h_g1) (by decide) h_g34), rfl, rfl, rfl, (om39 ((g34 2).toInt) ((g 2).toInt) (congrArg Int32.toInt e_g34_2) hi_g2), (om46 ((g34 3).toInt) ((y2).toInt) (((0 : Int32)).toInt) (((4 : Int32)).toInt) (congrArg Int32.toInt e_g34_3) (hE_nlt cc20) (hE_nlt cc24) (by decide) (by decide)), (om49 ((g34 2).toInt) ((g34 3).toInt) ((g 2).toInt) ((y2).toInt) ((z28).toInt) (((4 : Int32)).toInt) (congrArg Int32.toInt e_g34_2) (congrArg Int32.toInt e_g34_3) xz28 (hE_nlt cc29) (by decide)), (om39 ((g34 4).toInt) ((g 4).toInt) (congrArg Int32.toInt e_g34_4) hi_g4), (om41 ((g34 5).toInt) ((g 5).toInt) (congrArg Int32.toInt e_g34_5) hi_g5), (om42 ((g34 6).toInt) ((g 6).toInt) (congrArg Int32.toInt e_g34_6) hi_g6), (om42 ((g34 7).toInt) ((g 7).toInt) (congrArg Int32.toInt e_g34_7) hi_g7)⟩ hw dX12_property_390
  rcases hk_eqOr y1 2 with cc36 | cc36
  · refine lv_tableIn (tgt := 140) (off := 134) hx hb dX12_property_6 (by rw [cc36]; decide) (by rw [cc36]; decide) (by rw [cc36]; rfl) (by decide) ?_
    refine lv_iload_n hx hb dX12_property_140 rfl (lv_at hl 2 rfl) ?_
    refine lv_if_lt (tgt := 153) hx hb dX12_property_141 (by decide) (fun cc37 => ?_) (fun cc37 => ?_)
    · refine lv_iconst (v := 0) hx hb dX12_property_153 (by decide) ?_
      refine lv_istore_n (lv' := [(3, .int 0), (0, .ref (ad 0)), (1, .int y1), (2, .int y2)]) hx hb dX12_property_154 rfl hl (by decide) rfl (fun ls hl => ?_)
      refine lv_aload_n hx hb dX12_property_155 rfl (lv_at hl 1 rfl) ?_
      refine lv_iload_n hx hb dX12_property_156 rfl (lv_at hl 0 rfl) ?_
      refine lv_if_eq (tgt := 164) hx hb dX12_property_157 (by decide) (fun _ => ?_) (fun cc38 => absurd (by decide) cc38)
      refine lv_aload_n hx hb dX12_property_164 rfl (lv_at hl 1 rfl) ?_
      have e_g1_4 : g1 4 = (g 4) := (hk_upgN h_g1 4 rfl)
      refine hk_get (ci := 15) (C := RX12) (T := TX12) (N := 92) (v := .int (g 4)) hx hb hts (fun _ h => List.mem_cons_of_mem _ (wwMc_wsX120 _ h)) hown hw 0 rfl rfl 4 (by decide) (hq _ wM_429) (congrArg (fun z => some (Value.int z)) e_g1_4) dX12_property_165 ?_
      refine jx_putg mw (cI := cI) (cJ := cJ) (ad := ad) (g := g1) (lg := lg) (ar := ar) (bk := bk) (x := (g 4)) 4 (ci := 15) (C := RX12) (T := TX12) (N := 92) (ty := .int) hx hb hts (fun _ h => List.mem_cons_of_mem _ (wwMc_wsX120 _ h)) tyX12 tyX12_ok nmX12 hown hw 0 rfl rfl 4 (by decide) (hq _ wM_429) rfl (by decide +kernel) rfl rfl (Nat.le_of_ble_eq_true rfl) dX12_property_168 rfl (fun H locs g39 h_g39 hw => ?_)
      refine lv_goto (tgt := 381) hx hb dX12_property_171 (by decide) ?_
      refine lv_iload_n hx hb dX12_property_381 rfl (lv_at hl 0 rfl) ?_
      refine lv_if_eq (tgt := 389) hx hb dX12_property_382 (by decide) (fun _ => ?_) (fun cc40 => absurd (by decide) cc40)
      refine lv_iconst (v := 0) hx hb dX12_property_389 (by decide) ?_
      have e_g39_2 : g39 2 = (g 2) := ((hk_upgN h_g39 2 rfl)).trans (hk_upgN h_g1 2 rfl)
      have e_g39_3 : g39 3 = (g 3) := ((hk_upgN h_g39 3 rfl)).trans (hk_upgN h_g1 3 rfl)
      have e_g39_4 : g39 4 = (g 4) := (hk_upgS h_g39)
      have e_g39_5 : g39 5 = (g 5) := ((hk_upgN h_g39 5 rfl)).trans (hk_upgN h_g1 5 rfl)
      have e_g39_6 : g39 6 = (g 6) := ((hk_upgN h_g39 6 rfl)).trans (hk_upgN h_g1 6 rfl)
      have e_g39_7 : g39 7 = (g 7) := ((hk_upgN h_g39 7 rfl)).trans (hk_upgN h_g1 7 rfl)
      exact kr 0 g39 lg ar bk _ _ _ _ ⟨(hk_frG (hk_frG hk_fr0 (by decide) h_g1) (by decide) h_g39), rfl, rfl, rfl, (om39 ((g39 2).toInt) ((g 2).toInt) (congrArg Int32.toInt e_g39_2) hi_g2), (om39 ((g39 3).toInt) ((g 3).toInt) (congrArg Int32.toInt e_g39_3) hi_g3), (om40 ((g39 2).toInt) ((g39 3).toInt) ((g 2).toInt) ((g 3).toInt) (congrArg Int32.toInt e_g39_2) (congrArg Int32.toInt e_g39_3) hi_tlclp), (om39 ((g39 4).toInt) ((g 4).toInt) (congrArg Int32.toInt e_g39_4) hi_g4), (om41 ((g39 5).toInt) ((g 5).toInt) (congrArg Int32.toInt e_g39_5) hi_g5), (om42 ((g39 6).toInt) ((g 6).toInt) (congrArg Int32.toInt e_g39_6) hi_g6), (om42 ((g39 7).toInt) ((g 7).toInt) (congrArg Int32.toInt e_g39_7) hi_g7)⟩ hw dX12_property_390
    · refine lv_iload_n hx hb dX12_property_144 rfl (lv_at hl 2 rfl) ?_
      refine lv_iconst (v := 4) hx hb dX12_property_145 (by decide) ?_
      refine lv_icmp_gt (tgt := 153) hx hb dX12_property_146 (by decide) (fun cc41 => ?_) (fun cc41 => ?_)
      · refine lv_iconst (v := 0) hx hb dX12_property_153 (by decide) ?_
        refine lv_istore_n (lv' := [(3, .int 0), (0, .ref (ad 0)), (1, .int y1), (2, .int y2)]) hx hb dX12_property_154 rfl hl (by decide) rfl (fun ls hl => ?_)
        refine lv_aload_n hx hb dX12_property_155 rfl (lv_at hl 1 rfl) ?_
        refine lv_iload_n hx hb dX12_property_156 rfl (lv_at hl 0 rfl) ?_
        refine lv_if_eq (tgt := 164) hx hb dX12_property_157 (by decide) (fun _ => ?_) (fun cc42 => absurd (by decide) cc42)
        refine lv_aload_n hx hb dX12_property_164 rfl (lv_at hl 1 rfl) ?_
        have e_g1_4 : g1 4 = (g 4) := (hk_upgN h_g1 4 rfl)
        refine hk_get (ci := 15) (C := RX12) (T := TX12) (N := 92) (v := .int (g 4)) hx hb hts (fun _ h => List.mem_cons_of_mem _ (wwMc_wsX120 _ h)) hown hw 0 rfl rfl 4 (by decide) (hq _ wM_429) (congrArg (fun z => some (Value.int z)) e_g1_4) dX12_property_165 ?_
        refine jx_putg mw (cI := cI) (cJ := cJ) (ad := ad) (g := g1) (lg := lg) (ar := ar) (bk := bk) (x := (g 4)) 4 (ci := 15) (C := RX12) (T := TX12) (N := 92) (ty := .int) hx hb hts (fun _ h => List.mem_cons_of_mem _ (wwMc_wsX120 _ h)) tyX12 tyX12_ok nmX12 hown hw 0 rfl rfl 4 (by decide) (hq _ wM_429) rfl (by decide +kernel) rfl rfl (Nat.le_of_ble_eq_true rfl) dX12_property_168 rfl (fun H locs g43 h_g43 hw => ?_)
        refine lv_goto (tgt := 381) hx hb dX12_property_171 (by decide) ?_
        refine lv_iload_n hx hb dX12_property_381 rfl (lv_at hl 0 rfl) ?_
        refine lv_if_eq (tgt := 389) hx hb dX12_property_382 (by decide) (fun _ => ?_) (fun cc44 => absurd (by decide) cc44)
        refine lv_iconst (v := 0) hx hb dX12_property_389 (by decide) ?_
        have e_g43_2 : g43 2 = (g 2) := ((hk_upgN h_g43 2 rfl)).trans (hk_upgN h_g1 2 rfl)
        have e_g43_3 : g43 3 = (g 3) := ((hk_upgN h_g43 3 rfl)).trans (hk_upgN h_g1 3 rfl)
        have e_g43_4 : g43 4 = (g 4) := (hk_upgS h_g43)
        have e_g43_5 : g43 5 = (g 5) := ((hk_upgN h_g43 5 rfl)).trans (hk_upgN h_g1 5 rfl)
        have e_g43_6 : g43 6 = (g 6) := ((hk_upgN h_g43 6 rfl)).trans (hk_upgN h_g1 6 rfl)
        have e_g43_7 : g43 7 = (g 7) := ((hk_upgN h_g43 7 rfl)).trans (hk_upgN h_g1 7 rfl)
        exact kr 0 g43 lg ar bk _ _ _ _ ⟨(hk_frG (hk_frG hk_fr0 (by decide) h_g1) (by decide) h_g43), rfl, rfl, rfl, (om39 ((g43 2).toInt) ((g 2).toInt) (congrArg Int32.toInt e_g43_2) hi_g2), (om39 ((g43 3).toInt) ((g 3).toInt) (congrArg Int32.toInt e_g43_3) hi_g3), (om40 ((g43 2).toInt) ((g43 3).toInt) ((g 2).toInt) ((g 3).toInt) (congrArg Int32.toInt e_g43_2) (congrArg Int32.toInt e_g43_3) hi_tlclp), (om39 ((g43 4).toInt) ((g 4).toInt) (congrArg Int32.toInt e_g43_4) hi_g4), (om41 ((g43 5).toInt) ((g 5).toInt) (congrArg Int32.toInt e_g43_5) hi_g5), (om42 ((g43 6).toInt) ((g 6).toInt) (congrArg Int32.toInt e_g43_6) hi_g6), (om42 ((g43 7).toInt) ((g 7).toInt) (congrArg Int32.toInt e_g43_7) hi_g7)⟩ hw dX12_property_390
      · refine lv_iconst (v := 1) hx hb dX12_property_149 (by decide) ?_
        refine lv_goto (tgt := 154) hx hb dX12_property_150 (by decide) ?_
        refine lv_istore_n (lv' := [(3, .int 1), (0, .ref (ad 0)), (1, .int y1), (2, .int y2)]) hx hb dX12_property_154 rfl hl (by decide) rfl (fun ls hl => ?_)
        refine lv_aload_n hx hb dX12_property_155 rfl (lv_at hl 1 rfl) ?_
        refine lv_iload_n hx hb dX12_property_156 rfl (lv_at hl 0 rfl) ?_
        refine lv_if_eq (tgt := 164) hx hb dX12_property_157 (by decide) (fun cc45 => absurd cc45 (by decide)) (fun _ => ?_)
        refine lv_iload_n hx hb dX12_property_160 rfl (lv_at hl 3 rfl) ?_
        refine lv_goto (tgt := 168) hx hb dX12_property_161 (by decide) ?_
        refine jx_putg mw (cI := cI) (cJ := cJ) (ad := ad) (g := g1) (lg := lg) (ar := ar) (bk := bk) (x := y2) 4 (ci := 15) (C := RX12) (T := TX12) (N := 92) (ty := .int) hx hb hts (fun _ h => List.mem_cons_of_mem _ (wwMc_wsX120 _ h)) tyX12 tyX12_ok nmX12 hown hw 0 rfl rfl 4 (by decide) (hq _ wM_429) rfl (by decide +kernel) rfl rfl (Nat.le_of_ble_eq_true rfl) dX12_property_168 rfl (fun H locs g46 h_g46 hw => ?_)
        refine lv_goto (tgt := 381) hx hb dX12_property_171 (by decide) ?_
        refine lv_iload_n hx hb dX12_property_381 rfl (lv_at hl 0 rfl) ?_
        refine lv_if_eq (tgt := 389) hx hb dX12_property_382 (by decide) (fun cc47 => absurd cc47 (by decide)) (fun _ => ?_)
        refine lv_iconst (v := 1) hx hb dX12_property_385 (by decide) ?_
        refine lv_goto (tgt := 390) hx hb dX12_property_386 (by decide) ?_
        have e_g46_2 : g46 2 = (g 2) := ((hk_upgN h_g46 2 rfl)).trans (hk_upgN h_g1 2 rfl)
        have e_g46_3 : g46 3 = (g 3) := ((hk_upgN h_g46 3 rfl)).trans (hk_upgN h_g1 3 rfl)
        have e_g46_4 : g46 4 = y2 := (hk_upgS h_g46)
        have e_g46_5 : g46 5 = (g 5) := ((hk_upgN h_g46 5 rfl)).trans (hk_upgN h_g1 5 rfl)
        have e_g46_6 : g46 6 = (g 6) := ((hk_upgN h_g46 6 rfl)).trans (hk_upgN h_g1 6 rfl)
        have e_g46_7 : g46 7 = (g 7) := ((hk_upgN h_g46 7 rfl)).trans (hk_upgN h_g1 7 rfl)
        exact kr 1 g46 lg ar bk _ _ _ _ ⟨(hk_frG (hk_frG hk_fr0 (by decide) h_g1) (by decide) h_g46), rfl, rfl, rfl, (om39 ((g46 2).toInt) ((g 2).toInt) (congrArg Int32.toInt e_g46_2) hi_g2), (om39 ((g46 3).toInt) ((g 3).toInt) (congrArg Int32.toInt e_g46_3) hi_g3), (om40 ((g46 2).toInt) ((g46 3).toInt) ((g 2).toInt) ((g 3).toInt) (congrArg Int32.toInt e_g46_2) (congrArg Int32.toInt e_g46_3) hi_tlclp), (om46 ((g46 4).toInt) ((y2).toInt) (((0 : Int32)).toInt) (((4 : Int32)).toInt) (congrArg Int32.toInt e_g46_4) (hE_nlt cc37) (hE_nlt cc41) (by decide) (by decide)), (om41 ((g46 5).toInt) ((g 5).toInt) (congrArg Int32.toInt e_g46_5) hi_g5), (om42 ((g46 6).toInt) ((g 6).toInt) (congrArg Int32.toInt e_g46_6) hi_g6), (om42 ((g46 7).toInt) ((g 7).toInt) (congrArg Int32.toInt e_g46_7) hi_g7)⟩ hw dX12_property_390
  rcases hk_eqOr y1 3 with cc48 | cc48
  · refine lv_tableIn (tgt := 174) (off := 168) hx hb dX12_property_6 (by rw [cc48]; decide) (by rw [cc48]; decide) (by rw [cc48]; rfl) (by decide) ?_
    refine lv_iload_n hx hb dX12_property_174 rfl (lv_at hl 2 rfl) ?_
    refine lv_iconst (v := 1) hx hb dX12_property_175 (by decide) ?_
    refine lv_icmp_lt (tgt := 205) hx hb dX12_property_176 (by decide) (fun cc49 => ?_) (fun cc49 => ?_)
    · refine lv_iconst (v := 0) hx hb dX12_property_205 (by decide) ?_
      refine lv_istore_n (lv' := [(3, .int 0), (0, .ref (ad 0)), (1, .int y1), (2, .int y2)]) hx hb dX12_property_206 rfl hl (by decide) rfl (fun ls hl => ?_)
      refine lv_aload_n hx hb dX12_property_207 rfl (lv_at hl 1 rfl) ?_
      refine lv_iload_n hx hb dX12_property_208 rfl (lv_at hl 0 rfl) ?_
      refine lv_if_eq (tgt := 216) hx hb dX12_property_209 (by decide) (fun _ => ?_) (fun cc50 => absurd (by decide) cc50)
      refine lv_aload_n hx hb dX12_property_216 rfl (lv_at hl 1 rfl) ?_
      have e_g1_5 : g1 5 = (g 5) := (hk_upgN h_g1 5 rfl)
      refine hk_get (ci := 15) (C := RX12) (T := TX12) (N := 92) (v := .int (g 5)) hx hb hts (fun _ h => List.mem_cons_of_mem _ (wwMc_wsX120 _ h)) hown hw 0 rfl rfl 5 (by decide) (hq _ wM_206) (congrArg (fun z => some (Value.int z)) e_g1_5) dX12_property_217 ?_
      refine jx_putg mw (cI := cI) (cJ := cJ) (ad := ad) (g := g1) (lg := lg) (ar := ar) (bk := bk) (x := (g 5)) 5 (ci := 15) (C := RX12) (T := TX12) (N := 92) (ty := .int) hx hb hts (fun _ h => List.mem_cons_of_mem _ (wwMc_wsX120 _ h)) tyX12 tyX12_ok nmX12 hown hw 0 rfl rfl 5 (by decide) (hq _ wM_206) rfl (by decide +kernel) rfl rfl (Nat.le_of_ble_eq_true rfl) dX12_property_220 rfl (fun H locs g51 h_g51 hw => ?_)
      refine lv_goto (tgt := 381) hx hb dX12_property_223 (by decide) ?_
      refine lv_iload_n hx hb dX12_property_381 rfl (lv_at hl 0 rfl) ?_
      refine lv_if_eq (tgt := 389) hx hb dX12_property_382 (by decide) (fun _ => ?_) (fun cc52 => absurd (by decide) cc52)
      refine lv_iconst (v := 0) hx hb dX12_property_389 (by decide) ?_
      have e_g51_2 : g51 2 = (g 2) := ((hk_upgN h_g51 2 rfl)).trans (hk_upgN h_g1 2 rfl)
      have e_g51_3 : g51 3 = (g 3) := ((hk_upgN h_g51 3 rfl)).trans (hk_upgN h_g1 3 rfl)
      have e_g51_4 : g51 4 = (g 4) := ((hk_upgN h_g51 4 rfl)).trans (hk_upgN h_g1 4 rfl)
      have e_g51_5 : g51 5 = (g 5) := (hk_upgS h_g51)
      have e_g51_6 : g51 6 = (g 6) := ((hk_upgN h_g51 6 rfl)).trans (hk_upgN h_g1 6 rfl)
      have e_g51_7 : g51 7 = (g 7) := ((hk_upgN h_g51 7 rfl)).trans (hk_upgN h_g1 7 rfl)
      exact kr 0 g51 lg ar bk _ _ _ _ ⟨(hk_frG (hk_frG hk_fr0 (by decide) h_g1) (by decide) h_g51), rfl, rfl, rfl, (om39 ((g51 2).toInt) ((g 2).toInt) (congrArg Int32.toInt e_g51_2) hi_g2), (om39 ((g51 3).toInt) ((g 3).toInt) (congrArg Int32.toInt e_g51_3) hi_g3), (om40 ((g51 2).toInt) ((g51 3).toInt) ((g 2).toInt) ((g 3).toInt) (congrArg Int32.toInt e_g51_2) (congrArg Int32.toInt e_g51_3) hi_tlclp), (om39 ((g51 4).toInt) ((g 4).toInt) (congrArg Int32.toInt e_g51_4) hi_g4), (om41 ((g51 5).toInt) ((g 5).toInt) (congrArg Int32.toInt e_g51_5) hi_g5), (om42 ((g51 6).toInt) ((g 6).toInt) (congrArg Int32.toInt e_g51_6) hi_g6), (om42 ((g51 7).toInt) ((g 7).toInt) (congrArg Int32.toInt e_g51_7) hi_g7)⟩ hw dX12_property_390
    · refine lv_iload_n hx hb dX12_property_179 rfl (lv_at hl 2 rfl) ?_
      refine lv_sipush (v := 4096) hx hb dX12_property_180 (by decide) ?_
      refine lv_icmp_gt (tgt := 205) hx hb dX12_property_183 (by decide) (fun cc53 => ?_) (fun cc53 => ?_)
      · refine lv_iconst (v := 0) hx hb dX12_property_205 (by decide) ?_
        refine lv_istore_n (lv' := [(3, .int 0), (0, .ref (ad 0)), (1, .int y1), (2, .int y2)]) hx hb dX12_property_206 rfl hl (by decide) rfl (fun ls hl => ?_)
        refine lv_aload_n hx hb dX12_property_207 rfl (lv_at hl 1 rfl) ?_
        refine lv_iload_n hx hb dX12_property_208 rfl (lv_at hl 0 rfl) ?_
        refine lv_if_eq (tgt := 216) hx hb dX12_property_209 (by decide) (fun _ => ?_) (fun cc54 => absurd (by decide) cc54)
        refine lv_aload_n hx hb dX12_property_216 rfl (lv_at hl 1 rfl) ?_
        have e_g1_5 : g1 5 = (g 5) := (hk_upgN h_g1 5 rfl)
        refine hk_get (ci := 15) (C := RX12) (T := TX12) (N := 92) (v := .int (g 5)) hx hb hts (fun _ h => List.mem_cons_of_mem _ (wwMc_wsX120 _ h)) hown hw 0 rfl rfl 5 (by decide) (hq _ wM_206) (congrArg (fun z => some (Value.int z)) e_g1_5) dX12_property_217 ?_
        refine jx_putg mw (cI := cI) (cJ := cJ) (ad := ad) (g := g1) (lg := lg) (ar := ar) (bk := bk) (x := (g 5)) 5 (ci := 15) (C := RX12) (T := TX12) (N := 92) (ty := .int) hx hb hts (fun _ h => List.mem_cons_of_mem _ (wwMc_wsX120 _ h)) tyX12 tyX12_ok nmX12 hown hw 0 rfl rfl 5 (by decide) (hq _ wM_206) rfl (by decide +kernel) rfl rfl (Nat.le_of_ble_eq_true rfl) dX12_property_220 rfl (fun H locs g55 h_g55 hw => ?_)
        refine lv_goto (tgt := 381) hx hb dX12_property_223 (by decide) ?_
        refine lv_iload_n hx hb dX12_property_381 rfl (lv_at hl 0 rfl) ?_
        refine lv_if_eq (tgt := 389) hx hb dX12_property_382 (by decide) (fun _ => ?_) (fun cc56 => absurd (by decide) cc56)
        refine lv_iconst (v := 0) hx hb dX12_property_389 (by decide) ?_
        have e_g55_2 : g55 2 = (g 2) := ((hk_upgN h_g55 2 rfl)).trans (hk_upgN h_g1 2 rfl)
        have e_g55_3 : g55 3 = (g 3) := ((hk_upgN h_g55 3 rfl)).trans (hk_upgN h_g1 3 rfl)
        have e_g55_4 : g55 4 = (g 4) := ((hk_upgN h_g55 4 rfl)).trans (hk_upgN h_g1 4 rfl)
        have e_g55_5 : g55 5 = (g 5) := (hk_upgS h_g55)
        have e_g55_6 : g55 6 = (g 6) := ((hk_upgN h_g55 6 rfl)).trans (hk_upgN h_g1 6 rfl)
        have e_g55_7 : g55 7 = (g 7) := ((hk_upgN h_g55 7 rfl)).trans (hk_upgN h_g1 7 rfl)
        exact kr 0 g55 lg ar bk _ _ _ _ ⟨(hk_frG (hk_frG hk_fr0 (by decide) h_g1) (by decide) h_g55), rfl, rfl, rfl, (om39 ((g55 2).toInt) ((g 2).toInt) (congrArg Int32.toInt e_g55_2) hi_g2), (om39 ((g55 3).toInt) ((g 3).toInt) (congrArg Int32.toInt e_g55_3) hi_g3), (om40 ((g55 2).toInt) ((g55 3).toInt) ((g 2).toInt) ((g 3).toInt) (congrArg Int32.toInt e_g55_2) (congrArg Int32.toInt e_g55_3) hi_tlclp), (om39 ((g55 4).toInt) ((g 4).toInt) (congrArg Int32.toInt e_g55_4) hi_g4), (om41 ((g55 5).toInt) ((g 5).toInt) (congrArg Int32.toInt e_g55_5) hi_g5), (om42 ((g55 6).toInt) ((g 6).toInt) (congrArg Int32.toInt e_g55_6) hi_g6), (om42 ((g55 7).toInt) ((g 7).toInt) (congrArg Int32.toInt e_g55_7) hi_g7)⟩ hw dX12_property_390
      · refine lv_aload_n hx hb dX12_property_186 rfl (lv_at hl 0 rfl) ?_
        have e_g1_0 : g1 0 = (g 0) := (hk_upgN h_g1 0 rfl)
        refine hk_get (ci := 15) (C := RX12) (T := TX12) (N := 92) (v := .int (g 0)) hx hb hts (fun _ h => List.mem_cons_of_mem _ (wwMc_wsX120 _ h)) hown hw 0 rfl rfl 0 (by decide) (hq _ wM_260) (congrArg (fun z => some (Value.int z)) e_g1_0) dX12_property_187 ?_
        refine lv_iconst (v := 2) hx hb dX12_property_190 (by decide) ?_
        refine lv_icmp_ne (tgt := 201) hx hb dX12_property_191 (by decide) (fun cc57 => ?_) (fun cc57 => ?_)
        · refine lv_iconst (v := 1) hx hb dX12_property_201 (by decide) ?_
          refine lv_goto (tgt := 206) hx hb dX12_property_202 (by decide) ?_
          refine lv_istore_n (lv' := [(3, .int 1), (0, .ref (ad 0)), (1, .int y1), (2, .int y2)]) hx hb dX12_property_206 rfl hl (by decide) rfl (fun ls hl => ?_)
          refine lv_aload_n hx hb dX12_property_207 rfl (lv_at hl 1 rfl) ?_
          refine lv_iload_n hx hb dX12_property_208 rfl (lv_at hl 0 rfl) ?_
          refine lv_if_eq (tgt := 216) hx hb dX12_property_209 (by decide) (fun cc58 => absurd cc58 (by decide)) (fun _ => ?_)
          refine lv_iload_n hx hb dX12_property_212 rfl (lv_at hl 3 rfl) ?_
          refine lv_goto (tgt := 220) hx hb dX12_property_213 (by decide) ?_
          refine jx_putg mw (cI := cI) (cJ := cJ) (ad := ad) (g := g1) (lg := lg) (ar := ar) (bk := bk) (x := y2) 5 (ci := 15) (C := RX12) (T := TX12) (N := 92) (ty := .int) hx hb hts (fun _ h => List.mem_cons_of_mem _ (wwMc_wsX120 _ h)) tyX12 tyX12_ok nmX12 hown hw 0 rfl rfl 5 (by decide) (hq _ wM_206) rfl (by decide +kernel) rfl rfl (Nat.le_of_ble_eq_true rfl) dX12_property_220 rfl (fun H locs g59 h_g59 hw => ?_)
          refine lv_goto (tgt := 381) hx hb dX12_property_223 (by decide) ?_
          refine lv_iload_n hx hb dX12_property_381 rfl (lv_at hl 0 rfl) ?_
          refine lv_if_eq (tgt := 389) hx hb dX12_property_382 (by decide) (fun cc60 => absurd cc60 (by decide)) (fun _ => ?_)
          refine lv_iconst (v := 1) hx hb dX12_property_385 (by decide) ?_
          refine lv_goto (tgt := 390) hx hb dX12_property_386 (by decide) ?_
          have e_g59_2 : g59 2 = (g 2) := ((hk_upgN h_g59 2 rfl)).trans (hk_upgN h_g1 2 rfl)
          have e_g59_3 : g59 3 = (g 3) := ((hk_upgN h_g59 3 rfl)).trans (hk_upgN h_g1 3 rfl)
          have e_g59_4 : g59 4 = (g 4) := ((hk_upgN h_g59 4 rfl)).trans (hk_upgN h_g1 4 rfl)
          have e_g59_5 : g59 5 = y2 := (hk_upgS h_g59)
          have e_g59_6 : g59 6 = (g 6) := ((hk_upgN h_g59 6 rfl)).trans (hk_upgN h_g1 6 rfl)
          have e_g59_7 : g59 7 = (g 7) := ((hk_upgN h_g59 7 rfl)).trans (hk_upgN h_g1 7 rfl)
          exact kr 1 g59 lg ar bk _ _ _ _ ⟨(hk_frG (hk_frG hk_fr0 (by decide) h_g1) (by decide) h_g59), rfl, rfl, rfl, (om39 ((g59 2).toInt) ((g 2).toInt) (congrArg Int32.toInt e_g59_2) hi_g2), (om39 ((g59 3).toInt) ((g 3).toInt) (congrArg Int32.toInt e_g59_3) hi_g3), (om40 ((g59 2).toInt) ((g59 3).toInt) ((g 2).toInt) ((g 3).toInt) (congrArg Int32.toInt e_g59_2) (congrArg Int32.toInt e_g59_3) hi_tlclp), (om39 ((g59 4).toInt) ((g 4).toInt) (congrArg Int32.toInt e_g59_4) hi_g4), (om50 ((g59 5).toInt) ((y2).toInt) (((1 : Int32)).toInt) (((4096 : Int32)).toInt) (congrArg Int32.toInt e_g59_5) (hE_nlt cc49) (hE_nlt cc53) (by decide) (by decide)), (om42 ((g59 6).toInt) ((g 6).toInt) (congrArg Int32.toInt e_g59_6) hi_g6), (om42 ((g59 7).toInt) ((g 7).toInt) (congrArg Int32.toInt e_g59_7) hi_g7)⟩ hw dX12_property_390
        · refine lv_iload_n hx hb dX12_property_194 rfl (lv_at hl 2 rfl) ?_
          refine lv_sipush (v := 4096) hx hb dX12_property_195 (by decide) ?_
          refine lv_icmp_ne (tgt := 205) hx hb dX12_property_198 (by decide) (fun cc61 => ?_) (fun cc61 => ?_)
          · refine lv_iconst (v := 0) hx hb dX12_property_205 (by decide) ?_
            refine lv_istore_n (lv' := [(3, .int 0), (0, .ref (ad 0)), (1, .int y1), (2, .int y2)]) hx hb dX12_property_206 rfl hl (by decide) rfl (fun ls hl => ?_)
            refine lv_aload_n hx hb dX12_property_207 rfl (lv_at hl 1 rfl) ?_
            refine lv_iload_n hx hb dX12_property_208 rfl (lv_at hl 0 rfl) ?_
            refine lv_if_eq (tgt := 216) hx hb dX12_property_209 (by decide) (fun _ => ?_) (fun cc62 => absurd (by decide) cc62)
            refine lv_aload_n hx hb dX12_property_216 rfl (lv_at hl 1 rfl) ?_
            have e_g1_5 : g1 5 = (g 5) := (hk_upgN h_g1 5 rfl)
            refine hk_get (ci := 15) (C := RX12) (T := TX12) (N := 92) (v := .int (g 5)) hx hb hts (fun _ h => List.mem_cons_of_mem _ (wwMc_wsX120 _ h)) hown hw 0 rfl rfl 5 (by decide) (hq _ wM_206) (congrArg (fun z => some (Value.int z)) e_g1_5) dX12_property_217 ?_
            refine jx_putg mw (cI := cI) (cJ := cJ) (ad := ad) (g := g1) (lg := lg) (ar := ar) (bk := bk) (x := (g 5)) 5 (ci := 15) (C := RX12) (T := TX12) (N := 92) (ty := .int) hx hb hts (fun _ h => List.mem_cons_of_mem _ (wwMc_wsX120 _ h)) tyX12 tyX12_ok nmX12 hown hw 0 rfl rfl 5 (by decide) (hq _ wM_206) rfl (by decide +kernel) rfl rfl (Nat.le_of_ble_eq_true rfl) dX12_property_220 rfl (fun H locs g63 h_g63 hw => ?_)
            refine lv_goto (tgt := 381) hx hb dX12_property_223 (by decide) ?_
            refine lv_iload_n hx hb dX12_property_381 rfl (lv_at hl 0 rfl) ?_
            refine lv_if_eq (tgt := 389) hx hb dX12_property_382 (by decide) (fun _ => ?_) (fun cc64 => absurd (by decide) cc64)
            refine lv_iconst (v := 0) hx hb dX12_property_389 (by decide) ?_
            have e_g63_2 : g63 2 = (g 2) := ((hk_upgN h_g63 2 rfl)).trans (hk_upgN h_g1 2 rfl)
            have e_g63_3 : g63 3 = (g 3) := ((hk_upgN h_g63 3 rfl)).trans (hk_upgN h_g1 3 rfl)
            have e_g63_4 : g63 4 = (g 4) := ((hk_upgN h_g63 4 rfl)).trans (hk_upgN h_g1 4 rfl)
            have e_g63_5 : g63 5 = (g 5) := (hk_upgS h_g63)
            have e_g63_6 : g63 6 = (g 6) := ((hk_upgN h_g63 6 rfl)).trans (hk_upgN h_g1 6 rfl)
            have e_g63_7 : g63 7 = (g 7) := ((hk_upgN h_g63 7 rfl)).trans (hk_upgN h_g1 7 rfl)
            exact kr 0 g63 lg ar bk _ _ _ _ ⟨(hk_frG (hk_frG hk_fr0 (by decide) h_g1) (by decide) h_g63), rfl, rfl, rfl, (om39 ((g63 2).toInt) ((g 2).toInt) (congrArg Int32.toInt e_g63_2) hi_g2), (om39 ((g63 3).toInt) ((g 3).toInt) (congrArg Int32.toInt e_g63_3) hi_g3), (om40 ((g63 2).toInt) ((g63 3).toInt) ((g 2).toInt) ((g 3).toInt) (congrArg Int32.toInt e_g63_2) (congrArg Int32.toInt e_g63_3) hi_tlclp), (om39 ((g63 4).toInt) ((g 4).toInt) (congrArg Int32.toInt e_g63_4) hi_g4), (om41 ((g63 5).toInt) ((g 5).toInt) (congrArg Int32.toInt e_g63_5) hi_g5), (om42 ((g63 6).toInt) ((g 6).toInt) (congrArg Int32.toInt e_g63_6) hi_g6), (om42 ((g63 7).toInt) ((g 7).toInt) (congrArg Int32.toInt e_g63_7) hi_g7)⟩ hw dX12_property_390
          · refine lv_iconst (v := 1) hx hb dX12_property_201 (by decide) ?_
            refine lv_goto (tgt := 206) hx hb dX12_property_202 (by decide) ?_
            refine lv_istore_n (lv' := [(3, .int 1), (0, .ref (ad 0)), (1, .int y1), (2, .int y2)]) hx hb dX12_property_206 rfl hl (by decide) rfl (fun ls hl => ?_)
            refine lv_aload_n hx hb dX12_property_207 rfl (lv_at hl 1 rfl) ?_
            refine lv_iload_n hx hb dX12_property_208 rfl (lv_at hl 0 rfl) ?_
            refine lv_if_eq (tgt := 216) hx hb dX12_property_209 (by decide) (fun cc65 => absurd cc65 (by decide)) (fun _ => ?_)
            refine lv_iload_n hx hb dX12_property_212 rfl (lv_at hl 3 rfl) ?_
            refine lv_goto (tgt := 220) hx hb dX12_property_213 (by decide) ?_
            refine jx_putg mw (cI := cI) (cJ := cJ) (ad := ad) (g := g1) (lg := lg) (ar := ar) (bk := bk) (x := y2) 5 (ci := 15) (C := RX12) (T := TX12) (N := 92) (ty := .int) hx hb hts (fun _ h => List.mem_cons_of_mem _ (wwMc_wsX120 _ h)) tyX12 tyX12_ok nmX12 hown hw 0 rfl rfl 5 (by decide) (hq _ wM_206) rfl (by decide +kernel) rfl rfl (Nat.le_of_ble_eq_true rfl) dX12_property_220 rfl (fun H locs g66 h_g66 hw => ?_)
            refine lv_goto (tgt := 381) hx hb dX12_property_223 (by decide) ?_
            refine lv_iload_n hx hb dX12_property_381 rfl (lv_at hl 0 rfl) ?_
            refine lv_if_eq (tgt := 389) hx hb dX12_property_382 (by decide) (fun cc67 => absurd cc67 (by decide)) (fun _ => ?_)
            refine lv_iconst (v := 1) hx hb dX12_property_385 (by decide) ?_
            refine lv_goto (tgt := 390) hx hb dX12_property_386 (by decide) ?_
            have e_g66_2 : g66 2 = (g 2) := ((hk_upgN h_g66 2 rfl)).trans (hk_upgN h_g1 2 rfl)
            have e_g66_3 : g66 3 = (g 3) := ((hk_upgN h_g66 3 rfl)).trans (hk_upgN h_g1 3 rfl)
            have e_g66_4 : g66 4 = (g 4) := ((hk_upgN h_g66 4 rfl)).trans (hk_upgN h_g1 4 rfl)
            have e_g66_5 : g66 5 = y2 := (hk_upgS h_g66)
            have e_g66_6 : g66 6 = (g 6) := ((hk_upgN h_g66 6 rfl)).trans (hk_upgN h_g1 6 rfl)
            have e_g66_7 : g66 7 = (g 7) := ((hk_upgN h_g66 7 rfl)).trans (hk_upgN h_g1 7 rfl)
            exact kr 1 g66 lg ar bk _ _ _ _ ⟨(hk_frG (hk_frG hk_fr0 (by decide) h_g1) (by decide) h_g66), rfl, rfl, rfl, (om39 ((g66 2).toInt) ((g 2).toInt) (congrArg Int32.toInt e_g66_2) hi_g2), (om39 ((g66 3).toInt) ((g 3).toInt) (congrArg Int32.toInt e_g66_3) hi_g3), (om40 ((g66 2).toInt) ((g66 3).toInt) ((g 2).toInt) ((g 3).toInt) (congrArg Int32.toInt e_g66_2) (congrArg Int32.toInt e_g66_3) hi_tlclp), (om39 ((g66 4).toInt) ((g 4).toInt) (congrArg Int32.toInt e_g66_4) hi_g4), (om51 ((g66 5).toInt) ((y2).toInt) (((4096 : Int32)).toInt) (congrArg Int32.toInt e_g66_5) (hE_nlt cc53) (hE_eq cc61) (by decide)), (om42 ((g66 6).toInt) ((g 6).toInt) (congrArg Int32.toInt e_g66_6) hi_g6), (om42 ((g66 7).toInt) ((g 7).toInt) (congrArg Int32.toInt e_g66_7) hi_g7)⟩ hw dX12_property_390
  rcases hk_eqOr y1 4 with cc68 | cc68
  · refine lv_tableIn (tgt := 226) (off := 220) hx hb dX12_property_6 (by rw [cc68]; decide) (by rw [cc68]; decide) (by rw [cc68]; rfl) (by decide) ?_
    refine lv_iload_n hx hb dX12_property_226 rfl (lv_at hl 2 rfl) ?_
    refine lv_iconst (v := 1) hx hb dX12_property_227 (by decide) ?_
    refine lv_icmp_lt (tgt := 242) hx hb dX12_property_228 (by decide) (fun cc69 => ?_) (fun cc69 => ?_)
    · refine lv_iconst (v := 0) hx hb dX12_property_242 (by decide) ?_
      refine lv_istore_n (lv' := [(3, .int 0), (0, .ref (ad 0)), (1, .int y1), (2, .int y2)]) hx hb dX12_property_243 rfl hl (by decide) rfl (fun ls hl => ?_)
      refine lv_aload_n hx hb dX12_property_244 rfl (lv_at hl 1 rfl) ?_
      refine lv_iload_n hx hb dX12_property_245 rfl (lv_at hl 0 rfl) ?_
      refine lv_if_eq (tgt := 253) hx hb dX12_property_246 (by decide) (fun _ => ?_) (fun cc70 => absurd (by decide) cc70)
      refine lv_aload_n hx hb dX12_property_253 rfl (lv_at hl 1 rfl) ?_
      have e_g1_6 : g1 6 = (g 6) := (hk_upgN h_g1 6 rfl)
      refine hk_get (ci := 15) (C := RX12) (T := TX12) (N := 92) (v := .int (g 6)) hx hb hts (fun _ h => List.mem_cons_of_mem _ (wwMc_wsX120 _ h)) hown hw 0 rfl rfl 6 (by decide) (hq _ wM_391) (congrArg (fun z => some (Value.int z)) e_g1_6) dX12_property_254 ?_
      refine jx_putg mw (cI := cI) (cJ := cJ) (ad := ad) (g := g1) (lg := lg) (ar := ar) (bk := bk) (x := (g 6)) 6 (ci := 15) (C := RX12) (T := TX12) (N := 92) (ty := .int) hx hb hts (fun _ h => List.mem_cons_of_mem _ (wwMc_wsX120 _ h)) tyX12 tyX12_ok nmX12 hown hw 0 rfl rfl 6 (by decide) (hq _ wM_391) rfl (by decide +kernel) rfl rfl (Nat.le_of_ble_eq_true rfl) dX12_property_257 rfl (fun H locs g71 h_g71 hw => ?_)
      refine lv_goto (tgt := 381) hx hb dX12_property_260 (by decide) ?_
      refine lv_iload_n hx hb dX12_property_381 rfl (lv_at hl 0 rfl) ?_
      refine lv_if_eq (tgt := 389) hx hb dX12_property_382 (by decide) (fun _ => ?_) (fun cc72 => absurd (by decide) cc72)
      refine lv_iconst (v := 0) hx hb dX12_property_389 (by decide) ?_
      have e_g71_2 : g71 2 = (g 2) := ((hk_upgN h_g71 2 rfl)).trans (hk_upgN h_g1 2 rfl)
      have e_g71_3 : g71 3 = (g 3) := ((hk_upgN h_g71 3 rfl)).trans (hk_upgN h_g1 3 rfl)
      have e_g71_4 : g71 4 = (g 4) := ((hk_upgN h_g71 4 rfl)).trans (hk_upgN h_g1 4 rfl)
      have e_g71_5 : g71 5 = (g 5) := ((hk_upgN h_g71 5 rfl)).trans (hk_upgN h_g1 5 rfl)
      have e_g71_6 : g71 6 = (g 6) := (hk_upgS h_g71)
      have e_g71_7 : g71 7 = (g 7) := ((hk_upgN h_g71 7 rfl)).trans (hk_upgN h_g1 7 rfl)
      exact kr 0 g71 lg ar bk _ _ _ _ ⟨(hk_frG (hk_frG hk_fr0 (by decide) h_g1) (by decide) h_g71), rfl, rfl, rfl, (om39 ((g71 2).toInt) ((g 2).toInt) (congrArg Int32.toInt e_g71_2) hi_g2), (om39 ((g71 3).toInt) ((g 3).toInt) (congrArg Int32.toInt e_g71_3) hi_g3), (om40 ((g71 2).toInt) ((g71 3).toInt) ((g 2).toInt) ((g 3).toInt) (congrArg Int32.toInt e_g71_2) (congrArg Int32.toInt e_g71_3) hi_tlclp), (om39 ((g71 4).toInt) ((g 4).toInt) (congrArg Int32.toInt e_g71_4) hi_g4), (om41 ((g71 5).toInt) ((g 5).toInt) (congrArg Int32.toInt e_g71_5) hi_g5), (om42 ((g71 6).toInt) ((g 6).toInt) (congrArg Int32.toInt e_g71_6) hi_g6), (om42 ((g71 7).toInt) ((g 7).toInt) (congrArg Int32.toInt e_g71_7) hi_g7)⟩ hw dX12_property_390
    · refine lv_iload_n hx hb dX12_property_231 rfl (lv_at hl 2 rfl) ?_
      refine lv_sipush (v := 1500) hx hb dX12_property_232 (by decide) ?_
      refine lv_icmp_gt (tgt := 242) hx hb dX12_property_235 (by decide) (fun cc73 => ?_) (fun cc73 => ?_)
      · refine lv_iconst (v := 0) hx hb dX12_property_242 (by decide) ?_
        refine lv_istore_n (lv' := [(3, .int 0), (0, .ref (ad 0)), (1, .int y1), (2, .int y2)]) hx hb dX12_property_243 rfl hl (by decide) rfl (fun ls hl => ?_)
        refine lv_aload_n hx hb dX12_property_244 rfl (lv_at hl 1 rfl) ?_
        refine lv_iload_n hx hb dX12_property_245 rfl (lv_at hl 0 rfl) ?_
        refine lv_if_eq (tgt := 253) hx hb dX12_property_246 (by decide) (fun _ => ?_) (fun cc74 => absurd (by decide) cc74)
        refine lv_aload_n hx hb dX12_property_253 rfl (lv_at hl 1 rfl) ?_
        have e_g1_6 : g1 6 = (g 6) := (hk_upgN h_g1 6 rfl)
        refine hk_get (ci := 15) (C := RX12) (T := TX12) (N := 92) (v := .int (g 6)) hx hb hts (fun _ h => List.mem_cons_of_mem _ (wwMc_wsX120 _ h)) hown hw 0 rfl rfl 6 (by decide) (hq _ wM_391) (congrArg (fun z => some (Value.int z)) e_g1_6) dX12_property_254 ?_
        refine jx_putg mw (cI := cI) (cJ := cJ) (ad := ad) (g := g1) (lg := lg) (ar := ar) (bk := bk) (x := (g 6)) 6 (ci := 15) (C := RX12) (T := TX12) (N := 92) (ty := .int) hx hb hts (fun _ h => List.mem_cons_of_mem _ (wwMc_wsX120 _ h)) tyX12 tyX12_ok nmX12 hown hw 0 rfl rfl 6 (by decide) (hq _ wM_391) rfl (by decide +kernel) rfl rfl (Nat.le_of_ble_eq_true rfl) dX12_property_257 rfl (fun H locs g75 h_g75 hw => ?_)
        refine lv_goto (tgt := 381) hx hb dX12_property_260 (by decide) ?_
        refine lv_iload_n hx hb dX12_property_381 rfl (lv_at hl 0 rfl) ?_
        refine lv_if_eq (tgt := 389) hx hb dX12_property_382 (by decide) (fun _ => ?_) (fun cc76 => absurd (by decide) cc76)
        refine lv_iconst (v := 0) hx hb dX12_property_389 (by decide) ?_
        have e_g75_2 : g75 2 = (g 2) := ((hk_upgN h_g75 2 rfl)).trans (hk_upgN h_g1 2 rfl)
        have e_g75_3 : g75 3 = (g 3) := ((hk_upgN h_g75 3 rfl)).trans (hk_upgN h_g1 3 rfl)
        have e_g75_4 : g75 4 = (g 4) := ((hk_upgN h_g75 4 rfl)).trans (hk_upgN h_g1 4 rfl)
        have e_g75_5 : g75 5 = (g 5) := ((hk_upgN h_g75 5 rfl)).trans (hk_upgN h_g1 5 rfl)
        have e_g75_6 : g75 6 = (g 6) := (hk_upgS h_g75)
        have e_g75_7 : g75 7 = (g 7) := ((hk_upgN h_g75 7 rfl)).trans (hk_upgN h_g1 7 rfl)
        exact kr 0 g75 lg ar bk _ _ _ _ ⟨(hk_frG (hk_frG hk_fr0 (by decide) h_g1) (by decide) h_g75), rfl, rfl, rfl, (om39 ((g75 2).toInt) ((g 2).toInt) (congrArg Int32.toInt e_g75_2) hi_g2), (om39 ((g75 3).toInt) ((g 3).toInt) (congrArg Int32.toInt e_g75_3) hi_g3), (om40 ((g75 2).toInt) ((g75 3).toInt) ((g 2).toInt) ((g 3).toInt) (congrArg Int32.toInt e_g75_2) (congrArg Int32.toInt e_g75_3) hi_tlclp), (om39 ((g75 4).toInt) ((g 4).toInt) (congrArg Int32.toInt e_g75_4) hi_g4), (om41 ((g75 5).toInt) ((g 5).toInt) (congrArg Int32.toInt e_g75_5) hi_g5), (om42 ((g75 6).toInt) ((g 6).toInt) (congrArg Int32.toInt e_g75_6) hi_g6), (om42 ((g75 7).toInt) ((g 7).toInt) (congrArg Int32.toInt e_g75_7) hi_g7)⟩ hw dX12_property_390
      · refine lv_iconst (v := 1) hx hb dX12_property_238 (by decide) ?_
        refine lv_goto (tgt := 243) hx hb dX12_property_239 (by decide) ?_
        refine lv_istore_n (lv' := [(3, .int 1), (0, .ref (ad 0)), (1, .int y1), (2, .int y2)]) hx hb dX12_property_243 rfl hl (by decide) rfl (fun ls hl => ?_)
        refine lv_aload_n hx hb dX12_property_244 rfl (lv_at hl 1 rfl) ?_
        refine lv_iload_n hx hb dX12_property_245 rfl (lv_at hl 0 rfl) ?_
        refine lv_if_eq (tgt := 253) hx hb dX12_property_246 (by decide) (fun cc77 => absurd cc77 (by decide)) (fun _ => ?_)
        refine lv_iload_n hx hb dX12_property_249 rfl (lv_at hl 3 rfl) ?_
        refine lv_goto (tgt := 257) hx hb dX12_property_250 (by decide) ?_
        refine jx_putg mw (cI := cI) (cJ := cJ) (ad := ad) (g := g1) (lg := lg) (ar := ar) (bk := bk) (x := y2) 6 (ci := 15) (C := RX12) (T := TX12) (N := 92) (ty := .int) hx hb hts (fun _ h => List.mem_cons_of_mem _ (wwMc_wsX120 _ h)) tyX12 tyX12_ok nmX12 hown hw 0 rfl rfl 6 (by decide) (hq _ wM_391) rfl (by decide +kernel) rfl rfl (Nat.le_of_ble_eq_true rfl) dX12_property_257 rfl (fun H locs g78 h_g78 hw => ?_)
        refine lv_goto (tgt := 381) hx hb dX12_property_260 (by decide) ?_
        refine lv_iload_n hx hb dX12_property_381 rfl (lv_at hl 0 rfl) ?_
        refine lv_if_eq (tgt := 389) hx hb dX12_property_382 (by decide) (fun cc79 => absurd cc79 (by decide)) (fun _ => ?_)
        refine lv_iconst (v := 1) hx hb dX12_property_385 (by decide) ?_
        refine lv_goto (tgt := 390) hx hb dX12_property_386 (by decide) ?_
        have e_g78_2 : g78 2 = (g 2) := ((hk_upgN h_g78 2 rfl)).trans (hk_upgN h_g1 2 rfl)
        have e_g78_3 : g78 3 = (g 3) := ((hk_upgN h_g78 3 rfl)).trans (hk_upgN h_g1 3 rfl)
        have e_g78_4 : g78 4 = (g 4) := ((hk_upgN h_g78 4 rfl)).trans (hk_upgN h_g1 4 rfl)
        have e_g78_5 : g78 5 = (g 5) := ((hk_upgN h_g78 5 rfl)).trans (hk_upgN h_g1 5 rfl)
        have e_g78_6 : g78 6 = y2 := (hk_upgS h_g78)
        have e_g78_7 : g78 7 = (g 7) := ((hk_upgN h_g78 7 rfl)).trans (hk_upgN h_g1 7 rfl)
        exact kr 1 g78 lg ar bk _ _ _ _ ⟨(hk_frG (hk_frG hk_fr0 (by decide) h_g1) (by decide) h_g78), rfl, rfl, rfl, (om39 ((g78 2).toInt) ((g 2).toInt) (congrArg Int32.toInt e_g78_2) hi_g2), (om39 ((g78 3).toInt) ((g 3).toInt) (congrArg Int32.toInt e_g78_3) hi_g3), (om40 ((g78 2).toInt) ((g78 3).toInt) ((g 2).toInt) ((g 3).toInt) (congrArg Int32.toInt e_g78_2) (congrArg Int32.toInt e_g78_3) hi_tlclp), (om39 ((g78 4).toInt) ((g 4).toInt) (congrArg Int32.toInt e_g78_4) hi_g4), (om41 ((g78 5).toInt) ((g 5).toInt) (congrArg Int32.toInt e_g78_5) hi_g5), (om52 ((g78 6).toInt) ((y2).toInt) (((1 : Int32)).toInt) (((1500 : Int32)).toInt) (congrArg Int32.toInt e_g78_6) (hE_nlt cc69) (hE_nlt cc73) (by decide) (by decide)), (om42 ((g78 7).toInt) ((g 7).toInt) (congrArg Int32.toInt e_g78_7) hi_g7)⟩ hw dX12_property_390
  rcases hk_eqOr y1 5 with cc80 | cc80
  · refine lv_tableIn (tgt := 263) (off := 257) hx hb dX12_property_6 (by rw [cc80]; decide) (by rw [cc80]; decide) (by rw [cc80]; rfl) (by decide) ?_
    refine lv_iload_n hx hb dX12_property_263 rfl (lv_at hl 2 rfl) ?_
    refine lv_iconst (v := 1) hx hb dX12_property_264 (by decide) ?_
    refine lv_icmp_lt (tgt := 279) hx hb dX12_property_265 (by decide) (fun cc81 => ?_) (fun cc81 => ?_)
    · refine lv_iconst (v := 0) hx hb dX12_property_279 (by decide) ?_
      refine lv_istore_n (lv' := [(3, .int 0), (0, .ref (ad 0)), (1, .int y1), (2, .int y2)]) hx hb dX12_property_280 rfl hl (by decide) rfl (fun ls hl => ?_)
      refine lv_aload_n hx hb dX12_property_281 rfl (lv_at hl 1 rfl) ?_
      refine lv_iload_n hx hb dX12_property_282 rfl (lv_at hl 0 rfl) ?_
      refine lv_if_eq (tgt := 290) hx hb dX12_property_283 (by decide) (fun _ => ?_) (fun cc82 => absurd (by decide) cc82)
      refine lv_aload_n hx hb dX12_property_290 rfl (lv_at hl 1 rfl) ?_
      have e_g1_7 : g1 7 = (g 7) := (hk_upgN h_g1 7 rfl)
      refine hk_get (ci := 15) (C := RX12) (T := TX12) (N := 92) (v := .int (g 7)) hx hb hts (fun _ h => List.mem_cons_of_mem _ (wwMc_wsX120 _ h)) hown hw 0 rfl rfl 7 (by decide) (hq _ wM_378) (congrArg (fun z => some (Value.int z)) e_g1_7) dX12_property_291 ?_
      refine jx_putg mw (cI := cI) (cJ := cJ) (ad := ad) (g := g1) (lg := lg) (ar := ar) (bk := bk) (x := (g 7)) 7 (ci := 15) (C := RX12) (T := TX12) (N := 92) (ty := .int) hx hb hts (fun _ h => List.mem_cons_of_mem _ (wwMc_wsX120 _ h)) tyX12 tyX12_ok nmX12 hown hw 0 rfl rfl 7 (by decide) (hq _ wM_378) rfl (by decide +kernel) rfl rfl (Nat.le_of_ble_eq_true rfl) dX12_property_294 rfl (fun H locs g83 h_g83 hw => ?_)
      refine lv_goto (tgt := 381) hx hb dX12_property_297 (by decide) ?_
      refine lv_iload_n hx hb dX12_property_381 rfl (lv_at hl 0 rfl) ?_
      refine lv_if_eq (tgt := 389) hx hb dX12_property_382 (by decide) (fun _ => ?_) (fun cc84 => absurd (by decide) cc84)
      refine lv_iconst (v := 0) hx hb dX12_property_389 (by decide) ?_
      have e_g83_2 : g83 2 = (g 2) := ((hk_upgN h_g83 2 rfl)).trans (hk_upgN h_g1 2 rfl)
      have e_g83_3 : g83 3 = (g 3) := ((hk_upgN h_g83 3 rfl)).trans (hk_upgN h_g1 3 rfl)
      have e_g83_4 : g83 4 = (g 4) := ((hk_upgN h_g83 4 rfl)).trans (hk_upgN h_g1 4 rfl)
      have e_g83_5 : g83 5 = (g 5) := ((hk_upgN h_g83 5 rfl)).trans (hk_upgN h_g1 5 rfl)
      have e_g83_6 : g83 6 = (g 6) := ((hk_upgN h_g83 6 rfl)).trans (hk_upgN h_g1 6 rfl)
      have e_g83_7 : g83 7 = (g 7) := (hk_upgS h_g83)
      exact kr 0 g83 lg ar bk _ _ _ _ ⟨(hk_frG (hk_frG hk_fr0 (by decide) h_g1) (by decide) h_g83), rfl, rfl, rfl, (om39 ((g83 2).toInt) ((g 2).toInt) (congrArg Int32.toInt e_g83_2) hi_g2), (om39 ((g83 3).toInt) ((g 3).toInt) (congrArg Int32.toInt e_g83_3) hi_g3), (om40 ((g83 2).toInt) ((g83 3).toInt) ((g 2).toInt) ((g 3).toInt) (congrArg Int32.toInt e_g83_2) (congrArg Int32.toInt e_g83_3) hi_tlclp), (om39 ((g83 4).toInt) ((g 4).toInt) (congrArg Int32.toInt e_g83_4) hi_g4), (om41 ((g83 5).toInt) ((g 5).toInt) (congrArg Int32.toInt e_g83_5) hi_g5), (om42 ((g83 6).toInt) ((g 6).toInt) (congrArg Int32.toInt e_g83_6) hi_g6), (om42 ((g83 7).toInt) ((g 7).toInt) (congrArg Int32.toInt e_g83_7) hi_g7)⟩ hw dX12_property_390
    · refine lv_iload_n hx hb dX12_property_268 rfl (lv_at hl 2 rfl) ?_
      refine lv_sipush (v := 1500) hx hb dX12_property_269 (by decide) ?_
      refine lv_icmp_gt (tgt := 279) hx hb dX12_property_272 (by decide) (fun cc85 => ?_) (fun cc85 => ?_)
      · refine lv_iconst (v := 0) hx hb dX12_property_279 (by decide) ?_
        refine lv_istore_n (lv' := [(3, .int 0), (0, .ref (ad 0)), (1, .int y1), (2, .int y2)]) hx hb dX12_property_280 rfl hl (by decide) rfl (fun ls hl => ?_)
        refine lv_aload_n hx hb dX12_property_281 rfl (lv_at hl 1 rfl) ?_
        refine lv_iload_n hx hb dX12_property_282 rfl (lv_at hl 0 rfl) ?_
        refine lv_if_eq (tgt := 290) hx hb dX12_property_283 (by decide) (fun _ => ?_) (fun cc86 => absurd (by decide) cc86)
        refine lv_aload_n hx hb dX12_property_290 rfl (lv_at hl 1 rfl) ?_
        have e_g1_7 : g1 7 = (g 7) := (hk_upgN h_g1 7 rfl)
        refine hk_get (ci := 15) (C := RX12) (T := TX12) (N := 92) (v := .int (g 7)) hx hb hts (fun _ h => List.mem_cons_of_mem _ (wwMc_wsX120 _ h)) hown hw 0 rfl rfl 7 (by decide) (hq _ wM_378) (congrArg (fun z => some (Value.int z)) e_g1_7) dX12_property_291 ?_
        refine jx_putg mw (cI := cI) (cJ := cJ) (ad := ad) (g := g1) (lg := lg) (ar := ar) (bk := bk) (x := (g 7)) 7 (ci := 15) (C := RX12) (T := TX12) (N := 92) (ty := .int) hx hb hts (fun _ h => List.mem_cons_of_mem _ (wwMc_wsX120 _ h)) tyX12 tyX12_ok nmX12 hown hw 0 rfl rfl 7 (by decide) (hq _ wM_378) rfl (by decide +kernel) rfl rfl (Nat.le_of_ble_eq_true rfl) dX12_property_294 rfl (fun H locs g87 h_g87 hw => ?_)
        refine lv_goto (tgt := 381) hx hb dX12_property_297 (by decide) ?_
        refine lv_iload_n hx hb dX12_property_381 rfl (lv_at hl 0 rfl) ?_
        refine lv_if_eq (tgt := 389) hx hb dX12_property_382 (by decide) (fun _ => ?_) (fun cc88 => absurd (by decide) cc88)
        refine lv_iconst (v := 0) hx hb dX12_property_389 (by decide) ?_
        have e_g87_2 : g87 2 = (g 2) := ((hk_upgN h_g87 2 rfl)).trans (hk_upgN h_g1 2 rfl)
        have e_g87_3 : g87 3 = (g 3) := ((hk_upgN h_g87 3 rfl)).trans (hk_upgN h_g1 3 rfl)
        have e_g87_4 : g87 4 = (g 4) := ((hk_upgN h_g87 4 rfl)).trans (hk_upgN h_g1 4 rfl)
        have e_g87_5 : g87 5 = (g 5) := ((hk_upgN h_g87 5 rfl)).trans (hk_upgN h_g1 5 rfl)
        have e_g87_6 : g87 6 = (g 6) := ((hk_upgN h_g87 6 rfl)).trans (hk_upgN h_g1 6 rfl)
        have e_g87_7 : g87 7 = (g 7) := (hk_upgS h_g87)
        exact kr 0 g87 lg ar bk _ _ _ _ ⟨(hk_frG (hk_frG hk_fr0 (by decide) h_g1) (by decide) h_g87), rfl, rfl, rfl, (om39 ((g87 2).toInt) ((g 2).toInt) (congrArg Int32.toInt e_g87_2) hi_g2), (om39 ((g87 3).toInt) ((g 3).toInt) (congrArg Int32.toInt e_g87_3) hi_g3), (om40 ((g87 2).toInt) ((g87 3).toInt) ((g 2).toInt) ((g 3).toInt) (congrArg Int32.toInt e_g87_2) (congrArg Int32.toInt e_g87_3) hi_tlclp), (om39 ((g87 4).toInt) ((g 4).toInt) (congrArg Int32.toInt e_g87_4) hi_g4), (om41 ((g87 5).toInt) ((g 5).toInt) (congrArg Int32.toInt e_g87_5) hi_g5), (om42 ((g87 6).toInt) ((g 6).toInt) (congrArg Int32.toInt e_g87_6) hi_g6), (om42 ((g87 7).toInt) ((g 7).toInt) (congrArg Int32.toInt e_g87_7) hi_g7)⟩ hw dX12_property_390
      · refine lv_iconst (v := 1) hx hb dX12_property_275 (by decide) ?_
        refine lv_goto (tgt := 280) hx hb dX12_property_276 (by decide) ?_
        refine lv_istore_n (lv' := [(3, .int 1), (0, .ref (ad 0)), (1, .int y1), (2, .int y2)]) hx hb dX12_property_280 rfl hl (by decide) rfl (fun ls hl => ?_)
        refine lv_aload_n hx hb dX12_property_281 rfl (lv_at hl 1 rfl) ?_
        refine lv_iload_n hx hb dX12_property_282 rfl (lv_at hl 0 rfl) ?_
        refine lv_if_eq (tgt := 290) hx hb dX12_property_283 (by decide) (fun cc89 => absurd cc89 (by decide)) (fun _ => ?_)
        refine lv_iload_n hx hb dX12_property_286 rfl (lv_at hl 3 rfl) ?_
        refine lv_goto (tgt := 294) hx hb dX12_property_287 (by decide) ?_
        refine jx_putg mw (cI := cI) (cJ := cJ) (ad := ad) (g := g1) (lg := lg) (ar := ar) (bk := bk) (x := y2) 7 (ci := 15) (C := RX12) (T := TX12) (N := 92) (ty := .int) hx hb hts (fun _ h => List.mem_cons_of_mem _ (wwMc_wsX120 _ h)) tyX12 tyX12_ok nmX12 hown hw 0 rfl rfl 7 (by decide) (hq _ wM_378) rfl (by decide +kernel) rfl rfl (Nat.le_of_ble_eq_true rfl) dX12_property_294 rfl (fun H locs g90 h_g90 hw => ?_)
        refine lv_goto (tgt := 381) hx hb dX12_property_297 (by decide) ?_
        refine lv_iload_n hx hb dX12_property_381 rfl (lv_at hl 0 rfl) ?_
        refine lv_if_eq (tgt := 389) hx hb dX12_property_382 (by decide) (fun cc91 => absurd cc91 (by decide)) (fun _ => ?_)
        refine lv_iconst (v := 1) hx hb dX12_property_385 (by decide) ?_
        refine lv_goto (tgt := 390) hx hb dX12_property_386 (by decide) ?_
        have e_g90_2 : g90 2 = (g 2) := ((hk_upgN h_g90 2 rfl)).trans (hk_upgN h_g1 2 rfl)
        have e_g90_3 : g90 3 = (g 3) := ((hk_upgN h_g90 3 rfl)).trans (hk_upgN h_g1 3 rfl)
        have e_g90_4 : g90 4 = (g 4) := ((hk_upgN h_g90 4 rfl)).trans (hk_upgN h_g1 4 rfl)
        have e_g90_5 : g90 5 = (g 5) := ((hk_upgN h_g90 5 rfl)).trans (hk_upgN h_g1 5 rfl)
        have e_g90_6 : g90 6 = (g 6) := ((hk_upgN h_g90 6 rfl)).trans (hk_upgN h_g1 6 rfl)
        have e_g90_7 : g90 7 = y2 := (hk_upgS h_g90)
        exact kr 1 g90 lg ar bk _ _ _ _ ⟨(hk_frG (hk_frG hk_fr0 (by decide) h_g1) (by decide) h_g90), rfl, rfl, rfl, (om39 ((g90 2).toInt) ((g 2).toInt) (congrArg Int32.toInt e_g90_2) hi_g2), (om39 ((g90 3).toInt) ((g 3).toInt) (congrArg Int32.toInt e_g90_3) hi_g3), (om40 ((g90 2).toInt) ((g90 3).toInt) ((g 2).toInt) ((g 3).toInt) (congrArg Int32.toInt e_g90_2) (congrArg Int32.toInt e_g90_3) hi_tlclp), (om39 ((g90 4).toInt) ((g 4).toInt) (congrArg Int32.toInt e_g90_4) hi_g4), (om41 ((g90 5).toInt) ((g 5).toInt) (congrArg Int32.toInt e_g90_5) hi_g5), (om42 ((g90 6).toInt) ((g 6).toInt) (congrArg Int32.toInt e_g90_6) hi_g6), (om52 ((g90 7).toInt) ((y2).toInt) (((1 : Int32)).toInt) (((1500 : Int32)).toInt) (congrArg Int32.toInt e_g90_7) (hE_nlt cc81) (hE_nlt cc85) (by decide) (by decide))⟩ hw dX12_property_390
  rcases hk_eqOr y1 6 with cc92 | cc92
  · refine lv_tableIn (tgt := 300) (off := 294) hx hb dX12_property_6 (by rw [cc92]; decide) (by rw [cc92]; decide) (by rw [cc92]; rfl) (by decide) ?_
    refine lv_iload_n hx hb dX12_property_300 rfl (lv_at hl 2 rfl) ?_
    refine lv_if_eq (tgt := 320) hx hb dX12_property_301 (by decide) (fun cc93 => ?_) (fun cc93 => ?_)
    · refine lv_iconst (v := 1) hx hb dX12_property_320 (by decide) ?_
      refine lv_goto (tgt := 325) hx hb dX12_property_321 (by decide) ?_
      refine lv_istore_n (lv' := [(3, .int 1), (0, .ref (ad 0)), (1, .int y1), (2, .int y2)]) hx hb dX12_property_325 rfl hl (by decide) rfl (fun ls hl => ?_)
      refine lv_aload_n hx hb dX12_property_326 rfl (lv_at hl 1 rfl) ?_
      refine lv_iload_n hx hb dX12_property_327 rfl (lv_at hl 0 rfl) ?_
      refine lv_if_eq (tgt := 335) hx hb dX12_property_328 (by decide) (fun cc94 => absurd cc94 (by decide)) (fun _ => ?_)
      refine lv_iload_n hx hb dX12_property_331 rfl (lv_at hl 3 rfl) ?_
      refine lv_goto (tgt := 339) hx hb dX12_property_332 (by decide) ?_
      refine jx_putg mw (cI := cI) (cJ := cJ) (ad := ad) (g := g1) (lg := lg) (ar := ar) (bk := bk) (x := y2) 8 (ci := 15) (C := RX12) (T := TX12) (N := 92) (ty := .int) hx hb hts (fun _ h => List.mem_cons_of_mem _ (wwMc_wsX120 _ h)) tyX12 tyX12_ok nmX12 hown hw 0 rfl rfl 8 (by decide) (hq _ wM_373) rfl (by decide +kernel) rfl rfl (Nat.le_of_ble_eq_true rfl) dX12_property_339 rfl (fun H locs g95 h_g95 hw => ?_)
      refine lv_goto (tgt := 381) hx hb dX12_property_342 (by decide) ?_
      refine lv_iload_n hx hb dX12_property_381 rfl (lv_at hl 0 rfl) ?_
      refine lv_if_eq (tgt := 389) hx hb dX12_property_382 (by decide) (fun cc96 => absurd cc96 (by decide)) (fun _ => ?_)
      refine lv_iconst (v := 1) hx hb dX12_property_385 (by decide) ?_
      refine lv_goto (tgt := 390) hx hb dX12_property_386 (by decide) ?_
      have e_g95_2 : g95 2 = (g 2) := ((hk_upgN h_g95 2 rfl)).trans (hk_upgN h_g1 2 rfl)
      have e_g95_3 : g95 3 = (g 3) := ((hk_upgN h_g95 3 rfl)).trans (hk_upgN h_g1 3 rfl)
      have e_g95_4 : g95 4 = (g 4) := ((hk_upgN h_g95 4 rfl)).trans (hk_upgN h_g1 4 rfl)
      have e_g95_5 : g95 5 = (g 5) := ((hk_upgN h_g95 5 rfl)).trans (hk_upgN h_g1 5 rfl)
      have e_g95_6 : g95 6 = (g 6) := ((hk_upgN h_g95 6 rfl)).trans (hk_upgN h_g1 6 rfl)
      have e_g95_7 : g95 7 = (g 7) := ((hk_upgN h_g95 7 rfl)).trans (hk_upgN h_g1 7 rfl)
      exact kr 1 g95 lg ar bk _ _ _ _ ⟨(hk_frG (hk_frG hk_fr0 (by decide) h_g1) (by decide) h_g95), rfl, rfl, rfl, (om39 ((g95 2).toInt) ((g 2).toInt) (congrArg Int32.toInt e_g95_2) hi_g2), (om39 ((g95 3).toInt) ((g 3).toInt) (congrArg Int32.toInt e_g95_3) hi_g3), (om40 ((g95 2).toInt) ((g95 3).toInt) ((g 2).toInt) ((g 3).toInt) (congrArg Int32.toInt e_g95_2) (congrArg Int32.toInt e_g95_3) hi_tlclp), (om39 ((g95 4).toInt) ((g 4).toInt) (congrArg Int32.toInt e_g95_4) hi_g4), (om41 ((g95 5).toInt) ((g 5).toInt) (congrArg Int32.toInt e_g95_5) hi_g5), (om42 ((g95 6).toInt) ((g 6).toInt) (congrArg Int32.toInt e_g95_6) hi_g6), (om42 ((g95 7).toInt) ((g 7).toInt) (congrArg Int32.toInt e_g95_7) hi_g7)⟩ hw dX12_property_390
    · refine lv_iload_n hx hb dX12_property_304 rfl (lv_at hl 2 rfl) ?_
      refine lv_iconst (v := 1) hx hb dX12_property_305 (by decide) ?_
      refine lv_icmp_eq (tgt := 320) hx hb dX12_property_306 (by decide) (fun cc97 => ?_) (fun cc97 => ?_)
      · refine lv_iconst (v := 1) hx hb dX12_property_320 (by decide) ?_
        refine lv_goto (tgt := 325) hx hb dX12_property_321 (by decide) ?_
        refine lv_istore_n (lv' := [(3, .int 1), (0, .ref (ad 0)), (1, .int y1), (2, .int y2)]) hx hb dX12_property_325 rfl hl (by decide) rfl (fun ls hl => ?_)
        refine lv_aload_n hx hb dX12_property_326 rfl (lv_at hl 1 rfl) ?_
        refine lv_iload_n hx hb dX12_property_327 rfl (lv_at hl 0 rfl) ?_
        refine lv_if_eq (tgt := 335) hx hb dX12_property_328 (by decide) (fun cc98 => absurd cc98 (by decide)) (fun _ => ?_)
        refine lv_iload_n hx hb dX12_property_331 rfl (lv_at hl 3 rfl) ?_
        refine lv_goto (tgt := 339) hx hb dX12_property_332 (by decide) ?_
        refine jx_putg mw (cI := cI) (cJ := cJ) (ad := ad) (g := g1) (lg := lg) (ar := ar) (bk := bk) (x := y2) 8 (ci := 15) (C := RX12) (T := TX12) (N := 92) (ty := .int) hx hb hts (fun _ h => List.mem_cons_of_mem _ (wwMc_wsX120 _ h)) tyX12 tyX12_ok nmX12 hown hw 0 rfl rfl 8 (by decide) (hq _ wM_373) rfl (by decide +kernel) rfl rfl (Nat.le_of_ble_eq_true rfl) dX12_property_339 rfl (fun H locs g99 h_g99 hw => ?_)
        refine lv_goto (tgt := 381) hx hb dX12_property_342 (by decide) ?_
        refine lv_iload_n hx hb dX12_property_381 rfl (lv_at hl 0 rfl) ?_
        refine lv_if_eq (tgt := 389) hx hb dX12_property_382 (by decide) (fun cc100 => absurd cc100 (by decide)) (fun _ => ?_)
        refine lv_iconst (v := 1) hx hb dX12_property_385 (by decide) ?_
        refine lv_goto (tgt := 390) hx hb dX12_property_386 (by decide) ?_
        have e_g99_2 : g99 2 = (g 2) := ((hk_upgN h_g99 2 rfl)).trans (hk_upgN h_g1 2 rfl)
        have e_g99_3 : g99 3 = (g 3) := ((hk_upgN h_g99 3 rfl)).trans (hk_upgN h_g1 3 rfl)
        have e_g99_4 : g99 4 = (g 4) := ((hk_upgN h_g99 4 rfl)).trans (hk_upgN h_g1 4 rfl)
        have e_g99_5 : g99 5 = (g 5) := ((hk_upgN h_g99 5 rfl)).trans (hk_upgN h_g1 5 rfl)
        have e_g99_6 : g99 6 = (g 6) := ((hk_upgN h_g99 6 rfl)).trans (hk_upgN h_g1 6 rfl)
        have e_g99_7 : g99 7 = (g 7) := ((hk_upgN h_g99 7 rfl)).trans (hk_upgN h_g1 7 rfl)
        exact kr 1 g99 lg ar bk _ _ _ _ ⟨(hk_frG (hk_frG hk_fr0 (by decide) h_g1) (by decide) h_g99), rfl, rfl, rfl, (om39 ((g99 2).toInt) ((g 2).toInt) (congrArg Int32.toInt e_g99_2) hi_g2), (om39 ((g99 3).toInt) ((g 3).toInt) (congrArg Int32.toInt e_g99_3) hi_g3), (om40 ((g99 2).toInt) ((g99 3).toInt) ((g 2).toInt) ((g 3).toInt) (congrArg Int32.toInt e_g99_2) (congrArg Int32.toInt e_g99_3) hi_tlclp), (om39 ((g99 4).toInt) ((g 4).toInt) (congrArg Int32.toInt e_g99_4) hi_g4), (om41 ((g99 5).toInt) ((g 5).toInt) (congrArg Int32.toInt e_g99_5) hi_g5), (om42 ((g99 6).toInt) ((g 6).toInt) (congrArg Int32.toInt e_g99_6) hi_g6), (om42 ((g99 7).toInt) ((g 7).toInt) (congrArg Int32.toInt e_g99_7) hi_g7)⟩ hw dX12_property_390
      · refine lv_iload_n hx hb dX12_property_309 rfl (lv_at hl 2 rfl) ?_
        refine lv_iconst (v := 4) hx hb dX12_property_310 (by decide) ?_
        refine lv_icmp_eq (tgt := 320) hx hb dX12_property_311 (by decide) (fun cc101 => ?_) (fun cc101 => ?_)
        · refine lv_iconst (v := 1) hx hb dX12_property_320 (by decide) ?_
          refine lv_goto (tgt := 325) hx hb dX12_property_321 (by decide) ?_
          refine lv_istore_n (lv' := [(3, .int 1), (0, .ref (ad 0)), (1, .int y1), (2, .int y2)]) hx hb dX12_property_325 rfl hl (by decide) rfl (fun ls hl => ?_)
          refine lv_aload_n hx hb dX12_property_326 rfl (lv_at hl 1 rfl) ?_
          refine lv_iload_n hx hb dX12_property_327 rfl (lv_at hl 0 rfl) ?_
          refine lv_if_eq (tgt := 335) hx hb dX12_property_328 (by decide) (fun cc102 => absurd cc102 (by decide)) (fun _ => ?_)
          refine lv_iload_n hx hb dX12_property_331 rfl (lv_at hl 3 rfl) ?_
          refine lv_goto (tgt := 339) hx hb dX12_property_332 (by decide) ?_
          refine jx_putg mw (cI := cI) (cJ := cJ) (ad := ad) (g := g1) (lg := lg) (ar := ar) (bk := bk) (x := y2) 8 (ci := 15) (C := RX12) (T := TX12) (N := 92) (ty := .int) hx hb hts (fun _ h => List.mem_cons_of_mem _ (wwMc_wsX120 _ h)) tyX12 tyX12_ok nmX12 hown hw 0 rfl rfl 8 (by decide) (hq _ wM_373) rfl (by decide +kernel) rfl rfl (Nat.le_of_ble_eq_true rfl) dX12_property_339 rfl (fun H locs g103 h_g103 hw => ?_)
          refine lv_goto (tgt := 381) hx hb dX12_property_342 (by decide) ?_
          refine lv_iload_n hx hb dX12_property_381 rfl (lv_at hl 0 rfl) ?_
          refine lv_if_eq (tgt := 389) hx hb dX12_property_382 (by decide) (fun cc104 => absurd cc104 (by decide)) (fun _ => ?_)
          refine lv_iconst (v := 1) hx hb dX12_property_385 (by decide) ?_
          refine lv_goto (tgt := 390) hx hb dX12_property_386 (by decide) ?_
          have e_g103_2 : g103 2 = (g 2) := ((hk_upgN h_g103 2 rfl)).trans (hk_upgN h_g1 2 rfl)
          have e_g103_3 : g103 3 = (g 3) := ((hk_upgN h_g103 3 rfl)).trans (hk_upgN h_g1 3 rfl)
          have e_g103_4 : g103 4 = (g 4) := ((hk_upgN h_g103 4 rfl)).trans (hk_upgN h_g1 4 rfl)
          have e_g103_5 : g103 5 = (g 5) := ((hk_upgN h_g103 5 rfl)).trans (hk_upgN h_g1 5 rfl)
          have e_g103_6 : g103 6 = (g 6) := ((hk_upgN h_g103 6 rfl)).trans (hk_upgN h_g1 6 rfl)
          have e_g103_7 : g103 7 = (g 7) := ((hk_upgN h_g103 7 rfl)).trans (hk_upgN h_g1 7 rfl)
          exact kr 1 g103 lg ar bk _ _ _ _ ⟨(hk_frG (hk_frG hk_fr0 (by decide) h_g1) (by decide) h_g103), rfl, rfl, rfl, (om39 ((g103 2).toInt) ((g 2).toInt) (congrArg Int32.toInt e_g103_2) hi_g2), (om39 ((g103 3).toInt) ((g 3).toInt) (congrArg Int32.toInt e_g103_3) hi_g3), (om40 ((g103 2).toInt) ((g103 3).toInt) ((g 2).toInt) ((g 3).toInt) (congrArg Int32.toInt e_g103_2) (congrArg Int32.toInt e_g103_3) hi_tlclp), (om39 ((g103 4).toInt) ((g 4).toInt) (congrArg Int32.toInt e_g103_4) hi_g4), (om41 ((g103 5).toInt) ((g 5).toInt) (congrArg Int32.toInt e_g103_5) hi_g5), (om42 ((g103 6).toInt) ((g 6).toInt) (congrArg Int32.toInt e_g103_6) hi_g6), (om42 ((g103 7).toInt) ((g 7).toInt) (congrArg Int32.toInt e_g103_7) hi_g7)⟩ hw dX12_property_390
        · refine lv_iload_n hx hb dX12_property_314 rfl (lv_at hl 2 rfl) ?_
          refine lv_bipush (v := 10) hx hb dX12_property_315 (by decide) ?_
          refine lv_icmp_ne (tgt := 324) hx hb dX12_property_317 (by decide) (fun cc105 => ?_) (fun cc105 => ?_)
          · refine lv_iconst (v := 0) hx hb dX12_property_324 (by decide) ?_
            refine lv_istore_n (lv' := [(3, .int 0), (0, .ref (ad 0)), (1, .int y1), (2, .int y2)]) hx hb dX12_property_325 rfl hl (by decide) rfl (fun ls hl => ?_)
            refine lv_aload_n hx hb dX12_property_326 rfl (lv_at hl 1 rfl) ?_
            refine lv_iload_n hx hb dX12_property_327 rfl (lv_at hl 0 rfl) ?_
            refine lv_if_eq (tgt := 335) hx hb dX12_property_328 (by decide) (fun _ => ?_) (fun cc106 => absurd (by decide) cc106)
            refine lv_aload_n hx hb dX12_property_335 rfl (lv_at hl 1 rfl) ?_
            have e_g1_8 : g1 8 = (g 8) := (hk_upgN h_g1 8 rfl)
            refine hk_get (ci := 15) (C := RX12) (T := TX12) (N := 92) (v := .int (g 8)) hx hb hts (fun _ h => List.mem_cons_of_mem _ (wwMc_wsX120 _ h)) hown hw 0 rfl rfl 8 (by decide) (hq _ wM_373) (congrArg (fun z => some (Value.int z)) e_g1_8) dX12_property_336 ?_
            refine jx_putg mw (cI := cI) (cJ := cJ) (ad := ad) (g := g1) (lg := lg) (ar := ar) (bk := bk) (x := (g 8)) 8 (ci := 15) (C := RX12) (T := TX12) (N := 92) (ty := .int) hx hb hts (fun _ h => List.mem_cons_of_mem _ (wwMc_wsX120 _ h)) tyX12 tyX12_ok nmX12 hown hw 0 rfl rfl 8 (by decide) (hq _ wM_373) rfl (by decide +kernel) rfl rfl (Nat.le_of_ble_eq_true rfl) dX12_property_339 rfl (fun H locs g107 h_g107 hw => ?_)
            refine lv_goto (tgt := 381) hx hb dX12_property_342 (by decide) ?_
            refine lv_iload_n hx hb dX12_property_381 rfl (lv_at hl 0 rfl) ?_
            refine lv_if_eq (tgt := 389) hx hb dX12_property_382 (by decide) (fun _ => ?_) (fun cc108 => absurd (by decide) cc108)
            refine lv_iconst (v := 0) hx hb dX12_property_389 (by decide) ?_
            have e_g107_2 : g107 2 = (g 2) := ((hk_upgN h_g107 2 rfl)).trans (hk_upgN h_g1 2 rfl)
            have e_g107_3 : g107 3 = (g 3) := ((hk_upgN h_g107 3 rfl)).trans (hk_upgN h_g1 3 rfl)
            have e_g107_4 : g107 4 = (g 4) := ((hk_upgN h_g107 4 rfl)).trans (hk_upgN h_g1 4 rfl)
            have e_g107_5 : g107 5 = (g 5) := ((hk_upgN h_g107 5 rfl)).trans (hk_upgN h_g1 5 rfl)
            have e_g107_6 : g107 6 = (g 6) := ((hk_upgN h_g107 6 rfl)).trans (hk_upgN h_g1 6 rfl)
            have e_g107_7 : g107 7 = (g 7) := ((hk_upgN h_g107 7 rfl)).trans (hk_upgN h_g1 7 rfl)
            exact kr 0 g107 lg ar bk _ _ _ _ ⟨(hk_frG (hk_frG hk_fr0 (by decide) h_g1) (by decide) h_g107), rfl, rfl, rfl, (om39 ((g107 2).toInt) ((g 2).toInt) (congrArg Int32.toInt e_g107_2) hi_g2), (om39 ((g107 3).toInt) ((g 3).toInt) (congrArg Int32.toInt e_g107_3) hi_g3), (om40 ((g107 2).toInt) ((g107 3).toInt) ((g 2).toInt) ((g 3).toInt) (congrArg Int32.toInt e_g107_2) (congrArg Int32.toInt e_g107_3) hi_tlclp), (om39 ((g107 4).toInt) ((g 4).toInt) (congrArg Int32.toInt e_g107_4) hi_g4), (om41 ((g107 5).toInt) ((g 5).toInt) (congrArg Int32.toInt e_g107_5) hi_g5), (om42 ((g107 6).toInt) ((g 6).toInt) (congrArg Int32.toInt e_g107_6) hi_g6), (om42 ((g107 7).toInt) ((g 7).toInt) (congrArg Int32.toInt e_g107_7) hi_g7)⟩ hw dX12_property_390
          · refine lv_iconst (v := 1) hx hb dX12_property_320 (by decide) ?_
            refine lv_goto (tgt := 325) hx hb dX12_property_321 (by decide) ?_
            refine lv_istore_n (lv' := [(3, .int 1), (0, .ref (ad 0)), (1, .int y1), (2, .int y2)]) hx hb dX12_property_325 rfl hl (by decide) rfl (fun ls hl => ?_)
            refine lv_aload_n hx hb dX12_property_326 rfl (lv_at hl 1 rfl) ?_
            refine lv_iload_n hx hb dX12_property_327 rfl (lv_at hl 0 rfl) ?_
            refine lv_if_eq (tgt := 335) hx hb dX12_property_328 (by decide) (fun cc109 => absurd cc109 (by decide)) (fun _ => ?_)
            refine lv_iload_n hx hb dX12_property_331 rfl (lv_at hl 3 rfl) ?_
            refine lv_goto (tgt := 339) hx hb dX12_property_332 (by decide) ?_
            refine jx_putg mw (cI := cI) (cJ := cJ) (ad := ad) (g := g1) (lg := lg) (ar := ar) (bk := bk) (x := y2) 8 (ci := 15) (C := RX12) (T := TX12) (N := 92) (ty := .int) hx hb hts (fun _ h => List.mem_cons_of_mem _ (wwMc_wsX120 _ h)) tyX12 tyX12_ok nmX12 hown hw 0 rfl rfl 8 (by decide) (hq _ wM_373) rfl (by decide +kernel) rfl rfl (Nat.le_of_ble_eq_true rfl) dX12_property_339 rfl (fun H locs g110 h_g110 hw => ?_)
            refine lv_goto (tgt := 381) hx hb dX12_property_342 (by decide) ?_
            refine lv_iload_n hx hb dX12_property_381 rfl (lv_at hl 0 rfl) ?_
            refine lv_if_eq (tgt := 389) hx hb dX12_property_382 (by decide) (fun cc111 => absurd cc111 (by decide)) (fun _ => ?_)
            refine lv_iconst (v := 1) hx hb dX12_property_385 (by decide) ?_
            refine lv_goto (tgt := 390) hx hb dX12_property_386 (by decide) ?_
            have e_g110_2 : g110 2 = (g 2) := ((hk_upgN h_g110 2 rfl)).trans (hk_upgN h_g1 2 rfl)
            have e_g110_3 : g110 3 = (g 3) := ((hk_upgN h_g110 3 rfl)).trans (hk_upgN h_g1 3 rfl)
            have e_g110_4 : g110 4 = (g 4) := ((hk_upgN h_g110 4 rfl)).trans (hk_upgN h_g1 4 rfl)
            have e_g110_5 : g110 5 = (g 5) := ((hk_upgN h_g110 5 rfl)).trans (hk_upgN h_g1 5 rfl)
            have e_g110_6 : g110 6 = (g 6) := ((hk_upgN h_g110 6 rfl)).trans (hk_upgN h_g1 6 rfl)
            have e_g110_7 : g110 7 = (g 7) := ((hk_upgN h_g110 7 rfl)).trans (hk_upgN h_g1 7 rfl)
            exact kr 1 g110 lg ar bk _ _ _ _ ⟨(hk_frG (hk_frG hk_fr0 (by decide) h_g1) (by decide) h_g110), rfl, rfl, rfl, (om39 ((g110 2).toInt) ((g 2).toInt) (congrArg Int32.toInt e_g110_2) hi_g2), (om39 ((g110 3).toInt) ((g 3).toInt) (congrArg Int32.toInt e_g110_3) hi_g3), (om40 ((g110 2).toInt) ((g110 3).toInt) ((g 2).toInt) ((g 3).toInt) (congrArg Int32.toInt e_g110_2) (congrArg Int32.toInt e_g110_3) hi_tlclp), (om39 ((g110 4).toInt) ((g 4).toInt) (congrArg Int32.toInt e_g110_4) hi_g4), (om41 ((g110 5).toInt) ((g 5).toInt) (congrArg Int32.toInt e_g110_5) hi_g5), (om42 ((g110 6).toInt) ((g 6).toInt) (congrArg Int32.toInt e_g110_6) hi_g6), (om42 ((g110 7).toInt) ((g 7).toInt) (congrArg Int32.toInt e_g110_7) hi_g7)⟩ hw dX12_property_390
  rcases hk_eqOr y1 7 with cc112 | cc112
  · refine lv_tableIn (tgt := 345) (off := 339) hx hb dX12_property_6 (by rw [cc112]; decide) (by rw [cc112]; decide) (by rw [cc112]; rfl) (by decide) ?_
    refine lv_iload_n hx hb dX12_property_345 rfl (lv_at hl 2 rfl) ?_
    refine lv_if_lt (tgt := 358) hx hb dX12_property_346 (by decide) (fun cc113 => ?_) (fun cc113 => ?_)
    · refine lv_iconst (v := 0) hx hb dX12_property_358 (by decide) ?_
      refine lv_istore_n (lv' := [(3, .int 0), (0, .ref (ad 0)), (1, .int y1), (2, .int y2)]) hx hb dX12_property_359 rfl hl (by decide) rfl (fun ls hl => ?_)
      refine lv_aload_n hx hb dX12_property_360 rfl (lv_at hl 1 rfl) ?_
      refine lv_iload_n hx hb dX12_property_361 rfl (lv_at hl 0 rfl) ?_
      refine lv_if_eq (tgt := 369) hx hb dX12_property_362 (by decide) (fun _ => ?_) (fun cc114 => absurd (by decide) cc114)
      refine lv_aload_n hx hb dX12_property_369 rfl (lv_at hl 1 rfl) ?_
      have e_g1_9 : g1 9 = (g 9) := (hk_upgN h_g1 9 rfl)
      refine hk_get (ci := 15) (C := RX12) (T := TX12) (N := 92) (v := .int (g 9)) hx hb hts (fun _ h => List.mem_cons_of_mem _ (wwMc_wsX120 _ h)) hown hw 0 rfl rfl 9 (by decide) (hq _ wM_417) (congrArg (fun z => some (Value.int z)) e_g1_9) dX12_property_370 ?_
      refine jx_putg mw (cI := cI) (cJ := cJ) (ad := ad) (g := g1) (lg := lg) (ar := ar) (bk := bk) (x := (g 9)) 9 (ci := 15) (C := RX12) (T := TX12) (N := 92) (ty := .int) hx hb hts (fun _ h => List.mem_cons_of_mem _ (wwMc_wsX120 _ h)) tyX12 tyX12_ok nmX12 hown hw 0 rfl rfl 9 (by decide) (hq _ wM_417) rfl (by decide +kernel) rfl rfl (Nat.le_of_ble_eq_true rfl) dX12_property_373 rfl (fun H locs g115 h_g115 hw => ?_)
      refine lv_goto (tgt := 381) hx hb dX12_property_376 (by decide) ?_
      refine lv_iload_n hx hb dX12_property_381 rfl (lv_at hl 0 rfl) ?_
      refine lv_if_eq (tgt := 389) hx hb dX12_property_382 (by decide) (fun _ => ?_) (fun cc116 => absurd (by decide) cc116)
      refine lv_iconst (v := 0) hx hb dX12_property_389 (by decide) ?_
      have e_g115_2 : g115 2 = (g 2) := ((hk_upgN h_g115 2 rfl)).trans (hk_upgN h_g1 2 rfl)
      have e_g115_3 : g115 3 = (g 3) := ((hk_upgN h_g115 3 rfl)).trans (hk_upgN h_g1 3 rfl)
      have e_g115_4 : g115 4 = (g 4) := ((hk_upgN h_g115 4 rfl)).trans (hk_upgN h_g1 4 rfl)
      have e_g115_5 : g115 5 = (g 5) := ((hk_upgN h_g115 5 rfl)).trans (hk_upgN h_g1 5 rfl)
      have e_g115_6 : g115 6 = (g 6) := ((hk_upgN h_g115 6 rfl)).trans (hk_upgN h_g1 6 rfl)
      have e_g115_7 : g115 7 = (g 7) := ((hk_upgN h_g115 7 rfl)).trans (hk_upgN h_g1 7 rfl)
      exact kr 0 g115 lg ar bk _ _ _ _ ⟨(hk_frG (hk_frG hk_fr0 (by decide) h_g1) (by decide) h_g115), rfl, rfl, rfl, (om39 ((g115 2).toInt) ((g 2).toInt) (congrArg Int32.toInt e_g115_2) hi_g2), (om39 ((g115 3).toInt) ((g 3).toInt) (congrArg Int32.toInt e_g115_3) hi_g3), (om40 ((g115 2).toInt) ((g115 3).toInt) ((g 2).toInt) ((g 3).toInt) (congrArg Int32.toInt e_g115_2) (congrArg Int32.toInt e_g115_3) hi_tlclp), (om39 ((g115 4).toInt) ((g 4).toInt) (congrArg Int32.toInt e_g115_4) hi_g4), (om41 ((g115 5).toInt) ((g 5).toInt) (congrArg Int32.toInt e_g115_5) hi_g5), (om42 ((g115 6).toInt) ((g 6).toInt) (congrArg Int32.toInt e_g115_6) hi_g6), (om42 ((g115 7).toInt) ((g 7).toInt) (congrArg Int32.toInt e_g115_7) hi_g7)⟩ hw dX12_property_390
    · refine lv_iload_n hx hb dX12_property_349 rfl (lv_at hl 2 rfl) ?_
      refine lv_iconst (v := 1) hx hb dX12_property_350 (by decide) ?_
      refine lv_icmp_gt (tgt := 358) hx hb dX12_property_351 (by decide) (fun cc117 => ?_) (fun cc117 => ?_)
      · refine lv_iconst (v := 0) hx hb dX12_property_358 (by decide) ?_
        refine lv_istore_n (lv' := [(3, .int 0), (0, .ref (ad 0)), (1, .int y1), (2, .int y2)]) hx hb dX12_property_359 rfl hl (by decide) rfl (fun ls hl => ?_)
        refine lv_aload_n hx hb dX12_property_360 rfl (lv_at hl 1 rfl) ?_
        refine lv_iload_n hx hb dX12_property_361 rfl (lv_at hl 0 rfl) ?_
        refine lv_if_eq (tgt := 369) hx hb dX12_property_362 (by decide) (fun _ => ?_) (fun cc118 => absurd (by decide) cc118)
        refine lv_aload_n hx hb dX12_property_369 rfl (lv_at hl 1 rfl) ?_
        have e_g1_9 : g1 9 = (g 9) := (hk_upgN h_g1 9 rfl)
        refine hk_get (ci := 15) (C := RX12) (T := TX12) (N := 92) (v := .int (g 9)) hx hb hts (fun _ h => List.mem_cons_of_mem _ (wwMc_wsX120 _ h)) hown hw 0 rfl rfl 9 (by decide) (hq _ wM_417) (congrArg (fun z => some (Value.int z)) e_g1_9) dX12_property_370 ?_
        refine jx_putg mw (cI := cI) (cJ := cJ) (ad := ad) (g := g1) (lg := lg) (ar := ar) (bk := bk) (x := (g 9)) 9 (ci := 15) (C := RX12) (T := TX12) (N := 92) (ty := .int) hx hb hts (fun _ h => List.mem_cons_of_mem _ (wwMc_wsX120 _ h)) tyX12 tyX12_ok nmX12 hown hw 0 rfl rfl 9 (by decide) (hq _ wM_417) rfl (by decide +kernel) rfl rfl (Nat.le_of_ble_eq_true rfl) dX12_property_373 rfl (fun H locs g119 h_g119 hw => ?_)
        refine lv_goto (tgt := 381) hx hb dX12_property_376 (by decide) ?_
        refine lv_iload_n hx hb dX12_property_381 rfl (lv_at hl 0 rfl) ?_
        refine lv_if_eq (tgt := 389) hx hb dX12_property_382 (by decide) (fun _ => ?_) (fun cc120 => absurd (by decide) cc120)
        refine lv_iconst (v := 0) hx hb dX12_property_389 (by decide) ?_
        have e_g119_2 : g119 2 = (g 2) := ((hk_upgN h_g119 2 rfl)).trans (hk_upgN h_g1 2 rfl)
        have e_g119_3 : g119 3 = (g 3) := ((hk_upgN h_g119 3 rfl)).trans (hk_upgN h_g1 3 rfl)
        have e_g119_4 : g119 4 = (g 4) := ((hk_upgN h_g119 4 rfl)).trans (hk_upgN h_g1 4 rfl)
        have e_g119_5 : g119 5 = (g 5) := ((hk_upgN h_g119 5 rfl)).trans (hk_upgN h_g1 5 rfl)
        have e_g119_6 : g119 6 = (g 6) := ((hk_upgN h_g119 6 rfl)).trans (hk_upgN h_g1 6 rfl)
        have e_g119_7 : g119 7 = (g 7) := ((hk_upgN h_g119 7 rfl)).trans (hk_upgN h_g1 7 rfl)
        exact kr 0 g119 lg ar bk _ _ _ _ ⟨(hk_frG (hk_frG hk_fr0 (by decide) h_g1) (by decide) h_g119), rfl, rfl, rfl, (om39 ((g119 2).toInt) ((g 2).toInt) (congrArg Int32.toInt e_g119_2) hi_g2), (om39 ((g119 3).toInt) ((g 3).toInt) (congrArg Int32.toInt e_g119_3) hi_g3), (om40 ((g119 2).toInt) ((g119 3).toInt) ((g 2).toInt) ((g 3).toInt) (congrArg Int32.toInt e_g119_2) (congrArg Int32.toInt e_g119_3) hi_tlclp), (om39 ((g119 4).toInt) ((g 4).toInt) (congrArg Int32.toInt e_g119_4) hi_g4), (om41 ((g119 5).toInt) ((g 5).toInt) (congrArg Int32.toInt e_g119_5) hi_g5), (om42 ((g119 6).toInt) ((g 6).toInt) (congrArg Int32.toInt e_g119_6) hi_g6), (om42 ((g119 7).toInt) ((g 7).toInt) (congrArg Int32.toInt e_g119_7) hi_g7)⟩ hw dX12_property_390
      · refine lv_iconst (v := 1) hx hb dX12_property_354 (by decide) ?_
        refine lv_goto (tgt := 359) hx hb dX12_property_355 (by decide) ?_
        refine lv_istore_n (lv' := [(3, .int 1), (0, .ref (ad 0)), (1, .int y1), (2, .int y2)]) hx hb dX12_property_359 rfl hl (by decide) rfl (fun ls hl => ?_)
        refine lv_aload_n hx hb dX12_property_360 rfl (lv_at hl 1 rfl) ?_
        refine lv_iload_n hx hb dX12_property_361 rfl (lv_at hl 0 rfl) ?_
        refine lv_if_eq (tgt := 369) hx hb dX12_property_362 (by decide) (fun cc121 => absurd cc121 (by decide)) (fun _ => ?_)
        refine lv_iload_n hx hb dX12_property_365 rfl (lv_at hl 3 rfl) ?_
        refine lv_goto (tgt := 373) hx hb dX12_property_366 (by decide) ?_
        refine jx_putg mw (cI := cI) (cJ := cJ) (ad := ad) (g := g1) (lg := lg) (ar := ar) (bk := bk) (x := y2) 9 (ci := 15) (C := RX12) (T := TX12) (N := 92) (ty := .int) hx hb hts (fun _ h => List.mem_cons_of_mem _ (wwMc_wsX120 _ h)) tyX12 tyX12_ok nmX12 hown hw 0 rfl rfl 9 (by decide) (hq _ wM_417) rfl (by decide +kernel) rfl rfl (Nat.le_of_ble_eq_true rfl) dX12_property_373 rfl (fun H locs g122 h_g122 hw => ?_)
        refine lv_goto (tgt := 381) hx hb dX12_property_376 (by decide) ?_
        refine lv_iload_n hx hb dX12_property_381 rfl (lv_at hl 0 rfl) ?_
        refine lv_if_eq (tgt := 389) hx hb dX12_property_382 (by decide) (fun cc123 => absurd cc123 (by decide)) (fun _ => ?_)
        refine lv_iconst (v := 1) hx hb dX12_property_385 (by decide) ?_
        refine lv_goto (tgt := 390) hx hb dX12_property_386 (by decide) ?_
        have e_g122_2 : g122 2 = (g 2) := ((hk_upgN h_g122 2 rfl)).trans (hk_upgN h_g1 2 rfl)
        have e_g122_3 : g122 3 = (g 3) := ((hk_upgN h_g122 3 rfl)).trans (hk_upgN h_g1 3 rfl)
        have e_g122_4 : g122 4 = (g 4) := ((hk_upgN h_g122 4 rfl)).trans (hk_upgN h_g1 4 rfl)
        have e_g122_5 : g122 5 = (g 5) := ((hk_upgN h_g122 5 rfl)).trans (hk_upgN h_g1 5 rfl)
        have e_g122_6 : g122 6 = (g 6) := ((hk_upgN h_g122 6 rfl)).trans (hk_upgN h_g1 6 rfl)
        have e_g122_7 : g122 7 = (g 7) := ((hk_upgN h_g122 7 rfl)).trans (hk_upgN h_g1 7 rfl)
        exact kr 1 g122 lg ar bk _ _ _ _ ⟨(hk_frG (hk_frG hk_fr0 (by decide) h_g1) (by decide) h_g122), rfl, rfl, rfl, (om39 ((g122 2).toInt) ((g 2).toInt) (congrArg Int32.toInt e_g122_2) hi_g2), (om39 ((g122 3).toInt) ((g 3).toInt) (congrArg Int32.toInt e_g122_3) hi_g3), (om40 ((g122 2).toInt) ((g122 3).toInt) ((g 2).toInt) ((g 3).toInt) (congrArg Int32.toInt e_g122_2) (congrArg Int32.toInt e_g122_3) hi_tlclp), (om39 ((g122 4).toInt) ((g 4).toInt) (congrArg Int32.toInt e_g122_4) hi_g4), (om41 ((g122 5).toInt) ((g 5).toInt) (congrArg Int32.toInt e_g122_5) hi_g5), (om42 ((g122 6).toInt) ((g 6).toInt) (congrArg Int32.toInt e_g122_6) hi_g6), (om42 ((g122 7).toInt) ((g 7).toInt) (congrArg Int32.toInt e_g122_7) hi_g7)⟩ hw dX12_property_390
  refine lv_tableOut (tgt := 379) hx hb dX12_property_6 (by simp only [← Int32.toInt_inj, hk_t0, hk_t1, hk_t2, hk_t3, hk_t4, hk_t5, hk_t6, hk_t7] at cc2 cc19 cc36 cc48 cc68 cc80 cc92 cc112; omega) (by decide) ?_
  refine lv_iconst (v := 0) hx hb dX12_property_379 (by decide) ?_
  refine lv_istore_n (lv' := [(3, .int 0), (0, .ref (ad 0)), (1, .int y1), (2, .int y2)]) hx hb dX12_property_380 rfl hl (by decide) rfl (fun ls hl => ?_)
  refine lv_iload_n hx hb dX12_property_381 rfl (lv_at hl 0 rfl) ?_
  refine lv_if_eq (tgt := 389) hx hb dX12_property_382 (by decide) (fun _ => ?_) (fun cc124 => absurd (by decide) cc124)
  refine lv_iconst (v := 0) hx hb dX12_property_389 (by decide) ?_
  have e_g1_2 : g1 2 = (g 2) := (hk_upgN h_g1 2 rfl)
  have e_g1_3 : g1 3 = (g 3) := (hk_upgN h_g1 3 rfl)
  have e_g1_4 : g1 4 = (g 4) := (hk_upgN h_g1 4 rfl)
  have e_g1_5 : g1 5 = (g 5) := (hk_upgN h_g1 5 rfl)
  have e_g1_6 : g1 6 = (g 6) := (hk_upgN h_g1 6 rfl)
  have e_g1_7 : g1 7 = (g 7) := (hk_upgN h_g1 7 rfl)
  exact kr 0 g1 lg ar bk _ _ _ _ ⟨(hk_frG hk_fr0 (by decide) h_g1), rfl, rfl, rfl, (om39 ((g1 2).toInt) ((g 2).toInt) (congrArg Int32.toInt e_g1_2) hi_g2), (om39 ((g1 3).toInt) ((g 3).toInt) (congrArg Int32.toInt e_g1_3) hi_g3), (om40 ((g1 2).toInt) ((g1 3).toInt) ((g 2).toInt) ((g 3).toInt) (congrArg Int32.toInt e_g1_2) (congrArg Int32.toInt e_g1_3) hi_tlclp), (om39 ((g1 4).toInt) ((g 4).toInt) (congrArg Int32.toInt e_g1_4) hi_g4), (om41 ((g1 5).toInt) ((g 5).toInt) (congrArg Int32.toInt e_g1_5) hi_g5), (om42 ((g1 6).toInt) ((g 6).toInt) (congrArg Int32.toInt e_g1_6) hi_g6), (om42 ((g1 7).toInt) ((g 7).toInt) (congrArg Int32.toInt e_g1_7) hi_g7)⟩ hw dX12_property_390

set_option maxHeartbeats 4000000 in
set_option maxRecDepth 100000 in
/-- X12_begin32 on (0,) -/
theorem jm_X12_begin32 (l : Launch) (hlt : l.stackTraces = false) (D : va_G) (t3 : Nat × Nat × Nat) (cI cJ : ClassId) (ad : Nat → Nat) (g : Nat → Int32) (lg : Nat → Int64) (ar : Nat → Nat → Int32) (bk : Nat → Int64) (sz : Nat) : JMv l yX12_begin32 (Cond.code yX12_begin32 cX12_begin32 1 none :: wwM) { frames := 0, cells := 0, slots := 0, locals := 0 } t3 D mw cI cJ ad [.ref (ad 0)] (mw cI cJ ad g lg ar bk) sz 0 0 (fun g' lg' ar' bk' => hk_fr [14] g g' ∧ lg = lg' ∧ ar = ar' ∧ bk = bk') (fun g' lg' ar' bk' => False) := by
  refine jx_metv (cc := cX12_begin32) (maxL := 1) (ret := none) rfl (by decide) rfl (Nat.le_of_ble_eq_true rfl) ?_
  intro p e s m args below meth c ls Q A hx hb hml hown hts hA hZ hw hl hQ kr kt
  have hq : ∀ w ∈ wwM, w.before args s = true := fun w h => hts w (List.mem_cons_of_mem _ h)
  have hl : lv_has ls 1 [(0, .ref (ad 0))] := hl
  refine lv_aload_n hx hb dX12_begin32_0 rfl (lv_at hl 0 rfl) ?_
  refine lv_iconst (v := (-1)) hx hb dX12_begin32_1 (by decide) ?_
  refine jx_putg mw (cI := cI) (cJ := cJ) (ad := ad) (g := g) (lg := lg) (ar := ar) (bk := bk) (x := (-1)) 14 (ci := 15) (C := RX12) (T := TX12) (N := 92) (ty := .int) hx hb hts (fun _ h => List.mem_cons_of_mem _ (wwMc_wsX120 _ h)) tyX12 tyX12_ok nmX12 hown hw 0 rfl rfl 17 (by decide) (hq _ wM_0) rfl (by decide +kernel) rfl rfl (Nat.le_of_ble_eq_true rfl) dX12_begin32_2 rfl (fun H locs g1 h_g1 hw => ?_)
  exact kr g1 lg ar bk _ _ _ _ ⟨(hk_frG hk_fr0 (by decide) h_g1), rfl, rfl, rfl⟩ hw dX12_begin32_5

set_option maxHeartbeats 4000000 in
set_option maxRecDepth 100000 in
/-- X12_add32 on (0,) -/
theorem jm_X12_add32 (l : Launch) (hlt : l.stackTraces = false) (D : va_G) (t3 : Nat × Nat × Nat) (cI cJ : ClassId) (ad : Nat → Nat) (g : Nat → Int32) (lg : Nat → Int64) (ar : Nat → Nat → Int32) (bk : Nat → Int64) (sz : Nat) (y1 : Int32) : JMv l yX12_add32 (Cond.code yX12_add32 cX12_add32 2 none :: wwM) { frames := 0, cells := 0, slots := 0, locals := 0 } t3 D mw cI cJ ad [.ref (ad 0), .int y1] (mw cI cJ ad g lg ar bk) sz 0 0 (fun g' lg' ar' bk' => hk_fr [14] g g' ∧ lg = lg' ∧ ar = ar' ∧ bk = bk') (fun g' lg' ar' bk' => False) := by
  refine jx_metv (cc := cX12_add32) (maxL := 2) (ret := none) rfl (by decide) rfl (Nat.le_of_ble_eq_true rfl) ?_
  intro p e s m args below meth c ls Q A hx hb hml hown hts hA hZ hw hl hQ kr kt
  have hq : ∀ w ∈ wwM, w.before args s = true := fun w h => hts w (List.mem_cons_of_mem _ h)
  have hl : lv_has ls 2 [(0, .ref (ad 0)), (1, .int y1)] := hl
  refine lv_aload_n hx hb dX12_add32_0 rfl (lv_at hl 0 rfl) ?_
  refine lv_aload_n hx hb dX12_add32_1 rfl (lv_at hl 0 rfl) ?_
  refine hk_get (ci := 15) (C := RX12) (T := TX12) (N := 92) (v := .int (g 14)) hx hb hts (fun _ h => List.mem_cons_of_mem _ (wwMc_wsX120 _ h)) hown hw 0 rfl rfl 17 (by decide) (hq _ wM_0) rfl dX12_add32_2 ?_
  refine lv_bipush (v := 8) hx hb dX12_add32_5 (by decide) ?_
  refine lv_iushr hx hb dX12_add32_7 rfl (jx_nm fun z1 hz1 => ?_)
  refine lv_aload_n hx hb dX12_add32_8 rfl (lv_at hl 0 rfl) ?_
  refine hk_get (ci := 15) (C := RX12) (T := TX12) (N := 92) (v := .ref (ad 3)) hx hb hts (fun _ h => List.mem_cons_of_mem _ (wwMc_wsX120 _ h)) hown hw 0 rfl rfl 16 (by decide) (hq _ wM_1) rfl dX12_add32_9 ?_
  refine lv_aload_n hx hb dX12_add32_12 rfl (lv_at hl 0 rfl) ?_
  refine hk_get (ci := 15) (C := RX12) (T := TX12) (N := 92) (v := .int (g 14)) hx hb hts (fun _ h => List.mem_cons_of_mem _ (wwMc_wsX120 _ h)) hown hw 0 rfl rfl 17 (by decide) (hq _ wM_0) rfl dX12_add32_13 ?_
  refine lv_iload_n hx hb dX12_add32_16 rfl (lv_at hl 1 rfl) ?_
  refine lv_ixor hx hb dX12_add32_17 (jx_nm fun z2 hz2 => ?_)
  refine lv_sipush (v := 255) hx hb dX12_add32_18 (by decide) ?_
  refine lv_iand hx hb dX12_add32_21 (jx_nm fun z3 hz3 => ?_)
  refine jx_iald hx hb hw 3 0 rfl rfl (hE_in (n := 256) (om53 ((z3).toInt) ((z2).toInt) (hE_and 8 256 hz3 (by decide) (by decide) (by decide)))) dX12_add32_22 (fun z4 hz4 => ?_)
  refine lv_ixor hx hb dX12_add32_23 (jx_nm fun z5 hz5 => ?_)
  refine jx_putg mw (cI := cI) (cJ := cJ) (ad := ad) (g := g) (lg := lg) (ar := ar) (bk := bk) (x := z5) 14 (ci := 15) (C := RX12) (T := TX12) (N := 92) (ty := .int) hx hb hts (fun _ h => List.mem_cons_of_mem _ (wwMc_wsX120 _ h)) tyX12 tyX12_ok nmX12 hown hw 0 rfl rfl 17 (by decide) (hq _ wM_0) rfl (by decide +kernel) rfl rfl (Nat.le_of_ble_eq_true rfl) dX12_add32_24 rfl (fun H locs g6 h_g6 hw => ?_)
  exact kr g6 lg ar bk _ _ _ _ ⟨(hk_frG hk_fr0 (by decide) h_g6), rfl, rfl, rfl⟩ hw dX12_add32_27

set_option maxHeartbeats 4000000 in
set_option maxRecDepth 100000 in
/-- X12_end32 on (0,) -/
theorem jm_X12_end32 (l : Launch) (hlt : l.stackTraces = false) (D : va_G) (t3 : Nat × Nat × Nat) (cI cJ : ClassId) (ad : Nat → Nat) (g : Nat → Int32) (lg : Nat → Int64) (ar : Nat → Nat → Int32) (bk : Nat → Int64) (sz : Nat) : JMi l yX12_end32 (Cond.code yX12_end32 cX12_end32 1 (some .int) :: wwM) { frames := 0, cells := 0, slots := 0, locals := 0 } t3 D mw cI cJ ad [.ref (ad 0)] (mw cI cJ ad g lg ar bk) sz 0 0 (fun (r : Int32) g' lg' ar' bk' => g = g' ∧ lg = lg' ∧ ar = ar' ∧ bk = bk') (fun g' lg' ar' bk' => False) := by
  refine jx_meti (cc := cX12_end32) (maxL := 1) (ret := (some .int)) rfl (by decide) rfl (Nat.le_of_ble_eq_true rfl) ?_
  intro p e s m args below meth c ls Q A hx hb hml hown hts hA hZ hw hl hQ kr kt
  have hq : ∀ w ∈ wwM, w.before args s = true := fun w h => hts w (List.mem_cons_of_mem _ h)
  have hl : lv_has ls 1 [(0, .ref (ad 0))] := hl
  refine lv_aload_n hx hb dX12_end32_0 rfl (lv_at hl 0 rfl) ?_
  refine hk_get (ci := 15) (C := RX12) (T := TX12) (N := 92) (v := .int (g 14)) hx hb hts (fun _ h => List.mem_cons_of_mem _ (wwMc_wsX120 _ h)) hown hw 0 rfl rfl 17 (by decide) (hq _ wM_0) rfl dX12_end32_1 ?_
  refine lv_iconst (v := (-1)) hx hb dX12_end32_4 (by decide) ?_
  refine lv_ixor hx hb dX12_end32_5 (jx_nm fun z1 hz1 => ?_)
  exact kr z1 g lg ar bk _ _ _ _ ⟨rfl, rfl, rfl, rfl⟩ hw dX12_end32_6

set_option maxHeartbeats 4000000 in
set_option maxRecDepth 100000 in
/-- X12_add64 on (0,) -/
theorem jm_X12_add64 (l : Launch) (hlt : l.stackTraces = false) (D : va_G) (t3 : Nat × Nat × Nat) (cI cJ : ClassId) (ad : Nat → Nat) (g : Nat → Int32) (lg : Nat → Int64) (ar : Nat → Nat → Int32) (bk : Nat → Int64) (sz : Nat) (y1 : Int32) : JMv l yX12_add64 (Cond.code yX12_add64 cX12_add64 3 none :: wwM) { frames := 0, cells := 0, slots := 0, locals := 0 } t3 D mw cI cJ ad [.ref (ad 0), .int y1] (mw cI cJ ad g lg ar bk) sz 0 0 (fun g' lg' ar' bk' => g = g' ∧ hk_fr [0] lg lg' ∧ ar = ar' ∧ bk = bk') (fun g' lg' ar' bk' => False) := by
  refine jx_metv (cc := cX12_add64) (maxL := 3) (ret := none) rfl (by decide) rfl (Nat.le_of_ble_eq_true rfl) ?_
  intro p e s m args below meth c ls Q A hx hb hml hown hts hA hZ hw hl hQ kr kt
  have hq : ∀ w ∈ wwM, w.before args s = true := fun w h => hts w (List.mem_cons_of_mem _ h)
  have hl : lv_has ls 3 [(0, .ref (ad 0)), (1, .int y1)] := hl
  refine lv_aload_n hx hb dX12_add64_0 rfl (lv_at hl 0 rfl) ?_
  refine lv_aload_n hx hb dX12_add64_1 rfl (lv_at hl 0 rfl) ?_
  refine hk_get (ci := 15) (C := RX12) (T := TX12) (N := 92) (v := .long (lg 0)) hx hb hts (fun _ h => List.mem_cons_of_mem _ (wwMc_wsX120 _ h)) hown hw 0 rfl rfl 18 (by decide) (hq _ wM_2) rfl dX12_add64_2 ?_
  refine lv_iload_n hx hb dX12_add64_5 rfl (lv_at hl 1 rfl) ?_
  refine lv_i2l hx hb dX12_add64_6 rfl (jx_nl fun z1 hz1 => ?_)
  refine lv_lxor hx hb dX12_add64_7 (jx_nl fun z2 hz2 => ?_)
  refine jx_putl mw (cI := cI) (cJ := cJ) (ad := ad) (g := g) (lg := lg) (ar := ar) (bk := bk) (x := z2) 0 (ci := 15) (C := RX12) (T := TX12) (N := 92) (ty := .long) hx hb hts (fun _ h => List.mem_cons_of_mem _ (wwMc_wsX120 _ h)) tyX12 tyX12_ok nmX12 hown hw 0 rfl rfl 18 (by decide) (hq _ wM_2) rfl (by decide +kernel) rfl rfl (Nat.le_of_ble_eq_true rfl) dX12_add64_8 rfl (fun H locs l3 h_l3 hw => ?_)
  refine lv_iconst (v := 0) hx hb dX12_add64_11 (by decide) ?_
  refine lv_istore_n (lv' := [(2, .int 0), (0, .ref (ad 0)), (1, .int y1)]) hx hb dX12_add64_12 rfl hl (by decide) rfl (fun ls hl => ?_)
  have B4 : ∀ (k7 : Nat) (x5 : Int32) (l6 : Nat → Int64) (ls : Array Slot) (H : Heap) (locs : List Loc), (2147483648 - (x5).toInt ≤ (k7 : Int)) → (0 ≤ (x5).toInt) → (hk_fr [0] l3 l6) → hk_W D (jT cI cJ) A s H locs (mw cI cJ ad g l6 ar bk) → lv_has ls 3 [(0, .ref (ad 0)), (2, .int x5)] → W p l e { frames := 0, cells := 0, slots := 0, locals := 0 } s m args below meth c H locs 0 0 Q (F0 m 13 ls []) := by
    intro k7
    induction k7 with
    | zero =>
      intro x5 l6 ls H locs hrk_B4 hf_B4_0 hfr_l6 hw hl
      exact False.elim (hk_no0 (0 * (x5).toInt) (om30 ((x5).toInt) hrk_B4 (hE_rng (x5))) (by simp))
    | succ k7 ih_B4 =>
      intro x5 l6 ls H locs hrk_B4 hf_B4_0 hfr_l6 hw hl
      have hrk_B4 := hk_rk hrk_B4
      refine lv_iload_n hx hb dX12_add64_13 rfl (lv_at hl 1 rfl) ?_
      refine lv_bipush (v := 8) hx hb dX12_add64_14 (by decide) ?_
      refine lv_icmp_ge (tgt := 59) hx hb dX12_add64_16 (by decide) (fun cc8 => ?_) (fun cc8 => ?_)
      · exact kr g l6 ar bk _ _ _ _ ⟨rfl, (hk_frT (hk_frL hk_fr0 (by decide) h_l3) (by decide) hfr_l6), rfl, rfl⟩ hw dX12_add64_59
      · refine lv_aload_n hx hb dX12_add64_19 rfl (lv_at hl 0 rfl) ?_
        refine lv_aload_n hx hb dX12_add64_20 rfl (lv_at hl 0 rfl) ?_
        refine hk_get (ci := 15) (C := RX12) (T := TX12) (N := 92) (v := .long (l6 0)) hx hb hts (fun _ h => List.mem_cons_of_mem _ (wwMc_wsX120 _ h)) hown hw 0 rfl rfl 18 (by decide) (hq _ wM_2) rfl dX12_add64_21 ?_
        refine lv_lconst (v := 1) hx hb dX12_add64_24 (by decide) ?_
        refine lv_land hx hb dX12_add64_25 (jx_nl fun z9 hz9 => ?_)
        refine lv_lconst (v := 1) hx hb dX12_add64_26 (by decide) ?_
        have B10 : ∀  (x11 : Int64) (ls : Array Slot) (H : Heap) (locs : List Loc), hk_W D (jT cI cJ) A s H locs (mw cI cJ ad g l6 ar bk) → lv_has ls 3 [(0, .ref (ad 0)), (2, .int x5)] → W p l e { frames := 0, cells := 0, slots := 0, locals := 0 } s m args below meth c H locs 0 0 Q (F0 m 50 ls [.long x11, .ref (ad 0)]) := by
          intro x11 ls H locs hw hl
          refine jx_putl mw (cI := cI) (cJ := cJ) (ad := ad) (g := g) (lg := l6) (ar := ar) (bk := bk) (x := x11) 0 (ci := 15) (C := RX12) (T := TX12) (N := 92) (ty := .long) hx hb hts (fun _ h => List.mem_cons_of_mem _ (wwMc_wsX120 _ h)) tyX12 tyX12_ok nmX12 hown hw 0 rfl rfl 18 (by decide) (hq _ wM_2) rfl (by decide +kernel) rfl rfl (Nat.le_of_ble_eq_true rfl) dX12_add64_50 rfl (fun H locs l12 h_l12 hw => ?_)
          obtain ⟨z13, hz13⟩ : ∃ z : Int32, x5 + 1 = z := ⟨_, rfl⟩
          refine lv_iinc (v := z13) (lv' := [(2, .int z13), (0, .ref (ad 0))]) hx hb dX12_add64_53 hl (k := 1) rfl hz13 (by decide) rfl (fun ls hl => ?_)
          have xz13 : (z13).toInt = (x5).toInt + ((1 : Int32)).toInt := (hE_imp (hE_add hz13) (om54 ((x5).toInt) (((1 : Int32)).toInt) (((8 : Int32)).toInt) hf_B4_0 (hE_nle cc8) (by decide) (by decide)))
          refine lv_goto (tgt := 13) hx hb dX12_add64_56 (by decide) ?_
          exact ih_B4 z13 l12 ls _ _ (om11 ((z13).toInt) (k7 : Int) ((x5).toInt) (((1 : Int32)).toInt) hrk_B4 xz13 (by decide)) (om14 ((z13).toInt) ((x5).toInt) (((1 : Int32)).toInt) xz13 hf_B4_0 (by decide)) (hk_frL hfr_l6 (by decide) h_l12) hw (lv_sub hl [1, 0] rfl)
        refine hk_lcmp_ne (tgt := 44) hx hb dX12_add64_27 dX12_add64_28 (by decide) (fun cc14 => ?_) (fun cc14 => ?_)
        · refine lv_aload_n hx hb dX12_add64_44 rfl (lv_at hl 0 rfl) ?_
          refine hk_get (ci := 15) (C := RX12) (T := TX12) (N := 92) (v := .long (l6 0)) hx hb hts (fun _ h => List.mem_cons_of_mem _ (wwMc_wsX120 _ h)) hown hw 0 rfl rfl 18 (by decide) (hq _ wM_2) rfl dX12_add64_45 ?_
          refine lv_iconst (v := 1) hx hb dX12_add64_48 (by decide) ?_
          refine lv_lushr hx hb dX12_add64_49 rfl (jx_nl fun z15 hz15 => ?_)
          exact B10 z15 ls _ _ hw (lv_sub hl [0, 1] rfl)
        · refine lv_aload_n hx hb dX12_add64_31 rfl (lv_at hl 0 rfl) ?_
          refine hk_get (ci := 15) (C := RX12) (T := TX12) (N := 92) (v := .long (l6 0)) hx hb hts (fun _ h => List.mem_cons_of_mem _ (wwMc_wsX120 _ h)) hown hw 0 rfl rfl 18 (by decide) (hq _ wM_2) rfl dX12_add64_32 ?_
          refine lv_iconst (v := 1) hx hb dX12_add64_35 (by decide) ?_
          refine lv_lushr hx hb dX12_add64_36 rfl (jx_nl fun z16 hz16 => ?_)
          refine lv_ldc2 (v := (-3932672073523589310)) hx hb hown (hq _ wM_3) dX12_add64_37 ?_
          refine lv_lxor hx hb dX12_add64_40 (jx_nl fun z17 hz17 => ?_)
          refine lv_goto (tgt := 50) hx hb dX12_add64_41 (by decide) ?_
          exact B10 z17 ls _ _ hw (lv_sub hl [0, 1] rfl)
  exact B4 (2147483648 - ((0 : Int32)).toInt).toNat 0 l3 ls _ _ (Int.self_le_toNat _) (om18 (((0 : Int32)).toInt) (by decide)) hk_fr0 hw (lv_sub hl [1, 0] rfl)

set_option maxHeartbeats 4000000 in
set_option maxRecDepth 100000 in
/-- X12_beginSha on (0,) -/
theorem jm_X12_beginSha (l : Launch) (hlt : l.stackTraces = false) (D : va_G) (t3 : Nat × Nat × Nat) (cI cJ : ClassId) (ad : Nat → Nat) (g : Nat → Int32) (lg : Nat → Int64) (ar : Nat → Nat → Int32) (bk : Nat → Int64) (sz : Nat) (hi_g15 : 0 ≤ (g 15).toInt ∧ (g 15).toInt ≤ 63) : JMv l yX12_beginSha (Cond.code yX12_beginSha cX12_beginSha 1 none :: wwM) { frames := 0, cells := 0, slots := 0, locals := 0 } t3 D mw cI cJ ad [.ref (ad 0)] (mw cI cJ ad g lg ar bk) sz 0 0 (fun g' lg' ar' bk' => hk_fr [15] g g' ∧ hk_fr [1] lg lg' ∧ hk_fr [3] ar ar' ∧ bk = bk' ∧ (0 ≤ (g' 15).toInt ∧ (g' 15).toInt ≤ 63)) (fun g' lg' ar' bk' => False) := by
  refine jx_metv (cc := cX12_beginSha) (maxL := 1) (ret := none) rfl (by decide) rfl (Nat.le_of_ble_eq_true rfl) ?_
  intro p e s m args below meth c ls Q A hx hb hml hown hts hA hZ hw hl hQ kr kt
  have hq : ∀ w ∈ wwM, w.before args s = true := fun w h => hts w (List.mem_cons_of_mem _ h)
  have hl : lv_has ls 1 [(0, .ref (ad 0))] := hl
  refine lv_aload_n hx hb dX12_beginSha_0 rfl (lv_at hl 0 rfl) ?_
  refine hk_get (ci := 15) (C := RX12) (T := TX12) (N := 92) (v := .ref (ad 4)) hx hb hts (fun _ h => List.mem_cons_of_mem _ (wwMc_wsX120 _ h)) hown hw 0 rfl rfl 19 (by decide) (hq _ wM_69) rfl dX12_beginSha_1 ?_
  refine lv_iconst (v := 0) hx hb dX12_beginSha_4 (by decide) ?_
  refine lv_ldc (v := 1779033703) hx hb hown (hq _ wM_70) dX12_beginSha_5 ?_
  refine jx_iast mw (cI := cI) (cJ := cJ) (ad := ad) (g := g) (lg := lg) (ar := ar) (bk := bk) 3 hx hb hw 4 0 rfl rfl (show ¬ (_ ∨ _) by decide) dX12_beginSha_7 rfl (fun H locs a1 h_a1 hw => ?_)
  refine lv_aload_n hx hb dX12_beginSha_8 rfl (lv_at hl 0 rfl) ?_
  refine hk_get (ci := 15) (C := RX12) (T := TX12) (N := 92) (v := .ref (ad 4)) hx hb hts (fun _ h => List.mem_cons_of_mem _ (wwMc_wsX120 _ h)) hown hw 0 rfl rfl 19 (by decide) (hq _ wM_69) rfl dX12_beginSha_9 ?_
  refine lv_iconst (v := 1) hx hb dX12_beginSha_12 (by decide) ?_
  refine lv_ldc (v := (-1150833019)) hx hb hown (hq _ wM_71) dX12_beginSha_13 ?_
  refine jx_iast mw (cI := cI) (cJ := cJ) (ad := ad) (g := g) (lg := lg) (ar := a1) (bk := bk) 3 hx hb hw 4 0 rfl rfl (show ¬ (_ ∨ _) by decide) dX12_beginSha_15 rfl (fun H locs a2 h_a2 hw => ?_)
  refine lv_aload_n hx hb dX12_beginSha_16 rfl (lv_at hl 0 rfl) ?_
  refine hk_get (ci := 15) (C := RX12) (T := TX12) (N := 92) (v := .ref (ad 4)) hx hb hts (fun _ h => List.mem_cons_of_mem _ (wwMc_wsX120 _ h)) hown hw 0 rfl rfl 19 (by decide) (hq _ wM_69) rfl dX12_beginSha_17 ?_
  refine lv_iconst (v := 2) hx hb dX12_beginSha_20 (by decide) ?_
  refine lv_ldc (v := 1013904242) hx hb hown (hq _ wM_72) dX12_beginSha_21 ?_
  refine jx_iast mw (cI := cI) (cJ := cJ) (ad := ad) (g := g) (lg := lg) (ar := a2) (bk := bk) 3 hx hb hw 4 0 rfl rfl (show ¬ (_ ∨ _) by decide) dX12_beginSha_23 rfl (fun H locs a3 h_a3 hw => ?_)
  refine lv_aload_n hx hb dX12_beginSha_24 rfl (lv_at hl 0 rfl) ?_
  refine hk_get (ci := 15) (C := RX12) (T := TX12) (N := 92) (v := .ref (ad 4)) hx hb hts (fun _ h => List.mem_cons_of_mem _ (wwMc_wsX120 _ h)) hown hw 0 rfl rfl 19 (by decide) (hq _ wM_69) rfl dX12_beginSha_25 ?_
  refine lv_iconst (v := 3) hx hb dX12_beginSha_28 (by decide) ?_
  refine lv_ldc (v := (-1521486534)) hx hb hown (hq _ wM_73) dX12_beginSha_29 ?_
  refine jx_iast mw (cI := cI) (cJ := cJ) (ad := ad) (g := g) (lg := lg) (ar := a3) (bk := bk) 3 hx hb hw 4 0 rfl rfl (show ¬ (_ ∨ _) by decide) dX12_beginSha_31 rfl (fun H locs a4 h_a4 hw => ?_)
  refine lv_aload_n hx hb dX12_beginSha_32 rfl (lv_at hl 0 rfl) ?_
  refine hk_get (ci := 15) (C := RX12) (T := TX12) (N := 92) (v := .ref (ad 4)) hx hb hts (fun _ h => List.mem_cons_of_mem _ (wwMc_wsX120 _ h)) hown hw 0 rfl rfl 19 (by decide) (hq _ wM_69) rfl dX12_beginSha_33 ?_
  refine lv_iconst (v := 4) hx hb dX12_beginSha_36 (by decide) ?_
  refine lv_ldc (v := 1359893119) hx hb hown (hq _ wM_74) dX12_beginSha_37 ?_
  refine jx_iast mw (cI := cI) (cJ := cJ) (ad := ad) (g := g) (lg := lg) (ar := a4) (bk := bk) 3 hx hb hw 4 0 rfl rfl (show ¬ (_ ∨ _) by decide) dX12_beginSha_39 rfl (fun H locs a5 h_a5 hw => ?_)
  refine lv_aload_n hx hb dX12_beginSha_40 rfl (lv_at hl 0 rfl) ?_
  refine hk_get (ci := 15) (C := RX12) (T := TX12) (N := 92) (v := .ref (ad 4)) hx hb hts (fun _ h => List.mem_cons_of_mem _ (wwMc_wsX120 _ h)) hown hw 0 rfl rfl 19 (by decide) (hq _ wM_69) rfl dX12_beginSha_41 ?_
  refine lv_iconst (v := 5) hx hb dX12_beginSha_44 (by decide) ?_
  refine lv_ldc (v := (-1694144372)) hx hb hown (hq _ wM_75) dX12_beginSha_45 ?_
  refine jx_iast mw (cI := cI) (cJ := cJ) (ad := ad) (g := g) (lg := lg) (ar := a5) (bk := bk) 3 hx hb hw 4 0 rfl rfl (show ¬ (_ ∨ _) by decide) dX12_beginSha_47 rfl (fun H locs a6 h_a6 hw => ?_)
  refine lv_aload_n hx hb dX12_beginSha_48 rfl (lv_at hl 0 rfl) ?_
  refine hk_get (ci := 15) (C := RX12) (T := TX12) (N := 92) (v := .ref (ad 4)) hx hb hts (fun _ h => List.mem_cons_of_mem _ (wwMc_wsX120 _ h)) hown hw 0 rfl rfl 19 (by decide) (hq _ wM_69) rfl dX12_beginSha_49 ?_
  refine lv_bipush (v := 6) hx hb dX12_beginSha_52 (by decide) ?_
  refine lv_ldc (v := 528734635) hx hb hown (hq _ wM_76) dX12_beginSha_54 ?_
  refine jx_iast mw (cI := cI) (cJ := cJ) (ad := ad) (g := g) (lg := lg) (ar := a6) (bk := bk) 3 hx hb hw 4 0 rfl rfl (show ¬ (_ ∨ _) by decide) dX12_beginSha_56 rfl (fun H locs a7 h_a7 hw => ?_)
  refine lv_aload_n hx hb dX12_beginSha_57 rfl (lv_at hl 0 rfl) ?_
  refine hk_get (ci := 15) (C := RX12) (T := TX12) (N := 92) (v := .ref (ad 4)) hx hb hts (fun _ h => List.mem_cons_of_mem _ (wwMc_wsX120 _ h)) hown hw 0 rfl rfl 19 (by decide) (hq _ wM_69) rfl dX12_beginSha_58 ?_
  refine lv_bipush (v := 7) hx hb dX12_beginSha_61 (by decide) ?_
  refine lv_ldc (v := 1541459225) hx hb hown (hq _ wM_77) dX12_beginSha_63 ?_
  refine jx_iast mw (cI := cI) (cJ := cJ) (ad := ad) (g := g) (lg := lg) (ar := a7) (bk := bk) 3 hx hb hw 4 0 rfl rfl (show ¬ (_ ∨ _) by decide) dX12_beginSha_65 rfl (fun H locs a8 h_a8 hw => ?_)
  refine lv_aload_n hx hb dX12_beginSha_66 rfl (lv_at hl 0 rfl) ?_
  refine lv_iconst (v := 0) hx hb dX12_beginSha_67 (by decide) ?_
  refine jx_putg mw (cI := cI) (cJ := cJ) (ad := ad) (g := g) (lg := lg) (ar := a8) (bk := bk) (x := 0) 15 (ci := 15) (C := RX12) (T := TX12) (N := 92) (ty := .int) hx hb hts (fun _ h => List.mem_cons_of_mem _ (wwMc_wsX120 _ h)) tyX12 tyX12_ok nmX12 hown hw 0 rfl rfl 21 (by decide) (hq _ wM_18) rfl (by decide +kernel) rfl rfl (Nat.le_of_ble_eq_true rfl) dX12_beginSha_68 rfl (fun H locs g9 h_g9 hw => ?_)
  refine lv_aload_n hx hb dX12_beginSha_71 rfl (lv_at hl 0 rfl) ?_
  refine lv_lconst (v := 0) hx hb dX12_beginSha_72 (by decide) ?_
  refine jx_putl mw (cI := cI) (cJ := cJ) (ad := ad) (g := g9) (lg := lg) (ar := a8) (bk := bk) (x := 0) 1 (ci := 15) (C := RX12) (T := TX12) (N := 92) (ty := .long) hx hb hts (fun _ h => List.mem_cons_of_mem _ (wwMc_wsX120 _ h)) tyX12 tyX12_ok nmX12 hown hw 0 rfl rfl 22 (by decide) (hq _ wM_20) rfl (by decide +kernel) rfl rfl (Nat.le_of_ble_eq_true rfl) dX12_beginSha_73 rfl (fun H locs l10 h_l10 hw => ?_)
  have e_g9_15 : g9 15 = (0 : Int32) := (hk_upgS h_g9)
  exact kr g9 l10 a8 bk _ _ _ _ ⟨(hk_frG hk_fr0 (by decide) h_g9), (hk_frL hk_fr0 (by decide) h_l10), (hk_frA (hk_frA (hk_frA (hk_frA (hk_frA (hk_frA (hk_frA (hk_frA hk_fr0 (by decide) h_a1) (by decide) h_a2) (by decide) h_a3) (by decide) h_a4) (by decide) h_a5) (by decide) h_a6) (by decide) h_a7) (by decide) h_a8), rfl, (om55 ((g9 15).toInt) (((0 : Int32)).toInt) (congrArg Int32.toInt e_g9_15) (by decide))⟩ hw dX12_beginSha_76

set_option maxHeartbeats 4000000 in
set_option maxRecDepth 100000 in
/-- X12_turned -/
theorem jm_X12_turned (l : Launch) (hlt : l.stackTraces = false) (D : va_G) (t3 : Nat × Nat × Nat) (cI cJ : ClassId) (ad : Nat → Nat) (g : Nat → Int32) (lg : Nat → Int64) (ar : Nat → Nat → Int32) (bk : Nat → Int64) (sz : Nat) (y0 : Int32) (y1 : Int32) : JMi l yX12_turned (Cond.code yX12_turned cX12_turned 2 (some .int) :: wwM) { frames := 0, cells := 0, slots := 0, locals := 0 } t3 D mw cI cJ ad [.int y0, .int y1] (mw cI cJ ad g lg ar bk) sz 0 0 (fun (r : Int32) g' lg' ar' bk' => g = g' ∧ lg = lg' ∧ ar = ar' ∧ bk = bk') (fun g' lg' ar' bk' => False) := by
  refine jx_meti (cc := cX12_turned) (maxL := 2) (ret := (some .int)) rfl (by decide) rfl (Nat.le_of_ble_eq_true rfl) ?_
  intro p e s m args below meth c ls Q A hx hb hml hown hts hA hZ hw hl hQ kr kt
  have hq : ∀ w ∈ wwM, w.before args s = true := fun w h => hts w (List.mem_cons_of_mem _ h)
  have hl : lv_has ls 2 [(0, .int y0), (1, .int y1)] := hl
  refine lv_iload_n hx hb dX12_turned_0 rfl (lv_at hl 0 rfl) ?_
  refine lv_iload_n hx hb dX12_turned_1 rfl (lv_at hl 1 rfl) ?_
  refine lv_iushr hx hb dX12_turned_2 rfl (jx_nm fun z1 hz1 => ?_)
  refine lv_iload_n hx hb dX12_turned_3 rfl (lv_at hl 0 rfl) ?_
  refine lv_bipush (v := 32) hx hb dX12_turned_4 (by decide) ?_
  refine lv_iload_n hx hb dX12_turned_6 rfl (lv_at hl 1 rfl) ?_
  refine lv_isub hx hb dX12_turned_7 (jx_nm fun z2 hz2 => ?_)
  refine lv_ishl hx hb dX12_turned_8 (jx_nm fun z3 hz3 => ?_)
  refine lv_ior hx hb dX12_turned_9 (jx_nm fun z4 hz4 => ?_)
  exact kr z4 g lg ar bk _ _ _ _ ⟨rfl, rfl, rfl, rfl⟩ hw dX12_turned_10

set_option maxHeartbeats 4000000 in
set_option maxRecDepth 100000 in
/-- X12_mixSha on (0,) -/
theorem jm_X12_mixSha (l : Launch) (hlt : l.stackTraces = false) (D : va_G) (t3 : Nat × Nat × Nat) (cI cJ : ClassId) (ad : Nat → Nat) (g : Nat → Int32) (lg : Nat → Int64) (ar : Nat → Nat → Int32) (bk : Nat → Int64) (sz : Nat) : JMv l yX12_mixSha (Cond.code yX12_mixSha cX12_mixSha 12 none :: wwM) { frames := 1, cells := 0, slots := 0, locals := 21 } t3 D mw cI cJ ad [.ref (ad 0)] (mw cI cJ ad g lg ar bk) sz 0 0 (fun g' lg' ar' bk' => g = g' ∧ lg = lg' ∧ hk_fr [3, 4] ar ar' ∧ bk = bk') (fun g' lg' ar' bk' => False) := by
  refine jx_metv (cc := cX12_mixSha) (maxL := 12) (ret := none) rfl (by decide) rfl (Nat.le_of_ble_eq_true rfl) ?_
  intro p e s m args below meth c ls Q A hx hb hml hown hts hA hZ hw hl hQ kr kt
  have hq : ∀ w ∈ wwM, w.before args s = true := fun w h => hts w (List.mem_cons_of_mem _ h)
  have hl : lv_has ls 12 [(0, .ref (ad 0))] := hl
  refine lv_bipush (v := 16) hx hb dX12_mixSha_0 (by decide) ?_
  refine lv_istore_n (lv' := [(1, .int 16), (0, .ref (ad 0))]) hx hb dX12_mixSha_2 rfl hl (by decide) rfl (fun ls hl => ?_)
  have B1 : ∀ (k4 : Nat) (x2 : Int32) (a3 : Nat → Nat → Int32) (ls : Array Slot) (H : Heap) (locs : List Loc), (2147483648 - (x2).toInt ≤ (k4 : Int)) → (16 ≤ (x2).toInt) → (hk_fr [4] ar a3) → hk_W D (jT cI cJ) A s H locs (mw cI cJ ad g lg a3 bk) → lv_has ls 12 [(0, .ref (ad 0)), (1, .int x2)] → W p l e { frames := 1, cells := 0, slots := 0, locals := 21 } s m args below meth c H locs 0 0 Q (F0 m 3 ls []) := by
    intro k4
    induction k4 with
    | zero =>
      intro x2 a3 ls H locs hrk_B1 hf_B1_0 hfr_a3 hw hl
      exact False.elim (hk_no0 (0 * (x2).toInt) (om30 ((x2).toInt) hrk_B1 (hE_rng (x2))) (by simp))
    | succ k4 ih_B1 =>
      intro x2 a3 ls H locs hrk_B1 hf_B1_0 hfr_a3 hw hl
      have hrk_B1 := hk_rk hrk_B1
      refine lv_iload_n hx hb dX12_mixSha_3 rfl (lv_at hl 1 rfl) ?_
      refine lv_bipush (v := 64) hx hb dX12_mixSha_4 (by decide) ?_
      refine lv_icmp_ge (tgt := 96) hx hb dX12_mixSha_6 (by decide) (fun cc5 => ?_) (fun cc5 => ?_)
      · refine lv_aload_n hx hb dX12_mixSha_96 rfl (lv_at hl 0 rfl) ?_
        refine hk_get (ci := 15) (C := RX12) (T := TX12) (N := 92) (v := .ref (ad 4)) hx hb hts (fun _ h => List.mem_cons_of_mem _ (wwMc_wsX120 _ h)) hown hw 0 rfl rfl 19 (by decide) (hq _ wM_69) rfl dX12_mixSha_97 ?_
        refine lv_iconst (v := 0) hx hb dX12_mixSha_100 (by decide) ?_
        refine jx_iald hx hb hw 4 0 rfl rfl (show ¬ (_ ∨ _) by decide) dX12_mixSha_101 (fun z6 hz6 => ?_)
        refine lv_istore_n (lv' := [(1, .int z6), (0, .ref (ad 0))]) hx hb dX12_mixSha_102 rfl hl (by decide) rfl (fun ls hl => ?_)
        refine lv_aload_n hx hb dX12_mixSha_103 rfl (lv_at hl 1 rfl) ?_
        refine hk_get (ci := 15) (C := RX12) (T := TX12) (N := 92) (v := .ref (ad 4)) hx hb hts (fun _ h => List.mem_cons_of_mem _ (wwMc_wsX120 _ h)) hown hw 0 rfl rfl 19 (by decide) (hq _ wM_69) rfl dX12_mixSha_104 ?_
        refine lv_iconst (v := 1) hx hb dX12_mixSha_107 (by decide) ?_
        refine jx_iald hx hb hw 4 0 rfl rfl (show ¬ (_ ∨ _) by decide) dX12_mixSha_108 (fun z7 hz7 => ?_)
        refine lv_istore_n (lv' := [(2, .int z7), (1, .int z6), (0, .ref (ad 0))]) hx hb dX12_mixSha_109 rfl hl (by decide) rfl (fun ls hl => ?_)
        refine lv_aload_n hx hb dX12_mixSha_110 rfl (lv_at hl 2 rfl) ?_
        refine hk_get (ci := 15) (C := RX12) (T := TX12) (N := 92) (v := .ref (ad 4)) hx hb hts (fun _ h => List.mem_cons_of_mem _ (wwMc_wsX120 _ h)) hown hw 0 rfl rfl 19 (by decide) (hq _ wM_69) rfl dX12_mixSha_111 ?_
        refine lv_iconst (v := 2) hx hb dX12_mixSha_114 (by decide) ?_
        refine jx_iald hx hb hw 4 0 rfl rfl (show ¬ (_ ∨ _) by decide) dX12_mixSha_115 (fun z8 hz8 => ?_)
        refine lv_istore_n (lv' := [(3, .int z8), (2, .int z7), (1, .int z6), (0, .ref (ad 0))]) hx hb dX12_mixSha_116 rfl hl (by decide) rfl (fun ls hl => ?_)
        refine lv_aload_n hx hb dX12_mixSha_117 rfl (lv_at hl 3 rfl) ?_
        refine hk_get (ci := 15) (C := RX12) (T := TX12) (N := 92) (v := .ref (ad 4)) hx hb hts (fun _ h => List.mem_cons_of_mem _ (wwMc_wsX120 _ h)) hown hw 0 rfl rfl 19 (by decide) (hq _ wM_69) rfl dX12_mixSha_118 ?_
        refine lv_iconst (v := 3) hx hb dX12_mixSha_121 (by decide) ?_
        refine jx_iald hx hb hw 4 0 rfl rfl (show ¬ (_ ∨ _) by decide) dX12_mixSha_122 (fun z9 hz9 => ?_)
        refine lv_istore (lv' := [(4, .int z9), (3, .int z8), (2, .int z7), (1, .int z6), (0, .ref (ad 0))]) hx hb dX12_mixSha_123 hl (by decide) rfl (fun ls hl => ?_)
        refine lv_aload_n hx hb dX12_mixSha_125 rfl (lv_at hl 4 rfl) ?_
        refine hk_get (ci := 15) (C := RX12) (T := TX12) (N := 92) (v := .ref (ad 4)) hx hb hts (fun _ h => List.mem_cons_of_mem _ (wwMc_wsX120 _ h)) hown hw 0 rfl rfl 19 (by decide) (hq _ wM_69) rfl dX12_mixSha_126 ?_
        refine lv_iconst (v := 4) hx hb dX12_mixSha_129 (by decide) ?_
        refine jx_iald hx hb hw 4 0 rfl rfl (show ¬ (_ ∨ _) by decide) dX12_mixSha_130 (fun z10 hz10 => ?_)
        refine lv_istore (lv' := [(5, .int z10), (4, .int z9), (3, .int z8), (2, .int z7), (1, .int z6), (0, .ref (ad 0))]) hx hb dX12_mixSha_131 hl (by decide) rfl (fun ls hl => ?_)
        refine lv_aload_n hx hb dX12_mixSha_133 rfl (lv_at hl 5 rfl) ?_
        refine hk_get (ci := 15) (C := RX12) (T := TX12) (N := 92) (v := .ref (ad 4)) hx hb hts (fun _ h => List.mem_cons_of_mem _ (wwMc_wsX120 _ h)) hown hw 0 rfl rfl 19 (by decide) (hq _ wM_69) rfl dX12_mixSha_134 ?_
        refine lv_iconst (v := 5) hx hb dX12_mixSha_137 (by decide) ?_
        refine jx_iald hx hb hw 4 0 rfl rfl (show ¬ (_ ∨ _) by decide) dX12_mixSha_138 (fun z11 hz11 => ?_)
        refine lv_istore (lv' := [(6, .int z11), (5, .int z10), (4, .int z9), (3, .int z8), (2, .int z7), (1, .int z6), (0, .ref (ad 0))]) hx hb dX12_mixSha_139 hl (by decide) rfl (fun ls hl => ?_)
        refine lv_aload_n hx hb dX12_mixSha_141 rfl (lv_at hl 6 rfl) ?_
        refine hk_get (ci := 15) (C := RX12) (T := TX12) (N := 92) (v := .ref (ad 4)) hx hb hts (fun _ h => List.mem_cons_of_mem _ (wwMc_wsX120 _ h)) hown hw 0 rfl rfl 19 (by decide) (hq _ wM_69) rfl dX12_mixSha_142 ?_
        refine lv_bipush (v := 6) hx hb dX12_mixSha_145 (by decide) ?_
        refine jx_iald hx hb hw 4 0 rfl rfl (show ¬ (_ ∨ _) by decide) dX12_mixSha_147 (fun z12 hz12 => ?_)
        refine lv_istore (lv' := [(7, .int z12), (6, .int z11), (5, .int z10), (4, .int z9), (3, .int z8), (2, .int z7), (1, .int z6), (0, .ref (ad 0))]) hx hb dX12_mixSha_148 hl (by decide) rfl (fun ls hl => ?_)
        refine lv_aload_n hx hb dX12_mixSha_150 rfl (lv_at hl 7 rfl) ?_
        refine hk_get (ci := 15) (C := RX12) (T := TX12) (N := 92) (v := .ref (ad 4)) hx hb hts (fun _ h => List.mem_cons_of_mem _ (wwMc_wsX120 _ h)) hown hw 0 rfl rfl 19 (by decide) (hq _ wM_69) rfl dX12_mixSha_151 ?_
        refine lv_bipush (v := 7) hx hb dX12_mixSha_154 (by decide) ?_
        refine jx_iald hx hb hw 4 0 rfl rfl (show ¬ (_ ∨ _) by decide) dX12_mixSha_156 (fun z13 hz13 => ?_)
        refine lv_istore (lv' := [(8, .int z13), (7, .int z12), (6, .int z11), (5, .int z10), (4, .int z9), (3, .int z8), (2, .int z7), (1, .int z6), (0, .ref (ad 0))]) hx hb dX12_mixSha_157 hl (by decide) rfl (fun ls hl => ?_)
        refine lv_iconst (v := 0) hx hb dX12_mixSha_159 (by decide) ?_
        refine lv_istore (lv' := [(9, .int 0), (8, .int z13), (7, .int z12), (6, .int z11), (5, .int z10), (4, .int z9), (3, .int z8), (2, .int z7), (1, .int z6), (0, .ref (ad 0))]) hx hb dX12_mixSha_160 hl (by decide) rfl (fun ls hl => ?_)
        have B14 : ∀ (k24 : Nat) (x15 : Int32) (x16 : Int32) (x17 : Int32) (x18 : Int32) (x19 : Int32) (x20 : Int32) (x21 : Int32) (x22 : Int32) (x23 : Int32) (ls : Array Slot) (H : Heap) (locs : List Loc), (2147483648 - (x23).toInt ≤ (k24 : Int)) → (0 ≤ (x23).toInt) → hk_W D (jT cI cJ) A s H locs (mw cI cJ ad g lg a3 bk) → lv_has ls 12 [(0, .ref (ad 0)), (1, .int x15), (2, .int x16), (3, .int x17), (4, .int x18), (5, .int x19), (6, .int x20), (7, .int x21), (8, .int x22), (9, .int x23)] → W p l e { frames := 1, cells := 0, slots := 0, locals := 21 } s m args below meth c H locs 0 0 Q (F0 m 162 ls []) := by
          intro k24
          induction k24 with
          | zero =>
            intro x15 x16 x17 x18 x19 x20 x21 x22 x23 ls H locs hrk_B14 hf_B14_0 hw hl
            exact False.elim (hk_no0 (0 * (x23).toInt) (om30 ((x23).toInt) hrk_B14 (hE_rng (x23))) (by simp))
          | succ k24 ih_B14 =>
            intro x15 x16 x17 x18 x19 x20 x21 x22 x23 ls H locs hrk_B14 hf_B14_0 hw hl
            have hrk_B14 := hk_rk hrk_B14
            refine lv_iload hx hb dX12_mixSha_162 (lv_at hl 9 rfl) ?_
            refine lv_bipush (v := 64) hx hb dX12_mixSha_164 (by decide) ?_
            refine lv_icmp_ge (tgt := 297) hx hb dX12_mixSha_166 (by decide) (fun cc25 => ?_) (fun cc25 => ?_)
            · refine lv_aload_n hx hb dX12_mixSha_297 rfl (lv_at hl 0 rfl) ?_
              refine hk_get (ci := 15) (C := RX12) (T := TX12) (N := 92) (v := .ref (ad 4)) hx hb hts (fun _ h => List.mem_cons_of_mem _ (wwMc_wsX120 _ h)) hown hw 0 rfl rfl 19 (by decide) (hq _ wM_69) rfl dX12_mixSha_298 ?_
              refine lv_iconst (v := 0) hx hb dX12_mixSha_301 (by decide) ?_
              refine lv_dup2_11 hx hb dX12_mixSha_302 rfl rfl ?_
              refine hk_iald (v := z6) hx hb hw 4 0 rfl rfl (show ¬ (_ ∨ _) by decide) dX12_mixSha_303 hz6 ?_
              refine lv_iload_n hx hb dX12_mixSha_304 rfl (lv_at hl 1 rfl) ?_
              refine lv_iadd hx hb dX12_mixSha_305 (jx_nm fun z27 hz27 => ?_)
              refine jx_iast mw (cI := cI) (cJ := cJ) (ad := ad) (g := g) (lg := lg) (ar := a3) (bk := bk) 3 hx hb hw 4 0 rfl rfl (show ¬ (_ ∨ _) by decide) dX12_mixSha_306 rfl (fun H locs a28 h_a28 hw => ?_)
              refine lv_aload_n hx hb dX12_mixSha_307 rfl (lv_at hl 0 rfl) ?_
              refine hk_get (ci := 15) (C := RX12) (T := TX12) (N := 92) (v := .ref (ad 4)) hx hb hts (fun _ h => List.mem_cons_of_mem _ (wwMc_wsX120 _ h)) hown hw 0 rfl rfl 19 (by decide) (hq _ wM_69) rfl dX12_mixSha_308 ?_
              refine lv_iconst (v := 1) hx hb dX12_mixSha_311 (by decide) ?_
              refine lv_dup2_11 hx hb dX12_mixSha_312 rfl rfl ?_
              refine jx_iald hx hb hw 4 0 rfl rfl (show ¬ (_ ∨ _) by decide) dX12_mixSha_313 (fun z29 hz29 => ?_)
              refine lv_iload_n hx hb dX12_mixSha_314 rfl (lv_at hl 2 rfl) ?_
              refine lv_iadd hx hb dX12_mixSha_315 (jx_nm fun z30 hz30 => ?_)
              refine jx_iast mw (cI := cI) (cJ := cJ) (ad := ad) (g := g) (lg := lg) (ar := a28) (bk := bk) 3 hx hb hw 4 0 rfl rfl (show ¬ (_ ∨ _) by decide) dX12_mixSha_316 rfl (fun H locs a31 h_a31 hw => ?_)
              refine lv_aload_n hx hb dX12_mixSha_317 rfl (lv_at hl 0 rfl) ?_
              refine hk_get (ci := 15) (C := RX12) (T := TX12) (N := 92) (v := .ref (ad 4)) hx hb hts (fun _ h => List.mem_cons_of_mem _ (wwMc_wsX120 _ h)) hown hw 0 rfl rfl 19 (by decide) (hq _ wM_69) rfl dX12_mixSha_318 ?_
              refine lv_iconst (v := 2) hx hb dX12_mixSha_321 (by decide) ?_
              refine lv_dup2_11 hx hb dX12_mixSha_322 rfl rfl ?_
              refine jx_iald hx hb hw 4 0 rfl rfl (show ¬ (_ ∨ _) by decide) dX12_mixSha_323 (fun z32 hz32 => ?_)
              refine lv_iload_n hx hb dX12_mixSha_324 rfl (lv_at hl 3 rfl) ?_
              refine lv_iadd hx hb dX12_mixSha_325 (jx_nm fun z33 hz33 => ?_)
              refine jx_iast mw (cI := cI) (cJ := cJ) (ad := ad) (g := g) (lg := lg) (ar := a31) (bk := bk) 3 hx hb hw 4 0 rfl rfl (show ¬ (_ ∨ _) by decide) dX12_mixSha_326 rfl (fun H locs a34 h_a34 hw => ?_)
              refine lv_aload_n hx hb dX12_mixSha_327 rfl (lv_at hl 0 rfl) ?_
              refine hk_get (ci := 15) (C := RX12) (T := TX12) (N := 92) (v := .ref (ad 4)) hx hb hts (fun _ h => List.mem_cons_of_mem _ (wwMc_wsX120 _ h)) hown hw 0 rfl rfl 19 (by decide) (hq _ wM_69) rfl dX12_mixSha_328 ?_
              refine lv_iconst (v := 3) hx hb dX12_mixSha_331 (by decide) ?_
              refine lv_dup2_11 hx hb dX12_mixSha_332 rfl rfl ?_
              refine jx_iald hx hb hw 4 0 rfl rfl (show ¬ (_ ∨ _) by decide) dX12_mixSha_333 (fun z35 hz35 => ?_)
              refine lv_iload hx hb dX12_mixSha_334 (lv_at hl 4 rfl) ?_
              refine lv_iadd hx hb dX12_mixSha_336 (jx_nm fun z36 hz36 => ?_)
              refine jx_iast mw (cI := cI) (cJ := cJ) (ad := ad) (g := g) (lg := lg) (ar := a34) (bk := bk) 3 hx hb hw 4 0 rfl rfl (show ¬ (_ ∨ _) by decide) dX12_mixSha_337 rfl (fun H locs a37 h_a37 hw => ?_)
              refine lv_aload_n hx hb dX12_mixSha_338 rfl (lv_at hl 0 rfl) ?_
              refine hk_get (ci := 15) (C := RX12) (T := TX12) (N := 92) (v := .ref (ad 4)) hx hb hts (fun _ h => List.mem_cons_of_mem _ (wwMc_wsX120 _ h)) hown hw 0 rfl rfl 19 (by decide) (hq _ wM_69) rfl dX12_mixSha_339 ?_
              refine lv_iconst (v := 4) hx hb dX12_mixSha_342 (by decide) ?_
              refine lv_dup2_11 hx hb dX12_mixSha_343 rfl rfl ?_
              refine jx_iald hx hb hw 4 0 rfl rfl (show ¬ (_ ∨ _) by decide) dX12_mixSha_344 (fun z38 hz38 => ?_)
              refine lv_iload hx hb dX12_mixSha_345 (lv_at hl 5 rfl) ?_
              refine lv_iadd hx hb dX12_mixSha_347 (jx_nm fun z39 hz39 => ?_)
              refine jx_iast mw (cI := cI) (cJ := cJ) (ad := ad) (g := g) (lg := lg) (ar := a37) (bk := bk) 3 hx hb hw 4 0 rfl rfl (show ¬ (_ ∨ _) by decide) dX12_mixSha_348 rfl (fun H locs a40 h_a40 hw => ?_)
              refine lv_aload_n hx hb dX12_mixSha_349 rfl (lv_at hl 0 rfl) ?_
              refine hk_get (ci := 15) (C := RX12) (T := TX12) (N := 92) (v := .ref (ad 4)) hx hb hts (fun _ h => List.mem_cons_of_mem _ (wwMc_wsX120 _ h)) hown hw 0 rfl rfl 19 (by decide) (hq _ wM_69) rfl dX12_mixSha_350 ?_
              refine lv_iconst (v := 5) hx hb dX12_mixSha_353 (by decide) ?_
              refine lv_dup2_11 hx hb dX12_mixSha_354 rfl rfl ?_
              refine jx_iald hx hb hw 4 0 rfl rfl (show ¬ (_ ∨ _) by decide) dX12_mixSha_355 (fun z41 hz41 => ?_)
              refine lv_iload hx hb dX12_mixSha_356 (lv_at hl 6 rfl) ?_
              refine lv_iadd hx hb dX12_mixSha_358 (jx_nm fun z42 hz42 => ?_)
              refine jx_iast mw (cI := cI) (cJ := cJ) (ad := ad) (g := g) (lg := lg) (ar := a40) (bk := bk) 3 hx hb hw 4 0 rfl rfl (show ¬ (_ ∨ _) by decide) dX12_mixSha_359 rfl (fun H locs a43 h_a43 hw => ?_)
              refine lv_aload_n hx hb dX12_mixSha_360 rfl (lv_at hl 0 rfl) ?_
              refine hk_get (ci := 15) (C := RX12) (T := TX12) (N := 92) (v := .ref (ad 4)) hx hb hts (fun _ h => List.mem_cons_of_mem _ (wwMc_wsX120 _ h)) hown hw 0 rfl rfl 19 (by decide) (hq _ wM_69) rfl dX12_mixSha_361 ?_
              refine lv_bipush (v := 6) hx hb dX12_mixSha_364 (by decide) ?_
              refine lv_dup2_11 hx hb dX12_mixSha_366 rfl rfl ?_
              refine jx_iald hx hb hw 4 0 rfl rfl (show ¬ (_ ∨ _) by decide) dX12_mixSha_367 (fun z44 hz44 => ?_)
              refine lv_iload hx hb dX12_mixSha_368 (lv_at hl 7 rfl) ?_
              refine lv_iadd hx hb dX12_mixSha_370 (jx_nm fun z45 hz45 => ?_)
              refine jx_iast mw (cI := cI) (cJ := cJ) (ad := ad) (g := g) (lg := lg) (ar := a43) (bk := bk) 3 hx hb hw 4 0 rfl rfl (show ¬ (_ ∨ _) by decide) dX12_mixSha_371 rfl (fun H locs a46 h_a46 hw => ?_)
              refine lv_aload_n hx hb dX12_mixSha_372 rfl (lv_at hl 0 rfl) ?_
              refine hk_get (ci := 15) (C := RX12) (T := TX12) (N := 92) (v := .ref (ad 4)) hx hb hts (fun _ h => List.mem_cons_of_mem _ (wwMc_wsX120 _ h)) hown hw 0 rfl rfl 19 (by decide) (hq _ wM_69) rfl dX12_mixSha_373 ?_
              refine lv_bipush (v := 7) hx hb dX12_mixSha_376 (by decide) ?_
              refine lv_dup2_11 hx hb dX12_mixSha_378 rfl rfl ?_
              refine jx_iald hx hb hw 4 0 rfl rfl (show ¬ (_ ∨ _) by decide) dX12_mixSha_379 (fun z47 hz47 => ?_)
              refine lv_iload hx hb dX12_mixSha_380 (lv_at hl 8 rfl) ?_
              refine lv_iadd hx hb dX12_mixSha_382 (jx_nm fun z48 hz48 => ?_)
              refine jx_iast mw (cI := cI) (cJ := cJ) (ad := ad) (g := g) (lg := lg) (ar := a46) (bk := bk) 3 hx hb hw 4 0 rfl rfl (show ¬ (_ ∨ _) by decide) dX12_mixSha_383 rfl (fun H locs a49 h_a49 hw => ?_)
              exact kr g lg a49 bk _ _ _ _ ⟨rfl, rfl, (hk_frA (hk_frA (hk_frA (hk_frA (hk_frA (hk_frA (hk_frA (hk_frA (hk_frT hk_fr0 (by decide) hfr_a3) (by decide) h_a28) (by decide) h_a31) (by decide) h_a34) (by decide) h_a37) (by decide) h_a40) (by decide) h_a43) (by decide) h_a46) (by decide) h_a49), rfl⟩ hw dX12_mixSha_384
            · refine lv_iload hx hb dX12_mixSha_169 (lv_at hl 8 rfl) ?_
              refine lv_iload hx hb dX12_mixSha_171 (lv_at hl 5 rfl) ?_
              refine lv_bipush (v := 6) hx hb dX12_mixSha_173 (by decide) ?_
              refine jx_Si (As := [.int x19, .int 6]) (rest := [.int x22]) ⟨hx, hb, hml, hown, hts⟩ hZ hw hA (jm_X12_turned l hlt D t3 cI cJ ad g lg a3 bk _ x19 6) (va_cwS 2 hts (jx_gS wwM_good wM_250 wM_251 wM_8 wM_252) rfl rfl rfl (by decide +kernel) ⟨Nat.le_of_ble_eq_true rfl, Nat.le_of_ble_eq_true rfl⟩) rfl hl.1 rfl (Nat.le_of_ble_eq_true rfl) dX12_mixSha_175 ⟨Nat.le_of_ble_eq_true rfl, Nat.le_of_ble_eq_true rfl⟩ (fun _ _ _ _ _ _ _ _ hp _ _ _ _ => hp.elim) (fun r54 g55 l56 a57 b58 H locs hp59 hw => ?_)
              obtain ⟨rfl, rfl, rfl, rfl⟩ := hp59
              refine lv_iload hx hb dX12_mixSha_178 (lv_at hl 5 rfl) ?_
              refine lv_bipush (v := 11) hx hb dX12_mixSha_180 (by decide) ?_
              refine jx_Si (As := [.int x19, .int 11]) (rest := [.int r54, .int x22]) ⟨hx, hb, hml, hown, hts⟩ hZ hw hA (jm_X12_turned l hlt D t3 cI cJ ad g lg a3 bk _ x19 11) (va_cwS 2 hts (jx_gS wwM_good wM_250 wM_251 wM_8 wM_252) rfl rfl rfl (by decide +kernel) ⟨Nat.le_of_ble_eq_true rfl, Nat.le_of_ble_eq_true rfl⟩) rfl hl.1 rfl (Nat.le_of_ble_eq_true rfl) dX12_mixSha_182 ⟨Nat.le_of_ble_eq_true rfl, Nat.le_of_ble_eq_true rfl⟩ (fun _ _ _ _ _ _ _ _ hp _ _ _ _ => hp.elim) (fun r68 g69 l70 a71 b72 H locs hp73 hw => ?_)
              obtain ⟨rfl, rfl, rfl, rfl⟩ := hp73
              refine lv_ixor hx hb dX12_mixSha_185 (jx_nm fun z78 hz78 => ?_)
              refine lv_iload hx hb dX12_mixSha_186 (lv_at hl 5 rfl) ?_
              refine lv_bipush (v := 25) hx hb dX12_mixSha_188 (by decide) ?_
              refine jx_Si (As := [.int x19, .int 25]) (rest := [.int z78, .int x22]) ⟨hx, hb, hml, hown, hts⟩ hZ hw hA (jm_X12_turned l hlt D t3 cI cJ ad g lg a3 bk _ x19 25) (va_cwS 2 hts (jx_gS wwM_good wM_250 wM_251 wM_8 wM_252) rfl rfl rfl (by decide +kernel) ⟨Nat.le_of_ble_eq_true rfl, Nat.le_of_ble_eq_true rfl⟩) rfl hl.1 rfl (Nat.le_of_ble_eq_true rfl) dX12_mixSha_190 ⟨Nat.le_of_ble_eq_true rfl, Nat.le_of_ble_eq_true rfl⟩ (fun _ _ _ _ _ _ _ _ hp _ _ _ _ => hp.elim) (fun r83 g84 l85 a86 b87 H locs hp88 hw => ?_)
              obtain ⟨rfl, rfl, rfl, rfl⟩ := hp88
              refine lv_ixor hx hb dX12_mixSha_193 (jx_nm fun z93 hz93 => ?_)
              refine lv_iadd hx hb dX12_mixSha_194 (jx_nm fun z94 hz94 => ?_)
              refine lv_iload hx hb dX12_mixSha_195 (lv_at hl 5 rfl) ?_
              refine lv_iload hx hb dX12_mixSha_197 (lv_at hl 6 rfl) ?_
              refine lv_iand hx hb dX12_mixSha_199 (jx_nm fun z95 hz95 => ?_)
              refine lv_iload hx hb dX12_mixSha_200 (lv_at hl 5 rfl) ?_
              refine lv_iconst (v := (-1)) hx hb dX12_mixSha_202 (by decide) ?_
              refine lv_ixor hx hb dX12_mixSha_203 (jx_nm fun z96 hz96 => ?_)
              refine lv_iload hx hb dX12_mixSha_204 (lv_at hl 7 rfl) ?_
              refine lv_iand hx hb dX12_mixSha_206 (jx_nm fun z97 hz97 => ?_)
              refine lv_ixor hx hb dX12_mixSha_207 (jx_nm fun z98 hz98 => ?_)
              refine lv_iadd hx hb dX12_mixSha_208 (jx_nm fun z99 hz99 => ?_)
              refine hk_gets hx hb hZ.2.2.2.2 hw hown (hq _ wM_253) dX12_mixSha_209 ?_
              refine lv_iload hx hb dX12_mixSha_212 (lv_at hl 9 rfl) ?_
              refine jx_ti hx hb hZ.2.2.2.2 hw (hE_in (n := 64) (om56 ((x23).toInt) (((64 : Int32)).toInt) hf_B14_0 (hE_nle cc25) (by decide))) dX12_mixSha_214 (fun z100 hz100 => ?_)
              refine lv_iadd hx hb dX12_mixSha_215 (jx_nm fun z101 hz101 => ?_)
              refine lv_aload_n hx hb dX12_mixSha_216 rfl (lv_at hl 0 rfl) ?_
              refine hk_get (ci := 15) (C := RX12) (T := TX12) (N := 92) (v := .ref (ad 5)) hx hb hts (fun _ h => List.mem_cons_of_mem _ (wwMc_wsX120 _ h)) hown hw 0 rfl rfl 20 (by decide) (hq _ wM_19) rfl dX12_mixSha_217 ?_
              refine lv_iload hx hb dX12_mixSha_220 (lv_at hl 9 rfl) ?_
              refine jx_iald hx hb hw 5 0 rfl rfl (hE_in (n := 64) (om56 ((x23).toInt) (((64 : Int32)).toInt) hf_B14_0 (hE_nle cc25) (by decide))) dX12_mixSha_222 (fun z102 hz102 => ?_)
              refine lv_iadd hx hb dX12_mixSha_223 (jx_nm fun z103 hz103 => ?_)
              refine lv_istore (lv' := [(10, .int z103), (0, .ref (ad 0)), (1, .int x15), (2, .int x16), (3, .int x17), (4, .int x18), (5, .int x19), (6, .int x20), (7, .int x21), (8, .int x22), (9, .int x23)]) hx hb dX12_mixSha_224 hl (by decide) rfl (fun ls hl => ?_)
              refine lv_iload_n hx hb dX12_mixSha_226 rfl (lv_at hl 2 rfl) ?_
              refine lv_iconst (v := 2) hx hb dX12_mixSha_227 (by decide) ?_
              refine jx_Si (As := [.int x15, .int 2]) (rest := []) ⟨hx, hb, hml, hown, hts⟩ hZ hw hA (jm_X12_turned l hlt D t3 cI cJ ad g lg a3 bk _ x15 2) (va_cwS 2 hts (jx_gS wwM_good wM_250 wM_251 wM_8 wM_252) rfl rfl rfl (by decide +kernel) ⟨Nat.le_of_ble_eq_true rfl, Nat.le_of_ble_eq_true rfl⟩) rfl hl.1 rfl (Nat.le_of_ble_eq_true rfl) dX12_mixSha_228 ⟨Nat.le_of_ble_eq_true rfl, Nat.le_of_ble_eq_true rfl⟩ (fun _ _ _ _ _ _ _ _ hp _ _ _ _ => hp.elim) (fun r108 g109 l110 a111 b112 H locs hp113 hw => ?_)
              obtain ⟨rfl, rfl, rfl, rfl⟩ := hp113
              refine lv_iload_n hx hb dX12_mixSha_231 rfl (lv_at hl 2 rfl) ?_
              refine lv_bipush (v := 13) hx hb dX12_mixSha_232 (by decide) ?_
              refine jx_Si (As := [.int x15, .int 13]) (rest := [.int r108]) ⟨hx, hb, hml, hown, hts⟩ hZ hw hA (jm_X12_turned l hlt D t3 cI cJ ad g lg a3 bk _ x15 13) (va_cwS 2 hts (jx_gS wwM_good wM_250 wM_251 wM_8 wM_252) rfl rfl rfl (by decide +kernel) ⟨Nat.le_of_ble_eq_true rfl, Nat.le_of_ble_eq_true rfl⟩) rfl hl.1 rfl (Nat.le_of_ble_eq_true rfl) dX12_mixSha_234 ⟨Nat.le_of_ble_eq_true rfl, Nat.le_of_ble_eq_true rfl⟩ (fun _ _ _ _ _ _ _ _ hp _ _ _ _ => hp.elim) (fun r122 g123 l124 a125 b126 H locs hp127 hw => ?_)
              obtain ⟨rfl, rfl, rfl, rfl⟩ := hp127
              refine lv_ixor hx hb dX12_mixSha_237 (jx_nm fun z132 hz132 => ?_)
              refine lv_iload_n hx hb dX12_mixSha_238 rfl (lv_at hl 2 rfl) ?_
              refine lv_bipush (v := 22) hx hb dX12_mixSha_239 (by decide) ?_
              refine jx_Si (As := [.int x15, .int 22]) (rest := [.int z132]) ⟨hx, hb, hml, hown, hts⟩ hZ hw hA (jm_X12_turned l hlt D t3 cI cJ ad g lg a3 bk _ x15 22) (va_cwS 2 hts (jx_gS wwM_good wM_250 wM_251 wM_8 wM_252) rfl rfl rfl (by decide +kernel) ⟨Nat.le_of_ble_eq_true rfl, Nat.le_of_ble_eq_true rfl⟩) rfl hl.1 rfl (Nat.le_of_ble_eq_true rfl) dX12_mixSha_241 ⟨Nat.le_of_ble_eq_true rfl, Nat.le_of_ble_eq_true rfl⟩ (fun _ _ _ _ _ _ _ _ hp _ _ _ _ => hp.elim) (fun r137 g138 l139 a140 b141 H locs hp142 hw => ?_)
              obtain ⟨rfl, rfl, rfl, rfl⟩ := hp142
              refine lv_ixor hx hb dX12_mixSha_244 (jx_nm fun z147 hz147 => ?_)
              refine lv_iload_n hx hb dX12_mixSha_245 rfl (lv_at hl 2 rfl) ?_
              refine lv_iload_n hx hb dX12_mixSha_246 rfl (lv_at hl 3 rfl) ?_
              refine lv_iand hx hb dX12_mixSha_247 (jx_nm fun z148 hz148 => ?_)
              refine lv_iload_n hx hb dX12_mixSha_248 rfl (lv_at hl 2 rfl) ?_
              refine lv_iload_n hx hb dX12_mixSha_249 rfl (lv_at hl 4 rfl) ?_
              refine lv_iand hx hb dX12_mixSha_250 (jx_nm fun z149 hz149 => ?_)
              refine lv_ixor hx hb dX12_mixSha_251 (jx_nm fun z150 hz150 => ?_)
              refine lv_iload_n hx hb dX12_mixSha_252 rfl (lv_at hl 3 rfl) ?_
              refine lv_iload_n hx hb dX12_mixSha_253 rfl (lv_at hl 4 rfl) ?_
              refine lv_iand hx hb dX12_mixSha_254 (jx_nm fun z151 hz151 => ?_)
              refine lv_ixor hx hb dX12_mixSha_255 (jx_nm fun z152 hz152 => ?_)
              refine lv_iadd hx hb dX12_mixSha_256 (jx_nm fun z153 hz153 => ?_)
              refine lv_istore (lv' := [(11, .int z153), (10, .int z103), (0, .ref (ad 0)), (1, .int x15), (2, .int x16), (3, .int x17), (4, .int x18), (5, .int x19), (6, .int x20), (7, .int x21), (8, .int x22), (9, .int x23)]) hx hb dX12_mixSha_257 hl (by decide) rfl (fun ls hl => ?_)
              refine lv_iload hx hb dX12_mixSha_259 (lv_at hl 9 rfl) ?_
              refine lv_istore (lv' := [(8, .int x21), (11, .int z153), (10, .int z103), (0, .ref (ad 0)), (1, .int x15), (2, .int x16), (3, .int x17), (4, .int x18), (5, .int x19), (6, .int x20), (7, .int x21), (9, .int x23)]) hx hb dX12_mixSha_261 hl (by decide) rfl (fun ls hl => ?_)
              refine lv_iload hx hb dX12_mixSha_263 (lv_at hl 9 rfl) ?_
              refine lv_istore (lv' := [(7, .int x20), (8, .int x21), (11, .int z153), (10, .int z103), (0, .ref (ad 0)), (1, .int x15), (2, .int x16), (3, .int x17), (4, .int x18), (5, .int x19), (6, .int x20), (9, .int x23)]) hx hb dX12_mixSha_265 hl (by decide) rfl (fun ls hl => ?_)
              refine lv_iload hx hb dX12_mixSha_267 (lv_at hl 9 rfl) ?_
              refine lv_istore (lv' := [(6, .int x19), (7, .int x20), (8, .int x21), (11, .int z153), (10, .int z103), (0, .ref (ad 0)), (1, .int x15), (2, .int x16), (3, .int x17), (4, .int x18), (5, .int x19), (9, .int x23)]) hx hb dX12_mixSha_269 hl (by decide) rfl (fun ls hl => ?_)
              refine lv_iload hx hb dX12_mixSha_271 (lv_at hl 9 rfl) ?_
              refine lv_iload hx hb dX12_mixSha_273 (lv_at hl 4 rfl) ?_
              refine lv_iadd hx hb dX12_mixSha_275 (jx_nm fun z154 hz154 => ?_)
              refine lv_istore (lv' := [(5, .int z154), (6, .int x19), (7, .int x20), (8, .int x21), (11, .int z153), (10, .int z103), (0, .ref (ad 0)), (1, .int x15), (2, .int x16), (3, .int x17), (4, .int x18), (9, .int x23)]) hx hb dX12_mixSha_276 hl (by decide) rfl (fun ls hl => ?_)
              refine lv_iload_n hx hb dX12_mixSha_278 rfl (lv_at hl 9 rfl) ?_
              refine lv_istore (lv' := [(4, .int x17), (5, .int z154), (6, .int x19), (7, .int x20), (8, .int x21), (11, .int z153), (10, .int z103), (0, .ref (ad 0)), (1, .int x15), (2, .int x16), (3, .int x17), (9, .int x23)]) hx hb dX12_mixSha_279 hl (by decide) rfl (fun ls hl => ?_)
              refine lv_iload_n hx hb dX12_mixSha_281 rfl (lv_at hl 9 rfl) ?_
              refine lv_istore_n (lv' := [(3, .int x16), (4, .int x17), (5, .int z154), (6, .int x19), (7, .int x20), (8, .int x21), (11, .int z153), (10, .int z103), (0, .ref (ad 0)), (1, .int x15), (2, .int x16), (9, .int x23)]) hx hb dX12_mixSha_282 rfl hl (by decide) rfl (fun ls hl => ?_)
              refine lv_iload_n hx hb dX12_mixSha_283 rfl (lv_at hl 9 rfl) ?_
              refine lv_istore_n (lv' := [(2, .int x15), (3, .int x16), (4, .int x17), (5, .int z154), (6, .int x19), (7, .int x20), (8, .int x21), (11, .int z153), (10, .int z103), (0, .ref (ad 0)), (1, .int x15), (9, .int x23)]) hx hb dX12_mixSha_284 rfl hl (by decide) rfl (fun ls hl => ?_)
              refine lv_iload hx hb dX12_mixSha_285 (lv_at hl 8 rfl) ?_
              refine lv_iload hx hb dX12_mixSha_287 (lv_at hl 7 rfl) ?_
              refine lv_iadd hx hb dX12_mixSha_289 (jx_nm fun z155 hz155 => ?_)
              refine lv_istore_n (lv' := [(1, .int z155), (2, .int x15), (3, .int x16), (4, .int x17), (5, .int z154), (6, .int x19), (7, .int x20), (8, .int x21), (11, .int z153), (10, .int z103), (0, .ref (ad 0)), (9, .int x23)]) hx hb dX12_mixSha_290 rfl hl (by decide) rfl (fun ls hl => ?_)
              obtain ⟨z156, hz156⟩ : ∃ z : Int32, x23 + 1 = z := ⟨_, rfl⟩
              refine lv_iinc (v := z156) (lv' := [(9, .int z156), (1, .int z155), (2, .int x15), (3, .int x16), (4, .int x17), (5, .int z154), (6, .int x19), (7, .int x20), (8, .int x21), (11, .int z153), (10, .int z103), (0, .ref (ad 0))]) hx hb dX12_mixSha_291 hl (k := 11) rfl hz156 (by decide) rfl (fun ls hl => ?_)
              have xz156 : (z156).toInt = (x23).toInt + ((1 : Int32)).toInt := (hE_imp (hE_add hz156) (om57 ((x23).toInt) (((1 : Int32)).toInt) (((64 : Int32)).toInt) hf_B14_0 (hE_nle cc25) (by decide) (by decide)))
              refine lv_goto (tgt := 162) hx hb dX12_mixSha_294 (by decide) ?_
              exact ih_B14 z155 x15 x16 x17 z154 x19 x20 x21 z156 ls _ _ (om11 ((z156).toInt) (k24 : Int) ((x23).toInt) (((1 : Int32)).toInt) hrk_B14 xz156 (by decide)) (om14 ((z156).toInt) ((x23).toInt) (((1 : Int32)).toInt) xz156 hf_B14_0 (by decide)) hw (lv_sub hl [11, 1, 2, 3, 4, 5, 6, 7, 8, 0] rfl)
        exact B14 (2147483648 - ((0 : Int32)).toInt).toNat z6 z7 z8 z9 z10 z11 z12 z13 0 ls _ _ (Int.self_le_toNat _) (om18 (((0 : Int32)).toInt) (by decide)) hw (lv_sub hl [9, 8, 7, 6, 5, 4, 3, 2, 1, 0] rfl)
      · refine lv_aload_n hx hb dX12_mixSha_9 rfl (lv_at hl 0 rfl) ?_
        refine hk_get (ci := 15) (C := RX12) (T := TX12) (N := 92) (v := .ref (ad 5)) hx hb hts (fun _ h => List.mem_cons_of_mem _ (wwMc_wsX120 _ h)) hown hw 0 rfl rfl 20 (by decide) (hq _ wM_19) rfl dX12_mixSha_10 ?_
        refine lv_iload_n hx hb dX12_mixSha_13 rfl (lv_at hl 1 rfl) ?_
        refine lv_bipush (v := 15) hx hb dX12_mixSha_14 (by decide) ?_
        refine lv_isub hx hb dX12_mixSha_16 (jx_nm fun z157 hz157 => ?_)
        have xz157 : (z157).toInt = (x2).toInt - ((15 : Int32)).toInt := (hE_imp (hE_sub hz157) (om58 ((x2).toInt) (((15 : Int32)).toInt) (((64 : Int32)).toInt) hf_B1_0 (hE_nle cc5) (by decide) (by decide)))
        refine jx_iald hx hb hw 5 0 rfl rfl (hE_in (n := 64) (om59 ((z157).toInt) ((x2).toInt) (((15 : Int32)).toInt) (((64 : Int32)).toInt) xz157 hf_B1_0 (hE_nle cc5) (by decide) (by decide))) dX12_mixSha_17 (fun z158 hz158 => ?_)
        refine lv_istore_n (lv' := [(2, .int z158), (0, .ref (ad 0)), (1, .int x2)]) hx hb dX12_mixSha_18 rfl hl (by decide) rfl (fun ls hl => ?_)
        refine lv_aload_n hx hb dX12_mixSha_19 rfl (lv_at hl 1 rfl) ?_
        refine hk_get (ci := 15) (C := RX12) (T := TX12) (N := 92) (v := .ref (ad 5)) hx hb hts (fun _ h => List.mem_cons_of_mem _ (wwMc_wsX120 _ h)) hown hw 0 rfl rfl 20 (by decide) (hq _ wM_19) rfl dX12_mixSha_20 ?_
        refine lv_iload_n hx hb dX12_mixSha_23 rfl (lv_at hl 2 rfl) ?_
        refine lv_iconst (v := 2) hx hb dX12_mixSha_24 (by decide) ?_
        refine lv_isub hx hb dX12_mixSha_25 (jx_nm fun z159 hz159 => ?_)
        have xz159 : (z159).toInt = (x2).toInt - ((2 : Int32)).toInt := (hE_imp (hE_sub hz159) (om60 ((x2).toInt) (((2 : Int32)).toInt) (((64 : Int32)).toInt) hf_B1_0 (hE_nle cc5) (by decide) (by decide)))
        refine jx_iald hx hb hw 5 0 rfl rfl (hE_in (n := 64) (om61 ((z159).toInt) ((x2).toInt) (((2 : Int32)).toInt) (((64 : Int32)).toInt) xz159 hf_B1_0 (hE_nle cc5) (by decide) (by decide))) dX12_mixSha_26 (fun z160 hz160 => ?_)
        refine lv_istore_n (lv' := [(3, .int z160), (2, .int z158), (0, .ref (ad 0)), (1, .int x2)]) hx hb dX12_mixSha_27 rfl hl (by decide) rfl (fun ls hl => ?_)
        refine lv_aload_n hx hb dX12_mixSha_28 rfl (lv_at hl 2 rfl) ?_
        refine hk_get (ci := 15) (C := RX12) (T := TX12) (N := 92) (v := .ref (ad 5)) hx hb hts (fun _ h => List.mem_cons_of_mem _ (wwMc_wsX120 _ h)) hown hw 0 rfl rfl 20 (by decide) (hq _ wM_19) rfl dX12_mixSha_29 ?_
        refine lv_iload_n hx hb dX12_mixSha_32 rfl (lv_at hl 3 rfl) ?_
        refine lv_aload_n hx hb dX12_mixSha_33 rfl (lv_at hl 2 rfl) ?_
        refine hk_get (ci := 15) (C := RX12) (T := TX12) (N := 92) (v := .ref (ad 5)) hx hb hts (fun _ h => List.mem_cons_of_mem _ (wwMc_wsX120 _ h)) hown hw 0 rfl rfl 20 (by decide) (hq _ wM_19) rfl dX12_mixSha_34 ?_
        refine lv_iload_n hx hb dX12_mixSha_37 rfl (lv_at hl 3 rfl) ?_
        refine lv_bipush (v := 16) hx hb dX12_mixSha_38 (by decide) ?_
        refine lv_isub hx hb dX12_mixSha_40 (jx_nm fun z161 hz161 => ?_)
        have xz161 : (z161).toInt = (x2).toInt - ((16 : Int32)).toInt := (hE_imp (hE_sub hz161) (om62 ((x2).toInt) (((16 : Int32)).toInt) (((64 : Int32)).toInt) hf_B1_0 (hE_nle cc5) (by decide) (by decide)))
        refine jx_iald hx hb hw 5 0 rfl rfl (hE_in (n := 64) (om63 ((z161).toInt) ((x2).toInt) (((16 : Int32)).toInt) (((64 : Int32)).toInt) xz161 hf_B1_0 (hE_nle cc5) (by decide) (by decide))) dX12_mixSha_41 (fun z162 hz162 => ?_)
        refine lv_iload_n hx hb dX12_mixSha_42 rfl (lv_at hl 1 rfl) ?_
        refine lv_bipush (v := 7) hx hb dX12_mixSha_43 (by decide) ?_
        refine jx_Si (As := [.int z158, .int 7]) (rest := [.int z162, .int x2, .ref (ad 5)]) ⟨hx, hb, hml, hown, hts⟩ hZ hw hA (jm_X12_turned l hlt D t3 cI cJ ad g lg a3 bk _ z158 7) (va_cwS 2 hts (jx_gS wwM_good wM_250 wM_251 wM_8 wM_252) rfl rfl rfl (by decide +kernel) ⟨Nat.le_of_ble_eq_true rfl, Nat.le_of_ble_eq_true rfl⟩) rfl hl.1 rfl (Nat.le_of_ble_eq_true rfl) dX12_mixSha_45 ⟨Nat.le_of_ble_eq_true rfl, Nat.le_of_ble_eq_true rfl⟩ (fun _ _ _ _ _ _ _ _ hp _ _ _ _ => hp.elim) (fun r167 g168 l169 a170 b171 H locs hp172 hw => ?_)
        obtain ⟨rfl, rfl, rfl, rfl⟩ := hp172
        refine lv_iload_n hx hb dX12_mixSha_48 rfl (lv_at hl 1 rfl) ?_
        refine lv_bipush (v := 18) hx hb dX12_mixSha_49 (by decide) ?_
        refine jx_Si (As := [.int z158, .int 18]) (rest := [.int r167, .int z162, .int x2, .ref (ad 5)]) ⟨hx, hb, hml, hown, hts⟩ hZ hw hA (jm_X12_turned l hlt D t3 cI cJ ad g lg a3 bk _ z158 18) (va_cwS 2 hts (jx_gS wwM_good wM_250 wM_251 wM_8 wM_252) rfl rfl rfl (by decide +kernel) ⟨Nat.le_of_ble_eq_true rfl, Nat.le_of_ble_eq_true rfl⟩) rfl hl.1 rfl (Nat.le_of_ble_eq_true rfl) dX12_mixSha_51 ⟨Nat.le_of_ble_eq_true rfl, Nat.le_of_ble_eq_true rfl⟩ (fun _ _ _ _ _ _ _ _ hp _ _ _ _ => hp.elim) (fun r181 g182 l183 a184 b185 H locs hp186 hw => ?_)
        obtain ⟨rfl, rfl, rfl, rfl⟩ := hp186
        refine lv_ixor hx hb dX12_mixSha_54 (jx_nm fun z191 hz191 => ?_)
        refine lv_iload_n hx hb dX12_mixSha_55 rfl (lv_at hl 1 rfl) ?_
        refine lv_iconst (v := 3) hx hb dX12_mixSha_56 (by decide) ?_
        refine lv_iushr hx hb dX12_mixSha_57 rfl (jx_nm fun z192 hz192 => ?_)
        refine lv_ixor hx hb dX12_mixSha_58 (jx_nm fun z193 hz193 => ?_)
        refine lv_iadd hx hb dX12_mixSha_59 (jx_nm fun z194 hz194 => ?_)
        refine lv_aload_n hx hb dX12_mixSha_60 rfl (lv_at hl 2 rfl) ?_
        refine hk_get (ci := 15) (C := RX12) (T := TX12) (N := 92) (v := .ref (ad 5)) hx hb hts (fun _ h => List.mem_cons_of_mem _ (wwMc_wsX120 _ h)) hown hw 0 rfl rfl 20 (by decide) (hq _ wM_19) rfl dX12_mixSha_61 ?_
        refine lv_iload_n hx hb dX12_mixSha_64 rfl (lv_at hl 3 rfl) ?_
        refine lv_bipush (v := 7) hx hb dX12_mixSha_65 (by decide) ?_
        refine lv_isub hx hb dX12_mixSha_67 (jx_nm fun z195 hz195 => ?_)
        have xz195 : (z195).toInt = (x2).toInt - ((7 : Int32)).toInt := (hE_imp (hE_sub hz195) (om64 ((x2).toInt) (((7 : Int32)).toInt) (((64 : Int32)).toInt) hf_B1_0 (hE_nle cc5) (by decide) (by decide)))
        refine jx_iald hx hb hw 5 0 rfl rfl (hE_in (n := 64) (om65 ((z195).toInt) ((x2).toInt) (((7 : Int32)).toInt) (((64 : Int32)).toInt) xz195 hf_B1_0 (hE_nle cc5) (by decide) (by decide))) dX12_mixSha_68 (fun z196 hz196 => ?_)
        refine lv_iadd hx hb dX12_mixSha_69 (jx_nm fun z197 hz197 => ?_)
        refine lv_iload_n hx hb dX12_mixSha_70 rfl (lv_at hl 0 rfl) ?_
        refine lv_bipush (v := 17) hx hb dX12_mixSha_71 (by decide) ?_
        refine jx_Si (As := [.int z160, .int 17]) (rest := [.int z197, .int x2, .ref (ad 5)]) ⟨hx, hb, hml, hown, hts⟩ hZ hw hA (jm_X12_turned l hlt D t3 cI cJ ad g lg a3 bk _ z160 17) (va_cwS 2 hts (jx_gS wwM_good wM_250 wM_251 wM_8 wM_252) rfl rfl rfl (by decide +kernel) ⟨Nat.le_of_ble_eq_true rfl, Nat.le_of_ble_eq_true rfl⟩) rfl hl.1 rfl (Nat.le_of_ble_eq_true rfl) dX12_mixSha_73 ⟨Nat.le_of_ble_eq_true rfl, Nat.le_of_ble_eq_true rfl⟩ (fun _ _ _ _ _ _ _ _ hp _ _ _ _ => hp.elim) (fun r202 g203 l204 a205 b206 H locs hp207 hw => ?_)
        obtain ⟨rfl, rfl, rfl, rfl⟩ := hp207
        refine lv_iload_n hx hb dX12_mixSha_76 rfl (lv_at hl 0 rfl) ?_
        refine lv_bipush (v := 19) hx hb dX12_mixSha_77 (by decide) ?_
        refine jx_Si (As := [.int z160, .int 19]) (rest := [.int r202, .int z197, .int x2, .ref (ad 5)]) ⟨hx, hb, hml, hown, hts⟩ hZ hw hA (jm_X12_turned l hlt D t3 cI cJ ad g lg a3 bk _ z160 19) (va_cwS 2 hts (jx_gS wwM_good wM_250 wM_251 wM_8 wM_252) rfl rfl rfl (by decide +kernel) ⟨Nat.le_of_ble_eq_true rfl, Nat.le_of_ble_eq_true rfl⟩) rfl hl.1 rfl (Nat.le_of_ble_eq_true rfl) dX12_mixSha_79 ⟨Nat.le_of_ble_eq_true rfl, Nat.le_of_ble_eq_true rfl⟩ (fun _ _ _ _ _ _ _ _ hp _ _ _ _ => hp.elim) (fun r216 g217 l218 a219 b220 H locs hp221 hw => ?_)
        obtain ⟨rfl, rfl, rfl, rfl⟩ := hp221
        refine lv_ixor hx hb dX12_mixSha_82 (jx_nm fun z226 hz226 => ?_)
        refine lv_iload_n hx hb dX12_mixSha_83 rfl (lv_at hl 0 rfl) ?_
        refine lv_bipush (v := 10) hx hb dX12_mixSha_84 (by decide) ?_
        refine lv_iushr hx hb dX12_mixSha_86 rfl (jx_nm fun z227 hz227 => ?_)
        refine lv_ixor hx hb dX12_mixSha_87 (jx_nm fun z228 hz228 => ?_)
        refine lv_iadd hx hb dX12_mixSha_88 (jx_nm fun z229 hz229 => ?_)
        refine jx_iast mw (cI := cI) (cJ := cJ) (ad := ad) (g := g) (lg := lg) (ar := a3) (bk := bk) 4 hx hb hw 5 0 rfl rfl (hE_in (n := 64) (om66 ((x2).toInt) (((64 : Int32)).toInt) hf_B1_0 (hE_nle cc5) (by decide))) dX12_mixSha_89 rfl (fun H locs a230 h_a230 hw => ?_)
        obtain ⟨z231, hz231⟩ : ∃ z : Int32, x2 + 1 = z := ⟨_, rfl⟩
        refine lv_iinc (v := z231) (lv' := [(1, .int z231), (3, .int z160), (2, .int z158), (0, .ref (ad 0))]) hx hb dX12_mixSha_90 hl (k := 3) rfl hz231 (by decide) rfl (fun ls hl => ?_)
        have xz231 : (z231).toInt = (x2).toInt + ((1 : Int32)).toInt := (hE_imp (hE_add hz231) (om67 ((x2).toInt) (((1 : Int32)).toInt) (((64 : Int32)).toInt) hf_B1_0 (hE_nle cc5) (by decide) (by decide)))
        refine lv_goto (tgt := 3) hx hb dX12_mixSha_93 (by decide) ?_
        exact ih_B1 z231 a230 ls _ _ (om11 ((z231).toInt) (k4 : Int) ((x2).toInt) (((1 : Int32)).toInt) hrk_B1 xz231 (by decide)) (om68 ((z231).toInt) ((x2).toInt) (((1 : Int32)).toInt) xz231 hf_B1_0 (by decide)) (hk_frA hfr_a3 (by decide) h_a230) hw (lv_sub hl [3, 0] rfl)
  exact B1 (2147483648 - ((16 : Int32)).toInt).toNat 16 ar ls _ _ (Int.self_le_toNat _) (om69 (((16 : Int32)).toInt) (by decide)) hk_fr0 hw (lv_sub hl [1, 0] rfl)

set_option maxHeartbeats 4000000 in
set_option maxRecDepth 100000 in
/-- X12_addSha on (0,) -/
theorem jm_X12_addSha (l : Launch) (hlt : l.stackTraces = false) (D : va_G) (t3 : Nat × Nat × Nat) (cI cJ : ClassId) (ad : Nat → Nat) (g : Nat → Int32) (lg : Nat → Int64) (ar : Nat → Nat → Int32) (bk : Nat → Int64) (sz : Nat) (y1 : Int32) (hi_g15 : 0 ≤ (g 15).toInt ∧ (g 15).toInt ≤ 63) : JMv l yX12_addSha (Cond.code yX12_addSha cX12_addSha 3 none :: wwM) { frames := 2, cells := 0, slots := 0, locals := 52 } t3 D mw cI cJ ad [.ref (ad 0), .int y1] (mw cI cJ ad g lg ar bk) sz 0 0 (fun g' lg' ar' bk' => hk_fr [15] g g' ∧ hk_fr [1] lg lg' ∧ hk_fr [3, 4] ar ar' ∧ bk = bk' ∧ (((g' 15).toInt = (g 15).toInt + 1 ∧ (g 15).toInt ≤ 62) ∨ ((g 15).toInt = 63 ∧ (g' 15).toInt = 0)) ∧ (0 ≤ (g' 15).toInt ∧ (g' 15).toInt ≤ 63)) (fun g' lg' ar' bk' => False) := by
  refine jx_metv (cc := cX12_addSha) (maxL := 3) (ret := none) rfl (by decide) rfl (Nat.le_of_ble_eq_true rfl) ?_
  intro p e s m args below meth c ls Q A hx hb hml hown hts hA hZ hw hl hQ kr kt
  have hq : ∀ w ∈ wwM, w.before args s = true := fun w h => hts w (List.mem_cons_of_mem _ h)
  have hl : lv_has ls 3 [(0, .ref (ad 0)), (1, .int y1)] := hl
  refine lv_aload_n hx hb dX12_addSha_0 rfl (lv_at hl 0 rfl) ?_
  refine hk_get (ci := 15) (C := RX12) (T := TX12) (N := 92) (v := .int (g 15)) hx hb hts (fun _ h => List.mem_cons_of_mem _ (wwMc_wsX120 _ h)) hown hw 0 rfl rfl 21 (by decide) (hq _ wM_18) rfl dX12_addSha_1 ?_
  refine lv_iconst (v := 4) hx hb dX12_addSha_4 (by decide) ?_
  refine lv_idiv hx hb dX12_addSha_5 (by decide) (jx_nm fun z1 hz1 => ?_)
  refine lv_istore_n (lv' := [(2, .int z1), (0, .ref (ad 0)), (1, .int y1)]) hx hb dX12_addSha_6 rfl hl (by decide) rfl (fun ls hl => ?_)
  refine lv_aload_n hx hb dX12_addSha_7 rfl (lv_at hl 1 rfl) ?_
  refine hk_get (ci := 15) (C := RX12) (T := TX12) (N := 92) (v := .ref (ad 5)) hx hb hts (fun _ h => List.mem_cons_of_mem _ (wwMc_wsX120 _ h)) hown hw 0 rfl rfl 20 (by decide) (hq _ wM_19) rfl dX12_addSha_8 ?_
  refine lv_iload_n hx hb dX12_addSha_11 rfl (lv_at hl 0 rfl) ?_
  refine lv_aload_n hx hb dX12_addSha_12 rfl (lv_at hl 1 rfl) ?_
  refine hk_get (ci := 15) (C := RX12) (T := TX12) (N := 92) (v := .int (g 15)) hx hb hts (fun _ h => List.mem_cons_of_mem _ (wwMc_wsX120 _ h)) hown hw 0 rfl rfl 21 (by decide) (hq _ wM_18) rfl dX12_addSha_13 ?_
  refine lv_iconst (v := 4) hx hb dX12_addSha_16 (by decide) ?_
  refine lv_irem hx hb dX12_addSha_17 (by decide) (jx_nm fun z2 hz2 => ?_)
  have B3 : ∀  (x4 : Int32) (ls : Array Slot) (H : Heap) (locs : List Loc), hk_W D (jT cI cJ) A s H locs (mw cI cJ ad g lg ar bk) → lv_has ls 3 [(0, .ref (ad 0))] → W p l e { frames := 2, cells := 0, slots := 0, locals := 52 } s m args below meth c H locs 0 0 Q (F0 m 49 ls [.int x4, .int z1, .ref (ad 5)]) := by
    intro x4 ls H locs hw hl
    refine jx_iast mw (cI := cI) (cJ := cJ) (ad := ad) (g := g) (lg := lg) (ar := ar) (bk := bk) 4 hx hb hw 5 0 rfl rfl (hE_in (n := 64) (om71 ((z1).toInt) ((g 15).toInt) ((hE_div 4 hz1 (by decide) (by decide)).1 (om70 ((g 15).toInt) hi_g15)) hi_g15)) dX12_addSha_49 rfl (fun H locs a5 h_a5 hw => ?_)
    refine lv_aload_n hx hb dX12_addSha_50 rfl (lv_at hl 0 rfl) ?_
    refine lv_dup hx hb dX12_addSha_51 rfl ?_
    refine hk_get (ci := 15) (C := RX12) (T := TX12) (N := 92) (v := .int (g 15)) hx hb hts (fun _ h => List.mem_cons_of_mem _ (wwMc_wsX120 _ h)) hown hw 0 rfl rfl 21 (by decide) (hq _ wM_18) rfl dX12_addSha_52 ?_
    refine lv_iconst (v := 1) hx hb dX12_addSha_55 (by decide) ?_
    refine lv_iadd hx hb dX12_addSha_56 (jx_nm fun z6 hz6 => ?_)
    have xz6 : (z6).toInt = (g 15).toInt + ((1 : Int32)).toInt := (hE_imp (hE_add hz6) (om72 ((g 15).toInt) (((1 : Int32)).toInt) hi_g15 (by decide)))
    refine jx_putg mw (cI := cI) (cJ := cJ) (ad := ad) (g := g) (lg := lg) (ar := a5) (bk := bk) (x := z6) 15 (ci := 15) (C := RX12) (T := TX12) (N := 92) (ty := .int) hx hb hts (fun _ h => List.mem_cons_of_mem _ (wwMc_wsX120 _ h)) tyX12 tyX12_ok nmX12 hown hw 0 rfl rfl 21 (by decide) (hq _ wM_18) rfl (by decide +kernel) rfl rfl (Nat.le_of_ble_eq_true rfl) dX12_addSha_57 rfl (fun H locs g7 h_g7 hw => ?_)
    refine lv_aload_n hx hb dX12_addSha_60 rfl (lv_at hl 0 rfl) ?_
    refine lv_dup hx hb dX12_addSha_61 rfl ?_
    refine hk_get (ci := 15) (C := RX12) (T := TX12) (N := 92) (v := .long (lg 1)) hx hb hts (fun _ h => List.mem_cons_of_mem _ (wwMc_wsX120 _ h)) hown hw 0 rfl rfl 22 (by decide) (hq _ wM_20) rfl dX12_addSha_62 ?_
    refine lv_ldc2 (v := 8) hx hb hown (hq _ wM_21) dX12_addSha_65 ?_
    refine lv_ladd hx hb dX12_addSha_68 (jx_nl fun z8 hz8 => ?_)
    refine jx_putl mw (cI := cI) (cJ := cJ) (ad := ad) (g := g7) (lg := lg) (ar := a5) (bk := bk) (x := z8) 1 (ci := 15) (C := RX12) (T := TX12) (N := 92) (ty := .long) hx hb hts (fun _ h => List.mem_cons_of_mem _ (wwMc_wsX120 _ h)) tyX12 tyX12_ok nmX12 hown hw 0 rfl rfl 22 (by decide) (hq _ wM_20) rfl (by decide +kernel) rfl rfl (Nat.le_of_ble_eq_true rfl) dX12_addSha_69 rfl (fun H locs l9 h_l9 hw => ?_)
    refine lv_aload_n hx hb dX12_addSha_72 rfl (lv_at hl 0 rfl) ?_
    have e_g7_15 : g7 15 = z6 := (hk_upgS h_g7)
    refine hk_get (ci := 15) (C := RX12) (T := TX12) (N := 92) (v := .int z6) hx hb hts (fun _ h => List.mem_cons_of_mem _ (wwMc_wsX120 _ h)) hown hw 0 rfl rfl 21 (by decide) (hq _ wM_18) (congrArg (fun z => some (Value.int z)) e_g7_15) dX12_addSha_73 ?_
    refine lv_bipush (v := 64) hx hb dX12_addSha_76 (by decide) ?_
    refine lv_icmp_ne (tgt := 90) hx hb dX12_addSha_78 (by decide) (fun cc10 => ?_) (fun cc10 => ?_)
    · exact kr g7 l9 a5 bk _ _ _ _ ⟨(hk_frG hk_fr0 (by decide) h_g7), (hk_frL hk_fr0 (by decide) h_l9), (hk_frA hk_fr0 (by decide) h_a5), rfl, (om73 ((g7 15).toInt) ((g 15).toInt) ((z6).toInt) (((1 : Int32)).toInt) (((64 : Int32)).toInt) hi_g15 xz6 (congrArg Int32.toInt e_g7_15) (hE_ne cc10) (by decide) (by decide)), (om74 ((g7 15).toInt) ((z6).toInt) ((g 15).toInt) (((1 : Int32)).toInt) (((64 : Int32)).toInt) (congrArg Int32.toInt e_g7_15) xz6 (hE_ne cc10) hi_g15 (by decide) (by decide))⟩ hw dX12_addSha_90
    · refine lv_aload_n hx hb dX12_addSha_81 rfl (lv_at hl 0 rfl) ?_
      refine jx_Vv (As := []) (rest := []) ⟨hx, hb, hml, hown, hts⟩ hZ hw hA (jm_X12_mixSha l hlt D t3 cI cJ ad g7 l9 a5 bk _) (cwV 0 hts (jx_gV wwM_good wM_22 wM_23 wM_24 wM_8 wM_25) rfl rfl rfl (by decide +kernel) ⟨Nat.le_of_ble_eq_true rfl, Nat.le_of_ble_eq_true rfl⟩) 0 (ci := 15) (T := TX12) (N := 92) rfl rfl rfl hl.1 rfl (Nat.le_of_ble_eq_true rfl) dX12_addSha_82 ⟨Nat.le_of_ble_eq_true rfl, Nat.le_of_ble_eq_true rfl⟩ (fun _ _ _ _ _ _ _ _ hp _ _ _ _ => hp.elim) (fun g16 l17 a18 b19 H locs hp20 hw => ?_)
      obtain ⟨rfl, rfl, h23, rfl⟩ := hp20
      refine lv_aload_n hx hb dX12_addSha_85 rfl (lv_at hl 0 rfl) ?_
      refine lv_iconst (v := 0) hx hb dX12_addSha_86 (by decide) ?_
      refine jx_putg mw (cI := cI) (cJ := cJ) (ad := ad) (g := g7) (lg := l9) (ar := a18) (bk := bk) (x := 0) 15 (ci := 15) (C := RX12) (T := TX12) (N := 92) (ty := .int) hx hb hts (fun _ h => List.mem_cons_of_mem _ (wwMc_wsX120 _ h)) tyX12 tyX12_ok nmX12 hown hw 0 rfl rfl 21 (by decide) (hq _ wM_18) rfl (by decide +kernel) rfl rfl (Nat.le_of_ble_eq_true rfl) dX12_addSha_87 rfl (fun H locs g25 h_g25 hw => ?_)
      have e_g25_15 : g25 15 = (0 : Int32) := (hk_upgS h_g25)
      exact kr g25 l9 a18 bk _ _ _ _ ⟨(hk_frG (hk_frG hk_fr0 (by decide) h_g7) (by decide) h_g25), (hk_frL hk_fr0 (by decide) h_l9), (hk_frT (hk_frA hk_fr0 (by decide) h_a5) (by decide) h23), rfl, (om75 ((g25 15).toInt) ((g 15).toInt) ((z6).toInt) (((1 : Int32)).toInt) (((0 : Int32)).toInt) (((64 : Int32)).toInt) hi_g15 xz6 (congrArg Int32.toInt e_g25_15) (hE_eq cc10) (by decide) (by decide) (by decide)), (om55 ((g25 15).toInt) (((0 : Int32)).toInt) (congrArg Int32.toInt e_g25_15) (by decide))⟩ hw dX12_addSha_90
  refine lv_if_ne (tgt := 28) hx hb dX12_addSha_18 (by decide) (fun cc26 => ?_) (fun cc26 => ?_)
  · refine lv_aload_n hx hb dX12_addSha_28 rfl (lv_at hl 1 rfl) ?_
    refine hk_get (ci := 15) (C := RX12) (T := TX12) (N := 92) (v := .ref (ad 5)) hx hb hts (fun _ h => List.mem_cons_of_mem _ (wwMc_wsX120 _ h)) hown hw 0 rfl rfl 20 (by decide) (hq _ wM_19) rfl dX12_addSha_29 ?_
    refine lv_iload_n hx hb dX12_addSha_32 rfl (lv_at hl 0 rfl) ?_
    refine jx_iald hx hb hw 5 0 rfl rfl (hE_in (n := 64) (om76 ((z1).toInt) ((g 15).toInt) ((z2).toInt) (((0 : Int32)).toInt) ((hE_div 4 hz1 (by decide) (by decide)).1 (om70 ((g 15).toInt) hi_g15)) hi_g15 ((hE_rem 4 hz2 (by decide) (by decide)).1 (om70 ((g 15).toInt) hi_g15)) (hE_ne cc26) (by decide))) dX12_addSha_33 (fun z27 hz27 => ?_)
    refine lv_iload_n hx hb dX12_addSha_34 rfl (lv_at hl 2 rfl) ?_
    refine lv_bipush (v := 24) hx hb dX12_addSha_35 (by decide) ?_
    refine lv_bipush (v := 8) hx hb dX12_addSha_37 (by decide) ?_
    refine lv_aload_n hx hb dX12_addSha_39 rfl (lv_at hl 1 rfl) ?_
    refine hk_get (ci := 15) (C := RX12) (T := TX12) (N := 92) (v := .int (g 15)) hx hb hts (fun _ h => List.mem_cons_of_mem _ (wwMc_wsX120 _ h)) hown hw 0 rfl rfl 21 (by decide) (hq _ wM_18) rfl dX12_addSha_40 ?_
    refine lv_iconst (v := 4) hx hb dX12_addSha_43 (by decide) ?_
    refine lv_irem hx hb dX12_addSha_44 (by decide) (jx_nm fun z28 hz28 => ?_)
    refine lv_imul hx hb dX12_addSha_45 (jx_nm fun z29 hz29 => ?_)
    have xz29 : (z29).toInt = (z28).toInt * 8 := (hE_imp (hE_mul' 8 hz29 (by decide)) (om77 ((z28).toInt) ((g 15).toInt) ((z2).toInt) (((0 : Int32)).toInt) ((hE_rem 4 hz28 (by decide) (by decide)).1 (om70 ((g 15).toInt) hi_g15)) ((hE_rem 4 hz2 (by decide) (by decide)).1 (om70 ((g 15).toInt) hi_g15)) (hE_ne cc26) (by decide)))
    refine lv_isub hx hb dX12_addSha_46 (jx_nm fun z30 hz30 => ?_)
    have xz30 : (z30).toInt = ((24 : Int32)).toInt - (z29).toInt := (hE_imp (hE_sub hz30) (om78 (((24 : Int32)).toInt) ((z29).toInt) ((z28).toInt) ((g 15).toInt) ((z2).toInt) (((0 : Int32)).toInt) xz29 ((hE_rem 4 hz28 (by decide) (by decide)).1 (om70 ((g 15).toInt) hi_g15)) ((hE_rem 4 hz2 (by decide) (by decide)).1 (om70 ((g 15).toInt) hi_g15)) (hE_ne cc26) (by decide) (hE_rng (z29)) (by decide)))
    refine lv_ishl hx hb dX12_addSha_47 (jx_nm fun z31 hz31 => ?_)
    refine lv_ior hx hb dX12_addSha_48 (jx_nm fun z32 hz32 => ?_)
    exact B3 z32 ls _ _ hw (lv_sub hl [1] rfl)
  · refine lv_iload_n hx hb dX12_addSha_21 rfl (lv_at hl 2 rfl) ?_
    refine lv_bipush (v := 24) hx hb dX12_addSha_22 (by decide) ?_
    refine lv_ishl hx hb dX12_addSha_24 (jx_nm fun z33 hz33 => ?_)
    refine lv_goto (tgt := 49) hx hb dX12_addSha_25 (by decide) ?_
    exact B3 z33 ls _ _ hw (lv_sub hl [1] rfl)

set_option maxHeartbeats 4000000 in
set_option maxRecDepth 100000 in
/-- X12_endSha on (0,) -/
theorem jm_X12_endSha (l : Launch) (hlt : l.stackTraces = false) (D : va_G) (t3 : Nat × Nat × Nat) (cI cJ : ClassId) (ad : Nat → Nat) (g : Nat → Int32) (lg : Nat → Int64) (ar : Nat → Nat → Int32) (bk : Nat → Int64) (sz : Nat) (hi_g15 : 0 ≤ (g 15).toInt ∧ (g 15).toInt ≤ 63) : JMv l yX12_endSha (Cond.code yX12_endSha cX12_endSha 4 none :: wwM) { frames := 3, cells := 0, slots := 0, locals := 74 } t3 D mw cI cJ ad [.ref (ad 0)] (mw cI cJ ad g lg ar bk) sz 0 0 (fun g' lg' ar' bk' => hk_fr [15] g g' ∧ hk_fr [1] lg lg' ∧ hk_fr [3, 4] ar ar' ∧ bk = bk' ∧ (0 ≤ (g' 15).toInt ∧ (g' 15).toInt ≤ 63)) (fun g' lg' ar' bk' => False) := by
  refine jx_metv (cc := cX12_endSha) (maxL := 4) (ret := none) rfl (by decide) rfl (Nat.le_of_ble_eq_true rfl) ?_
  intro p e s m args below meth c ls Q A hx hb hml hown hts hA hZ hw hl hQ kr kt
  have hq : ∀ w ∈ wwM, w.before args s = true := fun w h => hts w (List.mem_cons_of_mem _ h)
  have hl : lv_has ls 4 [(0, .ref (ad 0))] := hl
  refine lv_aload_n hx hb dX12_endSha_0 rfl (lv_at hl 0 rfl) ?_
  refine hk_get (ci := 15) (C := RX12) (T := TX12) (N := 92) (v := .long (lg 1)) hx hb hts (fun _ h => List.mem_cons_of_mem _ (wwMc_wsX120 _ h)) hown hw 0 rfl rfl 22 (by decide) (hq _ wM_20) rfl dX12_endSha_1 ?_
  refine lv_lstore_n (lv' := [(1, .long (lg 1)), (0, .ref (ad 0))]) hx hb dX12_endSha_4 rfl hl (by decide) rfl (fun ls hl => ?_)
  refine lv_aload_n hx hb dX12_endSha_5 rfl (lv_at hl 1 rfl) ?_
  refine lv_sipush (v := 128) hx hb dX12_endSha_6 (by decide) ?_
  refine jx_Vv (As := [.int 128]) (rest := []) ⟨hx, hb, hml, hown, hts⟩ hZ hw hA (jm_X12_addSha l hlt D t3 cI cJ ad g lg ar bk _ 128 (om79 ((g 15).toInt) hi_g15)) (cwV 1 hts (jx_gV wwM_good wM_14 wM_15 wM_16 wM_8 wM_17) rfl rfl rfl (by decide +kernel) ⟨Nat.le_of_ble_eq_true rfl, Nat.le_of_ble_eq_true rfl⟩) 0 (ci := 15) (T := TX12) (N := 92) rfl rfl rfl hl.1 rfl (Nat.le_of_ble_eq_true rfl) dX12_endSha_9 ⟨Nat.le_of_ble_eq_true rfl, Nat.le_of_ble_eq_true rfl⟩ (fun _ _ _ _ _ _ _ _ hp _ _ _ _ => hp.elim) (fun g6 l7 a8 b9 H locs hp10 hw => ?_)
  obtain ⟨h11, h12, h13, rfl, h15, h16⟩ := hp10
  have B17 : ∀ (k21 : Nat) (g18 : Nat → Int32) (l19 : Nat → Int64) (a20 : Nat → Nat → Int32) (ls : Array Slot) (H : Heap) (locs : List Loc), ((120 - (g18 15).toInt) % 64 + 1 ≤ (k21 : Int)) → (0 ≤ (g18 15).toInt ∧ (g18 15).toInt ≤ 63) → (hk_fr [15] g6 g18) → (hk_fr [1] l7 l19) → (hk_fr [3, 4] a8 a20) → hk_W D (jT cI cJ) A s H locs (mw cI cJ ad g18 l19 a20 bk) → lv_has ls 4 [(0, .ref (ad 0)), (1, .long (lg 1))] → W p l e { frames := 3, cells := 0, slots := 0, locals := 74 } s m args below meth c H locs 0 0 Q (F0 m 12 ls []) := by
    intro k21
    induction k21 with
    | zero =>
      intro g18 l19 a20 ls H locs hrk_B17 hf_B17_0 hfr_g18 hfr_l19 hfr_a20 hw hl
      exact False.elim (hk_no0 (0 * (g18 15).toInt) (om80 ((g18 15).toInt) hrk_B17) (by simp))
    | succ k21 ih_B17 =>
      intro g18 l19 a20 ls H locs hrk_B17 hf_B17_0 hfr_g18 hfr_l19 hfr_a20 hw hl
      have hrk_B17 := hk_rk hrk_B17
      refine lv_aload_n hx hb dX12_endSha_12 rfl (lv_at hl 0 rfl) ?_
      refine hk_get (ci := 15) (C := RX12) (T := TX12) (N := 92) (v := .int (g18 15)) hx hb hts (fun _ h => List.mem_cons_of_mem _ (wwMc_wsX120 _ h)) hown hw 0 rfl rfl 21 (by decide) (hq _ wM_18) rfl dX12_endSha_13 ?_
      refine lv_bipush (v := 56) hx hb dX12_endSha_16 (by decide) ?_
      refine lv_icmp_eq (tgt := 29) hx hb dX12_endSha_18 (by decide) (fun cc22 => ?_) (fun cc22 => ?_)
      · refine lv_bipush (v := 56) hx hb dX12_endSha_29 (by decide) ?_
        refine lv_istore_n (lv' := [(3, .int 56), (0, .ref (ad 0)), (1, .long (lg 1))]) hx hb dX12_endSha_31 rfl hl (by decide) rfl (fun ls hl => ?_)
        have B23 : ∀ (k28 : Nat) (x24 : Int32) (g25 : Nat → Int32) (l26 : Nat → Int64) (a27 : Nat → Nat → Int32) (ls : Array Slot) (H : Heap) (locs : List Loc), ((x24).toInt + 2147483649 ≤ (k28 : Int)) → ((x24).toInt ≤ 56) → (0 ≤ (g25 15).toInt ∧ (g25 15).toInt ≤ 63) → (hk_fr [15] g18 g25) → (hk_fr [1] l19 l26) → (hk_fr [3, 4] a20 a27) → hk_W D (jT cI cJ) A s H locs (mw cI cJ ad g25 l26 a27 bk) → lv_has ls 4 [(0, .ref (ad 0)), (1, .long (lg 1)), (3, .int x24)] → W p l e { frames := 3, cells := 0, slots := 0, locals := 74 } s m args below meth c H locs 0 0 Q (F0 m 32 ls []) := by
          intro k28
          induction k28 with
          | zero =>
            intro x24 g25 l26 a27 ls H locs hrk_B23 hf_B23_0 hf_B23_1 hfr_g25 hfr_l26 hfr_a27 hw hl
            exact False.elim (hk_no0 (0 * (x24).toInt) (om81 ((x24).toInt) hrk_B23 (hE_rng (x24))) (by simp))
          | succ k28 ih_B23 =>
            intro x24 g25 l26 a27 ls H locs hrk_B23 hf_B23_0 hf_B23_1 hfr_g25 hfr_l26 hfr_a27 hw hl
            have hrk_B23 := hk_rk hrk_B23
            refine lv_iload_n hx hb dX12_endSha_32 rfl (lv_at hl 2 rfl) ?_
            refine lv_if_lt (tgt := 54) hx hb dX12_endSha_33 (by decide) (fun cc29 => ?_) (fun cc29 => ?_)
            · exact kr g25 l26 a27 bk _ _ _ _ ⟨(hk_frT (hk_frT h11 (by decide) hfr_g18) (by decide) hfr_g25), (hk_frT (hk_frT h12 (by decide) hfr_l19) (by decide) hfr_l26), (hk_frT (hk_frT h13 (by decide) hfr_a20) (by decide) hfr_a27), rfl, (om79 ((g25 15).toInt) hf_B23_1)⟩ hw dX12_endSha_54
            · refine lv_aload_n hx hb dX12_endSha_36 rfl (lv_at hl 0 rfl) ?_
              refine lv_lload_n hx hb dX12_endSha_37 rfl (lv_at hl 1 rfl) ?_
              refine lv_iload_n hx hb dX12_endSha_38 rfl (lv_at hl 2 rfl) ?_
              refine lv_lshr hx hb dX12_endSha_39 rfl (jx_nl fun z30 hz30 => ?_)
              refine lv_l2i hx hb dX12_endSha_40 rfl (jx_nm fun z31 hz31 => ?_)
              refine lv_sipush (v := 255) hx hb dX12_endSha_41 (by decide) ?_
              refine lv_iand hx hb dX12_endSha_44 (jx_nm fun z32 hz32 => ?_)
              refine jx_Vv (As := [.int z32]) (rest := []) ⟨hx, hb, hml, hown, hts⟩ hZ hw hA (jm_X12_addSha l hlt D t3 cI cJ ad g25 l26 a27 bk _ z32 (om79 ((g25 15).toInt) hf_B23_1)) (cwV 1 hts (jx_gV wwM_good wM_14 wM_15 wM_16 wM_8 wM_17) rfl rfl rfl (by decide +kernel) ⟨Nat.le_of_ble_eq_true rfl, Nat.le_of_ble_eq_true rfl⟩) 0 (ci := 15) (T := TX12) (N := 92) rfl rfl rfl hl.1 rfl (Nat.le_of_ble_eq_true rfl) dX12_endSha_45 ⟨Nat.le_of_ble_eq_true rfl, Nat.le_of_ble_eq_true rfl⟩ (fun _ _ _ _ _ _ _ _ hp _ _ _ _ => hp.elim) (fun g38 l39 a40 b41 H locs hp42 hw => ?_)
              obtain ⟨h43, h44, h45, rfl, h47, h48⟩ := hp42
              obtain ⟨z49, hz49⟩ : ∃ z : Int32, x24 + (-8) = z := ⟨_, rfl⟩
              refine lv_iinc (v := z49) (lv' := [(3, .int z49), (0, .ref (ad 0)), (1, .long (lg 1))]) hx hb dX12_endSha_48 hl (k := 2) rfl hz49 (by decide) rfl (fun ls hl => ?_)
              have xz49 : (z49).toInt = (x24).toInt + (((-8) : Int32)).toInt := (hE_imp (hE_add hz49) (om82 ((x24).toInt) ((((-8) : Int32)).toInt) (((0 : Int32)).toInt) hf_B23_0 (hE_nlt cc29) (by decide) (by decide)))
              refine lv_goto (tgt := 32) hx hb dX12_endSha_51 (by decide) ?_
              exact ih_B23 z49 g38 l39 a40 ls _ _ (om83 ((z49).toInt) (k28 : Int) ((x24).toInt) ((((-8) : Int32)).toInt) hrk_B23 xz49 (by decide)) (om84 ((z49).toInt) ((x24).toInt) ((((-8) : Int32)).toInt) xz49 hf_B23_0 (by decide)) (om85 ((g38 15).toInt) ((g25 15).toInt) h47 h48 hf_B23_1) (hk_frT hfr_g25 (by decide) h43) (hk_frT hfr_l26 (by decide) h44) (hk_frT hfr_a27 (by decide) h45) hw (lv_sub hl [1, 2, 0] rfl)
        exact B23 (((56 : Int32)).toInt + 2147483649).toNat 56 g18 l19 a20 ls _ _ (Int.self_le_toNat _) (om86 (((56 : Int32)).toInt) (by decide)) (om87 ((g18 15).toInt) (k21 : Int) (((56 : Int32)).toInt) hf_B17_0 hrk_B17 (hE_eq cc22) (hE_rng (g18 15)) (by decide)) hk_fr0 hk_fr0 hk_fr0 hw (lv_sub hl [1, 2, 0] rfl)
      · refine lv_aload_n hx hb dX12_endSha_21 rfl (lv_at hl 0 rfl) ?_
        refine lv_iconst (v := 0) hx hb dX12_endSha_22 (by decide) ?_
        refine jx_Vv (As := [.int 0]) (rest := []) ⟨hx, hb, hml, hown, hts⟩ hZ hw hA (jm_X12_addSha l hlt D t3 cI cJ ad g18 l19 a20 bk _ 0 (om79 ((g18 15).toInt) hf_B17_0)) (cwV 1 hts (jx_gV wwM_good wM_14 wM_15 wM_16 wM_8 wM_17) rfl rfl rfl (by decide +kernel) ⟨Nat.le_of_ble_eq_true rfl, Nat.le_of_ble_eq_true rfl⟩) 0 (ci := 15) (T := TX12) (N := 92) rfl rfl rfl hl.1 rfl (Nat.le_of_ble_eq_true rfl) dX12_endSha_23 ⟨Nat.le_of_ble_eq_true rfl, Nat.le_of_ble_eq_true rfl⟩ (fun _ _ _ _ _ _ _ _ hp _ _ _ _ => hp.elim) (fun g55 l56 a57 b58 H locs hp59 hw => ?_)
        obtain ⟨h60, h61, h62, rfl, h64, h65⟩ := hp59
        refine lv_goto (tgt := 12) hx hb dX12_endSha_26 (by decide) ?_
        exact ih_B17 g55 l56 a57 ls _ _ (om88 ((g55 15).toInt) (k21 : Int) ((g18 15).toInt) (((56 : Int32)).toInt) hrk_B17 h64 h65 hf_B17_0 (hE_ne cc22) (hE_rng (g55 15)) (hE_rng (g18 15)) (by decide)) (om85 ((g55 15).toInt) ((g18 15).toInt) h64 h65 hf_B17_0) (hk_frT hfr_g18 (by decide) h60) (hk_frT hfr_l19 (by decide) h61) (hk_frT hfr_a20 (by decide) h62) hw (lv_sub hl [0, 1] rfl)
  exact B17 ((120 - (g6 15).toInt) % 64 + 1).toNat g6 l7 a8 ls _ _ (Int.self_le_toNat _) (om85 ((g6 15).toInt) ((g 15).toInt) h15 h16 hi_g15) hk_fr0 hk_fr0 hk_fr0 hw (lv_sub hl [1, 0] rfl)

set_option maxHeartbeats 4000000 in
set_option maxRecDepth 100000 in
/-- X12_beginCheck on (0,) -/
theorem jm_X12_beginCheck (l : Launch) (hlt : l.stackTraces = false) (D : va_G) (t3 : Nat × Nat × Nat) (cI cJ : ClassId) (ad : Nat → Nat) (g : Nat → Int32) (lg : Nat → Int64) (ar : Nat → Nat → Int32) (bk : Nat → Int64) (sz : Nat) (y1 : Int32) (hi_g15 : 0 ≤ (g 15).toInt ∧ (g 15).toInt ≤ 63) : JMv l yX12_beginCheck (Cond.code yX12_beginCheck cX12_beginCheck 2 none :: wwM) { frames := 1, cells := 0, slots := 0, locals := 20 } t3 D mw cI cJ ad [.ref (ad 0), .int y1] (mw cI cJ ad g lg ar bk) sz 0 0 (fun g' lg' ar' bk' => hk_fr [14, 15, 16] g g' ∧ hk_fr [0, 1] lg lg' ∧ hk_fr [3] ar ar' ∧ bk = bk' ∧ (0 ≤ (g' 15).toInt ∧ (g' 15).toInt ≤ 63)) (fun g' lg' ar' bk' => False) := by
  refine jx_metv (cc := cX12_beginCheck) (maxL := 2) (ret := none) rfl (by decide) rfl (Nat.le_of_ble_eq_true rfl) ?_
  intro p e s m args below meth c ls Q A hx hb hml hown hts hA hZ hw hl hQ kr kt
  have hq : ∀ w ∈ wwM, w.before args s = true := fun w h => hts w (List.mem_cons_of_mem _ h)
  have hl : lv_has ls 2 [(0, .ref (ad 0)), (1, .int y1)] := hl
  refine lv_aload_n hx hb dX12_beginCheck_0 rfl (lv_at hl 0 rfl) ?_
  refine lv_iload_n hx hb dX12_beginCheck_1 rfl (lv_at hl 1 rfl) ?_
  refine jx_putg mw (cI := cI) (cJ := cJ) (ad := ad) (g := g) (lg := lg) (ar := ar) (bk := bk) (x := y1) 16 (ci := 15) (C := RX12) (T := TX12) (N := 92) (ty := .int) hx hb hts (fun _ h => List.mem_cons_of_mem _ (wwMc_wsX120 _ h)) tyX12 tyX12_ok nmX12 hown hw 0 rfl rfl 24 (by decide) (hq _ wM_4) rfl (by decide +kernel) rfl rfl (Nat.le_of_ble_eq_true rfl) dX12_beginCheck_2 rfl (fun H locs g1 h_g1 hw => ?_)
  refine lv_aload_n hx hb dX12_beginCheck_5 rfl (lv_at hl 0 rfl) ?_
  refine jx_Vv (As := []) (rest := []) ⟨hx, hb, hml, hown, hts⟩ hZ hw hA (jm_X12_begin32 l hlt D t3 cI cJ ad g1 lg ar bk _) (cwV 0 hts (jx_gV wwM_good wM_44 wM_45 wM_46 wM_8 wM_47) rfl rfl rfl (by decide +kernel) ⟨Nat.le_of_ble_eq_true rfl, Nat.le_of_ble_eq_true rfl⟩) 0 (ci := 15) (T := TX12) (N := 92) rfl rfl rfl hl.1 rfl (Nat.le_of_ble_eq_true rfl) dX12_beginCheck_6 ⟨Nat.le_of_ble_eq_true rfl, Nat.le_of_ble_eq_true rfl⟩ (fun _ _ _ _ _ _ _ _ hp _ _ _ _ => hp.elim) (fun g7 l8 a9 b10 H locs hp11 hw => ?_)
  obtain ⟨h12, rfl, rfl, rfl⟩ := hp11
  refine lv_aload_n hx hb dX12_beginCheck_9 rfl (lv_at hl 0 rfl) ?_
  refine lv_ldc2 (v := (-1)) hx hb hown (hq _ wM_48) dX12_beginCheck_10 ?_
  refine jx_putl mw (cI := cI) (cJ := cJ) (ad := ad) (g := g7) (lg := lg) (ar := ar) (bk := bk) (x := (-1)) 0 (ci := 15) (C := RX12) (T := TX12) (N := 92) (ty := .long) hx hb hts (fun _ h => List.mem_cons_of_mem _ (wwMc_wsX120 _ h)) tyX12 tyX12_ok nmX12 hown hw 0 rfl rfl 18 (by decide) (hq _ wM_2) rfl (by decide +kernel) rfl rfl (Nat.le_of_ble_eq_true rfl) dX12_beginCheck_13 rfl (fun H locs l16 h_l16 hw => ?_)
  refine lv_aload_n hx hb dX12_beginCheck_16 rfl (lv_at hl 0 rfl) ?_
  have e_g7_15 : g7 15 = (g 15) := ((h12 15 rfl)).trans (hk_upgN h_g1 15 rfl)
  refine jx_Vv (As := []) (rest := []) ⟨hx, hb, hml, hown, hts⟩ hZ hw hA (jm_X12_beginSha l hlt D t3 cI cJ ad g7 l16 ar bk _ (om89 ((g7 15).toInt) ((g 15).toInt) (congrArg Int32.toInt e_g7_15) hi_g15)) (cwV 0 hts (jx_gV wwM_good wM_49 wM_50 wM_51 wM_8 wM_52) rfl rfl rfl (by decide +kernel) ⟨Nat.le_of_ble_eq_true rfl, Nat.le_of_ble_eq_true rfl⟩) 0 (ci := 15) (T := TX12) (N := 92) rfl rfl rfl hl.1 rfl (Nat.le_of_ble_eq_true rfl) dX12_beginCheck_17 ⟨Nat.le_of_ble_eq_true rfl, Nat.le_of_ble_eq_true rfl⟩ (fun _ _ _ _ _ _ _ _ hp _ _ _ _ => hp.elim) (fun g22 l23 a24 b25 H locs hp26 hw => ?_)
  obtain ⟨h27, h28, h29, rfl, h31⟩ := hp26
  exact kr g22 l23 a24 bk _ _ _ _ ⟨(hk_frT (hk_frT (hk_frG hk_fr0 (by decide) h_g1) (by decide) h12) (by decide) h27), (hk_frT (hk_frL hk_fr0 (by decide) h_l16) (by decide) h28), h29, rfl, (om79 ((g22 15).toInt) h31)⟩ hw dX12_beginCheck_20

set_option maxHeartbeats 4000000 in
set_option maxRecDepth 100000 in
/-- X12_addCheck on (0,) -/
theorem jm_X12_addCheck (l : Launch) (hlt : l.stackTraces = false) (D : va_G) (t3 : Nat × Nat × Nat) (cI cJ : ClassId) (ad : Nat → Nat) (g : Nat → Int32) (lg : Nat → Int64) (ar : Nat → Nat → Int32) (bk : Nat → Int64) (sz : Nat) (y1 : Int32) (hi_g15 : 0 ≤ (g 15).toInt ∧ (g 15).toInt ≤ 63) : JMv l yX12_addCheck (Cond.code yX12_addCheck cX12_addCheck 2 none :: wwM) { frames := 3, cells := 0, slots := 0, locals := 74 } t3 D mw cI cJ ad [.ref (ad 0), .int y1] (mw cI cJ ad g lg ar bk) sz 0 0 (fun g' lg' ar' bk' => hk_fr [14, 15] g g' ∧ hk_fr [0, 1] lg lg' ∧ hk_fr [3, 4] ar ar' ∧ bk = bk' ∧ (0 ≤ (g' 15).toInt ∧ (g' 15).toInt ≤ 63)) (fun g' lg' ar' bk' => False) := by
  refine jx_metv (cc := cX12_addCheck) (maxL := 2) (ret := none) rfl (by decide) rfl (Nat.le_of_ble_eq_true rfl) ?_
  intro p e s m args below meth c ls Q A hx hb hml hown hts hA hZ hw hl hQ kr kt
  have hq : ∀ w ∈ wwM, w.before args s = true := fun w h => hts w (List.mem_cons_of_mem _ h)
  have hl : lv_has ls 2 [(0, .ref (ad 0)), (1, .int y1)] := hl
  refine lv_aload_n hx hb dX12_addCheck_0 rfl (lv_at hl 0 rfl) ?_
  refine hk_get (ci := 15) (C := RX12) (T := TX12) (N := 92) (v := .int (g 16)) hx hb hts (fun _ h => List.mem_cons_of_mem _ (wwMc_wsX120 _ h)) hown hw 0 rfl rfl 24 (by decide) (hq _ wM_4) rfl dX12_addCheck_1 ?_
  refine lv_iconst (v := 1) hx hb dX12_addCheck_4 (by decide) ?_
  refine lv_icmp_ne (tgt := 16) hx hb dX12_addCheck_5 (by decide) (fun cc1 => ?_) (fun cc1 => ?_)
  · refine lv_aload_n hx hb dX12_addCheck_16 rfl (lv_at hl 0 rfl) ?_
    refine hk_get (ci := 15) (C := RX12) (T := TX12) (N := 92) (v := .int (g 16)) hx hb hts (fun _ h => List.mem_cons_of_mem _ (wwMc_wsX120 _ h)) hown hw 0 rfl rfl 24 (by decide) (hq _ wM_4) rfl dX12_addCheck_17 ?_
    refine lv_iconst (v := 4) hx hb dX12_addCheck_20 (by decide) ?_
    refine lv_icmp_ne (tgt := 32) hx hb dX12_addCheck_21 (by decide) (fun cc2 => ?_) (fun cc2 => ?_)
    · refine lv_aload_n hx hb dX12_addCheck_32 rfl (lv_at hl 0 rfl) ?_
      refine hk_get (ci := 15) (C := RX12) (T := TX12) (N := 92) (v := .int (g 16)) hx hb hts (fun _ h => List.mem_cons_of_mem _ (wwMc_wsX120 _ h)) hown hw 0 rfl rfl 24 (by decide) (hq _ wM_4) rfl dX12_addCheck_33 ?_
      refine lv_bipush (v := 10) hx hb dX12_addCheck_36 (by decide) ?_
      refine lv_icmp_ne (tgt := 46) hx hb dX12_addCheck_38 (by decide) (fun cc3 => ?_) (fun cc3 => ?_)
      · exact kr g lg ar bk _ _ _ _ ⟨hk_fr0, hk_fr0, hk_fr0, rfl, (om79 ((g 15).toInt) hi_g15)⟩ hw dX12_addCheck_46
      · refine lv_aload_n hx hb dX12_addCheck_41 rfl (lv_at hl 0 rfl) ?_
        refine lv_iload_n hx hb dX12_addCheck_42 rfl (lv_at hl 1 rfl) ?_
        refine jx_Vv (As := [.int y1]) (rest := []) ⟨hx, hb, hml, hown, hts⟩ hZ hw hA (jm_X12_addSha l hlt D t3 cI cJ ad g lg ar bk _ y1 (om79 ((g 15).toInt) hi_g15)) (cwV 1 hts (jx_gV wwM_good wM_14 wM_15 wM_16 wM_8 wM_17) rfl rfl rfl (by decide +kernel) ⟨Nat.le_of_ble_eq_true rfl, Nat.le_of_ble_eq_true rfl⟩) 0 (ci := 15) (T := TX12) (N := 92) rfl rfl rfl hl.1 rfl (Nat.le_of_ble_eq_true rfl) dX12_addCheck_43 ⟨Nat.le_of_ble_eq_true rfl, Nat.le_of_ble_eq_true rfl⟩ (fun _ _ _ _ _ _ _ _ hp _ _ _ _ => hp.elim) (fun g9 l10 a11 b12 H locs hp13 hw => ?_)
        obtain ⟨h14, h15, h16, rfl, h18, h19⟩ := hp13
        exact kr g9 l10 a11 bk _ _ _ _ ⟨(hk_frT hk_fr0 (by decide) h14), (hk_frT hk_fr0 (by decide) h15), h16, rfl, (om85 ((g9 15).toInt) ((g 15).toInt) h18 h19 hi_g15)⟩ hw dX12_addCheck_46
    · refine lv_aload_n hx hb dX12_addCheck_24 rfl (lv_at hl 0 rfl) ?_
      refine lv_iload_n hx hb dX12_addCheck_25 rfl (lv_at hl 1 rfl) ?_
      refine jx_Vv (As := [.int y1]) (rest := []) ⟨hx, hb, hml, hown, hts⟩ hZ hw hA (jm_X12_add64 l hlt D t3 cI cJ ad g lg ar bk _ y1) (cwV 1 hts (jx_gV wwM_good wM_10 wM_11 wM_12 wM_8 wM_13) rfl rfl rfl (by decide +kernel) ⟨Nat.le_of_ble_eq_true rfl, Nat.le_of_ble_eq_true rfl⟩) 0 (ci := 15) (T := TX12) (N := 92) rfl rfl rfl hl.1 rfl (Nat.le_of_ble_eq_true rfl) dX12_addCheck_26 ⟨Nat.le_of_ble_eq_true rfl, Nat.le_of_ble_eq_true rfl⟩ (fun _ _ _ _ _ _ _ _ hp _ _ _ _ => hp.elim) (fun g25 l26 a27 b28 H locs hp29 hw => ?_)
      obtain ⟨rfl, h31, rfl, rfl⟩ := hp29
      refine lv_goto (tgt := 46) hx hb dX12_addCheck_29 (by decide) ?_
      exact kr g l26 ar bk _ _ _ _ ⟨hk_fr0, (hk_frT hk_fr0 (by decide) h31), hk_fr0, rfl, (om79 ((g 15).toInt) hi_g15)⟩ hw dX12_addCheck_46
  · refine lv_aload_n hx hb dX12_addCheck_8 rfl (lv_at hl 0 rfl) ?_
    refine lv_iload_n hx hb dX12_addCheck_9 rfl (lv_at hl 1 rfl) ?_
    refine jx_Vv (As := [.int y1]) (rest := []) ⟨hx, hb, hml, hown, hts⟩ hZ hw hA (jm_X12_add32 l hlt D t3 cI cJ ad g lg ar bk _ y1) (cwV 1 hts (jx_gV wwM_good wM_5 wM_6 wM_7 wM_8 wM_9) rfl rfl rfl (by decide +kernel) ⟨Nat.le_of_ble_eq_true rfl, Nat.le_of_ble_eq_true rfl⟩) 0 (ci := 15) (T := TX12) (N := 92) rfl rfl rfl hl.1 rfl (Nat.le_of_ble_eq_true rfl) dX12_addCheck_10 ⟨Nat.le_of_ble_eq_true rfl, Nat.le_of_ble_eq_true rfl⟩ (fun _ _ _ _ _ _ _ _ hp _ _ _ _ => hp.elim) (fun g39 l40 a41 b42 H locs hp43 hw => ?_)
    obtain ⟨h44, rfl, rfl, rfl⟩ := hp43
    refine lv_goto (tgt := 46) hx hb dX12_addCheck_13 (by decide) ?_
    have e_g39_15 : g39 15 = (g 15) := (h44 15 rfl)
    exact kr g39 lg ar bk _ _ _ _ ⟨(hk_frT hk_fr0 (by decide) h44), hk_fr0, hk_fr0, rfl, (om89 ((g39 15).toInt) ((g 15).toInt) (congrArg Int32.toInt e_g39_15) hi_g15)⟩ hw dX12_addCheck_46

set_option maxHeartbeats 4000000 in
set_option maxRecDepth 100000 in
/-- X12_checkSize -/
theorem jm_X12_checkSize (l : Launch) (hlt : l.stackTraces = false) (D : va_G) (t3 : Nat × Nat × Nat) (cI cJ : ClassId) (ad : Nat → Nat) (g : Nat → Int32) (lg : Nat → Int64) (ar : Nat → Nat → Int32) (bk : Nat → Int64) (sz : Nat) (y0 : Int32) : JMi l yX12_checkSize (Cond.code yX12_checkSize cX12_checkSize 1 (some .int) :: wwM) { frames := 0, cells := 0, slots := 0, locals := 0 } t3 D mw cI cJ ad [.int y0] (mw cI cJ ad g lg ar bk) sz 0 0 (fun (r : Int32) g' lg' ar' bk' => g = g' ∧ lg = lg' ∧ ar = ar' ∧ bk = bk' ∧ (0 ≤ (r).toInt ∧ (r).toInt ≤ 32)) (fun g' lg' ar' bk' => False) := by
  refine jx_meti (cc := cX12_checkSize) (maxL := 1) (ret := (some .int)) rfl (by decide) rfl (Nat.le_of_ble_eq_true rfl) ?_
  intro p e s m args below meth c ls Q A hx hb hml hown hts hA hZ hw hl hQ kr kt
  have hq : ∀ w ∈ wwM, w.before args s = true := fun w h => hts w (List.mem_cons_of_mem _ h)
  have hl : lv_has ls 1 [(0, .int y0)] := hl
  refine lv_iload_n hx hb dX12_checkSize_0 rfl (lv_at hl 0 rfl) ?_
  refine lv_iconst (v := 1) hx hb dX12_checkSize_1 (by decide) ?_
  refine lv_icmp_ne (tgt := 9) hx hb dX12_checkSize_2 (by decide) (fun cc1 => ?_) (fun cc1 => ?_)
  · refine lv_iload_n hx hb dX12_checkSize_9 rfl (lv_at hl 0 rfl) ?_
    refine lv_iconst (v := 4) hx hb dX12_checkSize_10 (by decide) ?_
    refine lv_icmp_ne (tgt := 19) hx hb dX12_checkSize_11 (by decide) (fun cc2 => ?_) (fun cc2 => ?_)
    · refine lv_iload_n hx hb dX12_checkSize_19 rfl (lv_at hl 0 rfl) ?_
      refine lv_bipush (v := 10) hx hb dX12_checkSize_20 (by decide) ?_
      refine lv_icmp_ne (tgt := 30) hx hb dX12_checkSize_22 (by decide) (fun cc3 => ?_) (fun cc3 => ?_)
      · refine lv_iconst (v := 0) hx hb dX12_checkSize_30 (by decide) ?_
        exact kr 0 g lg ar bk _ _ _ _ ⟨rfl, rfl, rfl, rfl, (om90 (((0 : Int32)).toInt) (by decide))⟩ hw dX12_checkSize_31
      · refine lv_bipush (v := 32) hx hb dX12_checkSize_25 (by decide) ?_
        refine lv_goto (tgt := 31) hx hb dX12_checkSize_27 (by decide) ?_
        exact kr 32 g lg ar bk _ _ _ _ ⟨rfl, rfl, rfl, rfl, (om91 (((32 : Int32)).toInt) (by decide))⟩ hw dX12_checkSize_31
    · refine lv_bipush (v := 8) hx hb dX12_checkSize_14 (by decide) ?_
      refine lv_goto (tgt := 31) hx hb dX12_checkSize_16 (by decide) ?_
      exact kr 8 g lg ar bk _ _ _ _ ⟨rfl, rfl, rfl, rfl, (om92 (((8 : Int32)).toInt) (by decide))⟩ hw dX12_checkSize_31
  · refine lv_iconst (v := 4) hx hb dX12_checkSize_5 (by decide) ?_
    refine lv_goto (tgt := 31) hx hb dX12_checkSize_6 (by decide) ?_
    exact kr 4 g lg ar bk _ _ _ _ ⟨rfl, rfl, rfl, rfl, (om93 (((4 : Int32)).toInt) (by decide))⟩ hw dX12_checkSize_31

set_option maxHeartbeats 4000000 in
set_option maxRecDepth 100000 in
/-- X12_endCheck on (0,) -/
theorem jm_X12_endCheck (l : Launch) (hlt : l.stackTraces = false) (D : va_G) (t3 : Nat × Nat × Nat) (cI cJ : ClassId) (ad : Nat → Nat) (g : Nat → Int32) (lg : Nat → Int64) (ar : Nat → Nat → Int32) (bk : Nat → Int64) (sz : Nat) (hi_g15 : 0 ≤ (g 15).toInt ∧ (g 15).toInt ≤ 63) : JMv l yX12_endCheck (Cond.code yX12_endCheck cX12_endCheck 2 none :: wwM) { frames := 4, cells := 0, slots := 0, locals := 97 } t3 D mw cI cJ ad [.ref (ad 0)] (mw cI cJ ad g lg ar bk) sz 0 0 (fun g' lg' ar' bk' => hk_fr [15] g g' ∧ hk_fr [1] lg lg' ∧ hk_fr [3, 4, 5] ar ar' ∧ bk = bk' ∧ (0 ≤ (g' 15).toInt ∧ (g' 15).toInt ≤ 63)) (fun g' lg' ar' bk' => False) := by
  refine jx_metv (cc := cX12_endCheck) (maxL := 2) (ret := none) rfl (by decide) rfl (Nat.le_of_ble_eq_true rfl) ?_
  intro p e s m args below meth c ls Q A hx hb hml hown hts hA hZ hw hl hQ kr kt
  have hq : ∀ w ∈ wwM, w.before args s = true := fun w h => hts w (List.mem_cons_of_mem _ h)
  have hl : lv_has ls 2 [(0, .ref (ad 0))] := hl
  refine lv_aload_n hx hb dX12_endCheck_0 rfl (lv_at hl 0 rfl) ?_
  refine hk_get (ci := 15) (C := RX12) (T := TX12) (N := 92) (v := .int (g 16)) hx hb hts (fun _ h => List.mem_cons_of_mem _ (wwMc_wsX120 _ h)) hown hw 0 rfl rfl 24 (by decide) (hq _ wM_4) rfl dX12_endCheck_1 ?_
  refine lv_bipush (v := 10) hx hb dX12_endCheck_4 (by decide) ?_
  have B1 : ∀  (g2 : Nat → Int32) (l3 : Nat → Int64) (a4 : Nat → Nat → Int32) (ls : Array Slot) (H : Heap) (locs : List Loc), (0 ≤ (g2 15).toInt ∧ (g2 15).toInt ≤ 63) → (hk_fr [15] g g2) → (hk_fr [1] lg l3) → (hk_fr [3, 4] ar a4) → hk_W D (jT cI cJ) A s H locs (mw cI cJ ad g2 l3 a4 bk) → lv_has ls 2 [(0, .ref (ad 0))] → W p l e { frames := 4, cells := 0, slots := 0, locals := 97 } s m args below meth c H locs 0 0 Q (F0 m 13 ls []) := by
    intro g2 l3 a4 ls H locs hf_B1_0 hfr_g2 hfr_l3 hfr_a4 hw hl
    refine lv_iconst (v := 0) hx hb dX12_endCheck_13 (by decide) ?_
    refine lv_istore_n (lv' := [(1, .int 0), (0, .ref (ad 0))]) hx hb dX12_endCheck_14 rfl hl (by decide) rfl (fun ls hl => ?_)
    have B5 : ∀ (k8 : Nat) (x6 : Int32) (a7 : Nat → Nat → Int32) (ls : Array Slot) (H : Heap) (locs : List Loc), (2147483648 - (x6).toInt ≤ (k8 : Int)) → (0 ≤ (x6).toInt) → (hk_fr [5] a4 a7) → hk_W D (jT cI cJ) A s H locs (mw cI cJ ad g2 l3 a7 bk) → lv_has ls 2 [(0, .ref (ad 0)), (1, .int x6)] → W p l e { frames := 4, cells := 0, slots := 0, locals := 97 } s m args below meth c H locs 0 0 Q (F0 m 15 ls []) := by
      intro k8
      induction k8 with
      | zero =>
        intro x6 a7 ls H locs hrk_B5 hf_B5_0 hfr_a7 hw hl
        exact False.elim (hk_no0 (0 * (x6).toInt) (om30 ((x6).toInt) hrk_B5 (hE_rng (x6))) (by simp))
      | succ k8 ih_B5 =>
        intro x6 a7 ls H locs hrk_B5 hf_B5_0 hfr_a7 hw hl
        have hrk_B5 := hk_rk hrk_B5
        refine lv_iload_n hx hb dX12_endCheck_15 rfl (lv_at hl 1 rfl) ?_
        refine lv_aload_n hx hb dX12_endCheck_16 rfl (lv_at hl 0 rfl) ?_
        have e_g2_16 : g2 16 = (g 16) := (hfr_g2 16 rfl)
        refine hk_get (ci := 15) (C := RX12) (T := TX12) (N := 92) (v := .int (g 16)) hx hb hts (fun _ h => List.mem_cons_of_mem _ (wwMc_wsX120 _ h)) hown hw 0 rfl rfl 24 (by decide) (hq _ wM_4) (congrArg (fun z => some (Value.int z)) e_g2_16) dX12_endCheck_17 ?_
        refine jx_Si (As := [.int (g 16)]) (rest := [.int x6]) ⟨hx, hb, hml, hown, hts⟩ hZ hw hA (jm_X12_checkSize l hlt D t3 cI cJ ad g2 l3 a7 bk _ (g 16)) (va_cwS 1 hts (jx_gS wwM_good wM_112 wM_113 wM_8 wM_114) rfl rfl rfl (by decide +kernel) ⟨Nat.le_of_ble_eq_true rfl, Nat.le_of_ble_eq_true rfl⟩) rfl hl.1 rfl (Nat.le_of_ble_eq_true rfl) dX12_endCheck_20 ⟨Nat.le_of_ble_eq_true rfl, Nat.le_of_ble_eq_true rfl⟩ (fun _ _ _ _ _ _ _ _ hp _ _ _ _ => hp.elim) (fun r13 g14 l15 a16 b17 H locs hp18 hw => ?_)
        obtain ⟨rfl, rfl, rfl, rfl, h23⟩ := hp18
        refine lv_icmp_ge (tgt := 113) hx hb dX12_endCheck_23 (by decide) (fun cc24 => ?_) (fun cc24 => ?_)
        · exact kr g2 l3 a7 bk _ _ _ _ ⟨hfr_g2, hfr_l3, (hk_frT (hk_frT hk_fr0 (by decide) hfr_a4) (by decide) hfr_a7), rfl, (om79 ((g2 15).toInt) hf_B1_0)⟩ hw dX12_endCheck_113
        · refine lv_aload_n hx hb dX12_endCheck_26 rfl (lv_at hl 0 rfl) ?_
          refine hk_get (ci := 15) (C := RX12) (T := TX12) (N := 92) (v := .ref (ad 6)) hx hb hts (fun _ h => List.mem_cons_of_mem _ (wwMc_wsX120 _ h)) hown hw 0 rfl rfl 23 (by decide) (hq _ wM_129) rfl dX12_endCheck_27 ?_
          refine lv_iload_n hx hb dX12_endCheck_30 rfl (lv_at hl 1 rfl) ?_
          refine lv_aload_n hx hb dX12_endCheck_31 rfl (lv_at hl 0 rfl) ?_
          refine hk_get (ci := 15) (C := RX12) (T := TX12) (N := 92) (v := .int (g 16)) hx hb hts (fun _ h => List.mem_cons_of_mem _ (wwMc_wsX120 _ h)) hown hw 0 rfl rfl 24 (by decide) (hq _ wM_4) (congrArg (fun z => some (Value.int z)) e_g2_16) dX12_endCheck_32 ?_
          refine lv_iconst (v := 1) hx hb dX12_endCheck_35 (by decide) ?_
          have B25 : ∀  (x26 : Int32) (ls : Array Slot) (H : Heap) (locs : List Loc), hk_W D (jT cI cJ) A s H locs (mw cI cJ ad g2 l3 a7 bk) → lv_has ls 2 [(0, .ref (ad 0)), (1, .int x6)] → W p l e { frames := 4, cells := 0, slots := 0, locals := 97 } s m args below meth c H locs 0 0 Q (F0 m 106 ls [.int x26, .int x6, .ref (ad 6)]) := by
            intro x26 ls H locs hw hl
            refine jx_iast mw (cI := cI) (cJ := cJ) (ad := ad) (g := g2) (lg := l3) (ar := a7) (bk := bk) 5 hx hb hw 6 0 rfl rfl (hE_in (n := 32) (om94 ((x6).toInt) ((r13).toInt) hf_B5_0 (hE_nle cc24) h23)) dX12_endCheck_106 rfl (fun H locs a27 h_a27 hw => ?_)
            obtain ⟨z28, hz28⟩ : ∃ z : Int32, x6 + 1 = z := ⟨_, rfl⟩
            refine lv_iinc (v := z28) (lv' := [(1, .int z28), (0, .ref (ad 0))]) hx hb dX12_endCheck_107 hl (k := 1) rfl hz28 (by decide) rfl (fun ls hl => ?_)
            have xz28 : (z28).toInt = (x6).toInt + ((1 : Int32)).toInt := (hE_imp (hE_add hz28) (om95 ((x6).toInt) (((1 : Int32)).toInt) ((r13).toInt) hf_B5_0 (hE_nle cc24) h23 (by decide)))
            refine lv_goto (tgt := 15) hx hb dX12_endCheck_110 (by decide) ?_
            exact ih_B5 z28 a27 ls _ _ (om11 ((z28).toInt) (k8 : Int) ((x6).toInt) (((1 : Int32)).toInt) hrk_B5 xz28 (by decide)) (om14 ((z28).toInt) ((x6).toInt) (((1 : Int32)).toInt) xz28 hf_B5_0 (by decide)) (hk_frA hfr_a7 (by decide) h_a27) hw (lv_sub hl [1, 0] rfl)
          refine lv_icmp_ne (tgt := 55) hx hb dX12_endCheck_36 (by decide) (fun cc29 => ?_) (fun cc29 => ?_)
          · refine lv_aload_n hx hb dX12_endCheck_55 rfl (lv_at hl 0 rfl) ?_
            refine hk_get (ci := 15) (C := RX12) (T := TX12) (N := 92) (v := .int (g 16)) hx hb hts (fun _ h => List.mem_cons_of_mem _ (wwMc_wsX120 _ h)) hown hw 0 rfl rfl 24 (by decide) (hq _ wM_4) (congrArg (fun z => some (Value.int z)) e_g2_16) dX12_endCheck_56 ?_
            refine lv_iconst (v := 4) hx hb dX12_endCheck_59 (by decide) ?_
            refine lv_icmp_ne (tgt := 84) hx hb dX12_endCheck_60 (by decide) (fun cc30 => ?_) (fun cc30 => ?_)
            · refine lv_aload_n hx hb dX12_endCheck_84 rfl (lv_at hl 0 rfl) ?_
              refine hk_get (ci := 15) (C := RX12) (T := TX12) (N := 92) (v := .ref (ad 4)) hx hb hts (fun _ h => List.mem_cons_of_mem _ (wwMc_wsX120 _ h)) hown hw 0 rfl rfl 19 (by decide) (hq _ wM_69) rfl dX12_endCheck_85 ?_
              refine lv_iload_n hx hb dX12_endCheck_88 rfl (lv_at hl 1 rfl) ?_
              refine lv_iconst (v := 4) hx hb dX12_endCheck_89 (by decide) ?_
              refine lv_idiv hx hb dX12_endCheck_90 (by decide) (jx_nm fun z31 hz31 => ?_)
              refine jx_iald hx hb hw 4 0 rfl rfl (hE_in (n := 8) (om96 ((z31).toInt) ((x6).toInt) ((r13).toInt) ((hE_div 4 hz31 (by decide) (by decide)).1 (om4 ((x6).toInt) hf_B5_0)) hf_B5_0 (hE_nle cc24) h23)) dX12_endCheck_91 (fun z32 hz32 => ?_)
              refine lv_bipush (v := 24) hx hb dX12_endCheck_92 (by decide) ?_
              refine lv_bipush (v := 8) hx hb dX12_endCheck_94 (by decide) ?_
              refine lv_iload_n hx hb dX12_endCheck_96 rfl (lv_at hl 1 rfl) ?_
              refine lv_iconst (v := 4) hx hb dX12_endCheck_97 (by decide) ?_
              refine lv_irem hx hb dX12_endCheck_98 (by decide) (jx_nm fun z33 hz33 => ?_)
              refine lv_imul hx hb dX12_endCheck_99 (jx_nm fun z34 hz34 => ?_)
              have xz34 : (z34).toInt = (z33).toInt * 8 := (hE_imp (hE_mul' 8 hz34 (by decide)) (om5 ((z33).toInt) ((x6).toInt) ((hE_rem 4 hz33 (by decide) (by decide)).1 (om4 ((x6).toInt) hf_B5_0))))
              refine lv_isub hx hb dX12_endCheck_100 (jx_nm fun z35 hz35 => ?_)
              have xz35 : (z35).toInt = ((24 : Int32)).toInt - (z34).toInt := (hE_imp (hE_sub hz35) (om6 (((24 : Int32)).toInt) ((z34).toInt) ((z33).toInt) ((x6).toInt) xz34 ((hE_rem 4 hz33 (by decide) (by decide)).1 (om4 ((x6).toInt) hf_B5_0)) (by decide) (hE_rng (z34))))
              refine lv_ishr hx hb dX12_endCheck_101 (jx_nm fun z36 hz36 => ?_)
              refine lv_sipush (v := 255) hx hb dX12_endCheck_102 (by decide) ?_
              refine lv_iand hx hb dX12_endCheck_105 (jx_nm fun z37 hz37 => ?_)
              exact B25 z37 ls _ _ hw (lv_sub hl [0, 1] rfl)
            · refine lv_aload_n hx hb dX12_endCheck_63 rfl (lv_at hl 0 rfl) ?_
              have e_l3_0 : l3 0 = (lg 0) := (hfr_l3 0 rfl)
              refine hk_get (ci := 15) (C := RX12) (T := TX12) (N := 92) (v := .long (lg 0)) hx hb hts (fun _ h => List.mem_cons_of_mem _ (wwMc_wsX120 _ h)) hown hw 0 rfl rfl 18 (by decide) (hq _ wM_2) (congrArg (fun z => some (Value.long z)) e_l3_0) dX12_endCheck_64 ?_
              refine lv_ldc2 (v := (-1)) hx hb hown (hq _ wM_48) dX12_endCheck_67 ?_
              refine lv_lxor hx hb dX12_endCheck_70 (jx_nl fun z38 hz38 => ?_)
              refine lv_bipush (v := 8) hx hb dX12_endCheck_71 (by decide) ?_
              refine lv_iload_n hx hb dX12_endCheck_73 rfl (lv_at hl 1 rfl) ?_
              refine lv_imul hx hb dX12_endCheck_74 (jx_nm fun z39 hz39 => ?_)
              have xz39 : (z39).toInt = (x6).toInt * 8 := (hE_imp (hE_mul' 8 hz39 (by decide)) (om97 ((x6).toInt) ((r13).toInt) hf_B5_0 (hE_nle cc24) h23))
              refine lv_lshr hx hb dX12_endCheck_75 rfl (jx_nl fun z40 hz40 => ?_)
              refine lv_l2i hx hb dX12_endCheck_76 rfl (jx_nm fun z41 hz41 => ?_)
              refine lv_sipush (v := 255) hx hb dX12_endCheck_77 (by decide) ?_
              refine lv_iand hx hb dX12_endCheck_80 (jx_nm fun z42 hz42 => ?_)
              refine lv_goto (tgt := 106) hx hb dX12_endCheck_81 (by decide) ?_
              exact B25 z42 ls _ _ hw (lv_sub hl [0, 1] rfl)
          · refine lv_aload_n hx hb dX12_endCheck_39 rfl (lv_at hl 0 rfl) ?_
            refine jx_Vi (As := []) (rest := [.int x6, .ref (ad 6)]) ⟨hx, hb, hml, hown, hts⟩ hZ hw hA (jm_X12_end32 l hlt D t3 cI cJ ad g2 l3 a7 bk _) (cwV 0 hts (jx_gV wwM_good wM_131 wM_132 wM_133 wM_8 wM_134) rfl rfl rfl (by decide +kernel) ⟨Nat.le_of_ble_eq_true rfl, Nat.le_of_ble_eq_true rfl⟩) 0 (ci := 15) (T := TX12) (N := 92) rfl rfl rfl hl.1 rfl (Nat.le_of_ble_eq_true rfl) dX12_endCheck_40 ⟨Nat.le_of_ble_eq_true rfl, Nat.le_of_ble_eq_true rfl⟩ (fun _ _ _ _ _ _ _ _ hp _ _ _ _ => hp.elim) (fun r47 g48 l49 a50 b51 H locs hp52 hw => ?_)
            obtain ⟨rfl, rfl, rfl, rfl⟩ := hp52
            refine lv_bipush (v := 8) hx hb dX12_endCheck_43 (by decide) ?_
            refine lv_iload_n hx hb dX12_endCheck_45 rfl (lv_at hl 1 rfl) ?_
            refine lv_imul hx hb dX12_endCheck_46 (jx_nm fun z57 hz57 => ?_)
            have xz57 : (z57).toInt = (x6).toInt * 8 := (hE_imp (hE_mul' 8 hz57 (by decide)) (om97 ((x6).toInt) ((r13).toInt) hf_B5_0 (hE_nle cc24) h23))
            refine lv_ishr hx hb dX12_endCheck_47 (jx_nm fun z58 hz58 => ?_)
            refine lv_sipush (v := 255) hx hb dX12_endCheck_48 (by decide) ?_
            refine lv_iand hx hb dX12_endCheck_51 (jx_nm fun z59 hz59 => ?_)
            refine lv_goto (tgt := 106) hx hb dX12_endCheck_52 (by decide) ?_
            exact B25 z59 ls _ _ hw (lv_sub hl [0, 1] rfl)
    exact B5 (2147483648 - ((0 : Int32)).toInt).toNat 0 a4 ls _ _ (Int.self_le_toNat _) (om18 (((0 : Int32)).toInt) (by decide)) hk_fr0 hw (lv_sub hl [1, 0] rfl)
  refine lv_icmp_ne (tgt := 13) hx hb dX12_endCheck_6 (by decide) (fun cc60 => ?_) (fun cc60 => ?_)
  · exact B1 g lg ar ls _ _ (om79 ((g 15).toInt) hi_g15) hk_fr0 hk_fr0 hk_fr0 hw (lv_sub hl [0] rfl)
  · refine lv_aload_n hx hb dX12_endCheck_9 rfl (lv_at hl 0 rfl) ?_
    refine jx_Vv (As := []) (rest := []) ⟨hx, hb, hml, hown, hts⟩ hZ hw hA (jm_X12_endSha l hlt D t3 cI cJ ad g lg ar bk _ (om79 ((g 15).toInt) hi_g15)) (cwV 0 hts (jx_gV wwM_good wM_195 wM_196 wM_197 wM_8 wM_198) rfl rfl rfl (by decide +kernel) ⟨Nat.le_of_ble_eq_true rfl, Nat.le_of_ble_eq_true rfl⟩) 0 (ci := 15) (T := TX12) (N := 92) rfl rfl rfl hl.1 rfl (Nat.le_of_ble_eq_true rfl) dX12_endCheck_10 ⟨Nat.le_of_ble_eq_true rfl, Nat.le_of_ble_eq_true rfl⟩ (fun _ _ _ _ _ _ _ _ hp _ _ _ _ => hp.elim) (fun g66 l67 a68 b69 H locs hp70 hw => ?_)
    obtain ⟨h71, h72, h73, rfl, h75⟩ := hp70
    exact B1 g66 l67 a68 ls _ _ (om79 ((g66 15).toInt) h75) h71 h72 h73 hw (lv_sub hl [0] rfl)

set_option maxHeartbeats 4000000 in
set_option maxRecDepth 100000 in
/-- X12_check on (0,) -/
theorem jm_X12_check (l : Launch) (hlt : l.stackTraces = false) (D : va_G) (t3 : Nat × Nat × Nat) (cI cJ : ClassId) (ad : Nat → Nat) (g : Nat → Int32) (lg : Nat → Int64) (ar : Nat → Nat → Int32) (bk : Nat → Int64) (sz : Nat) (y1 : Int32) (y2 : Int32) (hi_g13 : 0 ≤ (g 13).toInt ∧ (g 13).toInt ≤ 3000) (hi_g15 : 0 ≤ (g 15).toInt ∧ (g 15).toInt ≤ 63) : JMi l yX12_check (Cond.code yX12_check cX12_check 5 (some .int) :: wwM) { frames := 5, cells := 0, slots := 0, locals := 118 } t3 D mw cI cJ ad [.ref (ad 0), .int y1, .int y2] (mw cI cJ ad g lg ar bk) sz 0 0 (fun (r : Int32) g' lg' ar' bk' => hk_fr [1, 14, 15, 16] g g' ∧ hk_fr [0, 1] lg lg' ∧ hk_fr [3, 4, 5] ar ar' ∧ bk = bk' ∧ (0 ≤ (g' 15).toInt ∧ (g' 15).toInt ≤ 63)) (fun g' lg' ar' bk' => False) := by
  refine jx_meti (cc := cX12_check) (maxL := 5) (ret := (some .int)) rfl (by decide) rfl (Nat.le_of_ble_eq_true rfl) ?_
  intro p e s m args below meth c ls Q A hx hb hml hown hts hA hZ hw hl hQ kr kt
  have hq : ∀ w ∈ wwM, w.before args s = true := fun w h => hts w (List.mem_cons_of_mem _ h)
  have hl : lv_has ls 5 [(0, .ref (ad 0)), (1, .int y1), (2, .int y2)] := hl
  refine lv_aload_n hx hb dX12_check_0 rfl (lv_at hl 0 rfl) ?_
  refine lv_iconst (v := 0) hx hb dX12_check_1 (by decide) ?_
  refine jx_putg mw (cI := cI) (cJ := cJ) (ad := ad) (g := g) (lg := lg) (ar := ar) (bk := bk) (x := 0) 1 (ci := 15) (C := RX12) (T := TX12) (N := 92) (ty := .int) hx hb hts (fun _ h => List.mem_cons_of_mem _ (wwMc_wsX120 _ h)) tyX12 tyX12_ok nmX12 hown hw 0 rfl rfl 1 (by decide) (hq _ wM_103) rfl (by decide +kernel) rfl rfl (Nat.le_of_ble_eq_true rfl) dX12_check_2 rfl (fun H locs g1 h_g1 hw => ?_)
  refine lv_iload_n hx hb dX12_check_5 rfl (lv_at hl 2 rfl) ?_
  refine lv_if_lt (tgt := 19) hx hb dX12_check_6 (by decide) (fun cc2 => ?_) (fun cc2 => ?_)
  · refine lv_iconst (v := (-1)) hx hb dX12_check_19 (by decide) ?_
    have e_g1_15 : g1 15 = (g 15) := (hk_upgN h_g1 15 rfl)
    exact kr (-1) g1 lg ar bk _ _ _ _ ⟨(hk_frG hk_fr0 (by decide) h_g1), hk_fr0, hk_fr0, rfl, (om89 ((g1 15).toInt) ((g 15).toInt) (congrArg Int32.toInt e_g1_15) hi_g15)⟩ hw dX12_check_20
  · refine lv_iload_n hx hb dX12_check_9 rfl (lv_at hl 2 rfl) ?_
    refine lv_iload_n hx hb dX12_check_10 rfl (lv_at hl 1 rfl) ?_
    refine jx_Si (As := [.int y1]) (rest := [.int y2]) ⟨hx, hb, hml, hown, hts⟩ hZ hw hA (jm_X12_checkSize l hlt D t3 cI cJ ad g1 lg ar bk _ y1) (va_cwS 1 hts (jx_gS wwM_good wM_112 wM_113 wM_8 wM_114) rfl rfl rfl (by decide +kernel) ⟨Nat.le_of_ble_eq_true rfl, Nat.le_of_ble_eq_true rfl⟩) rfl hl.1 rfl (Nat.le_of_ble_eq_true rfl) dX12_check_11 ⟨Nat.le_of_ble_eq_true rfl, Nat.le_of_ble_eq_true rfl⟩ (fun _ _ _ _ _ _ _ _ hp _ _ _ _ => hp.elim) (fun r7 g8 l9 a10 b11 H locs hp12 hw => ?_)
    obtain ⟨rfl, rfl, rfl, rfl, h17⟩ := hp12
    refine lv_iconst (v := 4) hx hb dX12_check_14 (by decide) ?_
    refine lv_idiv hx hb dX12_check_15 (by decide) (jx_nm fun z18 hz18 => ?_)
    refine lv_icmp_lt (tgt := 21) hx hb dX12_check_16 (by decide) (fun cc19 => ?_) (fun cc19 => ?_)
    · refine lv_aload_n hx hb dX12_check_21 rfl (lv_at hl 0 rfl) ?_
      refine lv_iload_n hx hb dX12_check_22 rfl (lv_at hl 1 rfl) ?_
      have e_g1_15 : g1 15 = (g 15) := (hk_upgN h_g1 15 rfl)
      refine jx_Vv (As := [.int y1]) (rest := []) ⟨hx, hb, hml, hown, hts⟩ hZ hw hA (jm_X12_beginCheck l hlt D t3 cI cJ ad g1 lg ar bk _ y1 (om89 ((g1 15).toInt) ((g 15).toInt) (congrArg Int32.toInt e_g1_15) hi_g15)) (cwV 1 hts (jx_gV wwM_good wM_115 wM_116 wM_117 wM_8 wM_118) rfl rfl rfl (by decide +kernel) ⟨Nat.le_of_ble_eq_true rfl, Nat.le_of_ble_eq_true rfl⟩) 0 (ci := 15) (T := TX12) (N := 92) rfl rfl rfl hl.1 rfl (Nat.le_of_ble_eq_true rfl) dX12_check_23 ⟨Nat.le_of_ble_eq_true rfl, Nat.le_of_ble_eq_true rfl⟩ (fun _ _ _ _ _ _ _ _ hp _ _ _ _ => hp.elim) (fun g25 l26 a27 b28 H locs hp29 hw => ?_)
      obtain ⟨h30, h31, h32, rfl, h34⟩ := hp29
      refine lv_iconst (v := 0) hx hb dX12_check_26 (by decide) ?_
      refine lv_istore_n (lv' := [(3, .int 0), (0, .ref (ad 0)), (1, .int y1), (2, .int y2)]) hx hb dX12_check_27 rfl hl (by decide) rfl (fun ls hl => ?_)
      have B35 : ∀ (k40 : Nat) (x36 : Int32) (g37 : Nat → Int32) (l38 : Nat → Int64) (a39 : Nat → Nat → Int32) (ls : Array Slot) (H : Heap) (locs : List Loc), (2147483648 - (x36).toInt ≤ (k40 : Int)) → (0 ≤ (x36).toInt) → (0 ≤ (g37 15).toInt ∧ (g37 15).toInt ≤ 63) → (hk_fr [14, 15] g25 g37) → (hk_fr [0, 1] l26 l38) → (hk_fr [3, 4] a27 a39) → hk_W D (jT cI cJ) A s H locs (mw cI cJ ad g37 l38 a39 bk) → lv_has ls 5 [(0, .ref (ad 0)), (1, .int y1), (2, .int y2), (3, .int x36)] → W p l e { frames := 5, cells := 0, slots := 0, locals := 118 } s m args below meth c H locs 0 0 Q (F0 m 28 ls []) := by
        intro k40
        induction k40 with
        | zero =>
          intro x36 g37 l38 a39 ls H locs hrk_B35 hf_B35_0 hf_B35_1 hfr_g37 hfr_l38 hfr_a39 hw hl
          exact False.elim (hk_no0 (0 * (x36).toInt) (om30 ((x36).toInt) hrk_B35 (hE_rng (x36))) (by simp))
        | succ k40 ih_B35 =>
          intro x36 g37 l38 a39 ls H locs hrk_B35 hf_B35_0 hf_B35_1 hfr_g37 hfr_l38 hfr_a39 hw hl
          have hrk_B35 := hk_rk hrk_B35
          refine lv_iload_n hx hb dX12_check_28 rfl (lv_at hl 3 rfl) ?_
          refine lv_aload_n hx hb dX12_check_29 rfl (lv_at hl 0 rfl) ?_
          have e_g37_13 : g37 13 = (g 13) := ((hfr_g37 13 rfl)).trans (((h30 13 rfl)).trans (hk_upgN h_g1 13 rfl))
          refine hk_get (ci := 15) (C := RX12) (T := TX12) (N := 92) (v := .int (g 13)) hx hb hts (fun _ h => List.mem_cons_of_mem _ (wwMc_wsX120 _ h)) hown hw 0 rfl rfl 15 (by decide) (hq _ wM_119) (congrArg (fun z => some (Value.int z)) e_g37_13) dX12_check_30 ?_
          refine lv_icmp_ge (tgt := 52) hx hb dX12_check_33 (by decide) (fun cc41 => ?_) (fun cc41 => ?_)
          · refine lv_aload_n hx hb dX12_check_52 rfl (lv_at hl 0 rfl) ?_
            refine jx_Vv (As := []) (rest := []) ⟨hx, hb, hml, hown, hts⟩ hZ hw hA (jm_X12_endCheck l hlt D t3 cI cJ ad g37 l38 a39 bk _ (om79 ((g37 15).toInt) hf_B35_1)) (cwV 0 hts (jx_gV wwM_good wM_125 wM_126 wM_127 wM_8 wM_128) rfl rfl rfl (by decide +kernel) ⟨Nat.le_of_ble_eq_true rfl, Nat.le_of_ble_eq_true rfl⟩) 0 (ci := 15) (T := TX12) (N := 92) rfl rfl rfl hl.1 rfl (Nat.le_of_ble_eq_true rfl) dX12_check_53 ⟨Nat.le_of_ble_eq_true rfl, Nat.le_of_ble_eq_true rfl⟩ (fun _ _ _ _ _ _ _ _ hp _ _ _ _ => hp.elim) (fun g47 l48 a49 b50 H locs hp51 hw => ?_)
            obtain ⟨h52, h53, h54, rfl, h56⟩ := hp51
            refine lv_iconst (v := 0) hx hb dX12_check_56 (by decide) ?_
            refine lv_istore_n (lv' := [(3, .int 0), (0, .ref (ad 0)), (1, .int y1), (2, .int y2)]) hx hb dX12_check_57 rfl hl (by decide) rfl (fun ls hl => ?_)
            refine lv_iconst (v := 0) hx hb dX12_check_58 (by decide) ?_
            refine lv_istore (lv' := [(4, .int 0), (3, .int 0), (0, .ref (ad 0)), (1, .int y1), (2, .int y2)]) hx hb dX12_check_59 hl (by decide) rfl (fun ls hl => ?_)
            have B57 : ∀ (k60 : Nat) (x58 : Int32) (x59 : Int32) (ls : Array Slot) (H : Heap) (locs : List Loc), (2147483648 - (x59).toInt ≤ (k60 : Int)) → (0 ≤ (x59).toInt) → hk_W D (jT cI cJ) A s H locs (mw cI cJ ad g47 l48 a49 bk) → lv_has ls 5 [(0, .ref (ad 0)), (1, .int y1), (2, .int y2), (3, .int x58), (4, .int x59)] → W p l e { frames := 5, cells := 0, slots := 0, locals := 118 } s m args below meth c H locs 0 0 Q (F0 m 61 ls []) := by
              intro k60
              induction k60 with
              | zero =>
                intro x58 x59 ls H locs hrk_B57 hf_B57_0 hw hl
                exact False.elim (hk_no0 (0 * (x59).toInt) (om30 ((x59).toInt) hrk_B57 (hE_rng (x59))) (by simp))
              | succ k60 ih_B57 =>
                intro x58 x59 ls H locs hrk_B57 hf_B57_0 hw hl
                have hrk_B57 := hk_rk hrk_B57
                refine lv_iload hx hb dX12_check_61 (lv_at hl 4 rfl) ?_
                refine lv_iconst (v := 4) hx hb dX12_check_63 (by decide) ?_
                refine lv_icmp_ge (tgt := 110) hx hb dX12_check_64 (by decide) (fun cc61 => ?_) (fun cc61 => ?_)
                · refine lv_iload_n hx hb dX12_check_110 rfl (lv_at hl 3 rfl) ?_
                  exact kr x58 g47 l48 a49 bk _ _ _ _ ⟨(hk_frT (hk_frT (hk_frT (hk_frG hk_fr0 (by decide) h_g1) (by decide) h30) (by decide) hfr_g37) (by decide) h52), (hk_frT (hk_frT h31 (by decide) hfr_l38) (by decide) h53), (hk_frT (hk_frT (hk_frT hk_fr0 (by decide) h32) (by decide) hfr_a39) (by decide) h54), rfl, (om79 ((g47 15).toInt) h56)⟩ hw dX12_check_111
                · refine lv_iload_n hx hb dX12_check_67 rfl (lv_at hl 3 rfl) ?_
                  refine lv_aload_n hx hb dX12_check_68 rfl (lv_at hl 0 rfl) ?_
                  refine hk_get (ci := 15) (C := RX12) (T := TX12) (N := 92) (v := .ref (ad 6)) hx hb hts (fun _ h => List.mem_cons_of_mem _ (wwMc_wsX120 _ h)) hown hw 0 rfl rfl 23 (by decide) (hq _ wM_129) rfl dX12_check_69 ?_
                  refine lv_iconst (v := 4) hx hb dX12_check_72 (by decide) ?_
                  refine lv_iload_n hx hb dX12_check_73 rfl (lv_at hl 2 rfl) ?_
                  refine lv_imul hx hb dX12_check_74 (jx_nm fun z62 hz62 => ?_)
                  have xz62 : (z62).toInt = (y2).toInt * 4 := (hE_imp (hE_mul' 4 hz62 (by decide)) (om99 ((y2).toInt) (((0 : Int32)).toInt) ((z18).toInt) ((r7).toInt) (hE_nlt cc2) (hE_lt cc19) ((hE_div 4 hz18 (by decide) (by decide)).1 (om98 ((r7).toInt) h17)) h17 (by decide)))
                  refine lv_iload hx hb dX12_check_75 (lv_at hl 4 rfl) ?_
                  refine lv_iadd hx hb dX12_check_77 (jx_nm fun z63 hz63 => ?_)
                  have xz63 : (z63).toInt = (z62).toInt + (x59).toInt := (hE_imp (hE_add hz63) (om100 ((z62).toInt) ((x59).toInt) (((4 : Int32)).toInt) ((y2).toInt) (((0 : Int32)).toInt) ((z18).toInt) ((r7).toInt) hf_B57_0 (hE_nle cc61) xz62 (hE_nlt cc2) (hE_lt cc19) ((hE_div 4 hz18 (by decide) (by decide)).1 (om98 ((r7).toInt) h17)) h17 (hE_rng (z62)) (by decide) (by decide)))
                  refine jx_iald hx hb hw 6 0 rfl rfl (hE_in (n := 32) (om101 ((z63).toInt) ((z62).toInt) ((x59).toInt) (((4 : Int32)).toInt) ((y2).toInt) (((0 : Int32)).toInt) ((z18).toInt) ((r7).toInt) xz63 hf_B57_0 (hE_nle cc61) xz62 (hE_nlt cc2) (hE_lt cc19) ((hE_div 4 hz18 (by decide) (by decide)).1 (om98 ((r7).toInt) h17)) h17 (by decide) (by decide))) dX12_check_78 (fun z64 hz64 => ?_)
                  refine lv_iload_n hx hb dX12_check_79 rfl (lv_at hl 1 rfl) ?_
                  refine lv_bipush (v := 10) hx hb dX12_check_80 (by decide) ?_
                  have B65 : ∀  (x66 : Int32) (ls : Array Slot) (H : Heap) (locs : List Loc), hk_W D (jT cI cJ) A s H locs (mw cI cJ ad g47 l48 a49 bk) → lv_has ls 5 [(0, .ref (ad 0)), (1, .int y1), (2, .int y2), (4, .int x59)] → W p l e { frames := 5, cells := 0, slots := 0, locals := 118 } s m args below meth c H locs 0 0 Q (F0 m 101 ls [.int x66, .int z64, .int x58]) := by
                    intro x66 ls H locs hw hl
                    refine lv_ishl hx hb dX12_check_101 (jx_nm fun z67 hz67 => ?_)
                    refine lv_ior hx hb dX12_check_102 (jx_nm fun z68 hz68 => ?_)
                    refine lv_istore_n (lv' := [(3, .int z68), (0, .ref (ad 0)), (1, .int y1), (2, .int y2), (4, .int x59)]) hx hb dX12_check_103 rfl hl (by decide) rfl (fun ls hl => ?_)
                    obtain ⟨z69, hz69⟩ : ∃ z : Int32, x59 + 1 = z := ⟨_, rfl⟩
                    refine lv_iinc (v := z69) (lv' := [(4, .int z69), (3, .int z68), (0, .ref (ad 0)), (1, .int y1), (2, .int y2)]) hx hb dX12_check_104 hl (k := 4) rfl hz69 (by decide) rfl (fun ls hl => ?_)
                    have xz69 : (z69).toInt = (x59).toInt + ((1 : Int32)).toInt := (hE_imp (hE_add hz69) (om102 ((x59).toInt) (((1 : Int32)).toInt) (((4 : Int32)).toInt) hf_B57_0 (hE_nle cc61) (by decide) (by decide)))
                    refine lv_goto (tgt := 61) hx hb dX12_check_107 (by decide) ?_
                    exact ih_B57 z68 z69 ls _ _ (om11 ((z69).toInt) (k60 : Int) ((x59).toInt) (((1 : Int32)).toInt) hrk_B57 xz69 (by decide)) (om14 ((z69).toInt) ((x59).toInt) (((1 : Int32)).toInt) xz69 hf_B57_0 (by decide)) hw (lv_sub hl [2, 3, 4, 1, 0] rfl)
                  refine lv_icmp_ne (tgt := 96) hx hb dX12_check_82 (by decide) (fun cc70 => ?_) (fun cc70 => ?_)
                  · refine lv_bipush (v := 8) hx hb dX12_check_96 (by decide) ?_
                    refine lv_iload hx hb dX12_check_98 (lv_at hl 4 rfl) ?_
                    refine lv_imul hx hb dX12_check_100 (jx_nm fun z71 hz71 => ?_)
                    have xz71 : (z71).toInt = (x59).toInt * 8 := (hE_imp (hE_mul' 8 hz71 (by decide)) (om103 ((x59).toInt) (((4 : Int32)).toInt) hf_B57_0 (hE_nle cc61) (by decide)))
                    exact B65 z71 ls _ _ hw (lv_sub hl [0, 1, 2, 4] rfl)
                  · refine lv_bipush (v := 24) hx hb dX12_check_85 (by decide) ?_
                    refine lv_bipush (v := 8) hx hb dX12_check_87 (by decide) ?_
                    refine lv_iload hx hb dX12_check_89 (lv_at hl 4 rfl) ?_
                    refine lv_imul hx hb dX12_check_91 (jx_nm fun z72 hz72 => ?_)
                    have xz72 : (z72).toInt = (x59).toInt * 8 := (hE_imp (hE_mul' 8 hz72 (by decide)) (om103 ((x59).toInt) (((4 : Int32)).toInt) hf_B57_0 (hE_nle cc61) (by decide)))
                    refine lv_isub hx hb dX12_check_92 (jx_nm fun z73 hz73 => ?_)
                    have xz73 : (z73).toInt = ((24 : Int32)).toInt - (z72).toInt := (hE_imp (hE_sub hz73) (om104 (((24 : Int32)).toInt) ((z72).toInt) ((x59).toInt) (((4 : Int32)).toInt) xz72 hf_B57_0 (hE_nle cc61) (by decide) (hE_rng (z72)) (by decide)))
                    refine lv_goto (tgt := 101) hx hb dX12_check_93 (by decide) ?_
                    exact B65 z73 ls _ _ hw (lv_sub hl [0, 1, 2, 4] rfl)
            exact B57 (2147483648 - ((0 : Int32)).toInt).toNat 0 0 ls _ _ (Int.self_le_toNat _) (om18 (((0 : Int32)).toInt) (by decide)) hw (lv_sub hl [2, 3, 4, 1, 0] rfl)
          · refine lv_aload_n hx hb dX12_check_36 rfl (lv_at hl 0 rfl) ?_
            refine lv_aload_n hx hb dX12_check_37 rfl (lv_at hl 0 rfl) ?_
            refine hk_get (ci := 15) (C := RX12) (T := TX12) (N := 92) (v := .ref (ad 2)) hx hb hts (fun _ h => List.mem_cons_of_mem _ (wwMc_wsX120 _ h)) hown hw 0 rfl rfl 14 (by decide) (hq _ wM_120) rfl dX12_check_38 ?_
            refine lv_iload_n hx hb dX12_check_41 rfl (lv_at hl 3 rfl) ?_
            refine jx_iald hx hb hw 2 0 rfl rfl (hE_in (n := 3000) (om105 ((x36).toInt) ((g 13).toInt) hf_B35_0 (hE_nle cc41) hi_g13)) dX12_check_42 (fun z74 hz74 => ?_)
            refine jx_Vv (As := [.int z74]) (rest := []) ⟨hx, hb, hml, hown, hts⟩ hZ hw hA (jm_X12_addCheck l hlt D t3 cI cJ ad g37 l38 a39 bk _ z74 (om79 ((g37 15).toInt) hf_B35_1)) (cwV 1 hts (jx_gV wwM_good wM_121 wM_122 wM_123 wM_8 wM_124) rfl rfl rfl (by decide +kernel) ⟨Nat.le_of_ble_eq_true rfl, Nat.le_of_ble_eq_true rfl⟩) 0 (ci := 15) (T := TX12) (N := 92) rfl rfl rfl hl.1 rfl (Nat.le_of_ble_eq_true rfl) dX12_check_43 ⟨Nat.le_of_ble_eq_true rfl, Nat.le_of_ble_eq_true rfl⟩ (fun _ _ _ _ _ _ _ _ hp _ _ _ _ => hp.elim) (fun g80 l81 a82 b83 H locs hp84 hw => ?_)
            obtain ⟨h85, h86, h87, rfl, h89⟩ := hp84
            obtain ⟨z90, hz90⟩ : ∃ z : Int32, x36 + 1 = z := ⟨_, rfl⟩
            refine lv_iinc (v := z90) (lv' := [(3, .int z90), (0, .ref (ad 0)), (1, .int y1), (2, .int y2)]) hx hb dX12_check_46 hl (k := 3) rfl hz90 (by decide) rfl (fun ls hl => ?_)
            have xz90 : (z90).toInt = (x36).toInt + ((1 : Int32)).toInt := (hE_imp (hE_add hz90) (om106 ((x36).toInt) (((1 : Int32)).toInt) ((g 13).toInt) hf_B35_0 (hE_nle cc41) hi_g13 (by decide)))
            refine lv_goto (tgt := 28) hx hb dX12_check_49 (by decide) ?_
            exact ih_B35 z90 g80 l81 a82 ls _ _ (om11 ((z90).toInt) (k40 : Int) ((x36).toInt) (((1 : Int32)).toInt) hrk_B35 xz90 (by decide)) (om14 ((z90).toInt) ((x36).toInt) (((1 : Int32)).toInt) xz90 hf_B35_0 (by decide)) (om79 ((g80 15).toInt) h89) (hk_frT hfr_g37 (by decide) h85) (hk_frT hfr_l38 (by decide) h86) (hk_frT hfr_a39 (by decide) h87) hw (lv_sub hl [1, 2, 3, 0] rfl)
      exact B35 (2147483648 - ((0 : Int32)).toInt).toNat 0 g25 l26 a27 ls _ _ (Int.self_le_toNat _) (om18 (((0 : Int32)).toInt) (by decide)) (om79 ((g25 15).toInt) h34) hk_fr0 hk_fr0 hk_fr0 hw (lv_sub hl [1, 2, 3, 0] rfl)
    · refine lv_iconst (v := (-1)) hx hb dX12_check_19 (by decide) ?_
      have e_g1_15 : g1 15 = (g 15) := (hk_upgN h_g1 15 rfl)
      exact kr (-1) g1 lg ar bk _ _ _ _ ⟨(hk_frG hk_fr0 (by decide) h_g1), hk_fr0, hk_fr0, rfl, (om89 ((g1 15).toInt) ((g 15).toInt) (congrArg Int32.toInt e_g1_15) hi_g15)⟩ hw dX12_check_20

set_option maxHeartbeats 4000000 in
set_option maxRecDepth 100000 in
/-- X12_deltaAway on (0,) -/
theorem jm_X12_deltaAway (l : Launch) (hlt : l.stackTraces = false) (D : va_G) (t3 : Nat × Nat × Nat) (cI cJ : ClassId) (ad : Nat → Nat) (g : Nat → Int32) (lg : Nat → Int64) (ar : Nat → Nat → Int32) (bk : Nat → Int64) (sz : Nat) (y1 : Int32) (hr0 : 0 ≤ (y1).toInt) (hi_g17 : 0 ≤ (g 17).toInt ∧ (g 17).toInt ≤ 3000) (hi_a6rg : hk_rg 0 255 (ar 6)) : JMv l yX12_deltaAway (Cond.code yX12_deltaAway cX12_deltaAway 3 none :: wwM) { frames := 0, cells := 0, slots := 0, locals := 0 } t3 D mw cI cJ ad [.ref (ad 0), .int y1] (mw cI cJ ad g lg ar bk) sz 0 0 (fun g' lg' ar' bk' => g = g' ∧ lg = lg' ∧ hk_fr [6] ar ar' ∧ bk = bk' ∧ hk_rg 0 255 (ar' 6)) (fun g' lg' ar' bk' => False) := by
  refine jx_metv (cc := cX12_deltaAway) (maxL := 3) (ret := none) rfl (by decide) rfl (Nat.le_of_ble_eq_true rfl) ?_
  intro p e s m args below meth c ls Q A hx hb hml hown hts hA hZ hw hl hQ kr kt
  have hq : ∀ w ∈ wwM, w.before args s = true := fun w h => hts w (List.mem_cons_of_mem _ h)
  have hl : lv_has ls 3 [(0, .ref (ad 0)), (1, .int y1)] := hl
  refine lv_aload_n hx hb dX12_deltaAway_0 rfl (lv_at hl 0 rfl) ?_
  refine hk_get (ci := 15) (C := RX12) (T := TX12) (N := 92) (v := .int (g 17)) hx hb hts (fun _ h => List.mem_cons_of_mem _ (wwMc_wsX120 _ h)) hown hw 0 rfl rfl 26 (by decide) (hq _ wM_82) rfl dX12_deltaAway_1 ?_
  refine lv_iconst (v := 1) hx hb dX12_deltaAway_4 (by decide) ?_
  refine lv_isub hx hb dX12_deltaAway_5 (jx_nm fun z1 hz1 => ?_)
  have xz1 : (z1).toInt = (g 17).toInt - ((1 : Int32)).toInt := (hE_imp (hE_sub hz1) (om107 ((g 17).toInt) (((1 : Int32)).toInt) hi_g17 (by decide)))
  refine lv_istore_n (lv' := [(2, .int z1), (0, .ref (ad 0)), (1, .int y1)]) hx hb dX12_deltaAway_6 rfl hl (by decide) rfl (fun ls hl => ?_)
  have B2 : ∀ (k5 : Nat) (x3 : Int32) (a4 : Nat → Nat → Int32) (ls : Array Slot) (H : Heap) (locs : List Loc), ((x3).toInt + 2147483649 ≤ (k5 : Int)) → ((x3).toInt < 3000) → (hk_fr [6] ar a4) → (hk_rg 0 255 (a4 6)) → hk_W D (jT cI cJ) A s H locs (mw cI cJ ad g lg a4 bk) → lv_has ls 3 [(0, .ref (ad 0)), (1, .int y1), (2, .int x3)] → W p l e { frames := 0, cells := 0, slots := 0, locals := 0 } s m args below meth c H locs 0 0 Q (F0 m 7 ls []) := by
    intro k5
    induction k5 with
    | zero =>
      intro x3 a4 ls H locs hrk_B2 hf_B2_0 hfr_a4 ha4_r6rg hw hl
      exact False.elim (hk_no0 (0 * (x3).toInt) (om81 ((x3).toInt) hrk_B2 (hE_rng (x3))) (by simp))
    | succ k5 ih_B2 =>
      intro x3 a4 ls H locs hrk_B2 hf_B2_0 hfr_a4 ha4_r6rg hw hl
      have hrk_B2 := hk_rk hrk_B2
      refine lv_iload_n hx hb dX12_deltaAway_7 rfl (lv_at hl 2 rfl) ?_
      refine lv_iload_n hx hb dX12_deltaAway_8 rfl (lv_at hl 1 rfl) ?_
      refine lv_icmp_lt (tgt := 43) hx hb dX12_deltaAway_9 (by decide) (fun cc6 => ?_) (fun cc6 => ?_)
      · exact kr g lg a4 bk _ _ _ _ ⟨rfl, rfl, hfr_a4, rfl, ha4_r6rg⟩ hw dX12_deltaAway_43
      · refine lv_aload_n hx hb dX12_deltaAway_12 rfl (lv_at hl 0 rfl) ?_
        refine hk_get (ci := 15) (C := RX12) (T := TX12) (N := 92) (v := .ref (ad 7)) hx hb hts (fun _ h => List.mem_cons_of_mem _ (wwMc_wsX120 _ h)) hown hw 0 rfl rfl 25 (by decide) (hq _ wM_110) rfl dX12_deltaAway_13 ?_
        refine lv_iload_n hx hb dX12_deltaAway_16 rfl (lv_at hl 2 rfl) ?_
        refine lv_aload_n hx hb dX12_deltaAway_17 rfl (lv_at hl 0 rfl) ?_
        refine hk_get (ci := 15) (C := RX12) (T := TX12) (N := 92) (v := .ref (ad 7)) hx hb hts (fun _ h => List.mem_cons_of_mem _ (wwMc_wsX120 _ h)) hown hw 0 rfl rfl 25 (by decide) (hq _ wM_110) rfl dX12_deltaAway_18 ?_
        refine lv_iload_n hx hb dX12_deltaAway_21 rfl (lv_at hl 2 rfl) ?_
        refine jx_iald hx hb hw 7 0 rfl rfl (hE_in (n := 3000) (om108 ((x3).toInt) ((y1).toInt) hf_B2_0 (hE_nlt cc6) hr0)) dX12_deltaAway_22 (fun z7 hz7 => ?_)
        refine lv_aload_n hx hb dX12_deltaAway_23 rfl (lv_at hl 0 rfl) ?_
        refine hk_get (ci := 15) (C := RX12) (T := TX12) (N := 92) (v := .ref (ad 7)) hx hb hts (fun _ h => List.mem_cons_of_mem _ (wwMc_wsX120 _ h)) hown hw 0 rfl rfl 25 (by decide) (hq _ wM_110) rfl dX12_deltaAway_24 ?_
        refine lv_iload_n hx hb dX12_deltaAway_27 rfl (lv_at hl 2 rfl) ?_
        refine lv_iload_n hx hb dX12_deltaAway_28 rfl (lv_at hl 1 rfl) ?_
        refine lv_isub hx hb dX12_deltaAway_29 (jx_nm fun z8 hz8 => ?_)
        have xz8 : (z8).toInt = (x3).toInt - (y1).toInt := (hE_imp (hE_sub hz8) (om109 ((x3).toInt) ((y1).toInt) hr0 hf_B2_0 (hE_nlt cc6)))
        refine jx_iald hx hb hw 7 0 rfl rfl (hE_in (n := 3000) (om110 ((z8).toInt) ((x3).toInt) ((y1).toInt) xz8 hr0 hf_B2_0 (hE_nlt cc6))) dX12_deltaAway_30 (fun z9 hz9 => ?_)
        refine lv_isub hx hb dX12_deltaAway_31 (jx_nm fun z10 hz10 => ?_)
        have xz10 : (z10).toInt = (z7).toInt - (z9).toInt := (hE_imp (hE_sub hz10) (om111 ((z7).toInt) ((z9).toInt) (hk_rgV ha4_r6rg hz7) (hk_rgV ha4_r6rg hz9)))
        refine lv_sipush (v := 255) hx hb dX12_deltaAway_32 (by decide) ?_
        refine lv_iand hx hb dX12_deltaAway_35 (jx_nm fun z11 hz11 => ?_)
        refine jx_iast mw (cI := cI) (cJ := cJ) (ad := ad) (g := g) (lg := lg) (ar := a4) (bk := bk) 6 hx hb hw 7 0 rfl rfl (hE_in (n := 3000) (om108 ((x3).toInt) ((y1).toInt) hf_B2_0 (hE_nlt cc6) hr0)) dX12_deltaAway_36 rfl (fun H locs a12 h_a12 hw => ?_)
        have hr13 : hk_rg 0 255 (a12 6) := (hk_rgS h_a12 ha4_r6rg (om8 ((z11).toInt) ((z10).toInt) (hE_and 8 256 hz11 (by decide) (by decide) (by decide))))
        obtain ⟨z14, hz14⟩ : ∃ z : Int32, x3 + (-1) = z := ⟨_, rfl⟩
        refine lv_iinc (v := z14) (lv' := [(2, .int z14), (0, .ref (ad 0)), (1, .int y1)]) hx hb dX12_deltaAway_37 hl (k := 2) rfl hz14 (by decide) rfl (fun ls hl => ?_)
        have xz14 : (z14).toInt = (x3).toInt + (((-1) : Int32)).toInt := (hE_imp (hE_add hz14) (om112 ((x3).toInt) ((((-1) : Int32)).toInt) ((y1).toInt) hf_B2_0 (hE_nlt cc6) hr0 (by decide)))
        refine lv_goto (tgt := 7) hx hb dX12_deltaAway_40 (by decide) ?_
        exact ih_B2 z14 a12 ls _ _ (om113 ((z14).toInt) (k5 : Int) ((x3).toInt) ((((-1) : Int32)).toInt) hrk_B2 xz14 (by decide)) (om114 ((z14).toInt) ((x3).toInt) ((((-1) : Int32)).toInt) xz14 hf_B2_0 (by decide)) (hk_frA hfr_a4 (by decide) h_a12) hr13 hw (lv_sub hl [1, 2, 0] rfl)
  exact B2 ((z1).toInt + 2147483649).toNat z1 ar ls _ _ (Int.self_le_toNat _) (om115 ((z1).toInt) ((g 17).toInt) (((1 : Int32)).toInt) xz1 hi_g17 (by decide)) hk_fr0 hi_a6rg hw (lv_sub hl [1, 2, 0] rfl)

set_option maxHeartbeats 4000000 in
set_option maxRecDepth 100000 in
/-- X12_deltaBack on (0,) -/
theorem jm_X12_deltaBack (l : Launch) (hlt : l.stackTraces = false) (D : va_G) (t3 : Nat × Nat × Nat) (cI cJ : ClassId) (ad : Nat → Nat) (g : Nat → Int32) (lg : Nat → Int64) (ar : Nat → Nat → Int32) (bk : Nat → Int64) (sz : Nat) (y1 : Int32) (hr0 : 0 ≤ (y1).toInt) (hi_g17 : 0 ≤ (g 17).toInt ∧ (g 17).toInt ≤ 3000) (hi_a6rg : hk_rg 0 255 (ar 6)) : JMv l yX12_deltaBack (Cond.code yX12_deltaBack cX12_deltaBack 3 none :: wwM) { frames := 0, cells := 0, slots := 0, locals := 0 } t3 D mw cI cJ ad [.ref (ad 0), .int y1] (mw cI cJ ad g lg ar bk) sz 0 0 (fun g' lg' ar' bk' => g = g' ∧ lg = lg' ∧ hk_fr [6] ar ar' ∧ bk = bk' ∧ hk_rg 0 255 (ar' 6)) (fun g' lg' ar' bk' => False) := by
  refine jx_metv (cc := cX12_deltaBack) (maxL := 3) (ret := none) rfl (by decide) rfl (Nat.le_of_ble_eq_true rfl) ?_
  intro p e s m args below meth c ls Q A hx hb hml hown hts hA hZ hw hl hQ kr kt
  have hq : ∀ w ∈ wwM, w.before args s = true := fun w h => hts w (List.mem_cons_of_mem _ h)
  have hl : lv_has ls 3 [(0, .ref (ad 0)), (1, .int y1)] := hl
  refine lv_iload_n hx hb dX12_deltaBack_0 rfl (lv_at hl 1 rfl) ?_
  refine lv_istore_n (lv' := [(2, .int y1), (0, .ref (ad 0)), (1, .int y1)]) hx hb dX12_deltaBack_1 rfl hl (by decide) rfl (fun ls hl => ?_)
  have B1 : ∀ (k4 : Nat) (x2 : Int32) (a3 : Nat → Nat → Int32) (ls : Array Slot) (H : Heap) (locs : List Loc), (2147483648 - (x2).toInt ≤ (k4 : Int)) → ((y1).toInt ≤ (x2).toInt) → (hk_fr [6] ar a3) → (hk_rg 0 255 (a3 6)) → hk_W D (jT cI cJ) A s H locs (mw cI cJ ad g lg a3 bk) → lv_has ls 3 [(0, .ref (ad 0)), (1, .int y1), (2, .int x2)] → W p l e { frames := 0, cells := 0, slots := 0, locals := 0 } s m args below meth c H locs 0 0 Q (F0 m 2 ls []) := by
    intro k4
    induction k4 with
    | zero =>
      intro x2 a3 ls H locs hrk_B1 hf_B1_0 hfr_a3 ha3_r6rg hw hl
      exact False.elim (hk_no0 (0 * (x2).toInt) (om30 ((x2).toInt) hrk_B1 (hE_rng (x2))) (by simp))
    | succ k4 ih_B1 =>
      intro x2 a3 ls H locs hrk_B1 hf_B1_0 hfr_a3 ha3_r6rg hw hl
      have hrk_B1 := hk_rk hrk_B1
      refine lv_iload_n hx hb dX12_deltaBack_2 rfl (lv_at hl 2 rfl) ?_
      refine lv_aload_n hx hb dX12_deltaBack_3 rfl (lv_at hl 0 rfl) ?_
      refine hk_get (ci := 15) (C := RX12) (T := TX12) (N := 92) (v := .int (g 17)) hx hb hts (fun _ h => List.mem_cons_of_mem _ (wwMc_wsX120 _ h)) hown hw 0 rfl rfl 26 (by decide) (hq _ wM_82) rfl dX12_deltaBack_4 ?_
      refine lv_icmp_ge (tgt := 41) hx hb dX12_deltaBack_7 (by decide) (fun cc5 => ?_) (fun cc5 => ?_)
      · exact kr g lg a3 bk _ _ _ _ ⟨rfl, rfl, hfr_a3, rfl, ha3_r6rg⟩ hw dX12_deltaBack_41
      · refine lv_aload_n hx hb dX12_deltaBack_10 rfl (lv_at hl 0 rfl) ?_
        refine hk_get (ci := 15) (C := RX12) (T := TX12) (N := 92) (v := .ref (ad 7)) hx hb hts (fun _ h => List.mem_cons_of_mem _ (wwMc_wsX120 _ h)) hown hw 0 rfl rfl 25 (by decide) (hq _ wM_110) rfl dX12_deltaBack_11 ?_
        refine lv_iload_n hx hb dX12_deltaBack_14 rfl (lv_at hl 2 rfl) ?_
        refine lv_aload_n hx hb dX12_deltaBack_15 rfl (lv_at hl 0 rfl) ?_
        refine hk_get (ci := 15) (C := RX12) (T := TX12) (N := 92) (v := .ref (ad 7)) hx hb hts (fun _ h => List.mem_cons_of_mem _ (wwMc_wsX120 _ h)) hown hw 0 rfl rfl 25 (by decide) (hq _ wM_110) rfl dX12_deltaBack_16 ?_
        refine lv_iload_n hx hb dX12_deltaBack_19 rfl (lv_at hl 2 rfl) ?_
        refine jx_iald hx hb hw 7 0 rfl rfl (hE_in (n := 3000) (om116 ((x2).toInt) ((y1).toInt) ((g 17).toInt) hf_B1_0 (hE_nle cc5) hr0 hi_g17)) dX12_deltaBack_20 (fun z6 hz6 => ?_)
        refine lv_aload_n hx hb dX12_deltaBack_21 rfl (lv_at hl 0 rfl) ?_
        refine hk_get (ci := 15) (C := RX12) (T := TX12) (N := 92) (v := .ref (ad 7)) hx hb hts (fun _ h => List.mem_cons_of_mem _ (wwMc_wsX120 _ h)) hown hw 0 rfl rfl 25 (by decide) (hq _ wM_110) rfl dX12_deltaBack_22 ?_
        refine lv_iload_n hx hb dX12_deltaBack_25 rfl (lv_at hl 2 rfl) ?_
        refine lv_iload_n hx hb dX12_deltaBack_26 rfl (lv_at hl 1 rfl) ?_
        refine lv_isub hx hb dX12_deltaBack_27 (jx_nm fun z7 hz7 => ?_)
        have xz7 : (z7).toInt = (x2).toInt - (y1).toInt := (hE_imp (hE_sub hz7) (om117 ((x2).toInt) ((y1).toInt) ((g 17).toInt) hr0 hf_B1_0 (hE_nle cc5) hi_g17))
        refine jx_iald hx hb hw 7 0 rfl rfl (hE_in (n := 3000) (om118 ((z7).toInt) ((x2).toInt) ((y1).toInt) ((g 17).toInt) xz7 hr0 hf_B1_0 (hE_nle cc5) hi_g17)) dX12_deltaBack_28 (fun z8 hz8 => ?_)
        refine lv_iadd hx hb dX12_deltaBack_29 (jx_nm fun z9 hz9 => ?_)
        have xz9 : (z9).toInt = (z6).toInt + (z8).toInt := (hE_imp (hE_add hz9) (om119 ((z6).toInt) ((z8).toInt) (hk_rgV ha3_r6rg hz6) (hk_rgV ha3_r6rg hz8)))
        refine lv_sipush (v := 255) hx hb dX12_deltaBack_30 (by decide) ?_
        refine lv_iand hx hb dX12_deltaBack_33 (jx_nm fun z10 hz10 => ?_)
        refine jx_iast mw (cI := cI) (cJ := cJ) (ad := ad) (g := g) (lg := lg) (ar := a3) (bk := bk) 6 hx hb hw 7 0 rfl rfl (hE_in (n := 3000) (om116 ((x2).toInt) ((y1).toInt) ((g 17).toInt) hf_B1_0 (hE_nle cc5) hr0 hi_g17)) dX12_deltaBack_34 rfl (fun H locs a11 h_a11 hw => ?_)
        have hr12 : hk_rg 0 255 (a11 6) := (hk_rgS h_a11 ha3_r6rg (om8 ((z10).toInt) ((z9).toInt) (hE_and 8 256 hz10 (by decide) (by decide) (by decide))))
        obtain ⟨z13, hz13⟩ : ∃ z : Int32, x2 + 1 = z := ⟨_, rfl⟩
        refine lv_iinc (v := z13) (lv' := [(2, .int z13), (0, .ref (ad 0)), (1, .int y1)]) hx hb dX12_deltaBack_35 hl (k := 2) rfl hz13 (by decide) rfl (fun ls hl => ?_)
        have xz13 : (z13).toInt = (x2).toInt + ((1 : Int32)).toInt := (hE_imp (hE_add hz13) (om120 ((x2).toInt) (((1 : Int32)).toInt) ((y1).toInt) ((g 17).toInt) hf_B1_0 (hE_nle cc5) hr0 hi_g17 (by decide)))
        refine lv_goto (tgt := 2) hx hb dX12_deltaBack_38 (by decide) ?_
        exact ih_B1 z13 a11 ls _ _ (om11 ((z13).toInt) (k4 : Int) ((x2).toInt) (((1 : Int32)).toInt) hrk_B1 xz13 (by decide)) (om121 ((y1).toInt) ((z13).toInt) ((x2).toInt) (((1 : Int32)).toInt) hf_B1_0 xz13 (by decide)) (hk_frA hfr_a3 (by decide) h_a11) hr12 hw (lv_sub hl [1, 2, 0] rfl)
  exact B1 (2147483648 - (y1).toInt).toNat y1 ar ls _ _ (Int.self_le_toNat _) (om122 ((y1).toInt)) hk_fr0 hi_a6rg hw (lv_sub hl [1, 2, 0] rfl)

set_option maxHeartbeats 4000000 in
set_option maxRecDepth 100000 in
/-- X12_branchTurn on (0,) -/
theorem jm_X12_branchTurn (l : Launch) (hlt : l.stackTraces = false) (D : va_G) (t3 : Nat × Nat × Nat) (cI cJ : ClassId) (ad : Nat → Nat) (g : Nat → Int32) (lg : Nat → Int64) (ar : Nat → Nat → Int32) (bk : Nat → Int64) (sz : Nat) (y1 : Int32) (hi_g17 : 0 ≤ (g 17).toInt ∧ (g 17).toInt ≤ 3000) (hi_a6rg : hk_rg 0 255 (ar 6)) : JMv l yX12_branchTurn (Cond.code yX12_branchTurn cX12_branchTurn 6 none :: wwM) { frames := 0, cells := 0, slots := 0, locals := 0 } t3 D mw cI cJ ad [.ref (ad 0), .int y1] (mw cI cJ ad g lg ar bk) sz 0 0 (fun g' lg' ar' bk' => g = g' ∧ lg = lg' ∧ hk_fr [6] ar ar' ∧ bk = bk' ∧ hk_rg 0 255 (ar' 6)) (fun g' lg' ar' bk' => False) := by
  refine jx_metv (cc := cX12_branchTurn) (maxL := 6) (ret := none) rfl (by decide) rfl (Nat.le_of_ble_eq_true rfl) ?_
  intro p e s m args below meth c ls Q A hx hb hml hown hts hA hZ hw hl hQ kr kt
  have hq : ∀ w ∈ wwM, w.before args s = true := fun w h => hts w (List.mem_cons_of_mem _ h)
  have hl : lv_has ls 6 [(0, .ref (ad 0)), (1, .int y1)] := hl
  refine lv_iconst (v := 0) hx hb dX12_branchTurn_0 (by decide) ?_
  refine lv_istore_n (lv' := [(2, .int 0), (0, .ref (ad 0)), (1, .int y1)]) hx hb dX12_branchTurn_1 rfl hl (by decide) rfl (fun ls hl => ?_)
  have B1 : ∀ (k4 : Nat) (x2 : Int32) (a3 : Nat → Nat → Int32) (ls : Array Slot) (H : Heap) (locs : List Loc), (2147483648 - (x2).toInt ≤ (k4 : Int)) → ((x2).toInt ≤ 3000) → (0 ≤ (x2).toInt) → (hk_fr [6] ar a3) → (hk_rg 0 255 (a3 6)) → hk_W D (jT cI cJ) A s H locs (mw cI cJ ad g lg a3 bk) → lv_has ls 6 [(0, .ref (ad 0)), (1, .int y1), (2, .int x2)] → W p l e { frames := 0, cells := 0, slots := 0, locals := 0 } s m args below meth c H locs 0 0 Q (F0 m 2 ls []) := by
    intro k4
    induction k4 with
    | zero =>
      intro x2 a3 ls H locs hrk_B1 hf_B1_0 hf_B1_1 hfr_a3 ha3_r6rg hw hl
      exact False.elim (hk_no0 (0 * (x2).toInt) (om123 ((x2).toInt) hf_B1_0 hrk_B1) (by simp))
    | succ k4 ih_B1 =>
      intro x2 a3 ls H locs hrk_B1 hf_B1_0 hf_B1_1 hfr_a3 ha3_r6rg hw hl
      have hrk_B1 := hk_rk hrk_B1
      refine lv_iload_n hx hb dX12_branchTurn_2 rfl (lv_at hl 2 rfl) ?_
      refine lv_iconst (v := 4) hx hb dX12_branchTurn_3 (by decide) ?_
      refine lv_iadd hx hb dX12_branchTurn_4 (jx_nm fun z5 hz5 => ?_)
      have xz5 : (z5).toInt = (x2).toInt + ((4 : Int32)).toInt := (hE_imp (hE_add hz5) (om124 ((x2).toInt) (((4 : Int32)).toInt) hf_B1_0 hf_B1_1 (by decide)))
      refine lv_aload_n hx hb dX12_branchTurn_5 rfl (lv_at hl 0 rfl) ?_
      refine hk_get (ci := 15) (C := RX12) (T := TX12) (N := 92) (v := .int (g 17)) hx hb hts (fun _ h => List.mem_cons_of_mem _ (wwMc_wsX120 _ h)) hown hw 0 rfl rfl 26 (by decide) (hq _ wM_82) rfl dX12_branchTurn_6 ?_
      refine lv_icmp_gt (tgt := 141) hx hb dX12_branchTurn_9 (by decide) (fun cc6 => ?_) (fun cc6 => ?_)
      · exact kr g lg a3 bk _ _ _ _ ⟨rfl, rfl, hfr_a3, rfl, ha3_r6rg⟩ hw dX12_branchTurn_141
      · refine lv_aload_n hx hb dX12_branchTurn_12 rfl (lv_at hl 0 rfl) ?_
        refine hk_get (ci := 15) (C := RX12) (T := TX12) (N := 92) (v := .ref (ad 7)) hx hb hts (fun _ h => List.mem_cons_of_mem _ (wwMc_wsX120 _ h)) hown hw 0 rfl rfl 25 (by decide) (hq _ wM_110) rfl dX12_branchTurn_13 ?_
        refine lv_iload_n hx hb dX12_branchTurn_16 rfl (lv_at hl 2 rfl) ?_
        refine lv_iconst (v := 3) hx hb dX12_branchTurn_17 (by decide) ?_
        refine lv_iadd hx hb dX12_branchTurn_18 (jx_nm fun z7 hz7 => ?_)
        have xz7 : (z7).toInt = (x2).toInt + ((3 : Int32)).toInt := (hE_imp (hE_add hz7) (om125 ((x2).toInt) (((3 : Int32)).toInt) ((z5).toInt) (((4 : Int32)).toInt) ((g 17).toInt) hf_B1_1 xz5 (hE_nlt cc6) hi_g17 (by decide) (by decide)))
        refine jx_iald hx hb hw 7 0 rfl rfl (hE_in (n := 3000) (om126 ((z7).toInt) ((x2).toInt) (((3 : Int32)).toInt) ((z5).toInt) (((4 : Int32)).toInt) ((g 17).toInt) xz7 hf_B1_1 xz5 (hE_nlt cc6) hi_g17 (by decide) (by decide))) dX12_branchTurn_19 (fun z8 hz8 => ?_)
        refine lv_sipush (v := 235) hx hb dX12_branchTurn_20 (by decide) ?_
        have B9 : ∀  (a10 : Nat → Nat → Int32) (ls : Array Slot) (H : Heap) (locs : List Loc), (hk_fr [6] a3 a10) → (hk_rg 0 255 (a10 6)) → hk_W D (jT cI cJ) A s H locs (mw cI cJ ad g lg a10 bk) → lv_has ls 6 [(0, .ref (ad 0)), (1, .int y1), (2, .int x2)] → W p l e { frames := 0, cells := 0, slots := 0, locals := 0 } s m args below meth c H locs 0 0 Q (F0 m 135 ls []) := by
          intro a10 ls H locs hfr_a10 ha10_r6rg hw hl
          obtain ⟨z11, hz11⟩ : ∃ z : Int32, x2 + 4 = z := ⟨_, rfl⟩
          refine lv_iinc (v := z11) (lv' := [(2, .int z11), (0, .ref (ad 0)), (1, .int y1)]) hx hb dX12_branchTurn_135 hl (k := 2) rfl hz11 (by decide) rfl (fun ls hl => ?_)
          have xz11 : (z11).toInt = (x2).toInt + ((4 : Int32)).toInt := (hE_imp (hE_add hz11) (om127 ((x2).toInt) (((4 : Int32)).toInt) ((z5).toInt) ((g 17).toInt) hf_B1_1 xz5 (hE_nlt cc6) hi_g17 (by decide)))
          refine lv_goto (tgt := 2) hx hb dX12_branchTurn_138 (by decide) ?_
          exact ih_B1 z11 a10 ls _ _ (om128 ((z11).toInt) (k4 : Int) ((x2).toInt) (((4 : Int32)).toInt) hrk_B1 xz11 (by decide)) (om129 ((z11).toInt) ((x2).toInt) (((4 : Int32)).toInt) ((z5).toInt) ((g 17).toInt) xz11 xz5 (hE_nlt cc6) hi_g17) (om130 ((z11).toInt) ((x2).toInt) (((4 : Int32)).toInt) xz11 hf_B1_1 (by decide)) (hk_frT hfr_a3 (by decide) hfr_a10) ha10_r6rg hw (lv_sub hl [1, 2, 0] rfl)
        refine lv_icmp_ne (tgt := 135) hx hb dX12_branchTurn_23 (by decide) (fun cc12 => ?_) (fun cc12 => ?_)
        · exact B9 a3 ls _ _ hk_fr0 ha3_r6rg hw (lv_sub hl [0, 1, 2] rfl)
        · refine lv_aload_n hx hb dX12_branchTurn_26 rfl (lv_at hl 0 rfl) ?_
          refine hk_get (ci := 15) (C := RX12) (T := TX12) (N := 92) (v := .ref (ad 7)) hx hb hts (fun _ h => List.mem_cons_of_mem _ (wwMc_wsX120 _ h)) hown hw 0 rfl rfl 25 (by decide) (hq _ wM_110) rfl dX12_branchTurn_27 ?_
          refine lv_iload_n hx hb dX12_branchTurn_30 rfl (lv_at hl 2 rfl) ?_
          refine jx_iald hx hb hw 7 0 rfl rfl (hE_in (n := 3000) (om131 ((x2).toInt) ((z5).toInt) (((4 : Int32)).toInt) ((g 17).toInt) hf_B1_1 xz5 (hE_nlt cc6) hi_g17 (by decide))) dX12_branchTurn_31 (fun z13 hz13 => ?_)
          refine lv_aload_n hx hb dX12_branchTurn_32 rfl (lv_at hl 0 rfl) ?_
          refine hk_get (ci := 15) (C := RX12) (T := TX12) (N := 92) (v := .ref (ad 7)) hx hb hts (fun _ h => List.mem_cons_of_mem _ (wwMc_wsX120 _ h)) hown hw 0 rfl rfl 25 (by decide) (hq _ wM_110) rfl dX12_branchTurn_33 ?_
          refine lv_iload_n hx hb dX12_branchTurn_36 rfl (lv_at hl 2 rfl) ?_
          refine lv_iconst (v := 1) hx hb dX12_branchTurn_37 (by decide) ?_
          refine lv_iadd hx hb dX12_branchTurn_38 (jx_nm fun z14 hz14 => ?_)
          have xz14 : (z14).toInt = (x2).toInt + ((1 : Int32)).toInt := (hE_imp (hE_add hz14) (om132 ((x2).toInt) (((1 : Int32)).toInt) ((z5).toInt) (((4 : Int32)).toInt) ((g 17).toInt) hf_B1_1 xz5 (hE_nlt cc6) hi_g17 (by decide) (by decide)))
          refine jx_iald hx hb hw 7 0 rfl rfl (hE_in (n := 3000) (om133 ((z14).toInt) ((x2).toInt) (((1 : Int32)).toInt) ((z5).toInt) (((4 : Int32)).toInt) ((g 17).toInt) xz14 hf_B1_1 xz5 (hE_nlt cc6) hi_g17 (by decide) (by decide))) dX12_branchTurn_39 (fun z15 hz15 => ?_)
          refine lv_bipush (v := 8) hx hb dX12_branchTurn_40 (by decide) ?_
          refine lv_ishl hx hb dX12_branchTurn_42 (jx_nm fun z16 hz16 => ?_)
          have xz16 : (z16).toInt = (z15).toInt * 256 := (hE_imp (hE_shl 8 256 hz16 (by decide) (by decide) (by decide)) (om134 ((z15).toInt) (hk_rgV ha3_r6rg hz15)))
          refine lv_ior hx hb dX12_branchTurn_43 (jx_nm fun z17 hz17 => ?_)
          refine lv_aload_n hx hb dX12_branchTurn_44 rfl (lv_at hl 0 rfl) ?_
          refine hk_get (ci := 15) (C := RX12) (T := TX12) (N := 92) (v := .ref (ad 7)) hx hb hts (fun _ h => List.mem_cons_of_mem _ (wwMc_wsX120 _ h)) hown hw 0 rfl rfl 25 (by decide) (hq _ wM_110) rfl dX12_branchTurn_45 ?_
          refine lv_iload_n hx hb dX12_branchTurn_48 rfl (lv_at hl 2 rfl) ?_
          refine lv_iconst (v := 2) hx hb dX12_branchTurn_49 (by decide) ?_
          refine lv_iadd hx hb dX12_branchTurn_50 (jx_nm fun z18 hz18 => ?_)
          have xz18 : (z18).toInt = (x2).toInt + ((2 : Int32)).toInt := (hE_imp (hE_add hz18) (om135 ((x2).toInt) (((2 : Int32)).toInt) ((z5).toInt) (((4 : Int32)).toInt) ((g 17).toInt) hf_B1_1 xz5 (hE_nlt cc6) hi_g17 (by decide) (by decide)))
          refine jx_iald hx hb hw 7 0 rfl rfl (hE_in (n := 3000) (om136 ((z18).toInt) ((x2).toInt) (((2 : Int32)).toInt) ((z5).toInt) (((4 : Int32)).toInt) ((g 17).toInt) xz18 hf_B1_1 xz5 (hE_nlt cc6) hi_g17 (by decide) (by decide))) dX12_branchTurn_51 (fun z19 hz19 => ?_)
          refine lv_bipush (v := 16) hx hb dX12_branchTurn_52 (by decide) ?_
          refine lv_ishl hx hb dX12_branchTurn_54 (jx_nm fun z20 hz20 => ?_)
          have xz20 : (z20).toInt = (z19).toInt * 65536 := (hE_imp (hE_shl 16 65536 hz20 (by decide) (by decide) (by decide)) (om137 ((z19).toInt) (hk_rgV ha3_r6rg hz19)))
          refine lv_ior hx hb dX12_branchTurn_55 (jx_nm fun z21 hz21 => ?_)
          refine lv_istore_n (lv' := [(3, .int z21), (0, .ref (ad 0)), (1, .int y1), (2, .int x2)]) hx hb dX12_branchTurn_56 rfl hl (by decide) rfl (fun ls hl => ?_)
          refine lv_iload_n hx hb dX12_branchTurn_57 rfl (lv_at hl 3 rfl) ?_
          refine lv_bipush (v := 8) hx hb dX12_branchTurn_58 (by decide) ?_
          refine lv_iadd hx hb dX12_branchTurn_60 (jx_nm fun z22 hz22 => ?_)
          have xz22 : (z22).toInt = (x2).toInt + ((8 : Int32)).toInt := (hE_imp (hE_add hz22) (om138 ((x2).toInt) (((8 : Int32)).toInt) ((z5).toInt) (((4 : Int32)).toInt) ((g 17).toInt) hf_B1_1 xz5 (hE_nlt cc6) hi_g17 (by decide) (by decide)))
          refine lv_istore (lv' := [(4, .int z22), (3, .int z21), (0, .ref (ad 0)), (1, .int y1), (2, .int x2)]) hx hb dX12_branchTurn_61 hl (by decide) rfl (fun ls hl => ?_)
          refine lv_iload_n hx hb dX12_branchTurn_63 rfl (lv_at hl 3 rfl) ?_
          have B23 : ∀  (x24 : Int32) (ls : Array Slot) (H : Heap) (locs : List Loc), hk_W D (jT cI cJ) A s H locs (mw cI cJ ad g lg a3 bk) → lv_has ls 6 [(0, .ref (ad 0)), (1, .int y1), (2, .int x2)] → W p l e { frames := 0, cells := 0, slots := 0, locals := 0 } s m args below meth c H locs 0 0 Q (F0 m 82 ls [.int x24]) := by
            intro x24 ls H locs hw hl
            refine lv_istore (lv' := [(5, .int x24), (0, .ref (ad 0)), (1, .int y1), (2, .int x2)]) hx hb dX12_branchTurn_82 hl (by decide) rfl (fun ls hl => ?_)
            refine lv_iload hx hb dX12_branchTurn_84 (lv_at hl 0 rfl) ?_
            refine lv_iconst (v := 2) hx hb dX12_branchTurn_86 (by decide) ?_
            refine lv_ishr hx hb dX12_branchTurn_87 (jx_nm fun z25 hz25 => ?_)
            refine lv_ldc (v := 16777215) hx hb hown (hq _ wM_111) dX12_branchTurn_88 ?_
            refine lv_iand hx hb dX12_branchTurn_90 (jx_nm fun z26 hz26 => ?_)
            refine lv_istore (lv' := [(5, .int z26), (0, .ref (ad 0)), (1, .int y1), (2, .int x2)]) hx hb dX12_branchTurn_91 hl (by decide) rfl (fun ls hl => ?_)
            refine lv_aload_n hx hb dX12_branchTurn_93 rfl (lv_at hl 1 rfl) ?_
            refine hk_get (ci := 15) (C := RX12) (T := TX12) (N := 92) (v := .ref (ad 7)) hx hb hts (fun _ h => List.mem_cons_of_mem _ (wwMc_wsX120 _ h)) hown hw 0 rfl rfl 25 (by decide) (hq _ wM_110) rfl dX12_branchTurn_94 ?_
            refine lv_iload_n hx hb dX12_branchTurn_97 rfl (lv_at hl 3 rfl) ?_
            refine lv_iload hx hb dX12_branchTurn_98 (lv_at hl 0 rfl) ?_
            refine lv_sipush (v := 255) hx hb dX12_branchTurn_100 (by decide) ?_
            refine lv_iand hx hb dX12_branchTurn_103 (jx_nm fun z27 hz27 => ?_)
            refine jx_iast mw (cI := cI) (cJ := cJ) (ad := ad) (g := g) (lg := lg) (ar := a3) (bk := bk) 6 hx hb hw 7 0 rfl rfl (hE_in (n := 3000) (om131 ((x2).toInt) ((z5).toInt) (((4 : Int32)).toInt) ((g 17).toInt) hf_B1_1 xz5 (hE_nlt cc6) hi_g17 (by decide))) dX12_branchTurn_104 rfl (fun H locs a28 h_a28 hw => ?_)
            have hr29 : hk_rg 0 255 (a28 6) := (hk_rgS h_a28 ha3_r6rg (om8 ((z27).toInt) ((z26).toInt) (hE_and 8 256 hz27 (by decide) (by decide) (by decide))))
            refine lv_aload_n hx hb dX12_branchTurn_105 rfl (lv_at hl 1 rfl) ?_
            refine hk_get (ci := 15) (C := RX12) (T := TX12) (N := 92) (v := .ref (ad 7)) hx hb hts (fun _ h => List.mem_cons_of_mem _ (wwMc_wsX120 _ h)) hown hw 0 rfl rfl 25 (by decide) (hq _ wM_110) rfl dX12_branchTurn_106 ?_
            refine lv_iload_n hx hb dX12_branchTurn_109 rfl (lv_at hl 3 rfl) ?_
            refine lv_iconst (v := 1) hx hb dX12_branchTurn_110 (by decide) ?_
            refine lv_iadd hx hb dX12_branchTurn_111 (jx_nm fun z30 hz30 => ?_)
            have xz30 : (z30).toInt = (x2).toInt + ((1 : Int32)).toInt := (hE_imp (hE_add hz30) (om132 ((x2).toInt) (((1 : Int32)).toInt) ((z5).toInt) (((4 : Int32)).toInt) ((g 17).toInt) hf_B1_1 xz5 (hE_nlt cc6) hi_g17 (by decide) (by decide)))
            refine lv_iload hx hb dX12_branchTurn_112 (lv_at hl 0 rfl) ?_
            refine lv_bipush (v := 8) hx hb dX12_branchTurn_114 (by decide) ?_
            refine lv_ishr hx hb dX12_branchTurn_116 (jx_nm fun z31 hz31 => ?_)
            refine lv_sipush (v := 255) hx hb dX12_branchTurn_117 (by decide) ?_
            refine lv_iand hx hb dX12_branchTurn_120 (jx_nm fun z32 hz32 => ?_)
            refine jx_iast mw (cI := cI) (cJ := cJ) (ad := ad) (g := g) (lg := lg) (ar := a28) (bk := bk) 6 hx hb hw 7 0 rfl rfl (hE_in (n := 3000) (om133 ((z30).toInt) ((x2).toInt) (((1 : Int32)).toInt) ((z5).toInt) (((4 : Int32)).toInt) ((g 17).toInt) xz30 hf_B1_1 xz5 (hE_nlt cc6) hi_g17 (by decide) (by decide))) dX12_branchTurn_121 rfl (fun H locs a33 h_a33 hw => ?_)
            have hr34 : hk_rg 0 255 (a33 6) := (hk_rgS h_a33 hr29 (om8 ((z32).toInt) ((z31).toInt) (hE_and 8 256 hz32 (by decide) (by decide) (by decide))))
            refine lv_aload_n hx hb dX12_branchTurn_122 rfl (lv_at hl 1 rfl) ?_
            refine hk_get (ci := 15) (C := RX12) (T := TX12) (N := 92) (v := .ref (ad 7)) hx hb hts (fun _ h => List.mem_cons_of_mem _ (wwMc_wsX120 _ h)) hown hw 0 rfl rfl 25 (by decide) (hq _ wM_110) rfl dX12_branchTurn_123 ?_
            refine lv_iload_n hx hb dX12_branchTurn_126 rfl (lv_at hl 3 rfl) ?_
            refine lv_iconst (v := 2) hx hb dX12_branchTurn_127 (by decide) ?_
            refine lv_iadd hx hb dX12_branchTurn_128 (jx_nm fun z35 hz35 => ?_)
            have xz35 : (z35).toInt = (x2).toInt + ((2 : Int32)).toInt := (hE_imp (hE_add hz35) (om135 ((x2).toInt) (((2 : Int32)).toInt) ((z5).toInt) (((4 : Int32)).toInt) ((g 17).toInt) hf_B1_1 xz5 (hE_nlt cc6) hi_g17 (by decide) (by decide)))
            refine lv_iload hx hb dX12_branchTurn_129 (lv_at hl 0 rfl) ?_
            refine lv_bipush (v := 16) hx hb dX12_branchTurn_131 (by decide) ?_
            refine lv_ishr hx hb dX12_branchTurn_133 (jx_nm fun z36 hz36 => ?_)
            refine jx_iast mw (cI := cI) (cJ := cJ) (ad := ad) (g := g) (lg := lg) (ar := a33) (bk := bk) 6 hx hb hw 7 0 rfl rfl (hE_in (n := 3000) (om136 ((z35).toInt) ((x2).toInt) (((2 : Int32)).toInt) ((z5).toInt) (((4 : Int32)).toInt) ((g 17).toInt) xz35 hf_B1_1 xz5 (hE_nlt cc6) hi_g17 (by decide) (by decide))) dX12_branchTurn_134 rfl (fun H locs a37 h_a37 hw => ?_)
            have hr38 : hk_rg 0 255 (a37 6) := (hk_rgS h_a37 hr34 (om139 ((z36).toInt) ((z26).toInt) ((z25).toInt) (hE_shr 16 65536 hz36 (by decide) (by decide) (by decide)) (hE_and 24 16777216 hz26 (by decide) (by decide) (by decide))))
            exact B9 a37 ls _ _ (hk_frA (hk_frA (hk_frA hk_fr0 (by decide) h_a28) (by decide) h_a33) (by decide) h_a37) hr38 hw (lv_sub hl [1, 2, 3] rfl)
          refine lv_if_eq (tgt := 76) hx hb dX12_branchTurn_64 (by decide) (fun cc39 => ?_) (fun cc39 => ?_)
          · refine lv_iconst (v := 4) hx hb dX12_branchTurn_76 (by decide) ?_
            refine lv_iload_n hx hb dX12_branchTurn_77 rfl (lv_at hl 1 rfl) ?_
            refine lv_imul hx hb dX12_branchTurn_78 (jx_nm fun z40 hz40 => ?_)
            refine lv_iload hx hb dX12_branchTurn_79 (lv_at hl 0 rfl) ?_
            refine lv_iadd hx hb dX12_branchTurn_81 (jx_nm fun z41 hz41 => ?_)
            exact B23 z41 ls _ _ hw (lv_sub hl [2, 3, 4] rfl)
          · refine lv_iconst (v := 4) hx hb dX12_branchTurn_67 (by decide) ?_
            refine lv_iload_n hx hb dX12_branchTurn_68 rfl (lv_at hl 1 rfl) ?_
            refine lv_imul hx hb dX12_branchTurn_69 (jx_nm fun z42 hz42 => ?_)
            refine lv_iload hx hb dX12_branchTurn_70 (lv_at hl 0 rfl) ?_
            refine lv_isub hx hb dX12_branchTurn_72 (jx_nm fun z43 hz43 => ?_)
            refine lv_goto (tgt := 82) hx hb dX12_branchTurn_73 (by decide) ?_
            exact B23 z43 ls _ _ hw (lv_sub hl [2, 3, 4] rfl)
  exact B1 (2147483648 - ((0 : Int32)).toInt).toNat 0 ar ls _ _ (Int.self_le_toNat _) (om140 (((0 : Int32)).toInt) (by decide)) (om18 (((0 : Int32)).toInt) (by decide)) hk_fr0 hi_a6rg hw (lv_sub hl [1, 2, 0] rfl)

set_option maxHeartbeats 4000000 in
set_option maxRecDepth 100000 in
/-- X12_turn on (0,) -/
theorem jm_X12_turn (l : Launch) (hlt : l.stackTraces = false) (D : va_G) (t3 : Nat × Nat × Nat) (cI cJ : ClassId) (ad : Nat → Nat) (g : Nat → Int32) (lg : Nat → Int64) (ar : Nat → Nat → Int32) (bk : Nat → Int64) (sz : Nat) (y1 : Int32) (y2 : Int32) (y3 : Int32) (hi_g13 : 0 ≤ (g 13).toInt ∧ (g 13).toInt ≤ 3000) (hi_a1rg : hk_rg 0 255 (ar 1)) (hi_g17 : 0 ≤ (g 17).toInt ∧ (g 17).toInt ≤ 3000) (hi_a6rg : hk_rg 0 255 (ar 6)) : JMi l yX12_turn (Cond.code yX12_turn cX12_turn 5 (some .int) :: wwM) { frames := 1, cells := 0, slots := 0, locals := 25 } t3 D mw cI cJ ad [.ref (ad 0), .int y1, .int y2, .int y3] (mw cI cJ ad g lg ar bk) sz 0 0 (fun (r : Int32) g' lg' ar' bk' => hk_fr [1, 17] g g' ∧ lg = lg' ∧ hk_fr [1, 6] ar ar' ∧ bk = bk' ∧ hk_rg 0 255 (ar' 1) ∧ (0 ≤ (g' 17).toInt ∧ (g' 17).toInt ≤ 3000) ∧ hk_rg 0 255 (ar' 6)) (fun g' lg' ar' bk' => False) := by
  refine jx_meti (cc := cX12_turn) (maxL := 5) (ret := (some .int)) rfl (by decide) rfl (Nat.le_of_ble_eq_true rfl) ?_
  intro p e s m args below meth c ls Q A hx hb hml hown hts hA hZ hw hl hQ kr kt
  have hq : ∀ w ∈ wwM, w.before args s = true := fun w h => hts w (List.mem_cons_of_mem _ h)
  have hl : lv_has ls 5 [(0, .ref (ad 0)), (1, .int y1), (2, .int y2), (3, .int y3)] := hl
  refine lv_aload_n hx hb dX12_turn_0 rfl (lv_at hl 0 rfl) ?_
  refine lv_iconst (v := 0) hx hb dX12_turn_1 (by decide) ?_
  refine jx_putg mw (cI := cI) (cJ := cJ) (ad := ad) (g := g) (lg := lg) (ar := ar) (bk := bk) (x := 0) 1 (ci := 15) (C := RX12) (T := TX12) (N := 92) (ty := .int) hx hb hts (fun _ h => List.mem_cons_of_mem _ (wwMc_wsX120 _ h)) tyX12 tyX12_ok nmX12 hown hw 0 rfl rfl 1 (by decide) (hq _ wM_103) rfl (by decide +kernel) rfl rfl (Nat.le_of_ble_eq_true rfl) dX12_turn_2 rfl (fun H locs g1 h_g1 hw => ?_)
  refine lv_iload_n hx hb dX12_turn_5 rfl (lv_at hl 1 rfl) ?_
  refine lv_if_lt (tgt := 30) hx hb dX12_turn_6 (by decide) (fun cc2 => ?_) (fun cc2 => ?_)
  · refine lv_iconst (v := (-1)) hx hb dX12_turn_30 (by decide) ?_
    have e_g1_17 : g1 17 = (g 17) := (hk_upgN h_g1 17 rfl)
    exact kr (-1) g1 lg ar bk _ _ _ _ ⟨(hk_frG hk_fr0 (by decide) h_g1), rfl, hk_fr0, rfl, hi_a1rg, (om141 ((g1 17).toInt) ((g 17).toInt) (congrArg Int32.toInt e_g1_17) hi_g17), hi_a6rg⟩ hw dX12_turn_31
  · refine lv_iload_n hx hb dX12_turn_9 rfl (lv_at hl 1 rfl) ?_
    refine lv_iconst (v := 1) hx hb dX12_turn_10 (by decide) ?_
    refine lv_icmp_gt (tgt := 30) hx hb dX12_turn_11 (by decide) (fun cc3 => ?_) (fun cc3 => ?_)
    · refine lv_iconst (v := (-1)) hx hb dX12_turn_30 (by decide) ?_
      have e_g1_17 : g1 17 = (g 17) := (hk_upgN h_g1 17 rfl)
      exact kr (-1) g1 lg ar bk _ _ _ _ ⟨(hk_frG hk_fr0 (by decide) h_g1), rfl, hk_fr0, rfl, hi_a1rg, (om141 ((g1 17).toInt) ((g 17).toInt) (congrArg Int32.toInt e_g1_17) hi_g17), hi_a6rg⟩ hw dX12_turn_31
    · refine lv_iload_n hx hb dX12_turn_14 rfl (lv_at hl 1 rfl) ?_
      have B4 : ∀  (ls : Array Slot) (H : Heap) (locs : List Loc), ((y1).toInt = 1 ∨ 1 ≤ (y2).toInt) → hk_W D (jT cI cJ) A s H locs (mw cI cJ ad g1 lg ar bk) → lv_has ls 5 [(0, .ref (ad 0)), (1, .int y1), (2, .int y2), (3, .int y3)] → W p l e { frames := 1, cells := 0, slots := 0, locals := 25 } s m args below meth c H locs 0 0 Q (F0 m 32 ls []) := by
        intro ls H locs hf_B4_0 hw hl
        refine lv_aload_n hx hb dX12_turn_32 rfl (lv_at hl 0 rfl) ?_
        refine lv_aload_n hx hb dX12_turn_33 rfl (lv_at hl 0 rfl) ?_
        have e_g1_13 : g1 13 = (g 13) := (hk_upgN h_g1 13 rfl)
        refine hk_get (ci := 15) (C := RX12) (T := TX12) (N := 92) (v := .int (g 13)) hx hb hts (fun _ h => List.mem_cons_of_mem _ (wwMc_wsX120 _ h)) hown hw 0 rfl rfl 15 (by decide) (hq _ wM_119) (congrArg (fun z => some (Value.int z)) e_g1_13) dX12_turn_34 ?_
        refine jx_putg mw (cI := cI) (cJ := cJ) (ad := ad) (g := g1) (lg := lg) (ar := ar) (bk := bk) (x := (g 13)) 17 (ci := 15) (C := RX12) (T := TX12) (N := 92) (ty := .int) hx hb hts (fun _ h => List.mem_cons_of_mem _ (wwMc_wsX120 _ h)) tyX12 tyX12_ok nmX12 hown hw 0 rfl rfl 26 (by decide) (hq _ wM_82) rfl (by decide +kernel) rfl rfl (Nat.le_of_ble_eq_true rfl) dX12_turn_37 rfl (fun H locs g5 h_g5 hw => ?_)
        refine lv_iconst (v := 0) hx hb dX12_turn_40 (by decide) ?_
        refine lv_istore (lv' := [(4, .int 0), (0, .ref (ad 0)), (1, .int y1), (2, .int y2), (3, .int y3)]) hx hb dX12_turn_41 hl (by decide) rfl (fun ls hl => ?_)
        have B6 : ∀ (k9 : Nat) (x7 : Int32) (a8 : Nat → Nat → Int32) (ls : Array Slot) (H : Heap) (locs : List Loc), (2147483648 - (x7).toInt ≤ (k9 : Int)) → (0 ≤ (x7).toInt) → (hk_fr [6] ar a8) → (hk_rg 0 255 (a8 6)) → hk_W D (jT cI cJ) A s H locs (mw cI cJ ad g5 lg a8 bk) → lv_has ls 5 [(0, .ref (ad 0)), (1, .int y1), (2, .int y2), (3, .int y3), (4, .int x7)] → W p l e { frames := 1, cells := 0, slots := 0, locals := 25 } s m args below meth c H locs 0 0 Q (F0 m 43 ls []) := by
          intro k9
          induction k9 with
          | zero =>
            intro x7 a8 ls H locs hrk_B6 hf_B6_0 hfr_a8 ha8_r6rg hw hl
            exact False.elim (hk_no0 (0 * (x7).toInt) (om30 ((x7).toInt) hrk_B6 (hE_rng (x7))) (by simp))
          | succ k9 ih_B6 =>
            intro x7 a8 ls H locs hrk_B6 hf_B6_0 hfr_a8 ha8_r6rg hw hl
            have hrk_B6 := hk_rk hrk_B6
            refine lv_iload hx hb dX12_turn_43 (lv_at hl 4 rfl) ?_
            refine lv_aload_n hx hb dX12_turn_45 rfl (lv_at hl 0 rfl) ?_
            have e_g5_13 : g5 13 = (g 13) := ((hk_upgN h_g5 13 rfl)).trans e_g1_13
            refine hk_get (ci := 15) (C := RX12) (T := TX12) (N := 92) (v := .int (g 13)) hx hb hts (fun _ h => List.mem_cons_of_mem _ (wwMc_wsX120 _ h)) hown hw 0 rfl rfl 15 (by decide) (hq _ wM_119) (congrArg (fun z => some (Value.int z)) e_g5_13) dX12_turn_46 ?_
            refine lv_icmp_ge (tgt := 72) hx hb dX12_turn_49 (by decide) (fun cc10 => ?_) (fun cc10 => ?_)
            · refine lv_iload_n hx hb dX12_turn_72 rfl (lv_at hl 1 rfl) ?_
              refine lv_iconst (v := 1) hx hb dX12_turn_73 (by decide) ?_
              have B11 : ∀  (a12 : Nat → Nat → Int32) (ls : Array Slot) (H : Heap) (locs : List Loc), (hk_fr [6] a8 a12) → (hk_rg 0 255 (a12 6)) → hk_W D (jT cI cJ) A s H locs (mw cI cJ ad g5 lg a12 bk) → lv_has ls 5 [(0, .ref (ad 0))] → W p l e { frames := 1, cells := 0, slots := 0, locals := 25 } s m args below meth c H locs 0 0 Q (F0 m 102 ls []) := by
                intro a12 ls H locs hfr_a12 ha12_r6rg hw hl
                refine lv_iconst (v := 0) hx hb dX12_turn_102 (by decide) ?_
                refine lv_istore (lv' := [(4, .int 0), (0, .ref (ad 0))]) hx hb dX12_turn_103 hl (by decide) rfl (fun ls hl => ?_)
                have B13 : ∀ (k16 : Nat) (x14 : Int32) (a15 : Nat → Nat → Int32) (ls : Array Slot) (H : Heap) (locs : List Loc), (2147483648 - (x14).toInt ≤ (k16 : Int)) → (0 ≤ (x14).toInt) → (hk_fr [1] a12 a15) → (hk_rg 0 255 (a15 1)) → hk_W D (jT cI cJ) A s H locs (mw cI cJ ad g5 lg a15 bk) → lv_has ls 5 [(0, .ref (ad 0)), (4, .int x14)] → W p l e { frames := 1, cells := 0, slots := 0, locals := 25 } s m args below meth c H locs 0 0 Q (F0 m 105 ls []) := by
                  intro k16
                  induction k16 with
                  | zero =>
                    intro x14 a15 ls H locs hrk_B13 hf_B13_0 hfr_a15 ha15_r1rg hw hl
                    exact False.elim (hk_no0 (0 * (x14).toInt) (om30 ((x14).toInt) hrk_B13 (hE_rng (x14))) (by simp))
                  | succ k16 ih_B13 =>
                    intro x14 a15 ls H locs hrk_B13 hf_B13_0 hfr_a15 ha15_r1rg hw hl
                    have hrk_B13 := hk_rk hrk_B13
                    refine lv_iload hx hb dX12_turn_105 (lv_at hl 1 rfl) ?_
                    refine lv_aload_n hx hb dX12_turn_107 rfl (lv_at hl 0 rfl) ?_
                    refine hk_get (ci := 15) (C := RX12) (T := TX12) (N := 92) (v := .int (g 13)) hx hb hts (fun _ h => List.mem_cons_of_mem _ (wwMc_wsX120 _ h)) hown hw 0 rfl rfl 15 (by decide) (hq _ wM_119) (congrArg (fun z => some (Value.int z)) e_g5_13) dX12_turn_108 ?_
                    refine lv_icmp_ge (tgt := 134) hx hb dX12_turn_111 (by decide) (fun cc17 => ?_) (fun cc17 => ?_)
                    · refine lv_aload_n hx hb dX12_turn_134 rfl (lv_at hl 0 rfl) ?_
                      refine hk_get (ci := 15) (C := RX12) (T := TX12) (N := 92) (v := .int (g 13)) hx hb hts (fun _ h => List.mem_cons_of_mem _ (wwMc_wsX120 _ h)) hown hw 0 rfl rfl 15 (by decide) (hq _ wM_119) (congrArg (fun z => some (Value.int z)) e_g5_13) dX12_turn_135 ?_
                      have e_g5_17 : g5 17 = (g 13) := (hk_upgS h_g5)
                      exact kr (g 13) g5 lg a15 bk _ _ _ _ ⟨(hk_frG (hk_frG hk_fr0 (by decide) h_g1) (by decide) h_g5), rfl, (hk_frT (hk_frT (hk_frT hk_fr0 (by decide) hfr_a8) (by decide) hfr_a12) (by decide) hfr_a15), rfl, ha15_r1rg, (om141 ((g5 17).toInt) ((g 13).toInt) (congrArg Int32.toInt e_g5_17) hi_g13), (hk_pE (P := hk_rg 0 255) ha12_r6rg (hfr_a15 6 rfl))⟩ hw dX12_turn_138
                    · refine lv_aload_n hx hb dX12_turn_114 rfl (lv_at hl 0 rfl) ?_
                      refine hk_get (ci := 15) (C := RX12) (T := TX12) (N := 92) (v := .ref (ad 2)) hx hb hts (fun _ h => List.mem_cons_of_mem _ (wwMc_wsX120 _ h)) hown hw 0 rfl rfl 14 (by decide) (hq _ wM_120) rfl dX12_turn_115 ?_
                      refine lv_iload hx hb dX12_turn_118 (lv_at hl 1 rfl) ?_
                      refine lv_aload_n hx hb dX12_turn_120 rfl (lv_at hl 0 rfl) ?_
                      refine hk_get (ci := 15) (C := RX12) (T := TX12) (N := 92) (v := .ref (ad 7)) hx hb hts (fun _ h => List.mem_cons_of_mem _ (wwMc_wsX120 _ h)) hown hw 0 rfl rfl 25 (by decide) (hq _ wM_110) rfl dX12_turn_121 ?_
                      refine lv_iload hx hb dX12_turn_124 (lv_at hl 1 rfl) ?_
                      refine jx_iald hx hb hw 7 0 rfl rfl (hE_in (n := 3000) (om105 ((x14).toInt) ((g 13).toInt) hf_B13_0 (hE_nle cc17) hi_g13)) dX12_turn_126 (fun z18 hz18 => ?_)
                      refine jx_iast mw (cI := cI) (cJ := cJ) (ad := ad) (g := g5) (lg := lg) (ar := a15) (bk := bk) 1 hx hb hw 2 0 rfl rfl (hE_in (n := 3000) (om105 ((x14).toInt) ((g 13).toInt) hf_B13_0 (hE_nle cc17) hi_g13)) dX12_turn_127 rfl (fun H locs a19 h_a19 hw => ?_)
                      have hr20 : hk_rg 0 255 (a19 6) := (hk_pE (P := hk_rg 0 255) (hk_pE (P := hk_rg 0 255) ha12_r6rg (hfr_a15 6 rfl)) (hk_upaN h_a19 6 rfl))
                      have hr21 : hk_rg 0 255 (a19 1) := (hk_rgS h_a19 ha15_r1rg (om34 ((z18).toInt) (hk_rgV (hk_pE (P := hk_rg 0 255) ha12_r6rg (hfr_a15 6 rfl)) hz18)))
                      obtain ⟨z22, hz22⟩ : ∃ z : Int32, x14 + 1 = z := ⟨_, rfl⟩
                      refine lv_iinc (v := z22) (lv' := [(4, .int z22), (0, .ref (ad 0))]) hx hb dX12_turn_128 hl (k := 1) rfl hz22 (by decide) rfl (fun ls hl => ?_)
                      have xz22 : (z22).toInt = (x14).toInt + ((1 : Int32)).toInt := (hE_imp (hE_add hz22) (om106 ((x14).toInt) (((1 : Int32)).toInt) ((g 13).toInt) hf_B13_0 (hE_nle cc17) hi_g13 (by decide)))
                      refine lv_goto (tgt := 105) hx hb dX12_turn_131 (by decide) ?_
                      exact ih_B13 z22 a19 ls _ _ (om11 ((z22).toInt) (k16 : Int) ((x14).toInt) (((1 : Int32)).toInt) hrk_B13 xz22 (by decide)) (om14 ((z22).toInt) ((x14).toInt) (((1 : Int32)).toInt) xz22 hf_B13_0 (by decide)) (hk_frA hfr_a15 (by decide) h_a19) hr21 hw (lv_sub hl [1, 0] rfl)
                exact B13 (2147483648 - ((0 : Int32)).toInt).toNat 0 a12 ls _ _ (Int.self_le_toNat _) (om18 (((0 : Int32)).toInt) (by decide)) hk_fr0 (hk_pE (P := hk_rg 0 255) (hk_pE (P := hk_rg 0 255) hi_a1rg (hfr_a8 1 rfl)) (hfr_a12 1 rfl)) hw (lv_sub hl [1, 0] rfl)
              refine lv_icmp_ne (tgt := 85) hx hb dX12_turn_74 (by decide) (fun cc23 => ?_) (fun cc23 => ?_)
              · refine lv_iload_n hx hb dX12_turn_85 rfl (lv_at hl 3 rfl) ?_
                refine lv_if_eq (tgt := 97) hx hb dX12_turn_86 (by decide) (fun cc24 => ?_) (fun cc24 => ?_)
                · refine lv_aload_n hx hb dX12_turn_97 rfl (lv_at hl 0 rfl) ?_
                  refine lv_iload_n hx hb dX12_turn_98 rfl (lv_at hl 2 rfl) ?_
                  have e_g5_17 : g5 17 = (g 13) := (hk_upgS h_g5)
                  refine jx_Vv (As := [.int y2]) (rest := []) ⟨hx, hb, hml, hown, hts⟩ hZ hw hA (jm_X12_deltaAway l hlt D t3 cI cJ ad g5 lg a8 bk _ y2 (om142 ((y2).toInt) ((y1).toInt) (((1 : Int32)).toInt) hf_B4_0 (hE_nlt cc3) (hE_ne cc23) (by decide)) (om141 ((g5 17).toInt) ((g 13).toInt) (congrArg Int32.toInt e_g5_17) hi_g13) ha8_r6rg) (cwV 1 hts (jx_gV wwM_good wM_357 wM_358 wM_359 wM_8 wM_360) rfl rfl rfl (by decide +kernel) ⟨Nat.le_of_ble_eq_true rfl, Nat.le_of_ble_eq_true rfl⟩) 0 (ci := 15) (T := TX12) (N := 92) rfl rfl rfl hl.1 rfl (Nat.le_of_ble_eq_true rfl) dX12_turn_99 ⟨Nat.le_of_ble_eq_true rfl, Nat.le_of_ble_eq_true rfl⟩ (fun _ _ _ _ _ _ _ _ hp _ _ _ _ => hp.elim) (fun g30 l31 a32 b33 H locs hp34 hw => ?_)
                  obtain ⟨rfl, rfl, h37, rfl, h39⟩ := hp34
                  have hr40 : hk_rg 0 255 (a32 1) := (hk_pE (P := hk_rg 0 255) (hk_pE (P := hk_rg 0 255) hi_a1rg (hfr_a8 1 rfl)) (h37 1 rfl))
                  exact B11 a32 ls _ _ h37 h39 hw (lv_sub hl [0] rfl)
                · refine lv_aload_n hx hb dX12_turn_89 rfl (lv_at hl 0 rfl) ?_
                  refine lv_iload_n hx hb dX12_turn_90 rfl (lv_at hl 2 rfl) ?_
                  have e_g5_17 : g5 17 = (g 13) := (hk_upgS h_g5)
                  refine jx_Vv (As := [.int y2]) (rest := []) ⟨hx, hb, hml, hown, hts⟩ hZ hw hA (jm_X12_deltaBack l hlt D t3 cI cJ ad g5 lg a8 bk _ y2 (om142 ((y2).toInt) ((y1).toInt) (((1 : Int32)).toInt) hf_B4_0 (hE_nlt cc3) (hE_ne cc23) (by decide)) (om141 ((g5 17).toInt) ((g 13).toInt) (congrArg Int32.toInt e_g5_17) hi_g13) ha8_r6rg) (cwV 1 hts (jx_gV wwM_good wM_295 wM_296 wM_297 wM_8 wM_298) rfl rfl rfl (by decide +kernel) ⟨Nat.le_of_ble_eq_true rfl, Nat.le_of_ble_eq_true rfl⟩) 0 (ci := 15) (T := TX12) (N := 92) rfl rfl rfl hl.1 rfl (Nat.le_of_ble_eq_true rfl) dX12_turn_91 ⟨Nat.le_of_ble_eq_true rfl, Nat.le_of_ble_eq_true rfl⟩ (fun _ _ _ _ _ _ _ _ hp _ _ _ _ => hp.elim) (fun g46 l47 a48 b49 H locs hp50 hw => ?_)
                  obtain ⟨rfl, rfl, h53, rfl, h55⟩ := hp50
                  have hr56 : hk_rg 0 255 (a48 1) := (hk_pE (P := hk_rg 0 255) (hk_pE (P := hk_rg 0 255) hi_a1rg (hfr_a8 1 rfl)) (h53 1 rfl))
                  refine lv_goto (tgt := 102) hx hb dX12_turn_94 (by decide) ?_
                  exact B11 a48 ls _ _ h53 h55 hw (lv_sub hl [0] rfl)
              · refine lv_aload_n hx hb dX12_turn_77 rfl (lv_at hl 0 rfl) ?_
                refine lv_iload_n hx hb dX12_turn_78 rfl (lv_at hl 3 rfl) ?_
                have e_g5_17 : g5 17 = (g 13) := (hk_upgS h_g5)
                refine jx_Vv (As := [.int y3]) (rest := []) ⟨hx, hb, hml, hown, hts⟩ hZ hw hA (jm_X12_branchTurn l hlt D t3 cI cJ ad g5 lg a8 bk _ y3 (om141 ((g5 17).toInt) ((g 13).toInt) (congrArg Int32.toInt e_g5_17) hi_g13) ha8_r6rg) (cwV 1 hts (jx_gV wwM_good wM_299 wM_300 wM_301 wM_8 wM_302) rfl rfl rfl (by decide +kernel) ⟨Nat.le_of_ble_eq_true rfl, Nat.le_of_ble_eq_true rfl⟩) 0 (ci := 15) (T := TX12) (N := 92) rfl rfl rfl hl.1 rfl (Nat.le_of_ble_eq_true rfl) dX12_turn_79 ⟨Nat.le_of_ble_eq_true rfl, Nat.le_of_ble_eq_true rfl⟩ (fun _ _ _ _ _ _ _ _ hp _ _ _ _ => hp.elim) (fun g62 l63 a64 b65 H locs hp66 hw => ?_)
                obtain ⟨rfl, rfl, h69, rfl, h71⟩ := hp66
                have hr72 : hk_rg 0 255 (a64 1) := (hk_pE (P := hk_rg 0 255) (hk_pE (P := hk_rg 0 255) hi_a1rg (hfr_a8 1 rfl)) (h69 1 rfl))
                refine lv_goto (tgt := 102) hx hb dX12_turn_82 (by decide) ?_
                exact B11 a64 ls _ _ h69 h71 hw (lv_sub hl [0] rfl)
            · refine lv_aload_n hx hb dX12_turn_52 rfl (lv_at hl 0 rfl) ?_
              refine hk_get (ci := 15) (C := RX12) (T := TX12) (N := 92) (v := .ref (ad 7)) hx hb hts (fun _ h => List.mem_cons_of_mem _ (wwMc_wsX120 _ h)) hown hw 0 rfl rfl 25 (by decide) (hq _ wM_110) rfl dX12_turn_53 ?_
              refine lv_iload hx hb dX12_turn_56 (lv_at hl 4 rfl) ?_
              refine lv_aload_n hx hb dX12_turn_58 rfl (lv_at hl 0 rfl) ?_
              refine hk_get (ci := 15) (C := RX12) (T := TX12) (N := 92) (v := .ref (ad 2)) hx hb hts (fun _ h => List.mem_cons_of_mem _ (wwMc_wsX120 _ h)) hown hw 0 rfl rfl 14 (by decide) (hq _ wM_120) rfl dX12_turn_59 ?_
              refine lv_iload hx hb dX12_turn_62 (lv_at hl 4 rfl) ?_
              refine jx_iald hx hb hw 2 0 rfl rfl (hE_in (n := 3000) (om105 ((x7).toInt) ((g 13).toInt) hf_B6_0 (hE_nle cc10) hi_g13)) dX12_turn_64 (fun z73 hz73 => ?_)
              refine jx_iast mw (cI := cI) (cJ := cJ) (ad := ad) (g := g5) (lg := lg) (ar := a8) (bk := bk) 6 hx hb hw 7 0 rfl rfl (hE_in (n := 3000) (om105 ((x7).toInt) ((g 13).toInt) hf_B6_0 (hE_nle cc10) hi_g13)) dX12_turn_65 rfl (fun H locs a74 h_a74 hw => ?_)
              have hr75 : hk_rg 0 255 (a74 1) := (hk_pE (P := hk_rg 0 255) (hk_pE (P := hk_rg 0 255) hi_a1rg (hfr_a8 1 rfl)) (hk_upaN h_a74 1 rfl))
              have hr76 : hk_rg 0 255 (a74 6) := (hk_rgS h_a74 ha8_r6rg (om34 ((z73).toInt) (hk_rgV (hk_pE (P := hk_rg 0 255) hi_a1rg (hfr_a8 1 rfl)) hz73)))
              obtain ⟨z77, hz77⟩ : ∃ z : Int32, x7 + 1 = z := ⟨_, rfl⟩
              refine lv_iinc (v := z77) (lv' := [(4, .int z77), (0, .ref (ad 0)), (1, .int y1), (2, .int y2), (3, .int y3)]) hx hb dX12_turn_66 hl (k := 4) rfl hz77 (by decide) rfl (fun ls hl => ?_)
              have xz77 : (z77).toInt = (x7).toInt + ((1 : Int32)).toInt := (hE_imp (hE_add hz77) (om106 ((x7).toInt) (((1 : Int32)).toInt) ((g 13).toInt) hf_B6_0 (hE_nle cc10) hi_g13 (by decide)))
              refine lv_goto (tgt := 43) hx hb dX12_turn_69 (by decide) ?_
              exact ih_B6 z77 a74 ls _ _ (om11 ((z77).toInt) (k9 : Int) ((x7).toInt) (((1 : Int32)).toInt) hrk_B6 xz77 (by decide)) (om14 ((z77).toInt) ((x7).toInt) (((1 : Int32)).toInt) xz77 hf_B6_0 (by decide)) (hk_frA hfr_a8 (by decide) h_a74) hr76 hw (lv_sub hl [1, 2, 3, 4, 0] rfl)
        exact B6 (2147483648 - ((0 : Int32)).toInt).toNat 0 ar ls _ _ (Int.self_le_toNat _) (om18 (((0 : Int32)).toInt) (by decide)) hk_fr0 hi_a6rg hw (lv_sub hl [1, 2, 3, 4, 0] rfl)
      refine lv_if_ne (tgt := 32) hx hb dX12_turn_15 (by decide) (fun cc78 => ?_) (fun cc78 => ?_)
      · exact B4 ls _ _ (om143 ((y1).toInt) ((y2).toInt) (((0 : Int32)).toInt) (((1 : Int32)).toInt) (hE_nlt cc2) (hE_nlt cc3) (hE_ne cc78) (by decide) (by decide)) hw (lv_sub hl [0, 1, 2, 3] rfl)
      · refine lv_iload_n hx hb dX12_turn_18 rfl (lv_at hl 2 rfl) ?_
        refine lv_iconst (v := 1) hx hb dX12_turn_19 (by decide) ?_
        refine lv_icmp_lt (tgt := 30) hx hb dX12_turn_20 (by decide) (fun cc79 => ?_) (fun cc79 => ?_)
        · refine lv_iconst (v := (-1)) hx hb dX12_turn_30 (by decide) ?_
          have e_g1_17 : g1 17 = (g 17) := (hk_upgN h_g1 17 rfl)
          exact kr (-1) g1 lg ar bk _ _ _ _ ⟨(hk_frG hk_fr0 (by decide) h_g1), rfl, hk_fr0, rfl, hi_a1rg, (om141 ((g1 17).toInt) ((g 17).toInt) (congrArg Int32.toInt e_g1_17) hi_g17), hi_a6rg⟩ hw dX12_turn_31
        · refine lv_iload_n hx hb dX12_turn_23 rfl (lv_at hl 2 rfl) ?_
          refine lv_sipush (v := 256) hx hb dX12_turn_24 (by decide) ?_
          refine lv_icmp_le (tgt := 32) hx hb dX12_turn_27 (by decide) (fun cc80 => ?_) (fun cc80 => ?_)
          · exact B4 ls _ _ (om144 ((y1).toInt) ((y2).toInt) (((1 : Int32)).toInt) (hE_nlt cc79) (by decide)) hw (lv_sub hl [0, 1, 2, 3] rfl)
          · refine lv_iconst (v := (-1)) hx hb dX12_turn_30 (by decide) ?_
            have e_g1_17 : g1 17 = (g 17) := (hk_upgN h_g1 17 rfl)
            exact kr (-1) g1 lg ar bk _ _ _ _ ⟨(hk_frG hk_fr0 (by decide) h_g1), rfl, hk_fr0, rfl, hi_a1rg, (om141 ((g1 17).toInt) ((g 17).toInt) (congrArg Int32.toInt e_g1_17) hi_g17), hi_a6rg⟩ hw dX12_turn_31

set_option maxHeartbeats 4000000 in
set_option maxRecDepth 100000 in
/-- X12_addStep on (0,) -/
theorem jm_X12_addStep (l : Launch) (hlt : l.stackTraces = false) (D : va_G) (t3 : Nat × Nat × Nat) (cI cJ : ClassId) (ad : Nat → Nat) (g : Nat → Int32) (lg : Nat → Int64) (ar : Nat → Nat → Int32) (bk : Nat → Int64) (sz : Nat) (y1 : Int32) (y2 : Int32) (y3 : Int32) (y4 : Int32) (hr0 : 0 ≤ (g 18).toInt ∧ (g 18).toInt ≤ 100000) : JMv l yX12_addStep (Cond.code yX12_addStep cX12_addStep 5 none :: wwM) { frames := 0, cells := 0, slots := 0, locals := 0 } t3 D mw cI cJ ad [.ref (ad 0), .int y1, .int y2, .int y3, .int y4] (mw cI cJ ad g lg ar bk) sz 0 0 (fun g' lg' ar' bk' => hk_fr [18] g g' ∧ lg = lg' ∧ hk_fr [7, 8, 9, 10] ar ar' ∧ bk = bk' ∧ ((g' 18).toInt = (g 18).toInt + 1)) (fun g' lg' ar' bk' => False) := by
  refine jx_metv (cc := cX12_addStep) (maxL := 5) (ret := none) rfl (by decide) rfl (Nat.le_of_ble_eq_true rfl) ?_
  intro p e s m args below meth c ls Q A hx hb hml hown hts hA hZ hw hl hQ kr kt
  have hq : ∀ w ∈ wwM, w.before args s = true := fun w h => hts w (List.mem_cons_of_mem _ h)
  have hl : lv_has ls 5 [(0, .ref (ad 0)), (1, .int y1), (2, .int y2), (3, .int y3), (4, .int y4)] := hl
  refine lv_aload_n hx hb dX12_addStep_0 rfl (lv_at hl 0 rfl) ?_
  refine hk_get (ci := 15) (C := RX12) (T := TX12) (N := 92) (v := .int (g 18)) hx hb hts (fun _ h => List.mem_cons_of_mem _ (wwMc_wsX120 _ h)) hown hw 0 rfl rfl 27 (by decide) (hq _ wM_26) rfl dX12_addStep_1 ?_
  refine lv_sipush (v := 2000) hx hb dX12_addStep_4 (by decide) ?_
  have B1 : ∀  (a2 : Nat → Nat → Int32) (ls : Array Slot) (H : Heap) (locs : List Loc), (hk_fr [7, 8, 9, 10] ar a2) → hk_W D (jT cI cJ) A s H locs (mw cI cJ ad g lg a2 bk) → lv_has ls 5 [(0, .ref (ad 0))] → W p l e { frames := 0, cells := 0, slots := 0, locals := 0 } s m args below meth c H locs 0 0 Q (F0 m 51 ls []) := by
    intro a2 ls H locs hfr_a2 hw hl
    refine lv_aload_n hx hb dX12_addStep_51 rfl (lv_at hl 0 rfl) ?_
    refine lv_dup hx hb dX12_addStep_52 rfl ?_
    refine hk_get (ci := 15) (C := RX12) (T := TX12) (N := 92) (v := .int (g 18)) hx hb hts (fun _ h => List.mem_cons_of_mem _ (wwMc_wsX120 _ h)) hown hw 0 rfl rfl 27 (by decide) (hq _ wM_26) rfl dX12_addStep_53 ?_
    refine lv_iconst (v := 1) hx hb dX12_addStep_56 (by decide) ?_
    refine lv_iadd hx hb dX12_addStep_57 (jx_nm fun z3 hz3 => ?_)
    have xz3 : (z3).toInt = (g 18).toInt + ((1 : Int32)).toInt := (hE_imp (hE_add hz3) (om145 ((g 18).toInt) (((1 : Int32)).toInt) hr0 (by decide)))
    refine jx_putg mw (cI := cI) (cJ := cJ) (ad := ad) (g := g) (lg := lg) (ar := a2) (bk := bk) (x := z3) 18 (ci := 15) (C := RX12) (T := TX12) (N := 92) (ty := .int) hx hb hts (fun _ h => List.mem_cons_of_mem _ (wwMc_wsX120 _ h)) tyX12 tyX12_ok nmX12 hown hw 0 rfl rfl 27 (by decide) (hq _ wM_26) rfl (by decide +kernel) rfl rfl (Nat.le_of_ble_eq_true rfl) dX12_addStep_58 rfl (fun H locs g4 h_g4 hw => ?_)
    have e_g4_18 : g4 18 = z3 := (hk_upgS h_g4)
    exact kr g4 lg a2 bk _ _ _ _ ⟨(hk_frG hk_fr0 (by decide) h_g4), rfl, hfr_a2, rfl, (om146 ((g4 18).toInt) ((g 18).toInt) ((z3).toInt) (((1 : Int32)).toInt) xz3 (congrArg Int32.toInt e_g4_18) (by decide))⟩ hw dX12_addStep_61
  refine lv_icmp_ge (tgt := 51) hx hb dX12_addStep_7 (by decide) (fun cc5 => ?_) (fun cc5 => ?_)
  · exact B1 ar ls _ _ hk_fr0 hw (lv_sub hl [0] rfl)
  · refine lv_aload_n hx hb dX12_addStep_10 rfl (lv_at hl 0 rfl) ?_
    refine hk_get (ci := 15) (C := RX12) (T := TX12) (N := 92) (v := .ref (ad 8)) hx hb hts (fun _ h => List.mem_cons_of_mem _ (wwMc_wsX120 _ h)) hown hw 0 rfl rfl 28 (by decide) (hq _ wM_27) rfl dX12_addStep_11 ?_
    refine lv_aload_n hx hb dX12_addStep_14 rfl (lv_at hl 0 rfl) ?_
    refine hk_get (ci := 15) (C := RX12) (T := TX12) (N := 92) (v := .int (g 18)) hx hb hts (fun _ h => List.mem_cons_of_mem _ (wwMc_wsX120 _ h)) hown hw 0 rfl rfl 27 (by decide) (hq _ wM_26) rfl dX12_addStep_15 ?_
    refine lv_iload_n hx hb dX12_addStep_18 rfl (lv_at hl 1 rfl) ?_
    refine jx_iast mw (cI := cI) (cJ := cJ) (ad := ad) (g := g) (lg := lg) (ar := ar) (bk := bk) 7 hx hb hw 8 0 rfl rfl (hE_in (n := 2000) (om147 ((g 18).toInt) (((2000 : Int32)).toInt) hr0 (hE_nle cc5) (by decide))) dX12_addStep_19 rfl (fun H locs a6 h_a6 hw => ?_)
    refine lv_aload_n hx hb dX12_addStep_20 rfl (lv_at hl 0 rfl) ?_
    refine hk_get (ci := 15) (C := RX12) (T := TX12) (N := 92) (v := .ref (ad 9)) hx hb hts (fun _ h => List.mem_cons_of_mem _ (wwMc_wsX120 _ h)) hown hw 0 rfl rfl 29 (by decide) (hq _ wM_28) rfl dX12_addStep_21 ?_
    refine lv_aload_n hx hb dX12_addStep_24 rfl (lv_at hl 0 rfl) ?_
    refine hk_get (ci := 15) (C := RX12) (T := TX12) (N := 92) (v := .int (g 18)) hx hb hts (fun _ h => List.mem_cons_of_mem _ (wwMc_wsX120 _ h)) hown hw 0 rfl rfl 27 (by decide) (hq _ wM_26) rfl dX12_addStep_25 ?_
    refine lv_iload_n hx hb dX12_addStep_28 rfl (lv_at hl 2 rfl) ?_
    refine jx_iast mw (cI := cI) (cJ := cJ) (ad := ad) (g := g) (lg := lg) (ar := a6) (bk := bk) 8 hx hb hw 9 0 rfl rfl (hE_in (n := 2000) (om147 ((g 18).toInt) (((2000 : Int32)).toInt) hr0 (hE_nle cc5) (by decide))) dX12_addStep_29 rfl (fun H locs a7 h_a7 hw => ?_)
    refine lv_aload_n hx hb dX12_addStep_30 rfl (lv_at hl 0 rfl) ?_
    refine hk_get (ci := 15) (C := RX12) (T := TX12) (N := 92) (v := .ref (ad 10)) hx hb hts (fun _ h => List.mem_cons_of_mem _ (wwMc_wsX120 _ h)) hown hw 0 rfl rfl 30 (by decide) (hq _ wM_29) rfl dX12_addStep_31 ?_
    refine lv_aload_n hx hb dX12_addStep_34 rfl (lv_at hl 0 rfl) ?_
    refine hk_get (ci := 15) (C := RX12) (T := TX12) (N := 92) (v := .int (g 18)) hx hb hts (fun _ h => List.mem_cons_of_mem _ (wwMc_wsX120 _ h)) hown hw 0 rfl rfl 27 (by decide) (hq _ wM_26) rfl dX12_addStep_35 ?_
    refine lv_iload_n hx hb dX12_addStep_38 rfl (lv_at hl 3 rfl) ?_
    refine jx_iast mw (cI := cI) (cJ := cJ) (ad := ad) (g := g) (lg := lg) (ar := a7) (bk := bk) 9 hx hb hw 10 0 rfl rfl (hE_in (n := 2000) (om147 ((g 18).toInt) (((2000 : Int32)).toInt) hr0 (hE_nle cc5) (by decide))) dX12_addStep_39 rfl (fun H locs a8 h_a8 hw => ?_)
    refine lv_aload_n hx hb dX12_addStep_40 rfl (lv_at hl 0 rfl) ?_
    refine hk_get (ci := 15) (C := RX12) (T := TX12) (N := 92) (v := .ref (ad 11)) hx hb hts (fun _ h => List.mem_cons_of_mem _ (wwMc_wsX120 _ h)) hown hw 0 rfl rfl 31 (by decide) (hq _ wM_30) rfl dX12_addStep_41 ?_
    refine lv_aload_n hx hb dX12_addStep_44 rfl (lv_at hl 0 rfl) ?_
    refine hk_get (ci := 15) (C := RX12) (T := TX12) (N := 92) (v := .int (g 18)) hx hb hts (fun _ h => List.mem_cons_of_mem _ (wwMc_wsX120 _ h)) hown hw 0 rfl rfl 27 (by decide) (hq _ wM_26) rfl dX12_addStep_45 ?_
    refine lv_iload hx hb dX12_addStep_48 (lv_at hl 4 rfl) ?_
    refine jx_iast mw (cI := cI) (cJ := cJ) (ad := ad) (g := g) (lg := lg) (ar := a8) (bk := bk) 10 hx hb hw 11 0 rfl rfl (hE_in (n := 2000) (om147 ((g 18).toInt) (((2000 : Int32)).toInt) hr0 (hE_nle cc5) (by decide))) dX12_addStep_50 rfl (fun H locs a9 h_a9 hw => ?_)
    exact B1 a9 ls _ _ (hk_frA (hk_frA (hk_frA (hk_frA hk_fr0 (by decide) h_a6) (by decide) h_a7) (by decide) h_a8) (by decide) h_a9) hw (lv_sub hl [0] rfl)

set_option maxHeartbeats 4000000 in
set_option maxRecDepth 100000 in
/-- X12_step on (0,) -/
theorem jm_X12_step (l : Launch) (hlt : l.stackTraces = false) (D : va_G) (t3 : Nat × Nat × Nat) (cI cJ : ClassId) (ad : Nat → Nat) (g : Nat → Int32) (lg : Nat → Int64) (ar : Nat → Nat → Int32) (bk : Nat → Int64) (sz : Nat) (y1 : Int32) (y2 : Int32) : JMi l yX12_step (Cond.code yX12_step cX12_step 3 (some .int) :: wwM) { frames := 0, cells := 0, slots := 0, locals := 0 } t3 D mw cI cJ ad [.ref (ad 0), .int y1, .int y2] (mw cI cJ ad g lg ar bk) sz 0 0 (fun (r : Int32) g' lg' ar' bk' => hk_fr [1] g g' ∧ lg = lg' ∧ ar = ar' ∧ bk = bk') (fun g' lg' ar' bk' => False) := by
  refine jx_meti (cc := cX12_step) (maxL := 3) (ret := (some .int)) rfl (by decide) rfl (Nat.le_of_ble_eq_true rfl) ?_
  intro p e s m args below meth c ls Q A hx hb hml hown hts hA hZ hw hl hQ kr kt
  have hq : ∀ w ∈ wwM, w.before args s = true := fun w h => hts w (List.mem_cons_of_mem _ h)
  have hl : lv_has ls 3 [(0, .ref (ad 0)), (1, .int y1), (2, .int y2)] := hl
  refine lv_aload_n hx hb dX12_step_0 rfl (lv_at hl 0 rfl) ?_
  refine lv_iconst (v := 0) hx hb dX12_step_1 (by decide) ?_
  refine jx_putg mw (cI := cI) (cJ := cJ) (ad := ad) (g := g) (lg := lg) (ar := ar) (bk := bk) (x := 0) 1 (ci := 15) (C := RX12) (T := TX12) (N := 92) (ty := .int) hx hb hts (fun _ h => List.mem_cons_of_mem _ (wwMc_wsX120 _ h)) tyX12 tyX12_ok nmX12 hown hw 0 rfl rfl 1 (by decide) (hq _ wM_103) rfl (by decide +kernel) rfl rfl (Nat.le_of_ble_eq_true rfl) dX12_step_2 rfl (fun H locs g1 h_g1 hw => ?_)
  refine lv_iload_n hx hb dX12_step_5 rfl (lv_at hl 1 rfl) ?_
  refine lv_iconst (v := (-1)) hx hb dX12_step_6 (by decide) ?_
  have B2 : ∀  (ls : Array Slot) (H : Heap) (locs : List Loc), hk_W D (jT cI cJ) A s H locs (mw cI cJ ad g1 lg ar bk) → lv_has ls 3 [(0, .ref (ad 0)), (1, .int y1), (2, .int y2)] → W p l e { frames := 0, cells := 0, slots := 0, locals := 0 } s m args below meth c H locs 0 0 Q (F0 m 19 ls []) := by
    intro ls H locs hw hl
    refine lv_iload_n hx hb dX12_step_19 rfl (lv_at hl 1 rfl) ?_
    refine lv_if_lt (tgt := 47) hx hb dX12_step_20 (by decide) (fun cc3 => ?_) (fun cc3 => ?_)
    · refine lv_iconst (v := (-1)) hx hb dX12_step_47 (by decide) ?_
      exact kr (-1) g1 lg ar bk _ _ _ _ ⟨(hk_frG hk_fr0 (by decide) h_g1), rfl, rfl, rfl⟩ hw dX12_step_48
    · refine lv_iload_n hx hb dX12_step_23 rfl (lv_at hl 1 rfl) ?_
      refine lv_aload_n hx hb dX12_step_24 rfl (lv_at hl 0 rfl) ?_
      have e_g1_18 : g1 18 = (g 18) := (hk_upgN h_g1 18 rfl)
      refine hk_get (ci := 15) (C := RX12) (T := TX12) (N := 92) (v := .int (g 18)) hx hb hts (fun _ h => List.mem_cons_of_mem _ (wwMc_wsX120 _ h)) hown hw 0 rfl rfl 27 (by decide) (hq _ wM_26) (congrArg (fun z => some (Value.int z)) e_g1_18) dX12_step_25 ?_
      refine lv_icmp_ge (tgt := 47) hx hb dX12_step_28 (by decide) (fun cc4 => ?_) (fun cc4 => ?_)
      · refine lv_iconst (v := (-1)) hx hb dX12_step_47 (by decide) ?_
        exact kr (-1) g1 lg ar bk _ _ _ _ ⟨(hk_frG hk_fr0 (by decide) h_g1), rfl, rfl, rfl⟩ hw dX12_step_48
      · refine lv_iload_n hx hb dX12_step_31 rfl (lv_at hl 1 rfl) ?_
        refine lv_sipush (v := 2000) hx hb dX12_step_32 (by decide) ?_
        refine lv_icmp_ge (tgt := 47) hx hb dX12_step_35 (by decide) (fun cc5 => ?_) (fun cc5 => ?_)
        · refine lv_iconst (v := (-1)) hx hb dX12_step_47 (by decide) ?_
          exact kr (-1) g1 lg ar bk _ _ _ _ ⟨(hk_frG hk_fr0 (by decide) h_g1), rfl, rfl, rfl⟩ hw dX12_step_48
        · refine lv_iload_n hx hb dX12_step_38 rfl (lv_at hl 2 rfl) ?_
          refine lv_if_lt (tgt := 47) hx hb dX12_step_39 (by decide) (fun cc6 => ?_) (fun cc6 => ?_)
          · refine lv_iconst (v := (-1)) hx hb dX12_step_47 (by decide) ?_
            exact kr (-1) g1 lg ar bk _ _ _ _ ⟨(hk_frG hk_fr0 (by decide) h_g1), rfl, rfl, rfl⟩ hw dX12_step_48
          · refine lv_iload_n hx hb dX12_step_42 rfl (lv_at hl 2 rfl) ?_
            refine lv_iconst (v := 3) hx hb dX12_step_43 (by decide) ?_
            refine lv_icmp_le (tgt := 49) hx hb dX12_step_44 (by decide) (fun cc7 => ?_) (fun cc7 => ?_)
            · refine lv_iload_n hx hb dX12_step_49 rfl (lv_at hl 2 rfl) ?_
              refine lv_if_ne (tgt := 62) hx hb dX12_step_50 (by decide) (fun cc8 => ?_) (fun cc8 => ?_)
              · refine lv_iload_n hx hb dX12_step_62 rfl (lv_at hl 2 rfl) ?_
                refine lv_iconst (v := 1) hx hb dX12_step_63 (by decide) ?_
                refine lv_icmp_ne (tgt := 76) hx hb dX12_step_64 (by decide) (fun cc9 => ?_) (fun cc9 => ?_)
                · refine lv_iload_n hx hb dX12_step_76 rfl (lv_at hl 2 rfl) ?_
                  refine lv_iconst (v := 2) hx hb dX12_step_77 (by decide) ?_
                  refine lv_icmp_ne (tgt := 90) hx hb dX12_step_78 (by decide) (fun cc10 => ?_) (fun cc10 => ?_)
                  · refine lv_aload_n hx hb dX12_step_90 rfl (lv_at hl 0 rfl) ?_
                    refine hk_get (ci := 15) (C := RX12) (T := TX12) (N := 92) (v := .ref (ad 11)) hx hb hts (fun _ h => List.mem_cons_of_mem _ (wwMc_wsX120 _ h)) hown hw 0 rfl rfl 31 (by decide) (hq _ wM_30) rfl dX12_step_91 ?_
                    refine lv_iload_n hx hb dX12_step_94 rfl (lv_at hl 1 rfl) ?_
                    refine jx_iald hx hb hw 11 0 rfl rfl (hE_in (n := 2000) (om148 ((y1).toInt) (((0 : Int32)).toInt) (((2000 : Int32)).toInt) (hE_nlt cc3) (hE_nle cc5) (by decide) (by decide))) dX12_step_95 (fun z11 hz11 => ?_)
                    exact kr z11 g1 lg ar bk _ _ _ _ ⟨(hk_frG hk_fr0 (by decide) h_g1), rfl, rfl, rfl⟩ hw dX12_step_96
                  · refine lv_aload_n hx hb dX12_step_81 rfl (lv_at hl 0 rfl) ?_
                    refine hk_get (ci := 15) (C := RX12) (T := TX12) (N := 92) (v := .ref (ad 10)) hx hb hts (fun _ h => List.mem_cons_of_mem _ (wwMc_wsX120 _ h)) hown hw 0 rfl rfl 30 (by decide) (hq _ wM_29) rfl dX12_step_82 ?_
                    refine lv_iload_n hx hb dX12_step_85 rfl (lv_at hl 1 rfl) ?_
                    refine jx_iald hx hb hw 10 0 rfl rfl (hE_in (n := 2000) (om148 ((y1).toInt) (((0 : Int32)).toInt) (((2000 : Int32)).toInt) (hE_nlt cc3) (hE_nle cc5) (by decide) (by decide))) dX12_step_86 (fun z12 hz12 => ?_)
                    refine lv_goto (tgt := 96) hx hb dX12_step_87 (by decide) ?_
                    exact kr z12 g1 lg ar bk _ _ _ _ ⟨(hk_frG hk_fr0 (by decide) h_g1), rfl, rfl, rfl⟩ hw dX12_step_96
                · refine lv_aload_n hx hb dX12_step_67 rfl (lv_at hl 0 rfl) ?_
                  refine hk_get (ci := 15) (C := RX12) (T := TX12) (N := 92) (v := .ref (ad 9)) hx hb hts (fun _ h => List.mem_cons_of_mem _ (wwMc_wsX120 _ h)) hown hw 0 rfl rfl 29 (by decide) (hq _ wM_28) rfl dX12_step_68 ?_
                  refine lv_iload_n hx hb dX12_step_71 rfl (lv_at hl 1 rfl) ?_
                  refine jx_iald hx hb hw 9 0 rfl rfl (hE_in (n := 2000) (om148 ((y1).toInt) (((0 : Int32)).toInt) (((2000 : Int32)).toInt) (hE_nlt cc3) (hE_nle cc5) (by decide) (by decide))) dX12_step_72 (fun z13 hz13 => ?_)
                  refine lv_goto (tgt := 96) hx hb dX12_step_73 (by decide) ?_
                  exact kr z13 g1 lg ar bk _ _ _ _ ⟨(hk_frG hk_fr0 (by decide) h_g1), rfl, rfl, rfl⟩ hw dX12_step_96
              · refine lv_aload_n hx hb dX12_step_53 rfl (lv_at hl 0 rfl) ?_
                refine hk_get (ci := 15) (C := RX12) (T := TX12) (N := 92) (v := .ref (ad 8)) hx hb hts (fun _ h => List.mem_cons_of_mem _ (wwMc_wsX120 _ h)) hown hw 0 rfl rfl 28 (by decide) (hq _ wM_27) rfl dX12_step_54 ?_
                refine lv_iload_n hx hb dX12_step_57 rfl (lv_at hl 1 rfl) ?_
                refine jx_iald hx hb hw 8 0 rfl rfl (hE_in (n := 2000) (om148 ((y1).toInt) (((0 : Int32)).toInt) (((2000 : Int32)).toInt) (hE_nlt cc3) (hE_nle cc5) (by decide) (by decide))) dX12_step_58 (fun z14 hz14 => ?_)
                refine lv_goto (tgt := 96) hx hb dX12_step_59 (by decide) ?_
                exact kr z14 g1 lg ar bk _ _ _ _ ⟨(hk_frG hk_fr0 (by decide) h_g1), rfl, rfl, rfl⟩ hw dX12_step_96
            · refine lv_iconst (v := (-1)) hx hb dX12_step_47 (by decide) ?_
              exact kr (-1) g1 lg ar bk _ _ _ _ ⟨(hk_frG hk_fr0 (by decide) h_g1), rfl, rfl, rfl⟩ hw dX12_step_48
  refine lv_icmp_ne (tgt := 19) hx hb dX12_step_7 (by decide) (fun cc15 => ?_) (fun cc15 => ?_)
  · exact B2 ls _ _ hw (lv_sub hl [0, 1, 2] rfl)
  · refine lv_iload_n hx hb dX12_step_10 rfl (lv_at hl 2 rfl) ?_
    refine lv_if_ne (tgt := 19) hx hb dX12_step_11 (by decide) (fun cc16 => ?_) (fun cc16 => ?_)
    · exact B2 ls _ _ hw (lv_sub hl [0, 1, 2] rfl)
    · refine lv_aload_n hx hb dX12_step_14 rfl (lv_at hl 0 rfl) ?_
      have e_g1_18 : g1 18 = (g 18) := (hk_upgN h_g1 18 rfl)
      refine hk_get (ci := 15) (C := RX12) (T := TX12) (N := 92) (v := .int (g 18)) hx hb hts (fun _ h => List.mem_cons_of_mem _ (wwMc_wsX120 _ h)) hown hw 0 rfl rfl 27 (by decide) (hq _ wM_26) (congrArg (fun z => some (Value.int z)) e_g1_18) dX12_step_15 ?_
      exact kr (g 18) g1 lg ar bk _ _ _ _ ⟨(hk_frG hk_fr0 (by decide) h_g1), rfl, rfl, rfl⟩ hw dX12_step_18

set_option maxHeartbeats 4000000 in
set_option maxRecDepth 100000 in
/-- X12_state on (0,) -/
theorem jm_X12_state (l : Launch) (hlt : l.stackTraces = false) (D : va_G) (t3 : Nat × Nat × Nat) (cI cJ : ClassId) (ad : Nat → Nat) (g : Nat → Int32) (lg : Nat → Int64) (ar : Nat → Nat → Int32) (bk : Nat → Int64) (sz : Nat) : JMi l yX12_state (Cond.code yX12_state cX12_state 1 (some .int) :: wwM) { frames := 0, cells := 0, slots := 0, locals := 0 } t3 D mw cI cJ ad [.ref (ad 0)] (mw cI cJ ad g lg ar bk) sz 0 0 (fun (r : Int32) g' lg' ar' bk' => hk_fr [1] g g' ∧ lg = lg' ∧ ar = ar' ∧ bk = bk') (fun g' lg' ar' bk' => False) := by
  refine jx_meti (cc := cX12_state) (maxL := 1) (ret := (some .int)) rfl (by decide) rfl (Nat.le_of_ble_eq_true rfl) ?_
  intro p e s m args below meth c ls Q A hx hb hml hown hts hA hZ hw hl hQ kr kt
  have hq : ∀ w ∈ wwM, w.before args s = true := fun w h => hts w (List.mem_cons_of_mem _ h)
  have hl : lv_has ls 1 [(0, .ref (ad 0))] := hl
  refine lv_aload_n hx hb dX12_state_0 rfl (lv_at hl 0 rfl) ?_
  refine lv_iconst (v := 0) hx hb dX12_state_1 (by decide) ?_
  refine jx_putg mw (cI := cI) (cJ := cJ) (ad := ad) (g := g) (lg := lg) (ar := ar) (bk := bk) (x := 0) 1 (ci := 15) (C := RX12) (T := TX12) (N := 92) (ty := .int) hx hb hts (fun _ h => List.mem_cons_of_mem _ (wwMc_wsX120 _ h)) tyX12 tyX12_ok nmX12 hown hw 0 rfl rfl 1 (by decide) (hq _ wM_103) rfl (by decide +kernel) rfl rfl (Nat.le_of_ble_eq_true rfl) dX12_state_2 rfl (fun H locs g1 h_g1 hw => ?_)
  refine lv_aload_n hx hb dX12_state_5 rfl (lv_at hl 0 rfl) ?_
  have e_g1_21 : g1 21 = (g 21) := (hk_upgN h_g1 21 rfl)
  refine hk_get (ci := 15) (C := RX12) (T := TX12) (N := 92) (v := .int (g 21)) hx hb hts (fun _ h => List.mem_cons_of_mem _ (wwMc_wsX120 _ h)) hown hw 0 rfl rfl 39 (by decide) (hq _ wM_273) (congrArg (fun z => some (Value.int z)) e_g1_21) dX12_state_6 ?_
  exact kr (g 21) g1 lg ar bk _ _ _ _ ⟨(hk_frG hk_fr0 (by decide) h_g1), rfl, rfl, rfl⟩ hw dX12_state_9

set_option maxHeartbeats 4000000 in
set_option maxRecDepth 100000 in
/-- X12_rule on (0,) -/
theorem jm_X12_rule (l : Launch) (hlt : l.stackTraces = false) (D : va_G) (t3 : Nat × Nat × Nat) (cI cJ : ClassId) (ad : Nat → Nat) (g : Nat → Int32) (lg : Nat → Int64) (ar : Nat → Nat → Int32) (bk : Nat → Int64) (sz : Nat) : JMi l yX12_rule (Cond.code yX12_rule cX12_rule 1 (some .int) :: wwM) { frames := 0, cells := 0, slots := 0, locals := 0 } t3 D mw cI cJ ad [.ref (ad 0)] (mw cI cJ ad g lg ar bk) sz 0 0 (fun (r : Int32) g' lg' ar' bk' => hk_fr [1] g g' ∧ lg = lg' ∧ ar = ar' ∧ bk = bk') (fun g' lg' ar' bk' => False) := by
  refine jx_meti (cc := cX12_rule) (maxL := 1) (ret := (some .int)) rfl (by decide) rfl (Nat.le_of_ble_eq_true rfl) ?_
  intro p e s m args below meth c ls Q A hx hb hml hown hts hA hZ hw hl hQ kr kt
  have hq : ∀ w ∈ wwM, w.before args s = true := fun w h => hts w (List.mem_cons_of_mem _ h)
  have hl : lv_has ls 1 [(0, .ref (ad 0))] := hl
  refine lv_aload_n hx hb dX12_rule_0 rfl (lv_at hl 0 rfl) ?_
  refine lv_iconst (v := 0) hx hb dX12_rule_1 (by decide) ?_
  refine jx_putg mw (cI := cI) (cJ := cJ) (ad := ad) (g := g) (lg := lg) (ar := ar) (bk := bk) (x := 0) 1 (ci := 15) (C := RX12) (T := TX12) (N := 92) (ty := .int) hx hb hts (fun _ h => List.mem_cons_of_mem _ (wwMc_wsX120 _ h)) tyX12 tyX12_ok nmX12 hown hw 0 rfl rfl 1 (by decide) (hq _ wM_103) rfl (by decide +kernel) rfl rfl (Nat.le_of_ble_eq_true rfl) dX12_rule_2 rfl (fun H locs g1 h_g1 hw => ?_)
  refine lv_aload_n hx hb dX12_rule_5 rfl (lv_at hl 0 rfl) ?_
  have e_g1_22 : g1 22 = (g 22) := (hk_upgN h_g1 22 rfl)
  refine hk_get (ci := 15) (C := RX12) (T := TX12) (N := 92) (v := .int (g 22)) hx hb hts (fun _ h => List.mem_cons_of_mem _ (wwMc_wsX120 _ h)) hown hw 0 rfl rfl 40 (by decide) (hq _ wM_259) (congrArg (fun z => some (Value.int z)) e_g1_22) dX12_rule_6 ?_
  exact kr (g 22) g1 lg ar bk _ _ _ _ ⟨(hk_frG hk_fr0 (by decide) h_g1), rfl, rfl, rfl⟩ hw dX12_rule_9

set_option maxHeartbeats 4000000 in
set_option maxRecDepth 100000 in
/-- X12_block on (0,) -/
theorem jm_X12_block (l : Launch) (hlt : l.stackTraces = false) (D : va_G) (t3 : Nat × Nat × Nat) (cI cJ : ClassId) (ad : Nat → Nat) (g : Nat → Int32) (lg : Nat → Int64) (ar : Nat → Nat → Int32) (bk : Nat → Int64) (sz : Nat) (y1 : Int32) (y2 : Int32) (hi_g20 : 0 ≤ (g 20).toInt ∧ (g 20).toInt ≤ 3001) : JMi l yX12_block (Cond.code yX12_block cX12_block 3 (some .int) :: wwM) { frames := 0, cells := 0, slots := 0, locals := 0 } t3 D mw cI cJ ad [.ref (ad 0), .int y1, .int y2] (mw cI cJ ad g lg ar bk) sz 0 0 (fun (r : Int32) g' lg' ar' bk' => hk_fr [1] g g' ∧ lg = lg' ∧ ar = ar' ∧ bk = bk') (fun g' lg' ar' bk' => False) := by
  refine jx_meti (cc := cX12_block) (maxL := 3) (ret := (some .int)) rfl (by decide) rfl (Nat.le_of_ble_eq_true rfl) ?_
  intro p e s m args below meth c ls Q A hx hb hml hown hts hA hZ hw hl hQ kr kt
  have hq : ∀ w ∈ wwM, w.before args s = true := fun w h => hts w (List.mem_cons_of_mem _ h)
  have hl : lv_has ls 3 [(0, .ref (ad 0)), (1, .int y1), (2, .int y2)] := hl
  refine lv_aload_n hx hb dX12_block_0 rfl (lv_at hl 0 rfl) ?_
  refine lv_iconst (v := 0) hx hb dX12_block_1 (by decide) ?_
  refine jx_putg mw (cI := cI) (cJ := cJ) (ad := ad) (g := g) (lg := lg) (ar := ar) (bk := bk) (x := 0) 1 (ci := 15) (C := RX12) (T := TX12) (N := 92) (ty := .int) hx hb hts (fun _ h => List.mem_cons_of_mem _ (wwMc_wsX120 _ h)) tyX12 tyX12_ok nmX12 hown hw 0 rfl rfl 1 (by decide) (hq _ wM_103) rfl (by decide +kernel) rfl rfl (Nat.le_of_ble_eq_true rfl) dX12_block_2 rfl (fun H locs g1 h_g1 hw => ?_)
  refine lv_iload_n hx hb dX12_block_5 rfl (lv_at hl 1 rfl) ?_
  refine lv_iconst (v := (-1)) hx hb dX12_block_6 (by decide) ?_
  have B2 : ∀  (ls : Array Slot) (H : Heap) (locs : List Loc), hk_W D (jT cI cJ) A s H locs (mw cI cJ ad g1 lg ar bk) → lv_has ls 3 [(0, .ref (ad 0)), (1, .int y1), (2, .int y2)] → W p l e { frames := 0, cells := 0, slots := 0, locals := 0 } s m args below meth c H locs 0 0 Q (F0 m 19 ls []) := by
    intro ls H locs hw hl
    refine lv_iload_n hx hb dX12_block_19 rfl (lv_at hl 1 rfl) ?_
    refine lv_if_lt (tgt := 40) hx hb dX12_block_20 (by decide) (fun cc3 => ?_) (fun cc3 => ?_)
    · refine lv_iconst (v := (-1)) hx hb dX12_block_40 (by decide) ?_
      exact kr (-1) g1 lg ar bk _ _ _ _ ⟨(hk_frG hk_fr0 (by decide) h_g1), rfl, rfl, rfl⟩ hw dX12_block_41
    · refine lv_iload_n hx hb dX12_block_23 rfl (lv_at hl 1 rfl) ?_
      refine lv_aload_n hx hb dX12_block_24 rfl (lv_at hl 0 rfl) ?_
      have e_g1_20 : g1 20 = (g 20) := (hk_upgN h_g1 20 rfl)
      refine hk_get (ci := 15) (C := RX12) (T := TX12) (N := 92) (v := .int (g 20)) hx hb hts (fun _ h => List.mem_cons_of_mem _ (wwMc_wsX120 _ h)) hown hw 0 rfl rfl 33 (by decide) (hq _ wM_104) (congrArg (fun z => some (Value.int z)) e_g1_20) dX12_block_25 ?_
      refine lv_icmp_ge (tgt := 40) hx hb dX12_block_28 (by decide) (fun cc4 => ?_) (fun cc4 => ?_)
      · refine lv_iconst (v := (-1)) hx hb dX12_block_40 (by decide) ?_
        exact kr (-1) g1 lg ar bk _ _ _ _ ⟨(hk_frG hk_fr0 (by decide) h_g1), rfl, rfl, rfl⟩ hw dX12_block_41
      · refine lv_iload_n hx hb dX12_block_31 rfl (lv_at hl 2 rfl) ?_
        refine lv_if_lt (tgt := 40) hx hb dX12_block_32 (by decide) (fun cc5 => ?_) (fun cc5 => ?_)
        · refine lv_iconst (v := (-1)) hx hb dX12_block_40 (by decide) ?_
          exact kr (-1) g1 lg ar bk _ _ _ _ ⟨(hk_frG hk_fr0 (by decide) h_g1), rfl, rfl, rfl⟩ hw dX12_block_41
        · refine lv_iload_n hx hb dX12_block_35 rfl (lv_at hl 2 rfl) ?_
          refine lv_iconst (v := 4) hx hb dX12_block_36 (by decide) ?_
          refine lv_icmp_le (tgt := 42) hx hb dX12_block_37 (by decide) (fun cc6 => ?_) (fun cc6 => ?_)
          · refine lv_iload_n hx hb dX12_block_42 rfl (lv_at hl 2 rfl) ?_
            refine lv_if_ne (tgt := 55) hx hb dX12_block_43 (by decide) (fun cc7 => ?_) (fun cc7 => ?_)
            · refine lv_iload_n hx hb dX12_block_55 rfl (lv_at hl 2 rfl) ?_
              refine lv_iconst (v := 1) hx hb dX12_block_56 (by decide) ?_
              refine lv_icmp_ne (tgt := 69) hx hb dX12_block_57 (by decide) (fun cc8 => ?_) (fun cc8 => ?_)
              · refine lv_iload_n hx hb dX12_block_69 rfl (lv_at hl 2 rfl) ?_
                refine lv_iconst (v := 2) hx hb dX12_block_70 (by decide) ?_
                refine lv_icmp_ne (tgt := 83) hx hb dX12_block_71 (by decide) (fun cc9 => ?_) (fun cc9 => ?_)
                · refine lv_iload_n hx hb dX12_block_83 rfl (lv_at hl 2 rfl) ?_
                  refine lv_iconst (v := 3) hx hb dX12_block_84 (by decide) ?_
                  refine lv_icmp_ne (tgt := 97) hx hb dX12_block_85 (by decide) (fun cc10 => ?_) (fun cc10 => ?_)
                  · refine lv_aload_n hx hb dX12_block_97 rfl (lv_at hl 0 rfl) ?_
                    refine hk_get (ci := 15) (C := RX12) (T := TX12) (N := 92) (v := .ref (ad 16)) hx hb hts (fun _ h => List.mem_cons_of_mem _ (wwMc_wsX120 _ h)) hown hw 0 rfl rfl 38 (by decide) (hq _ wM_109) rfl dX12_block_98 ?_
                    refine lv_iload_n hx hb dX12_block_101 rfl (lv_at hl 1 rfl) ?_
                    refine jx_iald hx hb hw 16 0 rfl rfl (hE_in (n := 3001) (om149 ((y1).toInt) (((0 : Int32)).toInt) ((g 20).toInt) (hE_nlt cc3) (hE_nle cc4) hi_g20 (by decide))) dX12_block_102 (fun z11 hz11 => ?_)
                    exact kr z11 g1 lg ar bk _ _ _ _ ⟨(hk_frG hk_fr0 (by decide) h_g1), rfl, rfl, rfl⟩ hw dX12_block_103
                  · refine lv_aload_n hx hb dX12_block_88 rfl (lv_at hl 0 rfl) ?_
                    refine hk_get (ci := 15) (C := RX12) (T := TX12) (N := 92) (v := .ref (ad 15)) hx hb hts (fun _ h => List.mem_cons_of_mem _ (wwMc_wsX120 _ h)) hown hw 0 rfl rfl 37 (by decide) (hq _ wM_108) rfl dX12_block_89 ?_
                    refine lv_iload_n hx hb dX12_block_92 rfl (lv_at hl 1 rfl) ?_
                    refine jx_iald hx hb hw 15 0 rfl rfl (hE_in (n := 3001) (om149 ((y1).toInt) (((0 : Int32)).toInt) ((g 20).toInt) (hE_nlt cc3) (hE_nle cc4) hi_g20 (by decide))) dX12_block_93 (fun z12 hz12 => ?_)
                    refine lv_goto (tgt := 103) hx hb dX12_block_94 (by decide) ?_
                    exact kr z12 g1 lg ar bk _ _ _ _ ⟨(hk_frG hk_fr0 (by decide) h_g1), rfl, rfl, rfl⟩ hw dX12_block_103
                · refine lv_aload_n hx hb dX12_block_74 rfl (lv_at hl 0 rfl) ?_
                  refine hk_get (ci := 15) (C := RX12) (T := TX12) (N := 92) (v := .ref (ad 14)) hx hb hts (fun _ h => List.mem_cons_of_mem _ (wwMc_wsX120 _ h)) hown hw 0 rfl rfl 36 (by decide) (hq _ wM_107) rfl dX12_block_75 ?_
                  refine lv_iload_n hx hb dX12_block_78 rfl (lv_at hl 1 rfl) ?_
                  refine jx_iald hx hb hw 14 0 rfl rfl (hE_in (n := 3001) (om149 ((y1).toInt) (((0 : Int32)).toInt) ((g 20).toInt) (hE_nlt cc3) (hE_nle cc4) hi_g20 (by decide))) dX12_block_79 (fun z13 hz13 => ?_)
                  refine lv_goto (tgt := 103) hx hb dX12_block_80 (by decide) ?_
                  exact kr z13 g1 lg ar bk _ _ _ _ ⟨(hk_frG hk_fr0 (by decide) h_g1), rfl, rfl, rfl⟩ hw dX12_block_103
              · refine lv_aload_n hx hb dX12_block_60 rfl (lv_at hl 0 rfl) ?_
                refine hk_get (ci := 15) (C := RX12) (T := TX12) (N := 92) (v := .ref (ad 13)) hx hb hts (fun _ h => List.mem_cons_of_mem _ (wwMc_wsX120 _ h)) hown hw 0 rfl rfl 35 (by decide) (hq _ wM_106) rfl dX12_block_61 ?_
                refine lv_iload_n hx hb dX12_block_64 rfl (lv_at hl 1 rfl) ?_
                refine jx_iald hx hb hw 13 0 rfl rfl (hE_in (n := 3001) (om149 ((y1).toInt) (((0 : Int32)).toInt) ((g 20).toInt) (hE_nlt cc3) (hE_nle cc4) hi_g20 (by decide))) dX12_block_65 (fun z14 hz14 => ?_)
                refine lv_goto (tgt := 103) hx hb dX12_block_66 (by decide) ?_
                exact kr z14 g1 lg ar bk _ _ _ _ ⟨(hk_frG hk_fr0 (by decide) h_g1), rfl, rfl, rfl⟩ hw dX12_block_103
            · refine lv_aload_n hx hb dX12_block_46 rfl (lv_at hl 0 rfl) ?_
              refine hk_get (ci := 15) (C := RX12) (T := TX12) (N := 92) (v := .ref (ad 12)) hx hb hts (fun _ h => List.mem_cons_of_mem _ (wwMc_wsX120 _ h)) hown hw 0 rfl rfl 34 (by decide) (hq _ wM_105) rfl dX12_block_47 ?_
              refine lv_iload_n hx hb dX12_block_50 rfl (lv_at hl 1 rfl) ?_
              refine jx_iald hx hb hw 12 0 rfl rfl (hE_in (n := 3001) (om149 ((y1).toInt) (((0 : Int32)).toInt) ((g 20).toInt) (hE_nlt cc3) (hE_nle cc4) hi_g20 (by decide))) dX12_block_51 (fun z15 hz15 => ?_)
              refine lv_goto (tgt := 103) hx hb dX12_block_52 (by decide) ?_
              exact kr z15 g1 lg ar bk _ _ _ _ ⟨(hk_frG hk_fr0 (by decide) h_g1), rfl, rfl, rfl⟩ hw dX12_block_103
          · refine lv_iconst (v := (-1)) hx hb dX12_block_40 (by decide) ?_
            exact kr (-1) g1 lg ar bk _ _ _ _ ⟨(hk_frG hk_fr0 (by decide) h_g1), rfl, rfl, rfl⟩ hw dX12_block_41
  refine lv_icmp_ne (tgt := 19) hx hb dX12_block_7 (by decide) (fun cc16 => ?_) (fun cc16 => ?_)
  · exact B2 ls _ _ hw (lv_sub hl [0, 1, 2] rfl)
  · refine lv_iload_n hx hb dX12_block_10 rfl (lv_at hl 2 rfl) ?_
    refine lv_if_ne (tgt := 19) hx hb dX12_block_11 (by decide) (fun cc17 => ?_) (fun cc17 => ?_)
    · exact B2 ls _ _ hw (lv_sub hl [0, 1, 2] rfl)
    · refine lv_aload_n hx hb dX12_block_14 rfl (lv_at hl 0 rfl) ?_
      have e_g1_20 : g1 20 = (g 20) := (hk_upgN h_g1 20 rfl)
      refine hk_get (ci := 15) (C := RX12) (T := TX12) (N := 92) (v := .int (g 20)) hx hb hts (fun _ h => List.mem_cons_of_mem _ (wwMc_wsX120 _ h)) hown hw 0 rfl rfl 33 (by decide) (hq _ wM_104) (congrArg (fun z => some (Value.int z)) e_g1_20) dX12_block_15 ?_
      exact kr (g 20) g1 lg ar bk _ _ _ _ ⟨(hk_frG hk_fr0 (by decide) h_g1), rfl, rfl, rfl⟩ hw dX12_block_18
