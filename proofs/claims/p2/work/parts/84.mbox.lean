/-! 84.mbox -/
theorem om588 (v0 : Int) (v1 : Int) (h0 : 0 ≤ v0) (h1 : v0 < v1) (h2 : v1 ≤ 1500) : 0 ≤ v0 ∧ v0 < (1500 : Nat) := by omega
theorem om589 (v0 : Int) (v1 : Int) (v2 : Int) (h0 : 0 ≤ v0) (h1 : v0 < v2) (h2 : v2 ≤ 1500) (h3 : v1 = 1) : -2147483648 ≤ v0 + v1 ∧ v0 + v1 ≤ 2147483647 := by omega
theorem om590 (v0 : Int) (v1 : Int) (v2 : Int) (v3 : Int) (h0 : v2 = v3 + 1 ∧ v1 = v0 ∨ v2 = v3 ∧ 1 ≤ v1) : (1 ≤ v0 → 1 ≤ v1) := by omega
theorem om591 (v0 : Int) (v1 : Int) (v2 : Int) (v3 : Int) (h0 : v2 = v1 + 1 ∧ v3 = v0 ∨ v2 = v1 ∧ 1 ≤ v3) : v0 = 0 → v1 < v2 ∨ 1 ≤ v3 := by omega
theorem om592 (v0 : Int) (v1 : Int) (v2 : Int) (v3 : Int) (v4 : Int) (h0 : v0 = v1 + 1 ∧ v2 = v3 ∨ v0 = v1 ∧ 1 ≤ v2) (h1 : 0 ≤ v0 ∧ v0 ≤ 1500) (h2 : 0 ≤ v1 ∧ v1 ≤ 1500) (h3 : v2 = v4) (h4 : v4 = 0) : 0 ≤ v0 ∧ v0 ≤ 1500 := by omega
theorem om593 (v0 : Int) (h0 : 1 ≤ v0 ∧ v0 ≤ 15) : 1 ≤ v0 ∧ v0 ≤ 15 := by omega
theorem om594 (v0 : Int) (v1 : Int) (v2 : Int) (v3 : Int) (h0 : 1 ≤ v3) : v0 = 0 → v1 < v2 ∨ 1 ≤ v3 := by omega
theorem om595 (v0 : Int) (v1 : Int) (v2 : Int) (v3 : Int) (v4 : Int) (v5 : Int) (h0 : v0 = v1) (h1 : v1 = v2 + 1 ∧ v3 = v4 ∨ v1 = v2 ∧ 1 ≤ v3) (h2 : 0 ≤ v1 ∧ v1 ≤ 1500) (h3 : 0 ≤ v2 ∧ v2 ≤ 1500) (h4 : v3 = v5) (h5 : v5 = 0) : 0 ≤ v0 ∧ v0 ≤ 1500 := by omega
theorem om596 (v0 : Int) (h0 : v0 = 9) : 1 ≤ v0 ∧ v0 ≤ 15 := by omega
theorem om597 (v0 : Int) (v1 : Int) (h0 : 0 ≤ v0) (h1 : v0 < v1) (h2 : v1 = 9) : -2147483648 ≤ v0 * 7 ∧ v0 * 7 ≤ 2147483647 := by omega
theorem om598 (v0 : Int) (v1 : Int) (v2 : Int) (h0 : 0 ≤ v0) (h1 : v0 < v2) (h2 : v1 = 1) (h3 : v2 = 9) : -2147483648 ≤ v0 + v1 ∧ v0 + v1 ≤ 2147483647 := by omega
theorem om599 (v0 : Int) (v1 : Int) (v2 : Int) (v3 : Int) (v4 : Int) (v5 : Int) (h0 : 1 ≤ v0 → 1 ≤ v2) (h1 : v3 = v4 + 1 ∧ v1 = v2 ∨ v3 = v4 ∧ 1 ≤ v1) (h2 : v1 ≤ v5) (h3 : v5 = 0) : 1 ≤ v0 → 1 ≤ v1 := by omega
theorem om600 (v0 : Int) (v1 : Int) (v2 : Int) (v3 : Int) (v4 : Int) (h0 : 1 ≤ v0 → 1 ≤ v2) (h1 : v3 = v4 + 1 ∧ v1 = v2 ∨ v3 = v4 ∧ 1 ≤ v1) : (1 ≤ v0 → 1 ≤ v1) := by omega
theorem om601 (v0 : Int) (v1 : Int) (v2 : Int) (v3 : Int) (v4 : Int) (v5 : Int) (h0 : 1 ≤ v0 → 1 ≤ v2) (h1 : v3 = v4 + 1 ∧ v1 = v2 ∨ v3 = v4 ∧ 1 ≤ v1) (h2 : v1 ≤ v5) (h3 : v5 = 0) : (1 ≤ v0 → 1 ≤ v1) := by omega
theorem om602 (v0 : Int) (h0 : v0 = 11) : 1 ≤ v0 ∧ v0 ≤ 15 := by omega
theorem om603 (v0 : Int) (v1 : Int) (v2 : Int) (h0 : v1 = v2) (h1 : v0 = 2) (h2 : -2147483648 ≤ v2 ∧ v2 ≤ 2147483647) : -9223372036854775808 ≤ v0 + v1 ∧ v0 + v1 ≤ 9223372036854775807 := by omega
theorem om604 (v0 : Int) (h0 : v0 = 8) : 1 ≤ v0 ∧ v0 ≤ 15 := by omega
theorem om605 (v0 : Int) (v1 : Int) (v2 : Int) (h0 : v0 = v2 % 4) (h1 : v1 = 1) : -2147483648 ≤ v0 + v1 ∧ v0 + v1 ≤ 2147483647 := by omega
theorem om606 (v0 : Int) (v1 : Int) (v2 : Int) (v3 : Int) (v4 : Int) (h0 : v0 = v1) (h1 : v1 = v2 + v3) (h2 : v2 = v4 % 4) (h3 : v3 = 1) : 0 ≤ v0 ∧ v0 ≤ 4 := by omega
theorem om607 (v0 : Int) (v1 : Int) (v2 : Int) (v3 : Int) (v4 : Int) (v5 : Int) (h0 : v0 = v1) (h1 : v1 = v2 + v3) (h2 : v4 < v1) (h3 : v2 = v5 % 4) (h4 : 0 ≤ v4) (h5 : v3 = 1) : 0 ≤ v0 ∧ v0 ≤ 4 := by omega
theorem om608 (v0 : Int) (v1 : Int) (v2 : Int) (v3 : Int) (v4 : Int) (h0 : v0 = v2 + v1) (h1 : v3 < v0) (h2 : v2 = v4 % 4) (h3 : 0 ≤ v3) (h4 : v1 = 1) : -2147483648 ≤ v0 - v1 ∧ v0 - v1 ≤ 2147483647 := by omega
theorem om609 (v0 : Int) (v1 : Int) (v2 : Int) (v3 : Int) (v4 : Int) (h0 : 0 ≤ v0) (h1 : v0 < v1) (h2 : v1 = v2 + v3) (h3 : v2 = v4 % 4) (h4 : v3 = 1) : 0 ≤ v0 ∧ v0 < (4 : Nat) := by omega
theorem om610 (v0 : Int) (v1 : Int) (v2 : Int) (v3 : Int) (v4 : Int) (h0 : v2 = v3 + v1) (h1 : 0 ≤ v0) (h2 : v0 < v2) (h3 : v3 = v4 % 4) (h4 : v1 = 1) : -2147483648 ≤ v0 + v1 ∧ v0 + v1 ≤ 2147483647 := by omega
theorem om611 (v0 : Int) (v1 : Int) (v2 : Int) (v3 : Int) (v4 : Int) (v5 : Int) (h0 : v0 ≤ v2) (h1 : v1 = v3) (h2 : v2 ≤ v4) (h3 : v5 ≤ v3) (h4 : v5 = v4) : v0 ≤ v1 := by omega
theorem om612 (v0 : Int) (v1 : Int) (v2 : Int) (v3 : Int) (v4 : Int) (v5 : Int) (v6 : Int) (h0 : v0 ≤ v2) (h1 : v3 ≤ v1) (h2 : v2 ≤ v4) (h3 : v3 = v5) (h4 : v6 = v4) (h5 : v6 ≤ v5) : v0 ≤ v1 := by omega
theorem om613 (v0 : Int) (v1 : Int) (v2 : Int) (h0 : 1 ≤ v0 → 1 ≤ v2) (h1 : v1 = v2) : 1 ≤ v0 → 1 ≤ v1 := by omega
theorem om614 (v0 : Int) (v1 : Int) (v2 : Int) (h0 : v0 = v1) (h1 : 0 ≤ v1 ∧ v1 ≤ 15) (h2 : v1 = v2) (h3 : v2 = 0) : 0 ≤ v0 ∧ v0 ≤ 15 := by omega
theorem om615 (v0 : Int) (v1 : Int) (v2 : Int) (h0 : 0 ≤ v0 ∧ v0 ≤ v2) (h1 : 8 ≤ v1 ∧ v1 ≤ 1024) (h2 : 0 ≤ v2 ∧ v2 ≤ 1500) : -2147483648 ≤ v0 + v1 ∧ v0 + v1 ≤ 2147483647 := by omega
theorem om616 (v0 : Int) (v1 : Int) (v2 : Int) (v3 : Int) (v4 : Int) (h0 : v0 = v2 + v3) (h1 : 0 ≤ v2 ∧ v2 ≤ v4) (h2 : 8 ≤ v3 ∧ v3 ≤ 1024) (h3 : 0 ≤ v4 ∧ v4 ≤ 1500) (h4 : v1 = 4) : -2147483648 ≤ v0 - v1 ∧ v0 - v1 ≤ 2147483647 := by omega
theorem om617 (v0 : Int) (v1 : Int) (v2 : Int) (h0 : v0 = v1) (h1 : v2 < v1) (h2 : 0 ≤ v1 ∧ v1 ≤ 1500) (h3 : 0 ≤ v2 ∧ v2 ≤ 3001) : 0 ≤ v0 ∧ v0 ≤ 1500 := by omega
theorem om618 (v0 : Int) (v1 : Int) (h0 : v0 = v1) (h1 : v1 = 0) : 0 ≤ v0 ∧ v0 ≤ 15 := by omega
theorem om619 (v0 : Int) (v1 : Int) (h0 : 0 ≤ v0 ∧ v0 ≤ v1) : 0 ≤ v0 := by omega
theorem om620 (v0 : Int) (v1 : Int) (v2 : Int) (v3 : Int) (h0 : v1 = 0 → v0 ≤ v2) (h1 : 0 ≤ v2 ∧ v2 ≤ 1500) (h2 : 0 ≤ v1 ∧ v1 ≤ 15) (h3 : v1 ≤ v3) (h4 : v3 = 0) : v0 ≤ 1500 := by omega
theorem om621 (v0 : Int) (v1 : Int) (v2 : Int) (v3 : Int) (h0 : v0 = v1) (h1 : v2 ≤ v1) (h2 : 0 ≤ v1 ∧ v1 ≤ 1500) (h3 : v3 < v2) (h4 : 0 ≤ v3 ∧ v3 ≤ 3001) : 0 ≤ v0 ∧ v0 ≤ 1500 := by omega
theorem om622 (v0 : Int) (v1 : Int) (v2 : Int) (v3 : Int) (v4 : Int) (v5 : Int) (h0 : v0 = v1) (h1 : v2 ≤ v1) (h2 : 0 ≤ v1 ∧ v1 ≤ 1500) (h3 : v2 = v3) (h4 : v4 ≤ v3) (h5 : v5 < v4) (h6 : 0 ≤ v5 ∧ v5 ≤ 3001) : 0 ≤ v0 ∧ v0 ≤ 1500 := by omega
theorem om623 (v0 : Int) (v1 : Int) (v2 : Int) (v3 : Int) (h0 : v0 = v2) (h1 : v1 = v3) (h2 : 0 ≤ v2 ∧ v2 ≤ 3000) (h3 : v3 = 0) : v0 + v1 ≤ 3000 := by omega
theorem om624 (v0 : Int) (v1 : Int) (v2 : Int) (v3 : Int) (v4 : Int) (v5 : Int) (v6 : Int) (v7 : Int) (h0 : v3 = v4) (h1 : v1 = v5) (h2 : v2 = v6) (h3 : v0 = v7) (h4 : 0 ≤ v7 ∧ v7 ≤ v5) (h5 : v4 = 0) (h6 : v6 = 0) : 0 ≤ v0 ∧ v0 ≤ v1 + v2 + v3 := by omega
theorem om625 (v0 : Int) (v1 : Int) (h0 : v0 = v1) (h1 : v1 = 0) : 0 ≤ v0 ∧ v0 ≤ 3000 := by omega
theorem om626 (v0 : Int) (v1 : Int) (v2 : Int) (v3 : Int) (v4 : Int) (v5 : Int) (v6 : Int) (h0 : v2 ≤ v1) (h1 : v3 = v1) (h2 : v3 ≤ v0) (h3 : 0 ≤ v0 ∧ v0 ≤ 1500) (h4 : v2 = v4) (h5 : v5 ≤ v4) (h6 : v6 < v5) (h7 : 0 ≤ v6 ∧ v6 ≤ 3001) : -2147483648 ≤ v0 - v1 ∧ v0 - v1 ≤ 2147483647 := by omega
theorem om627 (v0 : Int) (v1 : Int) (v2 : Int) (v3 : Int) (v4 : Int) (v5 : Int) (v6 : Int) (h0 : v0 ≤ v2) (h1 : v1 = v3) (h2 : v4 = v2) (h3 : v5 ≤ v3) (h4 : v4 ≤ v6) (h5 : v5 = v6) : v0 ≤ v1 := by omega
theorem om628 (v0 : Int) (v1 : Int) (h0 : v0 = 0) (h1 : 1 ≤ v1) : (1 ≤ v0 → 1 ≤ v1) := by omega
theorem om629 (v0 : Int) (v1 : Int) (v2 : Int) (v3 : Int) (v4 : Int) (v5 : Int) (v6 : Int) (v7 : Int) (v8 : Int) (h0 : v1 = v2) (h1 : v0 = v3) (h2 : v3 < v4) (h3 : v5 ≤ v2) (h4 : v4 ≤ v6) (h5 : v7 ≤ v8) (h6 : v5 = v8) (h7 : v7 = v6) : v0 ≤ v1 := by omega
theorem om630 (v0 : Int) (v1 : Int) (v2 : Int) (v3 : Int) (h0 : 1 ≤ v0) : v0 = 0 → (0 ≤ v1 ∧ v1 ≤ v2 ∧ v3 = 0) := by omega
theorem om631 (v0 : Int) (v1 : Int) (v2 : Int) (v3 : Int) (v4 : Int) (v5 : Int) (v6 : Int) (v7 : Int) (h0 : v0 = v1) (h1 : v2 ≤ v1) (h2 : 0 ≤ v1 ∧ v1 ≤ 1500) (h3 : v3 ≤ v4) (h4 : v2 = v4) (h5 : v3 = v5) (h6 : v6 ≤ v5) (h7 : v7 < v6) (h8 : 0 ≤ v7 ∧ v7 ≤ 3001) : 0 ≤ v0 ∧ v0 ≤ 1500 := by omega
theorem om632 (v0 : Int) (v1 : Int) (v2 : Int) (h0 : v0 = v1) (h1 : v1 < v2) (h2 : 0 ≤ v1 ∧ v1 ≤ 3001) (h3 : 0 ≤ v2 ∧ v2 ≤ 1500) : 0 ≤ v0 ∧ v0 ≤ 3001 := by omega
theorem om633 (v0 : Int) (v1 : Int) (h0 : 0 ≤ v0 ∧ v0 ≤ 4) (h1 : v1 = 2) : -2147483648 ≤ v0 - v1 ∧ v0 - v1 ≤ 2147483647 := by omega
theorem om634 (v0 : Int) (v1 : Int) (h0 : v0 ≤ v1) (h1 : 2147483648 - v0 ≤ 0) (h2 : 0 ≤ v1 ∧ v1 ≤ 3000) : (0 * v0) ≤ -1 := by omega
theorem om635 (v0 : Int) (v1 : Int) (h0 : v0 < v1) (h1 : 0 ≤ v0 ∧ v0 ≤ 3001) (h2 : 0 ≤ v1 ∧ v1 ≤ 1500) : 0 ≤ v0 ∧ v0 < (3001 : Nat) := by omega
theorem om636 (v0 : Int) (h0 : 8 ≤ v0 ∧ v0 ≤ 1024) : 0 ≤ v0 ∧ v0 ≤ 20000 := by omega
theorem om637 (v0 : Int) (v1 : Int) (v2 : Int) (v3 : Int) (v4 : Int) (v5 : Int) (v6 : Int) (v7 : Int) (h0 : v0 = v1 - v2) (h1 : v3 ≤ v2) (h2 : v4 = v2) (h3 : v4 ≤ v1) (h4 : 0 ≤ v1 ∧ v1 ≤ 1500) (h5 : v3 = v5) (h6 : v6 ≤ v5) (h7 : v7 < v6) (h8 : 0 ≤ v7 ∧ v7 ≤ 3001) : 0 ≤ v0 ∧ v0 ≤ 20000 := by omega
theorem om638 (v0 : Int) (h0 : 0 ≤ v0 ∧ v0 ≤ 3000) : 0 ≤ v0 ∧ v0 ≤ 20000 := by omega
theorem om639 (v0 : Int) (v1 : Int) (v2 : Int) (h0 : v0 < v2) (h1 : 0 ≤ v0 ∧ v0 ≤ 3001) (h2 : 0 ≤ v2 ∧ v2 ≤ 1500) (h3 : v1 = 1) : -2147483648 ≤ v0 + v1 ∧ v0 + v1 ≤ 2147483647 := by omega
theorem om640 (v0 : Int) (v1 : Int) (h0 : v0 = 0) : (1 ≤ v0 → 1 ≤ v1) := by omega
theorem om641 (v0 : Int) (v1 : Int) (v2 : Int) (v3 : Int) (v4 : Int) (v5 : Int) (v6 : Int) (h0 : v1 = v2) (h1 : v0 = v3) (h2 : v4 ≤ v2) (h3 : v3 = v5 + v6) (h4 : v5 < v4) (h5 : v6 = 1) : v0 ≤ v1 := by omega
theorem om642 (v0 : Int) (v1 : Int) (v2 : Int) (v3 : Int) (v4 : Int) (v5 : Int) (v6 : Int) (v7 : Int) (v8 : Int) (v9 : Int) (v10 : Int) (v11 : Int) (v12 : Int) (h0 : v1 = v4) (h1 : v2 = v5) (h2 : v3 = v6) (h3 : v7 = 0 → v6 = 0) (h4 : 0 ≤ v6 ∧ v6 ≤ 1) (h5 : 0 ≤ v4 ∧ v4 ≤ v8 + v9 + v6) (h6 : v5 = v10 + v11) (h7 : 0 ≤ v7 ∧ v7 ≤ 15) (h8 : v8 = v10) (h9 : v7 ≤ v12) (h10 : v9 ≤ v11) (h11 : v12 = 0) : v0 = 0 → (0 ≤ v1 ∧ v1 ≤ v2 ∧ v3 = 0) := by omega
theorem om643 (v0 : Int) (v1 : Int) (v2 : Int) (v3 : Int) (v4 : Int) (h0 : v0 = v1) (h1 : v1 = v2 + v3) (h2 : v2 < v4) (h3 : 0 ≤ v2 ∧ v2 ≤ 3001) (h4 : 0 ≤ v4 ∧ v4 ≤ 1500) (h5 : v3 = 1) : 0 ≤ v0 ∧ v0 ≤ 3001 := by omega
theorem om644 (v0 : Int) (v1 : Int) (v2 : Int) (v3 : Int) (v4 : Int) (h0 : v0 = v1 + v2) (h1 : 0 ≤ v0 ∧ v0 ≤ 3000) (h2 : v3 = v1) (h3 : v2 < v4) (h4 : v3 + v4 ≤ 3000) : 0 ≤ v0 ∧ v0 < (3000 : Nat) := by omega
theorem om645 (v0 : Int) (v1 : Int) (v2 : Int) (v3 : Int) (v4 : Int) (v5 : Int) (h0 : v0 = v2 + v3) (h1 : 0 ≤ v0 ∧ v0 ≤ 3000) (h2 : v4 = v2) (h3 : v3 < v5) (h4 : v4 + v5 ≤ 3000) (h5 : v1 = 1) : -2147483648 ≤ v0 + v1 ∧ v0 + v1 ≤ 2147483647 := by omega
theorem om646 (v0 : Int) (v1 : Int) (v2 : Int) (v3 : Int) (v4 : Int) (v5 : Int) (v6 : Int) (v7 : Int) (h0 : v0 = v1) (h1 : v1 = v2 + v3) (h2 : v2 = v4 + v5) (h3 : 0 ≤ v2 ∧ v2 ≤ 3000) (h4 : v6 = v4) (h5 : v5 < v7) (h6 : v6 + v7 ≤ 3000) (h7 : v3 = 1) : 0 ≤ v0 ∧ v0 ≤ 3000 := by omega
theorem om647 (v0 : Int) (v1 : Int) (h0 : 0 ≤ v1 ∧ v1 ≤ 3000) (h1 : v0 = 0) : v0 ≤ v1 := by omega
theorem om648 (v0 : Int) (v1 : Int) (v2 : Int) (h0 : v0 = 0) (h1 : v2 < v1) (h2 : v2 = 0) : (1 ≤ v0 → 1 ≤ v1) := by omega
theorem om649 (v0 : Int) (v1 : Int) (v2 : Int) (v3 : Int) (v4 : Int) (h0 : v1 = v2) (h1 : v0 = v3) (h2 : v3 < v4) (h3 : v4 ≤ v2) : v0 ≤ v1 := by omega
theorem om650 (v0 : Int) (v1 : Int) (v2 : Int) (v3 : Int) (v4 : Int) (h0 : v4 < v0) (h1 : v4 = 0) : v0 = 0 → (0 ≤ v1 ∧ v1 ≤ v2 ∧ v3 = 0) := by omega
theorem om651 (v0 : Int) (h0 : v0 = 10) : 1 ≤ v0 ∧ v0 ≤ 15 := by omega
theorem om652 (v0 : Int) (v1 : Int) (v2 : Int) (h0 : v1 ≤ v0) (h1 : 0 ≤ v0 ∧ v0 ≤ 1500) (h2 : v2 < v1) (h3 : 0 ≤ v2 ∧ v2 ≤ 3001) : 0 ≤ v0 ∧ v0 ≤ 1500 := by omega
theorem om653 (v0 : Int) (v1 : Int) (v2 : Int) (v3 : Int) (h0 : v1 ≤ v0) (h1 : 0 ≤ v0 ∧ v0 ≤ 1500) (h2 : v2 ≤ v1) (h3 : v3 < v2) (h4 : 0 ≤ v3 ∧ v3 ≤ 3001) : 0 ≤ v0 ∧ v0 ≤ 1500 := by omega
theorem om654 (v0 : Int) (v1 : Int) (h0 : v0 ≤ 2) (h1 : v1 ≤ v0) (h2 : v1 = 0) : 0 ≤ v0 ∧ v0 < (4 : Nat) := by omega
theorem om655 (v0 : Int) (v1 : Int) (v2 : Int) (h0 : v0 ≤ 2) (h1 : v2 ≤ v0) (h2 : v1 = (-1)) (h3 : v2 = 0) : -2147483648 ≤ v0 + v1 ∧ v0 + v1 ≤ 2147483647 := by omega
theorem om656 (v0 : Int) (v1 : Int) (v2 : Int) (h0 : v0 = v1 + v2) (h1 : v1 ≤ 2) (h2 : v2 = (-1)) : v0 ≤ 2 := by omega
theorem om657 (v0 : Int) (v1 : Int) (h0 : 0 ≤ v0 ∧ v0 ≤ 255) (h1 : v1 = 1) : -2147483648 ≤ v0 + v1 ∧ v0 + v1 ≤ 2147483647 := by omega
theorem om658 (v0 : Int) (v1 : Int) (v2 : Int) (h0 : v0 = v1 + v2) (h1 : 0 ≤ v1 ∧ v1 ≤ 255) (h2 : v2 = 1) : 0 ≤ v0 := by omega
theorem om659 (v0 : Int) (v1 : Int) (v2 : Int) (h0 : v0 = v1 - v2) (h1 : 0 ≤ v1 ∧ v1 ≤ 4) (h2 : v2 = 2) : v0 ≤ 2 := by omega
theorem om660 (v0 : Int) (v1 : Int) (v2 : Int) (v3 : Int) (h0 : v2 ≤ v1) (h1 : v0 = v3) (h2 : v3 < v2) : v0 ≤ v1 := by omega
theorem om661 (v0 : Int) (v1 : Int) (v2 : Int) (h0 : 0 ≤ v1 ∧ v1 ≤ v2) (h1 : v2 ≤ v0) (h2 : 0 ≤ v0 ∧ v0 ≤ 1500) : -2147483648 ≤ v0 - v1 ∧ v0 - v1 ≤ 2147483647 := by omega
theorem om662 (v0 : Int) (v1 : Int) (v2 : Int) (v3 : Int) (v4 : Int) (v5 : Int) (h0 : 20 * (1502 - v3) - v4 ≤ v2 + 1) (h1 : v3 ≤ v0) (h2 : v4 = 0 → v3 < v0 ∨ 1 ≤ v1) (h3 : 0 ≤ v1 ∧ v1 ≤ 15) (h4 : 0 ≤ v4 ∧ v4 ≤ 15) (h5 : v4 = v5) (h6 : v5 = 0) : 20 * (1502 - v0) - v1 ≤ v2 := by omega
theorem om663 (v0 : Int) (v1 : Int) (v2 : Int) (v3 : Int) (v4 : Int) (v5 : Int) (h0 : v0 ≤ v2) (h1 : v3 ≤ v1) (h2 : v4 = v2) (h3 : v4 ≤ v5) (h4 : v3 = v5) : v0 ≤ v1 := by omega
theorem om664 (v0 : Int) (v1 : Int) (v2 : Int) (v3 : Int) (v4 : Int) (v5 : Int) (v6 : Int) (h0 : v1 ≤ v0) (h1 : 0 ≤ v0 ∧ v0 ≤ 1500) (h2 : v2 ≤ v3) (h3 : v1 = v3) (h4 : v2 = v4) (h5 : v5 ≤ v4) (h6 : v6 < v5) (h7 : 0 ≤ v6 ∧ v6 ≤ 3001) : 0 ≤ v0 ∧ v0 ≤ 1500 := by omega
theorem om665 (v0 : Int) (v1 : Int) (v2 : Int) (v3 : Int) (v4 : Int) (v5 : Int) (h0 : v0 ≤ v2) (h1 : v3 ≤ v1) (h2 : v4 = v2) (h3 : v3 = v5) (h4 : v4 ≤ v5) : v0 ≤ v1 := by omega
theorem om666 (v0 : Int) (v1 : Int) (v2 : Int) (v3 : Int) (v4 : Int) (v5 : Int) (v6 : Int) (v7 : Int) (h0 : v2 ≤ v1) (h1 : v0 = v3) (h2 : v3 < v4) (h3 : v2 = v5) (h4 : v4 ≤ v6) (h5 : v7 ≤ v5) (h6 : v7 = v6) : v0 ≤ v1 := by omega
theorem om667 (v0 : Int) (v1 : Int) (v2 : Int) (v3 : Int) (v4 : Int) (v5 : Int) (v6 : Int) (h0 : v1 ≤ v0) (h1 : 0 ≤ v0 ∧ v0 ≤ 1500) (h2 : v1 = v2) (h3 : v3 ≤ v2) (h4 : v3 = v4) (h5 : v5 ≤ v4) (h6 : v6 < v5) (h7 : 0 ≤ v6 ∧ v6 ≤ 3001) : 0 ≤ v0 ∧ v0 ≤ 1500 := by omega
theorem om668 (v0 : Int) (v1 : Int) (v2 : Int) (v3 : Int) (v4 : Int) (v5 : Int) (h0 : v2 ≤ v1) (h1 : v0 = v3) (h2 : v3 < v4) (h3 : v2 = v5) (h4 : v4 ≤ v5) : v0 ≤ v1 := by omega
theorem om669 (v0 : Int) (v1 : Int) (v2 : Int) (v3 : Int) (v4 : Int) (h0 : v1 ≤ v0) (h1 : 0 ≤ v0 ∧ v0 ≤ 1500) (h2 : v1 = v2) (h3 : v3 ≤ v2) (h4 : v4 < v3) (h5 : 0 ≤ v4 ∧ v4 ≤ 3001) : 0 ≤ v0 ∧ v0 ≤ 1500 := by omega
theorem om670 (v0 : Int) (v1 : Int) (v2 : Int) (v3 : Int) (h0 : v0 = 0) (h1 : v1 = v2) (h2 : v3 < v2) (h3 : v3 = 0) : (1 ≤ v0 → 1 ≤ v1) := by omega
theorem om671 (v0 : Int) (v1 : Int) (v2 : Int) (v3 : Int) (v4 : Int) (v5 : Int) (h0 : v0 = v4) (h1 : v5 < v4) (h2 : v5 = 0) : v0 = 0 → (0 ≤ v1 ∧ v1 ≤ v2 ∧ v3 = 0) := by omega
theorem om672 (v0 : Int) (v1 : Int) (v2 : Int) (v3 : Int) (h0 : v0 ≠ v3) (h1 : v3 = 0) : v0 = 0 → v1 ≤ v2 := by omega
theorem om673 (v0 : Int) (v1 : Int) (v2 : Int) (h0 : v1 ≤ v2) : v0 = 0 → v1 ≤ v2 := by omega
theorem om674 (v0 : Int) (v1 : Int) (v2 : Int) (v3 : Int) (v4 : Int) (h0 : v0 = v1) (h1 : v2 ≤ v1) (h2 : 0 ≤ v1 ∧ v1 ≤ 1500) (h3 : v2 = v3) (h4 : v4 < v3) (h5 : 0 ≤ v4 ∧ v4 ≤ 3001) : 0 ≤ v0 ∧ v0 ≤ 1500 := by omega
theorem om675 (v0 : Int) (v1 : Int) (v2 : Int) (h0 : v0 = 0) (h1 : v1 = v2) (h2 : v2 = 1) : 1 ≤ v0 → 1 ≤ v1 := by omega
theorem om676 (v0 : Int) (v1 : Int) (h0 : v0 = v1) (h1 : v1 = 1) : 0 ≤ v0 ∧ v0 ≤ 15 := by omega
theorem om677 (v0 : Int) (v1 : Int) (v2 : Int) (h0 : v0 = 0) (h1 : v1 = v2) (h2 : v2 = 8) : 1 ≤ v0 → 1 ≤ v1 := by omega
theorem om678 (v0 : Int) (v1 : Int) (h0 : v0 = v1) (h1 : v1 = 8) : 0 ≤ v0 ∧ v0 ≤ 15 := by omega
theorem om679 (v0 : Int) (h0 : 0 ≤ v0 ∧ v0 ≤ 1500) : v0 ≤ 1500 := by omega
theorem om680 (v0 : Int) (v1 : Int) (h0 : 0 ≤ v1) (h1 : 0 ≤ v0 ∧ v0 ≤ 1500) (h2 : -2147483648 ≤ v1 ∧ v1 ≤ 2147483647) : -2147483648 ≤ v0 - v1 ∧ v0 - v1 ≤ 2147483647 := by omega
theorem om681 (v0 : Int) (v1 : Int) (v2 : Int) (v3 : Int) (v4 : Int) (v5 : Int) (v6 : Int) (v7 : Int) (v8 : Int) (v9 : Int) (v10 : Int) (h0 : v0 ≤ v2) (h1 : v3 ≤ v1) (h2 : v4 = v2) (h3 : v5 ≤ v3) (h4 : v4 ≤ v6) (h5 : v5 = v7) (h6 : v6 ≤ v8) (h7 : v9 ≤ v7) (h8 : v8 ≤ v10) (h9 : v10 ≤ v9) : v0 ≤ v1 := by omega
theorem om682 (v0 : Int) (h0 : 0 ≤ v0 ∧ v0 ≤ 1500) : 0 ≤ v0 := by omega
theorem om683 (v0 : Int) (v1 : Int) (h0 : 0 ≤ v0) (h1 : v0 < v1) (h2 : 0 ≤ v1 ∧ v1 ≤ 3001) : 0 ≤ v0 ∧ v0 < (3001 : Nat) := by omega
theorem om684 (v0 : Int) (v1 : Int) (v2 : Int) (h0 : 0 ≤ v0) (h1 : v0 < v2) (h2 : 0 ≤ v2 ∧ v2 ≤ 3001) (h3 : v1 = 1) : -2147483648 ≤ v0 + v1 ∧ v0 + v1 ≤ 2147483647 := by omega
theorem om685 (v0 : Int) (h0 : v0 = 6) : 0 ≤ v0 := by omega
theorem om686 (v0 : Int) (h0 : v0 = 8) : v0 ≤ 1500 := by omega
theorem om687 (v0 : Int) (v1 : Int) (h0 : v0 ≤ v1) (h1 : 0 ≤ v0 ∧ v0 ≤ 3001) (h2 : 0 ≤ v1 ∧ v1 ≤ 1500) : 0 ≤ v0 ∧ v0 ≤ 3001 := by omega
theorem om688 (v0 : Int) (v1 : Int) (h0 : 0 ≤ v0 ∧ v0 ≤ 255) (h1 : v0 ≠ v1) (h2 : v1 = 0) : -2147483648 ≤ v0 * 4 ∧ v0 * 4 ≤ 2147483647 := by omega
theorem om689 (v0 : Int) (v1 : Int) (v2 : Int) (v3 : Int) (h0 : v0 = v2 * 4) (h1 : 0 ≤ v2 ∧ v2 ≤ 255) (h2 : v2 ≠ v3) (h3 : -2147483648 ≤ v0 ∧ v0 ≤ 2147483647) (h4 : v1 = 4) (h5 : v3 = 0) : -2147483648 ≤ v0 + v1 ∧ v0 + v1 ≤ 2147483647 := by omega
theorem om690 (v0 : Int) (v1 : Int) (v2 : Int) (v3 : Int) (v4 : Int) (h0 : 0 ≤ v0 ∧ v0 ≤ 1500) (h1 : v1 = v0 + 1 ∧ v2 = v3 ∨ v1 = v0 ∧ 1 ≤ v2) (h2 : v2 ≤ v4) (h3 : v4 = 0) : 0 ≤ v0 ∧ v0 ≤ v1 := by omega
theorem om691 (v0 : Int) (v1 : Int) (v2 : Int) (v3 : Int) (v4 : Int) (h0 : v0 = v1 + v2) (h1 : v1 = v3 * 4) (h2 : 0 ≤ v3 ∧ v3 ≤ 255) (h3 : v3 ≠ v4) (h4 : v2 = 4) (h5 : v4 = 0) : 8 ≤ v0 ∧ v0 ≤ 1024 := by omega
theorem om692 (v0 : Int) (v1 : Int) (v2 : Int) (v3 : Int) (v4 : Int) (v5 : Int) (v6 : Int) (h0 : v1 = v2 + 1 ∧ v3 = v4 ∨ v1 = v2 ∧ 1 ≤ v3) (h1 : v0 = v5) (h2 : v5 ≤ v2) (h3 : v3 ≤ v6) (h4 : v6 = 0) : v0 < v1 := by omega
theorem om693 (v0 : Int) (v1 : Int) (v2 : Int) (v3 : Int) (v4 : Int) (v5 : Int) (v6 : Int) (h0 : v0 = v2) (h1 : v1 = v3) (h2 : v4 = 1 → (0 ≤ v2 ∧ v2 ≤ v3 ∧ v5 = 0)) (h3 : 0 ≤ v4 ∧ v4 ≤ 1) (h4 : v4 ≠ v6) (h5 : v6 = 0) : 0 ≤ v0 ∧ v0 ≤ v1 := by omega
theorem om694 (v0 : Int) (v1 : Int) (h0 : 0 ≤ v0 ∧ v0 ≤ 15) (h1 : v0 ≤ v1) (h2 : v1 = 0) : v0 = 0 := by omega
theorem om695 (v0 : Int) (v1 : Int) (v2 : Int) (v3 : Int) (v4 : Int) (v5 : Int) (h0 : v0 = v1) (h1 : v2 = 1 → (0 ≤ v3 ∧ v3 ≤ v4 ∧ v1 = 0)) (h2 : 0 ≤ v1 ∧ v1 ≤ 1) (h3 : 0 ≤ v2 ∧ v2 ≤ 1) (h4 : v2 ≠ v5) (h5 : v5 = 0) : v0 = 0 := by omega
theorem om696 (v0 : Int) (v1 : Int) (v2 : Int) (v3 : Int) (v4 : Int) (v5 : Int) (v6 : Int) (h0 : v0 = v1) (h1 : v1 ≤ v2) (h2 : 0 ≤ v1 ∧ v1 ≤ 3001) (h3 : v3 = v2 + 1 ∧ v4 = v5 ∨ v3 = v2 ∧ 1 ≤ v4) (h4 : 0 ≤ v3 ∧ v3 ≤ 1500) (h5 : v4 ≤ v6) (h6 : v6 = 0) : 0 ≤ v0 ∧ v0 ≤ 3001 := by omega
theorem om697 (v0 : Int) (v1 : Int) (v2 : Int) (v3 : Int) (v4 : Int) (v5 : Int) (v6 : Int) (v7 : Int) (h0 : 20 * (1502 - v3) - v4 ≤ v2 + 1) (h1 : v5 ≤ v0) (h2 : 0 ≤ v1 ∧ v1 ≤ 15) (h3 : v5 = v3 + 1 ∧ v6 = v4 ∨ v5 = v3 ∧ 1 ≤ v6) (h4 : v6 ≤ v7) (h5 : v7 = 0) : 20 * (1502 - v0) - v1 ≤ v2 := by omega
theorem om698 (v0 : Int) (v1 : Int) (h0 : 0 ≤ v1 ∧ v1 ≤ 15) (h1 : 0 ≤ v0 ∧ v0 ≤ 1) (h2 : v0 = 1 → v1 = 0) : v0 = 1 → v1 = 0 := by omega
theorem om699 (v0 : Int) (v1 : Int) (v2 : Int) (v3 : Int) (v4 : Int) (h0 : v4 = 0 → (0 ≤ v1 ∧ v1 ≤ v2 ∧ v3 = 0)) (h1 : 0 ≤ v3 ∧ v3 ≤ 1) (h2 : 0 ≤ v0 ∧ v0 ≤ 1) (h3 : v0 = 1 → v4 = 0) (h4 : 0 ≤ v4 ∧ v4 ≤ 15) : v0 = 1 → (0 ≤ v1 ∧ v1 ≤ v2 ∧ v3 = 0) := by omega
theorem om700 (v0 : Int) (v1 : Int) (h0 : v0 = 0) : v0 = 1 → v1 = 0 := by omega
theorem om701 (v0 : Int) (v1 : Int) (v2 : Int) (h0 : 0 ≤ v1 ∧ v1 ≤ 15) (h1 : v1 = v2) (h2 : v2 = 0) : v0 = 1 → v1 = 0 := by omega
theorem om702 (v0 : Int) (v1 : Int) (v2 : Int) (h0 : v0 = v1) (h1 : v1 ≤ v2) (h2 : 0 ≤ v1 ∧ v1 ≤ 3001) (h3 : 0 ≤ v2 ∧ v2 ≤ 1500) : 0 ≤ v0 ∧ v0 ≤ 3001 := by omega
theorem om703 (v0 : Int) (v1 : Int) (h0 : 0 ≤ v1 ∧ v1 ≤ 15) (h1 : v0 = 1 → v1 = 0) : v0 = 1 → v1 = 0 := by omega
theorem om704 (v0 : Int) (v1 : Int) (v2 : Int) (v3 : Int) (v4 : Int) (v5 : Int) (v6 : Int) (v7 : Int) (h0 : v2 ≤ v1) (h1 : v0 = v3) (h2 : v3 ≤ v4) (h3 : v2 = v5) (h4 : v4 ≤ v6) (h5 : v7 ≤ v5) (h6 : v6 ≤ v7) : v0 ≤ v1 := by omega
theorem om705 (v0 : Int) (v1 : Int) (v2 : Int) (v3 : Int) (v4 : Int) (v5 : Int) (v6 : Int) (h0 : v1 = v4) (h1 : v2 = v5) (h2 : v3 = v6) (h3 : 0 ≤ v4 ∧ v4 ≤ v5) (h4 : v6 = 0) (h5 : 0 ≤ v6 ∧ v6 ≤ 1) : v0 = 1 → (0 ≤ v1 ∧ v1 ≤ v2 ∧ v3 = 0) := by omega
theorem om706 (v0 : Int) (v1 : Int) (v2 : Int) (v3 : Int) (v4 : Int) (v5 : Int) (h0 : v0 ≤ v2) (h1 : v3 ≤ v1) (h2 : v2 ≤ v4) (h3 : v3 = v5) (h4 : v4 ≤ v5) : v0 ≤ v1 := by omega
theorem om707 (v0 : Int) (v1 : Int) (v2 : Int) (h0 : v0 = v1) (h1 : 0 ≤ v1 ∧ v1 ≤ 15) (h2 : v1 ≠ v2) (h3 : v2 = 0) : 0 ≤ v0 ∧ v0 ≤ 15 := by omega
theorem om708 (v0 : Int) (h0 : v0 = 14) : 1 ≤ v0 ∧ v0 ≤ 15 := by omega
theorem om709 (v0 : Int) (v1 : Int) (v2 : Int) (h0 : 0 ≤ v0) (h1 : v0 < v2) (h2 : v1 = 1) (h3 : v2 = 6) : -2147483648 ≤ v0 + v1 ∧ v0 + v1 ≤ 2147483647 := by omega
theorem om710 (v0 : Int) (h0 : v0 = 0) : 1 ≤ v0 → 1 ≤ v0 := by omega
set_option maxHeartbeats 4000000 in
set_option maxRecDepth 100000 in
/-- X12_sum on (0,) -/
theorem jm_X12_sum (l : Launch) (hlt : l.stackTraces = false) (D : va_G) (t3 : Nat × Nat × Nat) (cI cJ : ClassId) (ad : Nat → Nat) (g : Nat → Int32) (lg : Nat → Int64) (ar : Nat → Nat → Int32) (bk : Nat → Int64) (sz : Nat) (y1 : Int32) (y2 : Int32) (hr0 : 0 ≤ (y1).toInt) (hr1 : (y2).toInt ≤ 1500) : JMi l yX12_sum (Cond.code yX12_sum cX12_sum 4 (some .int) :: wwM) { frames := 1, cells := 0, slots := 0, locals := 21 } t3 D mw cI cJ ad [.ref (ad 0), .int y1, .int y2] (mw cI cJ ad g lg ar bk) sz 0 0 (fun (r : Int32) g' lg' ar' bk' => hk_fr [14] g g' ∧ lg = lg' ∧ ar = ar' ∧ bk = bk') (fun g' lg' ar' bk' => False) := by
  refine jx_meti (cc := cX12_sum) (maxL := 4) (ret := (some .int)) rfl (by decide) rfl (Nat.le_of_ble_eq_true rfl) ?_
  intro p e s m args below meth c ls Q A hx hb hml hown hts hA hZ hw hl hQ kr kt
  have hq : ∀ w ∈ wwM, w.before args s = true := fun w h => hts w (List.mem_cons_of_mem _ h)
  have hl : lv_has ls 4 [(0, .ref (ad 0)), (1, .int y1), (2, .int y2)] := hl
  refine lv_aload_n hx hb dX12_sum_0 rfl (lv_at hl 0 rfl) ?_
  refine jx_Vv (As := []) (rest := []) ⟨hx, hb, hml, hown, hts⟩ hZ hw hA (jm_X12_begin32 l hlt D t3 cI cJ ad g lg ar bk _) (cwV 0 hts (jx_gV wwM_good wM_44 wM_45 wM_46 wM_8 wM_47) rfl rfl rfl (by decide +kernel) ⟨Nat.le_of_ble_eq_true rfl, Nat.le_of_ble_eq_true rfl⟩) 0 (ci := 15) (T := TX12) (N := 92) rfl rfl rfl hl.1 rfl (Nat.le_of_ble_eq_true rfl) dX12_sum_1 ⟨Nat.le_of_ble_eq_true rfl, Nat.le_of_ble_eq_true rfl⟩ (fun _ _ _ _ _ _ _ _ hp _ _ _ _ => hp.elim) (fun g6 l7 a8 b9 H locs hp10 hw => ?_)
  obtain ⟨h11, rfl, rfl, rfl⟩ := hp10
  refine lv_iload_n hx hb dX12_sum_4 rfl (lv_at hl 1 rfl) ?_
  refine lv_istore_n (lv' := [(3, .int y1), (0, .ref (ad 0)), (1, .int y1), (2, .int y2)]) hx hb dX12_sum_5 rfl hl (by decide) rfl (fun ls hl => ?_)
  have B15 : ∀ (k18 : Nat) (x16 : Int32) (g17 : Nat → Int32) (ls : Array Slot) (H : Heap) (locs : List Loc), (2147483648 - (x16).toInt ≤ (k18 : Int)) → (0 ≤ (x16).toInt) → (hk_fr [14] g6 g17) → hk_W D (jT cI cJ) A s H locs (mw cI cJ ad g17 lg ar bk) → lv_has ls 4 [(0, .ref (ad 0)), (2, .int y2), (3, .int x16)] → W p l e { frames := 1, cells := 0, slots := 0, locals := 21 } s m args below meth c H locs 0 0 Q (F0 m 6 ls []) := by
    intro k18
    induction k18 with
    | zero =>
      intro x16 g17 ls H locs hrk_B15 hf_B15_0 hfr_g17 hw hl
      exact False.elim (hk_no0 (0 * (x16).toInt) (om30 ((x16).toInt) hrk_B15 (hE_rng (x16))) (by simp))
    | succ k18 ih_B15 =>
      intro x16 g17 ls H locs hrk_B15 hf_B15_0 hfr_g17 hw hl
      have hrk_B15 := hk_rk hrk_B15
      refine lv_iload_n hx hb dX12_sum_6 rfl (lv_at hl 2 rfl) ?_
      refine lv_iload_n hx hb dX12_sum_7 rfl (lv_at hl 1 rfl) ?_
      refine lv_icmp_ge (tgt := 27) hx hb dX12_sum_8 (by decide) (fun cc19 => ?_) (fun cc19 => ?_)
      · refine lv_aload_n hx hb dX12_sum_27 rfl (lv_at hl 0 rfl) ?_
        refine jx_Vi (As := []) (rest := []) ⟨hx, hb, hml, hown, hts⟩ hZ hw hA (jm_X12_end32 l hlt D t3 cI cJ ad g17 lg ar bk _) (cwV 0 hts (jx_gV wwM_good wM_131 wM_132 wM_133 wM_8 wM_134) rfl rfl rfl (by decide +kernel) ⟨Nat.le_of_ble_eq_true rfl, Nat.le_of_ble_eq_true rfl⟩) 0 (ci := 15) (T := TX12) (N := 92) rfl rfl rfl hl.1 rfl (Nat.le_of_ble_eq_true rfl) dX12_sum_28 ⟨Nat.le_of_ble_eq_true rfl, Nat.le_of_ble_eq_true rfl⟩ (fun _ _ _ _ _ _ _ _ hp _ _ _ _ => hp.elim) (fun r24 g25 l26 a27 b28 H locs hp29 hw => ?_)
        obtain ⟨rfl, rfl, rfl, rfl⟩ := hp29
        exact kr r24 g17 lg ar bk _ _ _ _ ⟨(hk_frT h11 (by decide) hfr_g17), rfl, rfl, rfl⟩ hw dX12_sum_31
      · refine lv_aload_n hx hb dX12_sum_11 rfl (lv_at hl 0 rfl) ?_
        refine lv_aload_n hx hb dX12_sum_12 rfl (lv_at hl 0 rfl) ?_
        refine hk_get (ci := 15) (C := RX12) (T := TX12) (N := 92) (v := .ref (ad 1)) hx hb hts (fun _ h => List.mem_cons_of_mem _ (wwMc_wsX120 _ h)) hown hw 0 rfl rfl 12 (by decide) (hq _ wM_203) rfl dX12_sum_13 ?_
        refine lv_iload_n hx hb dX12_sum_16 rfl (lv_at hl 2 rfl) ?_
        refine jx_iald hx hb hw 1 0 rfl rfl (hE_in (n := 1500) (om588 ((x16).toInt) ((y2).toInt) hf_B15_0 (hE_nle cc19) hr1)) dX12_sum_17 (fun z34 hz34 => ?_)
        refine jx_Vv (As := [.int z34]) (rest := []) ⟨hx, hb, hml, hown, hts⟩ hZ hw hA (jm_X12_add32 l hlt D t3 cI cJ ad g17 lg ar bk _ z34) (cwV 1 hts (jx_gV wwM_good wM_5 wM_6 wM_7 wM_8 wM_9) rfl rfl rfl (by decide +kernel) ⟨Nat.le_of_ble_eq_true rfl, Nat.le_of_ble_eq_true rfl⟩) 0 (ci := 15) (T := TX12) (N := 92) rfl rfl rfl hl.1 rfl (Nat.le_of_ble_eq_true rfl) dX12_sum_18 ⟨Nat.le_of_ble_eq_true rfl, Nat.le_of_ble_eq_true rfl⟩ (fun _ _ _ _ _ _ _ _ hp _ _ _ _ => hp.elim) (fun g40 l41 a42 b43 H locs hp44 hw => ?_)
        obtain ⟨h45, rfl, rfl, rfl⟩ := hp44
        obtain ⟨z49, hz49⟩ : ∃ z : Int32, x16 + 1 = z := ⟨_, rfl⟩
        refine lv_iinc (v := z49) (lv' := [(3, .int z49), (0, .ref (ad 0)), (2, .int y2)]) hx hb dX12_sum_21 hl (k := 2) rfl hz49 (by decide) rfl (fun ls hl => ?_)
        have xz49 : (z49).toInt = (x16).toInt + ((1 : Int32)).toInt := (hE_imp (hE_add hz49) (om589 ((x16).toInt) (((1 : Int32)).toInt) ((y2).toInt) hf_B15_0 (hE_nle cc19) hr1 (by decide)))
        refine lv_goto (tgt := 6) hx hb dX12_sum_24 (by decide) ?_
        exact ih_B15 z49 g40 ls _ _ (om11 ((z49).toInt) (k18 : Int) ((x16).toInt) (((1 : Int32)).toInt) hrk_B15 xz49 (by decide)) (om14 ((z49).toInt) ((x16).toInt) (((1 : Int32)).toInt) xz49 hf_B15_0 (by decide)) (hk_frT hfr_g17 (by decide) h45) hw (lv_sub hl [1, 2, 0] rfl)
  exact B15 (2147483648 - (y1).toInt).toNat y1 g6 ls _ _ (Int.self_le_toNat _) (om4 ((y1).toInt) hr0) hk_fr0 hw (lv_sub hl [1, 3, 0] rfl)

set_option maxHeartbeats 4000000 in
set_option maxRecDepth 100000 in
/-- X12_wantByte on (0,) -/
theorem jm_X12_wantByte (l : Launch) (hlt : l.stackTraces = false) (D : va_G) (t3 : Nat × Nat × Nat) (cI cJ : ClassId) (ad : Nat → Nat) (g : Nat → Int32) (lg : Nat → Int64) (ar : Nat → Nat → Int32) (bk : Nat → Int64) (sz : Nat) (y1 : Int32) (y2 : Int32) (hr0 : 1 ≤ (y2).toInt ∧ (y2).toInt ≤ 15) (hi_g49 : 0 ≤ (g 49).toInt ∧ (g 49).toInt ≤ 1500) (hi_g51 : 0 ≤ (g 51).toInt ∧ (g 51).toInt ≤ 15) (hi_g12 : 0 ≤ (g 12).toInt ∧ (g 12).toInt ≤ 1500) (hi_a0rg : hk_rg 0 255 (ar 0)) : JMv l yX12_wantByte (Cond.code yX12_wantByte cX12_wantByte 4 none :: wwM) { frames := 2, cells := 0, slots := 0, locals := 41 } t3 D mw cI cJ ad [.ref (ad 0), .int y1, .int y2] (mw cI cJ ad g lg ar bk) sz 0 0 (fun g' lg' ar' bk' => hk_fr [49, 51] g g' ∧ lg = lg' ∧ ar = ar' ∧ bk = bk' ∧ ((g 49).toInt ≤ (g' 49).toInt) ∧ ((1 ≤ (g 51).toInt → 1 ≤ (g' 51).toInt)) ∧ ((g 51).toInt = 0 → (g 49).toInt < (g' 49).toInt ∨ 1 ≤ (g' 51).toInt) ∧ (0 ≤ (g' 49).toInt ∧ (g' 49).toInt ≤ 1500) ∧ (0 ≤ (g' 51).toInt ∧ (g' 51).toInt ≤ 15)) (fun g' lg' ar' bk' => False) := by
  refine jx_metv (cc := cX12_wantByte) (maxL := 4) (ret := none) rfl (by decide) rfl (Nat.le_of_ble_eq_true rfl) ?_
  intro p e s m args below meth c ls Q A hx hb hml hown hts hA hZ hw hl hQ kr kt
  have hq : ∀ w ∈ wwM, w.before args s = true := fun w h => hts w (List.mem_cons_of_mem _ h)
  have hl : lv_has ls 4 [(0, .ref (ad 0)), (1, .int y1), (2, .int y2)] := hl
  refine lv_aload_n hx hb dX12_wantByte_0 rfl (lv_at hl 0 rfl) ?_
  refine jx_Vi (As := []) (rest := []) ⟨hx, hb, hml, hown, hts⟩ hZ hw hA (jm_X12_next l hlt D t3 cI cJ ad g lg ar bk _ (om202 ((g 49).toInt) hi_g49) (om206 ((g 51).toInt) hi_g51) (om202 ((g 12).toInt) hi_g12) hi_a0rg) (cwV 0 hts (jx_gV wwM_good wM_59 wM_60 wM_61 wM_8 wM_62) rfl rfl rfl (by decide +kernel) ⟨Nat.le_of_ble_eq_true rfl, Nat.le_of_ble_eq_true rfl⟩) 0 (ci := 15) (T := TX12) (N := 92) rfl rfl rfl hl.1 rfl (Nat.le_of_ble_eq_true rfl) dX12_wantByte_1 ⟨Nat.le_of_ble_eq_true rfl, Nat.le_of_ble_eq_true rfl⟩ (fun _ _ _ _ _ _ _ _ hp _ _ _ _ => hp.elim) (fun r5 g6 l7 a8 b9 H locs hp10 hw => ?_)
  obtain ⟨h11, rfl, rfl, rfl, h15, h16, h17, h18, h19⟩ := hp10
  refine lv_istore_n (lv' := [(3, .int r5), (0, .ref (ad 0)), (1, .int y1), (2, .int y2)]) hx hb dX12_wantByte_4 rfl hl (by decide) rfl (fun ls hl => ?_)
  refine lv_aload_n hx hb dX12_wantByte_5 rfl (lv_at hl 1 rfl) ?_
  refine hk_get (ci := 15) (C := RX12) (T := TX12) (N := 92) (v := .int (g6 51)) hx hb hts (fun _ h => List.mem_cons_of_mem _ (wwMc_wsX120 _ h)) hown hw 0 rfl rfl 78 (by decide) (hq _ wM_63) rfl dX12_wantByte_6 ?_
  refine lv_if_ne (tgt := 22) hx hb dX12_wantByte_9 (by decide) (fun cc20 => ?_) (fun cc20 => ?_)
  · exact kr g6 lg ar bk _ _ _ _ ⟨h11, rfl, rfl, rfl, (om204 ((g 49).toInt) ((g6 49).toInt) h17), (om590 ((g 51).toInt) ((g6 51).toInt) ((g6 49).toInt) ((g 49).toInt) h16), (om591 ((g 51).toInt) ((g 49).toInt) ((g6 49).toInt) ((g6 51).toInt) h16), (om202 ((g6 49).toInt) h18), (om185 ((g6 51).toInt) (((0 : Int32)).toInt) h19 (hE_ne cc20) (by decide))⟩ hw dX12_wantByte_22
  · refine lv_iload_n hx hb dX12_wantByte_12 rfl (lv_at hl 0 rfl) ?_
    refine lv_iload_n hx hb dX12_wantByte_13 rfl (lv_at hl 2 rfl) ?_
    refine lv_icmp_eq (tgt := 22) hx hb dX12_wantByte_14 (by decide) (fun cc21 => ?_) (fun cc21 => ?_)
    · exact kr g6 lg ar bk _ _ _ _ ⟨h11, rfl, rfl, rfl, (om204 ((g 49).toInt) ((g6 49).toInt) h17), (om590 ((g 51).toInt) ((g6 51).toInt) ((g6 49).toInt) ((g 49).toInt) h16), (om591 ((g 51).toInt) ((g 49).toInt) ((g6 49).toInt) ((g6 51).toInt) h16), (om592 ((g6 49).toInt) ((g 49).toInt) ((g6 51).toInt) ((g 51).toInt) (((0 : Int32)).toInt) h16 h18 hi_g49 (hE_eq cc20) (by decide)), (om215 ((g6 51).toInt) (((0 : Int32)).toInt) h19 (hE_eq cc20) (by decide))⟩ hw dX12_wantByte_22
    · refine lv_aload_n hx hb dX12_wantByte_17 rfl (lv_at hl 1 rfl) ?_
      refine lv_iload_n hx hb dX12_wantByte_18 rfl (lv_at hl 3 rfl) ?_
      refine jx_Vv (As := [.int y2]) (rest := []) ⟨hx, hb, hml, hown, hts⟩ hZ hw hA (jm_X12_fail l hlt D t3 cI cJ ad g6 lg ar bk _ y2 (om593 ((y2).toInt) hr0) (om215 ((g6 51).toInt) (((0 : Int32)).toInt) h19 (hE_eq cc20) (by decide))) (cwV 1 hts (jx_gV wwM_good wM_64 wM_65 wM_66 wM_8 wM_67) rfl rfl rfl (by decide +kernel) ⟨Nat.le_of_ble_eq_true rfl, Nat.le_of_ble_eq_true rfl⟩) 0 (ci := 15) (T := TX12) (N := 92) rfl rfl rfl hl.1 rfl (Nat.le_of_ble_eq_true rfl) dX12_wantByte_19 ⟨Nat.le_of_ble_eq_true rfl, Nat.le_of_ble_eq_true rfl⟩ (fun _ _ _ _ _ _ _ _ hp _ _ _ _ => hp.elim) (fun g27 l28 a29 b30 H locs hp31 hw => ?_)
      obtain ⟨h32, rfl, rfl, rfl, h36, h37⟩ := hp31
      have e_g27_49 : g27 49 = (g6 49) := (h32 49 rfl)
      exact kr g27 lg ar bk _ _ _ _ ⟨(hk_frT h11 (by decide) h32), rfl, rfl, rfl, (om212 ((g 49).toInt) ((g27 49).toInt) ((g6 49).toInt) h17 (congrArg Int32.toInt e_g27_49)), (om342 ((g 51).toInt) ((g27 51).toInt) h36), (om594 ((g 51).toInt) ((g 49).toInt) ((g27 49).toInt) ((g27 51).toInt) h36), (om595 ((g27 49).toInt) ((g6 49).toInt) ((g 49).toInt) ((g6 51).toInt) ((g 51).toInt) (((0 : Int32)).toInt) (congrArg Int32.toInt e_g27_49) h16 h18 hi_g49 (hE_eq cc20) (by decide)), (om193 ((g27 51).toInt) h36 h37)⟩ hw dX12_wantByte_22

set_option maxHeartbeats 4000000 in
set_option maxRecDepth 100000 in
/-- X12_wantSum on (0,) -/
theorem jm_X12_wantSum (l : Launch) (hlt : l.stackTraces = false) (D : va_G) (t3 : Nat × Nat × Nat) (cI cJ : ClassId) (ad : Nat → Nat) (g : Nat → Int32) (lg : Nat → Int64) (ar : Nat → Nat → Int32) (bk : Nat → Int64) (sz : Nat) (y1 : Int32) (hi_g49 : 0 ≤ (g 49).toInt ∧ (g 49).toInt ≤ 1500) (hi_g51 : 0 ≤ (g 51).toInt ∧ (g 51).toInt ≤ 15) (hi_g12 : 0 ≤ (g 12).toInt ∧ (g 12).toInt ≤ 1500) (hi_a0rg : hk_rg 0 255 (ar 0)) : JMv l yX12_wantSum (Cond.code yX12_wantSum cX12_wantSum 3 none :: wwM) { frames := 3, cells := 0, slots := 0, locals := 65 } t3 D mw cI cJ ad [.ref (ad 0), .int y1] (mw cI cJ ad g lg ar bk) sz 0 0 (fun g' lg' ar' bk' => hk_fr [49, 51] g g' ∧ lg = lg' ∧ ar = ar' ∧ bk = bk' ∧ ((g 49).toInt ≤ (g' 49).toInt) ∧ ((1 ≤ (g 51).toInt → 1 ≤ (g' 51).toInt)) ∧ (0 ≤ (g' 49).toInt ∧ (g' 49).toInt ≤ 1500) ∧ (0 ≤ (g' 51).toInt ∧ (g' 51).toInt ≤ 15)) (fun g' lg' ar' bk' => False) := by
  refine jx_metv (cc := cX12_wantSum) (maxL := 3) (ret := none) rfl (by decide) rfl (Nat.le_of_ble_eq_true rfl) ?_
  intro p e s m args below meth c ls Q A hx hb hml hown hts hA hZ hw hl hQ kr kt
  have hq : ∀ w ∈ wwM, w.before args s = true := fun w h => hts w (List.mem_cons_of_mem _ h)
  have hl : lv_has ls 3 [(0, .ref (ad 0)), (1, .int y1)] := hl
  refine lv_aload_n hx hb dX12_wantSum_0 rfl (lv_at hl 0 rfl) ?_
  refine lv_iconst (v := 4) hx hb dX12_wantSum_1 (by decide) ?_
  refine jx_Vl (As := [.int 4]) (rest := []) ⟨hx, hb, hml, hown, hts⟩ hZ hw hA (jm_X12_nextWide l hlt D t3 cI cJ ad g lg ar bk _ 4 (om493 (((4 : Int32)).toInt) (by decide)) (om202 ((g 49).toInt) hi_g49) (om206 ((g 51).toInt) hi_g51) (om202 ((g 12).toInt) hi_g12) hi_a0rg) (cwV 1 hts (jx_gV wwM_good wM_338 wM_339 wM_340 wM_8 wM_341) rfl rfl rfl (by decide +kernel) ⟨Nat.le_of_ble_eq_true rfl, Nat.le_of_ble_eq_true rfl⟩) 0 (ci := 15) (T := TX12) (N := 92) rfl rfl rfl hl.1 rfl (Nat.le_of_ble_eq_true rfl) dX12_wantSum_2 ⟨Nat.le_of_ble_eq_true rfl, Nat.le_of_ble_eq_true rfl⟩ (fun _ _ _ _ _ _ _ _ hp _ _ _ _ => hp.elim) (fun r5 g6 l7 a8 b9 H locs hp10 hw => ?_)
  obtain ⟨h11, rfl, rfl, rfl, h15, h16, h17, h18⟩ := hp10
  refine lv_l2i hx hb dX12_wantSum_5 rfl (jx_nm fun z19 hz19 => ?_)
  refine lv_istore_n (lv' := [(2, .int z19), (0, .ref (ad 0)), (1, .int y1)]) hx hb dX12_wantSum_6 rfl hl (by decide) rfl (fun ls hl => ?_)
  refine lv_aload_n hx hb dX12_wantSum_7 rfl (lv_at hl 1 rfl) ?_
  refine hk_get (ci := 15) (C := RX12) (T := TX12) (N := 92) (v := .int (g6 51)) hx hb hts (fun _ h => List.mem_cons_of_mem _ (wwMc_wsX120 _ h)) hown hw 0 rfl rfl 78 (by decide) (hq _ wM_63) rfl dX12_wantSum_8 ?_
  refine lv_if_ne (tgt := 25) hx hb dX12_wantSum_11 (by decide) (fun cc20 => ?_) (fun cc20 => ?_)
  · exact kr g6 lg ar bk _ _ _ _ ⟨h11, rfl, rfl, rfl, (om204 ((g 49).toInt) ((g6 49).toInt) h15), (om318 ((g 51).toInt) ((g6 51).toInt) h16), (om202 ((g6 49).toInt) h17), (om185 ((g6 51).toInt) (((0 : Int32)).toInt) h18 (hE_ne cc20) (by decide))⟩ hw dX12_wantSum_25
  · refine lv_iload_n hx hb dX12_wantSum_14 rfl (lv_at hl 0 rfl) ?_
    refine lv_iload_n hx hb dX12_wantSum_15 rfl (lv_at hl 2 rfl) ?_
    refine lv_icmp_eq (tgt := 25) hx hb dX12_wantSum_16 (by decide) (fun cc21 => ?_) (fun cc21 => ?_)
    · exact kr g6 lg ar bk _ _ _ _ ⟨h11, rfl, rfl, rfl, (om204 ((g 49).toInt) ((g6 49).toInt) h15), (om318 ((g 51).toInt) ((g6 51).toInt) h16), (om202 ((g6 49).toInt) h17), (om215 ((g6 51).toInt) (((0 : Int32)).toInt) h18 (hE_eq cc20) (by decide))⟩ hw dX12_wantSum_25
    · refine lv_aload_n hx hb dX12_wantSum_19 rfl (lv_at hl 1 rfl) ?_
      refine lv_bipush (v := 9) hx hb dX12_wantSum_20 (by decide) ?_
      refine jx_Vv (As := [.int 9]) (rest := []) ⟨hx, hb, hml, hown, hts⟩ hZ hw hA (jm_X12_fail l hlt D t3 cI cJ ad g6 lg ar bk _ 9 (om596 (((9 : Int32)).toInt) (by decide)) (om215 ((g6 51).toInt) (((0 : Int32)).toInt) h18 (hE_eq cc20) (by decide))) (cwV 1 hts (jx_gV wwM_good wM_64 wM_65 wM_66 wM_8 wM_67) rfl rfl rfl (by decide +kernel) ⟨Nat.le_of_ble_eq_true rfl, Nat.le_of_ble_eq_true rfl⟩) 0 (ci := 15) (T := TX12) (N := 92) rfl rfl rfl hl.1 rfl (Nat.le_of_ble_eq_true rfl) dX12_wantSum_22 ⟨Nat.le_of_ble_eq_true rfl, Nat.le_of_ble_eq_true rfl⟩ (fun _ _ _ _ _ _ _ _ hp _ _ _ _ => hp.elim) (fun g27 l28 a29 b30 H locs hp31 hw => ?_)
      obtain ⟨h32, rfl, rfl, rfl, h36, h37⟩ := hp31
      have e_g27_49 : g27 49 = (g6 49) := (h32 49 rfl)
      exact kr g27 lg ar bk _ _ _ _ ⟨(hk_frT h11 (by decide) h32), rfl, rfl, rfl, (om212 ((g 49).toInt) ((g27 49).toInt) ((g6 49).toInt) h15 (congrArg Int32.toInt e_g27_49)), (om342 ((g 51).toInt) ((g27 51).toInt) h36), (om21 ((g27 49).toInt) ((g6 49).toInt) (congrArg Int32.toInt e_g27_49) h17), (om193 ((g27 51).toInt) h36 h37)⟩ hw dX12_wantSum_25

set_option maxHeartbeats 4000000 in
set_option maxRecDepth 100000 in
/-- X12_readV on (0,) -/
theorem jm_X12_readV (l : Launch) (hlt : l.stackTraces = false) (D : va_G) (t3 : Nat × Nat × Nat) (cI cJ : ClassId) (ad : Nat → Nat) (g : Nat → Int32) (lg : Nat → Int64) (ar : Nat → Nat → Int32) (bk : Nat → Int64) (sz : Nat) (y1 : Int32) (hr0 : 1 ≤ (y1).toInt ∧ (y1).toInt ≤ 15) (hi_g49 : 0 ≤ (g 49).toInt ∧ (g 49).toInt ≤ 1500) (hi_g51 : 0 ≤ (g 51).toInt ∧ (g 51).toInt ≤ 15) (hi_g12 : 0 ≤ (g 12).toInt ∧ (g 12).toInt ≤ 1500) (hi_a0rg : hk_rg 0 255 (ar 0)) : JMl l yX12_readV (Cond.code yX12_readV cX12_readV 6 (some .long) :: wwM) { frames := 2, cells := 0, slots := 0, locals := 41 } t3 D mw cI cJ ad [.ref (ad 0), .int y1] (mw cI cJ ad g lg ar bk) sz 0 0 (fun (r : Int64) g' lg' ar' bk' => hk_fr [49, 51] g g' ∧ lg = lg' ∧ ar = ar' ∧ bk = bk' ∧ ((g 49).toInt ≤ (g' 49).toInt) ∧ ((1 ≤ (g 51).toInt → 1 ≤ (g' 51).toInt)) ∧ (0 ≤ (g' 49).toInt ∧ (g' 49).toInt ≤ 1500) ∧ (0 ≤ (g' 51).toInt ∧ (g' 51).toInt ≤ 15)) (fun g' lg' ar' bk' => False) := by
  refine jx_metl (cc := cX12_readV) (maxL := 6) (ret := (some .long)) rfl (by decide) rfl (Nat.le_of_ble_eq_true rfl) ?_
  intro p e s m args below meth c ls Q A hx hb hml hown hts hA hZ hw hl hQ kr kt
  have hq : ∀ w ∈ wwM, w.before args s = true := fun w h => hts w (List.mem_cons_of_mem _ h)
  have hl : lv_has ls 6 [(0, .ref (ad 0)), (1, .int y1)] := hl
  refine lv_lconst (v := 0) hx hb dX12_readV_0 (by decide) ?_
  refine lv_lstore_n (lv' := [(2, .long 0), (0, .ref (ad 0)), (1, .int y1)]) hx hb dX12_readV_1 rfl hl (by decide) rfl (fun ls hl => ?_)
  refine lv_iconst (v := 0) hx hb dX12_readV_2 (by decide) ?_
  refine lv_istore (lv' := [(4, .int 0), (2, .long 0), (0, .ref (ad 0)), (1, .int y1)]) hx hb dX12_readV_3 hl (by decide) rfl (fun ls hl => ?_)
  have B1 : ∀ (k5 : Nat) (x2 : Int64) (x3 : Int32) (g4 : Nat → Int32) (ls : Array Slot) (H : Heap) (locs : List Loc), (2147483648 - (x3).toInt ≤ (k5 : Int)) → (0 ≤ (x3).toInt) → ((g 49).toInt ≤ (g4 49).toInt) → (1 ≤ (g 51).toInt → 1 ≤ (g4 51).toInt) → (0 ≤ (g4 49).toInt ∧ (g4 49).toInt ≤ 1500) → (0 ≤ (g4 51).toInt ∧ (g4 51).toInt ≤ 15) → (hk_fr [49, 51] g g4) → hk_W D (jT cI cJ) A s H locs (mw cI cJ ad g4 lg ar bk) → lv_has ls 6 [(0, .ref (ad 0)), (1, .int y1), (2, .long x2), (4, .int x3)] → W p l e { frames := 2, cells := 0, slots := 0, locals := 41 } s m args below meth c H locs 0 0 Q (F0 m 5 ls []) := by
    intro k5
    induction k5 with
    | zero =>
      intro x2 x3 g4 ls H locs hrk_B1 hf_B1_0 hf_B1_1 hf_B1_2 hf_B1_3 hf_B1_4 hfr_g4 hw hl
      exact False.elim (hk_no0 (0 * (x3).toInt) (om30 ((x3).toInt) hrk_B1 (hE_rng (x3))) (by simp))
    | succ k5 ih_B1 =>
      intro x2 x3 g4 ls H locs hrk_B1 hf_B1_0 hf_B1_1 hf_B1_2 hf_B1_3 hf_B1_4 hfr_g4 hw hl
      have hrk_B1 := hk_rk hrk_B1
      refine lv_iload hx hb dX12_readV_5 (lv_at hl 3 rfl) ?_
      refine lv_bipush (v := 9) hx hb dX12_readV_7 (by decide) ?_
      refine lv_icmp_ge (tgt := 73) hx hb dX12_readV_9 (by decide) (fun cc6 => ?_) (fun cc6 => ?_)
      · refine lv_aload_n hx hb dX12_readV_73 rfl (lv_at hl 0 rfl) ?_
        refine lv_iload_n hx hb dX12_readV_74 rfl (lv_at hl 1 rfl) ?_
        refine jx_Vv (As := [.int y1]) (rest := []) ⟨hx, hb, hml, hown, hts⟩ hZ hw hA (jm_X12_fail l hlt D t3 cI cJ ad g4 lg ar bk _ y1 (om593 ((y1).toInt) hr0) (om206 ((g4 51).toInt) hf_B1_4)) (cwV 1 hts (jx_gV wwM_good wM_64 wM_65 wM_66 wM_8 wM_67) rfl rfl rfl (by decide +kernel) ⟨Nat.le_of_ble_eq_true rfl, Nat.le_of_ble_eq_true rfl⟩) 0 (ci := 15) (T := TX12) (N := 92) rfl rfl rfl hl.1 rfl (Nat.le_of_ble_eq_true rfl) dX12_readV_75 ⟨Nat.le_of_ble_eq_true rfl, Nat.le_of_ble_eq_true rfl⟩ (fun _ _ _ _ _ _ _ _ hp _ _ _ _ => hp.elim) (fun g12 l13 a14 b15 H locs hp16 hw => ?_)
        obtain ⟨h17, rfl, rfl, rfl, h21, h22⟩ := hp16
        refine lv_lconst (v := 0) hx hb dX12_readV_78 (by decide) ?_
        have e_g12_49 : g12 49 = (g4 49) := (h17 49 rfl)
        exact kr 0 g12 lg ar bk _ _ _ _ ⟨(hk_frT hfr_g4 (by decide) h17), rfl, rfl, rfl, (om212 ((g 49).toInt) ((g12 49).toInt) ((g4 49).toInt) hf_B1_1 (congrArg Int32.toInt e_g12_49)), (om342 ((g 51).toInt) ((g12 51).toInt) h21), (om21 ((g12 49).toInt) ((g4 49).toInt) (congrArg Int32.toInt e_g12_49) hf_B1_3), (om193 ((g12 51).toInt) h21 h22)⟩ hw dX12_readV_79
      · refine lv_aload_n hx hb dX12_readV_12 rfl (lv_at hl 0 rfl) ?_
        have e_g4_12 : g4 12 = (g 12) := (hfr_g4 12 rfl)
        refine jx_Vi (As := []) (rest := []) ⟨hx, hb, hml, hown, hts⟩ hZ hw hA (jm_X12_next l hlt D t3 cI cJ ad g4 lg ar bk _ (om202 ((g4 49).toInt) hf_B1_3) (om206 ((g4 51).toInt) hf_B1_4) (om21 ((g4 12).toInt) ((g 12).toInt) (congrArg Int32.toInt e_g4_12) hi_g12) hi_a0rg) (cwV 0 hts (jx_gV wwM_good wM_59 wM_60 wM_61 wM_8 wM_62) rfl rfl rfl (by decide +kernel) ⟨Nat.le_of_ble_eq_true rfl, Nat.le_of_ble_eq_true rfl⟩) 0 (ci := 15) (T := TX12) (N := 92) rfl rfl rfl hl.1 rfl (Nat.le_of_ble_eq_true rfl) dX12_readV_13 ⟨Nat.le_of_ble_eq_true rfl, Nat.le_of_ble_eq_true rfl⟩ (fun _ _ _ _ _ _ _ _ hp _ _ _ _ => hp.elim) (fun r27 g28 l29 a30 b31 H locs hp32 hw => ?_)
        obtain ⟨h33, rfl, rfl, rfl, h37, h38, h39, h40, h41⟩ := hp32
        refine lv_istore (lv' := [(5, .int r27), (0, .ref (ad 0)), (1, .int y1), (2, .long x2), (4, .int x3)]) hx hb dX12_readV_16 hl (by decide) rfl (fun ls hl => ?_)
        refine lv_aload_n hx hb dX12_readV_18 rfl (lv_at hl 1 rfl) ?_
        refine hk_get (ci := 15) (C := RX12) (T := TX12) (N := 92) (v := .int (g28 51)) hx hb hts (fun _ h => List.mem_cons_of_mem _ (wwMc_wsX120 _ h)) hown hw 0 rfl rfl 78 (by decide) (hq _ wM_63) rfl dX12_readV_19 ?_
        refine lv_if_le (tgt := 27) hx hb dX12_readV_22 (by decide) (fun cc42 => ?_) (fun cc42 => ?_)
        · refine lv_lload_n hx hb dX12_readV_27 rfl (lv_at hl 3 rfl) ?_
          refine lv_iload hx hb dX12_readV_28 (lv_at hl 0 rfl) ?_
          refine lv_bipush (v := 127) hx hb dX12_readV_30 (by decide) ?_
          refine lv_iand hx hb dX12_readV_32 (jx_nm fun z43 hz43 => ?_)
          refine lv_i2l hx hb dX12_readV_33 rfl (jx_nl fun z44 hz44 => ?_)
          refine lv_bipush (v := 7) hx hb dX12_readV_34 (by decide) ?_
          refine lv_iload hx hb dX12_readV_36 (lv_at hl 4 rfl) ?_
          refine lv_imul hx hb dX12_readV_38 (jx_nm fun z45 hz45 => ?_)
          have xz45 : (z45).toInt = (x3).toInt * 7 := (hE_imp (hE_mul' 7 hz45 (by decide)) (om597 ((x3).toInt) (((9 : Int32)).toInt) hf_B1_0 (hE_nle cc6) (by decide)))
          refine lv_lshl hx hb dX12_readV_39 rfl (jx_nl fun z46 hz46 => ?_)
          refine lv_lor hx hb dX12_readV_40 (jx_nl fun z47 hz47 => ?_)
          refine lv_lstore_n (lv' := [(2, .long z47), (5, .int r27), (0, .ref (ad 0)), (1, .int y1), (4, .int x3)]) hx hb dX12_readV_41 rfl hl (by decide) rfl (fun ls hl => ?_)
          refine lv_iload hx hb dX12_readV_42 (lv_at hl 1 rfl) ?_
          refine lv_sipush (v := 128) hx hb dX12_readV_44 (by decide) ?_
          refine lv_icmp_ge (tgt := 67) hx hb dX12_readV_47 (by decide) (fun cc48 => ?_) (fun cc48 => ?_)
          · obtain ⟨z49, hz49⟩ : ∃ z : Int32, x3 + 1 = z := ⟨_, rfl⟩
            refine lv_iinc (v := z49) (lv' := [(4, .int z49), (2, .long z47), (5, .int r27), (0, .ref (ad 0)), (1, .int y1)]) hx hb dX12_readV_67 hl (k := 4) rfl hz49 (by decide) rfl (fun ls hl => ?_)
            have xz49 : (z49).toInt = (x3).toInt + ((1 : Int32)).toInt := (hE_imp (hE_add hz49) (om598 ((x3).toInt) (((1 : Int32)).toInt) (((9 : Int32)).toInt) hf_B1_0 (hE_nle cc6) (by decide) (by decide)))
            refine lv_goto (tgt := 5) hx hb dX12_readV_70 (by decide) ?_
            exact ih_B1 z47 z49 g28 ls _ _ (om11 ((z49).toInt) (k5 : Int) ((x3).toInt) (((1 : Int32)).toInt) hrk_B1 xz49 (by decide)) (om14 ((z49).toInt) ((x3).toInt) (((1 : Int32)).toInt) xz49 hf_B1_0 (by decide)) (om209 ((g 49).toInt) ((g28 49).toInt) ((g4 49).toInt) hf_B1_1 h39) (om599 ((g 51).toInt) ((g28 51).toInt) ((g4 51).toInt) ((g28 49).toInt) ((g4 49).toInt) (((0 : Int32)).toInt) hf_B1_2 h38 (hE_le cc42) (by decide)) (om578 ((g28 49).toInt) ((g4 49).toInt) ((g28 51).toInt) ((g4 51).toInt) (((0 : Int32)).toInt) h38 h40 hf_B1_3 (hE_le cc42) (by decide)) (om189 ((g28 51).toInt) (((0 : Int32)).toInt) h41 (hE_le cc42) (by decide)) (hk_frT hfr_g4 (by decide) h33) hw (lv_sub hl [3, 4, 1, 0] rfl)
          · refine lv_iload hx hb dX12_readV_50 (lv_at hl 1 rfl) ?_
            refine lv_if_ne (tgt := 65) hx hb dX12_readV_52 (by decide) (fun cc50 => ?_) (fun cc50 => ?_)
            · refine lv_lload_n hx hb dX12_readV_65 rfl (lv_at hl 0 rfl) ?_
              exact kr z47 g28 lg ar bk _ _ _ _ ⟨(hk_frT hfr_g4 (by decide) h33), rfl, rfl, rfl, (om209 ((g 49).toInt) ((g28 49).toInt) ((g4 49).toInt) hf_B1_1 h39), (om600 ((g 51).toInt) ((g28 51).toInt) ((g4 51).toInt) ((g28 49).toInt) ((g4 49).toInt) hf_B1_2 h38), (om578 ((g28 49).toInt) ((g4 49).toInt) ((g28 51).toInt) ((g4 51).toInt) (((0 : Int32)).toInt) h38 h40 hf_B1_3 (hE_le cc42) (by decide)), (om189 ((g28 51).toInt) (((0 : Int32)).toInt) h41 (hE_le cc42) (by decide))⟩ hw dX12_readV_66
            · refine lv_iload hx hb dX12_readV_55 (lv_at hl 4 rfl) ?_
              refine lv_if_le (tgt := 65) hx hb dX12_readV_57 (by decide) (fun cc51 => ?_) (fun cc51 => ?_)
              · refine lv_lload_n hx hb dX12_readV_65 rfl (lv_at hl 0 rfl) ?_
                exact kr z47 g28 lg ar bk _ _ _ _ ⟨(hk_frT hfr_g4 (by decide) h33), rfl, rfl, rfl, (om209 ((g 49).toInt) ((g28 49).toInt) ((g4 49).toInt) hf_B1_1 h39), (om601 ((g 51).toInt) ((g28 51).toInt) ((g4 51).toInt) ((g28 49).toInt) ((g4 49).toInt) (((0 : Int32)).toInt) hf_B1_2 h38 (hE_le cc42) (by decide)), (om578 ((g28 49).toInt) ((g4 49).toInt) ((g28 51).toInt) ((g4 51).toInt) (((0 : Int32)).toInt) h38 h40 hf_B1_3 (hE_le cc42) (by decide)), (om189 ((g28 51).toInt) (((0 : Int32)).toInt) h41 (hE_le cc42) (by decide))⟩ hw dX12_readV_66
              · refine lv_aload_n hx hb dX12_readV_60 rfl (lv_at hl 2 rfl) ?_
                refine lv_iload_n hx hb dX12_readV_61 rfl (lv_at hl 3 rfl) ?_
                refine jx_Vv (As := [.int y1]) (rest := []) ⟨hx, hb, hml, hown, hts⟩ hZ hw hA (jm_X12_fail l hlt D t3 cI cJ ad g28 lg ar bk _ y1 (om593 ((y1).toInt) hr0) (om189 ((g28 51).toInt) (((0 : Int32)).toInt) h41 (hE_le cc42) (by decide))) (cwV 1 hts (jx_gV wwM_good wM_64 wM_65 wM_66 wM_8 wM_67) rfl rfl rfl (by decide +kernel) ⟨Nat.le_of_ble_eq_true rfl, Nat.le_of_ble_eq_true rfl⟩) 0 (ci := 15) (T := TX12) (N := 92) rfl rfl rfl hl.1 rfl (Nat.le_of_ble_eq_true rfl) dX12_readV_62 ⟨Nat.le_of_ble_eq_true rfl, Nat.le_of_ble_eq_true rfl⟩ (fun _ _ _ _ _ _ _ _ hp _ _ _ _ => hp.elim) (fun g57 l58 a59 b60 H locs hp61 hw => ?_)
                obtain ⟨h62, rfl, rfl, rfl, h66, h67⟩ := hp61
                refine lv_lload_n hx hb dX12_readV_65 rfl (lv_at hl 0 rfl) ?_
                have e_g57_49 : g57 49 = (g28 49) := (h62 49 rfl)
                exact kr z47 g57 lg ar bk _ _ _ _ ⟨(hk_frT (hk_frT hfr_g4 (by decide) h33) (by decide) h62), rfl, rfl, rfl, (om412 ((g 49).toInt) ((g57 49).toInt) ((g4 49).toInt) ((g28 49).toInt) hf_B1_1 (congrArg Int32.toInt e_g57_49) h39), (om342 ((g 51).toInt) ((g57 51).toInt) h66), (om483 ((g57 49).toInt) ((g28 49).toInt) ((g4 49).toInt) ((g28 51).toInt) ((g4 51).toInt) (((0 : Int32)).toInt) (congrArg Int32.toInt e_g57_49) h38 h40 hf_B1_3 (hE_le cc42) (by decide)), (om193 ((g57 51).toInt) h66 h67)⟩ hw dX12_readV_66
        · refine lv_lconst (v := 0) hx hb dX12_readV_25 (by decide) ?_
          exact kr 0 g28 lg ar bk _ _ _ _ ⟨(hk_frT hfr_g4 (by decide) h33), rfl, rfl, rfl, (om209 ((g 49).toInt) ((g28 49).toInt) ((g4 49).toInt) hf_B1_1 h39), (om346 ((g 51).toInt) ((g28 51).toInt) (((0 : Int32)).toInt) (hE_nle cc42) (by decide)), (om202 ((g28 49).toInt) h40), (om203 ((g28 51).toInt) (((0 : Int32)).toInt) h41 (hE_nle cc42) (by decide))⟩ hw dX12_readV_26
  exact B1 (2147483648 - ((0 : Int32)).toInt).toNat 0 0 g ls _ _ (Int.self_le_toNat _) (om18 (((0 : Int32)).toInt) (by decide)) (om122 ((g 49).toInt)) (om211 ((g 51).toInt)) (om202 ((g 49).toInt) hi_g49) (om206 ((g 51).toInt) hi_g51) hk_fr0 hw (lv_sub hl [2, 3, 1, 0] rfl)

set_option maxHeartbeats 4000000 in
set_option maxRecDepth 100000 in
/-- X12_wantV on (0,) -/
theorem jm_X12_wantV (l : Launch) (hlt : l.stackTraces = false) (D : va_G) (t3 : Nat × Nat × Nat) (cI cJ : ClassId) (ad : Nat → Nat) (g : Nat → Int32) (lg : Nat → Int64) (ar : Nat → Nat → Int32) (bk : Nat → Int64) (sz : Nat) (y1 : Int64) (hi_g49 : 0 ≤ (g 49).toInt ∧ (g 49).toInt ≤ 1500) (hi_g51 : 0 ≤ (g 51).toInt ∧ (g 51).toInt ≤ 15) (hi_g12 : 0 ≤ (g 12).toInt ∧ (g 12).toInt ≤ 1500) (hi_a0rg : hk_rg 0 255 (ar 0)) : JMv l yX12_wantV (Cond.code yX12_wantV cX12_wantV 5 none :: wwM) { frames := 3, cells := 0, slots := 0, locals := 66 } t3 D mw cI cJ ad [.ref (ad 0), .long y1] (mw cI cJ ad g lg ar bk) sz 0 0 (fun g' lg' ar' bk' => hk_fr [49, 51] g g' ∧ lg = lg' ∧ ar = ar' ∧ bk = bk' ∧ ((g 49).toInt ≤ (g' 49).toInt) ∧ ((1 ≤ (g 51).toInt → 1 ≤ (g' 51).toInt)) ∧ (0 ≤ (g' 49).toInt ∧ (g' 49).toInt ≤ 1500) ∧ (0 ≤ (g' 51).toInt ∧ (g' 51).toInt ≤ 15)) (fun g' lg' ar' bk' => False) := by
  refine jx_metv (cc := cX12_wantV) (maxL := 5) (ret := none) rfl (by decide) rfl (Nat.le_of_ble_eq_true rfl) ?_
  intro p e s m args below meth c ls Q A hx hb hml hown hts hA hZ hw hl hQ kr kt
  have hq : ∀ w ∈ wwM, w.before args s = true := fun w h => hts w (List.mem_cons_of_mem _ h)
  have hl : lv_has ls 5 [(0, .ref (ad 0)), (1, .long y1)] := hl
  refine lv_aload_n hx hb dX12_wantV_0 rfl (lv_at hl 0 rfl) ?_
  refine lv_bipush (v := 11) hx hb dX12_wantV_1 (by decide) ?_
  refine jx_Vl (As := [.int 11]) (rest := []) ⟨hx, hb, hml, hown, hts⟩ hZ hw hA (jm_X12_readV l hlt D t3 cI cJ ad g lg ar bk _ 11 (om602 (((11 : Int32)).toInt) (by decide)) (om202 ((g 49).toInt) hi_g49) (om206 ((g 51).toInt) hi_g51) (om202 ((g 12).toInt) hi_g12) hi_a0rg) (cwV 1 hts (jx_gV wwM_good wM_323 wM_324 wM_325 wM_8 wM_326) rfl rfl rfl (by decide +kernel) ⟨Nat.le_of_ble_eq_true rfl, Nat.le_of_ble_eq_true rfl⟩) 0 (ci := 15) (T := TX12) (N := 92) rfl rfl rfl hl.1 rfl (Nat.le_of_ble_eq_true rfl) dX12_wantV_3 ⟨Nat.le_of_ble_eq_true rfl, Nat.le_of_ble_eq_true rfl⟩ (fun _ _ _ _ _ _ _ _ hp _ _ _ _ => hp.elim) (fun r5 g6 l7 a8 b9 H locs hp10 hw => ?_)
  obtain ⟨h11, rfl, rfl, rfl, h15, h16, h17, h18⟩ := hp10
  refine lv_lstore_n (lv' := [(3, .long r5), (0, .ref (ad 0)), (1, .long y1)]) hx hb dX12_wantV_6 rfl hl (by decide) rfl (fun ls hl => ?_)
  refine lv_aload_n hx hb dX12_wantV_7 rfl (lv_at hl 1 rfl) ?_
  refine hk_get (ci := 15) (C := RX12) (T := TX12) (N := 92) (v := .int (g6 51)) hx hb hts (fun _ h => List.mem_cons_of_mem _ (wwMc_wsX120 _ h)) hown hw 0 rfl rfl 78 (by decide) (hq _ wM_63) rfl dX12_wantV_8 ?_
  refine lv_if_ne (tgt := 26) hx hb dX12_wantV_11 (by decide) (fun cc19 => ?_) (fun cc19 => ?_)
  · exact kr g6 lg ar bk _ _ _ _ ⟨h11, rfl, rfl, rfl, (om204 ((g 49).toInt) ((g6 49).toInt) h15), (om318 ((g 51).toInt) ((g6 51).toInt) h16), (om202 ((g6 49).toInt) h17), (om185 ((g6 51).toInt) (((0 : Int32)).toInt) h18 (hE_ne cc19) (by decide))⟩ hw dX12_wantV_26
  · refine lv_lload_n hx hb dX12_wantV_14 rfl (lv_at hl 0 rfl) ?_
    refine lv_lload_n hx hb dX12_wantV_15 rfl (lv_at hl 2 rfl) ?_
    refine hk_lcmp_eq (tgt := 26) hx hb dX12_wantV_16 dX12_wantV_17 (by decide) (fun cc20 => ?_) (fun cc20 => ?_)
    · exact kr g6 lg ar bk _ _ _ _ ⟨h11, rfl, rfl, rfl, (om204 ((g 49).toInt) ((g6 49).toInt) h15), (om318 ((g 51).toInt) ((g6 51).toInt) h16), (om202 ((g6 49).toInt) h17), (om215 ((g6 51).toInt) (((0 : Int32)).toInt) h18 (hE_eq cc19) (by decide))⟩ hw dX12_wantV_26
    · refine lv_aload_n hx hb dX12_wantV_20 rfl (lv_at hl 1 rfl) ?_
      refine lv_bipush (v := 11) hx hb dX12_wantV_21 (by decide) ?_
      refine jx_Vv (As := [.int 11]) (rest := []) ⟨hx, hb, hml, hown, hts⟩ hZ hw hA (jm_X12_fail l hlt D t3 cI cJ ad g6 lg ar bk _ 11 (om602 (((11 : Int32)).toInt) (by decide)) (om215 ((g6 51).toInt) (((0 : Int32)).toInt) h18 (hE_eq cc19) (by decide))) (cwV 1 hts (jx_gV wwM_good wM_64 wM_65 wM_66 wM_8 wM_67) rfl rfl rfl (by decide +kernel) ⟨Nat.le_of_ble_eq_true rfl, Nat.le_of_ble_eq_true rfl⟩) 0 (ci := 15) (T := TX12) (N := 92) rfl rfl rfl hl.1 rfl (Nat.le_of_ble_eq_true rfl) dX12_wantV_23 ⟨Nat.le_of_ble_eq_true rfl, Nat.le_of_ble_eq_true rfl⟩ (fun _ _ _ _ _ _ _ _ hp _ _ _ _ => hp.elim) (fun g26 l27 a28 b29 H locs hp30 hw => ?_)
      obtain ⟨h31, rfl, rfl, rfl, h35, h36⟩ := hp30
      have e_g26_49 : g26 49 = (g6 49) := (h31 49 rfl)
      exact kr g26 lg ar bk _ _ _ _ ⟨(hk_frT h11 (by decide) h31), rfl, rfl, rfl, (om212 ((g 49).toInt) ((g26 49).toInt) ((g6 49).toInt) h15 (congrArg Int32.toInt e_g26_49)), (om342 ((g 51).toInt) ((g26 51).toInt) h35), (om21 ((g26 49).toInt) ((g6 49).toInt) (congrArg Int32.toInt e_g26_49) h17), (om193 ((g26 51).toInt) h35 h36)⟩ hw dX12_wantV_26

set_option maxHeartbeats 4000000 in
set_option maxRecDepth 100000 in
/-- X12_readDictionary on (0,) -/
theorem jm_X12_readDictionary (l : Launch) (hlt : l.stackTraces = false) (D : va_G) (t3 : Nat × Nat × Nat) (cI cJ : ClassId) (ad : Nat → Nat) (g : Nat → Int32) (lg : Nat → Int64) (ar : Nat → Nat → Int32) (bk : Nat → Int64) (sz : Nat) (y1 : Int32) (y2 : Int32) (hi_g51 : 0 ≤ (g 51).toInt ∧ (g 51).toInt ≤ 15) : JMv l yX12_readDictionary (Cond.code yX12_readDictionary cX12_readDictionary 3 none :: wwM) { frames := 1, cells := 0, slots := 0, locals := 21 } t3 D mw cI cJ ad [.ref (ad 0), .int y1, .int y2] (mw cI cJ ad g lg ar bk) sz 0 0 (fun g' lg' ar' bk' => hk_fr [51] g g' ∧ hk_fr [5] lg lg' ∧ ar = ar' ∧ bk = bk' ∧ ((1 ≤ (g 51).toInt → 1 ≤ (g' 51).toInt)) ∧ (0 ≤ (g' 51).toInt ∧ (g' 51).toInt ≤ 15)) (fun g' lg' ar' bk' => False) := by
  refine jx_metv (cc := cX12_readDictionary) (maxL := 3) (ret := none) rfl (by decide) rfl (Nat.le_of_ble_eq_true rfl) ?_
  intro p e s m args below meth c ls Q A hx hb hml hown hts hA hZ hw hl hQ kr kt
  have hq : ∀ w ∈ wwM, w.before args s = true := fun w h => hts w (List.mem_cons_of_mem _ h)
  have hl : lv_has ls 3 [(0, .ref (ad 0)), (1, .int y1), (2, .int y2)] := hl
  refine lv_iload_n hx hb dX12_readDictionary_0 rfl (lv_at hl 1 rfl) ?_
  refine lv_bipush (v := 40) hx hb dX12_readDictionary_1 (by decide) ?_
  refine lv_icmp_le (tgt := 13) hx hb dX12_readDictionary_3 (by decide) (fun cc1 => ?_) (fun cc1 => ?_)
  · refine lv_aload_n hx hb dX12_readDictionary_13 rfl (lv_at hl 0 rfl) ?_
    refine lv_iload_n hx hb dX12_readDictionary_14 rfl (lv_at hl 1 rfl) ?_
    refine lv_bipush (v := 40) hx hb dX12_readDictionary_15 (by decide) ?_
    have B2 : ∀  (x3 : Int64) (ls : Array Slot) (H : Heap) (locs : List Loc), hk_W D (jT cI cJ) A s H locs (mw cI cJ ad g lg ar bk) → lv_has ls 3 [(0, .ref (ad 0)), (2, .int y2)] → W p l e { frames := 1, cells := 0, slots := 0, locals := 21 } s m args below meth c H locs 0 0 Q (F0 m 41 ls [.long x3, .ref (ad 0)]) := by
      intro x3 ls H locs hw hl
      refine jx_putl mw (cI := cI) (cJ := cJ) (ad := ad) (g := g) (lg := lg) (ar := ar) (bk := bk) (x := x3) 5 (ci := 15) (C := RX12) (T := TX12) (N := 92) (ty := .long) hx hb hts (fun _ h => List.mem_cons_of_mem _ (wwMc_wsX120 _ h)) tyX12 tyX12_ok nmX12 hown hw 0 rfl rfl 80 (by decide) (hq _ wM_184) rfl (by decide +kernel) rfl rfl (Nat.le_of_ble_eq_true rfl) dX12_readDictionary_41 rfl (fun H locs l4 h_l4 hw => ?_)
      refine lv_aload_n hx hb dX12_readDictionary_44 rfl (lv_at hl 0 rfl) ?_
      have e_l4_5 : l4 5 = x3 := (hk_uplS h_l4)
      refine hk_get (ci := 15) (C := RX12) (T := TX12) (N := 92) (v := .long x3) hx hb hts (fun _ h => List.mem_cons_of_mem _ (wwMc_wsX120 _ h)) hown hw 0 rfl rfl 80 (by decide) (hq _ wM_184) (congrArg (fun z => some (Value.long z)) e_l4_5) dX12_readDictionary_45 ?_
      refine lv_iload_n hx hb dX12_readDictionary_48 rfl (lv_at hl 1 rfl) ?_
      refine lv_i2l hx hb dX12_readDictionary_49 rfl (jx_nl fun z5 hz5 => ?_)
      refine hk_lcmp_le (tgt := 60) hx hb dX12_readDictionary_50 dX12_readDictionary_51 (by decide) (fun cc6 => ?_) (fun cc6 => ?_)
      · exact kr g l4 ar bk _ _ _ _ ⟨hk_fr0, (hk_frL hk_fr0 (by decide) h_l4), rfl, rfl, (om227 ((g 51).toInt)), (om206 ((g 51).toInt) hi_g51)⟩ hw dX12_readDictionary_60
      · refine lv_aload_n hx hb dX12_readDictionary_54 rfl (lv_at hl 0 rfl) ?_
        refine lv_bipush (v := 15) hx hb dX12_readDictionary_55 (by decide) ?_
        refine jx_Vv (As := [.int 15]) (rest := []) ⟨hx, hb, hml, hown, hts⟩ hZ hw hA (jm_X12_fail l hlt D t3 cI cJ ad g l4 ar bk _ 15 (om516 (((15 : Int32)).toInt) (by decide)) (om206 ((g 51).toInt) hi_g51)) (cwV 1 hts (jx_gV wwM_good wM_64 wM_65 wM_66 wM_8 wM_67) rfl rfl rfl (by decide +kernel) ⟨Nat.le_of_ble_eq_true rfl, Nat.le_of_ble_eq_true rfl⟩) 0 (ci := 15) (T := TX12) (N := 92) rfl rfl rfl hl.1 rfl (Nat.le_of_ble_eq_true rfl) dX12_readDictionary_57 ⟨Nat.le_of_ble_eq_true rfl, Nat.le_of_ble_eq_true rfl⟩ (fun _ _ _ _ _ _ _ _ hp _ _ _ _ => hp.elim) (fun g12 l13 a14 b15 H locs hp16 hw => ?_)
        obtain ⟨h17, rfl, rfl, rfl, h21, h22⟩ := hp16
        exact kr g12 l4 ar bk _ _ _ _ ⟨h17, (hk_frL hk_fr0 (by decide) h_l4), rfl, rfl, (om342 ((g 51).toInt) ((g12 51).toInt) h21), (om193 ((g12 51).toInt) h21 h22)⟩ hw dX12_readDictionary_60
    refine lv_icmp_ne (tgt := 26) hx hb dX12_readDictionary_17 (by decide) (fun cc23 => ?_) (fun cc23 => ?_)
    · refine lv_ldc2 (v := 2) hx hb hown (hq _ wM_216) dX12_readDictionary_26 ?_
      refine lv_iload_n hx hb dX12_readDictionary_29 rfl (lv_at hl 1 rfl) ?_
      refine lv_iconst (v := 2) hx hb dX12_readDictionary_30 (by decide) ?_
      refine lv_irem hx hb dX12_readDictionary_31 (by decide) (jx_nm fun z24 hz24 => ?_)
      refine lv_i2l hx hb dX12_readDictionary_32 rfl (jx_nl fun z25 hz25 => ?_)
      refine lv_ladd hx hb dX12_readDictionary_33 (jx_nl fun z26 hz26 => ?_)
      have xz26 : (z26).toInt = ((2 : Int64)).toInt + (z25).toInt := (hE_impL (hE_addL hz26) (om603 (((2 : Int64)).toInt) ((z25).toInt) ((z24).toInt) (hE_i2l hz25) (by decide) (hE_rng (z24))))
      refine lv_iload_n hx hb dX12_readDictionary_34 rfl (lv_at hl 1 rfl) ?_
      refine lv_iconst (v := 2) hx hb dX12_readDictionary_35 (by decide) ?_
      refine lv_idiv hx hb dX12_readDictionary_36 (by decide) (jx_nm fun z27 hz27 => ?_)
      refine lv_bipush (v := 11) hx hb dX12_readDictionary_37 (by decide) ?_
      refine lv_iadd hx hb dX12_readDictionary_39 (jx_nm fun z28 hz28 => ?_)
      refine lv_lshl hx hb dX12_readDictionary_40 rfl (jx_nl fun z29 hz29 => ?_)
      exact B2 z29 ls _ _ hw (lv_sub hl [0, 2] rfl)
    · refine lv_ldc2 (v := 4294967295) hx hb hown (hq _ wM_55) dX12_readDictionary_20 ?_
      refine lv_goto (tgt := 41) hx hb dX12_readDictionary_23 (by decide) ?_
      exact B2 4294967295 ls _ _ hw (lv_sub hl [0, 2] rfl)
  · refine lv_aload_n hx hb dX12_readDictionary_6 rfl (lv_at hl 0 rfl) ?_
    refine lv_bipush (v := 8) hx hb dX12_readDictionary_7 (by decide) ?_
    refine jx_Vv (As := [.int 8]) (rest := []) ⟨hx, hb, hml, hown, hts⟩ hZ hw hA (jm_X12_fail l hlt D t3 cI cJ ad g lg ar bk _ 8 (om604 (((8 : Int32)).toInt) (by decide)) (om206 ((g 51).toInt) hi_g51)) (cwV 1 hts (jx_gV wwM_good wM_64 wM_65 wM_66 wM_8 wM_67) rfl rfl rfl (by decide +kernel) ⟨Nat.le_of_ble_eq_true rfl, Nat.le_of_ble_eq_true rfl⟩) 0 (ci := 15) (T := TX12) (N := 92) rfl rfl rfl hl.1 rfl (Nat.le_of_ble_eq_true rfl) dX12_readDictionary_9 ⟨Nat.le_of_ble_eq_true rfl, Nat.le_of_ble_eq_true rfl⟩ (fun _ _ _ _ _ _ _ _ hp _ _ _ _ => hp.elim) (fun g35 l36 a37 b38 H locs hp39 hw => ?_)
    obtain ⟨h40, rfl, rfl, rfl, h44, h45⟩ := hp39
    exact kr g35 lg ar bk _ _ _ _ ⟨h40, hk_fr0, rfl, rfl, (om342 ((g 51).toInt) ((g35 51).toInt) h44), (om193 ((g35 51).toInt) h44 h45)⟩ hw dX12_readDictionary_12

set_option maxHeartbeats 4000000 in
set_option maxRecDepth 100000 in
/-- X12_openHead on (0,) -/
theorem jm_X12_openHead (l : Launch) (hlt : l.stackTraces = false) (D : va_G) (t3 : Nat × Nat × Nat) (cI cJ : ClassId) (ad : Nat → Nat) (g : Nat → Int32) (lg : Nat → Int64) (ar : Nat → Nat → Int32) (bk : Nat → Int64) (sz : Nat) (y1 : Int32) (y2 : Int32) (y3 : Int32) (hi_g49 : 0 ≤ (g 49).toInt ∧ (g 49).toInt ≤ 1500) (hi_g51 : 0 ≤ (g 51).toInt ∧ (g 51).toInt ≤ 15) (hi_g12 : 0 ≤ (g 12).toInt ∧ (g 12).toInt ≤ 1500) (hi_a0rg : hk_rg 0 255 (ar 0)) (hi_g58 : 0 ≤ (g 58).toInt ∧ (g 58).toInt ≤ 4) (hi_a24rg : hk_rg 0 255 (ar 24)) : JMv l yX12_openHead (Cond.code yX12_openHead cX12_openHead 12 none :: wwM) { frames := 3, cells := 0, slots := 0, locals := 66 } t3 D mw cI cJ ad [.ref (ad 0), .int y1, .int y2, .int y3] (mw cI cJ ad g lg ar bk) sz 0 0 (fun g' lg' ar' bk' => hk_fr [49, 51, 58] g g' ∧ hk_fr [5, 6, 7] lg lg' ∧ hk_fr [23, 24] ar ar' ∧ bk = bk' ∧ ((g 49).toInt ≤ (g' 49).toInt) ∧ ((1 ≤ (g 51).toInt → 1 ≤ (g' 51).toInt)) ∧ (0 ≤ (g' 49).toInt ∧ (g' 49).toInt ≤ 1500) ∧ (0 ≤ (g' 51).toInt ∧ (g' 51).toInt ≤ 15) ∧ (0 ≤ (g' 58).toInt ∧ (g' 58).toInt ≤ 4) ∧ hk_rg 0 255 (ar' 24)) (fun g' lg' ar' bk' => False) := by
  refine jx_metv (cc := cX12_openHead) (maxL := 12) (ret := none) rfl (by decide) rfl (Nat.le_of_ble_eq_true rfl) ?_
  intro p e s m args below meth c ls Q A hx hb hml hown hts hA hZ hw hl hQ kr kt
  have hq : ∀ w ∈ wwM, w.before args s = true := fun w h => hts w (List.mem_cons_of_mem _ h)
  have hl : lv_has ls 12 [(0, .ref (ad 0)), (1, .int y1), (2, .int y2), (3, .int y3)] := hl
  refine lv_aload_n hx hb dX12_openHead_0 rfl (lv_at hl 0 rfl) ?_
  refine jx_Vi (As := []) (rest := []) ⟨hx, hb, hml, hown, hts⟩ hZ hw hA (jm_X12_next l hlt D t3 cI cJ ad g lg ar bk _ (om202 ((g 49).toInt) hi_g49) (om206 ((g 51).toInt) hi_g51) (om202 ((g 12).toInt) hi_g12) hi_a0rg) (cwV 0 hts (jx_gV wwM_good wM_59 wM_60 wM_61 wM_8 wM_62) rfl rfl rfl (by decide +kernel) ⟨Nat.le_of_ble_eq_true rfl, Nat.le_of_ble_eq_true rfl⟩) 0 (ci := 15) (T := TX12) (N := 92) rfl rfl rfl hl.1 rfl (Nat.le_of_ble_eq_true rfl) dX12_openHead_1 ⟨Nat.le_of_ble_eq_true rfl, Nat.le_of_ble_eq_true rfl⟩ (fun _ _ _ _ _ _ _ _ hp _ _ _ _ => hp.elim) (fun r5 g6 l7 a8 b9 H locs hp10 hw => ?_)
  obtain ⟨h11, rfl, rfl, rfl, h15, h16, h17, h18, h19⟩ := hp10
  refine lv_istore (lv' := [(4, .int r5), (0, .ref (ad 0)), (1, .int y1), (2, .int y2), (3, .int y3)]) hx hb dX12_openHead_4 hl (by decide) rfl (fun ls hl => ?_)
  refine lv_aload_n hx hb dX12_openHead_6 rfl (lv_at hl 1 rfl) ?_
  refine hk_get (ci := 15) (C := RX12) (T := TX12) (N := 92) (v := .int (g6 51)) hx hb hts (fun _ h => List.mem_cons_of_mem _ (wwMc_wsX120 _ h)) hown hw 0 rfl rfl 78 (by decide) (hq _ wM_63) rfl dX12_openHead_7 ?_
  have B20 : ∀  (g21 : Nat → Int32) (ls : Array Slot) (H : Heap) (locs : List Loc), (1 ≤ (g 51).toInt → 1 ≤ (g21 51).toInt) → (0 ≤ (g21 51).toInt ∧ (g21 51).toInt ≤ 15) → (hk_fr [51] g6 g21) → hk_W D (jT cI cJ) A s H locs (mw cI cJ ad g21 lg ar bk) → lv_has ls 12 [(0, .ref (ad 0)), (3, .int y3), (4, .int r5)] → W p l e { frames := 3, cells := 0, slots := 0, locals := 66 } s m args below meth c H locs 0 0 Q (F0 m 27 ls []) := by
    intro g21 ls H locs hf_B20_0 hf_B20_1 hfr_g21 hw hl
    refine lv_aload_n hx hb dX12_openHead_27 rfl (lv_at hl 0 rfl) ?_
    refine lv_iload hx hb dX12_openHead_28 (lv_at hl 2 rfl) ?_
    refine lv_iconst (v := 3) hx hb dX12_openHead_30 (by decide) ?_
    refine lv_iand hx hb dX12_openHead_31 (jx_nm fun z22 hz22 => ?_)
    refine lv_iconst (v := 1) hx hb dX12_openHead_32 (by decide) ?_
    refine lv_iadd hx hb dX12_openHead_33 (jx_nm fun z23 hz23 => ?_)
    have xz23 : (z23).toInt = (z22).toInt + ((1 : Int32)).toInt := (hE_imp (hE_add hz23) (om605 ((z22).toInt) (((1 : Int32)).toInt) ((r5).toInt) (hE_and 2 4 hz22 (by decide) (by decide) (by decide)) (by decide)))
    refine jx_putg mw (cI := cI) (cJ := cJ) (ad := ad) (g := g21) (lg := lg) (ar := ar) (bk := bk) (x := z23) 58 (ci := 15) (C := RX12) (T := TX12) (N := 92) (ty := .int) hx hb hts (fun _ h => List.mem_cons_of_mem _ (wwMc_wsX120 _ h)) tyX12 tyX12_ok nmX12 hown hw 0 rfl rfl 89 (by decide) (hq _ wM_292) rfl (by decide +kernel) rfl rfl (Nat.le_of_ble_eq_true rfl) dX12_openHead_34 rfl (fun H locs g24 h_g24 hw => ?_)
    refine lv_aload_n hx hb dX12_openHead_37 rfl (lv_at hl 0 rfl) ?_
    refine lv_aload_n hx hb dX12_openHead_38 rfl (lv_at hl 0 rfl) ?_
    have e_g24_51 : g24 51 = (g21 51) := (hk_upgN h_g24 51 rfl)
    refine hk_get (ci := 15) (C := RX12) (T := TX12) (N := 92) (v := .int (g21 51)) hx hb hts (fun _ h => List.mem_cons_of_mem _ (wwMc_wsX120 _ h)) hown hw 0 rfl rfl 78 (by decide) (hq _ wM_63) (congrArg (fun z => some (Value.int z)) e_g24_51) dX12_openHead_39 ?_
    have B25 : ∀  (x26 : Int64) (g27 : Nat → Int32) (ls : Array Slot) (H : Heap) (locs : List Loc), ((g 49).toInt ≤ (g27 49).toInt) → (1 ≤ (g 51).toInt → 1 ≤ (g27 51).toInt) → (0 ≤ (g27 49).toInt ∧ (g27 49).toInt ≤ 1500) → (0 ≤ (g27 51).toInt ∧ (g27 51).toInt ≤ 15) → (hk_fr [49, 51] g24 g27) → hk_W D (jT cI cJ) A s H locs (mw cI cJ ad g27 lg ar bk) → lv_has ls 12 [(0, .ref (ad 0)), (3, .int y3), (4, .int r5)] → W p l e { frames := 3, cells := 0, slots := 0, locals := 66 } s m args below meth c H locs 0 0 Q (F0 m 65 ls [.long x26, .ref (ad 0)]) := by
      intro x26 g27 ls H locs hf_B25_0 hf_B25_1 hf_B25_2 hf_B25_3 hfr_g27 hw hl
      refine jx_putl mw (cI := cI) (cJ := cJ) (ad := ad) (g := g27) (lg := lg) (ar := ar) (bk := bk) (x := x26) 6 (ci := 15) (C := RX12) (T := TX12) (N := 92) (ty := .long) hx hb hts (fun _ h => List.mem_cons_of_mem _ (wwMc_wsX120 _ h)) tyX12 tyX12_ok nmX12 hown hw 0 rfl rfl 90 (by decide) (hq _ wM_290) rfl (by decide +kernel) rfl rfl (Nat.le_of_ble_eq_true rfl) dX12_openHead_65 rfl (fun H locs l28 h_l28 hw => ?_)
      refine lv_aload_n hx hb dX12_openHead_68 rfl (lv_at hl 0 rfl) ?_
      refine lv_aload_n hx hb dX12_openHead_69 rfl (lv_at hl 0 rfl) ?_
      refine hk_get (ci := 15) (C := RX12) (T := TX12) (N := 92) (v := .int (g27 51)) hx hb hts (fun _ h => List.mem_cons_of_mem _ (wwMc_wsX120 _ h)) hown hw 0 rfl rfl 78 (by decide) (hq _ wM_63) rfl dX12_openHead_70 ?_
      have B29 : ∀  (x30 : Int64) (g31 : Nat → Int32) (ls : Array Slot) (H : Heap) (locs : List Loc), ((g 49).toInt ≤ (g31 49).toInt) → (1 ≤ (g 51).toInt → 1 ≤ (g31 51).toInt) → (0 ≤ (g31 49).toInt ∧ (g31 49).toInt ≤ 1500) → (0 ≤ (g31 51).toInt ∧ (g31 51).toInt ≤ 15) → (hk_fr [49, 51] g27 g31) → hk_W D (jT cI cJ) A s H locs (mw cI cJ ad g31 l28 ar bk) → lv_has ls 12 [(0, .ref (ad 0)), (3, .int y3)] → W p l e { frames := 3, cells := 0, slots := 0, locals := 66 } s m args below meth c H locs 0 0 Q (F0 m 97 ls [.long x30, .ref (ad 0)]) := by
        intro x30 g31 ls H locs hf_B29_0 hf_B29_1 hf_B29_2 hf_B29_3 hfr_g31 hw hl
        refine jx_putl mw (cI := cI) (cJ := cJ) (ad := ad) (g := g31) (lg := l28) (ar := ar) (bk := bk) (x := x30) 7 (ci := 15) (C := RX12) (T := TX12) (N := 92) (ty := .long) hx hb hts (fun _ h => List.mem_cons_of_mem _ (wwMc_wsX120 _ h)) tyX12 tyX12_ok nmX12 hown hw 0 rfl rfl 91 (by decide) (hq _ wM_291) rfl (by decide +kernel) rfl rfl (Nat.le_of_ble_eq_true rfl) dX12_openHead_97 rfl (fun H locs l32 h_l32 hw => ?_)
        refine lv_iconst (v := 0) hx hb dX12_openHead_100 (by decide) ?_
        refine lv_istore (lv' := [(5, .int 0), (0, .ref (ad 0)), (3, .int y3)]) hx hb dX12_openHead_101 hl (by decide) rfl (fun ls hl => ?_)
        have B33 : ∀ (k38 : Nat) (x34 : Int32) (g35 : Nat → Int32) (l36 : Nat → Int64) (a37 : Nat → Nat → Int32) (ls : Array Slot) (H : Heap) (locs : List Loc), (2147483648 - (x34).toInt ≤ (k38 : Int)) → (0 ≤ (x34).toInt) → ((g 49).toInt ≤ (g35 49).toInt) → (1 ≤ (g 51).toInt → 1 ≤ (g35 51).toInt) → (0 ≤ (g35 49).toInt ∧ (g35 49).toInt ≤ 1500) → (0 ≤ (g35 51).toInt ∧ (g35 51).toInt ≤ 15) → (hk_fr [49, 51] g31 g35) → (hk_fr [5] l32 l36) → (hk_fr [23, 24] ar a37) → (hk_rg 0 255 (a37 24)) → hk_W D (jT cI cJ) A s H locs (mw cI cJ ad g35 l36 a37 bk) → lv_has ls 12 [(0, .ref (ad 0)), (3, .int y3), (5, .int x34)] → W p l e { frames := 3, cells := 0, slots := 0, locals := 66 } s m args below meth c H locs 0 0 Q (F0 m 103 ls []) := by
          intro k38
          induction k38 with
          | zero =>
            intro x34 g35 l36 a37 ls H locs hrk_B33 hf_B33_0 hf_B33_1 hf_B33_2 hf_B33_3 hf_B33_4 hfr_g35 hfr_l36 hfr_a37 ha37_r24rg hw hl
            exact False.elim (hk_no0 (0 * (x34).toInt) (om30 ((x34).toInt) hrk_B33 (hE_rng (x34))) (by simp))
          | succ k38 ih_B33 =>
            intro x34 g35 l36 a37 ls H locs hrk_B33 hf_B33_0 hf_B33_1 hf_B33_2 hf_B33_3 hf_B33_4 hfr_g35 hfr_l36 hfr_a37 ha37_r24rg hw hl
            have hrk_B33 := hk_rk hrk_B33
            refine lv_iload hx hb dX12_openHead_103 (lv_at hl 2 rfl) ?_
            refine lv_aload_n hx hb dX12_openHead_105 rfl (lv_at hl 0 rfl) ?_
            have e_g35_58 : g35 58 = z23 := ((hfr_g35 58 rfl)).trans (((hfr_g31 58 rfl)).trans (((hfr_g27 58 rfl)).trans (hk_upgS h_g24)))
            refine hk_get (ci := 15) (C := RX12) (T := TX12) (N := 92) (v := .int z23) hx hb hts (fun _ h => List.mem_cons_of_mem _ (wwMc_wsX120 _ h)) hown hw 0 rfl rfl 89 (by decide) (hq _ wM_292) (congrArg (fun z => some (Value.int z)) e_g35_58) dX12_openHead_106 ?_
            refine lv_icmp_ge (tgt := 313) hx hb dX12_openHead_109 (by decide) (fun cc39 => ?_) (fun cc39 => ?_)
            · exact kr g35 l36 a37 bk _ _ _ _ ⟨(hk_frT (hk_frT (hk_frT (hk_frG (hk_frT (hk_frT hk_fr0 (by decide) h11) (by decide) hfr_g21) (by decide) h_g24) (by decide) hfr_g27) (by decide) hfr_g31) (by decide) hfr_g35), (hk_frT (hk_frL (hk_frL hk_fr0 (by decide) h_l28) (by decide) h_l32) (by decide) hfr_l36), hfr_a37, rfl, (om204 ((g 49).toInt) ((g35 49).toInt) hf_B33_1), (om205 ((g 51).toInt) ((g35 51).toInt) hf_B33_2), (om202 ((g35 49).toInt) hf_B33_3), (om206 ((g35 51).toInt) hf_B33_4), (om606 ((g35 58).toInt) ((z23).toInt) ((z22).toInt) (((1 : Int32)).toInt) ((r5).toInt) (congrArg Int32.toInt e_g35_58) xz23 (hE_and 2 4 hz22 (by decide) (by decide) (by decide)) (by decide)), ha37_r24rg⟩ hw dX12_openHead_313
            · refine lv_aload_n hx hb dX12_openHead_112 rfl (lv_at hl 0 rfl) ?_
              refine hk_get (ci := 15) (C := RX12) (T := TX12) (N := 92) (v := .int (g35 51)) hx hb hts (fun _ h => List.mem_cons_of_mem _ (wwMc_wsX120 _ h)) hown hw 0 rfl rfl 78 (by decide) (hq _ wM_63) rfl dX12_openHead_113 ?_
              refine lv_if_ne (tgt := 313) hx hb dX12_openHead_116 (by decide) (fun cc40 => ?_) (fun cc40 => ?_)
              · exact kr g35 l36 a37 bk _ _ _ _ ⟨(hk_frT (hk_frT (hk_frT (hk_frG (hk_frT (hk_frT hk_fr0 (by decide) h11) (by decide) hfr_g21) (by decide) h_g24) (by decide) hfr_g27) (by decide) hfr_g31) (by decide) hfr_g35), (hk_frT (hk_frL (hk_frL hk_fr0 (by decide) h_l28) (by decide) h_l32) (by decide) hfr_l36), hfr_a37, rfl, (om204 ((g 49).toInt) ((g35 49).toInt) hf_B33_1), (om205 ((g 51).toInt) ((g35 51).toInt) hf_B33_2), (om202 ((g35 49).toInt) hf_B33_3), (om185 ((g35 51).toInt) (((0 : Int32)).toInt) hf_B33_4 (hE_ne cc40) (by decide)), (om607 ((g35 58).toInt) ((z23).toInt) ((z22).toInt) (((1 : Int32)).toInt) ((x34).toInt) ((r5).toInt) (congrArg Int32.toInt e_g35_58) xz23 (hE_nle cc39) (hE_and 2 4 hz22 (by decide) (by decide) (by decide)) hf_B33_0 (by decide)), ha37_r24rg⟩ hw dX12_openHead_313
              · refine lv_aload_n hx hb dX12_openHead_119 rfl (lv_at hl 0 rfl) ?_
                refine lv_bipush (v := 8) hx hb dX12_openHead_120 (by decide) ?_
                have e_g35_12 : g35 12 = (g 12) := ((hfr_g35 12 rfl)).trans (((hfr_g31 12 rfl)).trans (((hfr_g27 12 rfl)).trans (((hk_upgN h_g24 12 rfl)).trans (((hfr_g21 12 rfl)).trans (h11 12 rfl)))))
                refine jx_Vl (As := [.int 8]) (rest := []) ⟨hx, hb, hml, hown, hts⟩ hZ hw hA (jm_X12_readV l hlt D t3 cI cJ ad g35 l36 a37 bk _ 8 (om604 (((8 : Int32)).toInt) (by decide)) (om202 ((g35 49).toInt) hf_B33_3) (om215 ((g35 51).toInt) (((0 : Int32)).toInt) hf_B33_4 (hE_eq cc40) (by decide)) (om21 ((g35 12).toInt) ((g 12).toInt) (congrArg Int32.toInt e_g35_12) hi_g12) (hk_pE (P := hk_rg 0 255) hi_a0rg (hfr_a37 0 rfl))) (cwV 1 hts (jx_gV wwM_good wM_323 wM_324 wM_325 wM_8 wM_326) rfl rfl rfl (by decide +kernel) ⟨Nat.le_of_ble_eq_true rfl, Nat.le_of_ble_eq_true rfl⟩) 0 (ci := 15) (T := TX12) (N := 92) rfl rfl rfl hl.1 rfl (Nat.le_of_ble_eq_true rfl) dX12_openHead_122 ⟨Nat.le_of_ble_eq_true rfl, Nat.le_of_ble_eq_true rfl⟩ (fun _ _ _ _ _ _ _ _ hp _ _ _ _ => hp.elim) (fun r45 g46 l47 a48 b49 H locs hp50 hw => ?_)
                obtain ⟨h51, rfl, rfl, rfl, h55, h56, h57, h58⟩ := hp50
                refine lv_lstore (lv' := [(6, .long r45), (0, .ref (ad 0)), (3, .int y3), (5, .int x34)]) hx hb dX12_openHead_125 hl (by decide) rfl (fun ls hl => ?_)
                refine lv_iload hx hb dX12_openHead_127 (lv_at hl 3 rfl) ?_
                refine lv_aload_n hx hb dX12_openHead_129 rfl (lv_at hl 1 rfl) ?_
                have e_g46_58 : g46 58 = z23 := ((h51 58 rfl)).trans e_g35_58
                refine hk_get (ci := 15) (C := RX12) (T := TX12) (N := 92) (v := .int z23) hx hb hts (fun _ h => List.mem_cons_of_mem _ (wwMc_wsX120 _ h)) hown hw 0 rfl rfl 89 (by decide) (hq _ wM_292) (congrArg (fun z => some (Value.int z)) e_g46_58) dX12_openHead_130 ?_
                refine lv_iconst (v := 1) hx hb dX12_openHead_133 (by decide) ?_
                refine lv_isub hx hb dX12_openHead_134 (jx_nm fun z59 hz59 => ?_)
                have xz59 : (z59).toInt = (z23).toInt - ((1 : Int32)).toInt := (hE_imp (hE_sub hz59) (om608 ((z23).toInt) (((1 : Int32)).toInt) ((z22).toInt) ((x34).toInt) ((r5).toInt) xz23 (hE_nle cc39) (hE_and 2 4 hz22 (by decide) (by decide) (by decide)) hf_B33_0 (by decide)))
                have B60 : ∀  (x61 : Int32) (ls : Array Slot) (H : Heap) (locs : List Loc), (0 ≤ (x61).toInt ∧ (x61).toInt ≤ 1) → hk_W D (jT cI cJ) A s H locs (mw cI cJ ad g46 l36 a37 bk) → lv_has ls 12 [(0, .ref (ad 0)), (3, .int y3), (5, .int x34), (6, .long r45)] → W p l e { frames := 3, cells := 0, slots := 0, locals := 66 } s m args below meth c H locs 0 0 Q (F0 m 143 ls [.int x61]) := by
                  intro x61 ls H locs hf_B60_0 hw hl
                  refine lv_istore (lv' := [(8, .int x61), (0, .ref (ad 0)), (3, .int y3), (5, .int x34), (6, .long r45)]) hx hb dX12_openHead_143 hl (by decide) rfl (fun ls hl => ?_)
                  refine lv_iload hx hb dX12_openHead_145 (lv_at hl 0 rfl) ?_
                  have B62 : ∀  (x63 : Int32) (ls : Array Slot) (H : Heap) (locs : List Loc), (0 ≤ (x63).toInt ∧ (x63).toInt ≤ 1) → hk_W D (jT cI cJ) A s H locs (mw cI cJ ad g46 l36 a37 bk) → lv_has ls 12 [(0, .ref (ad 0)), (3, .int y3), (5, .int x34), (6, .long r45), (8, .int x61)] → W p l e { frames := 3, cells := 0, slots := 0, locals := 66 } s m args below meth c H locs 0 0 Q (F0 m 190 ls [.int x63]) := by
                    intro x63 ls H locs hf_B62_0 hw hl
                    refine lv_istore (lv' := [(9, .int x63), (0, .ref (ad 0)), (3, .int y3), (5, .int x34), (6, .long r45), (8, .int x61)]) hx hb dX12_openHead_190 hl (by decide) rfl (fun ls hl => ?_)
                    refine lv_aload_n hx hb dX12_openHead_192 rfl (lv_at hl 1 rfl) ?_
                    refine hk_get (ci := 15) (C := RX12) (T := TX12) (N := 92) (v := .int (g46 51)) hx hb hts (fun _ h => List.mem_cons_of_mem _ (wwMc_wsX120 _ h)) hown hw 0 rfl rfl 78 (by decide) (hq _ wM_63) rfl dX12_openHead_193 ?_
                    have B64 : ∀  (g65 : Nat → Int32) (ls : Array Slot) (H : Heap) (locs : List Loc), (1 ≤ (g 51).toInt → 1 ≤ (g65 51).toInt) → (0 ≤ (g65 51).toInt ∧ (g65 51).toInt ≤ 15) → (hk_fr [51] g46 g65) → hk_W D (jT cI cJ) A s H locs (mw cI cJ ad g65 l36 a37 bk) → lv_has ls 12 [(0, .ref (ad 0)), (3, .int y3), (5, .int x34), (6, .long r45), (8, .int x61)] → W p l e { frames := 3, cells := 0, slots := 0, locals := 66 } s m args below meth c H locs 0 0 Q (F0 m 210 ls []) := by
                      intro g65 ls H locs hf_B64_0 hf_B64_1 hfr_g65 hw hl
                      refine lv_aload_n hx hb dX12_openHead_210 rfl (lv_at hl 0 rfl) ?_
                      refine lv_bipush (v := 8) hx hb dX12_openHead_211 (by decide) ?_
                      have e_g65_49 : g65 49 = (g46 49) := (hfr_g65 49 rfl)
                      have e_g65_12 : g65 12 = (g 12) := ((hfr_g65 12 rfl)).trans (((h51 12 rfl)).trans e_g35_12)
                      refine jx_Vl (As := [.int 8]) (rest := []) ⟨hx, hb, hml, hown, hts⟩ hZ hw hA (jm_X12_readV l hlt D t3 cI cJ ad g65 l36 a37 bk _ 8 (om604 (((8 : Int32)).toInt) (by decide)) (om21 ((g65 49).toInt) ((g46 49).toInt) (congrArg Int32.toInt e_g65_49) h57) (om206 ((g65 51).toInt) hf_B64_1) (om21 ((g65 12).toInt) ((g 12).toInt) (congrArg Int32.toInt e_g65_12) hi_g12) (hk_pE (P := hk_rg 0 255) hi_a0rg (hfr_a37 0 rfl))) (cwV 1 hts (jx_gV wwM_good wM_323 wM_324 wM_325 wM_8 wM_326) rfl rfl rfl (by decide +kernel) ⟨Nat.le_of_ble_eq_true rfl, Nat.le_of_ble_eq_true rfl⟩) 0 (ci := 15) (T := TX12) (N := 92) rfl rfl rfl hl.1 rfl (Nat.le_of_ble_eq_true rfl) dX12_openHead_213 ⟨Nat.le_of_ble_eq_true rfl, Nat.le_of_ble_eq_true rfl⟩ (fun _ _ _ _ _ _ _ _ hp _ _ _ _ => hp.elim) (fun r70 g71 l72 a73 b74 H locs hp75 hw => ?_)
                      obtain ⟨h76, rfl, rfl, rfl, h80, h81, h82, h83⟩ := hp75
                      have e_g65_49 : g65 49 = (g46 49) := (hfr_g65 49 rfl)
                      refine lv_lstore (lv' := [(10, .long r70), (0, .ref (ad 0)), (3, .int y3), (5, .int x34), (6, .long r45), (8, .int x61)]) hx hb dX12_openHead_216 hl (by decide) rfl (fun ls hl => ?_)
                      refine lv_aload_n hx hb dX12_openHead_218 rfl (lv_at hl 1 rfl) ?_
                      refine hk_get (ci := 15) (C := RX12) (T := TX12) (N := 92) (v := .int (g71 51)) hx hb hts (fun _ h => List.mem_cons_of_mem _ (wwMc_wsX120 _ h)) hown hw 0 rfl rfl 78 (by decide) (hq _ wM_63) rfl dX12_openHead_219 ?_
                      have B84 : ∀  (g85 : Nat → Int32) (ls : Array Slot) (H : Heap) (locs : List Loc), (1 ≤ (g 51).toInt → 1 ≤ (g85 51).toInt) → (0 ≤ (g85 51).toInt ∧ (g85 51).toInt ≤ 15) → (hk_fr [51] g71 g85) → hk_W D (jT cI cJ) A s H locs (mw cI cJ ad g85 l36 a37 bk) → lv_has ls 12 [(0, .ref (ad 0)), (3, .int y3), (5, .int x34), (6, .long r45), (8, .int x61), (10, .long r70)] → W p l e { frames := 3, cells := 0, slots := 0, locals := 66 } s m args below meth c H locs 0 0 Q (F0 m 251 ls []) := by
                        intro g85 ls H locs hf_B84_0 hf_B84_1 hfr_g85 hw hl
                        refine lv_aload_n hx hb dX12_openHead_251 rfl (lv_at hl 0 rfl) ?_
                        refine hk_get (ci := 15) (C := RX12) (T := TX12) (N := 92) (v := .ref (ad 24)) hx hb hts (fun _ h => List.mem_cons_of_mem _ (wwMc_wsX120 _ h)) hown hw 0 rfl rfl 87 (by decide) (hq _ wM_293) rfl dX12_openHead_252 ?_
                        refine lv_iload hx hb dX12_openHead_255 (lv_at hl 2 rfl) ?_
                        refine lv_lload hx hb dX12_openHead_257 (lv_at hl 3 rfl) ?_
                        refine lv_l2i hx hb dX12_openHead_259 rfl (jx_nm fun z86 hz86 => ?_)
                        refine jx_iast mw (cI := cI) (cJ := cJ) (ad := ad) (g := g85) (lg := l36) (ar := a37) (bk := bk) 23 hx hb hw 24 0 rfl rfl (hE_in (n := 4) (om609 ((x34).toInt) ((z23).toInt) ((z22).toInt) (((1 : Int32)).toInt) ((r5).toInt) hf_B33_0 (hE_nle cc39) xz23 (hE_and 2 4 hz22 (by decide) (by decide) (by decide)) (by decide))) dX12_openHead_260 rfl (fun H locs a87 h_a87 hw => ?_)
                        have hr88 : hk_rg 0 255 (a87 0) := (hk_pE (P := hk_rg 0 255) (hk_pE (P := hk_rg 0 255) hi_a0rg (hfr_a37 0 rfl)) (hk_upaN h_a87 0 rfl))
                        refine lv_aload_n hx hb dX12_openHead_261 rfl (lv_at hl 0 rfl) ?_
                        refine hk_get (ci := 15) (C := RX12) (T := TX12) (N := 92) (v := .ref (ad 25)) hx hb hts (fun _ h => List.mem_cons_of_mem _ (wwMc_wsX120 _ h)) hown hw 0 rfl rfl 88 (by decide) (hq _ wM_294) rfl dX12_openHead_262 ?_
                        refine lv_iload hx hb dX12_openHead_265 (lv_at hl 2 rfl) ?_
                        refine lv_lload hx hb dX12_openHead_267 (lv_at hl 5 rfl) ?_
                        refine lv_lconst (v := 1) hx hb dX12_openHead_269 (by decide) ?_
                        have B89 : ∀  (x90 : Int32) (g91 : Nat → Int32) (ls : Array Slot) (H : Heap) (locs : List Loc), (0 ≤ (x90).toInt ∧ (x90).toInt ≤ 255) → ((g 49).toInt ≤ (g91 49).toInt) → (1 ≤ (g 51).toInt → 1 ≤ (g91 51).toInt) → (0 ≤ (g91 49).toInt ∧ (g91 49).toInt ≤ 1500) → (0 ≤ (g91 51).toInt ∧ (g91 51).toInt ≤ 15) → (hk_fr [49, 51] g85 g91) → hk_W D (jT cI cJ) A s H locs (mw cI cJ ad g91 l36 a87 bk) → lv_has ls 12 [(0, .ref (ad 0)), (3, .int y3), (5, .int x34), (8, .int x61)] → W p l e { frames := 3, cells := 0, slots := 0, locals := 66 } s m args below meth c H locs 0 0 Q (F0 m 282 ls [.int x90, .int x34, .ref (ad 25)]) := by
                          intro x90 g91 ls H locs hf_B89_0 hf_B89_1 hf_B89_2 hf_B89_3 hf_B89_4 hfr_g91 hw hl
                          refine jx_iast mw (cI := cI) (cJ := cJ) (ad := ad) (g := g91) (lg := l36) (ar := a87) (bk := bk) 24 hx hb hw 25 0 rfl rfl (hE_in (n := 4) (om609 ((x34).toInt) ((z23).toInt) ((z22).toInt) (((1 : Int32)).toInt) ((r5).toInt) hf_B33_0 (hE_nle cc39) xz23 (hE_and 2 4 hz22 (by decide) (by decide) (by decide)) (by decide))) dX12_openHead_282 rfl (fun H locs a92 h_a92 hw => ?_)
                          have hr93 : hk_rg 0 255 (a92 24) := (hk_rgS h_a92 (hk_pE (P := hk_rg 0 255) ha37_r24rg (hk_upaN h_a87 24 rfl)) (om34 ((x90).toInt) hf_B89_0))
                          refine lv_iload hx hb dX12_openHead_283 (lv_at hl 3 rfl) ?_
                          have B94 : ∀  (g95 : Nat → Int32) (l96 : Nat → Int64) (ls : Array Slot) (H : Heap) (locs : List Loc), (1 ≤ (g 51).toInt → 1 ≤ (g95 51).toInt) → (0 ≤ (g95 51).toInt ∧ (g95 51).toInt ≤ 15) → (hk_fr [51] g91 g95) → (hk_fr [5] l36 l96) → hk_W D (jT cI cJ) A s H locs (mw cI cJ ad g95 l96 a92 bk) → lv_has ls 12 [(0, .ref (ad 0)), (3, .int y3), (5, .int x34)] → W p l e { frames := 3, cells := 0, slots := 0, locals := 66 } s m args below meth c H locs 0 0 Q (F0 m 307 ls []) := by
                            intro g95 l96 ls H locs hf_B94_0 hf_B94_1 hfr_g95 hfr_l96 hw hl
                            obtain ⟨z97, hz97⟩ : ∃ z : Int32, x34 + 1 = z := ⟨_, rfl⟩
                            refine lv_iinc (v := z97) (lv' := [(5, .int z97), (0, .ref (ad 0)), (3, .int y3)]) hx hb dX12_openHead_307 hl (k := 2) rfl hz97 (by decide) rfl (fun ls hl => ?_)
                            have xz97 : (z97).toInt = (x34).toInt + ((1 : Int32)).toInt := (hE_imp (hE_add hz97) (om610 ((x34).toInt) (((1 : Int32)).toInt) ((z23).toInt) ((z22).toInt) ((r5).toInt) xz23 hf_B33_0 (hE_nle cc39) (hE_and 2 4 hz22 (by decide) (by decide) (by decide)) (by decide)))
                            refine lv_goto (tgt := 103) hx hb dX12_openHead_310 (by decide) ?_
                            have e_g95_49 : g95 49 = (g91 49) := (hfr_g95 49 rfl)
                            exact ih_B33 z97 g95 l96 a92 ls _ _ (om11 ((z97).toInt) (k38 : Int) ((x34).toInt) (((1 : Int32)).toInt) hrk_B33 xz97 (by decide)) (om14 ((z97).toInt) ((x34).toInt) (((1 : Int32)).toInt) xz97 hf_B33_0 (by decide)) (om212 ((g 49).toInt) ((g95 49).toInt) ((g91 49).toInt) hf_B89_1 (congrArg Int32.toInt e_g95_49)) (om220 ((g 51).toInt) ((g95 51).toInt) ((g35 51).toInt) (((0 : Int32)).toInt) hf_B33_2 (hE_eq cc40) (by decide)) (om21 ((g95 49).toInt) ((g91 49).toInt) (congrArg Int32.toInt e_g95_49) hf_B89_3) (om206 ((g95 51).toInt) hf_B94_1) (hk_frT (hk_frT (hk_frT (hk_frT (hk_frT (hk_frT hfr_g35 (by decide) h51) (by decide) hfr_g65) (by decide) h76) (by decide) hfr_g85) (by decide) hfr_g91) (by decide) hfr_g95) (hk_frT hfr_l36 (by decide) hfr_l96) (hk_frA (hk_frA hfr_a37 (by decide) h_a87) (by decide) h_a92) hr93 hw (lv_sub hl [1, 2, 0] rfl)
                          refine lv_if_eq (tgt := 307) hx hb dX12_openHead_285 (by decide) (fun cc98 => ?_) (fun cc98 => ?_)
                          · exact B94 g91 l36 ls _ _ (om220 ((g 51).toInt) ((g91 51).toInt) ((g35 51).toInt) (((0 : Int32)).toInt) hf_B33_2 (hE_eq cc40) (by decide)) (om206 ((g91 51).toInt) hf_B89_4) hk_fr0 hk_fr0 hw (lv_sub hl [0, 1, 2] rfl)
                          · refine lv_aload_n hx hb dX12_openHead_288 rfl (lv_at hl 0 rfl) ?_
                            refine hk_get (ci := 15) (C := RX12) (T := TX12) (N := 92) (v := .int (g91 51)) hx hb hts (fun _ h => List.mem_cons_of_mem _ (wwMc_wsX120 _ h)) hown hw 0 rfl rfl 78 (by decide) (hq _ wM_63) rfl dX12_openHead_289 ?_
                            refine lv_if_ne (tgt := 307) hx hb dX12_openHead_292 (by decide) (fun cc99 => ?_) (fun cc99 => ?_)
                            · exact B94 g91 l36 ls _ _ (om220 ((g 51).toInt) ((g91 51).toInt) ((g35 51).toInt) (((0 : Int32)).toInt) hf_B33_2 (hE_eq cc40) (by decide)) (om185 ((g91 51).toInt) (((0 : Int32)).toInt) hf_B89_4 (hE_ne cc99) (by decide)) hk_fr0 hk_fr0 hw (lv_sub hl [0, 1, 2] rfl)
                            · refine lv_aload_n hx hb dX12_openHead_295 rfl (lv_at hl 0 rfl) ?_
                              refine lv_aload_n hx hb dX12_openHead_296 rfl (lv_at hl 0 rfl) ?_
                              refine hk_get (ci := 15) (C := RX12) (T := TX12) (N := 92) (v := .ref (ad 25)) hx hb hts (fun _ h => List.mem_cons_of_mem _ (wwMc_wsX120 _ h)) hown hw 0 rfl rfl 88 (by decide) (hq _ wM_294) rfl dX12_openHead_297 ?_
                              refine lv_iload hx hb dX12_openHead_300 (lv_at hl 2 rfl) ?_
                              refine jx_iald hx hb hw 25 0 rfl rfl (hE_in (n := 4) (om609 ((x34).toInt) ((z23).toInt) ((z22).toInt) (((1 : Int32)).toInt) ((r5).toInt) hf_B33_0 (hE_nle cc39) xz23 (hE_and 2 4 hz22 (by decide) (by decide) (by decide)) (by decide))) dX12_openHead_302 (fun z100 hz100 => ?_)
                              refine lv_iload_n hx hb dX12_openHead_303 rfl (lv_at hl 1 rfl) ?_
                              refine jx_Vv (As := [.int z100, .int y3]) (rest := []) ⟨hx, hb, hml, hown, hts⟩ hZ hw hA (jm_X12_readDictionary l hlt D t3 cI cJ ad g91 l36 a92 bk _ z100 y3 (om215 ((g91 51).toInt) (((0 : Int32)).toInt) hf_B89_4 (hE_eq cc99) (by decide))) (cwV 2 hts (jx_gV wwM_good wM_330 wM_331 wM_332 wM_8 wM_333) rfl rfl rfl (by decide +kernel) ⟨Nat.le_of_ble_eq_true rfl, Nat.le_of_ble_eq_true rfl⟩) 0 (ci := 15) (T := TX12) (N := 92) rfl rfl rfl hl.1 rfl (Nat.le_of_ble_eq_true rfl) dX12_openHead_304 ⟨Nat.le_of_ble_eq_true rfl, Nat.le_of_ble_eq_true rfl⟩ (fun _ _ _ _ _ _ _ _ hp _ _ _ _ => hp.elim) (fun g106 l107 a108 b109 H locs hp110 hw => ?_)
                              obtain ⟨h111, h112, rfl, rfl, h115, h116⟩ := hp110
                              exact B94 g106 l107 ls _ _ (om220 ((g 51).toInt) ((g106 51).toInt) ((g35 51).toInt) (((0 : Int32)).toInt) hf_B33_2 (hE_eq cc40) (by decide)) (om206 ((g106 51).toInt) h116) h111 h112 hw (lv_sub hl [0, 1, 2] rfl)
                        refine hk_lcmp_ne (tgt := 281) hx hb dX12_openHead_270 dX12_openHead_271 (by decide) (fun cc117 => ?_) (fun cc117 => ?_)
                        · refine lv_iconst (v := 0) hx hb dX12_openHead_281 (by decide) ?_
                          have e_g85_49 : g85 49 = (g71 49) := (hfr_g85 49 rfl)
                          exact B89 0 g85 ls _ _ (om190 (((0 : Int32)).toInt) (by decide)) (om611 ((g 49).toInt) ((g85 49).toInt) ((g35 49).toInt) ((g71 49).toInt) ((g46 49).toInt) ((g65 49).toInt) hf_B33_1 (congrArg Int32.toInt e_g85_49) h55 h80 (congrArg Int32.toInt e_g65_49)) (om220 ((g 51).toInt) ((g85 51).toInt) ((g35 51).toInt) (((0 : Int32)).toInt) hf_B33_2 (hE_eq cc40) (by decide)) (om21 ((g85 49).toInt) ((g71 49).toInt) (congrArg Int32.toInt e_g85_49) h82) (om206 ((g85 51).toInt) hf_B84_1) hk_fr0 hw (lv_sub hl [0, 1, 2, 4] rfl)
                        · refine lv_aload_n hx hb dX12_openHead_274 rfl (lv_at hl 0 rfl) ?_
                          have e_g85_49 : g85 49 = (g71 49) := (hfr_g85 49 rfl)
                          have e_g85_12 : g85 12 = (g 12) := ((hfr_g85 12 rfl)).trans (((h76 12 rfl)).trans e_g65_12)
                          refine jx_Vi (As := []) (rest := [.int x34, .ref (ad 25)]) ⟨hx, hb, hml, hown, hts⟩ hZ hw hA (jm_X12_next l hlt D t3 cI cJ ad g85 l36 a87 bk _ (om21 ((g85 49).toInt) ((g71 49).toInt) (congrArg Int32.toInt e_g85_49) h82) (om206 ((g85 51).toInt) hf_B84_1) (om21 ((g85 12).toInt) ((g 12).toInt) (congrArg Int32.toInt e_g85_12) hi_g12) hr88) (cwV 0 hts (jx_gV wwM_good wM_59 wM_60 wM_61 wM_8 wM_62) rfl rfl rfl (by decide +kernel) ⟨Nat.le_of_ble_eq_true rfl, Nat.le_of_ble_eq_true rfl⟩) 0 (ci := 15) (T := TX12) (N := 92) rfl rfl rfl hl.1 rfl (Nat.le_of_ble_eq_true rfl) dX12_openHead_275 ⟨Nat.le_of_ble_eq_true rfl, Nat.le_of_ble_eq_true rfl⟩ (fun _ _ _ _ _ _ _ _ hp _ _ _ _ => hp.elim) (fun r122 g123 l124 a125 b126 H locs hp127 hw => ?_)
                          obtain ⟨h128, rfl, rfl, rfl, h132, h133, h134, h135, h136⟩ := hp127
                          have e_g85_49 : g85 49 = (g71 49) := (hfr_g85 49 rfl)
                          refine lv_goto (tgt := 282) hx hb dX12_openHead_278 (by decide) ?_
                          exact B89 r122 g123 ls _ _ (om34 ((r122).toInt) h132) (om612 ((g 49).toInt) ((g123 49).toInt) ((g35 49).toInt) ((g85 49).toInt) ((g46 49).toInt) ((g71 49).toInt) ((g65 49).toInt) hf_B33_1 h134 h55 (congrArg Int32.toInt e_g85_49) (congrArg Int32.toInt e_g65_49) h80) (om220 ((g 51).toInt) ((g123 51).toInt) ((g35 51).toInt) (((0 : Int32)).toInt) hf_B33_2 (hE_eq cc40) (by decide)) (om202 ((g123 49).toInt) h135) (om206 ((g123 51).toInt) h136) h128 hw (lv_sub hl [0, 1, 2, 4] rfl)
                      refine lv_if_ne (tgt := 251) hx hb dX12_openHead_222 (by decide) (fun cc137 => ?_) (fun cc137 => ?_)
                      · exact B84 g71 ls _ _ (om220 ((g 51).toInt) ((g71 51).toInt) ((g35 51).toInt) (((0 : Int32)).toInt) hf_B33_2 (hE_eq cc40) (by decide)) (om185 ((g71 51).toInt) (((0 : Int32)).toInt) h83 (hE_ne cc137) (by decide)) hk_fr0 hw (lv_sub hl [1, 2, 3, 4, 5, 0] rfl)
                      · refine lv_lload hx hb dX12_openHead_225 (lv_at hl 0 rfl) ?_
                        refine lv_lload hx hb dX12_openHead_227 (lv_at hl 4 rfl) ?_
                        refine lv_ldc2 (v := 7) hx hb hown (hq _ wM_329) dX12_openHead_229 ?_
                        have B138 : ∀  (x139 : Int64) (ls : Array Slot) (H : Heap) (locs : List Loc), hk_W D (jT cI cJ) A s H locs (mw cI cJ ad g71 l36 a37 bk) → lv_has ls 12 [(0, .ref (ad 0)), (3, .int y3), (5, .int x34), (6, .long r45), (8, .int x61), (10, .long r70)] → W p l e { frames := 3, cells := 0, slots := 0, locals := 66 } s m args below meth c H locs 0 0 Q (F0 m 241 ls [.long x139, .long r70]) := by
                          intro x139 ls H locs hw hl
                          refine hk_lcmp_eq (tgt := 251) hx hb dX12_openHead_241 dX12_openHead_242 (by decide) (fun cc140 => ?_) (fun cc140 => ?_)
                          · exact B84 g71 ls _ _ (om220 ((g 51).toInt) ((g71 51).toInt) ((g35 51).toInt) (((0 : Int32)).toInt) hf_B33_2 (hE_eq cc40) (by decide)) (om215 ((g71 51).toInt) (((0 : Int32)).toInt) h83 (hE_eq cc137) (by decide)) hk_fr0 hw (lv_sub hl [0, 1, 2, 3, 4, 5] rfl)
                          · refine lv_aload_n hx hb dX12_openHead_245 rfl (lv_at hl 0 rfl) ?_
                            refine lv_bipush (v := 8) hx hb dX12_openHead_246 (by decide) ?_
                            refine jx_Vv (As := [.int 8]) (rest := []) ⟨hx, hb, hml, hown, hts⟩ hZ hw hA (jm_X12_fail l hlt D t3 cI cJ ad g71 l36 a37 bk _ 8 (om604 (((8 : Int32)).toInt) (by decide)) (om215 ((g71 51).toInt) (((0 : Int32)).toInt) h83 (hE_eq cc137) (by decide))) (cwV 1 hts (jx_gV wwM_good wM_64 wM_65 wM_66 wM_8 wM_67) rfl rfl rfl (by decide +kernel) ⟨Nat.le_of_ble_eq_true rfl, Nat.le_of_ble_eq_true rfl⟩) 0 (ci := 15) (T := TX12) (N := 92) rfl rfl rfl hl.1 rfl (Nat.le_of_ble_eq_true rfl) dX12_openHead_248 ⟨Nat.le_of_ble_eq_true rfl, Nat.le_of_ble_eq_true rfl⟩ (fun _ _ _ _ _ _ _ _ hp _ _ _ _ => hp.elim) (fun g146 l147 a148 b149 H locs hp150 hw => ?_)
                            obtain ⟨h151, rfl, rfl, rfl, h155, h156⟩ := hp150
                            exact B84 g146 ls _ _ (om217 ((g 51).toInt) ((g146 51).toInt) h155) (om193 ((g146 51).toInt) h155 h156) h151 hw (lv_sub hl [0, 1, 2, 3, 4, 5] rfl)
                        refine hk_lcmp_ne (tgt := 240) hx hb dX12_openHead_232 dX12_openHead_233 (by decide) (fun cc157 => ?_) (fun cc157 => ?_)
                        · refine lv_lconst (v := 1) hx hb dX12_openHead_240 (by decide) ?_
                          exact B138 1 ls _ _ hw (lv_sub hl [1, 2, 3, 4, 5, 0] rfl)
                        · refine lv_lconst (v := 0) hx hb dX12_openHead_236 (by decide) ?_
                          refine lv_goto (tgt := 241) hx hb dX12_openHead_237 (by decide) ?_
                          exact B138 0 ls _ _ hw (lv_sub hl [1, 2, 3, 4, 5, 0] rfl)
                    refine lv_if_ne (tgt := 210) hx hb dX12_openHead_196 (by decide) (fun cc158 => ?_) (fun cc158 => ?_)
                    · exact B64 g46 ls _ _ (om220 ((g 51).toInt) ((g46 51).toInt) ((g35 51).toInt) (((0 : Int32)).toInt) hf_B33_2 (hE_eq cc40) (by decide)) (om185 ((g46 51).toInt) (((0 : Int32)).toInt) h58 (hE_ne cc158) (by decide)) hk_fr0 hw (lv_sub hl [1, 2, 3, 4, 5] rfl)
                    · refine lv_iload hx hb dX12_openHead_199 (lv_at hl 0 rfl) ?_
                      refine lv_if_ne (tgt := 210) hx hb dX12_openHead_201 (by decide) (fun cc159 => ?_) (fun cc159 => ?_)
                      · exact B64 g46 ls _ _ (om220 ((g 51).toInt) ((g46 51).toInt) ((g35 51).toInt) (((0 : Int32)).toInt) hf_B33_2 (hE_eq cc40) (by decide)) (om215 ((g46 51).toInt) (((0 : Int32)).toInt) h58 (hE_eq cc158) (by decide)) hk_fr0 hw (lv_sub hl [1, 2, 3, 4, 5] rfl)
                      · refine lv_aload_n hx hb dX12_openHead_204 rfl (lv_at hl 1 rfl) ?_
                        refine lv_bipush (v := 8) hx hb dX12_openHead_205 (by decide) ?_
                        refine jx_Vv (As := [.int 8]) (rest := []) ⟨hx, hb, hml, hown, hts⟩ hZ hw hA (jm_X12_fail l hlt D t3 cI cJ ad g46 l36 a37 bk _ 8 (om604 (((8 : Int32)).toInt) (by decide)) (om215 ((g46 51).toInt) (((0 : Int32)).toInt) h58 (hE_eq cc158) (by decide))) (cwV 1 hts (jx_gV wwM_good wM_64 wM_65 wM_66 wM_8 wM_67) rfl rfl rfl (by decide +kernel) ⟨Nat.le_of_ble_eq_true rfl, Nat.le_of_ble_eq_true rfl⟩) 0 (ci := 15) (T := TX12) (N := 92) rfl rfl rfl hl.1 rfl (Nat.le_of_ble_eq_true rfl) dX12_openHead_207 ⟨Nat.le_of_ble_eq_true rfl, Nat.le_of_ble_eq_true rfl⟩ (fun _ _ _ _ _ _ _ _ hp _ _ _ _ => hp.elim) (fun g165 l166 a167 b168 H locs hp169 hw => ?_)
                        obtain ⟨h170, rfl, rfl, rfl, h174, h175⟩ := hp169
                        exact B64 g165 ls _ _ (om217 ((g 51).toInt) ((g165 51).toInt) h174) (om193 ((g165 51).toInt) h174 h175) h170 hw (lv_sub hl [1, 2, 3, 4, 5] rfl)
                  refine lv_if_eq (tgt := 167) hx hb dX12_openHead_147 (by decide) (fun cc176 => ?_) (fun cc176 => ?_)
                  · refine lv_lload hx hb dX12_openHead_167 (lv_at hl 4 rfl) ?_
                    refine lv_ldc2 (v := 3) hx hb hown (hq _ wM_328) dX12_openHead_169 ?_
                    have B177 : ∀  (ls : Array Slot) (H : Heap) (locs : List Loc), hk_W D (jT cI cJ) A s H locs (mw cI cJ ad g46 l36 a37 bk) → lv_has ls 12 [(0, .ref (ad 0)), (3, .int y3), (5, .int x34), (6, .long r45), (8, .int x61)] → W p l e { frames := 3, cells := 0, slots := 0, locals := 66 } s m args below meth c H locs 0 0 Q (F0 m 185 ls []) := by
                      intro ls H locs hw hl
                      refine lv_iconst (v := 1) hx hb dX12_openHead_185 (by decide) ?_
                      refine lv_goto (tgt := 190) hx hb dX12_openHead_186 (by decide) ?_
                      exact B62 1 ls _ _ (om225 (((1 : Int32)).toInt) (by decide)) hw (lv_sub hl [0, 1, 2, 3, 4] rfl)
                    refine hk_lcmp_eq (tgt := 185) hx hb dX12_openHead_172 dX12_openHead_173 (by decide) (fun cc178 => ?_) (fun cc178 => ?_)
                    · exact B177 ls _ _ hw (lv_sub hl [1, 2, 3, 4, 0] rfl)
                    · refine lv_lload hx hb dX12_openHead_176 (lv_at hl 4 rfl) ?_
                      refine lv_ldc2 (v := 7) hx hb hown (hq _ wM_329) dX12_openHead_178 ?_
                      refine hk_lcmp_ne (tgt := 189) hx hb dX12_openHead_181 dX12_openHead_182 (by decide) (fun cc179 => ?_) (fun cc179 => ?_)
                      · refine lv_iconst (v := 0) hx hb dX12_openHead_189 (by decide) ?_
                        exact B62 0 ls _ _ (om226 (((0 : Int32)).toInt) (by decide)) hw (lv_sub hl [1, 2, 3, 4, 0] rfl)
                      · exact B177 ls _ _ hw (lv_sub hl [1, 2, 3, 4, 0] rfl)
                  · refine lv_lload hx hb dX12_openHead_150 (lv_at hl 4 rfl) ?_
                    refine lv_ldc2 (v := 33) hx hb hown (hq _ wM_327) dX12_openHead_152 ?_
                    refine hk_lcmp_ne (tgt := 163) hx hb dX12_openHead_155 dX12_openHead_156 (by decide) (fun cc180 => ?_) (fun cc180 => ?_)
                    · refine lv_iconst (v := 0) hx hb dX12_openHead_163 (by decide) ?_
                      refine lv_goto (tgt := 190) hx hb dX12_openHead_164 (by decide) ?_
                      exact B62 0 ls _ _ (om226 (((0 : Int32)).toInt) (by decide)) hw (lv_sub hl [1, 2, 3, 4, 0] rfl)
                    · refine lv_iconst (v := 1) hx hb dX12_openHead_159 (by decide) ?_
                      refine lv_goto (tgt := 190) hx hb dX12_openHead_160 (by decide) ?_
                      exact B62 1 ls _ _ (om225 (((1 : Int32)).toInt) (by decide)) hw (lv_sub hl [1, 2, 3, 4, 0] rfl)
                refine lv_icmp_ne (tgt := 142) hx hb dX12_openHead_135 (by decide) (fun cc181 => ?_) (fun cc181 => ?_)
                · refine lv_iconst (v := 0) hx hb dX12_openHead_142 (by decide) ?_
                  exact B60 0 ls _ _ (om226 (((0 : Int32)).toInt) (by decide)) hw (lv_sub hl [1, 2, 3, 0] rfl)
                · refine lv_iconst (v := 1) hx hb dX12_openHead_138 (by decide) ?_
                  refine lv_goto (tgt := 143) hx hb dX12_openHead_139 (by decide) ?_
                  exact B60 1 ls _ _ (om225 (((1 : Int32)).toInt) (by decide)) hw (lv_sub hl [1, 2, 3, 0] rfl)
        exact B33 (2147483648 - ((0 : Int32)).toInt).toNat 0 g31 l32 ar ls _ _ (Int.self_le_toNat _) (om18 (((0 : Int32)).toInt) (by decide)) (om204 ((g 49).toInt) ((g31 49).toInt) hf_B29_0) (om213 ((g 51).toInt) ((g31 51).toInt) hf_B29_1) (om202 ((g31 49).toInt) hf_B29_2) (om206 ((g31 51).toInt) hf_B29_3) hk_fr0 hk_fr0 hk_fr0 hi_a24rg hw (lv_sub hl [1, 2, 0] rfl)
      have B182 : ∀  (ls : Array Slot) (H : Heap) (locs : List Loc), hk_W D (jT cI cJ) A s H locs (mw cI cJ ad g27 l28 ar bk) → lv_has ls 12 [(0, .ref (ad 0)), (3, .int y3)] → W p l e { frames := 3, cells := 0, slots := 0, locals := 66 } s m args below meth c H locs 0 0 Q (F0 m 94 ls [.ref (ad 0)]) := by
        intro ls H locs hw hl
        refine lv_ldc2 (v := (-1)) hx hb hown (hq _ wM_48) dX12_openHead_94 ?_
        exact B29 (-1) g27 ls _ _ (om204 ((g 49).toInt) ((g27 49).toInt) hf_B25_0) (om213 ((g 51).toInt) ((g27 51).toInt) hf_B25_1) (om202 ((g27 49).toInt) hf_B25_2) (om206 ((g27 51).toInt) hf_B25_3) hk_fr0 hw (lv_sub hl [0, 1] rfl)
      refine lv_if_ne (tgt := 94) hx hb dX12_openHead_73 (by decide) (fun cc183 => ?_) (fun cc183 => ?_)
      · exact B182 ls _ _ hw (lv_sub hl [0, 1] rfl)
      · refine lv_iload hx hb dX12_openHead_76 (lv_at hl 2 rfl) ?_
        refine lv_sipush (v := 128) hx hb dX12_openHead_78 (by decide) ?_
        refine lv_iand hx hb dX12_openHead_81 (jx_nm fun z184 hz184 => ?_)
        refine lv_if_eq (tgt := 94) hx hb dX12_openHead_82 (by decide) (fun cc185 => ?_) (fun cc185 => ?_)
        · exact B182 ls _ _ hw (lv_sub hl [0, 1] rfl)
        · refine lv_aload_n hx hb dX12_openHead_85 rfl (lv_at hl 0 rfl) ?_
          refine lv_bipush (v := 8) hx hb dX12_openHead_86 (by decide) ?_
          have e_g27_12 : g27 12 = (g 12) := ((hfr_g27 12 rfl)).trans (((hk_upgN h_g24 12 rfl)).trans (((hfr_g21 12 rfl)).trans (h11 12 rfl)))
          refine jx_Vl (As := [.int 8]) (rest := [.ref (ad 0)]) ⟨hx, hb, hml, hown, hts⟩ hZ hw hA (jm_X12_readV l hlt D t3 cI cJ ad g27 l28 ar bk _ 8 (om604 (((8 : Int32)).toInt) (by decide)) (om202 ((g27 49).toInt) hf_B25_2) (om215 ((g27 51).toInt) (((0 : Int32)).toInt) hf_B25_3 (hE_eq cc183) (by decide)) (om21 ((g27 12).toInt) ((g 12).toInt) (congrArg Int32.toInt e_g27_12) hi_g12) hi_a0rg) (cwV 1 hts (jx_gV wwM_good wM_323 wM_324 wM_325 wM_8 wM_326) rfl rfl rfl (by decide +kernel) ⟨Nat.le_of_ble_eq_true rfl, Nat.le_of_ble_eq_true rfl⟩) 0 (ci := 15) (T := TX12) (N := 92) rfl rfl rfl hl.1 rfl (Nat.le_of_ble_eq_true rfl) dX12_openHead_88 ⟨Nat.le_of_ble_eq_true rfl, Nat.le_of_ble_eq_true rfl⟩ (fun _ _ _ _ _ _ _ _ hp _ _ _ _ => hp.elim) (fun r190 g191 l192 a193 b194 H locs hp195 hw => ?_)
          obtain ⟨h196, rfl, rfl, rfl, h200, h201, h202, h203⟩ := hp195
          refine lv_goto (tgt := 97) hx hb dX12_openHead_91 (by decide) ?_
          exact B29 r190 g191 ls _ _ (om209 ((g 49).toInt) ((g191 49).toInt) ((g27 49).toInt) hf_B25_0 h200) (om220 ((g 51).toInt) ((g191 51).toInt) ((g27 51).toInt) (((0 : Int32)).toInt) hf_B25_1 (hE_eq cc183) (by decide)) (om202 ((g191 49).toInt) h202) (om206 ((g191 51).toInt) h203) h196 hw (lv_sub hl [0, 1] rfl)
    have B204 : ∀  (ls : Array Slot) (H : Heap) (locs : List Loc), hk_W D (jT cI cJ) A s H locs (mw cI cJ ad g24 lg ar bk) → lv_has ls 12 [(0, .ref (ad 0)), (3, .int y3), (4, .int r5)] → W p l e { frames := 3, cells := 0, slots := 0, locals := 66 } s m args below meth c H locs 0 0 Q (F0 m 62 ls [.ref (ad 0)]) := by
      intro ls H locs hw hl
      refine lv_ldc2 (v := (-1)) hx hb hown (hq _ wM_48) dX12_openHead_62 ?_
      have e_g24_49 : g24 49 = (g6 49) := ((hk_upgN h_g24 49 rfl)).trans (hfr_g21 49 rfl)
      exact B25 (-1) g24 ls _ _ (om212 ((g 49).toInt) ((g24 49).toInt) ((g6 49).toInt) h17 (congrArg Int32.toInt e_g24_49)) (om613 ((g 51).toInt) ((g24 51).toInt) ((g21 51).toInt) hf_B20_0 (congrArg Int32.toInt e_g24_51)) (om21 ((g24 49).toInt) ((g6 49).toInt) (congrArg Int32.toInt e_g24_49) h18) (om422 ((g24 51).toInt) ((g21 51).toInt) (congrArg Int32.toInt e_g24_51) hf_B20_1) hk_fr0 hw (lv_sub hl [0, 1, 2] rfl)
    refine lv_if_ne (tgt := 62) hx hb dX12_openHead_42 (by decide) (fun cc205 => ?_) (fun cc205 => ?_)
    · exact B204 ls _ _ hw (lv_sub hl [0, 1, 2] rfl)
    · refine lv_iload hx hb dX12_openHead_45 (lv_at hl 2 rfl) ?_
      refine lv_bipush (v := 64) hx hb dX12_openHead_47 (by decide) ?_
      refine lv_iand hx hb dX12_openHead_49 (jx_nm fun z206 hz206 => ?_)
      refine lv_if_eq (tgt := 62) hx hb dX12_openHead_50 (by decide) (fun cc207 => ?_) (fun cc207 => ?_)
      · exact B204 ls _ _ hw (lv_sub hl [0, 1, 2] rfl)
      · refine lv_aload_n hx hb dX12_openHead_53 rfl (lv_at hl 0 rfl) ?_
        refine lv_bipush (v := 8) hx hb dX12_openHead_54 (by decide) ?_
        have e_g24_49 : g24 49 = (g6 49) := ((hk_upgN h_g24 49 rfl)).trans (hfr_g21 49 rfl)
        have e_g24_12 : g24 12 = (g 12) := ((hk_upgN h_g24 12 rfl)).trans (((hfr_g21 12 rfl)).trans (h11 12 rfl))
        refine jx_Vl (As := [.int 8]) (rest := [.ref (ad 0)]) ⟨hx, hb, hml, hown, hts⟩ hZ hw hA (jm_X12_readV l hlt D t3 cI cJ ad g24 lg ar bk _ 8 (om604 (((8 : Int32)).toInt) (by decide)) (om21 ((g24 49).toInt) ((g6 49).toInt) (congrArg Int32.toInt e_g24_49) h18) (om614 ((g24 51).toInt) ((g21 51).toInt) (((0 : Int32)).toInt) (congrArg Int32.toInt e_g24_51) hf_B20_1 (hE_eq cc205) (by decide)) (om21 ((g24 12).toInt) ((g 12).toInt) (congrArg Int32.toInt e_g24_12) hi_g12) hi_a0rg) (cwV 1 hts (jx_gV wwM_good wM_323 wM_324 wM_325 wM_8 wM_326) rfl rfl rfl (by decide +kernel) ⟨Nat.le_of_ble_eq_true rfl, Nat.le_of_ble_eq_true rfl⟩) 0 (ci := 15) (T := TX12) (N := 92) rfl rfl rfl hl.1 rfl (Nat.le_of_ble_eq_true rfl) dX12_openHead_56 ⟨Nat.le_of_ble_eq_true rfl, Nat.le_of_ble_eq_true rfl⟩ (fun _ _ _ _ _ _ _ _ hp _ _ _ _ => hp.elim) (fun r212 g213 l214 a215 b216 H locs hp217 hw => ?_)
        obtain ⟨h218, rfl, rfl, rfl, h222, h223, h224, h225⟩ := hp217
        have e_g24_49 : g24 49 = (g6 49) := ((hk_upgN h_g24 49 rfl)).trans (hfr_g21 49 rfl)
        refine lv_goto (tgt := 65) hx hb dX12_openHead_59 (by decide) ?_
        exact B25 r212 g213 ls _ _ (om552 ((g 49).toInt) ((g213 49).toInt) ((g6 49).toInt) ((g24 49).toInt) h17 h222 (congrArg Int32.toInt e_g24_49)) (om220 ((g 51).toInt) ((g213 51).toInt) ((g21 51).toInt) (((0 : Int32)).toInt) hf_B20_0 (hE_eq cc205) (by decide)) (om202 ((g213 49).toInt) h224) (om206 ((g213 51).toInt) h225) h218 hw (lv_sub hl [0, 1, 2] rfl)
  refine lv_if_ne (tgt := 27) hx hb dX12_openHead_10 (by decide) (fun cc226 => ?_) (fun cc226 => ?_)
  · exact B20 g6 ls _ _ (om214 ((g 51).toInt) ((g6 51).toInt) ((g6 49).toInt) ((g 49).toInt) h16) (om185 ((g6 51).toInt) (((0 : Int32)).toInt) h19 (hE_ne cc226) (by decide)) hk_fr0 hw (lv_sub hl [1, 4, 0] rfl)
  · refine lv_iload hx hb dX12_openHead_13 (lv_at hl 0 rfl) ?_
    refine lv_bipush (v := 60) hx hb dX12_openHead_15 (by decide) ?_
    refine lv_iand hx hb dX12_openHead_17 (jx_nm fun z227 hz227 => ?_)
    refine lv_if_eq (tgt := 27) hx hb dX12_openHead_18 (by decide) (fun cc228 => ?_) (fun cc228 => ?_)
    · exact B20 g6 ls _ _ (om214 ((g 51).toInt) ((g6 51).toInt) ((g6 49).toInt) ((g 49).toInt) h16) (om215 ((g6 51).toInt) (((0 : Int32)).toInt) h19 (hE_eq cc226) (by decide)) hk_fr0 hw (lv_sub hl [1, 4, 0] rfl)
    · refine lv_aload_n hx hb dX12_openHead_21 rfl (lv_at hl 1 rfl) ?_
      refine lv_bipush (v := 8) hx hb dX12_openHead_22 (by decide) ?_
      refine jx_Vv (As := [.int 8]) (rest := []) ⟨hx, hb, hml, hown, hts⟩ hZ hw hA (jm_X12_fail l hlt D t3 cI cJ ad g6 lg ar bk _ 8 (om604 (((8 : Int32)).toInt) (by decide)) (om215 ((g6 51).toInt) (((0 : Int32)).toInt) h19 (hE_eq cc226) (by decide))) (cwV 1 hts (jx_gV wwM_good wM_64 wM_65 wM_66 wM_8 wM_67) rfl rfl rfl (by decide +kernel) ⟨Nat.le_of_ble_eq_true rfl, Nat.le_of_ble_eq_true rfl⟩) 0 (ci := 15) (T := TX12) (N := 92) rfl rfl rfl hl.1 rfl (Nat.le_of_ble_eq_true rfl) dX12_openHead_24 ⟨Nat.le_of_ble_eq_true rfl, Nat.le_of_ble_eq_true rfl⟩ (fun _ _ _ _ _ _ _ _ hp _ _ _ _ => hp.elim) (fun g234 l235 a236 b237 H locs hp238 hw => ?_)
      obtain ⟨h239, rfl, rfl, rfl, h243, h244⟩ := hp238
      exact B20 g234 ls _ _ (om217 ((g 51).toInt) ((g234 51).toInt) h243) (om193 ((g234 51).toInt) h243 h244) h239 hw (lv_sub hl [1, 4, 0] rfl)

set_option maxHeartbeats 4000000 in
set_option maxRecDepth 100000 in
/-- X12_openBlock on (0,) -/
theorem jm_X12_openBlock (l : Launch) (hlt : l.stackTraces = false) (D : va_G) (t3 : Nat × Nat × Nat) (cI cJ : ClassId) (ad : Nat → Nat) (g : Nat → Int32) (lg : Nat → Int64) (ar : Nat → Nat → Int32) (bk : Nat → Int64) (sz : Nat) (y1 : Int32) (y2 : Int32) (y3 : Int32) (hr0 : 0 ≤ (y1).toInt ∧ (y1).toInt ≤ (g 49).toInt) (hr1 : 8 ≤ (y2).toInt ∧ (y2).toInt ≤ 1024) (hr2 : (g 20).toInt < (g 49).toInt) (hr3 : 0 ≤ (g 18).toInt ∧ (g 18).toInt ≤ (g 13).toInt) (hr4 : (g 51).toInt = 0) (hr5 : (g 55).toInt = 0) (hi_g49 : 0 ≤ (g 49).toInt ∧ (g 49).toInt ≤ 1500) (hi_g51 : 0 ≤ (g 51).toInt ∧ (g 51).toInt ≤ 15) (hi_g52 : 0 ≤ (g 52).toInt ∧ (g 52).toInt ≤ 3000) (hi_g55 : 0 ≤ (g 55).toInt ∧ (g 55).toInt ≤ 1) (hi_g20 : 0 ≤ (g 20).toInt ∧ (g 20).toInt ≤ 3001) (hi_g24 : 1 ≤ (g 24).toInt ∧ (g 24).toInt ≤ 3000) (hi_g25 : 1 ≤ (g 25).toInt ∧ (g 25).toInt ≤ 3000) (hi_g26 : 1 ≤ (g 26).toInt ∧ (g 26).toInt ≤ 3000) (hi_g27 : 1 ≤ (g 27).toInt ∧ (g 27).toInt ≤ 3000) (hi_g12 : 0 ≤ (g 12).toInt ∧ (g 12).toInt ≤ 1500) (hi_a0rg : hk_rg 0 255 (ar 0)) (hi_g58 : 0 ≤ (g 58).toInt ∧ (g 58).toInt ≤ 4) (hi_a24rg : hk_rg 0 255 (ar 24)) (hi_g17 : 0 ≤ (g 17).toInt ∧ (g 17).toInt ≤ 3000) (hi_a6rg : hk_rg 0 255 (ar 6)) (hi_g23 : 0 ≤ (g 23).toInt ∧ (g 23).toInt ≤ 11) (hi_g15 : 0 ≤ (g 15).toInt ∧ (g 15).toInt ≤ 63) (hi_g13 : 0 ≤ (g 13).toInt ∧ (g 13).toInt ≤ 3000) (hi_a1rg : hk_rg 0 255 (ar 1)) (hi_a12rg : hk_rg 0 20000 (ar 12)) (hi_a13rg : hk_rg 0 20000 (ar 13)) (hi_a14rg : hk_rg 0 20000 (ar 14)) : JMv l yX12_openBlock (Cond.code yX12_openBlock cX12_openBlock 10 none :: wwM) { frames := 10, cells := 0, slots := 0, locals := 235 } t3 D mw cI cJ ad [.ref (ad 0), .int y1, .int y2, .int y3] (mw cI cJ ad g lg ar bk) sz 0 0 (fun g' lg' ar' bk' => hk_fr [13, 14, 15, 16, 17, 18, 20, 23, 24, 25, 26, 27, 28, 29, 30, 31, 48, 49, 50, 51, 52, 53, 54, 55, 56, 58] g g' ∧ hk_fr [0, 1, 3, 4, 5, 6, 7] lg lg' ∧ hk_fr [1, 3, 4, 5, 6, 7, 8, 9, 10, 11, 12, 13, 14, 15, 16, 23, 24] ar ar' ∧ bk = bk' ∧ ((g 49).toInt ≤ (g' 49).toInt) ∧ ((1 ≤ (g 51).toInt → 1 ≤ (g' 51).toInt)) ∧ ((g' 20).toInt ≤ (g' 49).toInt) ∧ ((g' 51).toInt = 0 → (0 ≤ (g' 18).toInt ∧ (g' 18).toInt ≤ (g' 13).toInt ∧ (g' 55).toInt = 0)) ∧ (0 ≤ (g' 49).toInt ∧ (g' 49).toInt ≤ 1500) ∧ (0 ≤ (g' 51).toInt ∧ (g' 51).toInt ≤ 15) ∧ (0 ≤ (g' 52).toInt ∧ (g' 52).toInt ≤ 3000) ∧ (0 ≤ (g' 55).toInt ∧ (g' 55).toInt ≤ 1) ∧ (0 ≤ (g' 20).toInt ∧ (g' 20).toInt ≤ 3001) ∧ (1 ≤ (g' 24).toInt ∧ (g' 24).toInt ≤ 3000) ∧ (1 ≤ (g' 25).toInt ∧ (g' 25).toInt ≤ 3000) ∧ (1 ≤ (g' 26).toInt ∧ (g' 26).toInt ≤ 3000) ∧ (1 ≤ (g' 27).toInt ∧ (g' 27).toInt ≤ 3000) ∧ (0 ≤ (g' 58).toInt ∧ (g' 58).toInt ≤ 4) ∧ hk_rg 0 255 (ar' 24) ∧ (0 ≤ (g' 17).toInt ∧ (g' 17).toInt ≤ 3000) ∧ hk_rg 0 255 (ar' 6) ∧ (0 ≤ (g' 23).toInt ∧ (g' 23).toInt ≤ 11) ∧ (0 ≤ (g' 15).toInt ∧ (g' 15).toInt ≤ 63) ∧ (0 ≤ (g' 13).toInt ∧ (g' 13).toInt ≤ 3000) ∧ hk_rg 0 255 (ar' 1) ∧ hk_rg 0 20000 (ar' 12) ∧ hk_rg 0 20000 (ar' 13) ∧ hk_rg 0 20000 (ar' 14)) (fun g' lg' ar' bk' => False) := by
  refine jx_metv (cc := cX12_openBlock) (maxL := 10) (ret := none) rfl (by decide) rfl (Nat.le_of_ble_eq_true rfl) ?_
  intro p e s m args below meth c ls Q A hx hb hml hown hts hA hZ hw hl hQ kr kt
  have hq : ∀ w ∈ wwM, w.before args s = true := fun w h => hts w (List.mem_cons_of_mem _ h)
  have hl : lv_has ls 10 [(0, .ref (ad 0)), (1, .int y1), (2, .int y2), (3, .int y3)] := hl
  refine lv_aload_n hx hb dX12_openBlock_0 rfl (lv_at hl 0 rfl) ?_
  refine hk_get (ci := 15) (C := RX12) (T := TX12) (N := 92) (v := .int (g 50)) hx hb hts (fun _ h => List.mem_cons_of_mem _ (wwMc_wsX120 _ h)) hown hw 0 rfl rfl 77 (by decide) (hq _ wM_91) rfl dX12_openBlock_1 ?_
  refine lv_istore (lv' := [(4, .int (g 50)), (0, .ref (ad 0)), (1, .int y1), (2, .int y2), (3, .int y3)]) hx hb dX12_openBlock_4 hl (by decide) rfl (fun ls hl => ?_)
  refine lv_iload_n hx hb dX12_openBlock_6 rfl (lv_at hl 2 rfl) ?_
  refine lv_iload_n hx hb dX12_openBlock_7 rfl (lv_at hl 3 rfl) ?_
  refine lv_iadd hx hb dX12_openBlock_8 (jx_nm fun z1 hz1 => ?_)
  have xz1 : (z1).toInt = (y1).toInt + (y2).toInt := (hE_imp (hE_add hz1) (om615 ((y1).toInt) ((y2).toInt) ((g 49).toInt) hr0 hr1 hi_g49))
  refine lv_iconst (v := 4) hx hb dX12_openBlock_9 (by decide) ?_
  refine lv_isub hx hb dX12_openBlock_10 (jx_nm fun z2 hz2 => ?_)
  have xz2 : (z2).toInt = (z1).toInt - ((4 : Int32)).toInt := (hE_imp (hE_sub hz2) (om616 ((z1).toInt) (((4 : Int32)).toInt) ((y1).toInt) ((y2).toInt) ((g 49).toInt) xz1 hr0 hr1 hi_g49 (by decide)))
  refine lv_istore (lv' := [(5, .int z2), (4, .int (g 50)), (0, .ref (ad 0)), (1, .int y1), (2, .int y2), (3, .int y3)]) hx hb dX12_openBlock_11 hl (by decide) rfl (fun ls hl => ?_)
  refine lv_aload_n hx hb dX12_openBlock_13 rfl (lv_at hl 2 rfl) ?_
  refine lv_iload hx hb dX12_openBlock_14 (lv_at hl 0 rfl) ?_
  refine lv_iload hx hb dX12_openBlock_16 (lv_at hl 1 rfl) ?_
  have B3 : ∀  (x4 : Int32) (ls : Array Slot) (H : Heap) (locs : List Loc), hk_W D (jT cI cJ) A s H locs (mw cI cJ ad g lg ar bk) → lv_has ls 10 [(0, .ref (ad 0)), (1, .int y1), (2, .int y2), (3, .int y3), (4, .int (g 50)), (5, .int z2)] → W p l e { frames := 10, cells := 0, slots := 0, locals := 235 } s m args below meth c H locs 0 0 Q (F0 m 28 ls [.int x4, .ref (ad 0)]) := by
    intro x4 ls H locs hw hl
    refine jx_putg mw (cI := cI) (cJ := cJ) (ad := ad) (g := g) (lg := lg) (ar := ar) (bk := bk) (x := x4) 50 (ci := 15) (C := RX12) (T := TX12) (N := 92) (ty := .int) hx hb hts (fun _ h => List.mem_cons_of_mem _ (wwMc_wsX120 _ h)) tyX12 tyX12_ok nmX12 hown hw 0 rfl rfl 77 (by decide) (hq _ wM_91) rfl (by decide +kernel) rfl rfl (Nat.le_of_ble_eq_true rfl) dX12_openBlock_28 rfl (fun H locs g5 h_g5 hw => ?_)
    refine lv_aload_n hx hb dX12_openBlock_31 rfl (lv_at hl 0 rfl) ?_
    refine lv_iload_n hx hb dX12_openBlock_32 rfl (lv_at hl 1 rfl) ?_
    refine lv_iload_n hx hb dX12_openBlock_33 rfl (lv_at hl 2 rfl) ?_
    refine lv_iload_n hx hb dX12_openBlock_34 rfl (lv_at hl 3 rfl) ?_
    have e_g5_49 : g5 49 = (g 49) := (hk_upgN h_g5 49 rfl)
    have e_g5_51 : g5 51 = (g 51) := (hk_upgN h_g5 51 rfl)
    have e_g5_12 : g5 12 = (g 12) := (hk_upgN h_g5 12 rfl)
    have e_g5_58 : g5 58 = (g 58) := (hk_upgN h_g5 58 rfl)
    refine jx_Vv (As := [.int y1, .int y2, .int y3]) (rest := []) ⟨hx, hb, hml, hown, hts⟩ hZ hw hA (jm_X12_openHead l hlt D t3 cI cJ ad g5 lg ar bk _ y1 y2 y3 (om617 ((g5 49).toInt) ((g 49).toInt) ((g 20).toInt) (congrArg Int32.toInt e_g5_49) hr2 hi_g49 hi_g20) (om618 ((g5 51).toInt) ((g 51).toInt) (congrArg Int32.toInt e_g5_51) hr4) (om21 ((g5 12).toInt) ((g 12).toInt) (congrArg Int32.toInt e_g5_12) hi_g12) hi_a0rg (om39 ((g5 58).toInt) ((g 58).toInt) (congrArg Int32.toInt e_g5_58) hi_g58) hi_a24rg) (cwV 3 hts (jx_gV wwM_good wM_274 wM_275 wM_276 wM_8 wM_277) rfl rfl rfl (by decide +kernel) ⟨Nat.le_of_ble_eq_true rfl, Nat.le_of_ble_eq_true rfl⟩) 0 (ci := 15) (T := TX12) (N := 92) rfl rfl rfl hl.1 rfl (Nat.le_of_ble_eq_true rfl) dX12_openBlock_35 ⟨Nat.le_of_ble_eq_true rfl, Nat.le_of_ble_eq_true rfl⟩ (fun _ _ _ _ _ _ _ _ hp _ _ _ _ => hp.elim) (fun g11 l12 a13 b14 H locs hp15 hw => ?_)
    obtain ⟨h16, h17, h18, rfl, h20, h21, h22, h23, h24, h25⟩ := hp15
    have e_g5_49 : g5 49 = (g 49) := (hk_upgN h_g5 49 rfl)
    have e_g5_51 : g5 51 = (g 51) := (hk_upgN h_g5 51 rfl)
    refine lv_aload_n hx hb dX12_openBlock_38 rfl (lv_at hl 0 rfl) ?_
    refine hk_get (ci := 15) (C := RX12) (T := TX12) (N := 92) (v := .int (g11 51)) hx hb hts (fun _ h => List.mem_cons_of_mem _ (wwMc_wsX120 _ h)) hown hw 0 rfl rfl 78 (by decide) (hq _ wM_63) rfl dX12_openBlock_39 ?_
    refine lv_iconst (v := 1) hx hb dX12_openBlock_42 (by decide) ?_
    have B26 : ∀  (g27 : Nat → Int32) (ls : Array Slot) (H : Heap) (locs : List Loc), (1 ≤ (g 51).toInt → 1 ≤ (g27 51).toInt) → (0 ≤ (g27 51).toInt ∧ (g27 51).toInt ≤ 15) → (hk_fr [51] g11 g27) → hk_W D (jT cI cJ) A s H locs (mw cI cJ ad g27 l12 a13 bk) → lv_has ls 10 [(0, .ref (ad 0)), (1, .int y1), (2, .int y2), (4, .int (g 50)), (5, .int z2)] → W p l e { frames := 10, cells := 0, slots := 0, locals := 235 } s m args below meth c H locs 0 0 Q (F0 m 61 ls []) := by
      intro g27 ls H locs hf_B26_0 hf_B26_1 hfr_g27 hw hl
      have B28 : ∀ (k30 : Nat) (g29 : Nat → Int32) (ls : Array Slot) (H : Heap) (locs : List Loc), (20 * (1502 - (g29 49).toInt) - (g29 51).toInt ≤ (k30 : Int)) → ((g 49).toInt ≤ (g29 49).toInt) → (1 ≤ (g 51).toInt → 1 ≤ (g29 51).toInt) → (0 ≤ (g29 49).toInt ∧ (g29 49).toInt ≤ 1500) → (0 ≤ (g29 51).toInt ∧ (g29 51).toInt ≤ 15) → (hk_fr [49, 51] g27 g29) → hk_W D (jT cI cJ) A s H locs (mw cI cJ ad g29 l12 a13 bk) → lv_has ls 10 [(0, .ref (ad 0)), (1, .int y1), (2, .int y2), (4, .int (g 50)), (5, .int z2)] → W p l e { frames := 10, cells := 0, slots := 0, locals := 235 } s m args below meth c H locs 0 0 Q (F0 m 61 ls []) := by
        intro k30
        induction k30 with
        | zero =>
          intro g29 ls H locs hrk_B28 hf_B28_0 hf_B28_1 hf_B28_2 hf_B28_3 hfr_g29 hw hl
          exact False.elim (hk_no0 (0 * (g29 49).toInt + 0 * (g29 51).toInt) (om218 ((g29 49).toInt) ((g29 51).toInt) hf_B28_2 hf_B28_3 hrk_B28) (by simp))
        | succ k30 ih_B28 =>
          intro g29 ls H locs hrk_B28 hf_B28_0 hf_B28_1 hf_B28_2 hf_B28_3 hfr_g29 hw hl
          have hrk_B28 := hk_rk hrk_B28
          refine lv_aload_n hx hb dX12_openBlock_61 rfl (lv_at hl 0 rfl) ?_
          refine hk_get (ci := 15) (C := RX12) (T := TX12) (N := 92) (v := .int (g29 51)) hx hb hts (fun _ h => List.mem_cons_of_mem _ (wwMc_wsX120 _ h)) hown hw 0 rfl rfl 78 (by decide) (hq _ wM_63) rfl dX12_openBlock_62 ?_
          have B31 : ∀  (ls : Array Slot) (H : Heap) (locs : List Loc), ((g29 51).toInt = 0 → (z2).toInt ≤ (g29 49).toInt) → hk_W D (jT cI cJ) A s H locs (mw cI cJ ad g29 l12 a13 bk) → lv_has ls 10 [(0, .ref (ad 0)), (1, .int y1), (2, .int y2), (4, .int (g 50)), (5, .int z2)] → W p l e { frames := 10, cells := 0, slots := 0, locals := 235 } s m args below meth c H locs 0 0 Q (F0 m 87 ls []) := by
            intro ls H locs hf_B31_0 hw hl
            refine lv_aload_n hx hb dX12_openBlock_87 rfl (lv_at hl 0 rfl) ?_
            refine lv_iload hx hb dX12_openBlock_88 (lv_at hl 3 rfl) ?_
            refine jx_putg mw (cI := cI) (cJ := cJ) (ad := ad) (g := g29) (lg := l12) (ar := a13) (bk := bk) (x := (g 50)) 50 (ci := 15) (C := RX12) (T := TX12) (N := 92) (ty := .int) hx hb hts (fun _ h => List.mem_cons_of_mem _ (wwMc_wsX120 _ h)) tyX12 tyX12_ok nmX12 hown hw 0 rfl rfl 77 (by decide) (hq _ wM_91) rfl (by decide +kernel) rfl rfl (Nat.le_of_ble_eq_true rfl) dX12_openBlock_90 rfl (fun H locs g32 h_g32 hw => ?_)
            refine lv_aload_n hx hb dX12_openBlock_93 rfl (lv_at hl 0 rfl) ?_
            have e_g32_51 : g32 51 = (g29 51) := (hk_upgN h_g32 51 rfl)
            refine hk_get (ci := 15) (C := RX12) (T := TX12) (N := 92) (v := .int (g29 51)) hx hb hts (fun _ h => List.mem_cons_of_mem _ (wwMc_wsX120 _ h)) hown hw 0 rfl rfl 78 (by decide) (hq _ wM_63) (congrArg (fun z => some (Value.int z)) e_g32_51) dX12_openBlock_94 ?_
            refine lv_if_le (tgt := 101) hx hb dX12_openBlock_97 (by decide) (fun cc33 => ?_) (fun cc33 => ?_)
            · refine lv_aload_n hx hb dX12_openBlock_101 rfl (lv_at hl 0 rfl) ?_
              refine lv_aload_n hx hb dX12_openBlock_102 rfl (lv_at hl 0 rfl) ?_
              refine lv_iload_n hx hb dX12_openBlock_103 rfl (lv_at hl 1 rfl) ?_
              refine lv_iload hx hb dX12_openBlock_104 (lv_at hl 4 rfl) ?_
              refine jx_Vi (As := [.int y1, .int z2]) (rest := [.ref (ad 0)]) ⟨hx, hb, hml, hown, hts⟩ hZ hw hA (jm_X12_sum l hlt D t3 cI cJ ad g32 l12 a13 bk _ y1 z2 (om619 ((y1).toInt) ((g 49).toInt) hr0) (om620 ((z2).toInt) ((g29 51).toInt) ((g29 49).toInt) (((0 : Int32)).toInt) hf_B31_0 hf_B28_2 hf_B28_3 (hE_le cc33) (by decide))) (cwV 2 hts (jx_gV wwM_good wM_282 wM_283 wM_284 wM_8 wM_285) rfl rfl rfl (by decide +kernel) ⟨Nat.le_of_ble_eq_true rfl, Nat.le_of_ble_eq_true rfl⟩) 0 (ci := 15) (T := TX12) (N := 92) rfl rfl rfl hl.1 rfl (Nat.le_of_ble_eq_true rfl) dX12_openBlock_106 ⟨Nat.le_of_ble_eq_true rfl, Nat.le_of_ble_eq_true rfl⟩ (fun _ _ _ _ _ _ _ _ hp _ _ _ _ => hp.elim) (fun r38 g39 l40 a41 b42 H locs hp43 hw => ?_)
              obtain ⟨h44, rfl, rfl, rfl⟩ := hp43
              have e_g39_49 : g39 49 = (g29 49) := ((h44 49 rfl)).trans (hk_upgN h_g32 49 rfl)
              have e_g39_51 : g39 51 = (g29 51) := ((h44 51 rfl)).trans e_g32_51
              have e_g39_12 : g39 12 = (g 12) := ((h44 12 rfl)).trans (((hk_upgN h_g32 12 rfl)).trans (((hfr_g29 12 rfl)).trans (((hfr_g27 12 rfl)).trans (((h16 12 rfl)).trans e_g5_12))))
              refine jx_Vv (As := [.int r38]) (rest := []) ⟨hx, hb, hml, hown, hts⟩ hZ hw hA (jm_X12_wantSum l hlt D t3 cI cJ ad g39 l12 a13 bk _ r38 (om621 ((g39 49).toInt) ((g29 49).toInt) ((g 49).toInt) ((g 20).toInt) (congrArg Int32.toInt e_g39_49) hf_B28_0 hf_B28_2 hr2 hi_g20) (om200 ((g39 51).toInt) ((g29 51).toInt) (((0 : Int32)).toInt) (congrArg Int32.toInt e_g39_51) hf_B28_3 (hE_le cc33) (by decide)) (om21 ((g39 12).toInt) ((g 12).toInt) (congrArg Int32.toInt e_g39_12) hi_g12) (hk_pE (P := hk_rg 0 255) hi_a0rg (h18 0 rfl))) (cwV 1 hts (jx_gV wwM_good wM_286 wM_287 wM_288 wM_8 wM_289) rfl rfl rfl (by decide +kernel) ⟨Nat.le_of_ble_eq_true rfl, Nat.le_of_ble_eq_true rfl⟩) 0 (ci := 15) (T := TX12) (N := 92) rfl rfl rfl hl.1 rfl (Nat.le_of_ble_eq_true rfl) dX12_openBlock_109 ⟨Nat.le_of_ble_eq_true rfl, Nat.le_of_ble_eq_true rfl⟩ (fun _ _ _ _ _ _ _ _ hp _ _ _ _ => hp.elim) (fun g53 l54 a55 b56 H locs hp57 hw => ?_)
              obtain ⟨h58, rfl, rfl, rfl, h62, h63, h64, h65⟩ := hp57
              have e_g39_49 : g39 49 = (g29 49) := ((h44 49 rfl)).trans (hk_upgN h_g32 49 rfl)
              have e_g39_51 : g39 51 = (g29 51) := ((h44 51 rfl)).trans e_g32_51
              refine lv_aload_n hx hb dX12_openBlock_112 rfl (lv_at hl 0 rfl) ?_
              refine hk_get (ci := 15) (C := RX12) (T := TX12) (N := 92) (v := .int (g53 51)) hx hb hts (fun _ h => List.mem_cons_of_mem _ (wwMc_wsX120 _ h)) hown hw 0 rfl rfl 78 (by decide) (hq _ wM_63) rfl dX12_openBlock_113 ?_
              refine lv_if_le (tgt := 120) hx hb dX12_openBlock_116 (by decide) (fun cc66 => ?_) (fun cc66 => ?_)
              · refine lv_aload_n hx hb dX12_openBlock_120 rfl (lv_at hl 0 rfl) ?_
                refine lv_iconst (v := 0) hx hb dX12_openBlock_121 (by decide) ?_
                refine jx_putg mw (cI := cI) (cJ := cJ) (ad := ad) (g := g53) (lg := l12) (ar := a13) (bk := bk) (x := 0) 17 (ci := 15) (C := RX12) (T := TX12) (N := 92) (ty := .int) hx hb hts (fun _ h => List.mem_cons_of_mem _ (wwMc_wsX120 _ h)) tyX12 tyX12_ok nmX12 hown hw 0 rfl rfl 26 (by decide) (hq _ wM_82) rfl (by decide +kernel) rfl rfl (Nat.le_of_ble_eq_true rfl) dX12_openBlock_122 rfl (fun H locs g67 h_g67 hw => ?_)
                refine lv_aload_n hx hb dX12_openBlock_125 rfl (lv_at hl 0 rfl) ?_
                refine lv_iconst (v := 0) hx hb dX12_openBlock_126 (by decide) ?_
                refine jx_putg mw (cI := cI) (cJ := cJ) (ad := ad) (g := g67) (lg := l12) (ar := a13) (bk := bk) (x := 0) 28 (ci := 15) (C := RX12) (T := TX12) (N := 92) (ty := .int) hx hb hts (fun _ h => List.mem_cons_of_mem _ (wwMc_wsX120 _ h)) tyX12 tyX12_ok nmX12 hown hw 0 rfl rfl 48 (by decide) (hq _ wM_84) rfl (by decide +kernel) rfl rfl (Nat.le_of_ble_eq_true rfl) dX12_openBlock_127 rfl (fun H locs g68 h_g68 hw => ?_)
                refine lv_aload_n hx hb dX12_openBlock_130 rfl (lv_at hl 0 rfl) ?_
                refine lv_aload_n hx hb dX12_openBlock_131 rfl (lv_at hl 0 rfl) ?_
                have e_g68_13 : g68 13 = (g 13) := ((hk_upgN h_g68 13 rfl)).trans (((hk_upgN h_g67 13 rfl)).trans (((h58 13 rfl)).trans (((h44 13 rfl)).trans (((hk_upgN h_g32 13 rfl)).trans (((hfr_g29 13 rfl)).trans (((hfr_g27 13 rfl)).trans (((h16 13 rfl)).trans (hk_upgN h_g5 13 rfl))))))))
                refine hk_get (ci := 15) (C := RX12) (T := TX12) (N := 92) (v := .int (g 13)) hx hb hts (fun _ h => List.mem_cons_of_mem _ (wwMc_wsX120 _ h)) hown hw 0 rfl rfl 15 (by decide) (hq _ wM_119) (congrArg (fun z => some (Value.int z)) e_g68_13) dX12_openBlock_132 ?_
                refine jx_putg mw (cI := cI) (cJ := cJ) (ad := ad) (g := g68) (lg := l12) (ar := a13) (bk := bk) (x := (g 13)) 53 (ci := 15) (C := RX12) (T := TX12) (N := 92) (ty := .int) hx hb hts (fun _ h => List.mem_cons_of_mem _ (wwMc_wsX120 _ h)) tyX12 tyX12_ok nmX12 hown hw 0 rfl rfl 82 (by decide) (hq _ wM_189) rfl (by decide +kernel) rfl rfl (Nat.le_of_ble_eq_true rfl) dX12_openBlock_135 rfl (fun H locs g69 h_g69 hw => ?_)
                refine lv_aload_n hx hb dX12_openBlock_138 rfl (lv_at hl 0 rfl) ?_
                have e_g69_49 : g69 49 = (g53 49) := ((hk_upgN h_g69 49 rfl)).trans (((hk_upgN h_g68 49 rfl)).trans (hk_upgN h_g67 49 rfl))
                refine hk_get (ci := 15) (C := RX12) (T := TX12) (N := 92) (v := .int (g53 49)) hx hb hts (fun _ h => List.mem_cons_of_mem _ (wwMc_wsX120 _ h)) hown hw 0 rfl rfl 76 (by decide) (hq _ wM_92) (congrArg (fun z => some (Value.int z)) e_g69_49) dX12_openBlock_139 ?_
                refine lv_istore (lv' := [(6, .int (g53 49)), (0, .ref (ad 0)), (1, .int y1), (2, .int y2), (4, .int (g 50)), (5, .int z2)]) hx hb dX12_openBlock_142 hl (by decide) rfl (fun ls hl => ?_)
                refine lv_aload_n hx hb dX12_openBlock_144 rfl (lv_at hl 1 rfl) ?_
                have e_g69_51 : g69 51 = (g53 51) := ((hk_upgN h_g69 51 rfl)).trans (((hk_upgN h_g68 51 rfl)).trans (hk_upgN h_g67 51 rfl))
                have e_g69_55 : g69 55 = (g 55) := ((hk_upgN h_g69 55 rfl)).trans (((hk_upgN h_g68 55 rfl)).trans (((hk_upgN h_g67 55 rfl)).trans (((h58 55 rfl)).trans (((h44 55 rfl)).trans (((hk_upgN h_g32 55 rfl)).trans (((hfr_g29 55 rfl)).trans (((hfr_g27 55 rfl)).trans (((h16 55 rfl)).trans (hk_upgN h_g5 55 rfl)))))))))
                have e_g69_52 : g69 52 = (g 52) := ((hk_upgN h_g69 52 rfl)).trans (((hk_upgN h_g68 52 rfl)).trans (((hk_upgN h_g67 52 rfl)).trans (((h58 52 rfl)).trans (((h44 52 rfl)).trans (((hk_upgN h_g32 52 rfl)).trans (((hfr_g29 52 rfl)).trans (((hfr_g27 52 rfl)).trans (((h16 52 rfl)).trans (hk_upgN h_g5 52 rfl)))))))))
                have e_g69_53 : g69 53 = (g 13) := (hk_upgS h_g69)
                have e_g69_17 : g69 17 = (0 : Int32) := ((hk_upgN h_g69 17 rfl)).trans (((hk_upgN h_g68 17 rfl)).trans (hk_upgS h_g67))
                have e_g69_18 : g69 18 = (g 18) := ((hk_upgN h_g69 18 rfl)).trans (((hk_upgN h_g68 18 rfl)).trans (((hk_upgN h_g67 18 rfl)).trans (((h58 18 rfl)).trans (((h44 18 rfl)).trans (((hk_upgN h_g32 18 rfl)).trans (((hfr_g29 18 rfl)).trans (((hfr_g27 18 rfl)).trans (((h16 18 rfl)).trans (hk_upgN h_g5 18 rfl)))))))))
                have e_g69_24 : g69 24 = (g 24) := ((hk_upgN h_g69 24 rfl)).trans (((hk_upgN h_g68 24 rfl)).trans (((hk_upgN h_g67 24 rfl)).trans (((h58 24 rfl)).trans (((h44 24 rfl)).trans (((hk_upgN h_g32 24 rfl)).trans (((hfr_g29 24 rfl)).trans (((hfr_g27 24 rfl)).trans (((h16 24 rfl)).trans (hk_upgN h_g5 24 rfl)))))))))
                have e_g69_25 : g69 25 = (g 25) := ((hk_upgN h_g69 25 rfl)).trans (((hk_upgN h_g68 25 rfl)).trans (((hk_upgN h_g67 25 rfl)).trans (((h58 25 rfl)).trans (((h44 25 rfl)).trans (((hk_upgN h_g32 25 rfl)).trans (((hfr_g29 25 rfl)).trans (((hfr_g27 25 rfl)).trans (((h16 25 rfl)).trans (hk_upgN h_g5 25 rfl)))))))))
                have e_g69_26 : g69 26 = (g 26) := ((hk_upgN h_g69 26 rfl)).trans (((hk_upgN h_g68 26 rfl)).trans (((hk_upgN h_g67 26 rfl)).trans (((h58 26 rfl)).trans (((h44 26 rfl)).trans (((hk_upgN h_g32 26 rfl)).trans (((hfr_g29 26 rfl)).trans (((hfr_g27 26 rfl)).trans (((h16 26 rfl)).trans (hk_upgN h_g5 26 rfl)))))))))
                have e_g69_27 : g69 27 = (g 27) := ((hk_upgN h_g69 27 rfl)).trans (((hk_upgN h_g68 27 rfl)).trans (((hk_upgN h_g67 27 rfl)).trans (((h58 27 rfl)).trans (((h44 27 rfl)).trans (((hk_upgN h_g32 27 rfl)).trans (((hfr_g29 27 rfl)).trans (((hfr_g27 27 rfl)).trans (((h16 27 rfl)).trans (hk_upgN h_g5 27 rfl)))))))))
                have e_g69_12 : g69 12 = (g 12) := ((hk_upgN h_g69 12 rfl)).trans (((hk_upgN h_g68 12 rfl)).trans (((hk_upgN h_g67 12 rfl)).trans (((h58 12 rfl)).trans e_g39_12)))
                have e_g69_23 : g69 23 = (g 23) := ((hk_upgN h_g69 23 rfl)).trans (((hk_upgN h_g68 23 rfl)).trans (((hk_upgN h_g67 23 rfl)).trans (((h58 23 rfl)).trans (((h44 23 rfl)).trans (((hk_upgN h_g32 23 rfl)).trans (((hfr_g29 23 rfl)).trans (((hfr_g27 23 rfl)).trans (((h16 23 rfl)).trans (hk_upgN h_g5 23 rfl)))))))))
                refine jx_Vv (As := []) (rest := []) ⟨hx, hb, hml, hown, hts⟩ hZ hw hA (jm_X12_openChunks l hlt D t3 cI cJ ad g69 l12 a13 bk _ (om567 ((g69 51).toInt) ((g69 55).toInt) ((g 55).toInt) (congrArg Int32.toInt e_g69_55) hr5 hi_g55) (om622 ((g69 49).toInt) ((g53 49).toInt) ((g39 49).toInt) ((g29 49).toInt) ((g 49).toInt) ((g 20).toInt) (congrArg Int32.toInt e_g69_49) h62 h64 (congrArg Int32.toInt e_g39_49) hf_B28_0 hr2 hi_g20) (om200 ((g69 51).toInt) ((g53 51).toInt) (((0 : Int32)).toInt) (congrArg Int32.toInt e_g69_51) h65 (hE_le cc66) (by decide)) (om141 ((g69 52).toInt) ((g 52).toInt) (congrArg Int32.toInt e_g69_52) hi_g52) (om141 ((g69 53).toInt) ((g 13).toInt) (congrArg Int32.toInt e_g69_53) hi_g13) (om416 ((g69 55).toInt) ((g 55).toInt) (congrArg Int32.toInt e_g69_55) hr5) (om623 ((g69 53).toInt) ((g69 17).toInt) ((g 13).toInt) (((0 : Int32)).toInt) (congrArg Int32.toInt e_g69_53) (congrArg Int32.toInt e_g69_17) hi_g13 (by decide)) (om624 ((g69 18).toInt) ((g69 53).toInt) ((g69 17).toInt) ((g69 55).toInt) ((g 55).toInt) ((g 13).toInt) (((0 : Int32)).toInt) ((g 18).toInt) (congrArg Int32.toInt e_g69_55) (congrArg Int32.toInt e_g69_53) (congrArg Int32.toInt e_g69_17) (congrArg Int32.toInt e_g69_18) hr3 hr5 (by decide)) (om162 ((g69 24).toInt) ((g 24).toInt) (congrArg Int32.toInt e_g69_24) hi_g24) (om162 ((g69 25).toInt) ((g 25).toInt) (congrArg Int32.toInt e_g69_25) hi_g25) (om162 ((g69 26).toInt) ((g 26).toInt) (congrArg Int32.toInt e_g69_26) hi_g26) (om162 ((g69 27).toInt) ((g 27).toInt) (congrArg Int32.toInt e_g69_27) hi_g27) (om21 ((g69 12).toInt) ((g 12).toInt) (congrArg Int32.toInt e_g69_12) hi_g12) (hk_pE (P := hk_rg 0 255) hi_a0rg (h18 0 rfl)) (om625 ((g69 17).toInt) (((0 : Int32)).toInt) (congrArg Int32.toInt e_g69_17) (by decide)) (hk_pE (P := hk_rg 0 255) hi_a6rg (h18 6 rfl)) (om333 ((g69 23).toInt) ((g 23).toInt) (congrArg Int32.toInt e_g69_23) hi_g23)) (cwV 0 hts (jx_gV wwM_good wM_265 wM_266 wM_267 wM_8 wM_268) rfl rfl rfl (by decide +kernel) ⟨Nat.le_of_ble_eq_true rfl, Nat.le_of_ble_eq_true rfl⟩) 0 (ci := 15) (T := TX12) (N := 92) rfl rfl rfl hl.1 rfl (Nat.le_of_ble_eq_true rfl) dX12_openBlock_145 ⟨Nat.le_of_ble_eq_true rfl, Nat.le_of_ble_eq_true rfl⟩ (fun _ _ _ _ _ _ _ _ hp _ _ _ _ => hp.elim) (fun g75 l76 a77 b78 H locs hp79 hw => ?_)
                obtain ⟨h80, h81, h82, rfl, h84, h85, h86, h87, h88, h89, h90, h91, h92, h93, h94, h95, h96, h97, h98, h99⟩ := hp79
                have e_g69_51 : g69 51 = (g53 51) := ((hk_upgN h_g69 51 rfl)).trans (((hk_upgN h_g68 51 rfl)).trans (hk_upgN h_g67 51 rfl))
                have e_g75_53 : g75 53 = (g 13) := ((h80 53 rfl)).trans e_g69_53
                have hr100 : hk_rg 0 255 (a77 0) := (hk_pE (P := hk_rg 0 255) (hk_pE (P := hk_rg 0 255) hi_a0rg (h18 0 rfl)) (h82 0 rfl))
                have hr101 : hk_rg 0 255 (a77 1) := (hk_pE (P := hk_rg 0 255) (hk_pE (P := hk_rg 0 255) hi_a1rg (h18 1 rfl)) (h82 1 rfl))
                have hr102 : hk_rg 0 20000 (a77 12) := (hk_pE (P := hk_rg 0 20000) (hk_pE (P := hk_rg 0 20000) hi_a12rg (h18 12 rfl)) (h82 12 rfl))
                have hr103 : hk_rg 0 20000 (a77 13) := (hk_pE (P := hk_rg 0 20000) (hk_pE (P := hk_rg 0 20000) hi_a13rg (h18 13 rfl)) (h82 13 rfl))
                have hr104 : hk_rg 0 20000 (a77 14) := (hk_pE (P := hk_rg 0 20000) (hk_pE (P := hk_rg 0 20000) hi_a14rg (h18 14 rfl)) (h82 14 rfl))
                refine lv_aload_n hx hb dX12_openBlock_148 rfl (lv_at hl 1 rfl) ?_
                refine hk_get (ci := 15) (C := RX12) (T := TX12) (N := 92) (v := .int (g75 51)) hx hb hts (fun _ h => List.mem_cons_of_mem _ (wwMc_wsX120 _ h)) hown hw 0 rfl rfl 78 (by decide) (hq _ wM_63) rfl dX12_openBlock_149 ?_
                refine lv_if_le (tgt := 156) hx hb dX12_openBlock_152 (by decide) (fun cc105 => ?_) (fun cc105 => ?_)
                · refine lv_aload_n hx hb dX12_openBlock_156 rfl (lv_at hl 1 rfl) ?_
                  refine hk_get (ci := 15) (C := RX12) (T := TX12) (N := 92) (v := .int (g75 49)) hx hb hts (fun _ h => List.mem_cons_of_mem _ (wwMc_wsX120 _ h)) hown hw 0 rfl rfl 76 (by decide) (hq _ wM_92) rfl dX12_openBlock_157 ?_
                  refine lv_iload hx hb dX12_openBlock_160 (lv_at hl 0 rfl) ?_
                  refine lv_isub hx hb dX12_openBlock_162 (jx_nm fun z106 hz106 => ?_)
                  have xz106 : (z106).toInt = (g75 49).toInt - (g53 49).toInt := (hE_imp (hE_sub hz106) (om626 ((g75 49).toInt) ((g53 49).toInt) ((g39 49).toInt) ((g69 49).toInt) ((g29 49).toInt) ((g 49).toInt) ((g 20).toInt) h62 (congrArg Int32.toInt e_g69_49) h84 h87 (congrArg Int32.toInt e_g39_49) hf_B28_0 hr2 hi_g20))
                  refine lv_istore (lv' := [(7, .int z106), (6, .int (g53 49)), (0, .ref (ad 0)), (1, .int y1), (2, .int y2), (4, .int (g 50)), (5, .int z2)]) hx hb dX12_openBlock_163 hl (by decide) rfl (fun ls hl => ?_)
                  refine lv_aload_n hx hb dX12_openBlock_165 rfl (lv_at hl 2 rfl) ?_
                  have e_l76_6 : l76 6 = (l12 6) := (h81 6 rfl)
                  refine hk_get (ci := 15) (C := RX12) (T := TX12) (N := 92) (v := .long (l12 6)) hx hb hts (fun _ h => List.mem_cons_of_mem _ (wwMc_wsX120 _ h)) hown hw 0 rfl rfl 90 (by decide) (hq _ wM_290) (congrArg (fun z => some (Value.long z)) e_l76_6) dX12_openBlock_166 ?_
                  refine lv_lconst (v := 0) hx hb dX12_openBlock_169 (by decide) ?_
                  have B107 : ∀  (ls : Array Slot) (H : Heap) (locs : List Loc), hk_W D (jT cI cJ) A s H locs (mw cI cJ ad g75 l76 a77 bk) → lv_has ls 10 [(0, .ref (ad 0))] → W p l e { frames := 10, cells := 0, slots := 0, locals := 235 } s m args below meth c H locs 0 0 Q (F0 m 207 ls []) := by
                    intro ls H locs hw hl
                    refine lv_aload_n hx hb dX12_openBlock_207 rfl (lv_at hl 0 rfl) ?_
                    refine lv_bipush (v := 8) hx hb dX12_openBlock_208 (by decide) ?_
                    refine jx_Vv (As := [.int 8]) (rest := []) ⟨hx, hb, hml, hown, hts⟩ hZ hw hA (jm_X12_fail l hlt D t3 cI cJ ad g75 l76 a77 bk _ 8 (om604 (((8 : Int32)).toInt) (by decide)) (om189 ((g75 51).toInt) (((0 : Int32)).toInt) h88 (hE_le cc105) (by decide))) (cwV 1 hts (jx_gV wwM_good wM_64 wM_65 wM_66 wM_8 wM_67) rfl rfl rfl (by decide +kernel) ⟨Nat.le_of_ble_eq_true rfl, Nat.le_of_ble_eq_true rfl⟩) 0 (ci := 15) (T := TX12) (N := 92) rfl rfl rfl hl.1 rfl (Nat.le_of_ble_eq_true rfl) dX12_openBlock_210 ⟨Nat.le_of_ble_eq_true rfl, Nat.le_of_ble_eq_true rfl⟩ (fun _ _ _ _ _ _ _ _ hp _ _ _ _ => hp.elim) (fun g113 l114 a115 b116 H locs hp117 hw => ?_)
                    obtain ⟨h118, rfl, rfl, rfl, h122, h123⟩ := hp117
                    have e_g113_49 : g113 49 = (g75 49) := (h118 49 rfl)
                    have e_g113_20 : g113 20 = (g 20) := ((h118 20 rfl)).trans (((h80 20 rfl)).trans (((hk_upgN h_g69 20 rfl)).trans (((hk_upgN h_g68 20 rfl)).trans (((hk_upgN h_g67 20 rfl)).trans (((h58 20 rfl)).trans (((h44 20 rfl)).trans (((hk_upgN h_g32 20 rfl)).trans (((hfr_g29 20 rfl)).trans (((hfr_g27 20 rfl)).trans (((h16 20 rfl)).trans (hk_upgN h_g5 20 rfl)))))))))))
                    have e_g113_18 : g113 18 = (g75 18) := (h118 18 rfl)
                    have e_g113_13 : g113 13 = (g 13) := ((h118 13 rfl)).trans (((h80 13 rfl)).trans (((hk_upgN h_g69 13 rfl)).trans e_g68_13))
                    have e_g113_55 : g113 55 = (g75 55) := (h118 55 rfl)
                    have e_g113_52 : g113 52 = (g75 52) := (h118 52 rfl)
                    have e_g113_24 : g113 24 = (g75 24) := (h118 24 rfl)
                    have e_g113_25 : g113 25 = (g75 25) := (h118 25 rfl)
                    have e_g113_26 : g113 26 = (g75 26) := (h118 26 rfl)
                    have e_g113_27 : g113 27 = (g75 27) := (h118 27 rfl)
                    have e_g113_58 : g113 58 = (g11 58) := ((h118 58 rfl)).trans (((h80 58 rfl)).trans (((hk_upgN h_g69 58 rfl)).trans (((hk_upgN h_g68 58 rfl)).trans (((hk_upgN h_g67 58 rfl)).trans (((h58 58 rfl)).trans (((h44 58 rfl)).trans (((hk_upgN h_g32 58 rfl)).trans (((hfr_g29 58 rfl)).trans (hfr_g27 58 rfl)))))))))
                    have e_g113_17 : g113 17 = (g75 17) := (h118 17 rfl)
                    have e_g113_23 : g113 23 = (g75 23) := (h118 23 rfl)
                    have e_g113_15 : g113 15 = (g 15) := ((h118 15 rfl)).trans (((h80 15 rfl)).trans (((hk_upgN h_g69 15 rfl)).trans (((hk_upgN h_g68 15 rfl)).trans (((hk_upgN h_g67 15 rfl)).trans (((h58 15 rfl)).trans (((h44 15 rfl)).trans (((hk_upgN h_g32 15 rfl)).trans (((hfr_g29 15 rfl)).trans (((hfr_g27 15 rfl)).trans (((h16 15 rfl)).trans (hk_upgN h_g5 15 rfl)))))))))))
                    exact kr g113 l76 a77 bk _ _ _ _ ⟨(hk_frT (hk_frT (hk_frG (hk_frG (hk_frG (hk_frT (hk_frT (hk_frG (hk_frT (hk_frT (hk_frT (hk_frG hk_fr0 (by decide) h_g5) (by decide) h16) (by decide) hfr_g27) (by decide) hfr_g29) (by decide) h_g32) (by decide) h44) (by decide) h58) (by decide) h_g67) (by decide) h_g68) (by decide) h_g69) (by decide) h80) (by decide) h118), (hk_frT (hk_frT hk_fr0 (by decide) h17) (by decide) h81), (hk_frT (hk_frT hk_fr0 (by decide) h18) (by decide) h82), rfl, (om627 ((g 49).toInt) ((g113 49).toInt) ((g29 49).toInt) ((g75 49).toInt) ((g39 49).toInt) ((g69 49).toInt) ((g53 49).toInt) hf_B28_0 (congrArg Int32.toInt e_g113_49) (congrArg Int32.toInt e_g39_49) h84 h62 (congrArg Int32.toInt e_g69_49)), (om628 ((g 51).toInt) ((g113 51).toInt) hr4 h122), (om629 ((g113 20).toInt) ((g113 49).toInt) ((g75 49).toInt) ((g 20).toInt) ((g 49).toInt) ((g69 49).toInt) ((g29 49).toInt) ((g39 49).toInt) ((g53 49).toInt) (congrArg Int32.toInt e_g113_49) (congrArg Int32.toInt e_g113_20) hr2 h84 hf_B28_0 h62 (congrArg Int32.toInt e_g69_49) (congrArg Int32.toInt e_g39_49)), (om630 ((g113 51).toInt) ((g113 18).toInt) ((g113 13).toInt) ((g113 55).toInt) h122), (om631 ((g113 49).toInt) ((g75 49).toInt) ((g69 49).toInt) ((g39 49).toInt) ((g53 49).toInt) ((g29 49).toInt) ((g 49).toInt) ((g 20).toInt) (congrArg Int32.toInt e_g113_49) h84 h87 h62 (congrArg Int32.toInt e_g69_49) (congrArg Int32.toInt e_g39_49) hf_B28_0 hr2 hi_g20), (om193 ((g113 51).toInt) h122 h123), (om141 ((g113 52).toInt) ((g75 52).toInt) (congrArg Int32.toInt e_g113_52) h89), (om497 ((g113 55).toInt) ((g75 55).toInt) (congrArg Int32.toInt e_g113_55) h90), (om632 ((g113 20).toInt) ((g 20).toInt) ((g 49).toInt) (congrArg Int32.toInt e_g113_20) hr2 hi_g20 hi_g49), (om162 ((g113 24).toInt) ((g75 24).toInt) (congrArg Int32.toInt e_g113_24) h93), (om162 ((g113 25).toInt) ((g75 25).toInt) (congrArg Int32.toInt e_g113_25) h94), (om162 ((g113 26).toInt) ((g75 26).toInt) (congrArg Int32.toInt e_g113_26) h95), (om162 ((g113 27).toInt) ((g75 27).toInt) (congrArg Int32.toInt e_g113_27) h96), (om39 ((g113 58).toInt) ((g11 58).toInt) (congrArg Int32.toInt e_g113_58) h24), (hk_pE (P := hk_rg 0 255) h25 (h82 24 rfl)), (om141 ((g113 17).toInt) ((g75 17).toInt) (congrArg Int32.toInt e_g113_17) h97), h98, (om333 ((g113 23).toInt) ((g75 23).toInt) (congrArg Int32.toInt e_g113_23) h99), (om89 ((g113 15).toInt) ((g 15).toInt) (congrArg Int32.toInt e_g113_15) hi_g15), (om141 ((g113 13).toInt) ((g 13).toInt) (congrArg Int32.toInt e_g113_13) hi_g13), hr101, hr102, hr103, hr104⟩ hw dX12_openBlock_213
                  have B124 : ∀  (ls : Array Slot) (H : Heap) (locs : List Loc), hk_W D (jT cI cJ) A s H locs (mw cI cJ ad g75 l76 a77 bk) → lv_has ls 10 [(0, .ref (ad 0)), (1, .int y1), (2, .int y2), (7, .int z106)] → W p l e { frames := 10, cells := 0, slots := 0, locals := 235 } s m args below meth c H locs 0 0 Q (F0 m 185 ls []) := by
                    intro ls H locs hw hl
                    refine lv_aload_n hx hb dX12_openBlock_185 rfl (lv_at hl 0 rfl) ?_
                    have e_l76_7 : l76 7 = (l12 7) := (h81 7 rfl)
                    refine hk_get (ci := 15) (C := RX12) (T := TX12) (N := 92) (v := .long (l12 7)) hx hb hts (fun _ h => List.mem_cons_of_mem _ (wwMc_wsX120 _ h)) hown hw 0 rfl rfl 91 (by decide) (hq _ wM_291) (congrArg (fun z => some (Value.long z)) e_l76_7) dX12_openBlock_186 ?_
                    refine lv_lconst (v := 0) hx hb dX12_openBlock_189 (by decide) ?_
                    have B125 : ∀  (ls : Array Slot) (H : Heap) (locs : List Loc), hk_W D (jT cI cJ) A s H locs (mw cI cJ ad g75 l76 a77 bk) → lv_has ls 10 [(0, .ref (ad 0)), (1, .int y1), (2, .int y2), (7, .int z106)] → W p l e { frames := 10, cells := 0, slots := 0, locals := 235 } s m args below meth c H locs 0 0 Q (F0 m 214 ls []) := by
                      intro ls H locs hw hl
                      have B126 : ∀ (k128 : Nat) (g127 : Nat → Int32) (ls : Array Slot) (H : Heap) (locs : List Loc), (20 * (1502 - (g127 49).toInt) - (g127 51).toInt ≤ (k128 : Int)) → ((g 49).toInt ≤ (g127 49).toInt) → (1 ≤ (g 51).toInt → 1 ≤ (g127 51).toInt) → (0 ≤ (g127 49).toInt ∧ (g127 49).toInt ≤ 1500) → (0 ≤ (g127 51).toInt ∧ (g127 51).toInt ≤ 15) → (hk_fr [49, 51] g75 g127) → hk_W D (jT cI cJ) A s H locs (mw cI cJ ad g127 l76 a77 bk) → lv_has ls 10 [(0, .ref (ad 0)), (1, .int y1), (2, .int y2), (7, .int z106)] → W p l e { frames := 10, cells := 0, slots := 0, locals := 235 } s m args below meth c H locs 0 0 Q (F0 m 214 ls []) := by
                        intro k128
                        induction k128 with
                        | zero =>
                          intro g127 ls H locs hrk_B126 hf_B126_0 hf_B126_1 hf_B126_2 hf_B126_3 hfr_g127 hw hl
                          exact False.elim (hk_no0 (0 * (g127 49).toInt + 0 * (g127 51).toInt) (om218 ((g127 49).toInt) ((g127 51).toInt) hf_B126_2 hf_B126_3 hrk_B126) (by simp))
                        | succ k128 ih_B126 =>
                          intro g127 ls H locs hrk_B126 hf_B126_0 hf_B126_1 hf_B126_2 hf_B126_3 hfr_g127 hw hl
                          have hrk_B126 := hk_rk hrk_B126
                          refine lv_aload_n hx hb dX12_openBlock_214 rfl (lv_at hl 0 rfl) ?_
                          refine hk_get (ci := 15) (C := RX12) (T := TX12) (N := 92) (v := .int (g127 51)) hx hb hts (fun _ h => List.mem_cons_of_mem _ (wwMc_wsX120 _ h)) hown hw 0 rfl rfl 78 (by decide) (hq _ wM_63) rfl dX12_openBlock_215 ?_
                          have B129 : ∀  (ls : Array Slot) (H : Heap) (locs : List Loc), hk_W D (jT cI cJ) A s H locs (mw cI cJ ad g127 l76 a77 bk) → lv_has ls 10 [(0, .ref (ad 0)), (1, .int y1), (2, .int y2), (7, .int z106)] → W p l e { frames := 10, cells := 0, slots := 0, locals := 235 } s m args below meth c H locs 0 0 Q (F0 m 242 ls []) := by
                            intro ls H locs hw hl
                            refine lv_aload_n hx hb dX12_openBlock_242 rfl (lv_at hl 0 rfl) ?_
                            refine hk_get (ci := 15) (C := RX12) (T := TX12) (N := 92) (v := .int (g127 51)) hx hb hts (fun _ h => List.mem_cons_of_mem _ (wwMc_wsX120 _ h)) hown hw 0 rfl rfl 78 (by decide) (hq _ wM_63) rfl dX12_openBlock_243 ?_
                            refine lv_if_le (tgt := 250) hx hb dX12_openBlock_246 (by decide) (fun cc130 => ?_) (fun cc130 => ?_)
                            · refine lv_aload_n hx hb dX12_openBlock_250 rfl (lv_at hl 0 rfl) ?_
                              have e_g127_58 : g127 58 = (g11 58) := ((hfr_g127 58 rfl)).trans (((h80 58 rfl)).trans (((hk_upgN h_g69 58 rfl)).trans (((hk_upgN h_g68 58 rfl)).trans (((hk_upgN h_g67 58 rfl)).trans (((h58 58 rfl)).trans (((h44 58 rfl)).trans (((hk_upgN h_g32 58 rfl)).trans (((hfr_g29 58 rfl)).trans (hfr_g27 58 rfl)))))))))
                              refine hk_get (ci := 15) (C := RX12) (T := TX12) (N := 92) (v := .int (g11 58)) hx hb hts (fun _ h => List.mem_cons_of_mem _ (wwMc_wsX120 _ h)) hown hw 0 rfl rfl 89 (by decide) (hq _ wM_292) (congrArg (fun z => some (Value.int z)) e_g127_58) dX12_openBlock_251 ?_
                              refine lv_iconst (v := 2) hx hb dX12_openBlock_254 (by decide) ?_
                              refine lv_isub hx hb dX12_openBlock_255 (jx_nm fun z131 hz131 => ?_)
                              have xz131 : (z131).toInt = (g11 58).toInt - ((2 : Int32)).toInt := (hE_imp (hE_sub hz131) (om633 ((g11 58).toInt) (((2 : Int32)).toInt) h24 (by decide)))
                              refine lv_istore (lv' := [(8, .int z131), (0, .ref (ad 0)), (1, .int y1), (2, .int y2), (7, .int z106)]) hx hb dX12_openBlock_256 hl (by decide) rfl (fun ls hl => ?_)
                              have B132 : ∀ (k135 : Nat) (x133 : Int32) (a134 : Nat → Nat → Int32) (ls : Array Slot) (H : Heap) (locs : List Loc), ((x133).toInt + 2147483649 ≤ (k135 : Int)) → ((x133).toInt ≤ 2) → (hk_fr [6] a77 a134) → (hk_rg 0 255 (a134 6)) → hk_W D (jT cI cJ) A s H locs (mw cI cJ ad g127 l76 a134 bk) → lv_has ls 10 [(0, .ref (ad 0)), (1, .int y1), (2, .int y2), (7, .int z106), (8, .int x133)] → W p l e { frames := 10, cells := 0, slots := 0, locals := 235 } s m args below meth c H locs 0 0 Q (F0 m 258 ls []) := by
                                intro k135
                                induction k135 with
                                | zero =>
                                  intro x133 a134 ls H locs hrk_B132 hf_B132_0 hfr_a134 ha134_r6rg hw hl
                                  exact False.elim (hk_no0 (0 * (x133).toInt) (om81 ((x133).toInt) hrk_B132 (hE_rng (x133))) (by simp))
                                | succ k135 ih_B132 =>
                                  intro x133 a134 ls H locs hrk_B132 hf_B132_0 hfr_a134 ha134_r6rg hw hl
                                  have hrk_B132 := hk_rk hrk_B132
                                  refine lv_iload hx hb dX12_openBlock_258 (lv_at hl 4 rfl) ?_
                                  refine lv_if_lt (tgt := 301) hx hb dX12_openBlock_260 (by decide) (fun cc136 => ?_) (fun cc136 => ?_)
                                  · refine lv_aload_n hx hb dX12_openBlock_301 rfl (lv_at hl 0 rfl) ?_
                                    refine lv_aload_n hx hb dX12_openBlock_302 rfl (lv_at hl 0 rfl) ?_
                                    have e_g127_57 : g127 57 = (g 57) := ((hfr_g127 57 rfl)).trans (((h80 57 rfl)).trans (((hk_upgN h_g69 57 rfl)).trans (((hk_upgN h_g68 57 rfl)).trans (((hk_upgN h_g67 57 rfl)).trans (((h58 57 rfl)).trans (((h44 57 rfl)).trans (((hk_upgN h_g32 57 rfl)).trans (((hfr_g29 57 rfl)).trans (((hfr_g27 57 rfl)).trans (((h16 57 rfl)).trans (hk_upgN h_g5 57 rfl)))))))))))
                                    refine hk_get (ci := 15) (C := RX12) (T := TX12) (N := 92) (v := .int (g 57)) hx hb hts (fun _ h => List.mem_cons_of_mem _ (wwMc_wsX120 _ h)) hown hw 0 rfl rfl 86 (by decide) (hq _ wM_303) (congrArg (fun z => some (Value.int z)) e_g127_57) dX12_openBlock_303 ?_
                                    have e_g127_15 : g127 15 = (g 15) := ((hfr_g127 15 rfl)).trans (((h80 15 rfl)).trans (((hk_upgN h_g69 15 rfl)).trans (((hk_upgN h_g68 15 rfl)).trans (((hk_upgN h_g67 15 rfl)).trans (((h58 15 rfl)).trans (((h44 15 rfl)).trans (((hk_upgN h_g32 15 rfl)).trans (((hfr_g29 15 rfl)).trans (((hfr_g27 15 rfl)).trans (((h16 15 rfl)).trans (hk_upgN h_g5 15 rfl)))))))))))
                                    refine jx_Vv (As := [.int (g 57)]) (rest := []) ⟨hx, hb, hml, hown, hts⟩ hZ hw hA (jm_X12_beginCheck l hlt D t3 cI cJ ad g127 l76 a134 bk _ (g 57) (om89 ((g127 15).toInt) ((g 15).toInt) (congrArg Int32.toInt e_g127_15) hi_g15)) (cwV 1 hts (jx_gV wwM_good wM_115 wM_116 wM_117 wM_8 wM_118) rfl rfl rfl (by decide +kernel) ⟨Nat.le_of_ble_eq_true rfl, Nat.le_of_ble_eq_true rfl⟩) 0 (ci := 15) (T := TX12) (N := 92) rfl rfl rfl hl.1 rfl (Nat.le_of_ble_eq_true rfl) dX12_openBlock_306 ⟨Nat.le_of_ble_eq_true rfl, Nat.le_of_ble_eq_true rfl⟩ (fun _ _ _ _ _ _ _ _ hp _ _ _ _ => hp.elim) (fun g142 l143 a144 b145 H locs hp146 hw => ?_)
                                    obtain ⟨h147, h148, h149, rfl, h151⟩ := hp146
                                    have hr152 : hk_rg 0 255 (a144 0) := (hk_pE (P := hk_rg 0 255) (hk_pE (P := hk_rg 0 255) hr100 (hfr_a134 0 rfl)) (h149 0 rfl))
                                    have hr153 : hk_rg 0 255 (a144 1) := (hk_pE (P := hk_rg 0 255) (hk_pE (P := hk_rg 0 255) hr101 (hfr_a134 1 rfl)) (h149 1 rfl))
                                    have hr154 : hk_rg 0 20000 (a144 12) := (hk_pE (P := hk_rg 0 20000) (hk_pE (P := hk_rg 0 20000) hr102 (hfr_a134 12 rfl)) (h149 12 rfl))
                                    have hr155 : hk_rg 0 20000 (a144 13) := (hk_pE (P := hk_rg 0 20000) (hk_pE (P := hk_rg 0 20000) hr103 (hfr_a134 13 rfl)) (h149 13 rfl))
                                    have hr156 : hk_rg 0 20000 (a144 14) := (hk_pE (P := hk_rg 0 20000) (hk_pE (P := hk_rg 0 20000) hr104 (hfr_a134 14 rfl)) (h149 14 rfl))
                                    have hr157 : hk_rg 0 255 (a144 24) := (hk_pE (P := hk_rg 0 255) (hk_pE (P := hk_rg 0 255) (hk_pE (P := hk_rg 0 255) h25 (h82 24 rfl)) (hfr_a134 24 rfl)) (h149 24 rfl))
                                    refine lv_iconst (v := 0) hx hb dX12_openBlock_309 (by decide) ?_
                                    refine lv_istore (lv' := [(8, .int 0), (0, .ref (ad 0)), (1, .int y1), (2, .int y2), (7, .int z106)]) hx hb dX12_openBlock_310 hl (by decide) rfl (fun ls hl => ?_)
                                    have B158 : ∀ (k163 : Nat) (x159 : Int32) (g160 : Nat → Int32) (l161 : Nat → Int64) (a162 : Nat → Nat → Int32) (ls : Array Slot) (H : Heap) (locs : List Loc), (2147483648 - (x159).toInt ≤ (k163 : Int)) → (0 ≤ (x159).toInt) → (0 ≤ (g160 15).toInt ∧ (g160 15).toInt ≤ 63) → (hk_fr [14, 15] g142 g160) → (hk_fr [0, 1] l143 l161) → (hk_fr [3, 4] a144 a162) → hk_W D (jT cI cJ) A s H locs (mw cI cJ ad g160 l161 a162 bk) → lv_has ls 10 [(0, .ref (ad 0)), (1, .int y1), (2, .int y2), (7, .int z106), (8, .int x159)] → W p l e { frames := 10, cells := 0, slots := 0, locals := 235 } s m args below meth c H locs 0 0 Q (F0 m 312 ls []) := by
                                      intro k163
                                      induction k163 with
                                      | zero =>
                                        intro x159 g160 l161 a162 ls H locs hrk_B158 hf_B158_0 hf_B158_1 hfr_g160 hfr_l161 hfr_a162 hw hl
                                        exact False.elim (hk_no0 (0 * (x159).toInt) (om30 ((x159).toInt) hrk_B158 (hE_rng (x159))) (by simp))
                                      | succ k163 ih_B158 =>
                                        intro x159 g160 l161 a162 ls H locs hrk_B158 hf_B158_0 hf_B158_1 hfr_g160 hfr_l161 hfr_a162 hw hl
                                        have hrk_B158 := hk_rk hrk_B158
                                        refine lv_iload hx hb dX12_openBlock_312 (lv_at hl 4 rfl) ?_
                                        refine lv_aload_n hx hb dX12_openBlock_314 rfl (lv_at hl 0 rfl) ?_
                                        have e_g160_17 : g160 17 = (g75 17) := ((hfr_g160 17 rfl)).trans (((h147 17 rfl)).trans (hfr_g127 17 rfl))
                                        refine hk_get (ci := 15) (C := RX12) (T := TX12) (N := 92) (v := .int (g75 17)) hx hb hts (fun _ h => List.mem_cons_of_mem _ (wwMc_wsX120 _ h)) hown hw 0 rfl rfl 26 (by decide) (hq _ wM_82) (congrArg (fun z => some (Value.int z)) e_g160_17) dX12_openBlock_315 ?_
                                        refine lv_icmp_ge (tgt := 338) hx hb dX12_openBlock_318 (by decide) (fun cc164 => ?_) (fun cc164 => ?_)
                                        · refine lv_aload_n hx hb dX12_openBlock_338 rfl (lv_at hl 0 rfl) ?_
                                          refine jx_Vv (As := []) (rest := []) ⟨hx, hb, hml, hown, hts⟩ hZ hw hA (jm_X12_endCheck l hlt D t3 cI cJ ad g160 l161 a162 bk _ (om79 ((g160 15).toInt) hf_B158_1)) (cwV 0 hts (jx_gV wwM_good wM_125 wM_126 wM_127 wM_8 wM_128) rfl rfl rfl (by decide +kernel) ⟨Nat.le_of_ble_eq_true rfl, Nat.le_of_ble_eq_true rfl⟩) 0 (ci := 15) (T := TX12) (N := 92) rfl rfl rfl hl.1 rfl (Nat.le_of_ble_eq_true rfl) dX12_openBlock_339 ⟨Nat.le_of_ble_eq_true rfl, Nat.le_of_ble_eq_true rfl⟩ (fun _ _ _ _ _ _ _ _ hp _ _ _ _ => hp.elim) (fun g170 l171 a172 b173 H locs hp174 hw => ?_)
                                          obtain ⟨h175, h176, h177, rfl, h179⟩ := hp174
                                          have hr180 : hk_rg 0 255 (a172 0) := (hk_pE (P := hk_rg 0 255) (hk_pE (P := hk_rg 0 255) hr152 (hfr_a162 0 rfl)) (h177 0 rfl))
                                          have hr181 : hk_rg 0 255 (a172 1) := (hk_pE (P := hk_rg 0 255) (hk_pE (P := hk_rg 0 255) hr153 (hfr_a162 1 rfl)) (h177 1 rfl))
                                          have hr182 : hk_rg 0 20000 (a172 12) := (hk_pE (P := hk_rg 0 20000) (hk_pE (P := hk_rg 0 20000) hr154 (hfr_a162 12 rfl)) (h177 12 rfl))
                                          have hr183 : hk_rg 0 20000 (a172 13) := (hk_pE (P := hk_rg 0 20000) (hk_pE (P := hk_rg 0 20000) hr155 (hfr_a162 13 rfl)) (h177 13 rfl))
                                          have hr184 : hk_rg 0 20000 (a172 14) := (hk_pE (P := hk_rg 0 20000) (hk_pE (P := hk_rg 0 20000) hr156 (hfr_a162 14 rfl)) (h177 14 rfl))
                                          have hr185 : hk_rg 0 255 (a172 24) := (hk_pE (P := hk_rg 0 255) (hk_pE (P := hk_rg 0 255) hr157 (hfr_a162 24 rfl)) (h177 24 rfl))
                                          have hr186 : hk_rg 0 255 (a172 6) := (hk_pE (P := hk_rg 0 255) (hk_pE (P := hk_rg 0 255) (hk_pE (P := hk_rg 0 255) ha134_r6rg (h149 6 rfl)) (hfr_a162 6 rfl)) (h177 6 rfl))
                                          refine lv_iconst (v := 1) hx hb dX12_openBlock_342 (by decide) ?_
                                          refine lv_istore (lv' := [(8, .int 1), (0, .ref (ad 0)), (1, .int y1), (2, .int y2), (7, .int z106)]) hx hb dX12_openBlock_343 hl (by decide) rfl (fun ls hl => ?_)
                                          refine lv_iconst (v := 0) hx hb dX12_openBlock_345 (by decide) ?_
                                          refine lv_istore (lv' := [(9, .int 0), (8, .int 1), (0, .ref (ad 0)), (1, .int y1), (2, .int y2), (7, .int z106)]) hx hb dX12_openBlock_346 hl (by decide) rfl (fun ls hl => ?_)
                                          have B187 : ∀ (k191 : Nat) (x188 : Int32) (x189 : Int32) (g190 : Nat → Int32) (ls : Array Slot) (H : Heap) (locs : List Loc), (2147483648 - (x189).toInt ≤ (k191 : Int)) → (0 ≤ (x188).toInt ∧ (x188).toInt ≤ 1) → (0 ≤ (x189).toInt) → ((g 49).toInt ≤ (g190 49).toInt) → (1 ≤ (g 51).toInt → 1 ≤ (g190 51).toInt) → (0 ≤ (g190 49).toInt ∧ (g190 49).toInt ≤ 1500) → (0 ≤ (g190 51).toInt ∧ (g190 51).toInt ≤ 15) → (hk_fr [49, 51] g170 g190) → hk_W D (jT cI cJ) A s H locs (mw cI cJ ad g190 l171 a172 bk) → lv_has ls 10 [(0, .ref (ad 0)), (1, .int y1), (2, .int y2), (7, .int z106), (8, .int x188), (9, .int x189)] → W p l e { frames := 10, cells := 0, slots := 0, locals := 235 } s m args below meth c H locs 0 0 Q (F0 m 348 ls []) := by
                                            intro k191
                                            induction k191 with
                                            | zero =>
                                              intro x188 x189 g190 ls H locs hrk_B187 hf_B187_0 hf_B187_1 hf_B187_2 hf_B187_3 hf_B187_4 hf_B187_5 hfr_g190 hw hl
                                              exact False.elim (hk_no0 (0 * (x189).toInt) (om30 ((x189).toInt) hrk_B187 (hE_rng (x189))) (by simp))
                                            | succ k191 ih_B187 =>
                                              intro x188 x189 g190 ls H locs hrk_B187 hf_B187_0 hf_B187_1 hf_B187_2 hf_B187_3 hf_B187_4 hf_B187_5 hfr_g190 hw hl
                                              have hrk_B187 := hk_rk hrk_B187
                                              refine lv_iload hx hb dX12_openBlock_348 (lv_at hl 5 rfl) ?_
                                              refine lv_aload_n hx hb dX12_openBlock_350 rfl (lv_at hl 0 rfl) ?_
                                              have e_g190_57 : g190 57 = (g 57) := ((hfr_g190 57 rfl)).trans (((h175 57 rfl)).trans (((hfr_g160 57 rfl)).trans (((h147 57 rfl)).trans e_g127_57)))
                                              refine hk_get (ci := 15) (C := RX12) (T := TX12) (N := 92) (v := .int (g 57)) hx hb hts (fun _ h => List.mem_cons_of_mem _ (wwMc_wsX120 _ h)) hown hw 0 rfl rfl 86 (by decide) (hq _ wM_303) (congrArg (fun z => some (Value.int z)) e_g190_57) dX12_openBlock_351 ?_
                                              refine jx_Si (As := [.int (g 57)]) (rest := [.int x189]) ⟨hx, hb, hml, hown, hts⟩ hZ hw hA (jm_X12_checkSize l hlt D t3 cI cJ ad g190 l171 a172 bk _ (g 57)) (va_cwS 1 hts (jx_gS wwM_good wM_112 wM_113 wM_8 wM_114) rfl rfl rfl (by decide +kernel) ⟨Nat.le_of_ble_eq_true rfl, Nat.le_of_ble_eq_true rfl⟩) rfl hl.1 rfl (Nat.le_of_ble_eq_true rfl) dX12_openBlock_354 ⟨Nat.le_of_ble_eq_true rfl, Nat.le_of_ble_eq_true rfl⟩ (fun _ _ _ _ _ _ _ _ hp _ _ _ _ => hp.elim) (fun r196 g197 l198 a199 b200 H locs hp201 hw => ?_)
                                              obtain ⟨rfl, rfl, rfl, rfl, h206⟩ := hp201
                                              refine lv_icmp_ge (tgt := 392) hx hb dX12_openBlock_357 (by decide) (fun cc207 => ?_) (fun cc207 => ?_)
                                              · refine lv_aload_n hx hb dX12_openBlock_392 rfl (lv_at hl 0 rfl) ?_
                                                refine hk_get (ci := 15) (C := RX12) (T := TX12) (N := 92) (v := .int (g190 51)) hx hb hts (fun _ h => List.mem_cons_of_mem _ (wwMc_wsX120 _ h)) hown hw 0 rfl rfl 78 (by decide) (hq _ wM_63) rfl dX12_openBlock_393 ?_
                                                have B208 : ∀  (g209 : Nat → Int32) (ls : Array Slot) (H : Heap) (locs : List Loc), (1 ≤ (g 51).toInt → 1 ≤ (g209 51).toInt) → (0 ≤ (g209 51).toInt ∧ (g209 51).toInt ≤ 15) → (hk_fr [51] g190 g209) → hk_W D (jT cI cJ) A s H locs (mw cI cJ ad g209 l171 a172 bk) → lv_has ls 10 [(0, .ref (ad 0)), (1, .int y1), (2, .int y2), (7, .int z106)] → W p l e { frames := 10, cells := 0, slots := 0, locals := 235 } s m args below meth c H locs 0 0 Q (F0 m 410 ls []) := by
                                                  intro g209 ls H locs hf_B208_0 hf_B208_1 hfr_g209 hw hl
                                                  refine lv_aload_n hx hb dX12_openBlock_410 rfl (lv_at hl 0 rfl) ?_
                                                  refine hk_get (ci := 15) (C := RX12) (T := TX12) (N := 92) (v := .int (g209 51)) hx hb hts (fun _ h => List.mem_cons_of_mem _ (wwMc_wsX120 _ h)) hown hw 0 rfl rfl 78 (by decide) (hq _ wM_63) rfl dX12_openBlock_411 ?_
                                                  refine lv_if_le (tgt := 418) hx hb dX12_openBlock_414 (by decide) (fun cc210 => ?_) (fun cc210 => ?_)
                                                  · refine lv_iconst (v := 0) hx hb dX12_openBlock_418 (by decide) ?_
                                                    refine lv_istore (lv' := [(9, .int 0), (0, .ref (ad 0)), (1, .int y1), (2, .int y2), (7, .int z106)]) hx hb dX12_openBlock_419 hl (by decide) rfl (fun ls hl => ?_)
                                                    have e_g209_53 : g209 53 = (g 13) := ((hfr_g209 53 rfl)).trans (((hfr_g190 53 rfl)).trans (((h175 53 rfl)).trans (((hfr_g160 53 rfl)).trans (((h147 53 rfl)).trans (((hfr_g127 53 rfl)).trans e_g75_53)))))
                                                    have e_g209_17 : g209 17 = (g75 17) := ((hfr_g209 17 rfl)).trans (((hfr_g190 17 rfl)).trans (((h175 17 rfl)).trans e_g160_17))
                                                    have B211 : ∀ (k215 : Nat) (x212 : Int32) (g213 : Nat → Int32) (a214 : Nat → Nat → Int32) (ls : Array Slot) (H : Heap) (locs : List Loc), (2147483648 - (x212).toInt ≤ (k215 : Int)) → ((g213 13).toInt = (g 13).toInt + (x212).toInt) → ((x212).toInt ≤ (g75 17).toInt) → (0 ≤ (x212).toInt) → (0 ≤ (g213 13).toInt ∧ (g213 13).toInt ≤ 3000) → (hk_fr [13] g209 g213) → (hk_fr [1] a172 a214) → (hk_rg 0 255 (a214 1)) → hk_W D (jT cI cJ) A s H locs (mw cI cJ ad g213 l171 a214 bk) → lv_has ls 10 [(0, .ref (ad 0)), (1, .int y1), (2, .int y2), (7, .int z106), (9, .int x212)] → W p l e { frames := 10, cells := 0, slots := 0, locals := 235 } s m args below meth c H locs 0 0 Q (F0 m 421 ls []) := by
                                                      intro k215
                                                      induction k215 with
                                                      | zero =>
                                                        intro x212 g213 a214 ls H locs hrk_B211 hf_B211_0 hf_B211_1 hf_B211_2 hf_B211_3 hfr_g213 hfr_a214 ha214_r1rg hw hl
                                                        exact False.elim (hk_no0 (0 * (x212).toInt) (om634 ((x212).toInt) ((g75 17).toInt) hf_B211_1 hrk_B211 h97) (by simp))
                                                      | succ k215 ih_B211 =>
                                                        intro x212 g213 a214 ls H locs hrk_B211 hf_B211_0 hf_B211_1 hf_B211_2 hf_B211_3 hfr_g213 hfr_a214 ha214_r1rg hw hl
                                                        have hrk_B211 := hk_rk hrk_B211
                                                        refine lv_iload hx hb dX12_openBlock_421 (lv_at hl 4 rfl) ?_
                                                        refine lv_aload_n hx hb dX12_openBlock_423 rfl (lv_at hl 0 rfl) ?_
                                                        have e_g213_17 : g213 17 = (g75 17) := ((hfr_g213 17 rfl)).trans (((hfr_g209 17 rfl)).trans (((hfr_g190 17 rfl)).trans (((h175 17 rfl)).trans e_g160_17)))
                                                        refine hk_get (ci := 15) (C := RX12) (T := TX12) (N := 92) (v := .int (g75 17)) hx hb hts (fun _ h => List.mem_cons_of_mem _ (wwMc_wsX120 _ h)) hown hw 0 rfl rfl 26 (by decide) (hq _ wM_82) (congrArg (fun z => some (Value.int z)) e_g213_17) dX12_openBlock_424 ?_
                                                        refine lv_icmp_ge (tgt := 462) hx hb dX12_openBlock_427 (by decide) (fun cc216 => ?_) (fun cc216 => ?_)
                                                        · refine lv_aload_n hx hb dX12_openBlock_462 rfl (lv_at hl 0 rfl) ?_
                                                          refine hk_get (ci := 15) (C := RX12) (T := TX12) (N := 92) (v := .ref (ad 12)) hx hb hts (fun _ h => List.mem_cons_of_mem _ (wwMc_wsX120 _ h)) hown hw 0 rfl rfl 34 (by decide) (hq _ wM_105) rfl dX12_openBlock_463 ?_
                                                          refine lv_aload_n hx hb dX12_openBlock_466 rfl (lv_at hl 0 rfl) ?_
                                                          have e_g213_20 : g213 20 = (g 20) := ((hfr_g213 20 rfl)).trans (((hfr_g209 20 rfl)).trans (((hfr_g190 20 rfl)).trans (((h175 20 rfl)).trans (((hfr_g160 20 rfl)).trans (((h147 20 rfl)).trans (((hfr_g127 20 rfl)).trans (((h80 20 rfl)).trans (((hk_upgN h_g69 20 rfl)).trans (((hk_upgN h_g68 20 rfl)).trans (((hk_upgN h_g67 20 rfl)).trans (((h58 20 rfl)).trans (((h44 20 rfl)).trans (((hk_upgN h_g32 20 rfl)).trans (((hfr_g29 20 rfl)).trans (((hfr_g27 20 rfl)).trans (((h16 20 rfl)).trans (hk_upgN h_g5 20 rfl)))))))))))))))))
                                                          refine hk_get (ci := 15) (C := RX12) (T := TX12) (N := 92) (v := .int (g 20)) hx hb hts (fun _ h => List.mem_cons_of_mem _ (wwMc_wsX120 _ h)) hown hw 0 rfl rfl 33 (by decide) (hq _ wM_104) (congrArg (fun z => some (Value.int z)) e_g213_20) dX12_openBlock_467 ?_
                                                          refine lv_iload_n hx hb dX12_openBlock_470 rfl (lv_at hl 1 rfl) ?_
                                                          refine jx_iast mw (cI := cI) (cJ := cJ) (ad := ad) (g := g213) (lg := l171) (ar := a214) (bk := bk) 11 hx hb hw 12 0 rfl rfl (hE_in (n := 3001) (om635 ((g 20).toInt) ((g 49).toInt) hr2 hi_g20 hi_g49)) dX12_openBlock_471 rfl (fun H locs a217 h_a217 hw => ?_)
                                                          have hr218 : hk_rg 0 255 (a217 0) := (hk_pE (P := hk_rg 0 255) (hk_pE (P := hk_rg 0 255) hr180 (hfr_a214 0 rfl)) (hk_upaN h_a217 0 rfl))
                                                          have hr219 : hk_rg 0 20000 (a217 12) := (hk_pE (P := hk_rg 0 20000) (hk_pE (P := hk_rg 0 20000) hr182 (hfr_a214 12 rfl)) (hk_upaN h_a217 12 rfl))
                                                          have hr220 : hk_rg 0 20000 (a217 13) := (hk_pE (P := hk_rg 0 20000) (hk_pE (P := hk_rg 0 20000) hr183 (hfr_a214 13 rfl)) (hk_upaN h_a217 13 rfl))
                                                          have hr221 : hk_rg 0 20000 (a217 14) := (hk_pE (P := hk_rg 0 20000) (hk_pE (P := hk_rg 0 20000) hr184 (hfr_a214 14 rfl)) (hk_upaN h_a217 14 rfl))
                                                          have hr222 : hk_rg 0 255 (a217 24) := (hk_pE (P := hk_rg 0 255) (hk_pE (P := hk_rg 0 255) hr185 (hfr_a214 24 rfl)) (hk_upaN h_a217 24 rfl))
                                                          have hr223 : hk_rg 0 255 (a217 6) := (hk_pE (P := hk_rg 0 255) (hk_pE (P := hk_rg 0 255) hr186 (hfr_a214 6 rfl)) (hk_upaN h_a217 6 rfl))
                                                          refine lv_aload_n hx hb dX12_openBlock_472 rfl (lv_at hl 0 rfl) ?_
                                                          refine hk_get (ci := 15) (C := RX12) (T := TX12) (N := 92) (v := .ref (ad 13)) hx hb hts (fun _ h => List.mem_cons_of_mem _ (wwMc_wsX120 _ h)) hown hw 0 rfl rfl 35 (by decide) (hq _ wM_106) rfl dX12_openBlock_473 ?_
                                                          refine lv_aload_n hx hb dX12_openBlock_476 rfl (lv_at hl 0 rfl) ?_
                                                          refine hk_get (ci := 15) (C := RX12) (T := TX12) (N := 92) (v := .int (g 20)) hx hb hts (fun _ h => List.mem_cons_of_mem _ (wwMc_wsX120 _ h)) hown hw 0 rfl rfl 33 (by decide) (hq _ wM_104) (congrArg (fun z => some (Value.int z)) e_g213_20) dX12_openBlock_477 ?_
                                                          refine lv_iload_n hx hb dX12_openBlock_480 rfl (lv_at hl 2 rfl) ?_
                                                          refine jx_iast mw (cI := cI) (cJ := cJ) (ad := ad) (g := g213) (lg := l171) (ar := a217) (bk := bk) 12 hx hb hw 13 0 rfl rfl (hE_in (n := 3001) (om635 ((g 20).toInt) ((g 49).toInt) hr2 hi_g20 hi_g49)) dX12_openBlock_481 rfl (fun H locs a224 h_a224 hw => ?_)
                                                          have hr225 : hk_rg 0 255 (a224 1) := (hk_pE (P := hk_rg 0 255) (hk_pE (P := hk_rg 0 255) ha214_r1rg (hk_upaN h_a217 1 rfl)) (hk_upaN h_a224 1 rfl))
                                                          refine lv_aload_n hx hb dX12_openBlock_482 rfl (lv_at hl 0 rfl) ?_
                                                          refine hk_get (ci := 15) (C := RX12) (T := TX12) (N := 92) (v := .ref (ad 14)) hx hb hts (fun _ h => List.mem_cons_of_mem _ (wwMc_wsX120 _ h)) hown hw 0 rfl rfl 36 (by decide) (hq _ wM_107) rfl dX12_openBlock_483 ?_
                                                          refine lv_aload_n hx hb dX12_openBlock_486 rfl (lv_at hl 0 rfl) ?_
                                                          refine hk_get (ci := 15) (C := RX12) (T := TX12) (N := 92) (v := .int (g 20)) hx hb hts (fun _ h => List.mem_cons_of_mem _ (wwMc_wsX120 _ h)) hown hw 0 rfl rfl 33 (by decide) (hq _ wM_104) (congrArg (fun z => some (Value.int z)) e_g213_20) dX12_openBlock_487 ?_
                                                          refine lv_iload hx hb dX12_openBlock_490 (lv_at hl 3 rfl) ?_
                                                          refine jx_iast mw (cI := cI) (cJ := cJ) (ad := ad) (g := g213) (lg := l171) (ar := a224) (bk := bk) 13 hx hb hw 14 0 rfl rfl (hE_in (n := 3001) (om635 ((g 20).toInt) ((g 49).toInt) hr2 hi_g20 hi_g49)) dX12_openBlock_492 rfl (fun H locs a226 h_a226 hw => ?_)
                                                          have hr227 : hk_rg 0 255 (a226 0) := (hk_pE (P := hk_rg 0 255) (hk_pE (P := hk_rg 0 255) hr218 (hk_upaN h_a224 0 rfl)) (hk_upaN h_a226 0 rfl))
                                                          have hr228 : hk_rg 0 20000 (a226 12) := (hk_pE (P := hk_rg 0 20000) (hk_rgS h_a224 hr219 (om636 ((y2).toInt) hr1)) (hk_upaN h_a226 12 rfl))
                                                          have hr229 : hk_rg 0 20000 (a226 13) := (hk_rgS h_a226 (hk_pE (P := hk_rg 0 20000) hr220 (hk_upaN h_a224 13 rfl)) (om637 ((z106).toInt) ((g75 49).toInt) ((g53 49).toInt) ((g39 49).toInt) ((g69 49).toInt) ((g29 49).toInt) ((g 49).toInt) ((g 20).toInt) xz106 h62 (congrArg Int32.toInt e_g69_49) h84 h87 (congrArg Int32.toInt e_g39_49) hf_B28_0 hr2 hi_g20))
                                                          have hr230 : hk_rg 0 20000 (a226 14) := (hk_pE (P := hk_rg 0 20000) (hk_pE (P := hk_rg 0 20000) hr221 (hk_upaN h_a224 14 rfl)) (hk_upaN h_a226 14 rfl))
                                                          have hr231 : hk_rg 0 255 (a226 24) := (hk_pE (P := hk_rg 0 255) (hk_pE (P := hk_rg 0 255) hr222 (hk_upaN h_a224 24 rfl)) (hk_upaN h_a226 24 rfl))
                                                          have hr232 : hk_rg 0 255 (a226 6) := (hk_pE (P := hk_rg 0 255) (hk_pE (P := hk_rg 0 255) hr223 (hk_upaN h_a224 6 rfl)) (hk_upaN h_a226 6 rfl))
                                                          refine lv_aload_n hx hb dX12_openBlock_493 rfl (lv_at hl 0 rfl) ?_
                                                          refine hk_get (ci := 15) (C := RX12) (T := TX12) (N := 92) (v := .ref (ad 15)) hx hb hts (fun _ h => List.mem_cons_of_mem _ (wwMc_wsX120 _ h)) hown hw 0 rfl rfl 37 (by decide) (hq _ wM_108) rfl dX12_openBlock_494 ?_
                                                          refine lv_aload_n hx hb dX12_openBlock_497 rfl (lv_at hl 0 rfl) ?_
                                                          refine hk_get (ci := 15) (C := RX12) (T := TX12) (N := 92) (v := .int (g 20)) hx hb hts (fun _ h => List.mem_cons_of_mem _ (wwMc_wsX120 _ h)) hown hw 0 rfl rfl 33 (by decide) (hq _ wM_104) (congrArg (fun z => some (Value.int z)) e_g213_20) dX12_openBlock_498 ?_
                                                          refine lv_aload_n hx hb dX12_openBlock_501 rfl (lv_at hl 0 rfl) ?_
                                                          refine hk_get (ci := 15) (C := RX12) (T := TX12) (N := 92) (v := .int (g75 17)) hx hb hts (fun _ h => List.mem_cons_of_mem _ (wwMc_wsX120 _ h)) hown hw 0 rfl rfl 26 (by decide) (hq _ wM_82) (congrArg (fun z => some (Value.int z)) e_g213_17) dX12_openBlock_502 ?_
                                                          refine jx_iast mw (cI := cI) (cJ := cJ) (ad := ad) (g := g213) (lg := l171) (ar := a226) (bk := bk) 14 hx hb hw 15 0 rfl rfl (hE_in (n := 3001) (om635 ((g 20).toInt) ((g 49).toInt) hr2 hi_g20 hi_g49)) dX12_openBlock_505 rfl (fun H locs a233 h_a233 hw => ?_)
                                                          have hr234 : hk_rg 0 255 (a233 1) := (hk_pE (P := hk_rg 0 255) (hk_pE (P := hk_rg 0 255) hr225 (hk_upaN h_a226 1 rfl)) (hk_upaN h_a233 1 rfl))
                                                          refine lv_aload_n hx hb dX12_openBlock_506 rfl (lv_at hl 0 rfl) ?_
                                                          refine hk_get (ci := 15) (C := RX12) (T := TX12) (N := 92) (v := .ref (ad 16)) hx hb hts (fun _ h => List.mem_cons_of_mem _ (wwMc_wsX120 _ h)) hown hw 0 rfl rfl 38 (by decide) (hq _ wM_109) rfl dX12_openBlock_507 ?_
                                                          refine lv_aload_n hx hb dX12_openBlock_510 rfl (lv_at hl 0 rfl) ?_
                                                          refine hk_get (ci := 15) (C := RX12) (T := TX12) (N := 92) (v := .int (g 20)) hx hb hts (fun _ h => List.mem_cons_of_mem _ (wwMc_wsX120 _ h)) hown hw 0 rfl rfl 33 (by decide) (hq _ wM_104) (congrArg (fun z => some (Value.int z)) e_g213_20) dX12_openBlock_511 ?_
                                                          refine lv_aload_n hx hb dX12_openBlock_514 rfl (lv_at hl 0 rfl) ?_
                                                          have e_g213_48 : g213 48 = (g75 48) := ((hfr_g213 48 rfl)).trans (((hfr_g209 48 rfl)).trans (((hfr_g190 48 rfl)).trans (((h175 48 rfl)).trans (((hfr_g160 48 rfl)).trans (((h147 48 rfl)).trans (hfr_g127 48 rfl))))))
                                                          refine hk_get (ci := 15) (C := RX12) (T := TX12) (N := 92) (v := .int (g75 48)) hx hb hts (fun _ h => List.mem_cons_of_mem _ (wwMc_wsX120 _ h)) hown hw 0 rfl rfl 75 (by decide) (hq _ wM_90) (congrArg (fun z => some (Value.int z)) e_g213_48) dX12_openBlock_515 ?_
                                                          refine jx_iast mw (cI := cI) (cJ := cJ) (ad := ad) (g := g213) (lg := l171) (ar := a233) (bk := bk) 15 hx hb hw 16 0 rfl rfl (hE_in (n := 3001) (om635 ((g 20).toInt) ((g 49).toInt) hr2 hi_g20 hi_g49)) dX12_openBlock_518 rfl (fun H locs a235 h_a235 hw => ?_)
                                                          have hr236 : hk_rg 0 255 (a235 0) := (hk_pE (P := hk_rg 0 255) (hk_pE (P := hk_rg 0 255) hr227 (hk_upaN h_a233 0 rfl)) (hk_upaN h_a235 0 rfl))
                                                          have hr237 : hk_rg 0 20000 (a235 12) := (hk_pE (P := hk_rg 0 20000) (hk_pE (P := hk_rg 0 20000) hr228 (hk_upaN h_a233 12 rfl)) (hk_upaN h_a235 12 rfl))
                                                          have hr238 : hk_rg 0 20000 (a235 13) := (hk_pE (P := hk_rg 0 20000) (hk_pE (P := hk_rg 0 20000) hr229 (hk_upaN h_a233 13 rfl)) (hk_upaN h_a235 13 rfl))
                                                          have hr239 : hk_rg 0 20000 (a235 14) := (hk_pE (P := hk_rg 0 20000) (hk_rgS h_a233 hr230 (om638 ((g75 17).toInt) h97)) (hk_upaN h_a235 14 rfl))
                                                          have hr240 : hk_rg 0 255 (a235 24) := (hk_pE (P := hk_rg 0 255) (hk_pE (P := hk_rg 0 255) hr231 (hk_upaN h_a233 24 rfl)) (hk_upaN h_a235 24 rfl))
                                                          have hr241 : hk_rg 0 255 (a235 6) := (hk_pE (P := hk_rg 0 255) (hk_pE (P := hk_rg 0 255) hr232 (hk_upaN h_a233 6 rfl)) (hk_upaN h_a235 6 rfl))
                                                          refine lv_aload_n hx hb dX12_openBlock_519 rfl (lv_at hl 0 rfl) ?_
                                                          refine lv_dup hx hb dX12_openBlock_520 rfl ?_
                                                          refine hk_get (ci := 15) (C := RX12) (T := TX12) (N := 92) (v := .int (g 20)) hx hb hts (fun _ h => List.mem_cons_of_mem _ (wwMc_wsX120 _ h)) hown hw 0 rfl rfl 33 (by decide) (hq _ wM_104) (congrArg (fun z => some (Value.int z)) e_g213_20) dX12_openBlock_521 ?_
                                                          refine lv_iconst (v := 1) hx hb dX12_openBlock_524 (by decide) ?_
                                                          refine lv_iadd hx hb dX12_openBlock_525 (jx_nm fun z242 hz242 => ?_)
                                                          have xz242 : (z242).toInt = (g 20).toInt + ((1 : Int32)).toInt := (hE_imp (hE_add hz242) (om639 ((g 20).toInt) (((1 : Int32)).toInt) ((g 49).toInt) hr2 hi_g20 hi_g49 (by decide)))
                                                          refine jx_putg mw (cI := cI) (cJ := cJ) (ad := ad) (g := g213) (lg := l171) (ar := a235) (bk := bk) (x := z242) 20 (ci := 15) (C := RX12) (T := TX12) (N := 92) (ty := .int) hx hb hts (fun _ h => List.mem_cons_of_mem _ (wwMc_wsX120 _ h)) tyX12 tyX12_ok nmX12 hown hw 0 rfl rfl 33 (by decide) (hq _ wM_104) rfl (by decide +kernel) rfl rfl (Nat.le_of_ble_eq_true rfl) dX12_openBlock_526 rfl (fun H locs g243 h_g243 hw => ?_)
                                                          have e_g243_49 : g243 49 = (g190 49) := ((hk_upgN h_g243 49 rfl)).trans (((hfr_g213 49 rfl)).trans (hfr_g209 49 rfl))
                                                          have e_g243_51 : g243 51 = (g209 51) := ((hk_upgN h_g243 51 rfl)).trans (hfr_g213 51 rfl)
                                                          have e_g243_20 : g243 20 = z242 := (hk_upgS h_g243)
                                                          have e_g243_18 : g243 18 = (g75 18) := ((hk_upgN h_g243 18 rfl)).trans (((hfr_g213 18 rfl)).trans (((hfr_g209 18 rfl)).trans (((hfr_g190 18 rfl)).trans (((h175 18 rfl)).trans (((hfr_g160 18 rfl)).trans (((h147 18 rfl)).trans (hfr_g127 18 rfl)))))))
                                                          have e_g243_13 : g243 13 = (g213 13) := (hk_upgN h_g243 13 rfl)
                                                          have e_g243_55 : g243 55 = (g75 55) := ((hk_upgN h_g243 55 rfl)).trans (((hfr_g213 55 rfl)).trans (((hfr_g209 55 rfl)).trans (((hfr_g190 55 rfl)).trans (((h175 55 rfl)).trans (((hfr_g160 55 rfl)).trans (((h147 55 rfl)).trans (hfr_g127 55 rfl)))))))
                                                          have e_g243_52 : g243 52 = (g75 52) := ((hk_upgN h_g243 52 rfl)).trans (((hfr_g213 52 rfl)).trans (((hfr_g209 52 rfl)).trans (((hfr_g190 52 rfl)).trans (((h175 52 rfl)).trans (((hfr_g160 52 rfl)).trans (((h147 52 rfl)).trans (hfr_g127 52 rfl)))))))
                                                          have e_g243_24 : g243 24 = (g75 24) := ((hk_upgN h_g243 24 rfl)).trans (((hfr_g213 24 rfl)).trans (((hfr_g209 24 rfl)).trans (((hfr_g190 24 rfl)).trans (((h175 24 rfl)).trans (((hfr_g160 24 rfl)).trans (((h147 24 rfl)).trans (hfr_g127 24 rfl)))))))
                                                          have e_g243_25 : g243 25 = (g75 25) := ((hk_upgN h_g243 25 rfl)).trans (((hfr_g213 25 rfl)).trans (((hfr_g209 25 rfl)).trans (((hfr_g190 25 rfl)).trans (((h175 25 rfl)).trans (((hfr_g160 25 rfl)).trans (((h147 25 rfl)).trans (hfr_g127 25 rfl)))))))
                                                          have e_g243_26 : g243 26 = (g75 26) := ((hk_upgN h_g243 26 rfl)).trans (((hfr_g213 26 rfl)).trans (((hfr_g209 26 rfl)).trans (((hfr_g190 26 rfl)).trans (((h175 26 rfl)).trans (((hfr_g160 26 rfl)).trans (((h147 26 rfl)).trans (hfr_g127 26 rfl)))))))
                                                          have e_g243_27 : g243 27 = (g75 27) := ((hk_upgN h_g243 27 rfl)).trans (((hfr_g213 27 rfl)).trans (((hfr_g209 27 rfl)).trans (((hfr_g190 27 rfl)).trans (((h175 27 rfl)).trans (((hfr_g160 27 rfl)).trans (((h147 27 rfl)).trans (hfr_g127 27 rfl)))))))
                                                          have e_g243_58 : g243 58 = (g11 58) := ((hk_upgN h_g243 58 rfl)).trans (((hfr_g213 58 rfl)).trans (((hfr_g209 58 rfl)).trans (((hfr_g190 58 rfl)).trans (((h175 58 rfl)).trans (((hfr_g160 58 rfl)).trans (((h147 58 rfl)).trans e_g127_58))))))
                                                          have e_g243_17 : g243 17 = (g75 17) := ((hk_upgN h_g243 17 rfl)).trans e_g213_17
                                                          have e_g243_23 : g243 23 = (g75 23) := ((hk_upgN h_g243 23 rfl)).trans (((hfr_g213 23 rfl)).trans (((hfr_g209 23 rfl)).trans (((hfr_g190 23 rfl)).trans (((h175 23 rfl)).trans (((hfr_g160 23 rfl)).trans (((h147 23 rfl)).trans (hfr_g127 23 rfl)))))))
                                                          have e_g243_15 : g243 15 = (g170 15) := ((hk_upgN h_g243 15 rfl)).trans (((hfr_g213 15 rfl)).trans (((hfr_g209 15 rfl)).trans (hfr_g190 15 rfl)))
                                                          exact kr g243 l171 a235 bk _ _ _ _ ⟨(hk_frG (hk_frT (hk_frT (hk_frT (hk_frT (hk_frT (hk_frT (hk_frT (hk_frT (hk_frG (hk_frG (hk_frG (hk_frT (hk_frT (hk_frG (hk_frT (hk_frT (hk_frT (hk_frG hk_fr0 (by decide) h_g5) (by decide) h16) (by decide) hfr_g27) (by decide) hfr_g29) (by decide) h_g32) (by decide) h44) (by decide) h58) (by decide) h_g67) (by decide) h_g68) (by decide) h_g69) (by decide) h80) (by decide) hfr_g127) (by decide) h147) (by decide) hfr_g160) (by decide) h175) (by decide) hfr_g190) (by decide) hfr_g209) (by decide) hfr_g213) (by decide) h_g243), (hk_frT (hk_frT (hk_frT (hk_frT (hk_frT hk_fr0 (by decide) h17) (by decide) h81) (by decide) h148) (by decide) hfr_l161) (by decide) h176), (hk_frA (hk_frA (hk_frA (hk_frA (hk_frA (hk_frT (hk_frT (hk_frT (hk_frT (hk_frT (hk_frT (hk_frT hk_fr0 (by decide) h18) (by decide) h82) (by decide) hfr_a134) (by decide) h149) (by decide) hfr_a162) (by decide) h177) (by decide) hfr_a214) (by decide) h_a217) (by decide) h_a224) (by decide) h_a226) (by decide) h_a233) (by decide) h_a235), rfl, (om212 ((g 49).toInt) ((g243 49).toInt) ((g190 49).toInt) hf_B187_2 (congrArg Int32.toInt e_g243_49)), (om640 ((g 51).toInt) ((g243 51).toInt) hr4), (om641 ((g243 20).toInt) ((g243 49).toInt) ((g190 49).toInt) ((z242).toInt) ((g 49).toInt) ((g 20).toInt) (((1 : Int32)).toInt) (congrArg Int32.toInt e_g243_49) (congrArg Int32.toInt e_g243_20) hf_B187_2 xz242 hr2 (by decide)), (om642 ((g243 51).toInt) ((g243 18).toInt) ((g243 13).toInt) ((g243 55).toInt) ((g75 18).toInt) ((g213 13).toInt) ((g75 55).toInt) ((g75 51).toInt) ((g75 53).toInt) ((g75 17).toInt) ((g 13).toInt) ((x212).toInt) (((0 : Int32)).toInt) (congrArg Int32.toInt e_g243_18) (congrArg Int32.toInt e_g243_13) (congrArg Int32.toInt e_g243_55) h86 h90 h92 hf_B211_0 h88 (congrArg Int32.toInt e_g75_53) (hE_le cc105) (hE_le cc216) (by decide)), (om621 ((g243 49).toInt) ((g190 49).toInt) ((g 49).toInt) ((g 20).toInt) (congrArg Int32.toInt e_g243_49) hf_B187_2 hf_B187_4 hr2 hi_g20), (om200 ((g243 51).toInt) ((g209 51).toInt) (((0 : Int32)).toInt) (congrArg Int32.toInt e_g243_51) hf_B208_1 (hE_le cc210) (by decide)), (om141 ((g243 52).toInt) ((g75 52).toInt) (congrArg Int32.toInt e_g243_52) h89), (om497 ((g243 55).toInt) ((g75 55).toInt) (congrArg Int32.toInt e_g243_55) h90), (om643 ((g243 20).toInt) ((z242).toInt) ((g 20).toInt) (((1 : Int32)).toInt) ((g 49).toInt) (congrArg Int32.toInt e_g243_20) xz242 hr2 hi_g20 hi_g49 (by decide)), (om162 ((g243 24).toInt) ((g75 24).toInt) (congrArg Int32.toInt e_g243_24) h93), (om162 ((g243 25).toInt) ((g75 25).toInt) (congrArg Int32.toInt e_g243_25) h94), (om162 ((g243 26).toInt) ((g75 26).toInt) (congrArg Int32.toInt e_g243_26) h95), (om162 ((g243 27).toInt) ((g75 27).toInt) (congrArg Int32.toInt e_g243_27) h96), (om39 ((g243 58).toInt) ((g11 58).toInt) (congrArg Int32.toInt e_g243_58) h24), hr240, (om141 ((g243 17).toInt) ((g75 17).toInt) (congrArg Int32.toInt e_g243_17) h97), hr241, (om333 ((g243 23).toInt) ((g75 23).toInt) (congrArg Int32.toInt e_g243_23) h99), (om89 ((g243 15).toInt) ((g170 15).toInt) (congrArg Int32.toInt e_g243_15) h179), (om141 ((g243 13).toInt) ((g213 13).toInt) (congrArg Int32.toInt e_g243_13) hf_B211_3), (hk_pE (P := hk_rg 0 255) hr234 (hk_upaN h_a235 1 rfl)), hr237, hr238, hr239⟩ hw dX12_openBlock_529
                                                        · refine lv_aload_n hx hb dX12_openBlock_430 rfl (lv_at hl 0 rfl) ?_
                                                          refine hk_get (ci := 15) (C := RX12) (T := TX12) (N := 92) (v := .ref (ad 2)) hx hb hts (fun _ h => List.mem_cons_of_mem _ (wwMc_wsX120 _ h)) hown hw 0 rfl rfl 14 (by decide) (hq _ wM_120) rfl dX12_openBlock_431 ?_
                                                          refine lv_aload_n hx hb dX12_openBlock_434 rfl (lv_at hl 0 rfl) ?_
                                                          refine hk_get (ci := 15) (C := RX12) (T := TX12) (N := 92) (v := .int (g213 13)) hx hb hts (fun _ h => List.mem_cons_of_mem _ (wwMc_wsX120 _ h)) hown hw 0 rfl rfl 15 (by decide) (hq _ wM_119) rfl dX12_openBlock_435 ?_
                                                          refine lv_aload_n hx hb dX12_openBlock_438 rfl (lv_at hl 0 rfl) ?_
                                                          refine hk_get (ci := 15) (C := RX12) (T := TX12) (N := 92) (v := .ref (ad 7)) hx hb hts (fun _ h => List.mem_cons_of_mem _ (wwMc_wsX120 _ h)) hown hw 0 rfl rfl 25 (by decide) (hq _ wM_110) rfl dX12_openBlock_439 ?_
                                                          refine lv_iload hx hb dX12_openBlock_442 (lv_at hl 4 rfl) ?_
                                                          refine jx_iald hx hb hw 7 0 rfl rfl (hE_in (n := 3000) (om105 ((x212).toInt) ((g75 17).toInt) hf_B211_2 (hE_nle cc216) h97)) dX12_openBlock_444 (fun z244 hz244 => ?_)
                                                          refine jx_iast mw (cI := cI) (cJ := cJ) (ad := ad) (g := g213) (lg := l171) (ar := a214) (bk := bk) 1 hx hb hw 2 0 rfl rfl (hE_in (n := 3000) (om644 ((g213 13).toInt) ((g 13).toInt) ((x212).toInt) ((g75 53).toInt) ((g75 17).toInt) hf_B211_0 hf_B211_3 (congrArg Int32.toInt e_g75_53) (hE_nle cc216) h91)) dX12_openBlock_445 rfl (fun H locs a245 h_a245 hw => ?_)
                                                          have hr246 : hk_rg 0 255 (a245 0) := (hk_pE (P := hk_rg 0 255) (hk_pE (P := hk_rg 0 255) hr180 (hfr_a214 0 rfl)) (hk_upaN h_a245 0 rfl))
                                                          have hr247 : hk_rg 0 20000 (a245 12) := (hk_pE (P := hk_rg 0 20000) (hk_pE (P := hk_rg 0 20000) hr182 (hfr_a214 12 rfl)) (hk_upaN h_a245 12 rfl))
                                                          have hr248 : hk_rg 0 20000 (a245 13) := (hk_pE (P := hk_rg 0 20000) (hk_pE (P := hk_rg 0 20000) hr183 (hfr_a214 13 rfl)) (hk_upaN h_a245 13 rfl))
                                                          have hr249 : hk_rg 0 20000 (a245 14) := (hk_pE (P := hk_rg 0 20000) (hk_pE (P := hk_rg 0 20000) hr184 (hfr_a214 14 rfl)) (hk_upaN h_a245 14 rfl))
                                                          have hr250 : hk_rg 0 255 (a245 24) := (hk_pE (P := hk_rg 0 255) (hk_pE (P := hk_rg 0 255) hr185 (hfr_a214 24 rfl)) (hk_upaN h_a245 24 rfl))
                                                          have hr251 : hk_rg 0 255 (a245 6) := (hk_pE (P := hk_rg 0 255) (hk_pE (P := hk_rg 0 255) hr186 (hfr_a214 6 rfl)) (hk_upaN h_a245 6 rfl))
                                                          have hr252 : hk_rg 0 255 (a245 1) := (hk_rgS h_a245 ha214_r1rg (om34 ((z244).toInt) (hk_rgV (hk_pE (P := hk_rg 0 255) hr186 (hfr_a214 6 rfl)) hz244)))
                                                          refine lv_aload_n hx hb dX12_openBlock_446 rfl (lv_at hl 0 rfl) ?_
                                                          refine lv_dup hx hb dX12_openBlock_447 rfl ?_
                                                          refine hk_get (ci := 15) (C := RX12) (T := TX12) (N := 92) (v := .int (g213 13)) hx hb hts (fun _ h => List.mem_cons_of_mem _ (wwMc_wsX120 _ h)) hown hw 0 rfl rfl 15 (by decide) (hq _ wM_119) rfl dX12_openBlock_448 ?_
                                                          refine lv_iconst (v := 1) hx hb dX12_openBlock_451 (by decide) ?_
                                                          refine lv_iadd hx hb dX12_openBlock_452 (jx_nm fun z253 hz253 => ?_)
                                                          have xz253 : (z253).toInt = (g213 13).toInt + ((1 : Int32)).toInt := (hE_imp (hE_add hz253) (om645 ((g213 13).toInt) (((1 : Int32)).toInt) ((g 13).toInt) ((x212).toInt) ((g75 53).toInt) ((g75 17).toInt) hf_B211_0 hf_B211_3 (congrArg Int32.toInt e_g75_53) (hE_nle cc216) h91 (by decide)))
                                                          refine jx_putg mw (cI := cI) (cJ := cJ) (ad := ad) (g := g213) (lg := l171) (ar := a245) (bk := bk) (x := z253) 13 (ci := 15) (C := RX12) (T := TX12) (N := 92) (ty := .int) hx hb hts (fun _ h => List.mem_cons_of_mem _ (wwMc_wsX120 _ h)) tyX12 tyX12_ok nmX12 hown hw 0 rfl rfl 15 (by decide) (hq _ wM_119) rfl (by decide +kernel) rfl rfl (Nat.le_of_ble_eq_true rfl) dX12_openBlock_453 rfl (fun H locs g254 h_g254 hw => ?_)
                                                          obtain ⟨z255, hz255⟩ : ∃ z : Int32, x212 + 1 = z := ⟨_, rfl⟩
                                                          refine lv_iinc (v := z255) (lv' := [(9, .int z255), (0, .ref (ad 0)), (1, .int y1), (2, .int y2), (7, .int z106)]) hx hb dX12_openBlock_456 hl (k := 4) rfl hz255 (by decide) rfl (fun ls hl => ?_)
                                                          have xz255 : (z255).toInt = (x212).toInt + ((1 : Int32)).toInt := (hE_imp (hE_add hz255) (om106 ((x212).toInt) (((1 : Int32)).toInt) ((g75 17).toInt) hf_B211_2 (hE_nle cc216) h97 (by decide)))
                                                          refine lv_goto (tgt := 421) hx hb dX12_openBlock_459 (by decide) ?_
                                                          have e_g254_13 : g254 13 = z253 := (hk_upgS h_g254)
                                                          exact ih_B211 z255 g254 a245 ls _ _ (om11 ((z255).toInt) (k215 : Int) ((x212).toInt) (((1 : Int32)).toInt) hrk_B211 xz255 (by decide)) (om12 ((g254 13).toInt) ((g 13).toInt) ((z255).toInt) ((g213 13).toInt) ((x212).toInt) (((1 : Int32)).toInt) ((z253).toInt) hf_B211_0 xz255 (congrArg Int32.toInt e_g254_13) xz253) (om236 ((z255).toInt) ((g75 17).toInt) ((x212).toInt) (((1 : Int32)).toInt) (hE_nle cc216) xz255 (by decide)) (om14 ((z255).toInt) ((x212).toInt) (((1 : Int32)).toInt) xz255 hf_B211_2 (by decide)) (om646 ((g254 13).toInt) ((z253).toInt) ((g213 13).toInt) (((1 : Int32)).toInt) ((g 13).toInt) ((x212).toInt) ((g75 53).toInt) ((g75 17).toInt) (congrArg Int32.toInt e_g254_13) xz253 hf_B211_0 hf_B211_3 (congrArg Int32.toInt e_g75_53) (hE_nle cc216) h91 (by decide)) (hk_frG hfr_g213 (by decide) h_g254) (hk_frA hfr_a214 (by decide) h_a245) hr252 hw (lv_sub hl [1, 2, 3, 4, 0] rfl)
                                                    have e_g209_13 : g209 13 = (g 13) := ((hfr_g209 13 rfl)).trans (((hfr_g190 13 rfl)).trans (((h175 13 rfl)).trans (((hfr_g160 13 rfl)).trans (((h147 13 rfl)).trans (((hfr_g127 13 rfl)).trans (((h80 13 rfl)).trans (((hk_upgN h_g69 13 rfl)).trans e_g68_13)))))))
                                                    exact B211 (2147483648 - ((0 : Int32)).toInt).toNat 0 g209 a172 ls _ _ (Int.self_le_toNat _) (om16 ((g209 13).toInt) ((g 13).toInt) (((0 : Int32)).toInt) (congrArg Int32.toInt e_g209_13) (by decide)) (om647 (((0 : Int32)).toInt) ((g75 17).toInt) h97 (by decide)) (om18 (((0 : Int32)).toInt) (by decide)) (om141 ((g209 13).toInt) ((g 13).toInt) (congrArg Int32.toInt e_g209_13) hi_g13) hk_fr0 hk_fr0 hr181 hw (lv_sub hl [1, 2, 3, 4, 0] rfl)
                                                  · have e_g209_49 : g209 49 = (g190 49) := (hfr_g209 49 rfl)
                                                    have e_g209_20 : g209 20 = (g 20) := ((hfr_g209 20 rfl)).trans (((hfr_g190 20 rfl)).trans (((h175 20 rfl)).trans (((hfr_g160 20 rfl)).trans (((h147 20 rfl)).trans (((hfr_g127 20 rfl)).trans (((h80 20 rfl)).trans (((hk_upgN h_g69 20 rfl)).trans (((hk_upgN h_g68 20 rfl)).trans (((hk_upgN h_g67 20 rfl)).trans (((h58 20 rfl)).trans (((h44 20 rfl)).trans (((hk_upgN h_g32 20 rfl)).trans (((hfr_g29 20 rfl)).trans (((hfr_g27 20 rfl)).trans (((h16 20 rfl)).trans (hk_upgN h_g5 20 rfl))))))))))))))))
                                                    have e_g209_18 : g209 18 = (g75 18) := ((hfr_g209 18 rfl)).trans (((hfr_g190 18 rfl)).trans (((h175 18 rfl)).trans (((hfr_g160 18 rfl)).trans (((h147 18 rfl)).trans (hfr_g127 18 rfl)))))
                                                    have e_g209_13 : g209 13 = (g 13) := ((hfr_g209 13 rfl)).trans (((hfr_g190 13 rfl)).trans (((h175 13 rfl)).trans (((hfr_g160 13 rfl)).trans (((h147 13 rfl)).trans (((hfr_g127 13 rfl)).trans (((h80 13 rfl)).trans (((hk_upgN h_g69 13 rfl)).trans e_g68_13)))))))
                                                    have e_g209_55 : g209 55 = (g75 55) := ((hfr_g209 55 rfl)).trans (((hfr_g190 55 rfl)).trans (((h175 55 rfl)).trans (((hfr_g160 55 rfl)).trans (((h147 55 rfl)).trans (hfr_g127 55 rfl)))))
                                                    have e_g209_52 : g209 52 = (g75 52) := ((hfr_g209 52 rfl)).trans (((hfr_g190 52 rfl)).trans (((h175 52 rfl)).trans (((hfr_g160 52 rfl)).trans (((h147 52 rfl)).trans (hfr_g127 52 rfl)))))
                                                    have e_g209_24 : g209 24 = (g75 24) := ((hfr_g209 24 rfl)).trans (((hfr_g190 24 rfl)).trans (((h175 24 rfl)).trans (((hfr_g160 24 rfl)).trans (((h147 24 rfl)).trans (hfr_g127 24 rfl)))))
                                                    have e_g209_25 : g209 25 = (g75 25) := ((hfr_g209 25 rfl)).trans (((hfr_g190 25 rfl)).trans (((h175 25 rfl)).trans (((hfr_g160 25 rfl)).trans (((h147 25 rfl)).trans (hfr_g127 25 rfl)))))
                                                    have e_g209_26 : g209 26 = (g75 26) := ((hfr_g209 26 rfl)).trans (((hfr_g190 26 rfl)).trans (((h175 26 rfl)).trans (((hfr_g160 26 rfl)).trans (((h147 26 rfl)).trans (hfr_g127 26 rfl)))))
                                                    have e_g209_27 : g209 27 = (g75 27) := ((hfr_g209 27 rfl)).trans (((hfr_g190 27 rfl)).trans (((h175 27 rfl)).trans (((hfr_g160 27 rfl)).trans (((h147 27 rfl)).trans (hfr_g127 27 rfl)))))
                                                    have e_g209_58 : g209 58 = (g11 58) := ((hfr_g209 58 rfl)).trans (((hfr_g190 58 rfl)).trans (((h175 58 rfl)).trans (((hfr_g160 58 rfl)).trans (((h147 58 rfl)).trans e_g127_58))))
                                                    have e_g209_17 : g209 17 = (g75 17) := ((hfr_g209 17 rfl)).trans (((hfr_g190 17 rfl)).trans (((h175 17 rfl)).trans e_g160_17))
                                                    have e_g209_23 : g209 23 = (g75 23) := ((hfr_g209 23 rfl)).trans (((hfr_g190 23 rfl)).trans (((h175 23 rfl)).trans (((hfr_g160 23 rfl)).trans (((h147 23 rfl)).trans (hfr_g127 23 rfl)))))
                                                    have e_g209_15 : g209 15 = (g170 15) := ((hfr_g209 15 rfl)).trans (hfr_g190 15 rfl)
                                                    exact kr g209 l171 a172 bk _ _ _ _ ⟨(hk_frT (hk_frT (hk_frT (hk_frT (hk_frT (hk_frT (hk_frT (hk_frG (hk_frG (hk_frG (hk_frT (hk_frT (hk_frG (hk_frT (hk_frT (hk_frT (hk_frG hk_fr0 (by decide) h_g5) (by decide) h16) (by decide) hfr_g27) (by decide) hfr_g29) (by decide) h_g32) (by decide) h44) (by decide) h58) (by decide) h_g67) (by decide) h_g68) (by decide) h_g69) (by decide) h80) (by decide) hfr_g127) (by decide) h147) (by decide) hfr_g160) (by decide) h175) (by decide) hfr_g190) (by decide) hfr_g209), (hk_frT (hk_frT (hk_frT (hk_frT (hk_frT hk_fr0 (by decide) h17) (by decide) h81) (by decide) h148) (by decide) hfr_l161) (by decide) h176), (hk_frT (hk_frT (hk_frT (hk_frT (hk_frT (hk_frT hk_fr0 (by decide) h18) (by decide) h82) (by decide) hfr_a134) (by decide) h149) (by decide) hfr_a162) (by decide) h177), rfl, (om212 ((g 49).toInt) ((g209 49).toInt) ((g190 49).toInt) hf_B187_2 (congrArg Int32.toInt e_g209_49)), (om648 ((g 51).toInt) ((g209 51).toInt) (((0 : Int32)).toInt) hr4 (hE_nle cc210) (by decide)), (om649 ((g209 20).toInt) ((g209 49).toInt) ((g190 49).toInt) ((g 20).toInt) ((g 49).toInt) (congrArg Int32.toInt e_g209_49) (congrArg Int32.toInt e_g209_20) hr2 hf_B187_2), (om650 ((g209 51).toInt) ((g209 18).toInt) ((g209 13).toInt) ((g209 55).toInt) (((0 : Int32)).toInt) (hE_nle cc210) (by decide)), (om621 ((g209 49).toInt) ((g190 49).toInt) ((g 49).toInt) ((g 20).toInt) (congrArg Int32.toInt e_g209_49) hf_B187_2 hf_B187_4 hr2 hi_g20), (om203 ((g209 51).toInt) (((0 : Int32)).toInt) hf_B208_1 (hE_nle cc210) (by decide)), (om141 ((g209 52).toInt) ((g75 52).toInt) (congrArg Int32.toInt e_g209_52) h89), (om497 ((g209 55).toInt) ((g75 55).toInt) (congrArg Int32.toInt e_g209_55) h90), (om632 ((g209 20).toInt) ((g 20).toInt) ((g 49).toInt) (congrArg Int32.toInt e_g209_20) hr2 hi_g20 hi_g49), (om162 ((g209 24).toInt) ((g75 24).toInt) (congrArg Int32.toInt e_g209_24) h93), (om162 ((g209 25).toInt) ((g75 25).toInt) (congrArg Int32.toInt e_g209_25) h94), (om162 ((g209 26).toInt) ((g75 26).toInt) (congrArg Int32.toInt e_g209_26) h95), (om162 ((g209 27).toInt) ((g75 27).toInt) (congrArg Int32.toInt e_g209_27) h96), (om39 ((g209 58).toInt) ((g11 58).toInt) (congrArg Int32.toInt e_g209_58) h24), hr185, (om141 ((g209 17).toInt) ((g75 17).toInt) (congrArg Int32.toInt e_g209_17) h97), hr186, (om333 ((g209 23).toInt) ((g75 23).toInt) (congrArg Int32.toInt e_g209_23) h99), (om89 ((g209 15).toInt) ((g170 15).toInt) (congrArg Int32.toInt e_g209_15) h179), (om141 ((g209 13).toInt) ((g 13).toInt) (congrArg Int32.toInt e_g209_13) hi_g13), hr181, hr182, hr183, hr184⟩ hw dX12_openBlock_417
                                                refine lv_if_ne (tgt := 410) hx hb dX12_openBlock_396 (by decide) (fun cc256 => ?_) (fun cc256 => ?_)
                                                · exact B208 g190 ls _ _ (om498 ((g 51).toInt) ((g190 51).toInt) hr4) (om185 ((g190 51).toInt) (((0 : Int32)).toInt) hf_B187_5 (hE_ne cc256) (by decide)) hk_fr0 hw (lv_sub hl [0, 1, 2, 3] rfl)
                                                · refine lv_iload hx hb dX12_openBlock_399 (lv_at hl 4 rfl) ?_
                                                  refine lv_if_ne (tgt := 410) hx hb dX12_openBlock_401 (by decide) (fun cc257 => ?_) (fun cc257 => ?_)
                                                  · exact B208 g190 ls _ _ (om498 ((g 51).toInt) ((g190 51).toInt) hr4) (om215 ((g190 51).toInt) (((0 : Int32)).toInt) hf_B187_5 (hE_eq cc256) (by decide)) hk_fr0 hw (lv_sub hl [0, 1, 2, 3] rfl)
                                                  · refine lv_aload_n hx hb dX12_openBlock_404 rfl (lv_at hl 0 rfl) ?_
                                                    refine lv_bipush (v := 10) hx hb dX12_openBlock_405 (by decide) ?_
                                                    refine jx_Vv (As := [.int 10]) (rest := []) ⟨hx, hb, hml, hown, hts⟩ hZ hw hA (jm_X12_fail l hlt D t3 cI cJ ad g190 l171 a172 bk _ 10 (om651 (((10 : Int32)).toInt) (by decide)) (om215 ((g190 51).toInt) (((0 : Int32)).toInt) hf_B187_5 (hE_eq cc256) (by decide))) (cwV 1 hts (jx_gV wwM_good wM_64 wM_65 wM_66 wM_8 wM_67) rfl rfl rfl (by decide +kernel) ⟨Nat.le_of_ble_eq_true rfl, Nat.le_of_ble_eq_true rfl⟩) 0 (ci := 15) (T := TX12) (N := 92) rfl rfl rfl hl.1 rfl (Nat.le_of_ble_eq_true rfl) dX12_openBlock_407 ⟨Nat.le_of_ble_eq_true rfl, Nat.le_of_ble_eq_true rfl⟩ (fun _ _ _ _ _ _ _ _ hp _ _ _ _ => hp.elim) (fun g263 l264 a265 b266 H locs hp267 hw => ?_)
                                                    obtain ⟨h268, rfl, rfl, rfl, h272, h273⟩ := hp267
                                                    exact B208 g263 ls _ _ (om515 ((g 51).toInt) ((g263 51).toInt) hr4 h272) (om193 ((g263 51).toInt) h272 h273) h268 hw (lv_sub hl [0, 1, 2, 3] rfl)
                                              · refine lv_aload_n hx hb dX12_openBlock_360 rfl (lv_at hl 0 rfl) ?_
                                                have e_g190_12 : g190 12 = (g 12) := ((hfr_g190 12 rfl)).trans (((h175 12 rfl)).trans (((hfr_g160 12 rfl)).trans (((h147 12 rfl)).trans (((hfr_g127 12 rfl)).trans (((h80 12 rfl)).trans e_g69_12)))))
                                                refine jx_Vi (As := []) (rest := []) ⟨hx, hb, hml, hown, hts⟩ hZ hw hA (jm_X12_next l hlt D t3 cI cJ ad g190 l171 a172 bk _ (om652 ((g190 49).toInt) ((g 49).toInt) ((g 20).toInt) hf_B187_2 hf_B187_4 hr2 hi_g20) (om206 ((g190 51).toInt) hf_B187_5) (om21 ((g190 12).toInt) ((g 12).toInt) (congrArg Int32.toInt e_g190_12) hi_g12) hr180) (cwV 0 hts (jx_gV wwM_good wM_59 wM_60 wM_61 wM_8 wM_62) rfl rfl rfl (by decide +kernel) ⟨Nat.le_of_ble_eq_true rfl, Nat.le_of_ble_eq_true rfl⟩) 0 (ci := 15) (T := TX12) (N := 92) rfl rfl rfl hl.1 rfl (Nat.le_of_ble_eq_true rfl) dX12_openBlock_361 ⟨Nat.le_of_ble_eq_true rfl, Nat.le_of_ble_eq_true rfl⟩ (fun _ _ _ _ _ _ _ _ hp _ _ _ _ => hp.elim) (fun r278 g279 l280 a281 b282 H locs hp283 hw => ?_)
                                                obtain ⟨h284, rfl, rfl, rfl, h288, h289, h290, h291, h292⟩ := hp283
                                                refine lv_aload_n hx hb dX12_openBlock_364 rfl (lv_at hl 0 rfl) ?_
                                                refine hk_get (ci := 15) (C := RX12) (T := TX12) (N := 92) (v := .ref (ad 6)) hx hb hts (fun _ h => List.mem_cons_of_mem _ (wwMc_wsX120 _ h)) hown hw 0 rfl rfl 23 (by decide) (hq _ wM_129) rfl dX12_openBlock_365 ?_
                                                refine lv_iload hx hb dX12_openBlock_368 (lv_at hl 5 rfl) ?_
                                                refine jx_iald hx hb hw 6 0 rfl rfl (hE_in (n := 32) (om94 ((x189).toInt) ((r196).toInt) hf_B187_1 (hE_nle cc207) h206)) dX12_openBlock_370 (fun z293 hz293 => ?_)
                                                have B294 : ∀  (x295 : Int32) (ls : Array Slot) (H : Heap) (locs : List Loc), (0 ≤ (x295).toInt ∧ (x295).toInt ≤ 1) → hk_W D (jT cI cJ) A s H locs (mw cI cJ ad g279 l171 a172 bk) → lv_has ls 10 [(0, .ref (ad 0)), (1, .int y1), (2, .int y2), (7, .int z106), (9, .int x189)] → W p l e { frames := 10, cells := 0, slots := 0, locals := 235 } s m args below meth c H locs 0 0 Q (F0 m 384 ls [.int x295]) := by
                                                  intro x295 ls H locs hf_B294_0 hw hl
                                                  refine lv_istore (lv' := [(8, .int x295), (0, .ref (ad 0)), (1, .int y1), (2, .int y2), (7, .int z106), (9, .int x189)]) hx hb dX12_openBlock_384 hl (by decide) rfl (fun ls hl => ?_)
                                                  obtain ⟨z296, hz296⟩ : ∃ z : Int32, x189 + 1 = z := ⟨_, rfl⟩
                                                  refine lv_iinc (v := z296) (lv' := [(9, .int z296), (8, .int x295), (0, .ref (ad 0)), (1, .int y1), (2, .int y2), (7, .int z106)]) hx hb dX12_openBlock_386 hl (k := 5) rfl hz296 (by decide) rfl (fun ls hl => ?_)
                                                  have xz296 : (z296).toInt = (x189).toInt + ((1 : Int32)).toInt := (hE_imp (hE_add hz296) (om95 ((x189).toInt) (((1 : Int32)).toInt) ((r196).toInt) hf_B187_1 (hE_nle cc207) h206 (by decide)))
                                                  refine lv_goto (tgt := 348) hx hb dX12_openBlock_389 (by decide) ?_
                                                  exact ih_B187 x295 z296 g279 ls _ _ (om11 ((z296).toInt) (k191 : Int) ((x189).toInt) (((1 : Int32)).toInt) hrk_B187 xz296 (by decide)) (om223 ((x295).toInt) hf_B294_0) (om14 ((z296).toInt) ((x189).toInt) (((1 : Int32)).toInt) xz296 hf_B187_1 (by decide)) (om209 ((g 49).toInt) ((g279 49).toInt) ((g190 49).toInt) hf_B187_2 h290) (om498 ((g 51).toInt) ((g279 51).toInt) hr4) (om653 ((g279 49).toInt) ((g190 49).toInt) ((g 49).toInt) ((g 20).toInt) h290 h291 hf_B187_2 hr2 hi_g20) (om206 ((g279 51).toInt) h292) (hk_frT hfr_g190 (by decide) h284) hw (lv_sub hl [2, 3, 4, 5, 1, 0] rfl)
                                                have B297 : ∀  (ls : Array Slot) (H : Heap) (locs : List Loc), hk_W D (jT cI cJ) A s H locs (mw cI cJ ad g279 l171 a172 bk) → lv_has ls 10 [(0, .ref (ad 0)), (1, .int y1), (2, .int y2), (7, .int z106), (9, .int x189)] → W p l e { frames := 10, cells := 0, slots := 0, locals := 235 } s m args below meth c H locs 0 0 Q (F0 m 383 ls []) := by
                                                  intro ls H locs hw hl
                                                  refine lv_iconst (v := 0) hx hb dX12_openBlock_383 (by decide) ?_
                                                  exact B294 0 ls _ _ (om226 (((0 : Int32)).toInt) (by decide)) hw (lv_sub hl [0, 1, 2, 3, 4] rfl)
                                                refine lv_icmp_ne (tgt := 383) hx hb dX12_openBlock_371 (by decide) (fun cc298 => ?_) (fun cc298 => ?_)
                                                · exact B297 ls _ _ hw (lv_sub hl [0, 1, 2, 3, 5] rfl)
                                                · refine lv_iload hx hb dX12_openBlock_374 (lv_at hl 4 rfl) ?_
                                                  refine lv_if_eq (tgt := 383) hx hb dX12_openBlock_376 (by decide) (fun cc299 => ?_) (fun cc299 => ?_)
                                                  · exact B297 ls _ _ hw (lv_sub hl [0, 1, 2, 3, 5] rfl)
                                                  · refine lv_iconst (v := 1) hx hb dX12_openBlock_379 (by decide) ?_
                                                    refine lv_goto (tgt := 384) hx hb dX12_openBlock_380 (by decide) ?_
                                                    exact B294 1 ls _ _ (om225 (((1 : Int32)).toInt) (by decide)) hw (lv_sub hl [0, 1, 2, 3, 5] rfl)
                                          have e_g170_49 : g170 49 = (g127 49) := ((h175 49 rfl)).trans (((hfr_g160 49 rfl)).trans (h147 49 rfl))
                                          have e_g170_51 : g170 51 = (g127 51) := ((h175 51 rfl)).trans (((hfr_g160 51 rfl)).trans (h147 51 rfl))
                                          exact B187 (2147483648 - ((0 : Int32)).toInt).toNat 1 0 g170 ls _ _ (Int.self_le_toNat _) (om225 (((1 : Int32)).toInt) (by decide)) (om18 (((0 : Int32)).toInt) (by decide)) (om212 ((g 49).toInt) ((g170 49).toInt) ((g127 49).toInt) hf_B126_0 (congrArg Int32.toInt e_g170_49)) (om498 ((g 51).toInt) ((g170 51).toInt) hr4) (om621 ((g170 49).toInt) ((g127 49).toInt) ((g 49).toInt) ((g 20).toInt) (congrArg Int32.toInt e_g170_49) hf_B126_0 hf_B126_2 hr2 hi_g20) (om200 ((g170 51).toInt) ((g127 51).toInt) (((0 : Int32)).toInt) (congrArg Int32.toInt e_g170_51) hf_B126_3 (hE_le cc130) (by decide)) hk_fr0 hw (lv_sub hl [2, 3, 4, 5, 1, 0] rfl)
                                        · refine lv_aload_n hx hb dX12_openBlock_321 rfl (lv_at hl 0 rfl) ?_
                                          refine lv_aload_n hx hb dX12_openBlock_322 rfl (lv_at hl 0 rfl) ?_
                                          refine hk_get (ci := 15) (C := RX12) (T := TX12) (N := 92) (v := .ref (ad 7)) hx hb hts (fun _ h => List.mem_cons_of_mem _ (wwMc_wsX120 _ h)) hown hw 0 rfl rfl 25 (by decide) (hq _ wM_110) rfl dX12_openBlock_323 ?_
                                          refine lv_iload hx hb dX12_openBlock_326 (lv_at hl 4 rfl) ?_
                                          refine jx_iald hx hb hw 7 0 rfl rfl (hE_in (n := 3000) (om105 ((x159).toInt) ((g75 17).toInt) hf_B158_0 (hE_nle cc164) h97)) dX12_openBlock_328 (fun z300 hz300 => ?_)
                                          refine jx_Vv (As := [.int z300]) (rest := []) ⟨hx, hb, hml, hown, hts⟩ hZ hw hA (jm_X12_addCheck l hlt D t3 cI cJ ad g160 l161 a162 bk _ z300 (om79 ((g160 15).toInt) hf_B158_1)) (cwV 1 hts (jx_gV wwM_good wM_121 wM_122 wM_123 wM_8 wM_124) rfl rfl rfl (by decide +kernel) ⟨Nat.le_of_ble_eq_true rfl, Nat.le_of_ble_eq_true rfl⟩) 0 (ci := 15) (T := TX12) (N := 92) rfl rfl rfl hl.1 rfl (Nat.le_of_ble_eq_true rfl) dX12_openBlock_329 ⟨Nat.le_of_ble_eq_true rfl, Nat.le_of_ble_eq_true rfl⟩ (fun _ _ _ _ _ _ _ _ hp _ _ _ _ => hp.elim) (fun g306 l307 a308 b309 H locs hp310 hw => ?_)
                                          obtain ⟨h311, h312, h313, rfl, h315⟩ := hp310
                                          have hr316 : hk_rg 0 255 (a308 0) := (hk_pE (P := hk_rg 0 255) (hk_pE (P := hk_rg 0 255) hr152 (hfr_a162 0 rfl)) (h313 0 rfl))
                                          have hr317 : hk_rg 0 255 (a308 1) := (hk_pE (P := hk_rg 0 255) (hk_pE (P := hk_rg 0 255) hr153 (hfr_a162 1 rfl)) (h313 1 rfl))
                                          have hr318 : hk_rg 0 20000 (a308 12) := (hk_pE (P := hk_rg 0 20000) (hk_pE (P := hk_rg 0 20000) hr154 (hfr_a162 12 rfl)) (h313 12 rfl))
                                          have hr319 : hk_rg 0 20000 (a308 13) := (hk_pE (P := hk_rg 0 20000) (hk_pE (P := hk_rg 0 20000) hr155 (hfr_a162 13 rfl)) (h313 13 rfl))
                                          have hr320 : hk_rg 0 20000 (a308 14) := (hk_pE (P := hk_rg 0 20000) (hk_pE (P := hk_rg 0 20000) hr156 (hfr_a162 14 rfl)) (h313 14 rfl))
                                          have hr321 : hk_rg 0 255 (a308 24) := (hk_pE (P := hk_rg 0 255) (hk_pE (P := hk_rg 0 255) hr157 (hfr_a162 24 rfl)) (h313 24 rfl))
                                          have hr322 : hk_rg 0 255 (a308 6) := (hk_pE (P := hk_rg 0 255) (hk_pE (P := hk_rg 0 255) (hk_pE (P := hk_rg 0 255) ha134_r6rg (h149 6 rfl)) (hfr_a162 6 rfl)) (h313 6 rfl))
                                          obtain ⟨z323, hz323⟩ : ∃ z : Int32, x159 + 1 = z := ⟨_, rfl⟩
                                          refine lv_iinc (v := z323) (lv' := [(8, .int z323), (0, .ref (ad 0)), (1, .int y1), (2, .int y2), (7, .int z106)]) hx hb dX12_openBlock_332 hl (k := 4) rfl hz323 (by decide) rfl (fun ls hl => ?_)
                                          have xz323 : (z323).toInt = (x159).toInt + ((1 : Int32)).toInt := (hE_imp (hE_add hz323) (om106 ((x159).toInt) (((1 : Int32)).toInt) ((g75 17).toInt) hf_B158_0 (hE_nle cc164) h97 (by decide)))
                                          refine lv_goto (tgt := 312) hx hb dX12_openBlock_335 (by decide) ?_
                                          exact ih_B158 z323 g306 l307 a308 ls _ _ (om11 ((z323).toInt) (k163 : Int) ((x159).toInt) (((1 : Int32)).toInt) hrk_B158 xz323 (by decide)) (om14 ((z323).toInt) ((x159).toInt) (((1 : Int32)).toInt) xz323 hf_B158_0 (by decide)) (om79 ((g306 15).toInt) h315) (hk_frT hfr_g160 (by decide) h311) (hk_frT hfr_l161 (by decide) h312) (hk_frT hfr_a162 (by decide) h313) hw (lv_sub hl [1, 2, 3, 4, 0] rfl)
                                    exact B158 (2147483648 - ((0 : Int32)).toInt).toNat 0 g142 l143 a144 ls _ _ (Int.self_le_toNat _) (om18 (((0 : Int32)).toInt) (by decide)) (om79 ((g142 15).toInt) h151) hk_fr0 hk_fr0 hk_fr0 hw (lv_sub hl [1, 2, 3, 4, 0] rfl)
                                  · refine lv_aload_n hx hb dX12_openBlock_263 rfl (lv_at hl 0 rfl) ?_
                                    refine hk_get (ci := 15) (C := RX12) (T := TX12) (N := 92) (v := .ref (ad 24)) hx hb hts (fun _ h => List.mem_cons_of_mem _ (wwMc_wsX120 _ h)) hown hw 0 rfl rfl 87 (by decide) (hq _ wM_293) rfl dX12_openBlock_264 ?_
                                    refine lv_iload hx hb dX12_openBlock_267 (lv_at hl 4 rfl) ?_
                                    refine jx_iald hx hb hw 24 0 rfl rfl (hE_in (n := 4) (om654 ((x133).toInt) (((0 : Int32)).toInt) hf_B132_0 (hE_nlt cc136) (by decide))) dX12_openBlock_269 (fun z324 hz324 => ?_)
                                    refine lv_iconst (v := 3) hx hb dX12_openBlock_270 (by decide) ?_
                                    have B325 : ∀  (a326 : Nat → Nat → Int32) (ls : Array Slot) (H : Heap) (locs : List Loc), (hk_fr [6] a134 a326) → (hk_rg 0 255 (a326 6)) → hk_W D (jT cI cJ) A s H locs (mw cI cJ ad g127 l76 a326 bk) → lv_has ls 10 [(0, .ref (ad 0)), (1, .int y1), (2, .int y2), (7, .int z106), (8, .int x133)] → W p l e { frames := 10, cells := 0, slots := 0, locals := 235 } s m args below meth c H locs 0 0 Q (F0 m 295 ls []) := by
                                      intro a326 ls H locs hfr_a326 ha326_r6rg hw hl
                                      obtain ⟨z327, hz327⟩ : ∃ z : Int32, x133 + (-1) = z := ⟨_, rfl⟩
                                      refine lv_iinc (v := z327) (lv' := [(8, .int z327), (0, .ref (ad 0)), (1, .int y1), (2, .int y2), (7, .int z106)]) hx hb dX12_openBlock_295 hl (k := 4) rfl hz327 (by decide) rfl (fun ls hl => ?_)
                                      have xz327 : (z327).toInt = (x133).toInt + (((-1) : Int32)).toInt := (hE_imp (hE_add hz327) (om655 ((x133).toInt) ((((-1) : Int32)).toInt) (((0 : Int32)).toInt) hf_B132_0 (hE_nlt cc136) (by decide) (by decide)))
                                      refine lv_goto (tgt := 258) hx hb dX12_openBlock_298 (by decide) ?_
                                      exact ih_B132 z327 a326 ls _ _ (om113 ((z327).toInt) (k135 : Int) ((x133).toInt) ((((-1) : Int32)).toInt) hrk_B132 xz327 (by decide)) (om656 ((z327).toInt) ((x133).toInt) ((((-1) : Int32)).toInt) xz327 hf_B132_0 (by decide)) (hk_frT hfr_a134 (by decide) hfr_a326) ha326_r6rg hw (lv_sub hl [1, 2, 3, 4, 0] rfl)
                                    refine lv_icmp_ne (tgt := 290) hx hb dX12_openBlock_271 (by decide) (fun cc328 => ?_) (fun cc328 => ?_)
                                    · refine lv_aload_n hx hb dX12_openBlock_290 rfl (lv_at hl 0 rfl) ?_
                                      refine lv_iconst (v := 1) hx hb dX12_openBlock_291 (by decide) ?_
                                      have e_g127_17 : g127 17 = (g75 17) := (hfr_g127 17 rfl)
                                      refine jx_Vv (As := [.int 1]) (rest := []) ⟨hx, hb, hml, hown, hts⟩ hZ hw hA (jm_X12_branchTurn l hlt D t3 cI cJ ad g127 l76 a134 bk _ 1 (om141 ((g127 17).toInt) ((g75 17).toInt) (congrArg Int32.toInt e_g127_17) h97) ha134_r6rg) (cwV 1 hts (jx_gV wwM_good wM_299 wM_300 wM_301 wM_8 wM_302) rfl rfl rfl (by decide +kernel) ⟨Nat.le_of_ble_eq_true rfl, Nat.le_of_ble_eq_true rfl⟩) 0 (ci := 15) (T := TX12) (N := 92) rfl rfl rfl hl.1 rfl (Nat.le_of_ble_eq_true rfl) dX12_openBlock_292 ⟨Nat.le_of_ble_eq_true rfl, Nat.le_of_ble_eq_true rfl⟩ (fun _ _ _ _ _ _ _ _ hp _ _ _ _ => hp.elim) (fun g334 l335 a336 b337 H locs hp338 hw => ?_)
                                      obtain ⟨rfl, rfl, h341, rfl, h343⟩ := hp338
                                      have hr344 : hk_rg 0 255 (a336 0) := (hk_pE (P := hk_rg 0 255) (hk_pE (P := hk_rg 0 255) hr100 (hfr_a134 0 rfl)) (h341 0 rfl))
                                      have hr345 : hk_rg 0 255 (a336 1) := (hk_pE (P := hk_rg 0 255) (hk_pE (P := hk_rg 0 255) hr101 (hfr_a134 1 rfl)) (h341 1 rfl))
                                      have hr346 : hk_rg 0 20000 (a336 12) := (hk_pE (P := hk_rg 0 20000) (hk_pE (P := hk_rg 0 20000) hr102 (hfr_a134 12 rfl)) (h341 12 rfl))
                                      have hr347 : hk_rg 0 20000 (a336 13) := (hk_pE (P := hk_rg 0 20000) (hk_pE (P := hk_rg 0 20000) hr103 (hfr_a134 13 rfl)) (h341 13 rfl))
                                      have hr348 : hk_rg 0 20000 (a336 14) := (hk_pE (P := hk_rg 0 20000) (hk_pE (P := hk_rg 0 20000) hr104 (hfr_a134 14 rfl)) (h341 14 rfl))
                                      have hr349 : hk_rg 0 255 (a336 24) := (hk_pE (P := hk_rg 0 255) (hk_pE (P := hk_rg 0 255) (hk_pE (P := hk_rg 0 255) h25 (h82 24 rfl)) (hfr_a134 24 rfl)) (h341 24 rfl))
                                      exact B325 a336 ls _ _ h341 h343 hw (lv_sub hl [0, 1, 2, 3, 4] rfl)
                                    · refine lv_aload_n hx hb dX12_openBlock_274 rfl (lv_at hl 0 rfl) ?_
                                      refine lv_aload_n hx hb dX12_openBlock_275 rfl (lv_at hl 0 rfl) ?_
                                      refine hk_get (ci := 15) (C := RX12) (T := TX12) (N := 92) (v := .ref (ad 25)) hx hb hts (fun _ h => List.mem_cons_of_mem _ (wwMc_wsX120 _ h)) hown hw 0 rfl rfl 88 (by decide) (hq _ wM_294) rfl dX12_openBlock_276 ?_
                                      refine lv_iload hx hb dX12_openBlock_279 (lv_at hl 4 rfl) ?_
                                      refine jx_iald hx hb hw 25 0 rfl rfl (hE_in (n := 4) (om654 ((x133).toInt) (((0 : Int32)).toInt) hf_B132_0 (hE_nlt cc136) (by decide))) dX12_openBlock_281 (fun z350 hz350 => ?_)
                                      refine lv_iconst (v := 1) hx hb dX12_openBlock_282 (by decide) ?_
                                      refine lv_iadd hx hb dX12_openBlock_283 (jx_nm fun z351 hz351 => ?_)
                                      have xz351 : (z351).toInt = (z350).toInt + ((1 : Int32)).toInt := (hE_imp (hE_add hz351) (om657 ((z350).toInt) (((1 : Int32)).toInt) (hk_rgV (hk_pE (P := hk_rg 0 255) (hk_pE (P := hk_rg 0 255) h25 (h82 24 rfl)) (hfr_a134 24 rfl)) hz350) (by decide)))
                                      have e_g127_17 : g127 17 = (g75 17) := (hfr_g127 17 rfl)
                                      refine jx_Vv (As := [.int z351]) (rest := []) ⟨hx, hb, hml, hown, hts⟩ hZ hw hA (jm_X12_deltaBack l hlt D t3 cI cJ ad g127 l76 a134 bk _ z351 (om658 ((z351).toInt) ((z350).toInt) (((1 : Int32)).toInt) xz351 (hk_rgV (hk_pE (P := hk_rg 0 255) (hk_pE (P := hk_rg 0 255) h25 (h82 24 rfl)) (hfr_a134 24 rfl)) hz350) (by decide)) (om141 ((g127 17).toInt) ((g75 17).toInt) (congrArg Int32.toInt e_g127_17) h97) ha134_r6rg) (cwV 1 hts (jx_gV wwM_good wM_295 wM_296 wM_297 wM_8 wM_298) rfl rfl rfl (by decide +kernel) ⟨Nat.le_of_ble_eq_true rfl, Nat.le_of_ble_eq_true rfl⟩) 0 (ci := 15) (T := TX12) (N := 92) rfl rfl rfl hl.1 rfl (Nat.le_of_ble_eq_true rfl) dX12_openBlock_284 ⟨Nat.le_of_ble_eq_true rfl, Nat.le_of_ble_eq_true rfl⟩ (fun _ _ _ _ _ _ _ _ hp _ _ _ _ => hp.elim) (fun g357 l358 a359 b360 H locs hp361 hw => ?_)
                                      obtain ⟨rfl, rfl, h364, rfl, h366⟩ := hp361
                                      have hr367 : hk_rg 0 255 (a359 0) := (hk_pE (P := hk_rg 0 255) (hk_pE (P := hk_rg 0 255) hr100 (hfr_a134 0 rfl)) (h364 0 rfl))
                                      have hr368 : hk_rg 0 255 (a359 1) := (hk_pE (P := hk_rg 0 255) (hk_pE (P := hk_rg 0 255) hr101 (hfr_a134 1 rfl)) (h364 1 rfl))
                                      have hr369 : hk_rg 0 20000 (a359 12) := (hk_pE (P := hk_rg 0 20000) (hk_pE (P := hk_rg 0 20000) hr102 (hfr_a134 12 rfl)) (h364 12 rfl))
                                      have hr370 : hk_rg 0 20000 (a359 13) := (hk_pE (P := hk_rg 0 20000) (hk_pE (P := hk_rg 0 20000) hr103 (hfr_a134 13 rfl)) (h364 13 rfl))
                                      have hr371 : hk_rg 0 20000 (a359 14) := (hk_pE (P := hk_rg 0 20000) (hk_pE (P := hk_rg 0 20000) hr104 (hfr_a134 14 rfl)) (h364 14 rfl))
                                      have hr372 : hk_rg 0 255 (a359 24) := (hk_pE (P := hk_rg 0 255) (hk_pE (P := hk_rg 0 255) (hk_pE (P := hk_rg 0 255) h25 (h82 24 rfl)) (hfr_a134 24 rfl)) (h364 24 rfl))
                                      refine lv_goto (tgt := 295) hx hb dX12_openBlock_287 (by decide) ?_
                                      exact B325 a359 ls _ _ h364 h366 hw (lv_sub hl [0, 1, 2, 3, 4] rfl)
                              exact B132 ((z131).toInt + 2147483649).toNat z131 a77 ls _ _ (Int.self_le_toNat _) (om659 ((z131).toInt) ((g11 58).toInt) (((2 : Int32)).toInt) xz131 h24 (by decide)) hk_fr0 h98 hw (lv_sub hl [1, 2, 3, 4, 0] rfl)
                            · have e_g127_20 : g127 20 = (g 20) := ((hfr_g127 20 rfl)).trans (((h80 20 rfl)).trans (((hk_upgN h_g69 20 rfl)).trans (((hk_upgN h_g68 20 rfl)).trans (((hk_upgN h_g67 20 rfl)).trans (((h58 20 rfl)).trans (((h44 20 rfl)).trans (((hk_upgN h_g32 20 rfl)).trans (((hfr_g29 20 rfl)).trans (((hfr_g27 20 rfl)).trans (((h16 20 rfl)).trans (hk_upgN h_g5 20 rfl)))))))))))
                              have e_g127_18 : g127 18 = (g75 18) := (hfr_g127 18 rfl)
                              have e_g127_13 : g127 13 = (g 13) := ((hfr_g127 13 rfl)).trans (((h80 13 rfl)).trans (((hk_upgN h_g69 13 rfl)).trans e_g68_13))
                              have e_g127_55 : g127 55 = (g75 55) := (hfr_g127 55 rfl)
                              have e_g127_52 : g127 52 = (g75 52) := (hfr_g127 52 rfl)
                              have e_g127_24 : g127 24 = (g75 24) := (hfr_g127 24 rfl)
                              have e_g127_25 : g127 25 = (g75 25) := (hfr_g127 25 rfl)
                              have e_g127_26 : g127 26 = (g75 26) := (hfr_g127 26 rfl)
                              have e_g127_27 : g127 27 = (g75 27) := (hfr_g127 27 rfl)
                              have e_g127_58 : g127 58 = (g11 58) := ((hfr_g127 58 rfl)).trans (((h80 58 rfl)).trans (((hk_upgN h_g69 58 rfl)).trans (((hk_upgN h_g68 58 rfl)).trans (((hk_upgN h_g67 58 rfl)).trans (((h58 58 rfl)).trans (((h44 58 rfl)).trans (((hk_upgN h_g32 58 rfl)).trans (((hfr_g29 58 rfl)).trans (hfr_g27 58 rfl)))))))))
                              have e_g127_17 : g127 17 = (g75 17) := (hfr_g127 17 rfl)
                              have e_g127_23 : g127 23 = (g75 23) := (hfr_g127 23 rfl)
                              have e_g127_15 : g127 15 = (g 15) := ((hfr_g127 15 rfl)).trans (((h80 15 rfl)).trans (((hk_upgN h_g69 15 rfl)).trans (((hk_upgN h_g68 15 rfl)).trans (((hk_upgN h_g67 15 rfl)).trans (((h58 15 rfl)).trans (((h44 15 rfl)).trans (((hk_upgN h_g32 15 rfl)).trans (((hfr_g29 15 rfl)).trans (((hfr_g27 15 rfl)).trans (((h16 15 rfl)).trans (hk_upgN h_g5 15 rfl)))))))))))
                              exact kr g127 l76 a77 bk _ _ _ _ ⟨(hk_frT (hk_frT (hk_frG (hk_frG (hk_frG (hk_frT (hk_frT (hk_frG (hk_frT (hk_frT (hk_frT (hk_frG hk_fr0 (by decide) h_g5) (by decide) h16) (by decide) hfr_g27) (by decide) hfr_g29) (by decide) h_g32) (by decide) h44) (by decide) h58) (by decide) h_g67) (by decide) h_g68) (by decide) h_g69) (by decide) h80) (by decide) hfr_g127), (hk_frT (hk_frT hk_fr0 (by decide) h17) (by decide) h81), (hk_frT (hk_frT hk_fr0 (by decide) h18) (by decide) h82), rfl, (om204 ((g 49).toInt) ((g127 49).toInt) hf_B126_0), (om648 ((g 51).toInt) ((g127 51).toInt) (((0 : Int32)).toInt) hr4 (hE_nle cc130) (by decide)), (om660 ((g127 20).toInt) ((g127 49).toInt) ((g 49).toInt) ((g 20).toInt) hf_B126_0 (congrArg Int32.toInt e_g127_20) hr2), (om650 ((g127 51).toInt) ((g127 18).toInt) ((g127 13).toInt) ((g127 55).toInt) (((0 : Int32)).toInt) (hE_nle cc130) (by decide)), (om652 ((g127 49).toInt) ((g 49).toInt) ((g 20).toInt) hf_B126_0 hf_B126_2 hr2 hi_g20), (om203 ((g127 51).toInt) (((0 : Int32)).toInt) hf_B126_3 (hE_nle cc130) (by decide)), (om141 ((g127 52).toInt) ((g75 52).toInt) (congrArg Int32.toInt e_g127_52) h89), (om497 ((g127 55).toInt) ((g75 55).toInt) (congrArg Int32.toInt e_g127_55) h90), (om632 ((g127 20).toInt) ((g 20).toInt) ((g 49).toInt) (congrArg Int32.toInt e_g127_20) hr2 hi_g20 hi_g49), (om162 ((g127 24).toInt) ((g75 24).toInt) (congrArg Int32.toInt e_g127_24) h93), (om162 ((g127 25).toInt) ((g75 25).toInt) (congrArg Int32.toInt e_g127_25) h94), (om162 ((g127 26).toInt) ((g75 26).toInt) (congrArg Int32.toInt e_g127_26) h95), (om162 ((g127 27).toInt) ((g75 27).toInt) (congrArg Int32.toInt e_g127_27) h96), (om39 ((g127 58).toInt) ((g11 58).toInt) (congrArg Int32.toInt e_g127_58) h24), (hk_pE (P := hk_rg 0 255) h25 (h82 24 rfl)), (om141 ((g127 17).toInt) ((g75 17).toInt) (congrArg Int32.toInt e_g127_17) h97), h98, (om333 ((g127 23).toInt) ((g75 23).toInt) (congrArg Int32.toInt e_g127_23) h99), (om89 ((g127 15).toInt) ((g 15).toInt) (congrArg Int32.toInt e_g127_15) hi_g15), (om141 ((g127 13).toInt) ((g 13).toInt) (congrArg Int32.toInt e_g127_13) hi_g13), hr101, hr102, hr103, hr104⟩ hw dX12_openBlock_249
                          refine lv_if_ne (tgt := 242) hx hb dX12_openBlock_218 (by decide) (fun cc373 => ?_) (fun cc373 => ?_)
                          · exact B129 ls _ _ hw (lv_sub hl [0, 1, 2, 3] rfl)
                          · refine lv_aload_n hx hb dX12_openBlock_221 rfl (lv_at hl 0 rfl) ?_
                            refine hk_get (ci := 15) (C := RX12) (T := TX12) (N := 92) (v := .int (g127 49)) hx hb hts (fun _ h => List.mem_cons_of_mem _ (wwMc_wsX120 _ h)) hown hw 0 rfl rfl 76 (by decide) (hq _ wM_92) rfl dX12_openBlock_222 ?_
                            refine lv_iload_n hx hb dX12_openBlock_225 rfl (lv_at hl 1 rfl) ?_
                            refine lv_isub hx hb dX12_openBlock_226 (jx_nm fun z374 hz374 => ?_)
                            have xz374 : (z374).toInt = (g127 49).toInt - (y1).toInt := (hE_imp (hE_sub hz374) (om661 ((g127 49).toInt) ((y1).toInt) ((g 49).toInt) hr0 hf_B126_0 hf_B126_2))
                            refine lv_iconst (v := 4) hx hb dX12_openBlock_227 (by decide) ?_
                            refine lv_irem hx hb dX12_openBlock_228 (by decide) (jx_nm fun z375 hz375 => ?_)
                            refine lv_if_eq (tgt := 242) hx hb dX12_openBlock_229 (by decide) (fun cc376 => ?_) (fun cc376 => ?_)
                            · exact B129 ls _ _ hw (lv_sub hl [0, 1, 2, 3] rfl)
                            · refine lv_aload_n hx hb dX12_openBlock_232 rfl (lv_at hl 0 rfl) ?_
                              refine lv_iconst (v := 0) hx hb dX12_openBlock_233 (by decide) ?_
                              refine lv_bipush (v := 8) hx hb dX12_openBlock_234 (by decide) ?_
                              have e_g127_12 : g127 12 = (g 12) := ((hfr_g127 12 rfl)).trans (((h80 12 rfl)).trans e_g69_12)
                              refine jx_Vv (As := [.int 0, .int 8]) (rest := []) ⟨hx, hb, hml, hown, hts⟩ hZ hw hA (jm_X12_wantByte l hlt D t3 cI cJ ad g127 l76 a77 bk _ 0 8 (om604 (((8 : Int32)).toInt) (by decide)) (om652 ((g127 49).toInt) ((g 49).toInt) ((g 20).toInt) hf_B126_0 hf_B126_2 hr2 hi_g20) (om215 ((g127 51).toInt) (((0 : Int32)).toInt) hf_B126_3 (hE_eq cc373) (by decide)) (om21 ((g127 12).toInt) ((g 12).toInt) (congrArg Int32.toInt e_g127_12) hi_g12) hr100) (cwV 2 hts (jx_gV wwM_good wM_278 wM_279 wM_280 wM_8 wM_281) rfl rfl rfl (by decide +kernel) ⟨Nat.le_of_ble_eq_true rfl, Nat.le_of_ble_eq_true rfl⟩) 0 (ci := 15) (T := TX12) (N := 92) rfl rfl rfl hl.1 rfl (Nat.le_of_ble_eq_true rfl) dX12_openBlock_236 ⟨Nat.le_of_ble_eq_true rfl, Nat.le_of_ble_eq_true rfl⟩ (fun _ _ _ _ _ _ _ _ hp _ _ _ _ => hp.elim) (fun g382 l383 a384 b385 H locs hp386 hw => ?_)
                              obtain ⟨h387, rfl, rfl, rfl, h391, h392, h393, h394, h395⟩ := hp386
                              refine lv_goto (tgt := 214) hx hb dX12_openBlock_239 (by decide) ?_
                              exact ih_B126 g382 ls _ _ (om662 ((g382 49).toInt) ((g382 51).toInt) (k128 : Int) ((g127 49).toInt) ((g127 51).toInt) (((0 : Int32)).toInt) hrk_B126 h391 h393 h395 hf_B126_3 (hE_eq cc373) (by decide)) (om209 ((g 49).toInt) ((g382 49).toInt) ((g127 49).toInt) hf_B126_0 h391) (om498 ((g 51).toInt) ((g382 51).toInt) hr4) (om653 ((g382 49).toInt) ((g127 49).toInt) ((g 49).toInt) ((g 20).toInt) h391 h394 hf_B126_0 hr2 hi_g20) (om206 ((g382 51).toInt) h395) (hk_frT hfr_g127 (by decide) h387) hw (lv_sub hl [0, 1, 2, 3] rfl)
                      exact B126 (20 * (1502 - (g75 49).toInt) - (g75 51).toInt).toNat g75 ls _ _ (Int.self_le_toNat _) (om663 ((g 49).toInt) ((g75 49).toInt) ((g29 49).toInt) ((g69 49).toInt) ((g39 49).toInt) ((g53 49).toInt) hf_B28_0 h84 (congrArg Int32.toInt e_g39_49) h62 (congrArg Int32.toInt e_g69_49)) (om498 ((g 51).toInt) ((g75 51).toInt) hr4) (om664 ((g75 49).toInt) ((g69 49).toInt) ((g39 49).toInt) ((g53 49).toInt) ((g29 49).toInt) ((g 49).toInt) ((g 20).toInt) h84 h87 h62 (congrArg Int32.toInt e_g69_49) (congrArg Int32.toInt e_g39_49) hf_B28_0 hr2 hi_g20) (om189 ((g75 51).toInt) (((0 : Int32)).toInt) h88 (hE_le cc105) (by decide)) hk_fr0 hw (lv_sub hl [0, 1, 2, 3] rfl)
                    refine hk_lcmp_lt (tgt := 214) hx hb dX12_openBlock_190 dX12_openBlock_191 (by decide) (fun cc396 => ?_) (fun cc396 => ?_)
                    · exact B125 ls _ _ hw (lv_sub hl [0, 1, 2, 3] rfl)
                    · refine lv_aload_n hx hb dX12_openBlock_194 rfl (lv_at hl 0 rfl) ?_
                      refine hk_get (ci := 15) (C := RX12) (T := TX12) (N := 92) (v := .long (l12 7)) hx hb hts (fun _ h => List.mem_cons_of_mem _ (wwMc_wsX120 _ h)) hown hw 0 rfl rfl 91 (by decide) (hq _ wM_291) (congrArg (fun z => some (Value.long z)) e_l76_7) dX12_openBlock_195 ?_
                      refine lv_aload_n hx hb dX12_openBlock_198 rfl (lv_at hl 0 rfl) ?_
                      refine hk_get (ci := 15) (C := RX12) (T := TX12) (N := 92) (v := .int (g75 17)) hx hb hts (fun _ h => List.mem_cons_of_mem _ (wwMc_wsX120 _ h)) hown hw 0 rfl rfl 26 (by decide) (hq _ wM_82) rfl dX12_openBlock_199 ?_
                      refine lv_i2l hx hb dX12_openBlock_202 rfl (jx_nl fun z397 hz397 => ?_)
                      refine hk_lcmp_eq (tgt := 214) hx hb dX12_openBlock_203 dX12_openBlock_204 (by decide) (fun cc398 => ?_) (fun cc398 => ?_)
                      · exact B125 ls _ _ hw (lv_sub hl [0, 1, 2, 3] rfl)
                      · exact B107 ls _ _ hw (lv_sub hl [0] rfl)
                  refine hk_lcmp_lt (tgt := 185) hx hb dX12_openBlock_170 dX12_openBlock_171 (by decide) (fun cc399 => ?_) (fun cc399 => ?_)
                  · exact B124 ls _ _ hw (lv_sub hl [2, 3, 4, 0] rfl)
                  · refine lv_aload_n hx hb dX12_openBlock_174 rfl (lv_at hl 2 rfl) ?_
                    refine hk_get (ci := 15) (C := RX12) (T := TX12) (N := 92) (v := .long (l12 6)) hx hb hts (fun _ h => List.mem_cons_of_mem _ (wwMc_wsX120 _ h)) hown hw 0 rfl rfl 90 (by decide) (hq _ wM_290) (congrArg (fun z => some (Value.long z)) e_l76_6) dX12_openBlock_175 ?_
                    refine lv_iload hx hb dX12_openBlock_178 (lv_at hl 0 rfl) ?_
                    refine lv_i2l hx hb dX12_openBlock_180 rfl (jx_nl fun z400 hz400 => ?_)
                    refine hk_lcmp_ne (tgt := 207) hx hb dX12_openBlock_181 dX12_openBlock_182 (by decide) (fun cc401 => ?_) (fun cc401 => ?_)
                    · exact B107 ls _ _ hw (lv_sub hl [2] rfl)
                    · exact B124 ls _ _ hw (lv_sub hl [2, 3, 4, 0] rfl)
                · have e_g75_20 : g75 20 = (g 20) := ((h80 20 rfl)).trans (((hk_upgN h_g69 20 rfl)).trans (((hk_upgN h_g68 20 rfl)).trans (((hk_upgN h_g67 20 rfl)).trans (((h58 20 rfl)).trans (((h44 20 rfl)).trans (((hk_upgN h_g32 20 rfl)).trans (((hfr_g29 20 rfl)).trans (((hfr_g27 20 rfl)).trans (((h16 20 rfl)).trans (hk_upgN h_g5 20 rfl))))))))))
                  have e_g75_13 : g75 13 = (g 13) := ((h80 13 rfl)).trans (((hk_upgN h_g69 13 rfl)).trans e_g68_13)
                  have e_g75_58 : g75 58 = (g11 58) := ((h80 58 rfl)).trans (((hk_upgN h_g69 58 rfl)).trans (((hk_upgN h_g68 58 rfl)).trans (((hk_upgN h_g67 58 rfl)).trans (((h58 58 rfl)).trans (((h44 58 rfl)).trans (((hk_upgN h_g32 58 rfl)).trans (((hfr_g29 58 rfl)).trans (hfr_g27 58 rfl))))))))
                  have e_g75_15 : g75 15 = (g 15) := ((h80 15 rfl)).trans (((hk_upgN h_g69 15 rfl)).trans (((hk_upgN h_g68 15 rfl)).trans (((hk_upgN h_g67 15 rfl)).trans (((h58 15 rfl)).trans (((h44 15 rfl)).trans (((hk_upgN h_g32 15 rfl)).trans (((hfr_g29 15 rfl)).trans (((hfr_g27 15 rfl)).trans (((h16 15 rfl)).trans (hk_upgN h_g5 15 rfl))))))))))
                  exact kr g75 l76 a77 bk _ _ _ _ ⟨(hk_frT (hk_frG (hk_frG (hk_frG (hk_frT (hk_frT (hk_frG (hk_frT (hk_frT (hk_frT (hk_frG hk_fr0 (by decide) h_g5) (by decide) h16) (by decide) hfr_g27) (by decide) hfr_g29) (by decide) h_g32) (by decide) h44) (by decide) h58) (by decide) h_g67) (by decide) h_g68) (by decide) h_g69) (by decide) h80), (hk_frT (hk_frT hk_fr0 (by decide) h17) (by decide) h81), (hk_frT (hk_frT hk_fr0 (by decide) h18) (by decide) h82), rfl, (om665 ((g 49).toInt) ((g75 49).toInt) ((g29 49).toInt) ((g69 49).toInt) ((g39 49).toInt) ((g53 49).toInt) hf_B28_0 h84 (congrArg Int32.toInt e_g39_49) (congrArg Int32.toInt e_g69_49) h62), (om648 ((g 51).toInt) ((g75 51).toInt) (((0 : Int32)).toInt) hr4 (hE_nle cc105) (by decide)), (om666 ((g75 20).toInt) ((g75 49).toInt) ((g69 49).toInt) ((g 20).toInt) ((g 49).toInt) ((g53 49).toInt) ((g29 49).toInt) ((g39 49).toInt) h84 (congrArg Int32.toInt e_g75_20) hr2 (congrArg Int32.toInt e_g69_49) hf_B28_0 h62 (congrArg Int32.toInt e_g39_49)), (om650 ((g75 51).toInt) ((g75 18).toInt) ((g75 13).toInt) ((g75 55).toInt) (((0 : Int32)).toInt) (hE_nle cc105) (by decide)), (om667 ((g75 49).toInt) ((g69 49).toInt) ((g53 49).toInt) ((g39 49).toInt) ((g29 49).toInt) ((g 49).toInt) ((g 20).toInt) h84 h87 (congrArg Int32.toInt e_g69_49) h62 (congrArg Int32.toInt e_g39_49) hf_B28_0 hr2 hi_g20), (om203 ((g75 51).toInt) (((0 : Int32)).toInt) h88 (hE_nle cc105) (by decide)), (om404 ((g75 52).toInt) h89), (om223 ((g75 55).toInt) h90), (om632 ((g75 20).toInt) ((g 20).toInt) ((g 49).toInt) (congrArg Int32.toInt e_g75_20) hr2 hi_g20 hi_g49), (om163 ((g75 24).toInt) h93), (om163 ((g75 25).toInt) h94), (om163 ((g75 26).toInt) h95), (om163 ((g75 27).toInt) h96), (om39 ((g75 58).toInt) ((g11 58).toInt) (congrArg Int32.toInt e_g75_58) h24), (hk_pE (P := hk_rg 0 255) h25 (h82 24 rfl)), (om404 ((g75 17).toInt) h97), h98, (om477 ((g75 23).toInt) h99), (om89 ((g75 15).toInt) ((g 15).toInt) (congrArg Int32.toInt e_g75_15) hi_g15), (om141 ((g75 13).toInt) ((g 13).toInt) (congrArg Int32.toInt e_g75_13) hi_g13), hr101, hr102, hr103, hr104⟩ hw dX12_openBlock_155
              · have e_g53_20 : g53 20 = (g 20) := ((h58 20 rfl)).trans (((h44 20 rfl)).trans (((hk_upgN h_g32 20 rfl)).trans (((hfr_g29 20 rfl)).trans (((hfr_g27 20 rfl)).trans (((h16 20 rfl)).trans (hk_upgN h_g5 20 rfl))))))
                have e_g53_18 : g53 18 = (g 18) := ((h58 18 rfl)).trans (((h44 18 rfl)).trans (((hk_upgN h_g32 18 rfl)).trans (((hfr_g29 18 rfl)).trans (((hfr_g27 18 rfl)).trans (((h16 18 rfl)).trans (hk_upgN h_g5 18 rfl))))))
                have e_g53_13 : g53 13 = (g 13) := ((h58 13 rfl)).trans (((h44 13 rfl)).trans (((hk_upgN h_g32 13 rfl)).trans (((hfr_g29 13 rfl)).trans (((hfr_g27 13 rfl)).trans (((h16 13 rfl)).trans (hk_upgN h_g5 13 rfl))))))
                have e_g53_55 : g53 55 = (g 55) := ((h58 55 rfl)).trans (((h44 55 rfl)).trans (((hk_upgN h_g32 55 rfl)).trans (((hfr_g29 55 rfl)).trans (((hfr_g27 55 rfl)).trans (((h16 55 rfl)).trans (hk_upgN h_g5 55 rfl))))))
                have e_g53_52 : g53 52 = (g 52) := ((h58 52 rfl)).trans (((h44 52 rfl)).trans (((hk_upgN h_g32 52 rfl)).trans (((hfr_g29 52 rfl)).trans (((hfr_g27 52 rfl)).trans (((h16 52 rfl)).trans (hk_upgN h_g5 52 rfl))))))
                have e_g53_24 : g53 24 = (g 24) := ((h58 24 rfl)).trans (((h44 24 rfl)).trans (((hk_upgN h_g32 24 rfl)).trans (((hfr_g29 24 rfl)).trans (((hfr_g27 24 rfl)).trans (((h16 24 rfl)).trans (hk_upgN h_g5 24 rfl))))))
                have e_g53_25 : g53 25 = (g 25) := ((h58 25 rfl)).trans (((h44 25 rfl)).trans (((hk_upgN h_g32 25 rfl)).trans (((hfr_g29 25 rfl)).trans (((hfr_g27 25 rfl)).trans (((h16 25 rfl)).trans (hk_upgN h_g5 25 rfl))))))
                have e_g53_26 : g53 26 = (g 26) := ((h58 26 rfl)).trans (((h44 26 rfl)).trans (((hk_upgN h_g32 26 rfl)).trans (((hfr_g29 26 rfl)).trans (((hfr_g27 26 rfl)).trans (((h16 26 rfl)).trans (hk_upgN h_g5 26 rfl))))))
                have e_g53_27 : g53 27 = (g 27) := ((h58 27 rfl)).trans (((h44 27 rfl)).trans (((hk_upgN h_g32 27 rfl)).trans (((hfr_g29 27 rfl)).trans (((hfr_g27 27 rfl)).trans (((h16 27 rfl)).trans (hk_upgN h_g5 27 rfl))))))
                have e_g53_58 : g53 58 = (g11 58) := ((h58 58 rfl)).trans (((h44 58 rfl)).trans (((hk_upgN h_g32 58 rfl)).trans (((hfr_g29 58 rfl)).trans (hfr_g27 58 rfl))))
                have e_g53_17 : g53 17 = (g 17) := ((h58 17 rfl)).trans (((h44 17 rfl)).trans (((hk_upgN h_g32 17 rfl)).trans (((hfr_g29 17 rfl)).trans (((hfr_g27 17 rfl)).trans (((h16 17 rfl)).trans (hk_upgN h_g5 17 rfl))))))
                have e_g53_23 : g53 23 = (g 23) := ((h58 23 rfl)).trans (((h44 23 rfl)).trans (((hk_upgN h_g32 23 rfl)).trans (((hfr_g29 23 rfl)).trans (((hfr_g27 23 rfl)).trans (((h16 23 rfl)).trans (hk_upgN h_g5 23 rfl))))))
                have e_g53_15 : g53 15 = (g 15) := ((h58 15 rfl)).trans (((h44 15 rfl)).trans (((hk_upgN h_g32 15 rfl)).trans (((hfr_g29 15 rfl)).trans (((hfr_g27 15 rfl)).trans (((h16 15 rfl)).trans (hk_upgN h_g5 15 rfl))))))
                exact kr g53 l12 a13 bk _ _ _ _ ⟨(hk_frT (hk_frT (hk_frG (hk_frT (hk_frT (hk_frT (hk_frG hk_fr0 (by decide) h_g5) (by decide) h16) (by decide) hfr_g27) (by decide) hfr_g29) (by decide) h_g32) (by decide) h44) (by decide) h58), (hk_frT hk_fr0 (by decide) h17), (hk_frT hk_fr0 (by decide) h18), rfl, (om552 ((g 49).toInt) ((g53 49).toInt) ((g29 49).toInt) ((g39 49).toInt) hf_B28_0 h62 (congrArg Int32.toInt e_g39_49)), (om648 ((g 51).toInt) ((g53 51).toInt) (((0 : Int32)).toInt) hr4 (hE_nle cc66) (by decide)), (om668 ((g53 20).toInt) ((g53 49).toInt) ((g39 49).toInt) ((g 20).toInt) ((g 49).toInt) ((g29 49).toInt) h62 (congrArg Int32.toInt e_g53_20) hr2 (congrArg Int32.toInt e_g39_49) hf_B28_0), (om650 ((g53 51).toInt) ((g53 18).toInt) ((g53 13).toInt) ((g53 55).toInt) (((0 : Int32)).toInt) (hE_nle cc66) (by decide)), (om669 ((g53 49).toInt) ((g39 49).toInt) ((g29 49).toInt) ((g 49).toInt) ((g 20).toInt) h62 h64 (congrArg Int32.toInt e_g39_49) hf_B28_0 hr2 hi_g20), (om203 ((g53 51).toInt) (((0 : Int32)).toInt) h65 (hE_nle cc66) (by decide)), (om141 ((g53 52).toInt) ((g 52).toInt) (congrArg Int32.toInt e_g53_52) hi_g52), (om416 ((g53 55).toInt) ((g 55).toInt) (congrArg Int32.toInt e_g53_55) hr5), (om632 ((g53 20).toInt) ((g 20).toInt) ((g 49).toInt) (congrArg Int32.toInt e_g53_20) hr2 hi_g20 hi_g49), (om162 ((g53 24).toInt) ((g 24).toInt) (congrArg Int32.toInt e_g53_24) hi_g24), (om162 ((g53 25).toInt) ((g 25).toInt) (congrArg Int32.toInt e_g53_25) hi_g25), (om162 ((g53 26).toInt) ((g 26).toInt) (congrArg Int32.toInt e_g53_26) hi_g26), (om162 ((g53 27).toInt) ((g 27).toInt) (congrArg Int32.toInt e_g53_27) hi_g27), (om39 ((g53 58).toInt) ((g11 58).toInt) (congrArg Int32.toInt e_g53_58) h24), h25, (om141 ((g53 17).toInt) ((g 17).toInt) (congrArg Int32.toInt e_g53_17) hi_g17), (hk_pE (P := hk_rg 0 255) hi_a6rg (h18 6 rfl)), (om333 ((g53 23).toInt) ((g 23).toInt) (congrArg Int32.toInt e_g53_23) hi_g23), (om89 ((g53 15).toInt) ((g 15).toInt) (congrArg Int32.toInt e_g53_15) hi_g15), (om141 ((g53 13).toInt) ((g 13).toInt) (congrArg Int32.toInt e_g53_13) hi_g13), (hk_pE (P := hk_rg 0 255) hi_a1rg (h18 1 rfl)), (hk_pE (P := hk_rg 0 20000) hi_a12rg (h18 12 rfl)), (hk_pE (P := hk_rg 0 20000) hi_a13rg (h18 13 rfl)), (hk_pE (P := hk_rg 0 20000) hi_a14rg (h18 14 rfl))⟩ hw dX12_openBlock_119
            · have e_g32_49 : g32 49 = (g29 49) := (hk_upgN h_g32 49 rfl)
              have e_g32_20 : g32 20 = (g 20) := ((hk_upgN h_g32 20 rfl)).trans (((hfr_g29 20 rfl)).trans (((hfr_g27 20 rfl)).trans (((h16 20 rfl)).trans (hk_upgN h_g5 20 rfl))))
              have e_g32_18 : g32 18 = (g 18) := ((hk_upgN h_g32 18 rfl)).trans (((hfr_g29 18 rfl)).trans (((hfr_g27 18 rfl)).trans (((h16 18 rfl)).trans (hk_upgN h_g5 18 rfl))))
              have e_g32_13 : g32 13 = (g 13) := ((hk_upgN h_g32 13 rfl)).trans (((hfr_g29 13 rfl)).trans (((hfr_g27 13 rfl)).trans (((h16 13 rfl)).trans (hk_upgN h_g5 13 rfl))))
              have e_g32_55 : g32 55 = (g 55) := ((hk_upgN h_g32 55 rfl)).trans (((hfr_g29 55 rfl)).trans (((hfr_g27 55 rfl)).trans (((h16 55 rfl)).trans (hk_upgN h_g5 55 rfl))))
              have e_g32_52 : g32 52 = (g 52) := ((hk_upgN h_g32 52 rfl)).trans (((hfr_g29 52 rfl)).trans (((hfr_g27 52 rfl)).trans (((h16 52 rfl)).trans (hk_upgN h_g5 52 rfl))))
              have e_g32_24 : g32 24 = (g 24) := ((hk_upgN h_g32 24 rfl)).trans (((hfr_g29 24 rfl)).trans (((hfr_g27 24 rfl)).trans (((h16 24 rfl)).trans (hk_upgN h_g5 24 rfl))))
              have e_g32_25 : g32 25 = (g 25) := ((hk_upgN h_g32 25 rfl)).trans (((hfr_g29 25 rfl)).trans (((hfr_g27 25 rfl)).trans (((h16 25 rfl)).trans (hk_upgN h_g5 25 rfl))))
              have e_g32_26 : g32 26 = (g 26) := ((hk_upgN h_g32 26 rfl)).trans (((hfr_g29 26 rfl)).trans (((hfr_g27 26 rfl)).trans (((h16 26 rfl)).trans (hk_upgN h_g5 26 rfl))))
              have e_g32_27 : g32 27 = (g 27) := ((hk_upgN h_g32 27 rfl)).trans (((hfr_g29 27 rfl)).trans (((hfr_g27 27 rfl)).trans (((h16 27 rfl)).trans (hk_upgN h_g5 27 rfl))))
              have e_g32_58 : g32 58 = (g11 58) := ((hk_upgN h_g32 58 rfl)).trans (((hfr_g29 58 rfl)).trans (hfr_g27 58 rfl))
              have e_g32_17 : g32 17 = (g 17) := ((hk_upgN h_g32 17 rfl)).trans (((hfr_g29 17 rfl)).trans (((hfr_g27 17 rfl)).trans (((h16 17 rfl)).trans (hk_upgN h_g5 17 rfl))))
              have e_g32_23 : g32 23 = (g 23) := ((hk_upgN h_g32 23 rfl)).trans (((hfr_g29 23 rfl)).trans (((hfr_g27 23 rfl)).trans (((h16 23 rfl)).trans (hk_upgN h_g5 23 rfl))))
              have e_g32_15 : g32 15 = (g 15) := ((hk_upgN h_g32 15 rfl)).trans (((hfr_g29 15 rfl)).trans (((hfr_g27 15 rfl)).trans (((h16 15 rfl)).trans (hk_upgN h_g5 15 rfl))))
              exact kr g32 l12 a13 bk _ _ _ _ ⟨(hk_frG (hk_frT (hk_frT (hk_frT (hk_frG hk_fr0 (by decide) h_g5) (by decide) h16) (by decide) hfr_g27) (by decide) hfr_g29) (by decide) h_g32), (hk_frT hk_fr0 (by decide) h17), (hk_frT hk_fr0 (by decide) h18), rfl, (om212 ((g 49).toInt) ((g32 49).toInt) ((g29 49).toInt) hf_B28_0 (congrArg Int32.toInt e_g32_49)), (om670 ((g 51).toInt) ((g32 51).toInt) ((g29 51).toInt) (((0 : Int32)).toInt) hr4 (congrArg Int32.toInt e_g32_51) (hE_nle cc33) (by decide)), (om649 ((g32 20).toInt) ((g32 49).toInt) ((g29 49).toInt) ((g 20).toInt) ((g 49).toInt) (congrArg Int32.toInt e_g32_49) (congrArg Int32.toInt e_g32_20) hr2 hf_B28_0), (om671 ((g32 51).toInt) ((g32 18).toInt) ((g32 13).toInt) ((g32 55).toInt) ((g29 51).toInt) (((0 : Int32)).toInt) (congrArg Int32.toInt e_g32_51) (hE_nle cc33) (by decide)), (om621 ((g32 49).toInt) ((g29 49).toInt) ((g 49).toInt) ((g 20).toInt) (congrArg Int32.toInt e_g32_49) hf_B28_0 hf_B28_2 hr2 hi_g20), (om550 ((g32 51).toInt) ((g29 51).toInt) (((0 : Int32)).toInt) (congrArg Int32.toInt e_g32_51) hf_B28_3 (hE_nle cc33) (by decide)), (om141 ((g32 52).toInt) ((g 52).toInt) (congrArg Int32.toInt e_g32_52) hi_g52), (om416 ((g32 55).toInt) ((g 55).toInt) (congrArg Int32.toInt e_g32_55) hr5), (om632 ((g32 20).toInt) ((g 20).toInt) ((g 49).toInt) (congrArg Int32.toInt e_g32_20) hr2 hi_g20 hi_g49), (om162 ((g32 24).toInt) ((g 24).toInt) (congrArg Int32.toInt e_g32_24) hi_g24), (om162 ((g32 25).toInt) ((g 25).toInt) (congrArg Int32.toInt e_g32_25) hi_g25), (om162 ((g32 26).toInt) ((g 26).toInt) (congrArg Int32.toInt e_g32_26) hi_g26), (om162 ((g32 27).toInt) ((g 27).toInt) (congrArg Int32.toInt e_g32_27) hi_g27), (om39 ((g32 58).toInt) ((g11 58).toInt) (congrArg Int32.toInt e_g32_58) h24), h25, (om141 ((g32 17).toInt) ((g 17).toInt) (congrArg Int32.toInt e_g32_17) hi_g17), (hk_pE (P := hk_rg 0 255) hi_a6rg (h18 6 rfl)), (om333 ((g32 23).toInt) ((g 23).toInt) (congrArg Int32.toInt e_g32_23) hi_g23), (om89 ((g32 15).toInt) ((g 15).toInt) (congrArg Int32.toInt e_g32_15) hi_g15), (om141 ((g32 13).toInt) ((g 13).toInt) (congrArg Int32.toInt e_g32_13) hi_g13), (hk_pE (P := hk_rg 0 255) hi_a1rg (h18 1 rfl)), (hk_pE (P := hk_rg 0 20000) hi_a12rg (h18 12 rfl)), (hk_pE (P := hk_rg 0 20000) hi_a13rg (h18 13 rfl)), (hk_pE (P := hk_rg 0 20000) hi_a14rg (h18 14 rfl))⟩ hw dX12_openBlock_100
          refine lv_if_ne (tgt := 87) hx hb dX12_openBlock_65 (by decide) (fun cc402 => ?_) (fun cc402 => ?_)
          · exact B31 ls _ _ (om672 ((g29 51).toInt) ((z2).toInt) ((g29 49).toInt) (((0 : Int32)).toInt) (hE_ne cc402) (by decide)) hw (lv_sub hl [0, 1, 2, 3, 4] rfl)
          · refine lv_aload_n hx hb dX12_openBlock_68 rfl (lv_at hl 0 rfl) ?_
            refine hk_get (ci := 15) (C := RX12) (T := TX12) (N := 92) (v := .int (g29 49)) hx hb hts (fun _ h => List.mem_cons_of_mem _ (wwMc_wsX120 _ h)) hown hw 0 rfl rfl 76 (by decide) (hq _ wM_92) rfl dX12_openBlock_69 ?_
            refine lv_iload hx hb dX12_openBlock_72 (lv_at hl 4 rfl) ?_
            refine lv_icmp_ge (tgt := 87) hx hb dX12_openBlock_74 (by decide) (fun cc403 => ?_) (fun cc403 => ?_)
            · exact B31 ls _ _ (om673 ((g29 51).toInt) ((z2).toInt) ((g29 49).toInt) (hE_le cc403)) hw (lv_sub hl [0, 1, 2, 3, 4] rfl)
            · refine lv_aload_n hx hb dX12_openBlock_77 rfl (lv_at hl 0 rfl) ?_
              refine lv_iconst (v := 0) hx hb dX12_openBlock_78 (by decide) ?_
              refine lv_bipush (v := 8) hx hb dX12_openBlock_79 (by decide) ?_
              have e_g29_12 : g29 12 = (g 12) := ((hfr_g29 12 rfl)).trans (((hfr_g27 12 rfl)).trans (((h16 12 rfl)).trans e_g5_12))
              refine jx_Vv (As := [.int 0, .int 8]) (rest := []) ⟨hx, hb, hml, hown, hts⟩ hZ hw hA (jm_X12_wantByte l hlt D t3 cI cJ ad g29 l12 a13 bk _ 0 8 (om604 (((8 : Int32)).toInt) (by decide)) (om652 ((g29 49).toInt) ((g 49).toInt) ((g 20).toInt) hf_B28_0 hf_B28_2 hr2 hi_g20) (om215 ((g29 51).toInt) (((0 : Int32)).toInt) hf_B28_3 (hE_eq cc402) (by decide)) (om21 ((g29 12).toInt) ((g 12).toInt) (congrArg Int32.toInt e_g29_12) hi_g12) (hk_pE (P := hk_rg 0 255) hi_a0rg (h18 0 rfl))) (cwV 2 hts (jx_gV wwM_good wM_278 wM_279 wM_280 wM_8 wM_281) rfl rfl rfl (by decide +kernel) ⟨Nat.le_of_ble_eq_true rfl, Nat.le_of_ble_eq_true rfl⟩) 0 (ci := 15) (T := TX12) (N := 92) rfl rfl rfl hl.1 rfl (Nat.le_of_ble_eq_true rfl) dX12_openBlock_81 ⟨Nat.le_of_ble_eq_true rfl, Nat.le_of_ble_eq_true rfl⟩ (fun _ _ _ _ _ _ _ _ hp _ _ _ _ => hp.elim) (fun g409 l410 a411 b412 H locs hp413 hw => ?_)
              obtain ⟨h414, rfl, rfl, rfl, h418, h419, h420, h421, h422⟩ := hp413
              refine lv_goto (tgt := 61) hx hb dX12_openBlock_84 (by decide) ?_
              exact ih_B28 g409 ls _ _ (om662 ((g409 49).toInt) ((g409 51).toInt) (k30 : Int) ((g29 49).toInt) ((g29 51).toInt) (((0 : Int32)).toInt) hrk_B28 h418 h420 h422 hf_B28_3 (hE_eq cc402) (by decide)) (om209 ((g 49).toInt) ((g409 49).toInt) ((g29 49).toInt) hf_B28_0 h418) (om498 ((g 51).toInt) ((g409 51).toInt) hr4) (om653 ((g409 49).toInt) ((g29 49).toInt) ((g 49).toInt) ((g 20).toInt) h418 h421 hf_B28_0 hr2 hi_g20) (om206 ((g409 51).toInt) h422) (hk_frT hfr_g29 (by decide) h414) hw (lv_sub hl [0, 1, 2, 3, 4] rfl)
      have e_g27_49 : g27 49 = (g11 49) := (hfr_g27 49 rfl)
      exact B28 (20 * (1502 - (g27 49).toInt) - (g27 51).toInt).toNat g27 ls _ _ (Int.self_le_toNat _) (om420 ((g 49).toInt) ((g27 49).toInt) ((g5 49).toInt) ((g11 49).toInt) (congrArg Int32.toInt e_g5_49) (congrArg Int32.toInt e_g27_49) h20) (om498 ((g 51).toInt) ((g27 51).toInt) hr4) (om674 ((g27 49).toInt) ((g11 49).toInt) ((g5 49).toInt) ((g 49).toInt) ((g 20).toInt) (congrArg Int32.toInt e_g27_49) h20 h22 (congrArg Int32.toInt e_g5_49) hr2 hi_g20) (om206 ((g27 51).toInt) hf_B26_1) hk_fr0 hw (lv_sub hl [0, 1, 2, 3, 4] rfl)
    refine lv_icmp_ne (tgt := 61) hx hb dX12_openBlock_43 (by decide) (fun cc423 => ?_) (fun cc423 => ?_)
    · exact B26 g11 ls _ _ (om498 ((g 51).toInt) ((g11 51).toInt) hr4) (om206 ((g11 51).toInt) h23) hk_fr0 hw (lv_sub hl [0, 1, 2, 4, 5] rfl)
    · refine lv_aload_n hx hb dX12_openBlock_46 rfl (lv_at hl 0 rfl) ?_
      refine hk_get (ci := 15) (C := RX12) (T := TX12) (N := 92) (v := .int (g11 49)) hx hb hts (fun _ h => List.mem_cons_of_mem _ (wwMc_wsX120 _ h)) hown hw 0 rfl rfl 76 (by decide) (hq _ wM_92) rfl dX12_openBlock_47 ?_
      refine lv_iload hx hb dX12_openBlock_50 (lv_at hl 5 rfl) ?_
      refine lv_icmp_lt (tgt := 61) hx hb dX12_openBlock_52 (by decide) (fun cc424 => ?_) (fun cc424 => ?_)
      · exact B26 g11 ls _ _ (om675 ((g 51).toInt) ((g11 51).toInt) (((1 : Int32)).toInt) hr4 (hE_eq cc423) (by decide)) (om676 ((g11 51).toInt) (((1 : Int32)).toInt) (hE_eq cc423) (by decide)) hk_fr0 hw (lv_sub hl [0, 1, 2, 4, 5] rfl)
      · refine lv_aload_n hx hb dX12_openBlock_55 rfl (lv_at hl 0 rfl) ?_
        refine lv_bipush (v := 8) hx hb dX12_openBlock_56 (by decide) ?_
        refine jx_putg mw (cI := cI) (cJ := cJ) (ad := ad) (g := g11) (lg := l12) (ar := a13) (bk := bk) (x := 8) 51 (ci := 15) (C := RX12) (T := TX12) (N := 92) (ty := .int) hx hb hts (fun _ h => List.mem_cons_of_mem _ (wwMc_wsX120 _ h)) tyX12 tyX12_ok nmX12 hown hw 0 rfl rfl 78 (by decide) (hq _ wM_63) rfl (by decide +kernel) rfl rfl (Nat.le_of_ble_eq_true rfl) dX12_openBlock_58 rfl (fun H locs g425 h_g425 hw => ?_)
        have e_g425_51 : g425 51 = (8 : Int32) := (hk_upgS h_g425)
        exact B26 g425 ls _ _ (om677 ((g 51).toInt) ((g425 51).toInt) (((8 : Int32)).toInt) hr4 (congrArg Int32.toInt e_g425_51) (by decide)) (om678 ((g425 51).toInt) (((8 : Int32)).toInt) (congrArg Int32.toInt e_g425_51) (by decide)) (hk_frG hk_fr0 (by decide) h_g425) hw (lv_sub hl [0, 1, 2, 4, 5] rfl)
  refine lv_icmp_ge (tgt := 26) hx hb dX12_openBlock_18 (by decide) (fun cc426 => ?_) (fun cc426 => ?_)
  · refine lv_iload hx hb dX12_openBlock_26 (lv_at hl 1 rfl) ?_
    exact B3 (g 50) ls _ _ hw (lv_sub hl [2, 3, 4, 5, 1, 0] rfl)
  · refine lv_iload hx hb dX12_openBlock_21 (lv_at hl 0 rfl) ?_
    refine lv_goto (tgt := 28) hx hb dX12_openBlock_23 (by decide) ?_
    exact B3 z2 ls _ _ hw (lv_sub hl [2, 3, 4, 5, 1, 0] rfl)

set_option maxHeartbeats 4000000 in
set_option maxRecDepth 100000 in
/-- X12_openIndex on (0,) -/
theorem jm_X12_openIndex (l : Launch) (hlt : l.stackTraces = false) (D : va_G) (t3 : Nat × Nat × Nat) (cI cJ : ClassId) (ad : Nat → Nat) (g : Nat → Int32) (lg : Nat → Int64) (ar : Nat → Nat → Int32) (bk : Nat → Int64) (sz : Nat) (y1 : Int32) (hr0 : 0 ≤ (y1).toInt) (hi_g49 : 0 ≤ (g 49).toInt ∧ (g 49).toInt ≤ 1500) (hi_g51 : 0 ≤ (g 51).toInt ∧ (g 51).toInt ≤ 15) (hi_g20 : 0 ≤ (g 20).toInt ∧ (g 20).toInt ≤ 3001) (hi_g12 : 0 ≤ (g 12).toInt ∧ (g 12).toInt ≤ 1500) (hi_a0rg : hk_rg 0 255 (ar 0)) : JMv l yX12_openIndex (Cond.code yX12_openIndex cX12_openIndex 9 none :: wwM) { frames := 4, cells := 0, slots := 0, locals := 90 } t3 D mw cI cJ ad [.ref (ad 0), .int y1] (mw cI cJ ad g lg ar bk) sz 0 0 (fun g' lg' ar' bk' => hk_fr [14, 49, 51] g g' ∧ lg = lg' ∧ ar = ar' ∧ bk = bk' ∧ ((g 49).toInt ≤ (g' 49).toInt) ∧ ((1 ≤ (g 51).toInt → 1 ≤ (g' 51).toInt)) ∧ (0 ≤ (g' 49).toInt ∧ (g' 49).toInt ≤ 1500) ∧ (0 ≤ (g' 51).toInt ∧ (g' 51).toInt ≤ 15)) (fun g' lg' ar' bk' => False) := by
  refine jx_metv (cc := cX12_openIndex) (maxL := 9) (ret := none) rfl (by decide) rfl (Nat.le_of_ble_eq_true rfl) ?_
  intro p e s m args below meth c ls Q A hx hb hml hown hts hA hZ hw hl hQ kr kt
  have hq : ∀ w ∈ wwM, w.before args s = true := fun w h => hts w (List.mem_cons_of_mem _ h)
  have hl : lv_has ls 9 [(0, .ref (ad 0)), (1, .int y1)] := hl
  refine lv_aload_n hx hb dX12_openIndex_0 rfl (lv_at hl 0 rfl) ?_
  refine lv_aload_n hx hb dX12_openIndex_1 rfl (lv_at hl 0 rfl) ?_
  refine hk_get (ci := 15) (C := RX12) (T := TX12) (N := 92) (v := .int (g 20)) hx hb hts (fun _ h => List.mem_cons_of_mem _ (wwMc_wsX120 _ h)) hown hw 0 rfl rfl 33 (by decide) (hq _ wM_104) rfl dX12_openIndex_2 ?_
  refine lv_i2l hx hb dX12_openIndex_5 rfl (jx_nl fun z1 hz1 => ?_)
  refine jx_Vv (As := [.long z1]) (rest := []) ⟨hx, hb, hml, hown, hts⟩ hZ hw hA (jm_X12_wantV l hlt D t3 cI cJ ad g lg ar bk _ z1 (om202 ((g 49).toInt) hi_g49) (om206 ((g 51).toInt) hi_g51) (om202 ((g 12).toInt) hi_g12) hi_a0rg) (cwV 1 hts (jx_gV wwM_good wM_334 wM_335 wM_336 wM_8 wM_337) rfl rfl rfl (by decide +kernel) ⟨Nat.le_of_ble_eq_true rfl, Nat.le_of_ble_eq_true rfl⟩) 0 (ci := 15) (T := TX12) (N := 92) rfl rfl rfl hl.1 rfl (Nat.le_of_ble_eq_true rfl) dX12_openIndex_6 ⟨Nat.le_of_ble_eq_true rfl, Nat.le_of_ble_eq_true rfl⟩ (fun _ _ _ _ _ _ _ _ hp _ _ _ _ => hp.elim) (fun g7 l8 a9 b10 H locs hp11 hw => ?_)
  obtain ⟨h12, rfl, rfl, rfl, h16, h17, h18, h19⟩ := hp11
  refine lv_iconst (v := 0) hx hb dX12_openIndex_9 (by decide) ?_
  refine lv_istore_n (lv' := [(2, .int 0), (0, .ref (ad 0)), (1, .int y1)]) hx hb dX12_openIndex_10 rfl hl (by decide) rfl (fun ls hl => ?_)
  have B20 : ∀ (k23 : Nat) (x21 : Int32) (g22 : Nat → Int32) (ls : Array Slot) (H : Heap) (locs : List Loc), (2147483648 - (x21).toInt ≤ (k23 : Int)) → (0 ≤ (x21).toInt) → ((g 49).toInt ≤ (g22 49).toInt) → (1 ≤ (g 51).toInt → 1 ≤ (g22 51).toInt) → (0 ≤ (g22 49).toInt ∧ (g22 49).toInt ≤ 1500) → (0 ≤ (g22 51).toInt ∧ (g22 51).toInt ≤ 15) → (hk_fr [49, 51] g7 g22) → hk_W D (jT cI cJ) A s H locs (mw cI cJ ad g22 lg ar bk) → lv_has ls 9 [(0, .ref (ad 0)), (1, .int y1), (2, .int x21)] → W p l e { frames := 4, cells := 0, slots := 0, locals := 90 } s m args below meth c H locs 0 0 Q (F0 m 11 ls []) := by
    intro k23
    induction k23 with
    | zero =>
      intro x21 g22 ls H locs hrk_B20 hf_B20_0 hf_B20_1 hf_B20_2 hf_B20_3 hf_B20_4 hfr_g22 hw hl
      exact False.elim (hk_no0 (0 * (x21).toInt) (om30 ((x21).toInt) hrk_B20 (hE_rng (x21))) (by simp))
    | succ k23 ih_B20 =>
      intro x21 g22 ls H locs hrk_B20 hf_B20_0 hf_B20_1 hf_B20_2 hf_B20_3 hf_B20_4 hfr_g22 hw hl
      have hrk_B20 := hk_rk hrk_B20
      refine lv_iload_n hx hb dX12_openIndex_11 rfl (lv_at hl 2 rfl) ?_
      refine lv_aload_n hx hb dX12_openIndex_12 rfl (lv_at hl 0 rfl) ?_
      have e_g22_20 : g22 20 = (g 20) := ((hfr_g22 20 rfl)).trans (h12 20 rfl)
      refine hk_get (ci := 15) (C := RX12) (T := TX12) (N := 92) (v := .int (g 20)) hx hb hts (fun _ h => List.mem_cons_of_mem _ (wwMc_wsX120 _ h)) hown hw 0 rfl rfl 33 (by decide) (hq _ wM_104) (congrArg (fun z => some (Value.int z)) e_g22_20) dX12_openIndex_13 ?_
      have B24 : ∀  (ls : Array Slot) (H : Heap) (locs : List Loc), hk_W D (jT cI cJ) A s H locs (mw cI cJ ad g22 lg ar bk) → lv_has ls 9 [(0, .ref (ad 0)), (1, .int y1)] → W p l e { frames := 4, cells := 0, slots := 0, locals := 90 } s m args below meth c H locs 0 0 Q (F0 m 69 ls []) := by
        intro ls H locs hw hl
        have B25 : ∀ (k27 : Nat) (g26 : Nat → Int32) (ls : Array Slot) (H : Heap) (locs : List Loc), (20 * (1502 - (g26 49).toInt) - (g26 51).toInt ≤ (k27 : Int)) → ((g 49).toInt ≤ (g26 49).toInt) → (1 ≤ (g 51).toInt → 1 ≤ (g26 51).toInt) → (0 ≤ (g26 49).toInt ∧ (g26 49).toInt ≤ 1500) → (0 ≤ (g26 51).toInt ∧ (g26 51).toInt ≤ 15) → (hk_fr [49, 51] g22 g26) → hk_W D (jT cI cJ) A s H locs (mw cI cJ ad g26 lg ar bk) → lv_has ls 9 [(0, .ref (ad 0)), (1, .int y1)] → W p l e { frames := 4, cells := 0, slots := 0, locals := 90 } s m args below meth c H locs 0 0 Q (F0 m 69 ls []) := by
          intro k27
          induction k27 with
          | zero =>
            intro g26 ls H locs hrk_B25 hf_B25_0 hf_B25_1 hf_B25_2 hf_B25_3 hfr_g26 hw hl
            exact False.elim (hk_no0 (0 * (g26 49).toInt + 0 * (g26 51).toInt) (om218 ((g26 49).toInt) ((g26 51).toInt) hf_B25_2 hf_B25_3 hrk_B25) (by simp))
          | succ k27 ih_B25 =>
            intro g26 ls H locs hrk_B25 hf_B25_0 hf_B25_1 hf_B25_2 hf_B25_3 hfr_g26 hw hl
            have hrk_B25 := hk_rk hrk_B25
            refine lv_aload_n hx hb dX12_openIndex_69 rfl (lv_at hl 0 rfl) ?_
            refine hk_get (ci := 15) (C := RX12) (T := TX12) (N := 92) (v := .int (g26 51)) hx hb hts (fun _ h => List.mem_cons_of_mem _ (wwMc_wsX120 _ h)) hown hw 0 rfl rfl 78 (by decide) (hq _ wM_63) rfl dX12_openIndex_70 ?_
            have B28 : ∀  (ls : Array Slot) (H : Heap) (locs : List Loc), hk_W D (jT cI cJ) A s H locs (mw cI cJ ad g26 lg ar bk) → lv_has ls 9 [(0, .ref (ad 0)), (1, .int y1)] → W p l e { frames := 4, cells := 0, slots := 0, locals := 90 } s m args below meth c H locs 0 0 Q (F0 m 97 ls []) := by
              intro ls H locs hw hl
              refine lv_aload_n hx hb dX12_openIndex_97 rfl (lv_at hl 0 rfl) ?_
              refine hk_get (ci := 15) (C := RX12) (T := TX12) (N := 92) (v := .int (g26 51)) hx hb hts (fun _ h => List.mem_cons_of_mem _ (wwMc_wsX120 _ h)) hown hw 0 rfl rfl 78 (by decide) (hq _ wM_63) rfl dX12_openIndex_98 ?_
              refine lv_if_le (tgt := 105) hx hb dX12_openIndex_101 (by decide) (fun cc29 => ?_) (fun cc29 => ?_)
              · refine lv_aload_n hx hb dX12_openIndex_105 rfl (lv_at hl 0 rfl) ?_
                refine lv_aload_n hx hb dX12_openIndex_106 rfl (lv_at hl 0 rfl) ?_
                refine lv_iload_n hx hb dX12_openIndex_107 rfl (lv_at hl 1 rfl) ?_
                refine lv_aload_n hx hb dX12_openIndex_108 rfl (lv_at hl 0 rfl) ?_
                refine hk_get (ci := 15) (C := RX12) (T := TX12) (N := 92) (v := .int (g26 49)) hx hb hts (fun _ h => List.mem_cons_of_mem _ (wwMc_wsX120 _ h)) hown hw 0 rfl rfl 76 (by decide) (hq _ wM_92) rfl dX12_openIndex_109 ?_
                refine jx_Vi (As := [.int y1, .int (g26 49)]) (rest := [.ref (ad 0)]) ⟨hx, hb, hml, hown, hts⟩ hZ hw hA (jm_X12_sum l hlt D t3 cI cJ ad g26 lg ar bk _ y1 (g26 49) (om4 ((y1).toInt) hr0) (om679 ((g26 49).toInt) hf_B25_2)) (cwV 2 hts (jx_gV wwM_good wM_282 wM_283 wM_284 wM_8 wM_285) rfl rfl rfl (by decide +kernel) ⟨Nat.le_of_ble_eq_true rfl, Nat.le_of_ble_eq_true rfl⟩) 0 (ci := 15) (T := TX12) (N := 92) rfl rfl rfl hl.1 rfl (Nat.le_of_ble_eq_true rfl) dX12_openIndex_112 ⟨Nat.le_of_ble_eq_true rfl, Nat.le_of_ble_eq_true rfl⟩ (fun _ _ _ _ _ _ _ _ hp _ _ _ _ => hp.elim) (fun r34 g35 l36 a37 b38 H locs hp39 hw => ?_)
                obtain ⟨h40, rfl, rfl, rfl⟩ := hp39
                have e_g35_49 : g35 49 = (g26 49) := (h40 49 rfl)
                have e_g35_51 : g35 51 = (g26 51) := (h40 51 rfl)
                have e_g35_12 : g35 12 = (g 12) := ((h40 12 rfl)).trans (((hfr_g26 12 rfl)).trans (((hfr_g22 12 rfl)).trans (h12 12 rfl)))
                refine jx_Vv (As := [.int r34]) (rest := []) ⟨hx, hb, hml, hown, hts⟩ hZ hw hA (jm_X12_wantSum l hlt D t3 cI cJ ad g35 lg ar bk _ r34 (om21 ((g35 49).toInt) ((g26 49).toInt) (congrArg Int32.toInt e_g35_49) hf_B25_2) (om200 ((g35 51).toInt) ((g26 51).toInt) (((0 : Int32)).toInt) (congrArg Int32.toInt e_g35_51) hf_B25_3 (hE_le cc29) (by decide)) (om21 ((g35 12).toInt) ((g 12).toInt) (congrArg Int32.toInt e_g35_12) hi_g12) hi_a0rg) (cwV 1 hts (jx_gV wwM_good wM_286 wM_287 wM_288 wM_8 wM_289) rfl rfl rfl (by decide +kernel) ⟨Nat.le_of_ble_eq_true rfl, Nat.le_of_ble_eq_true rfl⟩) 0 (ci := 15) (T := TX12) (N := 92) rfl rfl rfl hl.1 rfl (Nat.le_of_ble_eq_true rfl) dX12_openIndex_115 ⟨Nat.le_of_ble_eq_true rfl, Nat.le_of_ble_eq_true rfl⟩ (fun _ _ _ _ _ _ _ _ hp _ _ _ _ => hp.elim) (fun g49 l50 a51 b52 H locs hp53 hw => ?_)
                obtain ⟨h54, rfl, rfl, rfl, h58, h59, h60, h61⟩ := hp53
                have e_g35_49 : g35 49 = (g26 49) := (h40 49 rfl)
                have e_g35_51 : g35 51 = (g26 51) := (h40 51 rfl)
                refine lv_aload_n hx hb dX12_openIndex_118 rfl (lv_at hl 0 rfl) ?_
                refine hk_get (ci := 15) (C := RX12) (T := TX12) (N := 92) (v := .int (g49 51)) hx hb hts (fun _ h => List.mem_cons_of_mem _ (wwMc_wsX120 _ h)) hown hw 0 rfl rfl 78 (by decide) (hq _ wM_63) rfl dX12_openIndex_119 ?_
                refine lv_if_le (tgt := 126) hx hb dX12_openIndex_122 (by decide) (fun cc62 => ?_) (fun cc62 => ?_)
                · refine lv_aload_n hx hb dX12_openIndex_126 rfl (lv_at hl 0 rfl) ?_
                  refine hk_get (ci := 15) (C := RX12) (T := TX12) (N := 92) (v := .int (g49 49)) hx hb hts (fun _ h => List.mem_cons_of_mem _ (wwMc_wsX120 _ h)) hown hw 0 rfl rfl 76 (by decide) (hq _ wM_92) rfl dX12_openIndex_127 ?_
                  refine lv_iload_n hx hb dX12_openIndex_130 rfl (lv_at hl 1 rfl) ?_
                  refine lv_isub hx hb dX12_openIndex_131 (jx_nm fun z63 hz63 => ?_)
                  have xz63 : (z63).toInt = (g49 49).toInt - (y1).toInt := (hE_imp (hE_sub hz63) (om680 ((g49 49).toInt) ((y1).toInt) hr0 h60 (hE_rng (y1))))
                  refine lv_iconst (v := 4) hx hb dX12_openIndex_132 (by decide) ?_
                  refine lv_idiv hx hb dX12_openIndex_133 (by decide) (jx_nm fun z64 hz64 => ?_)
                  refine lv_iconst (v := 1) hx hb dX12_openIndex_134 (by decide) ?_
                  refine lv_isub hx hb dX12_openIndex_135 (jx_nm fun z65 hz65 => ?_)
                  refine lv_istore_n (lv' := [(2, .int z65), (0, .ref (ad 0)), (1, .int y1)]) hx hb dX12_openIndex_136 rfl hl (by decide) rfl (fun ls hl => ?_)
                  refine lv_aload_n hx hb dX12_openIndex_137 rfl (lv_at hl 1 rfl) ?_
                  refine lv_iconst (v := 4) hx hb dX12_openIndex_138 (by decide) ?_
                  have e_g49_12 : g49 12 = (g 12) := ((h54 12 rfl)).trans e_g35_12
                  refine jx_Vl (As := [.int 4]) (rest := []) ⟨hx, hb, hml, hown, hts⟩ hZ hw hA (jm_X12_nextWide l hlt D t3 cI cJ ad g49 lg ar bk _ 4 (om493 (((4 : Int32)).toInt) (by decide)) (om202 ((g49 49).toInt) h60) (om189 ((g49 51).toInt) (((0 : Int32)).toInt) h61 (hE_le cc62) (by decide)) (om21 ((g49 12).toInt) ((g 12).toInt) (congrArg Int32.toInt e_g49_12) hi_g12) hi_a0rg) (cwV 1 hts (jx_gV wwM_good wM_338 wM_339 wM_340 wM_8 wM_341) rfl rfl rfl (by decide +kernel) ⟨Nat.le_of_ble_eq_true rfl, Nat.le_of_ble_eq_true rfl⟩) 0 (ci := 15) (T := TX12) (N := 92) rfl rfl rfl hl.1 rfl (Nat.le_of_ble_eq_true rfl) dX12_openIndex_139 ⟨Nat.le_of_ble_eq_true rfl, Nat.le_of_ble_eq_true rfl⟩ (fun _ _ _ _ _ _ _ _ hp _ _ _ _ => hp.elim) (fun r70 g71 l72 a73 b74 H locs hp75 hw => ?_)
                  obtain ⟨h76, rfl, rfl, rfl, h80, h81, h82, h83⟩ := hp75
                  refine lv_l2i hx hb dX12_openIndex_142 rfl (jx_nm fun z84 hz84 => ?_)
                  refine lv_istore_n (lv' := [(3, .int z84), (2, .int z65), (0, .ref (ad 0)), (1, .int y1)]) hx hb dX12_openIndex_143 rfl hl (by decide) rfl (fun ls hl => ?_)
                  refine lv_aload_n hx hb dX12_openIndex_144 rfl (lv_at hl 2 rfl) ?_
                  refine hk_get (ci := 15) (C := RX12) (T := TX12) (N := 92) (v := .int (g71 49)) hx hb hts (fun _ h => List.mem_cons_of_mem _ (wwMc_wsX120 _ h)) hown hw 0 rfl rfl 76 (by decide) (hq _ wM_92) rfl dX12_openIndex_145 ?_
                  refine lv_istore (lv' := [(4, .int (g71 49)), (3, .int z84), (2, .int z65), (0, .ref (ad 0)), (1, .int y1)]) hx hb dX12_openIndex_148 hl (by decide) rfl (fun ls hl => ?_)
                  refine lv_aload_n hx hb dX12_openIndex_150 rfl (lv_at hl 3 rfl) ?_
                  refine lv_iconst (v := 4) hx hb dX12_openIndex_151 (by decide) ?_
                  have e_g71_12 : g71 12 = (g 12) := ((h76 12 rfl)).trans e_g49_12
                  refine jx_Vl (As := [.int 4]) (rest := []) ⟨hx, hb, hml, hown, hts⟩ hZ hw hA (jm_X12_nextWide l hlt D t3 cI cJ ad g71 lg ar bk _ 4 (om493 (((4 : Int32)).toInt) (by decide)) (om202 ((g71 49).toInt) h82) (om206 ((g71 51).toInt) h83) (om21 ((g71 12).toInt) ((g 12).toInt) (congrArg Int32.toInt e_g71_12) hi_g12) hi_a0rg) (cwV 1 hts (jx_gV wwM_good wM_338 wM_339 wM_340 wM_8 wM_341) rfl rfl rfl (by decide +kernel) ⟨Nat.le_of_ble_eq_true rfl, Nat.le_of_ble_eq_true rfl⟩) 0 (ci := 15) (T := TX12) (N := 92) rfl rfl rfl hl.1 rfl (Nat.le_of_ble_eq_true rfl) dX12_openIndex_152 ⟨Nat.le_of_ble_eq_true rfl, Nat.le_of_ble_eq_true rfl⟩ (fun _ _ _ _ _ _ _ _ hp _ _ _ _ => hp.elim) (fun r89 g90 l91 a92 b93 H locs hp94 hw => ?_)
                  obtain ⟨h95, rfl, rfl, rfl, h99, h100, h101, h102⟩ := hp94
                  refine lv_lstore (lv' := [(5, .long r89), (4, .int (g71 49)), (3, .int z84), (2, .int z65), (0, .ref (ad 0)), (1, .int y1)]) hx hb dX12_openIndex_155 hl (by decide) rfl (fun ls hl => ?_)
                  refine lv_aload_n hx hb dX12_openIndex_157 rfl (lv_at hl 4 rfl) ?_
                  have e_g90_12 : g90 12 = (g 12) := ((h95 12 rfl)).trans e_g71_12
                  refine jx_Vi (As := []) (rest := []) ⟨hx, hb, hml, hown, hts⟩ hZ hw hA (jm_X12_next l hlt D t3 cI cJ ad g90 lg ar bk _ (om202 ((g90 49).toInt) h101) (om206 ((g90 51).toInt) h102) (om21 ((g90 12).toInt) ((g 12).toInt) (congrArg Int32.toInt e_g90_12) hi_g12) hi_a0rg) (cwV 0 hts (jx_gV wwM_good wM_59 wM_60 wM_61 wM_8 wM_62) rfl rfl rfl (by decide +kernel) ⟨Nat.le_of_ble_eq_true rfl, Nat.le_of_ble_eq_true rfl⟩) 0 (ci := 15) (T := TX12) (N := 92) rfl rfl rfl hl.1 rfl (Nat.le_of_ble_eq_true rfl) dX12_openIndex_158 ⟨Nat.le_of_ble_eq_true rfl, Nat.le_of_ble_eq_true rfl⟩ (fun _ _ _ _ _ _ _ _ hp _ _ _ _ => hp.elim) (fun r107 g108 l109 a110 b111 H locs hp112 hw => ?_)
                  obtain ⟨h113, rfl, rfl, rfl, h117, h118, h119, h120, h121⟩ := hp112
                  refine lv_istore (lv' := [(7, .int r107), (5, .long r89), (4, .int (g71 49)), (3, .int z84), (2, .int z65), (0, .ref (ad 0)), (1, .int y1)]) hx hb dX12_openIndex_161 hl (by decide) rfl (fun ls hl => ?_)
                  refine lv_aload_n hx hb dX12_openIndex_163 rfl (lv_at hl 5 rfl) ?_
                  have e_g108_12 : g108 12 = (g 12) := ((h113 12 rfl)).trans e_g90_12
                  refine jx_Vi (As := []) (rest := []) ⟨hx, hb, hml, hown, hts⟩ hZ hw hA (jm_X12_next l hlt D t3 cI cJ ad g108 lg ar bk _ (om202 ((g108 49).toInt) h120) (om206 ((g108 51).toInt) h121) (om21 ((g108 12).toInt) ((g 12).toInt) (congrArg Int32.toInt e_g108_12) hi_g12) hi_a0rg) (cwV 0 hts (jx_gV wwM_good wM_59 wM_60 wM_61 wM_8 wM_62) rfl rfl rfl (by decide +kernel) ⟨Nat.le_of_ble_eq_true rfl, Nat.le_of_ble_eq_true rfl⟩) 0 (ci := 15) (T := TX12) (N := 92) rfl rfl rfl hl.1 rfl (Nat.le_of_ble_eq_true rfl) dX12_openIndex_164 ⟨Nat.le_of_ble_eq_true rfl, Nat.le_of_ble_eq_true rfl⟩ (fun _ _ _ _ _ _ _ _ hp _ _ _ _ => hp.elim) (fun r126 g127 l128 a129 b130 H locs hp131 hw => ?_)
                  obtain ⟨h132, rfl, rfl, rfl, h136, h137, h138, h139, h140⟩ := hp131
                  refine lv_istore (lv' := [(8, .int r126), (7, .int r107), (5, .long r89), (4, .int (g71 49)), (3, .int z84), (2, .int z65), (0, .ref (ad 0)), (1, .int y1)]) hx hb dX12_openIndex_167 hl (by decide) rfl (fun ls hl => ?_)
                  refine lv_aload_n hx hb dX12_openIndex_169 rfl (lv_at hl 6 rfl) ?_
                  refine hk_get (ci := 15) (C := RX12) (T := TX12) (N := 92) (v := .int (g127 51)) hx hb hts (fun _ h => List.mem_cons_of_mem _ (wwMc_wsX120 _ h)) hown hw 0 rfl rfl 78 (by decide) (hq _ wM_63) rfl dX12_openIndex_170 ?_
                  have B141 : ∀  (g142 : Nat → Int32) (ls : Array Slot) (H : Heap) (locs : List Loc), (1 ≤ (g 51).toInt → 1 ≤ (g142 51).toInt) → (0 ≤ (g142 51).toInt ∧ (g142 51).toInt ≤ 15) → (hk_fr [14, 51] g127 g142) → hk_W D (jT cI cJ) A s H locs (mw cI cJ ad g142 lg ar bk) → lv_has ls 9 [(0, .ref (ad 0)), (2, .int z65), (5, .long r89), (7, .int r107), (8, .int r126)] → W p l e { frames := 4, cells := 0, slots := 0, locals := 90 } s m args below meth c H locs 0 0 Q (F0 m 196 ls []) := by
                    intro g142 ls H locs hf_B141_0 hf_B141_1 hfr_g142 hw hl
                    refine lv_aload_n hx hb dX12_openIndex_196 rfl (lv_at hl 0 rfl) ?_
                    refine hk_get (ci := 15) (C := RX12) (T := TX12) (N := 92) (v := .int (g142 51)) hx hb hts (fun _ h => List.mem_cons_of_mem _ (wwMc_wsX120 _ h)) hown hw 0 rfl rfl 78 (by decide) (hq _ wM_63) rfl dX12_openIndex_197 ?_
                    have B143 : ∀  (g144 : Nat → Int32) (ls : Array Slot) (H : Heap) (locs : List Loc), (1 ≤ (g 51).toInt → 1 ≤ (g144 51).toInt) → (0 ≤ (g144 51).toInt ∧ (g144 51).toInt ≤ 15) → (hk_fr [51] g142 g144) → hk_W D (jT cI cJ) A s H locs (mw cI cJ ad g144 lg ar bk) → lv_has ls 9 [(0, .ref (ad 0))] → W p l e { frames := 4, cells := 0, slots := 0, locals := 90 } s m args below meth c H locs 0 0 Q (F0 m 231 ls []) := by
                      intro g144 ls H locs hf_B143_0 hf_B143_1 hfr_g144 hw hl
                      refine lv_aload_n hx hb dX12_openIndex_231 rfl (lv_at hl 0 rfl) ?_
                      refine lv_bipush (v := 89) hx hb dX12_openIndex_232 (by decide) ?_
                      refine lv_bipush (v := 11) hx hb dX12_openIndex_234 (by decide) ?_
                      have e_g144_49 : g144 49 = (g127 49) := ((hfr_g144 49 rfl)).trans (hfr_g142 49 rfl)
                      have e_g144_12 : g144 12 = (g 12) := ((hfr_g144 12 rfl)).trans (((hfr_g142 12 rfl)).trans (((h132 12 rfl)).trans e_g108_12))
                      refine jx_Vv (As := [.int 89, .int 11]) (rest := []) ⟨hx, hb, hml, hown, hts⟩ hZ hw hA (jm_X12_wantByte l hlt D t3 cI cJ ad g144 lg ar bk _ 89 11 (om602 (((11 : Int32)).toInt) (by decide)) (om21 ((g144 49).toInt) ((g127 49).toInt) (congrArg Int32.toInt e_g144_49) h139) (om206 ((g144 51).toInt) hf_B143_1) (om21 ((g144 12).toInt) ((g 12).toInt) (congrArg Int32.toInt e_g144_12) hi_g12) hi_a0rg) (cwV 2 hts (jx_gV wwM_good wM_278 wM_279 wM_280 wM_8 wM_281) rfl rfl rfl (by decide +kernel) ⟨Nat.le_of_ble_eq_true rfl, Nat.le_of_ble_eq_true rfl⟩) 0 (ci := 15) (T := TX12) (N := 92) rfl rfl rfl hl.1 rfl (Nat.le_of_ble_eq_true rfl) dX12_openIndex_236 ⟨Nat.le_of_ble_eq_true rfl, Nat.le_of_ble_eq_true rfl⟩ (fun _ _ _ _ _ _ _ _ hp _ _ _ _ => hp.elim) (fun g150 l151 a152 b153 H locs hp154 hw => ?_)
                      obtain ⟨h155, rfl, rfl, rfl, h159, h160, h161, h162, h163⟩ := hp154
                      have e_g144_49 : g144 49 = (g127 49) := ((hfr_g144 49 rfl)).trans (hfr_g142 49 rfl)
                      refine lv_aload_n hx hb dX12_openIndex_239 rfl (lv_at hl 0 rfl) ?_
                      refine lv_bipush (v := 90) hx hb dX12_openIndex_240 (by decide) ?_
                      refine lv_bipush (v := 11) hx hb dX12_openIndex_242 (by decide) ?_
                      have e_g150_12 : g150 12 = (g 12) := ((h155 12 rfl)).trans e_g144_12
                      refine jx_Vv (As := [.int 90, .int 11]) (rest := []) ⟨hx, hb, hml, hown, hts⟩ hZ hw hA (jm_X12_wantByte l hlt D t3 cI cJ ad g150 lg ar bk _ 90 11 (om602 (((11 : Int32)).toInt) (by decide)) (om202 ((g150 49).toInt) h162) (om206 ((g150 51).toInt) h163) (om21 ((g150 12).toInt) ((g 12).toInt) (congrArg Int32.toInt e_g150_12) hi_g12) hi_a0rg) (cwV 2 hts (jx_gV wwM_good wM_278 wM_279 wM_280 wM_8 wM_281) rfl rfl rfl (by decide +kernel) ⟨Nat.le_of_ble_eq_true rfl, Nat.le_of_ble_eq_true rfl⟩) 0 (ci := 15) (T := TX12) (N := 92) rfl rfl rfl hl.1 rfl (Nat.le_of_ble_eq_true rfl) dX12_openIndex_244 ⟨Nat.le_of_ble_eq_true rfl, Nat.le_of_ble_eq_true rfl⟩ (fun _ _ _ _ _ _ _ _ hp _ _ _ _ => hp.elim) (fun g169 l170 a171 b172 H locs hp173 hw => ?_)
                      obtain ⟨h174, rfl, rfl, rfl, h178, h179, h180, h181, h182⟩ := hp173
                      exact kr g169 lg ar bk _ _ _ _ ⟨(hk_frT (hk_frT (hk_frT (hk_frT (hk_frT (hk_frT (hk_frT (hk_frT (hk_frT (hk_frT (hk_frT (hk_frT (hk_frT hk_fr0 (by decide) h12) (by decide) hfr_g22) (by decide) hfr_g26) (by decide) h40) (by decide) h54) (by decide) h76) (by decide) h95) (by decide) h113) (by decide) h132) (by decide) hfr_g142) (by decide) hfr_g144) (by decide) h155) (by decide) h174), rfl, rfl, rfl, (om681 ((g 49).toInt) ((g169 49).toInt) ((g26 49).toInt) ((g150 49).toInt) ((g35 49).toInt) ((g144 49).toInt) ((g49 49).toInt) ((g127 49).toInt) ((g71 49).toInt) ((g108 49).toInt) ((g90 49).toInt) hf_B25_0 h178 (congrArg Int32.toInt e_g35_49) h159 h58 (congrArg Int32.toInt e_g144_49) h80 h138 h99 h119), (om541 ((g 51).toInt) ((g169 51).toInt) ((g26 51).toInt) (((0 : Int32)).toInt) hf_B25_1 (hE_le cc29) (by decide)), (om202 ((g169 49).toInt) h181), (om206 ((g169 51).toInt) h182)⟩ hw dX12_openIndex_247
                    refine lv_if_ne (tgt := 231) hx hb dX12_openIndex_200 (by decide) (fun cc183 => ?_) (fun cc183 => ?_)
                    · exact B143 g142 ls _ _ (om551 ((g 51).toInt) ((g142 51).toInt) ((g26 51).toInt) (((0 : Int32)).toInt) hf_B25_1 (hE_le cc29) (by decide)) (om185 ((g142 51).toInt) (((0 : Int32)).toInt) hf_B141_1 (hE_ne cc183) (by decide)) hk_fr0 hw (lv_sub hl [0] rfl)
                    · refine lv_lload hx hb dX12_openIndex_203 (lv_at hl 2 rfl) ?_
                      refine lv_iload_n hx hb dX12_openIndex_205 rfl (lv_at hl 1 rfl) ?_
                      refine lv_i2l hx hb dX12_openIndex_206 rfl (jx_nl fun z184 hz184 => ?_)
                      have B185 : ∀  (ls : Array Slot) (H : Heap) (locs : List Loc), hk_W D (jT cI cJ) A s H locs (mw cI cJ ad g142 lg ar bk) → lv_has ls 9 [(0, .ref (ad 0))] → W p l e { frames := 4, cells := 0, slots := 0, locals := 90 } s m args below meth c H locs 0 0 Q (F0 m 225 ls []) := by
                        intro ls H locs hw hl
                        refine lv_aload_n hx hb dX12_openIndex_225 rfl (lv_at hl 0 rfl) ?_
                        refine lv_bipush (v := 11) hx hb dX12_openIndex_226 (by decide) ?_
                        refine jx_Vv (As := [.int 11]) (rest := []) ⟨hx, hb, hml, hown, hts⟩ hZ hw hA (jm_X12_fail l hlt D t3 cI cJ ad g142 lg ar bk _ 11 (om602 (((11 : Int32)).toInt) (by decide)) (om215 ((g142 51).toInt) (((0 : Int32)).toInt) hf_B141_1 (hE_eq cc183) (by decide))) (cwV 1 hts (jx_gV wwM_good wM_64 wM_65 wM_66 wM_8 wM_67) rfl rfl rfl (by decide +kernel) ⟨Nat.le_of_ble_eq_true rfl, Nat.le_of_ble_eq_true rfl⟩) 0 (ci := 15) (T := TX12) (N := 92) rfl rfl rfl hl.1 rfl (Nat.le_of_ble_eq_true rfl) dX12_openIndex_228 ⟨Nat.le_of_ble_eq_true rfl, Nat.le_of_ble_eq_true rfl⟩ (fun _ _ _ _ _ _ _ _ hp _ _ _ _ => hp.elim) (fun g191 l192 a193 b194 H locs hp195 hw => ?_)
                        obtain ⟨h196, rfl, rfl, rfl, h200, h201⟩ := hp195
                        exact B143 g191 ls _ _ (om217 ((g 51).toInt) ((g191 51).toInt) h200) (om193 ((g191 51).toInt) h200 h201) h196 hw (lv_sub hl [0] rfl)
                      refine hk_lcmp_ne (tgt := 225) hx hb dX12_openIndex_207 dX12_openIndex_208 (by decide) (fun cc202 => ?_) (fun cc202 => ?_)
                      · exact B185 ls _ _ hw (lv_sub hl [0] rfl)
                      · refine lv_iload hx hb dX12_openIndex_211 (lv_at hl 3 rfl) ?_
                        refine lv_if_ne (tgt := 225) hx hb dX12_openIndex_213 (by decide) (fun cc203 => ?_) (fun cc203 => ?_)
                        · exact B185 ls _ _ hw (lv_sub hl [0] rfl)
                        · refine lv_iload hx hb dX12_openIndex_216 (lv_at hl 4 rfl) ?_
                          refine lv_aload_n hx hb dX12_openIndex_218 rfl (lv_at hl 0 rfl) ?_
                          have e_g142_57 : g142 57 = (g 57) := ((hfr_g142 57 rfl)).trans (((h132 57 rfl)).trans (((h113 57 rfl)).trans (((h95 57 rfl)).trans (((h76 57 rfl)).trans (((h54 57 rfl)).trans (((h40 57 rfl)).trans (((hfr_g26 57 rfl)).trans (((hfr_g22 57 rfl)).trans (h12 57 rfl)))))))))
                          refine hk_get (ci := 15) (C := RX12) (T := TX12) (N := 92) (v := .int (g 57)) hx hb hts (fun _ h => List.mem_cons_of_mem _ (wwMc_wsX120 _ h)) hown hw 0 rfl rfl 86 (by decide) (hq _ wM_303) (congrArg (fun z => some (Value.int z)) e_g142_57) dX12_openIndex_219 ?_
                          refine lv_icmp_eq (tgt := 231) hx hb dX12_openIndex_222 (by decide) (fun cc204 => ?_) (fun cc204 => ?_)
                          · exact B143 g142 ls _ _ (om551 ((g 51).toInt) ((g142 51).toInt) ((g26 51).toInt) (((0 : Int32)).toInt) hf_B25_1 (hE_le cc29) (by decide)) (om215 ((g142 51).toInt) (((0 : Int32)).toInt) hf_B141_1 (hE_eq cc183) (by decide)) hk_fr0 hw (lv_sub hl [0] rfl)
                          · exact B185 ls _ _ hw (lv_sub hl [0] rfl)
                  refine lv_if_ne (tgt := 196) hx hb dX12_openIndex_173 (by decide) (fun cc205 => ?_) (fun cc205 => ?_)
                  · exact B141 g127 ls _ _ (om551 ((g 51).toInt) ((g127 51).toInt) ((g26 51).toInt) (((0 : Int32)).toInt) hf_B25_1 (hE_le cc29) (by decide)) (om185 ((g127 51).toInt) (((0 : Int32)).toInt) h140 (hE_ne cc205) (by decide)) hk_fr0 hw (lv_sub hl [6, 5, 2, 1, 0] rfl)
                  · refine lv_aload_n hx hb dX12_openIndex_176 rfl (lv_at hl 6 rfl) ?_
                    refine lv_iload hx hb dX12_openIndex_177 (lv_at hl 3 rfl) ?_
                    refine lv_aload_n hx hb dX12_openIndex_179 rfl (lv_at hl 6 rfl) ?_
                    refine hk_get (ci := 15) (C := RX12) (T := TX12) (N := 92) (v := .int (g127 49)) hx hb hts (fun _ h => List.mem_cons_of_mem _ (wwMc_wsX120 _ h)) hown hw 0 rfl rfl 76 (by decide) (hq _ wM_92) rfl dX12_openIndex_180 ?_
                    refine jx_Vi (As := [.int (g71 49), .int (g127 49)]) (rest := []) ⟨hx, hb, hml, hown, hts⟩ hZ hw hA (jm_X12_sum l hlt D t3 cI cJ ad g127 lg ar bk _ (g71 49) (g127 49) (om682 ((g71 49).toInt) h82) (om679 ((g127 49).toInt) h139)) (cwV 2 hts (jx_gV wwM_good wM_282 wM_283 wM_284 wM_8 wM_285) rfl rfl rfl (by decide +kernel) ⟨Nat.le_of_ble_eq_true rfl, Nat.le_of_ble_eq_true rfl⟩) 0 (ci := 15) (T := TX12) (N := 92) rfl rfl rfl hl.1 rfl (Nat.le_of_ble_eq_true rfl) dX12_openIndex_183 ⟨Nat.le_of_ble_eq_true rfl, Nat.le_of_ble_eq_true rfl⟩ (fun _ _ _ _ _ _ _ _ hp _ _ _ _ => hp.elim) (fun r210 g211 l212 a213 b214 H locs hp215 hw => ?_)
                    obtain ⟨h216, rfl, rfl, rfl⟩ := hp215
                    refine lv_iload_n hx hb dX12_openIndex_186 rfl (lv_at hl 4 rfl) ?_
                    refine lv_icmp_eq (tgt := 196) hx hb dX12_openIndex_187 (by decide) (fun cc220 => ?_) (fun cc220 => ?_)
                    · have e_g211_51 : g211 51 = (g127 51) := (h216 51 rfl)
                      exact B141 g211 ls _ _ (om551 ((g 51).toInt) ((g211 51).toInt) ((g26 51).toInt) (((0 : Int32)).toInt) hf_B25_1 (hE_le cc29) (by decide)) (om614 ((g211 51).toInt) ((g127 51).toInt) (((0 : Int32)).toInt) (congrArg Int32.toInt e_g211_51) h140 (hE_eq cc205) (by decide)) (hk_frT hk_fr0 (by decide) h216) hw (lv_sub hl [6, 5, 2, 1, 0] rfl)
                    · refine lv_aload_n hx hb dX12_openIndex_190 rfl (lv_at hl 6 rfl) ?_
                      refine lv_bipush (v := 9) hx hb dX12_openIndex_191 (by decide) ?_
                      have e_g211_51 : g211 51 = (g127 51) := (h216 51 rfl)
                      refine jx_Vv (As := [.int 9]) (rest := []) ⟨hx, hb, hml, hown, hts⟩ hZ hw hA (jm_X12_fail l hlt D t3 cI cJ ad g211 lg ar bk _ 9 (om596 (((9 : Int32)).toInt) (by decide)) (om614 ((g211 51).toInt) ((g127 51).toInt) (((0 : Int32)).toInt) (congrArg Int32.toInt e_g211_51) h140 (hE_eq cc205) (by decide))) (cwV 1 hts (jx_gV wwM_good wM_64 wM_65 wM_66 wM_8 wM_67) rfl rfl rfl (by decide +kernel) ⟨Nat.le_of_ble_eq_true rfl, Nat.le_of_ble_eq_true rfl⟩) 0 (ci := 15) (T := TX12) (N := 92) rfl rfl rfl hl.1 rfl (Nat.le_of_ble_eq_true rfl) dX12_openIndex_193 ⟨Nat.le_of_ble_eq_true rfl, Nat.le_of_ble_eq_true rfl⟩ (fun _ _ _ _ _ _ _ _ hp _ _ _ _ => hp.elim) (fun g226 l227 a228 b229 H locs hp230 hw => ?_)
                      obtain ⟨h231, rfl, rfl, rfl, h235, h236⟩ := hp230
                      exact B141 g226 ls _ _ (om217 ((g 51).toInt) ((g226 51).toInt) h235) (om193 ((g226 51).toInt) h235 h236) (hk_frT (hk_frT hk_fr0 (by decide) h216) (by decide) h231) hw (lv_sub hl [6, 5, 2, 1, 0] rfl)
                · exact kr g49 lg ar bk _ _ _ _ ⟨(hk_frT (hk_frT (hk_frT (hk_frT (hk_frT hk_fr0 (by decide) h12) (by decide) hfr_g22) (by decide) hfr_g26) (by decide) h40) (by decide) h54), rfl, rfl, rfl, (om552 ((g 49).toInt) ((g49 49).toInt) ((g26 49).toInt) ((g35 49).toInt) hf_B25_0 h58 (congrArg Int32.toInt e_g35_49)), (om346 ((g 51).toInt) ((g49 51).toInt) (((0 : Int32)).toInt) (hE_nle cc62) (by decide)), (om202 ((g49 49).toInt) h60), (om203 ((g49 51).toInt) (((0 : Int32)).toInt) h61 (hE_nle cc62) (by decide))⟩ hw dX12_openIndex_125
              · exact kr g26 lg ar bk _ _ _ _ ⟨(hk_frT (hk_frT (hk_frT hk_fr0 (by decide) h12) (by decide) hfr_g22) (by decide) hfr_g26), rfl, rfl, rfl, (om204 ((g 49).toInt) ((g26 49).toInt) hf_B25_0), (om346 ((g 51).toInt) ((g26 51).toInt) (((0 : Int32)).toInt) (hE_nle cc29) (by decide)), (om202 ((g26 49).toInt) hf_B25_2), (om203 ((g26 51).toInt) (((0 : Int32)).toInt) hf_B25_3 (hE_nle cc29) (by decide))⟩ hw dX12_openIndex_104
            refine lv_if_ne (tgt := 97) hx hb dX12_openIndex_73 (by decide) (fun cc237 => ?_) (fun cc237 => ?_)
            · exact B28 ls _ _ hw (lv_sub hl [0, 1] rfl)
            · refine lv_aload_n hx hb dX12_openIndex_76 rfl (lv_at hl 0 rfl) ?_
              refine hk_get (ci := 15) (C := RX12) (T := TX12) (N := 92) (v := .int (g26 49)) hx hb hts (fun _ h => List.mem_cons_of_mem _ (wwMc_wsX120 _ h)) hown hw 0 rfl rfl 76 (by decide) (hq _ wM_92) rfl dX12_openIndex_77 ?_
              refine lv_iload_n hx hb dX12_openIndex_80 rfl (lv_at hl 1 rfl) ?_
              refine lv_isub hx hb dX12_openIndex_81 (jx_nm fun z238 hz238 => ?_)
              have xz238 : (z238).toInt = (g26 49).toInt - (y1).toInt := (hE_imp (hE_sub hz238) (om680 ((g26 49).toInt) ((y1).toInt) hr0 hf_B25_2 (hE_rng (y1))))
              refine lv_iconst (v := 4) hx hb dX12_openIndex_82 (by decide) ?_
              refine lv_irem hx hb dX12_openIndex_83 (by decide) (jx_nm fun z239 hz239 => ?_)
              refine lv_if_eq (tgt := 97) hx hb dX12_openIndex_84 (by decide) (fun cc240 => ?_) (fun cc240 => ?_)
              · exact B28 ls _ _ hw (lv_sub hl [0, 1] rfl)
              · refine lv_aload_n hx hb dX12_openIndex_87 rfl (lv_at hl 0 rfl) ?_
                refine lv_iconst (v := 0) hx hb dX12_openIndex_88 (by decide) ?_
                refine lv_bipush (v := 11) hx hb dX12_openIndex_89 (by decide) ?_
                have e_g26_12 : g26 12 = (g 12) := ((hfr_g26 12 rfl)).trans (((hfr_g22 12 rfl)).trans (h12 12 rfl))
                refine jx_Vv (As := [.int 0, .int 11]) (rest := []) ⟨hx, hb, hml, hown, hts⟩ hZ hw hA (jm_X12_wantByte l hlt D t3 cI cJ ad g26 lg ar bk _ 0 11 (om602 (((11 : Int32)).toInt) (by decide)) (om202 ((g26 49).toInt) hf_B25_2) (om215 ((g26 51).toInt) (((0 : Int32)).toInt) hf_B25_3 (hE_eq cc237) (by decide)) (om21 ((g26 12).toInt) ((g 12).toInt) (congrArg Int32.toInt e_g26_12) hi_g12) hi_a0rg) (cwV 2 hts (jx_gV wwM_good wM_278 wM_279 wM_280 wM_8 wM_281) rfl rfl rfl (by decide +kernel) ⟨Nat.le_of_ble_eq_true rfl, Nat.le_of_ble_eq_true rfl⟩) 0 (ci := 15) (T := TX12) (N := 92) rfl rfl rfl hl.1 rfl (Nat.le_of_ble_eq_true rfl) dX12_openIndex_91 ⟨Nat.le_of_ble_eq_true rfl, Nat.le_of_ble_eq_true rfl⟩ (fun _ _ _ _ _ _ _ _ hp _ _ _ _ => hp.elim) (fun g246 l247 a248 b249 H locs hp250 hw => ?_)
                obtain ⟨h251, rfl, rfl, rfl, h255, h256, h257, h258, h259⟩ := hp250
                refine lv_goto (tgt := 69) hx hb dX12_openIndex_94 (by decide) ?_
                exact ih_B25 g246 ls _ _ (om662 ((g246 49).toInt) ((g246 51).toInt) (k27 : Int) ((g26 49).toInt) ((g26 51).toInt) (((0 : Int32)).toInt) hrk_B25 h255 h257 h259 hf_B25_3 (hE_eq cc237) (by decide)) (om209 ((g 49).toInt) ((g246 49).toInt) ((g26 49).toInt) hf_B25_0 h255) (om220 ((g 51).toInt) ((g246 51).toInt) ((g26 51).toInt) (((0 : Int32)).toInt) hf_B25_1 (hE_eq cc237) (by decide)) (om202 ((g246 49).toInt) h258) (om206 ((g246 51).toInt) h259) (hk_frT hfr_g26 (by decide) h251) hw (lv_sub hl [0, 1] rfl)
        exact B25 (20 * (1502 - (g22 49).toInt) - (g22 51).toInt).toNat g22 ls _ _ (Int.self_le_toNat _) (om204 ((g 49).toInt) ((g22 49).toInt) hf_B20_1) (om213 ((g 51).toInt) ((g22 51).toInt) hf_B20_2) (om202 ((g22 49).toInt) hf_B20_3) (om206 ((g22 51).toInt) hf_B20_4) hk_fr0 hw (lv_sub hl [0, 1] rfl)
      refine lv_icmp_ge (tgt := 69) hx hb dX12_openIndex_16 (by decide) (fun cc260 => ?_) (fun cc260 => ?_)
      · exact B24 ls _ _ hw (lv_sub hl [0, 1] rfl)
      · refine lv_aload_n hx hb dX12_openIndex_19 rfl (lv_at hl 0 rfl) ?_
        refine hk_get (ci := 15) (C := RX12) (T := TX12) (N := 92) (v := .int (g22 51)) hx hb hts (fun _ h => List.mem_cons_of_mem _ (wwMc_wsX120 _ h)) hown hw 0 rfl rfl 78 (by decide) (hq _ wM_63) rfl dX12_openIndex_20 ?_
        refine lv_if_ne (tgt := 69) hx hb dX12_openIndex_23 (by decide) (fun cc261 => ?_) (fun cc261 => ?_)
        · exact B24 ls _ _ hw (lv_sub hl [0, 1] rfl)
        · refine lv_aload_n hx hb dX12_openIndex_26 rfl (lv_at hl 0 rfl) ?_
          refine lv_aload_n hx hb dX12_openIndex_27 rfl (lv_at hl 0 rfl) ?_
          refine hk_get (ci := 15) (C := RX12) (T := TX12) (N := 92) (v := .ref (ad 13)) hx hb hts (fun _ h => List.mem_cons_of_mem _ (wwMc_wsX120 _ h)) hown hw 0 rfl rfl 35 (by decide) (hq _ wM_106) rfl dX12_openIndex_28 ?_
          refine lv_iload_n hx hb dX12_openIndex_31 rfl (lv_at hl 2 rfl) ?_
          refine jx_iald hx hb hw 13 0 rfl rfl (hE_in (n := 3001) (om683 ((x21).toInt) ((g 20).toInt) hf_B20_0 (hE_nle cc260) hi_g20)) dX12_openIndex_32 (fun z262 hz262 => ?_)
          refine lv_aload_n hx hb dX12_openIndex_33 rfl (lv_at hl 0 rfl) ?_
          refine hk_get (ci := 15) (C := RX12) (T := TX12) (N := 92) (v := .ref (ad 14)) hx hb hts (fun _ h => List.mem_cons_of_mem _ (wwMc_wsX120 _ h)) hown hw 0 rfl rfl 36 (by decide) (hq _ wM_107) rfl dX12_openIndex_34 ?_
          refine lv_iload_n hx hb dX12_openIndex_37 rfl (lv_at hl 2 rfl) ?_
          refine jx_iald hx hb hw 14 0 rfl rfl (hE_in (n := 3001) (om683 ((x21).toInt) ((g 20).toInt) hf_B20_0 (hE_nle cc260) hi_g20)) dX12_openIndex_38 (fun z263 hz263 => ?_)
          refine lv_iadd hx hb dX12_openIndex_39 (jx_nm fun z264 hz264 => ?_)
          refine lv_aload_n hx hb dX12_openIndex_40 rfl (lv_at hl 0 rfl) ?_
          have e_g22_57 : g22 57 = (g 57) := ((hfr_g22 57 rfl)).trans (h12 57 rfl)
          refine hk_get (ci := 15) (C := RX12) (T := TX12) (N := 92) (v := .int (g 57)) hx hb hts (fun _ h => List.mem_cons_of_mem _ (wwMc_wsX120 _ h)) hown hw 0 rfl rfl 86 (by decide) (hq _ wM_303) (congrArg (fun z => some (Value.int z)) e_g22_57) dX12_openIndex_41 ?_
          refine jx_Si (As := [.int (g 57)]) (rest := [.int z264, .ref (ad 0)]) ⟨hx, hb, hml, hown, hts⟩ hZ hw hA (jm_X12_checkSize l hlt D t3 cI cJ ad g22 lg ar bk _ (g 57)) (va_cwS 1 hts (jx_gS wwM_good wM_112 wM_113 wM_8 wM_114) rfl rfl rfl (by decide +kernel) ⟨Nat.le_of_ble_eq_true rfl, Nat.le_of_ble_eq_true rfl⟩) rfl hl.1 rfl (Nat.le_of_ble_eq_true rfl) dX12_openIndex_44 ⟨Nat.le_of_ble_eq_true rfl, Nat.le_of_ble_eq_true rfl⟩ (fun _ _ _ _ _ _ _ _ hp _ _ _ _ => hp.elim) (fun r269 g270 l271 a272 b273 H locs hp274 hw => ?_)
          obtain ⟨rfl, rfl, rfl, rfl, h279⟩ := hp274
          refine lv_iadd hx hb dX12_openIndex_47 (jx_nm fun z280 hz280 => ?_)
          refine lv_i2l hx hb dX12_openIndex_48 rfl (jx_nl fun z281 hz281 => ?_)
          have e_g22_12 : g22 12 = (g 12) := ((hfr_g22 12 rfl)).trans (h12 12 rfl)
          refine jx_Vv (As := [.long z281]) (rest := []) ⟨hx, hb, hml, hown, hts⟩ hZ hw hA (jm_X12_wantV l hlt D t3 cI cJ ad g22 lg ar bk _ z281 (om202 ((g22 49).toInt) hf_B20_3) (om215 ((g22 51).toInt) (((0 : Int32)).toInt) hf_B20_4 (hE_eq cc261) (by decide)) (om21 ((g22 12).toInt) ((g 12).toInt) (congrArg Int32.toInt e_g22_12) hi_g12) hi_a0rg) (cwV 1 hts (jx_gV wwM_good wM_334 wM_335 wM_336 wM_8 wM_337) rfl rfl rfl (by decide +kernel) ⟨Nat.le_of_ble_eq_true rfl, Nat.le_of_ble_eq_true rfl⟩) 0 (ci := 15) (T := TX12) (N := 92) rfl rfl rfl hl.1 rfl (Nat.le_of_ble_eq_true rfl) dX12_openIndex_49 ⟨Nat.le_of_ble_eq_true rfl, Nat.le_of_ble_eq_true rfl⟩ (fun _ _ _ _ _ _ _ _ hp _ _ _ _ => hp.elim) (fun g287 l288 a289 b290 H locs hp291 hw => ?_)
          obtain ⟨h292, rfl, rfl, rfl, h296, h297, h298, h299⟩ := hp291
          refine lv_aload_n hx hb dX12_openIndex_52 rfl (lv_at hl 0 rfl) ?_
          refine lv_aload_n hx hb dX12_openIndex_53 rfl (lv_at hl 0 rfl) ?_
          refine hk_get (ci := 15) (C := RX12) (T := TX12) (N := 92) (v := .ref (ad 15)) hx hb hts (fun _ h => List.mem_cons_of_mem _ (wwMc_wsX120 _ h)) hown hw 0 rfl rfl 37 (by decide) (hq _ wM_108) rfl dX12_openIndex_54 ?_
          refine lv_iload_n hx hb dX12_openIndex_57 rfl (lv_at hl 2 rfl) ?_
          refine jx_iald hx hb hw 15 0 rfl rfl (hE_in (n := 3001) (om683 ((x21).toInt) ((g 20).toInt) hf_B20_0 (hE_nle cc260) hi_g20)) dX12_openIndex_58 (fun z300 hz300 => ?_)
          refine lv_i2l hx hb dX12_openIndex_59 rfl (jx_nl fun z301 hz301 => ?_)
          have e_g287_12 : g287 12 = (g 12) := ((h292 12 rfl)).trans e_g22_12
          refine jx_Vv (As := [.long z301]) (rest := []) ⟨hx, hb, hml, hown, hts⟩ hZ hw hA (jm_X12_wantV l hlt D t3 cI cJ ad g287 lg ar bk _ z301 (om202 ((g287 49).toInt) h298) (om206 ((g287 51).toInt) h299) (om21 ((g287 12).toInt) ((g 12).toInt) (congrArg Int32.toInt e_g287_12) hi_g12) hi_a0rg) (cwV 1 hts (jx_gV wwM_good wM_334 wM_335 wM_336 wM_8 wM_337) rfl rfl rfl (by decide +kernel) ⟨Nat.le_of_ble_eq_true rfl, Nat.le_of_ble_eq_true rfl⟩) 0 (ci := 15) (T := TX12) (N := 92) rfl rfl rfl hl.1 rfl (Nat.le_of_ble_eq_true rfl) dX12_openIndex_60 ⟨Nat.le_of_ble_eq_true rfl, Nat.le_of_ble_eq_true rfl⟩ (fun _ _ _ _ _ _ _ _ hp _ _ _ _ => hp.elim) (fun g307 l308 a309 b310 H locs hp311 hw => ?_)
          obtain ⟨h312, rfl, rfl, rfl, h316, h317, h318, h319⟩ := hp311
          obtain ⟨z320, hz320⟩ : ∃ z : Int32, x21 + 1 = z := ⟨_, rfl⟩
          refine lv_iinc (v := z320) (lv' := [(2, .int z320), (0, .ref (ad 0)), (1, .int y1)]) hx hb dX12_openIndex_63 hl (k := 2) rfl hz320 (by decide) rfl (fun ls hl => ?_)
          have xz320 : (z320).toInt = (x21).toInt + ((1 : Int32)).toInt := (hE_imp (hE_add hz320) (om684 ((x21).toInt) (((1 : Int32)).toInt) ((g 20).toInt) hf_B20_0 (hE_nle cc260) hi_g20 (by decide)))
          refine lv_goto (tgt := 11) hx hb dX12_openIndex_66 (by decide) ?_
          exact ih_B20 z320 g307 ls _ _ (om11 ((z320).toInt) (k23 : Int) ((x21).toInt) (((1 : Int32)).toInt) hrk_B20 xz320 (by decide)) (om14 ((z320).toInt) ((x21).toInt) (((1 : Int32)).toInt) xz320 hf_B20_0 (by decide)) (om267 ((g 49).toInt) ((g307 49).toInt) ((g22 49).toInt) ((g287 49).toInt) hf_B20_1 h316 h296) (om220 ((g 51).toInt) ((g307 51).toInt) ((g22 51).toInt) (((0 : Int32)).toInt) hf_B20_2 (hE_eq cc261) (by decide)) (om202 ((g307 49).toInt) h318) (om206 ((g307 51).toInt) h319) (hk_frT (hk_frT hfr_g22 (by decide) h292) (by decide) h312) hw (lv_sub hl [1, 2, 0] rfl)
  exact B20 (2147483648 - ((0 : Int32)).toInt).toNat 0 g7 ls _ _ (Int.self_le_toNat _) (om18 (((0 : Int32)).toInt) (by decide)) (om204 ((g 49).toInt) ((g7 49).toInt) h16) (om307 ((g 51).toInt) ((g7 51).toInt) h17) (om202 ((g7 49).toInt) h18) (om206 ((g7 51).toInt) h19) hk_fr0 hw (lv_sub hl [1, 2, 0] rfl)

set_option maxHeartbeats 4000000 in
set_option maxRecDepth 100000 in
/-- X12_magic -/
theorem jm_X12_magic (l : Launch) (hlt : l.stackTraces = false) (D : va_G) (t3 : Nat × Nat × Nat) (cI cJ : ClassId) (ad : Nat → Nat) (g : Nat → Int32) (lg : Nat → Int64) (ar : Nat → Nat → Int32) (bk : Nat → Int64) (sz : Nat) (y0 : Int32) : JMi l yX12_magic (Cond.code yX12_magic cX12_magic 1 (some .int) :: wwM) { frames := 0, cells := 0, slots := 0, locals := 0 } t3 D mw cI cJ ad [.int y0] (mw cI cJ ad g lg ar bk) sz 0 0 (fun (r : Int32) g' lg' ar' bk' => g = g' ∧ lg = lg' ∧ ar = ar' ∧ bk = bk') (fun g' lg' ar' bk' => False) := by
  refine jx_meti (cc := cX12_magic) (maxL := 1) (ret := (some .int)) rfl (by decide) rfl (Nat.le_of_ble_eq_true rfl) ?_
  intro p e s m args below meth c ls Q A hx hb hml hown hts hA hZ hw hl hQ kr kt
  have hq : ∀ w ∈ wwM, w.before args s = true := fun w h => hts w (List.mem_cons_of_mem _ h)
  have hl : lv_has ls 1 [(0, .int y0)] := hl
  refine lv_iload_n hx hb dX12_magic_0 rfl (lv_at hl 0 rfl) ?_
  refine lv_if_ne (tgt := 10) hx hb dX12_magic_1 (by decide) (fun cc1 => ?_) (fun cc1 => ?_)
  · refine lv_iload_n hx hb dX12_magic_10 rfl (lv_at hl 0 rfl) ?_
    refine lv_iconst (v := 1) hx hb dX12_magic_11 (by decide) ?_
    refine lv_icmp_ne (tgt := 20) hx hb dX12_magic_12 (by decide) (fun cc2 => ?_) (fun cc2 => ?_)
    · refine lv_iload_n hx hb dX12_magic_20 rfl (lv_at hl 0 rfl) ?_
      refine lv_iconst (v := 2) hx hb dX12_magic_21 (by decide) ?_
      refine lv_icmp_ne (tgt := 30) hx hb dX12_magic_22 (by decide) (fun cc3 => ?_) (fun cc3 => ?_)
      · refine lv_iload_n hx hb dX12_magic_30 rfl (lv_at hl 0 rfl) ?_
        refine lv_iconst (v := 3) hx hb dX12_magic_31 (by decide) ?_
        refine lv_icmp_ne (tgt := 40) hx hb dX12_magic_32 (by decide) (fun cc4 => ?_) (fun cc4 => ?_)
        · refine lv_iload_n hx hb dX12_magic_40 rfl (lv_at hl 0 rfl) ?_
          refine lv_iconst (v := 4) hx hb dX12_magic_41 (by decide) ?_
          refine lv_icmp_ne (tgt := 50) hx hb dX12_magic_42 (by decide) (fun cc5 => ?_) (fun cc5 => ?_)
          · refine lv_iconst (v := 0) hx hb dX12_magic_50 (by decide) ?_
            exact kr 0 g lg ar bk _ _ _ _ ⟨rfl, rfl, rfl, rfl⟩ hw dX12_magic_51
          · refine lv_bipush (v := 90) hx hb dX12_magic_45 (by decide) ?_
            refine lv_goto (tgt := 51) hx hb dX12_magic_47 (by decide) ?_
            exact kr 90 g lg ar bk _ _ _ _ ⟨rfl, rfl, rfl, rfl⟩ hw dX12_magic_51
        · refine lv_bipush (v := 88) hx hb dX12_magic_35 (by decide) ?_
          refine lv_goto (tgt := 51) hx hb dX12_magic_37 (by decide) ?_
          exact kr 88 g lg ar bk _ _ _ _ ⟨rfl, rfl, rfl, rfl⟩ hw dX12_magic_51
      · refine lv_bipush (v := 122) hx hb dX12_magic_25 (by decide) ?_
        refine lv_goto (tgt := 51) hx hb dX12_magic_27 (by decide) ?_
        exact kr 122 g lg ar bk _ _ _ _ ⟨rfl, rfl, rfl, rfl⟩ hw dX12_magic_51
    · refine lv_bipush (v := 55) hx hb dX12_magic_15 (by decide) ?_
      refine lv_goto (tgt := 51) hx hb dX12_magic_17 (by decide) ?_
      exact kr 55 g lg ar bk _ _ _ _ ⟨rfl, rfl, rfl, rfl⟩ hw dX12_magic_51
  · refine lv_sipush (v := 253) hx hb dX12_magic_4 (by decide) ?_
    refine lv_goto (tgt := 51) hx hb dX12_magic_7 (by decide) ?_
    exact kr 253 g lg ar bk _ _ _ _ ⟨rfl, rfl, rfl, rfl⟩ hw dX12_magic_51

set_option maxHeartbeats 4000000 in
set_option maxRecDepth 100000 in
/-- X12_openBox on (0,) -/
theorem jm_X12_openBox (l : Launch) (hlt : l.stackTraces = false) (D : va_G) (t3 : Nat × Nat × Nat) (cI cJ : ClassId) (ad : Nat → Nat) (g : Nat → Int32) (lg : Nat → Int64) (ar : Nat → Nat → Int32) (bk : Nat → Int64) (sz : Nat) (y1 : Int32) (hr0 : (g 20).toInt ≤ (g 49).toInt) (hr1 : 0 ≤ (g 18).toInt ∧ (g 18).toInt ≤ (g 13).toInt) (hr2 : (g 51).toInt = 0) (hr3 : (g 55).toInt = 0) (hi_g49 : 0 ≤ (g 49).toInt ∧ (g 49).toInt ≤ 1500) (hi_g51 : 0 ≤ (g 51).toInt ∧ (g 51).toInt ≤ 15) (hi_g52 : 0 ≤ (g 52).toInt ∧ (g 52).toInt ≤ 3000) (hi_g55 : 0 ≤ (g 55).toInt ∧ (g 55).toInt ≤ 1) (hi_g24 : 1 ≤ (g 24).toInt ∧ (g 24).toInt ≤ 3000) (hi_g25 : 1 ≤ (g 25).toInt ∧ (g 25).toInt ≤ 3000) (hi_g26 : 1 ≤ (g 26).toInt ∧ (g 26).toInt ≤ 3000) (hi_g27 : 1 ≤ (g 27).toInt ∧ (g 27).toInt ≤ 3000) (hi_g12 : 0 ≤ (g 12).toInt ∧ (g 12).toInt ≤ 1500) (hi_a0rg : hk_rg 0 255 (ar 0)) (hi_g20 : 0 ≤ (g 20).toInt ∧ (g 20).toInt ≤ 3001) (hi_g58 : 0 ≤ (g 58).toInt ∧ (g 58).toInt ≤ 4) (hi_a24rg : hk_rg 0 255 (ar 24)) (hi_g17 : 0 ≤ (g 17).toInt ∧ (g 17).toInt ≤ 3000) (hi_a6rg : hk_rg 0 255 (ar 6)) (hi_g23 : 0 ≤ (g 23).toInt ∧ (g 23).toInt ≤ 11) (hi_g15 : 0 ≤ (g 15).toInt ∧ (g 15).toInt ≤ 63) (hi_g13 : 0 ≤ (g 13).toInt ∧ (g 13).toInt ≤ 3000) (hi_a1rg : hk_rg 0 255 (ar 1)) (hi_a12rg : hk_rg 0 20000 (ar 12)) (hi_a13rg : hk_rg 0 20000 (ar 13)) (hi_a14rg : hk_rg 0 20000 (ar 14)) : JMv l yX12_openBox (Cond.code yX12_openBox cX12_openBox 5 none :: wwM) { frames := 11, cells := 0, slots := 0, locals := 264 } t3 D mw cI cJ ad [.ref (ad 0), .int y1] (mw cI cJ ad g lg ar bk) sz 0 0 (fun g' lg' ar' bk' => hk_fr [13, 14, 15, 16, 17, 18, 20, 23, 24, 25, 26, 27, 28, 29, 30, 31, 48, 49, 50, 51, 52, 53, 54, 55, 56, 57, 58] g g' ∧ hk_fr [0, 1, 3, 4, 5, 6, 7] lg lg' ∧ hk_fr [1, 3, 4, 5, 6, 7, 8, 9, 10, 11, 12, 13, 14, 15, 16, 23, 24] ar ar' ∧ bk = bk' ∧ (0 ≤ (g' 49).toInt ∧ (g' 49).toInt ≤ 1500) ∧ (0 ≤ (g' 51).toInt ∧ (g' 51).toInt ≤ 15) ∧ (0 ≤ (g' 52).toInt ∧ (g' 52).toInt ≤ 3000) ∧ (0 ≤ (g' 55).toInt ∧ (g' 55).toInt ≤ 1) ∧ (1 ≤ (g' 24).toInt ∧ (g' 24).toInt ≤ 3000) ∧ (1 ≤ (g' 25).toInt ∧ (g' 25).toInt ≤ 3000) ∧ (1 ≤ (g' 26).toInt ∧ (g' 26).toInt ≤ 3000) ∧ (1 ≤ (g' 27).toInt ∧ (g' 27).toInt ≤ 3000) ∧ (0 ≤ (g' 20).toInt ∧ (g' 20).toInt ≤ 3001) ∧ (0 ≤ (g' 58).toInt ∧ (g' 58).toInt ≤ 4) ∧ hk_rg 0 255 (ar' 24) ∧ (0 ≤ (g' 17).toInt ∧ (g' 17).toInt ≤ 3000) ∧ hk_rg 0 255 (ar' 6) ∧ (0 ≤ (g' 23).toInt ∧ (g' 23).toInt ≤ 11) ∧ (0 ≤ (g' 15).toInt ∧ (g' 15).toInt ≤ 63) ∧ (0 ≤ (g' 13).toInt ∧ (g' 13).toInt ≤ 3000) ∧ hk_rg 0 255 (ar' 1) ∧ hk_rg 0 20000 (ar' 12) ∧ hk_rg 0 20000 (ar' 13) ∧ hk_rg 0 20000 (ar' 14)) (fun g' lg' ar' bk' => False) := by
  refine jx_metv (cc := cX12_openBox) (maxL := 5) (ret := none) rfl (by decide) rfl (Nat.le_of_ble_eq_true rfl) ?_
  intro p e s m args below meth c ls Q A hx hb hml hown hts hA hZ hw hl hQ kr kt
  have hq : ∀ w ∈ wwM, w.before args s = true := fun w h => hts w (List.mem_cons_of_mem _ h)
  have hl : lv_has ls 5 [(0, .ref (ad 0)), (1, .int y1)] := hl
  refine lv_iconst (v := 0) hx hb dX12_openBox_0 (by decide) ?_
  refine lv_istore_n (lv' := [(2, .int 0), (0, .ref (ad 0)), (1, .int y1)]) hx hb dX12_openBox_1 rfl hl (by decide) rfl (fun ls hl => ?_)
  have B1 : ∀ (k4 : Nat) (x2 : Int32) (g3 : Nat → Int32) (ls : Array Slot) (H : Heap) (locs : List Loc), (2147483648 - (x2).toInt ≤ (k4 : Int)) → (0 ≤ (x2).toInt) → ((g 49).toInt ≤ (g3 49).toInt) → (1 ≤ (g 51).toInt → 1 ≤ (g3 51).toInt) → (0 ≤ (g3 49).toInt ∧ (g3 49).toInt ≤ 1500) → (0 ≤ (g3 51).toInt ∧ (g3 51).toInt ≤ 15) → (hk_fr [49, 51] g g3) → hk_W D (jT cI cJ) A s H locs (mw cI cJ ad g3 lg ar bk) → lv_has ls 5 [(0, .ref (ad 0)), (1, .int y1), (2, .int x2)] → W p l e { frames := 11, cells := 0, slots := 0, locals := 264 } s m args below meth c H locs 0 0 Q (F0 m 2 ls []) := by
    intro k4
    induction k4 with
    | zero =>
      intro x2 g3 ls H locs hrk_B1 hf_B1_0 hf_B1_1 hf_B1_2 hf_B1_3 hf_B1_4 hfr_g3 hw hl
      exact False.elim (hk_no0 (0 * (x2).toInt) (om30 ((x2).toInt) hrk_B1 (hE_rng (x2))) (by simp))
    | succ k4 ih_B1 =>
      intro x2 g3 ls H locs hrk_B1 hf_B1_0 hf_B1_1 hf_B1_2 hf_B1_3 hf_B1_4 hfr_g3 hw hl
      have hrk_B1 := hk_rk hrk_B1
      refine lv_iload_n hx hb dX12_openBox_2 rfl (lv_at hl 2 rfl) ?_
      refine lv_bipush (v := 6) hx hb dX12_openBox_3 (by decide) ?_
      refine lv_icmp_ge (tgt := 23) hx hb dX12_openBox_5 (by decide) (fun cc5 => ?_) (fun cc5 => ?_)
      · refine lv_aload_n hx hb dX12_openBox_23 rfl (lv_at hl 0 rfl) ?_
        refine lv_iconst (v := 0) hx hb dX12_openBox_24 (by decide) ?_
        refine lv_bipush (v := 8) hx hb dX12_openBox_25 (by decide) ?_
        have e_g3_12 : g3 12 = (g 12) := (hfr_g3 12 rfl)
        refine jx_Vv (As := [.int 0, .int 8]) (rest := []) ⟨hx, hb, hml, hown, hts⟩ hZ hw hA (jm_X12_wantByte l hlt D t3 cI cJ ad g3 lg ar bk _ 0 8 (om604 (((8 : Int32)).toInt) (by decide)) (om202 ((g3 49).toInt) hf_B1_3) (om206 ((g3 51).toInt) hf_B1_4) (om21 ((g3 12).toInt) ((g 12).toInt) (congrArg Int32.toInt e_g3_12) hi_g12) hi_a0rg) (cwV 2 hts (jx_gV wwM_good wM_278 wM_279 wM_280 wM_8 wM_281) rfl rfl rfl (by decide +kernel) ⟨Nat.le_of_ble_eq_true rfl, Nat.le_of_ble_eq_true rfl⟩) 0 (ci := 15) (T := TX12) (N := 92) rfl rfl rfl hl.1 rfl (Nat.le_of_ble_eq_true rfl) dX12_openBox_27 ⟨Nat.le_of_ble_eq_true rfl, Nat.le_of_ble_eq_true rfl⟩ (fun _ _ _ _ _ _ _ _ hp _ _ _ _ => hp.elim) (fun g11 l12 a13 b14 H locs hp15 hw => ?_)
        obtain ⟨h16, rfl, rfl, rfl, h20, h21, h22, h23, h24⟩ := hp15
        refine lv_aload_n hx hb dX12_openBox_30 rfl (lv_at hl 0 rfl) ?_
        refine lv_aload_n hx hb dX12_openBox_31 rfl (lv_at hl 0 rfl) ?_
        have e_g11_12 : g11 12 = (g 12) := ((h16 12 rfl)).trans e_g3_12
        refine jx_Vi (As := []) (rest := [.ref (ad 0)]) ⟨hx, hb, hml, hown, hts⟩ hZ hw hA (jm_X12_next l hlt D t3 cI cJ ad g11 lg ar bk _ (om202 ((g11 49).toInt) h23) (om206 ((g11 51).toInt) h24) (om21 ((g11 12).toInt) ((g 12).toInt) (congrArg Int32.toInt e_g11_12) hi_g12) hi_a0rg) (cwV 0 hts (jx_gV wwM_good wM_59 wM_60 wM_61 wM_8 wM_62) rfl rfl rfl (by decide +kernel) ⟨Nat.le_of_ble_eq_true rfl, Nat.le_of_ble_eq_true rfl⟩) 0 (ci := 15) (T := TX12) (N := 92) rfl rfl rfl hl.1 rfl (Nat.le_of_ble_eq_true rfl) dX12_openBox_32 ⟨Nat.le_of_ble_eq_true rfl, Nat.le_of_ble_eq_true rfl⟩ (fun _ _ _ _ _ _ _ _ hp _ _ _ _ => hp.elim) (fun r29 g30 l31 a32 b33 H locs hp34 hw => ?_)
        obtain ⟨h35, rfl, rfl, rfl, h39, h40, h41, h42, h43⟩ := hp34
        refine jx_putg mw (cI := cI) (cJ := cJ) (ad := ad) (g := g30) (lg := lg) (ar := ar) (bk := bk) (x := r29) 57 (ci := 15) (C := RX12) (T := TX12) (N := 92) (ty := .int) hx hb hts (fun _ h => List.mem_cons_of_mem _ (wwMc_wsX120 _ h)) tyX12 tyX12_ok nmX12 hown hw 0 rfl rfl 86 (by decide) (hq _ wM_303) rfl (by decide +kernel) rfl rfl (Nat.le_of_ble_eq_true rfl) dX12_openBox_35 rfl (fun H locs g44 h_g44 hw => ?_)
        refine lv_aload_n hx hb dX12_openBox_38 rfl (lv_at hl 0 rfl) ?_
        have e_g44_51 : g44 51 = (g30 51) := (hk_upgN h_g44 51 rfl)
        refine hk_get (ci := 15) (C := RX12) (T := TX12) (N := 92) (v := .int (g30 51)) hx hb hts (fun _ h => List.mem_cons_of_mem _ (wwMc_wsX120 _ h)) hown hw 0 rfl rfl 78 (by decide) (hq _ wM_63) (congrArg (fun z => some (Value.int z)) e_g44_51) dX12_openBox_39 ?_
        have B45 : ∀  (g46 : Nat → Int32) (ls : Array Slot) (H : Heap) (locs : List Loc), (1 ≤ (g 51).toInt → 1 ≤ (g46 51).toInt) → (0 ≤ (g46 51).toInt ∧ (g46 51).toInt ≤ 15) → (hk_fr [51] g44 g46) → hk_W D (jT cI cJ) A s H locs (mw cI cJ ad g46 lg ar bk) → lv_has ls 5 [(0, .ref (ad 0)), (1, .int y1)] → W p l e { frames := 11, cells := 0, slots := 0, locals := 264 } s m args below meth c H locs 0 0 Q (F0 m 68 ls []) := by
          intro g46 ls H locs hf_B45_0 hf_B45_1 hfr_g46 hw hl
          refine lv_aload_n hx hb dX12_openBox_68 rfl (lv_at hl 0 rfl) ?_
          refine lv_aload_n hx hb dX12_openBox_69 rfl (lv_at hl 0 rfl) ?_
          refine lv_bipush (v := 6) hx hb dX12_openBox_70 (by decide) ?_
          refine lv_bipush (v := 8) hx hb dX12_openBox_72 (by decide) ?_
          refine jx_Vi (As := [.int 6, .int 8]) (rest := [.ref (ad 0)]) ⟨hx, hb, hml, hown, hts⟩ hZ hw hA (jm_X12_sum l hlt D t3 cI cJ ad g46 lg ar bk _ 6 8 (om685 (((6 : Int32)).toInt) (by decide)) (om686 (((8 : Int32)).toInt) (by decide))) (cwV 2 hts (jx_gV wwM_good wM_282 wM_283 wM_284 wM_8 wM_285) rfl rfl rfl (by decide +kernel) ⟨Nat.le_of_ble_eq_true rfl, Nat.le_of_ble_eq_true rfl⟩) 0 (ci := 15) (T := TX12) (N := 92) rfl rfl rfl hl.1 rfl (Nat.le_of_ble_eq_true rfl) dX12_openBox_74 ⟨Nat.le_of_ble_eq_true rfl, Nat.le_of_ble_eq_true rfl⟩ (fun _ _ _ _ _ _ _ _ hp _ _ _ _ => hp.elim) (fun r51 g52 l53 a54 b55 H locs hp56 hw => ?_)
          obtain ⟨h57, rfl, rfl, rfl⟩ := hp56
          have e_g52_49 : g52 49 = (g30 49) := ((h57 49 rfl)).trans (((hfr_g46 49 rfl)).trans (hk_upgN h_g44 49 rfl))
          have e_g52_51 : g52 51 = (g46 51) := (h57 51 rfl)
          have e_g52_12 : g52 12 = (g 12) := ((h57 12 rfl)).trans (((hfr_g46 12 rfl)).trans (((hk_upgN h_g44 12 rfl)).trans (((h35 12 rfl)).trans e_g11_12)))
          refine jx_Vv (As := [.int r51]) (rest := []) ⟨hx, hb, hml, hown, hts⟩ hZ hw hA (jm_X12_wantSum l hlt D t3 cI cJ ad g52 lg ar bk _ r51 (om21 ((g52 49).toInt) ((g30 49).toInt) (congrArg Int32.toInt e_g52_49) h42) (om422 ((g52 51).toInt) ((g46 51).toInt) (congrArg Int32.toInt e_g52_51) hf_B45_1) (om21 ((g52 12).toInt) ((g 12).toInt) (congrArg Int32.toInt e_g52_12) hi_g12) hi_a0rg) (cwV 1 hts (jx_gV wwM_good wM_286 wM_287 wM_288 wM_8 wM_289) rfl rfl rfl (by decide +kernel) ⟨Nat.le_of_ble_eq_true rfl, Nat.le_of_ble_eq_true rfl⟩) 0 (ci := 15) (T := TX12) (N := 92) rfl rfl rfl hl.1 rfl (Nat.le_of_ble_eq_true rfl) dX12_openBox_77 ⟨Nat.le_of_ble_eq_true rfl, Nat.le_of_ble_eq_true rfl⟩ (fun _ _ _ _ _ _ _ _ hp _ _ _ _ => hp.elim) (fun g66 l67 a68 b69 H locs hp70 hw => ?_)
          obtain ⟨h71, rfl, rfl, rfl, h75, h76, h77, h78⟩ := hp70
          have e_g52_49 : g52 49 = (g30 49) := ((h57 49 rfl)).trans (((hfr_g46 49 rfl)).trans (hk_upgN h_g44 49 rfl))
          have e_g52_51 : g52 51 = (g46 51) := (h57 51 rfl)
          refine lv_aload_n hx hb dX12_openBox_80 rfl (lv_at hl 0 rfl) ?_
          refine hk_get (ci := 15) (C := RX12) (T := TX12) (N := 92) (v := .int (g66 51)) hx hb hts (fun _ h => List.mem_cons_of_mem _ (wwMc_wsX120 _ h)) hown hw 0 rfl rfl 78 (by decide) (hq _ wM_63) rfl dX12_openBox_81 ?_
          have B79 : ∀  (x80 : Int32) (ls : Array Slot) (H : Heap) (locs : List Loc), (0 ≤ (x80).toInt ∧ (x80).toInt ≤ 1) → ((x80).toInt = 1 → (g66 51).toInt = 0) → hk_W D (jT cI cJ) A s H locs (mw cI cJ ad g66 lg ar bk) → lv_has ls 5 [(0, .ref (ad 0)), (1, .int y1)] → W p l e { frames := 11, cells := 0, slots := 0, locals := 264 } s m args below meth c H locs 0 0 Q (F0 m 92 ls [.int x80]) := by
            intro x80 ls H locs hf_B79_0 hf_B79_1 hw hl
            refine lv_istore_n (lv' := [(2, .int x80), (0, .ref (ad 0)), (1, .int y1)]) hx hb dX12_openBox_92 rfl hl (by decide) rfl (fun ls hl => ?_)
            have B81 : ∀ (k86 : Nat) (x82 : Int32) (g83 : Nat → Int32) (l84 : Nat → Int64) (a85 : Nat → Nat → Int32) (ls : Array Slot) (H : Heap) (locs : List Loc), (20 * (1502 - (g83 49).toInt) - (g83 51).toInt ≤ (k86 : Int)) → (0 ≤ (x82).toInt ∧ (x82).toInt ≤ 1) → ((x82).toInt = 1 → (g83 51).toInt = 0) → ((g83 20).toInt ≤ (g83 49).toInt) → ((x82).toInt = 1 → (0 ≤ (g83 18).toInt ∧ (g83 18).toInt ≤ (g83 13).toInt ∧ (g83 55).toInt = 0)) → ((g 49).toInt ≤ (g83 49).toInt) → (1 ≤ (g 51).toInt → 1 ≤ (g83 51).toInt) → (0 ≤ (g83 49).toInt ∧ (g83 49).toInt ≤ 1500) → (0 ≤ (g83 51).toInt ∧ (g83 51).toInt ≤ 15) → (0 ≤ (g83 52).toInt ∧ (g83 52).toInt ≤ 3000) → (0 ≤ (g83 55).toInt ∧ (g83 55).toInt ≤ 1) → (1 ≤ (g83 24).toInt ∧ (g83 24).toInt ≤ 3000) → (1 ≤ (g83 25).toInt ∧ (g83 25).toInt ≤ 3000) → (1 ≤ (g83 26).toInt ∧ (g83 26).toInt ≤ 3000) → (1 ≤ (g83 27).toInt ∧ (g83 27).toInt ≤ 3000) → (0 ≤ (g83 20).toInt ∧ (g83 20).toInt ≤ 3001) → (0 ≤ (g83 58).toInt ∧ (g83 58).toInt ≤ 4) → (0 ≤ (g83 17).toInt ∧ (g83 17).toInt ≤ 3000) → (0 ≤ (g83 23).toInt ∧ (g83 23).toInt ≤ 11) → (0 ≤ (g83 15).toInt ∧ (g83 15).toInt ≤ 63) → (0 ≤ (g83 13).toInt ∧ (g83 13).toInt ≤ 3000) → (hk_fr [13, 14, 15, 16, 17, 18, 20, 23, 24, 25, 26, 27, 28, 29, 30, 31, 48, 49, 50, 51, 52, 53, 54, 55, 56, 58] g66 g83) → (hk_fr [0, 1, 3, 4, 5, 6, 7] lg l84) → (hk_fr [1, 3, 4, 5, 6, 7, 8, 9, 10, 11, 12, 13, 14, 15, 16, 23, 24] ar a85) → (hk_rg 0 255 (a85 24)) → (hk_rg 0 255 (a85 6)) → (hk_rg 0 255 (a85 1)) → (hk_rg 0 20000 (a85 12)) → (hk_rg 0 20000 (a85 13)) → (hk_rg 0 20000 (a85 14)) → hk_W D (jT cI cJ) A s H locs (mw cI cJ ad g83 l84 a85 bk) → lv_has ls 5 [(0, .ref (ad 0)), (1, .int y1), (2, .int x82)] → W p l e { frames := 11, cells := 0, slots := 0, locals := 264 } s m args below meth c H locs 0 0 Q (F0 m 93 ls []) := by
              intro k86
              induction k86 with
              | zero =>
                intro x82 g83 l84 a85 ls H locs hrk_B81 hf_B81_0 hf_B81_1 hf_B81_2 hf_B81_3 hf_B81_4 hf_B81_5 hf_B81_6 hf_B81_7 hf_B81_8 hf_B81_9 hf_B81_10 hf_B81_11 hf_B81_12 hf_B81_13 hf_B81_14 hf_B81_15 hf_B81_16 hf_B81_17 hf_B81_18 hf_B81_19 hfr_g83 hfr_l84 hfr_a85 ha85_r24rg ha85_r6rg ha85_r1rg ha85_r12rg ha85_r13rg ha85_r14rg hw hl
                exact False.elim (hk_no0 (0 * (g83 49).toInt + 0 * (g83 51).toInt) (om218 ((g83 49).toInt) ((g83 51).toInt) hf_B81_6 hf_B81_7 hrk_B81) (by simp))
              | succ k86 ih_B81 =>
                intro x82 g83 l84 a85 ls H locs hrk_B81 hf_B81_0 hf_B81_1 hf_B81_2 hf_B81_3 hf_B81_4 hf_B81_5 hf_B81_6 hf_B81_7 hf_B81_8 hf_B81_9 hf_B81_10 hf_B81_11 hf_B81_12 hf_B81_13 hf_B81_14 hf_B81_15 hf_B81_16 hf_B81_17 hf_B81_18 hf_B81_19 hfr_g83 hfr_l84 hfr_a85 ha85_r24rg ha85_r6rg ha85_r1rg ha85_r12rg ha85_r13rg ha85_r14rg hw hl
                have hrk_B81 := hk_rk hrk_B81
                refine lv_iload_n hx hb dX12_openBox_93 rfl (lv_at hl 2 rfl) ?_
                refine lv_if_eq (tgt := 155) hx hb dX12_openBox_94 (by decide) (fun cc87 => ?_) (fun cc87 => ?_)
                · exact kr g83 l84 a85 bk _ _ _ _ ⟨(hk_frT (hk_frT (hk_frT (hk_frT (hk_frG (hk_frT (hk_frT (hk_frT hk_fr0 (by decide) hfr_g3) (by decide) h16) (by decide) h35) (by decide) h_g44) (by decide) hfr_g46) (by decide) h57) (by decide) h71) (by decide) hfr_g83), hfr_l84, hfr_a85, rfl, (om202 ((g83 49).toInt) hf_B81_6), (om206 ((g83 51).toInt) hf_B81_7), (om404 ((g83 52).toInt) hf_B81_8), (om223 ((g83 55).toInt) hf_B81_9), (om163 ((g83 24).toInt) hf_B81_10), (om163 ((g83 25).toInt) hf_B81_11), (om163 ((g83 26).toInt) hf_B81_12), (om163 ((g83 27).toInt) hf_B81_13), (om687 ((g83 20).toInt) ((g83 49).toInt) hf_B81_2 hf_B81_14 hf_B81_6), (om257 ((g83 58).toInt) hf_B81_15), ha85_r24rg, (om404 ((g83 17).toInt) hf_B81_16), ha85_r6rg, (om477 ((g83 23).toInt) hf_B81_17), (om79 ((g83 15).toInt) hf_B81_18), (om404 ((g83 13).toInt) hf_B81_19), ha85_r1rg, ha85_r12rg, ha85_r13rg, ha85_r14rg⟩ hw dX12_openBox_155
                · refine lv_aload_n hx hb dX12_openBox_97 rfl (lv_at hl 0 rfl) ?_
                  refine hk_get (ci := 15) (C := RX12) (T := TX12) (N := 92) (v := .int (g83 49)) hx hb hts (fun _ h => List.mem_cons_of_mem _ (wwMc_wsX120 _ h)) hown hw 0 rfl rfl 76 (by decide) (hq _ wM_92) rfl dX12_openBox_98 ?_
                  refine lv_istore_n (lv' := [(3, .int (g83 49)), (0, .ref (ad 0)), (1, .int y1), (2, .int x82)]) hx hb dX12_openBox_101 rfl hl (by decide) rfl (fun ls hl => ?_)
                  refine lv_aload_n hx hb dX12_openBox_102 rfl (lv_at hl 1 rfl) ?_
                  have e_g83_12 : g83 12 = (g 12) := ((hfr_g83 12 rfl)).trans (((h71 12 rfl)).trans e_g52_12)
                  refine jx_Vi (As := []) (rest := []) ⟨hx, hb, hml, hown, hts⟩ hZ hw hA (jm_X12_next l hlt D t3 cI cJ ad g83 l84 a85 bk _ (om202 ((g83 49).toInt) hf_B81_6) (om206 ((g83 51).toInt) hf_B81_7) (om21 ((g83 12).toInt) ((g 12).toInt) (congrArg Int32.toInt e_g83_12) hi_g12) (hk_pE (P := hk_rg 0 255) hi_a0rg (hfr_a85 0 rfl))) (cwV 0 hts (jx_gV wwM_good wM_59 wM_60 wM_61 wM_8 wM_62) rfl rfl rfl (by decide +kernel) ⟨Nat.le_of_ble_eq_true rfl, Nat.le_of_ble_eq_true rfl⟩) 0 (ci := 15) (T := TX12) (N := 92) rfl rfl rfl hl.1 rfl (Nat.le_of_ble_eq_true rfl) dX12_openBox_103 ⟨Nat.le_of_ble_eq_true rfl, Nat.le_of_ble_eq_true rfl⟩ (fun _ _ _ _ _ _ _ _ hp _ _ _ _ => hp.elim) (fun r92 g93 l94 a95 b96 H locs hp97 hw => ?_)
                  obtain ⟨h98, rfl, rfl, rfl, h102, h103, h104, h105, h106⟩ := hp97
                  refine lv_istore (lv' := [(4, .int r92), (3, .int (g83 49)), (0, .ref (ad 0)), (1, .int y1), (2, .int x82)]) hx hb dX12_openBox_106 hl (by decide) rfl (fun ls hl => ?_)
                  refine lv_aload_n hx hb dX12_openBox_108 rfl (lv_at hl 2 rfl) ?_
                  refine hk_get (ci := 15) (C := RX12) (T := TX12) (N := 92) (v := .int (g93 51)) hx hb hts (fun _ h => List.mem_cons_of_mem _ (wwMc_wsX120 _ h)) hown hw 0 rfl rfl 78 (by decide) (hq _ wM_63) rfl dX12_openBox_109 ?_
                  refine lv_if_le (tgt := 116) hx hb dX12_openBox_112 (by decide) (fun cc107 => ?_) (fun cc107 => ?_)
                  · refine lv_iload hx hb dX12_openBox_116 (lv_at hl 0 rfl) ?_
                    refine lv_if_ne (tgt := 127) hx hb dX12_openBox_118 (by decide) (fun cc108 => ?_) (fun cc108 => ?_)
                    · refine lv_aload_n hx hb dX12_openBox_127 rfl (lv_at hl 2 rfl) ?_
                      refine lv_iload_n hx hb dX12_openBox_128 rfl (lv_at hl 1 rfl) ?_
                      refine lv_iconst (v := 4) hx hb dX12_openBox_129 (by decide) ?_
                      refine lv_iload hx hb dX12_openBox_130 (lv_at hl 0 rfl) ?_
                      refine lv_imul hx hb dX12_openBox_132 (jx_nm fun z109 hz109 => ?_)
                      have xz109 : (z109).toInt = (r92).toInt * 4 := (hE_imp (hE_mul' 4 hz109 (by decide)) (om688 ((r92).toInt) (((0 : Int32)).toInt) h102 (hE_ne cc108) (by decide)))
                      refine lv_iconst (v := 4) hx hb dX12_openBox_133 (by decide) ?_
                      refine lv_iadd hx hb dX12_openBox_134 (jx_nm fun z110 hz110 => ?_)
                      have xz110 : (z110).toInt = (z109).toInt + ((4 : Int32)).toInt := (hE_imp (hE_add hz110) (om689 ((z109).toInt) (((4 : Int32)).toInt) ((r92).toInt) (((0 : Int32)).toInt) xz109 h102 (hE_ne cc108) (hE_rng (z109)) (by decide) (by decide)))
                      refine lv_iload_n hx hb dX12_openBox_135 rfl (lv_at hl 3 rfl) ?_
                      have e_g93_20 : g93 20 = (g83 20) := (h98 20 rfl)
                      have e_g93_18 : g93 18 = (g83 18) := (h98 18 rfl)
                      have e_g93_13 : g93 13 = (g83 13) := (h98 13 rfl)
                      have e_g93_55 : g93 55 = (g83 55) := (h98 55 rfl)
                      have e_g93_52 : g93 52 = (g83 52) := (h98 52 rfl)
                      have e_g93_24 : g93 24 = (g83 24) := (h98 24 rfl)
                      have e_g93_25 : g93 25 = (g83 25) := (h98 25 rfl)
                      have e_g93_26 : g93 26 = (g83 26) := (h98 26 rfl)
                      have e_g93_27 : g93 27 = (g83 27) := (h98 27 rfl)
                      have e_g93_12 : g93 12 = (g 12) := ((h98 12 rfl)).trans e_g83_12
                      have e_g93_58 : g93 58 = (g83 58) := (h98 58 rfl)
                      have e_g93_17 : g93 17 = (g83 17) := (h98 17 rfl)
                      have e_g93_23 : g93 23 = (g83 23) := (h98 23 rfl)
                      have e_g93_15 : g93 15 = (g83 15) := (h98 15 rfl)
                      refine jx_Vv (As := [.int (g83 49), .int z110, .int y1]) (rest := []) ⟨hx, hb, hml, hown, hts⟩ hZ hw hA (jm_X12_openBlock l hlt D t3 cI cJ ad g93 l84 a85 bk _ (g83 49) z110 y1 (om690 ((g83 49).toInt) ((g93 49).toInt) ((g93 51).toInt) ((g83 51).toInt) (((0 : Int32)).toInt) hf_B81_6 h103 (hE_le cc107) (by decide)) (om691 ((z110).toInt) ((z109).toInt) (((4 : Int32)).toInt) ((r92).toInt) (((0 : Int32)).toInt) xz110 xz109 h102 (hE_ne cc108) (by decide) (by decide)) (om692 ((g93 20).toInt) ((g93 49).toInt) ((g83 49).toInt) ((g93 51).toInt) ((g83 51).toInt) ((g83 20).toInt) (((0 : Int32)).toInt) h103 (congrArg Int32.toInt e_g93_20) hf_B81_2 (hE_le cc107) (by decide)) (om693 ((g93 18).toInt) ((g93 13).toInt) ((g83 18).toInt) ((g83 13).toInt) ((x82).toInt) ((g83 55).toInt) (((0 : Int32)).toInt) (congrArg Int32.toInt e_g93_18) (congrArg Int32.toInt e_g93_13) hf_B81_3 hf_B81_0 (hE_ne cc87) (by decide)) (om694 ((g93 51).toInt) (((0 : Int32)).toInt) h106 (hE_le cc107) (by decide)) (om695 ((g93 55).toInt) ((g83 55).toInt) ((x82).toInt) ((g83 18).toInt) ((g83 13).toInt) (((0 : Int32)).toInt) (congrArg Int32.toInt e_g93_55) hf_B81_3 hf_B81_9 hf_B81_0 (hE_ne cc87) (by decide)) (om578 ((g93 49).toInt) ((g83 49).toInt) ((g93 51).toInt) ((g83 51).toInt) (((0 : Int32)).toInt) h103 h105 hf_B81_6 (hE_le cc107) (by decide)) (om189 ((g93 51).toInt) (((0 : Int32)).toInt) h106 (hE_le cc107) (by decide)) (om141 ((g93 52).toInt) ((g83 52).toInt) (congrArg Int32.toInt e_g93_52) hf_B81_8) (om497 ((g93 55).toInt) ((g83 55).toInt) (congrArg Int32.toInt e_g93_55) hf_B81_9) (om696 ((g93 20).toInt) ((g83 20).toInt) ((g83 49).toInt) ((g93 49).toInt) ((g93 51).toInt) ((g83 51).toInt) (((0 : Int32)).toInt) (congrArg Int32.toInt e_g93_20) hf_B81_2 hf_B81_14 h103 h105 (hE_le cc107) (by decide)) (om162 ((g93 24).toInt) ((g83 24).toInt) (congrArg Int32.toInt e_g93_24) hf_B81_10) (om162 ((g93 25).toInt) ((g83 25).toInt) (congrArg Int32.toInt e_g93_25) hf_B81_11) (om162 ((g93 26).toInt) ((g83 26).toInt) (congrArg Int32.toInt e_g93_26) hf_B81_12) (om162 ((g93 27).toInt) ((g83 27).toInt) (congrArg Int32.toInt e_g93_27) hf_B81_13) (om21 ((g93 12).toInt) ((g 12).toInt) (congrArg Int32.toInt e_g93_12) hi_g12) (hk_pE (P := hk_rg 0 255) hi_a0rg (hfr_a85 0 rfl)) (om39 ((g93 58).toInt) ((g83 58).toInt) (congrArg Int32.toInt e_g93_58) hf_B81_15) ha85_r24rg (om141 ((g93 17).toInt) ((g83 17).toInt) (congrArg Int32.toInt e_g93_17) hf_B81_16) ha85_r6rg (om333 ((g93 23).toInt) ((g83 23).toInt) (congrArg Int32.toInt e_g93_23) hf_B81_17) (om89 ((g93 15).toInt) ((g83 15).toInt) (congrArg Int32.toInt e_g93_15) hf_B81_18) (om141 ((g93 13).toInt) ((g83 13).toInt) (congrArg Int32.toInt e_g93_13) hf_B81_19) ha85_r1rg ha85_r12rg ha85_r13rg ha85_r14rg) (cwV 3 hts (jx_gV wwM_good wM_311 wM_312 wM_313 wM_8 wM_314) rfl rfl rfl (by decide +kernel) ⟨Nat.le_of_ble_eq_true rfl, Nat.le_of_ble_eq_true rfl⟩) 0 (ci := 15) (T := TX12) (N := 92) rfl rfl rfl hl.1 rfl (Nat.le_of_ble_eq_true rfl) dX12_openBox_136 ⟨Nat.le_of_ble_eq_true rfl, Nat.le_of_ble_eq_true rfl⟩ (fun _ _ _ _ _ _ _ _ hp _ _ _ _ => hp.elim) (fun g116 l117 a118 b119 H locs hp120 hw => ?_)
                      obtain ⟨h121, h122, h123, rfl, h125, h126, h127, h128, h129, h130, h131, h132, h133, h134, h135, h136, h137, h138, h139, h140, h141, h142, h143, h144, h145, h146, h147, h148⟩ := hp120
                      have hr149 : hk_rg 0 255 (a118 0) := (hk_pE (P := hk_rg 0 255) (hk_pE (P := hk_rg 0 255) hi_a0rg (hfr_a85 0 rfl)) (h123 0 rfl))
                      refine lv_aload_n hx hb dX12_openBox_139 rfl (lv_at hl 2 rfl) ?_
                      refine hk_get (ci := 15) (C := RX12) (T := TX12) (N := 92) (v := .int (g116 51)) hx hb hts (fun _ h => List.mem_cons_of_mem _ (wwMc_wsX120 _ h)) hown hw 0 rfl rfl 78 (by decide) (hq _ wM_63) rfl dX12_openBox_140 ?_
                      have B150 : ∀  (x151 : Int32) (ls : Array Slot) (H : Heap) (locs : List Loc), (0 ≤ (x151).toInt ∧ (x151).toInt ≤ 1) → ((x151).toInt = 1 → (g116 51).toInt = 0) → hk_W D (jT cI cJ) A s H locs (mw cI cJ ad g116 l117 a118 bk) → lv_has ls 5 [(0, .ref (ad 0)), (1, .int y1)] → W p l e { frames := 11, cells := 0, slots := 0, locals := 264 } s m args below meth c H locs 0 0 Q (F0 m 151 ls [.int x151]) := by
                        intro x151 ls H locs hf_B150_0 hf_B150_1 hw hl
                        refine lv_istore_n (lv' := [(2, .int x151), (0, .ref (ad 0)), (1, .int y1)]) hx hb dX12_openBox_151 rfl hl (by decide) rfl (fun ls hl => ?_)
                        refine lv_goto (tgt := 93) hx hb dX12_openBox_152 (by decide) ?_
                        exact ih_B81 x151 g116 l117 a118 ls _ _ (om697 ((g116 49).toInt) ((g116 51).toInt) (k86 : Int) ((g83 49).toInt) ((g83 51).toInt) ((g93 49).toInt) ((g93 51).toInt) (((0 : Int32)).toInt) hrk_B81 h125 h130 h103 (hE_le cc107) (by decide)) (om223 ((x151).toInt) hf_B150_0) (om698 ((x151).toInt) ((g116 51).toInt) h130 hf_B150_0 hf_B150_1) (om204 ((g116 20).toInt) ((g116 49).toInt) h127) (om699 ((x151).toInt) ((g116 18).toInt) ((g116 13).toInt) ((g116 55).toInt) ((g116 51).toInt) h128 h132 hf_B150_0 hf_B150_1 h130) (om267 ((g 49).toInt) ((g116 49).toInt) ((g83 49).toInt) ((g93 49).toInt) hf_B81_4 h125 h104) (om498 ((g 51).toInt) ((g116 51).toInt) hr2) (om582 ((g116 49).toInt) ((g93 49).toInt) ((g83 49).toInt) ((g93 51).toInt) ((g83 51).toInt) (((0 : Int32)).toInt) h125 h129 h103 hf_B81_6 (hE_le cc107) (by decide)) (om206 ((g116 51).toInt) h130) (om404 ((g116 52).toInt) h131) (om223 ((g116 55).toInt) h132) (om163 ((g116 24).toInt) h134) (om163 ((g116 25).toInt) h135) (om163 ((g116 26).toInt) h136) (om163 ((g116 27).toInt) h137) (om687 ((g116 20).toInt) ((g116 49).toInt) h127 h133 h129) (om257 ((g116 58).toInt) h138) (om404 ((g116 17).toInt) h140) (om477 ((g116 23).toInt) h142) (om79 ((g116 15).toInt) h143) (om404 ((g116 13).toInt) h144) (hk_frT (hk_frT hfr_g83 (by decide) h98) (by decide) h121) (hk_frT hfr_l84 (by decide) h122) (hk_frT hfr_a85 (by decide) h123) h139 h141 h145 h146 h147 h148 hw (lv_sub hl [1, 2, 0] rfl)
                      refine lv_if_ne (tgt := 150) hx hb dX12_openBox_143 (by decide) (fun cc152 => ?_) (fun cc152 => ?_)
                      · refine lv_iconst (v := 0) hx hb dX12_openBox_150 (by decide) ?_
                        exact B150 0 ls _ _ (om226 (((0 : Int32)).toInt) (by decide)) (om700 (((0 : Int32)).toInt) ((g116 51).toInt) (by decide)) hw (lv_sub hl [2, 3] rfl)
                      · refine lv_iconst (v := 1) hx hb dX12_openBox_146 (by decide) ?_
                        refine lv_goto (tgt := 151) hx hb dX12_openBox_147 (by decide) ?_
                        exact B150 1 ls _ _ (om225 (((1 : Int32)).toInt) (by decide)) (om701 (((1 : Int32)).toInt) ((g116 51).toInt) (((0 : Int32)).toInt) h130 (hE_eq cc152) (by decide)) hw (lv_sub hl [2, 3] rfl)
                    · refine lv_aload_n hx hb dX12_openBox_121 rfl (lv_at hl 2 rfl) ?_
                      refine lv_iload_n hx hb dX12_openBox_122 rfl (lv_at hl 1 rfl) ?_
                      have e_g93_20 : g93 20 = (g83 20) := (h98 20 rfl)
                      have e_g93_12 : g93 12 = (g 12) := ((h98 12 rfl)).trans e_g83_12
                      refine jx_Vv (As := [.int (g83 49)]) (rest := []) ⟨hx, hb, hml, hown, hts⟩ hZ hw hA (jm_X12_openIndex l hlt D t3 cI cJ ad g93 l84 a85 bk _ (g83 49) (om682 ((g83 49).toInt) hf_B81_6) (om578 ((g93 49).toInt) ((g83 49).toInt) ((g93 51).toInt) ((g83 51).toInt) (((0 : Int32)).toInt) h103 h105 hf_B81_6 (hE_le cc107) (by decide)) (om189 ((g93 51).toInt) (((0 : Int32)).toInt) h106 (hE_le cc107) (by decide)) (om696 ((g93 20).toInt) ((g83 20).toInt) ((g83 49).toInt) ((g93 49).toInt) ((g93 51).toInt) ((g83 51).toInt) (((0 : Int32)).toInt) (congrArg Int32.toInt e_g93_20) hf_B81_2 hf_B81_14 h103 h105 (hE_le cc107) (by decide)) (om21 ((g93 12).toInt) ((g 12).toInt) (congrArg Int32.toInt e_g93_12) hi_g12) (hk_pE (P := hk_rg 0 255) hi_a0rg (hfr_a85 0 rfl))) (cwV 1 hts (jx_gV wwM_good wM_307 wM_308 wM_309 wM_8 wM_310) rfl rfl rfl (by decide +kernel) ⟨Nat.le_of_ble_eq_true rfl, Nat.le_of_ble_eq_true rfl⟩) 0 (ci := 15) (T := TX12) (N := 92) rfl rfl rfl hl.1 rfl (Nat.le_of_ble_eq_true rfl) dX12_openBox_123 ⟨Nat.le_of_ble_eq_true rfl, Nat.le_of_ble_eq_true rfl⟩ (fun _ _ _ _ _ _ _ _ hp _ _ _ _ => hp.elim) (fun g158 l159 a160 b161 H locs hp162 hw => ?_)
                      obtain ⟨h163, rfl, rfl, rfl, h167, h168, h169, h170⟩ := hp162
                      have e_g158_52 : g158 52 = (g83 52) := ((h163 52 rfl)).trans (h98 52 rfl)
                      have e_g158_55 : g158 55 = (g83 55) := ((h163 55 rfl)).trans (h98 55 rfl)
                      have e_g158_24 : g158 24 = (g83 24) := ((h163 24 rfl)).trans (h98 24 rfl)
                      have e_g158_25 : g158 25 = (g83 25) := ((h163 25 rfl)).trans (h98 25 rfl)
                      have e_g158_26 : g158 26 = (g83 26) := ((h163 26 rfl)).trans (h98 26 rfl)
                      have e_g158_27 : g158 27 = (g83 27) := ((h163 27 rfl)).trans (h98 27 rfl)
                      have e_g158_20 : g158 20 = (g83 20) := ((h163 20 rfl)).trans e_g93_20
                      have e_g158_58 : g158 58 = (g83 58) := ((h163 58 rfl)).trans (h98 58 rfl)
                      have e_g158_17 : g158 17 = (g83 17) := ((h163 17 rfl)).trans (h98 17 rfl)
                      have e_g158_23 : g158 23 = (g83 23) := ((h163 23 rfl)).trans (h98 23 rfl)
                      have e_g158_15 : g158 15 = (g83 15) := ((h163 15 rfl)).trans (h98 15 rfl)
                      have e_g158_13 : g158 13 = (g83 13) := ((h163 13 rfl)).trans (h98 13 rfl)
                      exact kr g158 l84 a85 bk _ _ _ _ ⟨(hk_frT (hk_frT (hk_frT (hk_frT (hk_frT (hk_frT (hk_frG (hk_frT (hk_frT (hk_frT hk_fr0 (by decide) hfr_g3) (by decide) h16) (by decide) h35) (by decide) h_g44) (by decide) hfr_g46) (by decide) h57) (by decide) h71) (by decide) hfr_g83) (by decide) h98) (by decide) h163), hfr_l84, hfr_a85, rfl, (om582 ((g158 49).toInt) ((g93 49).toInt) ((g83 49).toInt) ((g93 51).toInt) ((g83 51).toInt) (((0 : Int32)).toInt) h167 h169 h103 hf_B81_6 (hE_le cc107) (by decide)), (om206 ((g158 51).toInt) h170), (om141 ((g158 52).toInt) ((g83 52).toInt) (congrArg Int32.toInt e_g158_52) hf_B81_8), (om497 ((g158 55).toInt) ((g83 55).toInt) (congrArg Int32.toInt e_g158_55) hf_B81_9), (om162 ((g158 24).toInt) ((g83 24).toInt) (congrArg Int32.toInt e_g158_24) hf_B81_10), (om162 ((g158 25).toInt) ((g83 25).toInt) (congrArg Int32.toInt e_g158_25) hf_B81_11), (om162 ((g158 26).toInt) ((g83 26).toInt) (congrArg Int32.toInt e_g158_26) hf_B81_12), (om162 ((g158 27).toInt) ((g83 27).toInt) (congrArg Int32.toInt e_g158_27) hf_B81_13), (om696 ((g158 20).toInt) ((g83 20).toInt) ((g83 49).toInt) ((g93 49).toInt) ((g93 51).toInt) ((g83 51).toInt) (((0 : Int32)).toInt) (congrArg Int32.toInt e_g158_20) hf_B81_2 hf_B81_14 h103 h105 (hE_le cc107) (by decide)), (om39 ((g158 58).toInt) ((g83 58).toInt) (congrArg Int32.toInt e_g158_58) hf_B81_15), ha85_r24rg, (om141 ((g158 17).toInt) ((g83 17).toInt) (congrArg Int32.toInt e_g158_17) hf_B81_16), ha85_r6rg, (om333 ((g158 23).toInt) ((g83 23).toInt) (congrArg Int32.toInt e_g158_23) hf_B81_17), (om89 ((g158 15).toInt) ((g83 15).toInt) (congrArg Int32.toInt e_g158_15) hf_B81_18), (om141 ((g158 13).toInt) ((g83 13).toInt) (congrArg Int32.toInt e_g158_13) hf_B81_19), ha85_r1rg, ha85_r12rg, ha85_r13rg, ha85_r14rg⟩ hw dX12_openBox_126
                  · have e_g93_52 : g93 52 = (g83 52) := (h98 52 rfl)
                    have e_g93_55 : g93 55 = (g83 55) := (h98 55 rfl)
                    have e_g93_24 : g93 24 = (g83 24) := (h98 24 rfl)
                    have e_g93_25 : g93 25 = (g83 25) := (h98 25 rfl)
                    have e_g93_26 : g93 26 = (g83 26) := (h98 26 rfl)
                    have e_g93_27 : g93 27 = (g83 27) := (h98 27 rfl)
                    have e_g93_20 : g93 20 = (g83 20) := (h98 20 rfl)
                    have e_g93_58 : g93 58 = (g83 58) := (h98 58 rfl)
                    have e_g93_17 : g93 17 = (g83 17) := (h98 17 rfl)
                    have e_g93_23 : g93 23 = (g83 23) := (h98 23 rfl)
                    have e_g93_15 : g93 15 = (g83 15) := (h98 15 rfl)
                    have e_g93_13 : g93 13 = (g83 13) := (h98 13 rfl)
                    exact kr g93 l84 a85 bk _ _ _ _ ⟨(hk_frT (hk_frT (hk_frT (hk_frT (hk_frT (hk_frG (hk_frT (hk_frT (hk_frT hk_fr0 (by decide) hfr_g3) (by decide) h16) (by decide) h35) (by decide) h_g44) (by decide) hfr_g46) (by decide) h57) (by decide) h71) (by decide) hfr_g83) (by decide) h98), hfr_l84, hfr_a85, rfl, (om202 ((g93 49).toInt) h105), (om203 ((g93 51).toInt) (((0 : Int32)).toInt) h106 (hE_nle cc107) (by decide)), (om141 ((g93 52).toInt) ((g83 52).toInt) (congrArg Int32.toInt e_g93_52) hf_B81_8), (om497 ((g93 55).toInt) ((g83 55).toInt) (congrArg Int32.toInt e_g93_55) hf_B81_9), (om162 ((g93 24).toInt) ((g83 24).toInt) (congrArg Int32.toInt e_g93_24) hf_B81_10), (om162 ((g93 25).toInt) ((g83 25).toInt) (congrArg Int32.toInt e_g93_25) hf_B81_11), (om162 ((g93 26).toInt) ((g83 26).toInt) (congrArg Int32.toInt e_g93_26) hf_B81_12), (om162 ((g93 27).toInt) ((g83 27).toInt) (congrArg Int32.toInt e_g93_27) hf_B81_13), (om702 ((g93 20).toInt) ((g83 20).toInt) ((g83 49).toInt) (congrArg Int32.toInt e_g93_20) hf_B81_2 hf_B81_14 hf_B81_6), (om39 ((g93 58).toInt) ((g83 58).toInt) (congrArg Int32.toInt e_g93_58) hf_B81_15), ha85_r24rg, (om141 ((g93 17).toInt) ((g83 17).toInt) (congrArg Int32.toInt e_g93_17) hf_B81_16), ha85_r6rg, (om333 ((g93 23).toInt) ((g83 23).toInt) (congrArg Int32.toInt e_g93_23) hf_B81_17), (om89 ((g93 15).toInt) ((g83 15).toInt) (congrArg Int32.toInt e_g93_15) hf_B81_18), (om141 ((g93 13).toInt) ((g83 13).toInt) (congrArg Int32.toInt e_g93_13) hf_B81_19), ha85_r1rg, ha85_r12rg, ha85_r13rg, ha85_r14rg⟩ hw dX12_openBox_115
            have e_g66_20 : g66 20 = (g 20) := ((h71 20 rfl)).trans (((h57 20 rfl)).trans (((hfr_g46 20 rfl)).trans (((hk_upgN h_g44 20 rfl)).trans (((h35 20 rfl)).trans (((h16 20 rfl)).trans (hfr_g3 20 rfl))))))
            have e_g66_18 : g66 18 = (g 18) := ((h71 18 rfl)).trans (((h57 18 rfl)).trans (((hfr_g46 18 rfl)).trans (((hk_upgN h_g44 18 rfl)).trans (((h35 18 rfl)).trans (((h16 18 rfl)).trans (hfr_g3 18 rfl))))))
            have e_g66_13 : g66 13 = (g 13) := ((h71 13 rfl)).trans (((h57 13 rfl)).trans (((hfr_g46 13 rfl)).trans (((hk_upgN h_g44 13 rfl)).trans (((h35 13 rfl)).trans (((h16 13 rfl)).trans (hfr_g3 13 rfl))))))
            have e_g66_55 : g66 55 = (g 55) := ((h71 55 rfl)).trans (((h57 55 rfl)).trans (((hfr_g46 55 rfl)).trans (((hk_upgN h_g44 55 rfl)).trans (((h35 55 rfl)).trans (((h16 55 rfl)).trans (hfr_g3 55 rfl))))))
            have e_g66_52 : g66 52 = (g 52) := ((h71 52 rfl)).trans (((h57 52 rfl)).trans (((hfr_g46 52 rfl)).trans (((hk_upgN h_g44 52 rfl)).trans (((h35 52 rfl)).trans (((h16 52 rfl)).trans (hfr_g3 52 rfl))))))
            have e_g66_24 : g66 24 = (g 24) := ((h71 24 rfl)).trans (((h57 24 rfl)).trans (((hfr_g46 24 rfl)).trans (((hk_upgN h_g44 24 rfl)).trans (((h35 24 rfl)).trans (((h16 24 rfl)).trans (hfr_g3 24 rfl))))))
            have e_g66_25 : g66 25 = (g 25) := ((h71 25 rfl)).trans (((h57 25 rfl)).trans (((hfr_g46 25 rfl)).trans (((hk_upgN h_g44 25 rfl)).trans (((h35 25 rfl)).trans (((h16 25 rfl)).trans (hfr_g3 25 rfl))))))
            have e_g66_26 : g66 26 = (g 26) := ((h71 26 rfl)).trans (((h57 26 rfl)).trans (((hfr_g46 26 rfl)).trans (((hk_upgN h_g44 26 rfl)).trans (((h35 26 rfl)).trans (((h16 26 rfl)).trans (hfr_g3 26 rfl))))))
            have e_g66_27 : g66 27 = (g 27) := ((h71 27 rfl)).trans (((h57 27 rfl)).trans (((hfr_g46 27 rfl)).trans (((hk_upgN h_g44 27 rfl)).trans (((h35 27 rfl)).trans (((h16 27 rfl)).trans (hfr_g3 27 rfl))))))
            have e_g66_58 : g66 58 = (g 58) := ((h71 58 rfl)).trans (((h57 58 rfl)).trans (((hfr_g46 58 rfl)).trans (((hk_upgN h_g44 58 rfl)).trans (((h35 58 rfl)).trans (((h16 58 rfl)).trans (hfr_g3 58 rfl))))))
            have e_g66_17 : g66 17 = (g 17) := ((h71 17 rfl)).trans (((h57 17 rfl)).trans (((hfr_g46 17 rfl)).trans (((hk_upgN h_g44 17 rfl)).trans (((h35 17 rfl)).trans (((h16 17 rfl)).trans (hfr_g3 17 rfl))))))
            have e_g66_23 : g66 23 = (g 23) := ((h71 23 rfl)).trans (((h57 23 rfl)).trans (((hfr_g46 23 rfl)).trans (((hk_upgN h_g44 23 rfl)).trans (((h35 23 rfl)).trans (((h16 23 rfl)).trans (hfr_g3 23 rfl))))))
            have e_g66_15 : g66 15 = (g 15) := ((h71 15 rfl)).trans (((h57 15 rfl)).trans (((hfr_g46 15 rfl)).trans (((hk_upgN h_g44 15 rfl)).trans (((h35 15 rfl)).trans (((h16 15 rfl)).trans (hfr_g3 15 rfl))))))
            exact B81 (20 * (1502 - (g66 49).toInt) - (g66 51).toInt).toNat x80 g66 lg ar ls _ _ (Int.self_le_toNat _) (om223 ((x80).toInt) hf_B79_0) (om703 ((x80).toInt) ((g66 51).toInt) h78 hf_B79_1) (om704 ((g66 20).toInt) ((g66 49).toInt) ((g52 49).toInt) ((g 20).toInt) ((g 49).toInt) ((g30 49).toInt) ((g3 49).toInt) ((g11 49).toInt) h75 (congrArg Int32.toInt e_g66_20) hr0 (congrArg Int32.toInt e_g52_49) hf_B1_1 h41 h20) (om705 ((x80).toInt) ((g66 18).toInt) ((g66 13).toInt) ((g66 55).toInt) ((g 18).toInt) ((g 13).toInt) ((g 55).toInt) (congrArg Int32.toInt e_g66_18) (congrArg Int32.toInt e_g66_13) (congrArg Int32.toInt e_g66_55) hr1 hr3 hi_g55) (om706 ((g 49).toInt) ((g66 49).toInt) ((g3 49).toInt) ((g52 49).toInt) ((g11 49).toInt) ((g30 49).toInt) hf_B1_1 h75 h20 (congrArg Int32.toInt e_g52_49) h41) (om498 ((g 51).toInt) ((g66 51).toInt) hr2) (om202 ((g66 49).toInt) h77) (om206 ((g66 51).toInt) h78) (om141 ((g66 52).toInt) ((g 52).toInt) (congrArg Int32.toInt e_g66_52) hi_g52) (om416 ((g66 55).toInt) ((g 55).toInt) (congrArg Int32.toInt e_g66_55) hr3) (om162 ((g66 24).toInt) ((g 24).toInt) (congrArg Int32.toInt e_g66_24) hi_g24) (om162 ((g66 25).toInt) ((g 25).toInt) (congrArg Int32.toInt e_g66_25) hi_g25) (om162 ((g66 26).toInt) ((g 26).toInt) (congrArg Int32.toInt e_g66_26) hi_g26) (om162 ((g66 27).toInt) ((g 27).toInt) (congrArg Int32.toInt e_g66_27) hi_g27) (om702 ((g66 20).toInt) ((g 20).toInt) ((g 49).toInt) (congrArg Int32.toInt e_g66_20) hr0 hi_g20 hi_g49) (om39 ((g66 58).toInt) ((g 58).toInt) (congrArg Int32.toInt e_g66_58) hi_g58) (om141 ((g66 17).toInt) ((g 17).toInt) (congrArg Int32.toInt e_g66_17) hi_g17) (om333 ((g66 23).toInt) ((g 23).toInt) (congrArg Int32.toInt e_g66_23) hi_g23) (om89 ((g66 15).toInt) ((g 15).toInt) (congrArg Int32.toInt e_g66_15) hi_g15) (om141 ((g66 13).toInt) ((g 13).toInt) (congrArg Int32.toInt e_g66_13) hi_g13) hk_fr0 hk_fr0 hk_fr0 hi_a24rg hi_a6rg hi_a1rg hi_a12rg hi_a13rg hi_a14rg hw (lv_sub hl [1, 2, 0] rfl)
          refine lv_if_ne (tgt := 91) hx hb dX12_openBox_84 (by decide) (fun cc171 => ?_) (fun cc171 => ?_)
          · refine lv_iconst (v := 0) hx hb dX12_openBox_91 (by decide) ?_
            exact B79 0 ls _ _ (om226 (((0 : Int32)).toInt) (by decide)) (om700 (((0 : Int32)).toInt) ((g66 51).toInt) (by decide)) hw (lv_sub hl [0, 1] rfl)
          · refine lv_iconst (v := 1) hx hb dX12_openBox_87 (by decide) ?_
            refine lv_goto (tgt := 92) hx hb dX12_openBox_88 (by decide) ?_
            exact B79 1 ls _ _ (om225 (((1 : Int32)).toInt) (by decide)) (om701 (((1 : Int32)).toInt) ((g66 51).toInt) (((0 : Int32)).toInt) h78 (hE_eq cc171) (by decide)) hw (lv_sub hl [0, 1] rfl)
        refine lv_if_ne (tgt := 68) hx hb dX12_openBox_42 (by decide) (fun cc172 => ?_) (fun cc172 => ?_)
        · exact B45 g44 ls _ _ (om498 ((g 51).toInt) ((g44 51).toInt) hr2) (om707 ((g44 51).toInt) ((g30 51).toInt) (((0 : Int32)).toInt) (congrArg Int32.toInt e_g44_51) h43 (hE_ne cc172) (by decide)) hk_fr0 hw (lv_sub hl [0, 1] rfl)
        · refine lv_aload_n hx hb dX12_openBox_45 rfl (lv_at hl 0 rfl) ?_
          have e_g44_57 : g44 57 = r29 := (hk_upgS h_g44)
          refine hk_get (ci := 15) (C := RX12) (T := TX12) (N := 92) (v := .int r29) hx hb hts (fun _ h => List.mem_cons_of_mem _ (wwMc_wsX120 _ h)) hown hw 0 rfl rfl 86 (by decide) (hq _ wM_303) (congrArg (fun z => some (Value.int z)) e_g44_57) dX12_openBox_46 ?_
          refine lv_if_eq (tgt := 68) hx hb dX12_openBox_49 (by decide) (fun cc173 => ?_) (fun cc173 => ?_)
          · exact B45 g44 ls _ _ (om498 ((g 51).toInt) ((g44 51).toInt) hr2) (om614 ((g44 51).toInt) ((g30 51).toInt) (((0 : Int32)).toInt) (congrArg Int32.toInt e_g44_51) h43 (hE_eq cc172) (by decide)) hk_fr0 hw (lv_sub hl [0, 1] rfl)
          · refine lv_aload_n hx hb dX12_openBox_52 rfl (lv_at hl 0 rfl) ?_
            refine hk_get (ci := 15) (C := RX12) (T := TX12) (N := 92) (v := .int r29) hx hb hts (fun _ h => List.mem_cons_of_mem _ (wwMc_wsX120 _ h)) hown hw 0 rfl rfl 86 (by decide) (hq _ wM_303) (congrArg (fun z => some (Value.int z)) e_g44_57) dX12_openBox_53 ?_
            refine jx_Si (As := [.int r29]) (rest := []) ⟨hx, hb, hml, hown, hts⟩ hZ hw hA (jm_X12_checkSize l hlt D t3 cI cJ ad g44 lg ar bk _ r29) (va_cwS 1 hts (jx_gS wwM_good wM_112 wM_113 wM_8 wM_114) rfl rfl rfl (by decide +kernel) ⟨Nat.le_of_ble_eq_true rfl, Nat.le_of_ble_eq_true rfl⟩) rfl hl.1 rfl (Nat.le_of_ble_eq_true rfl) dX12_openBox_56 ⟨Nat.le_of_ble_eq_true rfl, Nat.le_of_ble_eq_true rfl⟩ (fun _ _ _ _ _ _ _ _ hp _ _ _ _ => hp.elim) (fun r178 g179 l180 a181 b182 H locs hp183 hw => ?_)
            obtain ⟨rfl, rfl, rfl, rfl, h188⟩ := hp183
            refine lv_if_ne (tgt := 68) hx hb dX12_openBox_59 (by decide) (fun cc189 => ?_) (fun cc189 => ?_)
            · exact B45 g44 ls _ _ (om498 ((g 51).toInt) ((g44 51).toInt) hr2) (om614 ((g44 51).toInt) ((g30 51).toInt) (((0 : Int32)).toInt) (congrArg Int32.toInt e_g44_51) h43 (hE_eq cc172) (by decide)) hk_fr0 hw (lv_sub hl [0, 1] rfl)
            · refine lv_aload_n hx hb dX12_openBox_62 rfl (lv_at hl 0 rfl) ?_
              refine lv_bipush (v := 14) hx hb dX12_openBox_63 (by decide) ?_
              refine jx_Vv (As := [.int 14]) (rest := []) ⟨hx, hb, hml, hown, hts⟩ hZ hw hA (jm_X12_fail l hlt D t3 cI cJ ad g44 lg ar bk _ 14 (om708 (((14 : Int32)).toInt) (by decide)) (om614 ((g44 51).toInt) ((g30 51).toInt) (((0 : Int32)).toInt) (congrArg Int32.toInt e_g44_51) h43 (hE_eq cc172) (by decide))) (cwV 1 hts (jx_gV wwM_good wM_64 wM_65 wM_66 wM_8 wM_67) rfl rfl rfl (by decide +kernel) ⟨Nat.le_of_ble_eq_true rfl, Nat.le_of_ble_eq_true rfl⟩) 0 (ci := 15) (T := TX12) (N := 92) rfl rfl rfl hl.1 rfl (Nat.le_of_ble_eq_true rfl) dX12_openBox_65 ⟨Nat.le_of_ble_eq_true rfl, Nat.le_of_ble_eq_true rfl⟩ (fun _ _ _ _ _ _ _ _ hp _ _ _ _ => hp.elim) (fun g195 l196 a197 b198 H locs hp199 hw => ?_)
              obtain ⟨h200, rfl, rfl, rfl, h204, h205⟩ := hp199
              exact B45 g195 ls _ _ (om515 ((g 51).toInt) ((g195 51).toInt) hr2 h204) (om193 ((g195 51).toInt) h204 h205) h200 hw (lv_sub hl [0, 1] rfl)
      · refine lv_aload_n hx hb dX12_openBox_8 rfl (lv_at hl 0 rfl) ?_
        refine lv_iload_n hx hb dX12_openBox_9 rfl (lv_at hl 2 rfl) ?_
        refine jx_Si (As := [.int x2]) (rest := [.ref (ad 0)]) ⟨hx, hb, hml, hown, hts⟩ hZ hw hA (jm_X12_magic l hlt D t3 cI cJ ad g3 lg ar bk _ x2) (va_cwS 1 hts (jx_gS wwM_good wM_304 wM_305 wM_8 wM_306) rfl rfl rfl (by decide +kernel) ⟨Nat.le_of_ble_eq_true rfl, Nat.le_of_ble_eq_true rfl⟩) rfl hl.1 rfl (Nat.le_of_ble_eq_true rfl) dX12_openBox_10 ⟨Nat.le_of_ble_eq_true rfl, Nat.le_of_ble_eq_true rfl⟩ (fun _ _ _ _ _ _ _ _ hp _ _ _ _ => hp.elim) (fun r210 g211 l212 a213 b214 H locs hp215 hw => ?_)
        obtain ⟨rfl, rfl, rfl, rfl⟩ := hp215
        refine lv_iconst (v := 2) hx hb dX12_openBox_13 (by decide) ?_
        have e_g3_12 : g3 12 = (g 12) := (hfr_g3 12 rfl)
        refine jx_Vv (As := [.int r210, .int 2]) (rest := []) ⟨hx, hb, hml, hown, hts⟩ hZ hw hA (jm_X12_wantByte l hlt D t3 cI cJ ad g3 lg ar bk _ r210 2 (om216 (((2 : Int32)).toInt) (by decide)) (om202 ((g3 49).toInt) hf_B1_3) (om206 ((g3 51).toInt) hf_B1_4) (om21 ((g3 12).toInt) ((g 12).toInt) (congrArg Int32.toInt e_g3_12) hi_g12) hi_a0rg) (cwV 2 hts (jx_gV wwM_good wM_278 wM_279 wM_280 wM_8 wM_281) rfl rfl rfl (by decide +kernel) ⟨Nat.le_of_ble_eq_true rfl, Nat.le_of_ble_eq_true rfl⟩) 0 (ci := 15) (T := TX12) (N := 92) rfl rfl rfl hl.1 rfl (Nat.le_of_ble_eq_true rfl) dX12_openBox_14 ⟨Nat.le_of_ble_eq_true rfl, Nat.le_of_ble_eq_true rfl⟩ (fun _ _ _ _ _ _ _ _ hp _ _ _ _ => hp.elim) (fun g225 l226 a227 b228 H locs hp229 hw => ?_)
        obtain ⟨h230, rfl, rfl, rfl, h234, h235, h236, h237, h238⟩ := hp229
        obtain ⟨z239, hz239⟩ : ∃ z : Int32, x2 + 1 = z := ⟨_, rfl⟩
        refine lv_iinc (v := z239) (lv' := [(2, .int z239), (0, .ref (ad 0)), (1, .int y1)]) hx hb dX12_openBox_17 hl (k := 2) rfl hz239 (by decide) rfl (fun ls hl => ?_)
        have xz239 : (z239).toInt = (x2).toInt + ((1 : Int32)).toInt := (hE_imp (hE_add hz239) (om709 ((x2).toInt) (((1 : Int32)).toInt) (((6 : Int32)).toInt) hf_B1_0 (hE_nle cc5) (by decide) (by decide)))
        refine lv_goto (tgt := 2) hx hb dX12_openBox_20 (by decide) ?_
        exact ih_B1 z239 g225 ls _ _ (om11 ((z239).toInt) (k4 : Int) ((x2).toInt) (((1 : Int32)).toInt) hrk_B1 xz239 (by decide)) (om14 ((z239).toInt) ((x2).toInt) (((1 : Int32)).toInt) xz239 hf_B1_0 (by decide)) (om209 ((g 49).toInt) ((g225 49).toInt) ((g3 49).toInt) hf_B1_1 h234) (om498 ((g 51).toInt) ((g225 51).toInt) hr2) (om202 ((g225 49).toInt) h237) (om206 ((g225 51).toInt) h238) (hk_frT hfr_g3 (by decide) h230) hw (lv_sub hl [1, 2, 0] rfl)
  exact B1 (2147483648 - ((0 : Int32)).toInt).toNat 0 g ls _ _ (Int.self_le_toNat _) (om18 (((0 : Int32)).toInt) (by decide)) (om122 ((g 49).toInt)) (om710 ((g 51).toInt) hr2) (om202 ((g 49).toInt) hi_g49) (om488 ((g 51).toInt) hr2 hi_g51) hk_fr0 hw (lv_sub hl [1, 2, 0] rfl)
