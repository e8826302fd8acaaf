/-! 87.mchoose -/
theorem om971 (v0 : Int) (v1 : Int) (v2 : Int) (h0 : 0 ≤ v1 ∧ v1 ≤ v0) (h1 : v0 ≤ 3000) (h2 : 1 ≤ v2 ∧ v2 ≤ v1) : -2147483648 ≤ v0 - v1 ∧ v0 - v1 ≤ 2147483647 := by omega
theorem om972 (v0 : Int) (v1 : Int) (v2 : Int) (v3 : Int) (h0 : v0 ≤ v1) (h1 : 2147483648 - v0 ≤ 0) (h2 : v1 ≤ 273 ∧ v1 ≤ v2 - v3 ∧ 0 ≤ v1) : (0 * v0) ≤ -1 := by omega
theorem om973 (v0 : Int) (v1 : Int) (v2 : Int) (v3 : Int) (h0 : v0 ≤ v1) (h1 : 0 ≤ v0) (h2 : v1 ≤ 273 ∧ v1 ≤ v2 - v3 ∧ 0 ≤ v1) : 0 ≤ v0 ∧ v0 ≤ 273 := by omega
theorem om974 (v0 : Int) (v1 : Int) (v2 : Int) (v3 : Int) (h0 : v3 ≤ 273 ∧ v3 ≤ v2 - v0 ∧ 0 ≤ v3) (h1 : v1 ≤ v3) : v0 + v1 ≤ v2 := by omega
theorem om975 (v0 : Int) (v1 : Int) (v2 : Int) (v3 : Int) (v4 : Int) (h0 : 1 ≤ v2 ∧ v2 ≤ v0) (h1 : v3 ≤ 273 ∧ v3 ≤ v4 - v0 ∧ 0 ≤ v3) (h2 : 0 ≤ v1) (h3 : v1 < v3) (h4 : v4 ≤ 3000) : -2147483648 ≤ v0 + v1 ∧ v0 + v1 ≤ 2147483647 := by omega
theorem om976 (v0 : Int) (v1 : Int) (v2 : Int) (v3 : Int) (v4 : Int) (v5 : Int) (h0 : v0 = v1 + v2) (h1 : 1 ≤ v3 ∧ v3 ≤ v1) (h2 : v4 ≤ 273 ∧ v4 ≤ v5 - v1 ∧ 0 ≤ v4) (h3 : 0 ≤ v2) (h4 : v2 < v4) (h5 : v5 ≤ 3000) : 0 ≤ v0 ∧ v0 < (3000 : Nat) := by omega
theorem om977 (v0 : Int) (v1 : Int) (v2 : Int) (v3 : Int) (v4 : Int) (v5 : Int) (h0 : 1 ≤ v1 ∧ v1 ≤ v2) (h1 : v0 = v2 + v3) (h2 : v4 ≤ 273 ∧ v4 ≤ v5 - v2 ∧ 0 ≤ v4) (h3 : 0 ≤ v3) (h4 : v3 < v4) (h5 : v5 ≤ 3000) : -2147483648 ≤ v0 - v1 ∧ v0 - v1 ≤ 2147483647 := by omega
theorem om978 (v0 : Int) (v1 : Int) (v2 : Int) (v3 : Int) (v4 : Int) (v5 : Int) (v6 : Int) (h0 : v0 = v1 - v2) (h1 : 1 ≤ v2 ∧ v2 ≤ v3) (h2 : v1 = v3 + v4) (h3 : v5 ≤ 273 ∧ v5 ≤ v6 - v3 ∧ 0 ≤ v5) (h4 : 0 ≤ v4) (h5 : v4 < v5) (h6 : v6 ≤ 3000) : 0 ≤ v0 ∧ v0 < (3000 : Nat) := by omega
theorem om979 (v0 : Int) (v1 : Int) (v2 : Int) (v3 : Int) (h0 : 0 ≤ v0) (h1 : v0 < v1) (h2 : v1 ≤ 273 ∧ v1 ≤ v2 - v3 ∧ 0 ≤ v1) : 0 ≤ v0 ∧ v0 ≤ 273 := by omega
theorem om980 (v0 : Int) (v1 : Int) (v2 : Int) (v3 : Int) (h0 : v3 ≤ 273 ∧ v3 ≤ v2 - v0 ∧ 0 ≤ v3) (h1 : v1 < v3) : v0 + v1 ≤ v2 := by omega
theorem om981 (v0 : Int) (v1 : Int) (v2 : Int) (v3 : Int) (v4 : Int) (h0 : 0 ≤ v0) (h1 : v0 < v2) (h2 : v2 ≤ 273 ∧ v2 ≤ v3 - v4 ∧ 0 ≤ v2) (h3 : v1 = 1) : -2147483648 ≤ v0 + v1 ∧ v0 + v1 ≤ 2147483647 := by omega
theorem om982 (v0 : Int) (v1 : Int) (v2 : Int) (v3 : Int) (h0 : v1 ≤ 273 ∧ v1 ≤ v2 - v3 ∧ 0 ≤ v1) (h1 : v0 = 0) : v0 ≤ v1 := by omega
theorem om983 (v0 : Int) (v1 : Int) (v2 : Int) (v3 : Int) (h0 : v3 = v1 - v2) (h1 : v0 ≤ v3) (h2 : v0 = 273) : v0 ≤ 273 ∧ v0 ≤ v1 - v2 ∧ 0 ≤ v0 := by omega
theorem om984 (v0 : Int) (v1 : Int) (v2 : Int) (v3 : Int) (h0 : 0 ≤ v1 ∧ v1 ≤ v0) (h1 : v2 = v0 - v1) (h2 : v2 < v3) (h3 : v3 = 273) : -2147483648 ≤ v0 - v1 ∧ v0 - v1 ≤ 2147483647 := by omega
theorem om985 (v0 : Int) (v1 : Int) (v2 : Int) (v3 : Int) (v4 : Int) (h0 : 0 ≤ v2 ∧ v2 ≤ v1) (h1 : v3 = v1 - v2) (h2 : v0 = v1 - v2) (h3 : v3 < v4) (h4 : v4 = 273) : v0 ≤ 273 ∧ v0 ≤ v1 - v2 ∧ 0 ≤ v0 := by omega
theorem om986 (v0 : Int) (h0 : v0 ≤ 3001) (h1 : 2147483648 - v0 ≤ 0) : (0 * v0) ≤ -1 := by omega
theorem om987 (v0 : Int) (v1 : Int) (v2 : Int) (h0 : 0 ≤ v0 ∧ v0 ≤ 273 ∧ v1 + v0 ≤ v2) : 0 ≤ v0 ∧ v0 ≤ 273 ∧ v1 + v0 ≤ v2 := by omega
theorem om988 (v0 : Int) (v1 : Int) (v2 : Int) (h0 : 1 ≤ v0 → (1 ≤ v1 ∧ v1 ≤ v2)) : 1 ≤ v0 → (1 ≤ v1 ∧ v1 ≤ v2) := by omega
theorem om989 (v0 : Int) (v1 : Int) (v2 : Int) (v3 : Int) (v4 : Int) (h0 : 0 ≤ v0 ∧ v0 ≤ v2) (h1 : v3 ≤ v0) (h2 : v1 = v2) (h3 : v4 ≤ v3) (h4 : 1 ≤ v4) : 0 ≤ v0 ∧ v0 ≤ v1 := by omega
theorem om990 (v0 : Int) (v1 : Int) (h0 : v0 = v1) (h1 : v1 ≤ 3000) : v0 ≤ 3000 := by omega
theorem om991 (v0 : Int) (v1 : Int) (v2 : Int) (h0 : v2 ≤ v1) (h1 : 1 ≤ v0) (h2 : v0 ≤ v2) : 1 ≤ v0 ∧ v0 ≤ v1 := by omega
theorem om992 (v0 : Int) (v1 : Int) (v2 : Int) (v3 : Int) (v4 : Int) (h0 : 1 ≤ v0) (h1 : v0 ≤ v2) (h2 : v2 ≤ v3) (h3 : 0 ≤ v3 ∧ v3 ≤ v4) (h4 : v4 ≤ 3000) (h5 : v1 = 1) : -2147483648 ≤ v0 + v1 ∧ v0 + v1 ≤ 2147483647 := by omega
theorem om993 (v0 : Int) (v1 : Int) (v2 : Int) (v3 : Int) (v4 : Int) (v5 : Int) (h0 : v0 = v1 + v2) (h1 : v1 ≤ v3) (h2 : v3 ≤ v4) (h3 : 0 ≤ v4 ∧ v4 ≤ v5) (h4 : v5 ≤ 3000) (h5 : v2 = 1) : v0 ≤ 3001 := by omega
theorem om994 (v0 : Int) (v1 : Int) (v2 : Int) (h0 : v0 = v1 + v2) (h1 : 1 ≤ v1) (h2 : v2 = 1) : 1 ≤ v0 := by omega
theorem om995 (v0 : Int) (v1 : Int) (v2 : Int) (v3 : Int) (v4 : Int) (v5 : Int) (h0 : 0 ≤ v3 ∧ v3 ≤ 273 ∧ v1 + v3 ≤ v2) (h1 : v4 = v2) (h2 : v1 + v5 ≤ v4) (h3 : v0 = v5) (h4 : 0 ≤ v5 ∧ v5 ≤ 273) (h5 : v3 < v5) : 0 ≤ v0 ∧ v0 ≤ 273 ∧ v1 + v0 ≤ v2 := by omega
theorem om996 (v0 : Int) (v1 : Int) (v2 : Int) (v3 : Int) (v4 : Int) (h0 : v3 ≤ v2) (h1 : v1 = v4) (h2 : 1 ≤ v4) (h3 : v4 ≤ v3) : 1 ≤ v0 → (1 ≤ v1 ∧ v1 ≤ v2) := by omega
theorem om997 (v0 : Int) (v1 : Int) (v2 : Int) (v3 : Int) (v4 : Int) (v5 : Int) (v6 : Int) (v7 : Int) (h0 : v0 = v1) (h1 : 1 ≤ v1) (h2 : v1 ≤ v2) (h3 : v2 ≤ v3) (h4 : 0 ≤ v4 ∧ v4 ≤ 273 ∧ v3 + v4 ≤ v5) (h5 : v3 + v6 ≤ v7) (h6 : v5 ≤ 3000) (h7 : v7 = v5) (h8 : v4 < v6) : 0 ≤ v0 ∧ v0 ≤ 3000 := by omega
theorem om998 (v0 : Int) (v1 : Int) (v2 : Int) (v3 : Int) (h0 : 0 ≤ v1 ∧ v1 ≤ v2) (h1 : v0 = v3) (h2 : v3 = 0) : 0 ≤ v0 ∧ v0 ≤ 273 ∧ v1 + v0 ≤ v2 := by omega
theorem om999 (v0 : Int) (v1 : Int) (v2 : Int) (v3 : Int) (h0 : v0 = v3) (h1 : v3 = 0) : 1 ≤ v0 → (1 ≤ v1 ∧ v1 ≤ v2) := by omega
theorem om1000 (v0 : Int) (h0 : v0 = 1) : v0 ≤ 3001 := by omega
theorem om1001 (v0 : Int) (h0 : v0 = 1) : 1 ≤ v0 := by omega
theorem om1002 (v0 : Int) (v1 : Int) (h0 : v0 < v1) : v0 ≤ v1 := by omega
theorem om1003 (v0 : Int) (v1 : Int) (h0 : 0 ≤ v0 ∧ v0 ≤ v1) : 0 ≤ v0 ∧ v0 ≤ v1 := by omega
theorem om1004 (v0 : Int) (h0 : v0 ≤ 3000) : v0 ≤ 3000 := by omega
theorem om1005 (v0 : Int) (v1 : Int) (v2 : Int) (v3 : Int) (v4 : Int) (v5 : Int) (v6 : Int) (v7 : Int) (v8 : Int) (h0 : 0 ≤ v1 ∧ v1 ≤ v2) (h1 : v3 ≤ v1) (h2 : (v4 = 0 → v0 = v5) ∧ (v4 = 1 → v0 = v6) ∧ (v4 = 2 → v0 = v7) ∧ (v4 = 3 → v0 = v8)) (h3 : 0 ≤ v4 ∧ v4 ≤ 3) (h4 : 1 ≤ v5 ∧ v5 ≤ 3000) (h5 : 1 ≤ v6 ∧ v6 ≤ 3000) (h6 : 1 ≤ v7 ∧ v7 ≤ 3000) (h7 : 1 ≤ v8 ∧ v8 ≤ 3000) (h8 : (v4 = 0 → v3 = v5) ∧ (v4 = 1 → v3 = v6) ∧ (v4 = 2 → v3 = v7) ∧ (v4 = 3 → v3 = v8)) (h9 : -2147483648 ≤ v0 ∧ v0 ≤ 2147483647) (h10 : -2147483648 ≤ v1 ∧ v1 ≤ 2147483647) (h11 : -2147483648 ≤ v3 ∧ v3 ≤ 2147483647) (h12 : -2147483648 ≤ v4 ∧ v4 ≤ 2147483647) (h13 : -2147483648 ≤ v5 ∧ v5 ≤ 2147483647) (h14 : -2147483648 ≤ v6 ∧ v6 ≤ 2147483647) (h15 : -2147483648 ≤ v7 ∧ v7 ≤ 2147483647) (h16 : -2147483648 ≤ v8 ∧ v8 ≤ 2147483647) : 1 ≤ v0 ∧ v0 ≤ v1 := by omega
theorem om1006 (v0 : Int) (h0 : 0 ≤ v0 ∧ v0 ≤ 273) : 0 ≤ v0 ∧ v0 ≤ 273 := by omega
theorem om1007 (v0 : Int) (v1 : Int) (v2 : Int) (h0 : v0 + v1 ≤ v2) : v0 + v1 ≤ v2 := by omega
theorem om1008 (v0 : Int) (v1 : Int) (v2 : Int) (v3 : Int) (v4 : Int) (v5 : Int) (v6 : Int) (v7 : Int) (h0 : 0 ≤ v1 ∧ v1 ≤ 3) (h1 : (v1 = 0 → v7 = v2) ∧ (v1 = 1 → v7 = v4) ∧ (v1 = 2 → v7 = v5) ∧ (v1 = 3 → v7 = v6)) (h2 : v7 ≤ v3) : ((1 ≤ v0 ∧ v1 = 0) → v2 ≤ v3) ∧ ((1 ≤ v0 ∧ v1 = 1) → v4 ≤ v3) ∧ ((1 ≤ v0 ∧ v1 = 2) → v5 ≤ v3) ∧ ((1 ≤ v0 ∧ v1 = 3) → v6 ≤ v3) := by omega
theorem om1009 (v0 : Int) (h0 : v0 = 0) : 0 ≤ v0 ∧ v0 ≤ 273 := by omega
theorem om1010 (v0 : Int) (v1 : Int) (v2 : Int) (h0 : 0 ≤ v0 ∧ v0 ≤ v2) (h1 : v1 = 0) : v0 + v1 ≤ v2 := by omega
theorem om1011 (v0 : Int) (v1 : Int) (v2 : Int) (v3 : Int) (v4 : Int) (v5 : Int) (v6 : Int) (h0 : v0 = 0) : ((1 ≤ v0 ∧ v1 = 0) → v2 ≤ v3) ∧ ((1 ≤ v0 ∧ v1 = 1) → v4 ≤ v3) ∧ ((1 ≤ v0 ∧ v1 = 2) → v5 ≤ v3) ∧ ((1 ≤ v0 ∧ v1 = 3) → v6 ≤ v3) := by omega
theorem om1012 (v0 : Int) (v1 : Int) (h0 : 0 ≤ v0 ∧ v0 < v1) : 0 ≤ v0 ∧ v0 ≤ v1 := by omega
theorem om1013 (v0 : Int) (h0 : 1 ≤ v0 ∧ v0 ≤ 4096) : 1 ≤ v0 ∧ v0 ≤ 4096 := by omega
theorem om1014 (v0 : Int) (h0 : v0 ≤ 4) (h1 : 2147483648 - v0 ≤ 0) : (0 * v0) ≤ -1 := by omega
theorem om1015 (v0 : Int) (v1 : Int) (v2 : Int) (h0 : 0 ≤ v0 ∧ v0 < v2) (h1 : v1 = v2) : 0 ≤ v0 ∧ v0 ≤ v1 := by omega
theorem om1016 (v0 : Int) (v1 : Int) (v2 : Int) (v3 : Int) (h0 : 0 ≤ v3 ∧ v3 ≤ 273 ∧ v1 + v3 ≤ v2) (h1 : v0 = v3) (h2 : 2 ≤ v3) : 1 ≤ v0 ∧ v1 + v0 ≤ v2 ∧ v0 ≤ 3000 := by omega
theorem om1017 (v0 : Int) (v1 : Int) (h0 : v0 = v1) (h1 : v1 = 1) : 0 ≤ v0 ∧ v0 ≤ 6 := by omega
theorem om1018 (v0 : Int) (v1 : Int) (v2 : Int) (v3 : Int) (v4 : Int) (v5 : Int) (h0 : 1 ≤ v4 → (1 ≤ v5 ∧ v5 ≤ v3)) (h1 : v1 = v4) (h2 : v2 = v5) (h3 : 2 ≤ v4) : v0 = 1 → (2 ≤ v1 ∧ 1 ≤ v2 ∧ v2 ≤ v3) := by omega
theorem om1019 (v0 : Int) (v1 : Int) (v2 : Int) (h0 : v0 = v2) (h1 : v2 = 1) : (v0 = 0 ∨ v0 = 6) → v1 = 1 := by omega
theorem om1020 (v0 : Int) (v1 : Int) (v2 : Int) (v3 : Int) (h0 : v0 = v3) (h1 : v3 = 1) : v0 = 6 → v1 ≤ v2 := by omega
theorem om1021 (v0 : Int) (v1 : Int) (v2 : Int) (v3 : Int) (v4 : Int) (h0 : v0 = v4) (h1 : v4 = 1) : v0 = 2 → (2 ≤ v1 ∧ v2 ≤ v3) := by omega
theorem om1022 (v0 : Int) (v1 : Int) (v2 : Int) (v3 : Int) (v4 : Int) (h0 : v0 = v4) (h1 : v4 = 1) : v0 = 3 → (2 ≤ v1 ∧ v2 ≤ v3) := by omega
theorem om1023 (v0 : Int) (v1 : Int) (v2 : Int) (v3 : Int) (v4 : Int) (h0 : v0 = v4) (h1 : v4 = 1) : v0 = 4 → (2 ≤ v1 ∧ v2 ≤ v3) := by omega
theorem om1024 (v0 : Int) (v1 : Int) (v2 : Int) (v3 : Int) (v4 : Int) (h0 : v0 = v4) (h1 : v4 = 1) : v0 = 5 → (2 ≤ v1 ∧ v2 ≤ v3) := by omega
theorem om1025 (v0 : Int) (v1 : Int) (h0 : v1 ≤ v0) (h1 : v1 = 3) : 2 ≤ v0 := by omega
theorem om1026 (v0 : Int) (v1 : Int) (v2 : Int) (v3 : Int) (h0 : 0 ≤ v1 ∧ v1 < v2) (h1 : v0 = v3) (h2 : v3 = 1) : 1 ≤ v0 ∧ v1 + v0 ≤ v2 ∧ v0 ≤ 3000 := by omega
theorem om1027 (v0 : Int) (v1 : Int) (h0 : v0 = v1) (h1 : v1 = 0) : 0 ≤ v0 ∧ v0 ≤ 6 := by omega
theorem om1028 (v0 : Int) (v1 : Int) (v2 : Int) (v3 : Int) (v4 : Int) (h0 : v0 = v4) (h1 : v4 = 0) : v0 = 1 → (2 ≤ v1 ∧ 1 ≤ v2 ∧ v2 ≤ v3) := by omega
theorem om1029 (v0 : Int) (v1 : Int) (v2 : Int) (h0 : v1 = v2) (h1 : v2 = 1) : (v0 = 0 ∨ v0 = 6) → v1 = 1 := by omega
theorem om1030 (v0 : Int) (v1 : Int) (v2 : Int) (v3 : Int) (h0 : v0 = v3) (h1 : v3 = 0) : v0 = 6 → v1 ≤ v2 := by omega
theorem om1031 (v0 : Int) (v1 : Int) (v2 : Int) (v3 : Int) (v4 : Int) (h0 : v0 = v4) (h1 : v4 = 0) : v0 = 2 → (2 ≤ v1 ∧ v2 ≤ v3) := by omega
theorem om1032 (v0 : Int) (v1 : Int) (v2 : Int) (v3 : Int) (v4 : Int) (h0 : v0 = v4) (h1 : v4 = 0) : v0 = 3 → (2 ≤ v1 ∧ v2 ≤ v3) := by omega
theorem om1033 (v0 : Int) (v1 : Int) (v2 : Int) (v3 : Int) (v4 : Int) (h0 : v0 = v4) (h1 : v4 = 0) : v0 = 4 → (2 ≤ v1 ∧ v2 ≤ v3) := by omega
theorem om1034 (v0 : Int) (v1 : Int) (v2 : Int) (v3 : Int) (v4 : Int) (h0 : v0 = v4) (h1 : v4 = 0) : v0 = 5 → (2 ≤ v1 ∧ v2 ≤ v3) := by omega
theorem om1035 (v0 : Int) (v1 : Int) (h0 : v0 = v1) (h1 : v1 = 6) : 0 ≤ v0 ∧ v0 ≤ 6 := by omega
theorem om1036 (v0 : Int) (v1 : Int) (v2 : Int) (v3 : Int) (v4 : Int) (h0 : v0 = v4) (h1 : v4 = 6) : v0 = 1 → (2 ≤ v1 ∧ 1 ≤ v2 ∧ v2 ≤ v3) := by omega
theorem om1037 (v0 : Int) (v1 : Int) (v2 : Int) (v3 : Int) (v4 : Int) (v5 : Int) (v6 : Int) (v7 : Int) (v8 : Int) (v9 : Int) (h0 : v3 = v1) (h1 : ((1 ≤ v4 ∧ v5 = 0) → v3 ≤ v2) ∧ ((1 ≤ v4 ∧ v5 = 1) → v6 ≤ v2) ∧ ((1 ≤ v4 ∧ v5 = 2) → v7 ≤ v2) ∧ ((1 ≤ v4 ∧ v5 = 3) → v8 ≤ v2)) (h2 : v4 = v9) (h3 : v5 = 0) (h4 : v9 = 1) : v0 = 6 → v1 ≤ v2 := by omega
theorem om1038 (v0 : Int) (v1 : Int) (v2 : Int) (v3 : Int) (v4 : Int) (h0 : v0 = v4) (h1 : v4 = 6) : v0 = 2 → (2 ≤ v1 ∧ v2 ≤ v3) := by omega
theorem om1039 (v0 : Int) (v1 : Int) (v2 : Int) (v3 : Int) (v4 : Int) (h0 : v0 = v4) (h1 : v4 = 6) : v0 = 3 → (2 ≤ v1 ∧ v2 ≤ v3) := by omega
theorem om1040 (v0 : Int) (v1 : Int) (v2 : Int) (v3 : Int) (v4 : Int) (h0 : v0 = v4) (h1 : v4 = 6) : v0 = 4 → (2 ≤ v1 ∧ v2 ≤ v3) := by omega
theorem om1041 (v0 : Int) (v1 : Int) (v2 : Int) (v3 : Int) (v4 : Int) (h0 : v0 = v4) (h1 : v4 = 6) : v0 = 5 → (2 ≤ v1 ∧ v2 ≤ v3) := by omega
theorem om1042 (v0 : Int) (v1 : Int) (h0 : v0 = v1) (h1 : v1 = 2) : 2 ≤ v0 := by omega
theorem om1043 (v0 : Int) (v1 : Int) (v2 : Int) (v3 : Int) (h0 : 0 ≤ v0 ∧ v0 ≤ 273 ∧ v2 + v0 ≤ v3) (h1 : v1 = 1) : -2147483648 ≤ v0 - v1 ∧ v0 - v1 ≤ 2147483647 := by omega
theorem om1044 (v0 : Int) (v1 : Int) (v2 : Int) (v3 : Int) (v4 : Int) (v5 : Int) (h0 : v3 = v2) (h1 : v1 + v4 ≤ v3) (h2 : v0 = v4) (h3 : 0 ≤ v4 ∧ v4 ≤ 273) (h4 : v5 ≤ v4) (h5 : v5 = 2) : 1 ≤ v0 ∧ v1 + v0 ≤ v2 ∧ v0 ≤ 3000 := by omega
theorem om1045 (v0 : Int) (v1 : Int) (v2 : Int) (v3 : Int) (h0 : v0 = v1) (h1 : v1 = v2 + v3) (h2 : 0 ≤ v3 ∧ v3 ≤ 3) (h3 : v2 = 2) : 0 ≤ v0 ∧ v0 ≤ 6 := by omega
theorem om1046 (v0 : Int) (v1 : Int) (v2 : Int) (v3 : Int) (v4 : Int) (v5 : Int) (v6 : Int) (h0 : v0 = v4) (h1 : 0 ≤ v5 ∧ v5 ≤ 3) (h2 : v4 = v6 + v5) (h3 : v6 = 2) : v0 = 1 → (2 ≤ v1 ∧ 1 ≤ v2 ∧ v2 ≤ v3) := by omega
theorem om1047 (v0 : Int) (v1 : Int) (v2 : Int) (v3 : Int) (v4 : Int) (h0 : v0 = v2) (h1 : v2 = v3 + v4) (h2 : 0 ≤ v4 ∧ v4 ≤ 3) (h3 : v3 = 2) : (v0 = 0 ∨ v0 = 6) → v1 = 1 := by omega
theorem om1048 (v0 : Int) (v1 : Int) (v2 : Int) (v3 : Int) (v4 : Int) (v5 : Int) (h0 : v0 = v3) (h1 : 0 ≤ v4 ∧ v4 ≤ 3) (h2 : v3 = v5 + v4) (h3 : v5 = 2) : v0 = 6 → v1 ≤ v2 := by omega
theorem om1049 (v0 : Int) (v1 : Int) (v2 : Int) (v3 : Int) (v4 : Int) (v5 : Int) (v6 : Int) (v7 : Int) (v8 : Int) (v9 : Int) (v10 : Int) (v11 : Int) (h0 : v4 = v2) (h1 : ((1 ≤ v5 ∧ v6 = 0) → v4 ≤ v3) ∧ ((1 ≤ v5 ∧ v6 = 1) → v7 ≤ v3) ∧ ((1 ≤ v5 ∧ v6 = 2) → v8 ≤ v3) ∧ ((1 ≤ v5 ∧ v6 = 3) → v9 ≤ v3)) (h2 : v1 = v5) (h3 : v0 = v10) (h4 : 0 ≤ v6 ∧ v6 ≤ 3) (h5 : v11 ≤ v5) (h6 : v10 = v11 + v6) (h7 : v11 = 2) : v0 = 2 → (2 ≤ v1 ∧ v2 ≤ v3) := by omega
theorem om1050 (v0 : Int) (v1 : Int) (v2 : Int) (v3 : Int) (v4 : Int) (v5 : Int) (v6 : Int) (v7 : Int) (v8 : Int) (v9 : Int) (v10 : Int) (v11 : Int) (h0 : v4 = v2) (h1 : ((1 ≤ v5 ∧ v6 = 0) → v7 ≤ v3) ∧ ((1 ≤ v5 ∧ v6 = 1) → v4 ≤ v3) ∧ ((1 ≤ v5 ∧ v6 = 2) → v8 ≤ v3) ∧ ((1 ≤ v5 ∧ v6 = 3) → v9 ≤ v3)) (h2 : v1 = v5) (h3 : v0 = v10) (h4 : v11 ≤ v5) (h5 : v10 = v11 + v6) (h6 : v11 = 2) : v0 = 3 → (2 ≤ v1 ∧ v2 ≤ v3) := by omega
theorem om1051 (v0 : Int) (v1 : Int) (v2 : Int) (v3 : Int) (v4 : Int) (v5 : Int) (v6 : Int) (v7 : Int) (v8 : Int) (v9 : Int) (v10 : Int) (v11 : Int) (h0 : v4 = v2) (h1 : ((1 ≤ v5 ∧ v6 = 0) → v7 ≤ v3) ∧ ((1 ≤ v5 ∧ v6 = 1) → v8 ≤ v3) ∧ ((1 ≤ v5 ∧ v6 = 2) → v4 ≤ v3) ∧ ((1 ≤ v5 ∧ v6 = 3) → v9 ≤ v3)) (h2 : v1 = v5) (h3 : v0 = v10) (h4 : v11 ≤ v5) (h5 : v10 = v11 + v6) (h6 : v11 = 2) : v0 = 4 → (2 ≤ v1 ∧ v2 ≤ v3) := by omega
theorem om1052 (v0 : Int) (v1 : Int) (v2 : Int) (v3 : Int) (v4 : Int) (v5 : Int) (v6 : Int) (v7 : Int) (v8 : Int) (v9 : Int) (v10 : Int) (v11 : Int) (h0 : v4 = v2) (h1 : ((1 ≤ v5 ∧ v6 = 0) → v7 ≤ v3) ∧ ((1 ≤ v5 ∧ v6 = 1) → v8 ≤ v3) ∧ ((1 ≤ v5 ∧ v6 = 2) → v9 ≤ v3) ∧ ((1 ≤ v5 ∧ v6 = 3) → v4 ≤ v3)) (h2 : v1 = v5) (h3 : v0 = v10) (h4 : 0 ≤ v6 ∧ v6 ≤ 3) (h5 : v11 ≤ v5) (h6 : v10 = v11 + v6) (h7 : v11 = 2) : v0 = 5 → (2 ≤ v1 ∧ v2 ≤ v3) := by omega
theorem om1053 (v0 : Int) (v1 : Int) (h0 : 1 ≤ v0) (h1 : v0 < v1) (h2 : v1 = 4) : 0 ≤ v0 ∧ v0 ≤ 3 := by omega
theorem om1054 (v0 : Int) (v1 : Int) (h0 : v0 = v1) (h1 : v0 = v1) (h2 : 1 ≤ v1 ∧ v1 ≤ 3000) : 1 ≤ v0 ∧ v0 ≤ 3000 := by omega
theorem om1055 (v0 : Int) (v1 : Int) (v2 : Int) (h0 : 1 ≤ v0) (h1 : v0 < v2) (h2 : v1 = 1) (h3 : v2 = 4) : -2147483648 ≤ v0 + v1 ∧ v0 + v1 ≤ 2147483647 := by omega
theorem om1056 (v0 : Int) (v1 : Int) (v2 : Int) (v3 : Int) (h0 : v0 = v1 + v2) (h1 : v1 < v3) (h2 : v2 = 1) (h3 : v3 = 4) : v0 ≤ 4 := by omega
theorem om1057 (v0 : Int) (h0 : v0 = 1) : v0 ≤ 4 := by omega
theorem om1058 (v0 : Int) (v1 : Int) (h0 : 0 ≤ v0 ∧ v0 < v1) : 0 ≤ v0 ∧ v0 < v1 := by omega
theorem om1059 (v0 : Int) (v1 : Int) (v2 : Int) (h0 : 1 ≤ v0 ∧ v1 + v0 ≤ v2 ∧ v0 ≤ 3000) : 1 ≤ v0 ∧ v1 + v0 ≤ v2 ∧ v0 ≤ 3000 := by omega
theorem om1060 (v0 : Int) (v1 : Int) (h0 : 0 ≤ v0 ∧ v0 ≤ 6) (h1 : v0 = v1) (h2 : v1 = 0) : 0 ≤ v0 ∧ v0 ≤ 6 := by omega
theorem om1061 (v0 : Int) (v1 : Int) (v2 : Int) (v3 : Int) (v4 : Int) (h0 : 1 ≤ v1 ∧ v2 + v1 ≤ v3 ∧ v1 ≤ 3000) (h1 : 0 ≤ v0 ∧ v0 ≤ 6) (h2 : (v0 = 0 ∨ v0 = 6) → v1 = 1) (h3 : v0 = v4) (h4 : v4 = 0) : (v0 = 0 ∨ v0 = 6) → v1 = 1 := by omega
theorem om1062 (v0 : Int) (v1 : Int) (v2 : Int) (v3 : Int) (v4 : Int) (v5 : Int) (h0 : v2 ≤ 3000) (h1 : 1 ≤ v0 ∧ v1 + v0 ≤ v2 ∧ v0 ≤ 3000) (h2 : v3 = 6 → v4 ≤ v1) (h3 : 1 ≤ v4 ∧ v4 ≤ 3000) (h4 : 0 ≤ v3 ∧ v3 ≤ 6) (h5 : v3 = v5) (h6 : v5 = 6) : 1 ≤ v0 ∧ v1 + v0 ≤ v2 ∧ v0 ≤ 3000 := by omega
theorem om1063 (v0 : Int) (v1 : Int) (h0 : 0 ≤ v0 ∧ v0 ≤ 6) (h1 : v0 = v1) (h2 : v1 = 6) : 0 ≤ v0 ∧ v0 ≤ 6 := by omega
theorem om1064 (v0 : Int) (v1 : Int) (v2 : Int) (v3 : Int) (v4 : Int) (h0 : 1 ≤ v1 ∧ v2 + v1 ≤ v3 ∧ v1 ≤ 3000) (h1 : 0 ≤ v0 ∧ v0 ≤ 6) (h2 : (v0 = 0 ∨ v0 = 6) → v1 = 1) (h3 : v0 = v4) (h4 : v4 = 6) : (v0 = 0 ∨ v0 = 6) → v1 = 1 := by omega
theorem om1065 (v0 : Int) (v1 : Int) (v2 : Int) (h0 : v0 = 6 → v1 ≤ v2) : v0 = 6 → v1 ≤ v2 := by omega
theorem om1066 (v0 : Int) (v1 : Int) (v2 : Int) (v3 : Int) (v4 : Int) (v5 : Int) (v6 : Int) (v7 : Int) (v8 : Int) (v9 : Int) (v10 : Int) (v11 : Int) (h0 : v2 ≤ 3000) (h1 : 1 ≤ v0 ∧ v1 + v0 ≤ v2 ∧ v0 ≤ 3000) (h2 : v3 = 1 → (2 ≤ v0 ∧ 1 ≤ v4 ∧ v4 ≤ v1)) (h3 : v3 = 2 → (2 ≤ v0 ∧ v5 ≤ v1)) (h4 : v3 = 3 → (2 ≤ v0 ∧ v6 ≤ v1)) (h5 : v3 = 4 → (2 ≤ v0 ∧ v7 ≤ v1)) (h6 : v3 = 5 → (2 ≤ v0 ∧ v8 ≤ v1)) (h7 : v9 ≤ v0) (h8 : 1 ≤ v5 ∧ v5 ≤ 3000) (h9 : 1 ≤ v6 ∧ v6 ≤ 3000) (h10 : 1 ≤ v7 ∧ v7 ≤ 3000) (h11 : 1 ≤ v8 ∧ v8 ≤ 3000) (h12 : 0 ≤ v3 ∧ v3 ≤ 6) (h13 : v3 ≠ v10) (h14 : v3 ≠ v11) (h15 : v9 = 32) (h16 : v10 = 0) (h17 : v11 = 6) : 1 ≤ v0 ∧ v1 + v0 ≤ v2 ∧ v0 ≤ 3000 := by omega
theorem om1067 (v0 : Int) (v1 : Int) (h0 : 0 ≤ v0 ∧ v0 ≤ 6) (h1 : v0 ≠ v1) (h2 : v1 = 0) : 0 ≤ v0 ∧ v0 ≤ 6 := by omega
theorem om1068 (v0 : Int) (v1 : Int) (v2 : Int) (v3 : Int) (v4 : Int) (h0 : v0 = 1 → (2 ≤ v1 ∧ 1 ≤ v2 ∧ v2 ≤ v3)) (h1 : v4 ≤ v1) (h2 : v4 = 32) : v0 = 1 → (2 ≤ v1 ∧ 1 ≤ v2 ∧ v2 ≤ v3) := by omega
theorem om1069 (v0 : Int) (v1 : Int) (v2 : Int) (v3 : Int) (h0 : 0 ≤ v0 ∧ v0 ≤ 6) (h1 : v0 ≠ v2) (h2 : v0 ≠ v3) (h3 : v2 = 0) (h4 : v3 = 6) : (v0 = 0 ∨ v0 = 6) → v1 = 1 := by omega
theorem om1070 (v0 : Int) (v1 : Int) (v2 : Int) (v3 : Int) (h0 : v0 ≠ v3) (h1 : v3 = 6) : v0 = 6 → v1 ≤ v2 := by omega
theorem om1071 (v0 : Int) (v1 : Int) (v2 : Int) (v3 : Int) (v4 : Int) (h0 : v0 = 2 → (2 ≤ v1 ∧ v2 ≤ v3)) (h1 : v4 ≤ v1) (h2 : v4 = 32) : v0 = 2 → (2 ≤ v1 ∧ v2 ≤ v3) := by omega
theorem om1072 (v0 : Int) (v1 : Int) (v2 : Int) (v3 : Int) (v4 : Int) (h0 : v0 = 3 → (2 ≤ v1 ∧ v2 ≤ v3)) (h1 : v4 ≤ v1) (h2 : v4 = 32) : v0 = 3 → (2 ≤ v1 ∧ v2 ≤ v3) := by omega
theorem om1073 (v0 : Int) (v1 : Int) (v2 : Int) (v3 : Int) (v4 : Int) (h0 : v0 = 4 → (2 ≤ v1 ∧ v2 ≤ v3)) (h1 : v4 ≤ v1) (h2 : v4 = 32) : v0 = 4 → (2 ≤ v1 ∧ v2 ≤ v3) := by omega
theorem om1074 (v0 : Int) (v1 : Int) (v2 : Int) (v3 : Int) (v4 : Int) (h0 : v0 = 5 → (2 ≤ v1 ∧ v2 ≤ v3)) (h1 : v4 ≤ v1) (h2 : v4 = 32) : v0 = 5 → (2 ≤ v1 ∧ v2 ≤ v3) := by omega
theorem om1075 (v0 : Int) (v1 : Int) (v2 : Int) (h0 : 0 ≤ v0 ∧ v0 < v2) (h1 : v2 ≤ 3000) (h2 : v1 = 1) : -2147483648 ≤ v0 + v1 ∧ v0 + v1 ≤ 2147483647 := by omega
theorem om1076 (v0 : Int) (v1 : Int) (v2 : Int) (v3 : Int) (h0 : 0 ≤ v0 ∧ v0 < v2) (h1 : v3 = v0 + v1) (h2 : v2 ≤ 3000) (h3 : v3 < v2) (h4 : v1 = 1) : -2147483648 ≤ v0 + v1 ∧ v0 + v1 ≤ 2147483647 := by omega
theorem om1077 (v0 : Int) (v1 : Int) (v2 : Int) (v3 : Int) (v4 : Int) (v5 : Int) (h0 : v1 = v2) (h1 : v0 = v3 + v4) (h2 : 0 ≤ v3 ∧ v3 < v2) (h3 : v5 = v3 + v4) (h4 : v5 < v2) (h5 : v4 = 1) : 0 ≤ v0 ∧ v0 < v1 := by omega
theorem om1078 (v0 : Int) (v1 : Int) (v2 : Int) (v3 : Int) (v4 : Int) (h0 : 1 ≤ v0 ∧ v2 + v0 ≤ v3 ∧ v0 ≤ 3000) (h1 : v0 < v4) (h2 : v1 = 2) (h3 : v4 = 32) : -2147483648 ≤ v0 + v1 ∧ v0 + v1 ≤ 2147483647 := by omega
theorem om1079 (v0 : Int) (v1 : Int) (v2 : Int) (v3 : Int) (v4 : Int) (v5 : Int) (v6 : Int) (v7 : Int) (v8 : Int) (v9 : Int) (v10 : Int) (v11 : Int) (v12 : Int) (h0 : 1 ≤ v3 ∧ v1 + v3 ≤ v2 ∧ v3 ≤ 3000) (h1 : v4 = 1 → (2 ≤ v3 ∧ 1 ≤ v5 ∧ v5 ≤ v1)) (h2 : v4 = 2 → (2 ≤ v3 ∧ v6 ≤ v1)) (h3 : v4 = 3 → (2 ≤ v3 ∧ v7 ≤ v1)) (h4 : v4 = 4 → (2 ≤ v3 ∧ v8 ≤ v1)) (h5 : v4 = 5 → (2 ≤ v3 ∧ v9 ≤ v1)) (h6 : v0 = v3) (h7 : 0 ≤ v4 ∧ v4 ≤ 6) (h8 : v4 ≠ v10) (h9 : v4 ≠ v11) (h10 : v3 < v12) (h11 : v10 = 0) (h12 : v11 = 6) (h13 : v12 = 32) : 1 ≤ v0 ∧ v1 + v0 ≤ v2 ∧ v0 ≤ 3000 := by omega
theorem om1080 (v0 : Int) (v1 : Int) (v2 : Int) (h0 : v0 = v1) (h1 : 0 ≤ v1 ∧ v1 ≤ 6) (h2 : v1 ≠ v2) (h3 : v2 = 0) : 0 ≤ v0 ∧ v0 ≤ 6 := by omega
theorem om1081 (v0 : Int) (v1 : Int) (v2 : Int) (v3 : Int) (v4 : Int) (v5 : Int) (v6 : Int) (h0 : v4 = 1 → (2 ≤ v5 ∧ 1 ≤ v6 ∧ v6 ≤ v3)) (h1 : v1 = v5) (h2 : v0 = v4) (h3 : v2 = v6) : v0 = 1 → (2 ≤ v1 ∧ 1 ≤ v2 ∧ v2 ≤ v3) := by omega
theorem om1082 (v0 : Int) (v1 : Int) (v2 : Int) (v3 : Int) (v4 : Int) (h0 : v0 = v2) (h1 : 0 ≤ v2 ∧ v2 ≤ 6) (h2 : v2 ≠ v3) (h3 : v2 ≠ v4) (h4 : v3 = 0) (h5 : v4 = 6) : (v0 = 0 ∨ v0 = 6) → v1 = 1 := by omega
theorem om1083 (v0 : Int) (v1 : Int) (v2 : Int) (v3 : Int) (v4 : Int) (h0 : v0 = v3) (h1 : 0 ≤ v3 ∧ v3 ≤ 6) (h2 : v3 ≠ v4) (h3 : v4 = 6) : v0 = 6 → v1 ≤ v2 := by omega
theorem om1084 (v0 : Int) (v1 : Int) (v2 : Int) (v3 : Int) (v4 : Int) (v5 : Int) (h0 : v4 = 2 → (2 ≤ v5 ∧ v2 ≤ v3)) (h1 : v1 = v5) (h2 : v0 = v4) : v0 = 2 → (2 ≤ v1 ∧ v2 ≤ v3) := by omega
theorem om1085 (v0 : Int) (v1 : Int) (v2 : Int) (v3 : Int) (v4 : Int) (v5 : Int) (h0 : v4 = 3 → (2 ≤ v5 ∧ v2 ≤ v3)) (h1 : v1 = v5) (h2 : v0 = v4) : v0 = 3 → (2 ≤ v1 ∧ v2 ≤ v3) := by omega
theorem om1086 (v0 : Int) (v1 : Int) (v2 : Int) (v3 : Int) (v4 : Int) (v5 : Int) (h0 : v4 = 4 → (2 ≤ v5 ∧ v2 ≤ v3)) (h1 : v1 = v5) (h2 : v0 = v4) : v0 = 4 → (2 ≤ v1 ∧ v2 ≤ v3) := by omega
theorem om1087 (v0 : Int) (v1 : Int) (v2 : Int) (v3 : Int) (v4 : Int) (v5 : Int) (h0 : v4 = 5 → (2 ≤ v5 ∧ v2 ≤ v3)) (h1 : v1 = v5) (h2 : v0 = v4) : v0 = 5 → (2 ≤ v1 ∧ v2 ≤ v3) := by omega
theorem om1088 (v0 : Int) (v1 : Int) (v2 : Int) (v3 : Int) (v4 : Int) (v5 : Int) (v6 : Int) (v7 : Int) (v8 : Int) (v9 : Int) (v10 : Int) (v11 : Int) (v12 : Int) (v13 : Int) (v14 : Int) (v15 : Int) (v16 : Int) (v17 : Int) (h0 : v3 = 1 → (2 ≤ v4 ∧ 1 ≤ v5 ∧ v5 ≤ v1)) (h1 : v3 = 2 → (2 ≤ v4 ∧ v6 ≤ v1)) (h2 : v3 = 3 → (2 ≤ v4 ∧ v7 ≤ v1)) (h3 : v3 = 4 → (2 ≤ v4 ∧ v8 ≤ v1)) (h4 : v3 = 5 → (2 ≤ v4 ∧ v9 ≤ v1)) (h5 : v10 = v2) (h6 : v11 = v1 + v12) (h7 : v0 = v12) (h8 : 0 ≤ v3 ∧ v3 ≤ 6) (h9 : v3 ≠ v13) (h10 : v3 ≠ v14) (h11 : 1 ≤ v15 ∧ v11 + v15 ≤ v10 ∧ v15 ≤ 3000) (h12 : v16 = v4 + v17) (h13 : v16 ≤ v15) (h14 : v12 = 1) (h15 : v13 = 0) (h16 : v14 = 6) (h17 : v17 = 2) : 1 ≤ v0 ∧ v1 + v0 ≤ v2 ∧ v0 ≤ 3000 := by omega
theorem om1089 (v0 : Int) (v1 : Int) (v2 : Int) (v3 : Int) (v4 : Int) (v5 : Int) (v6 : Int) (v7 : Int) (v8 : Int) (v9 : Int) (v10 : Int) (v11 : Int) (v12 : Int) (h0 : 1 ≤ v0 ∧ v1 + v0 ≤ v2 ∧ v0 ≤ 3000) (h1 : v3 = 1 → (2 ≤ v0 ∧ 1 ≤ v4 ∧ v4 ≤ v1)) (h2 : v3 = 2 → (2 ≤ v0 ∧ v5 ≤ v1)) (h3 : v3 = 3 → (2 ≤ v0 ∧ v6 ≤ v1)) (h4 : v3 = 4 → (2 ≤ v0 ∧ v7 ≤ v1)) (h5 : v3 = 5 → (2 ≤ v0 ∧ v8 ≤ v1)) (h6 : v9 = v1 + v10) (h7 : v2 ≤ v9) (h8 : 0 ≤ v3 ∧ v3 ≤ 6) (h9 : v3 ≠ v11) (h10 : v3 ≠ v12) (h11 : v10 = 1) (h12 : v11 = 0) (h13 : v12 = 6) : 1 ≤ v0 ∧ v1 + v0 ≤ v2 ∧ v0 ≤ 3000 := by omega
theorem om1090 (v0 : Int) (v1 : Int) (v2 : Int) (v3 : Int) (v4 : Int) (v5 : Int) (v6 : Int) (h0 : 1 ≤ v1 ∧ v3 + v1 ≤ v4 ∧ v1 ≤ 3000) (h1 : v0 = 1 → (2 ≤ v1 ∧ 1 ≤ v2 ∧ v2 ≤ v3)) (h2 : v5 = v3 + v6) (h3 : v4 ≤ v5) (h4 : v6 = 1) : v0 = 1 → (2 ≤ v1 ∧ 1 ≤ v2 ∧ v2 ≤ v3) := by omega
theorem om1091 (v0 : Int) (v1 : Int) (v2 : Int) (v3 : Int) (v4 : Int) (v5 : Int) (v6 : Int) (h0 : 1 ≤ v1 ∧ v3 + v1 ≤ v4 ∧ v1 ≤ 3000) (h1 : v0 = 2 → (2 ≤ v1 ∧ v2 ≤ v3)) (h2 : v5 = v3 + v6) (h3 : v4 ≤ v5) (h4 : v6 = 1) : v0 = 2 → (2 ≤ v1 ∧ v2 ≤ v3) := by omega
theorem om1092 (v0 : Int) (v1 : Int) (v2 : Int) (v3 : Int) (v4 : Int) (v5 : Int) (v6 : Int) (h0 : 1 ≤ v1 ∧ v3 + v1 ≤ v4 ∧ v1 ≤ 3000) (h1 : v0 = 3 → (2 ≤ v1 ∧ v2 ≤ v3)) (h2 : v5 = v3 + v6) (h3 : v4 ≤ v5) (h4 : v6 = 1) : v0 = 3 → (2 ≤ v1 ∧ v2 ≤ v3) := by omega
theorem om1093 (v0 : Int) (v1 : Int) (v2 : Int) (v3 : Int) (v4 : Int) (v5 : Int) (v6 : Int) (h0 : 1 ≤ v1 ∧ v3 + v1 ≤ v4 ∧ v1 ≤ 3000) (h1 : v0 = 4 → (2 ≤ v1 ∧ v2 ≤ v3)) (h2 : v5 = v3 + v6) (h3 : v4 ≤ v5) (h4 : v6 = 1) : v0 = 4 → (2 ≤ v1 ∧ v2 ≤ v3) := by omega
theorem om1094 (v0 : Int) (v1 : Int) (v2 : Int) (v3 : Int) (v4 : Int) (v5 : Int) (v6 : Int) (h0 : 1 ≤ v1 ∧ v3 + v1 ≤ v4 ∧ v1 ≤ 3000) (h1 : v0 = 5 → (2 ≤ v1 ∧ v2 ≤ v3)) (h2 : v5 = v3 + v6) (h3 : v4 ≤ v5) (h4 : v6 = 1) : v0 = 5 → (2 ≤ v1 ∧ v2 ≤ v3) := by omega
theorem om1095 (v0 : Int) (v1 : Int) (v2 : Int) (v3 : Int) (h0 : v2 + 2147483649 ≤ v1 + 1) (h1 : v0 = v2 / 2) (h2 : v3 < v2) (h3 : v3 = 0) : v0 + 2147483649 ≤ v1 := by omega
theorem om1096 (v0 : Int) (v1 : Int) (h0 : 0 ≤ v1 ∧ v1 ≤ v0) (h1 : v0 ≤ 3000) : 0 ≤ v0 ∧ v0 < (3001 : Nat) := by omega
theorem om1097 (v0 : Int) (v1 : Int) (v2 : Int) (h0 : 0 ≤ v2 ∧ v2 ≤ v0) (h1 : v0 ≤ 3000) (h2 : v1 = 1) : -2147483648 ≤ v0 - v1 ∧ v0 - v1 ≤ 2147483647 := by omega
theorem om1098 (v0 : Int) (v1 : Int) (v2 : Int) (h0 : v1 - 1 ≤ v0 ∧ v0 < v2) (h1 : v0 + 2147483649 ≤ 0) (h2 : 0 ≤ v1 ∧ v1 ≤ v2) : (0 * v0) ≤ -1 := by omega
theorem om1099 (v0 : Int) (v1 : Int) (h0 : v0 < v1) : v0 + 1 ≤ v1 := by omega
theorem om1100 (v0 : Int) (v1 : Int) (v2 : Int) (v3 : Int) (h0 : v2 - 1 ≤ v0 ∧ v0 < v3) (h1 : v2 ≤ v0) (h2 : v1 = v3) (h3 : 0 ≤ v2 ∧ v2 ≤ v3) : 0 ≤ v0 ∧ v0 ≤ v1 := by omega
theorem om1101 (v0 : Int) (v1 : Int) (v2 : Int) (v3 : Int) (h0 : v2 - 1 ≤ v0 ∧ v0 < v3) (h1 : v2 ≤ v0) (h2 : 0 ≤ v2 ∧ v2 ≤ v3) (h3 : v3 ≤ 3000) (h4 : v1 = 1) : -2147483648 ≤ v0 + v1 ∧ v0 + v1 ≤ 2147483647 := by omega
theorem om1102 (v0 : Int) (v1 : Int) (v2 : Int) (v3 : Int) (v4 : Int) (h0 : v0 = v1 + v2) (h1 : v3 - 1 ≤ v1 ∧ v1 < v4) (h2 : v3 ≤ v1) (h3 : 0 ≤ v3 ∧ v3 ≤ v4) (h4 : v4 ≤ 3000) (h5 : v2 = 1) : 0 ≤ v0 ∧ v0 < (3001 : Nat) := by omega
theorem om1103 (v0 : Int) (v1 : Int) (v2 : Int) (h0 : v1 - 1 ≤ v0 ∧ v0 < v2) (h1 : v1 ≤ v0) (h2 : 0 ≤ v1 ∧ v1 ≤ v2) (h3 : v2 ≤ 3000) : 0 ≤ v0 ∧ v0 < (3001 : Nat) := by omega
theorem om1104 (v0 : Int) (h0 : v0 ≤ 274) (h1 : 2147483648 - v0 ≤ 0) : (0 * v0) ≤ -1 := by omega
theorem om1105 (v0 : Int) (v1 : Int) (v2 : Int) (v3 : Int) (h0 : v2 - 1 ≤ v0 ∧ v0 < v3) (h1 : v2 ≤ v0) (h2 : 0 ≤ v2 ∧ v2 ≤ v3) (h3 : v3 ≤ 3000) (h4 : v1 = (-1)) : -2147483648 ≤ v0 + v1 ∧ v0 + v1 ≤ 2147483647 := by omega
theorem om1106 (v0 : Int) (v1 : Int) (v2 : Int) (v3 : Int) (v4 : Int) (h0 : v0 - 1 ≤ v3 ∧ v3 < v2) (h1 : v0 ≤ v3) (h2 : v1 = v3 + v4) (h3 : v4 = (-1)) : v0 - 1 ≤ v1 ∧ v1 < v2 := by omega
theorem om1107 (v0 : Int) (v1 : Int) (v2 : Int) (h0 : v0 = v1 + v2) (h1 : v2 = (-1)) : v0 + 1 = v1 := by omega
theorem om1108 (v0 : Int) (v1 : Int) (h0 : 0 ≤ v1 ∧ v1 ≤ 3) (h1 : v0 = 7) : -2147483648 ≤ v0 + v1 ∧ v0 + v1 ≤ 2147483647 := by omega
theorem om1109 (v0 : Int) (v1 : Int) (v2 : Int) (v3 : Int) (h0 : v0 = v2 + v3) (h1 : 0 ≤ v1 ∧ v1 ≤ 5) (h2 : 0 ≤ v3 ∧ v3 ≤ 3) (h3 : v2 = 7) : -2147483648 ≤ v0 + v1 ∧ v0 + v1 ≤ 2147483647 := by omega
theorem om1110 (v0 : Int) (v1 : Int) (v2 : Int) (v3 : Int) (v4 : Int) (v5 : Int) (h0 : 0 ≤ v2 ∧ v2 ≤ 273 ∧ v0 + v2 ≤ v3) (h1 : 1 ≤ v2 → (1 ≤ v4 ∧ v4 ≤ v0)) (h2 : 2 ≤ v1) (h3 : v1 ≤ v2) (h4 : v5 ≤ 3000) (h5 : v3 = v5) : -2147483648 ≤ v0 + v1 ∧ v0 + v1 ≤ 2147483647 := by omega
theorem om1111 (v0 : Int) (v1 : Int) (v2 : Int) (v3 : Int) (v4 : Int) (v5 : Int) (v6 : Int) (h0 : v0 = v1 + v2) (h1 : 0 ≤ v3 ∧ v3 ≤ 273 ∧ v1 + v3 ≤ v4) (h2 : 1 ≤ v3 → (1 ≤ v5 ∧ v5 ≤ v1)) (h3 : 2 ≤ v2) (h4 : v2 ≤ v3) (h5 : v6 ≤ 3000) (h6 : v4 = v6) : 0 ≤ v0 ∧ v0 < (3001 : Nat) := by omega
theorem om1112 (v0 : Int) (v1 : Int) (v2 : Int) (v3 : Int) (v4 : Int) (v5 : Int) (h0 : 0 ≤ v1 ∧ v1 ≤ 273 ∧ v0 + v1 ≤ v2) (h1 : 1 ≤ v1 → (1 ≤ v3 ∧ v3 ≤ v0)) (h2 : v4 ≤ 3000) (h3 : v2 = v4) (h4 : 2 ≤ v5) (h5 : v5 ≤ v1) : 0 ≤ v0 ∧ v0 < (3001 : Nat) := by omega
theorem om1113 (v0 : Int) (v1 : Int) (v2 : Int) (v3 : Int) (v4 : Int) (h0 : 2 ≤ v0) (h1 : v0 ≤ v2) (h2 : 0 ≤ v2 ∧ v2 ≤ 273 ∧ v3 + v2 ≤ v4) (h3 : v1 = 1) : -2147483648 ≤ v0 + v1 ∧ v0 + v1 ≤ 2147483647 := by omega
theorem om1114 (v0 : Int) (v1 : Int) (v2 : Int) (v3 : Int) (v4 : Int) (v5 : Int) (h0 : v0 = v1 + v2) (h1 : v1 ≤ v3) (h2 : 0 ≤ v3 ∧ v3 ≤ 273 ∧ v4 + v3 ≤ v5) (h3 : v2 = 1) : v0 ≤ 274 := by omega
theorem om1115 (v0 : Int) (v1 : Int) (v2 : Int) (h0 : v0 = v1 + v2) (h1 : 2 ≤ v1) (h2 : v2 = 1) : 2 ≤ v0 := by omega
theorem om1116 (v0 : Int)  : v0 = v0 := by omega
theorem om1117 (v0 : Int) (v1 : Int) (v2 : Int) (v3 : Int) (h0 : 1 ≤ v1 → (1 ≤ v2 ∧ v2 ≤ v0)) (h1 : 2 ≤ v3) (h2 : v3 ≤ v1) : 0 ≤ v0 ∧ v0 = v0 ∧ (v0 = v0 ∨ v0 = v0 + 1) := by omega
theorem om1118 (v0 : Int) (v1 : Int) (v2 : Int) (v3 : Int) (v4 : Int) (v5 : Int) (h0 : v4 = v2) (h1 : 0 ≤ v5 ∧ v5 ≤ 273 ∧ v1 + v5 ≤ v4) (h2 : 1 ≤ v5 → (1 ≤ v3 ∧ v3 ≤ v1)) (h3 : 2 ≤ v0) (h4 : v0 ≤ v5) : 1 ≤ v0 ∧ v1 + v0 ≤ v2 ∧ (v0 = 1 ∨ (2 ≤ v0 ∧ 1 ≤ v3 ∧ v3 ≤ v1)) := by omega
theorem om1119 (v0 : Int) (h0 : v0 = 0) : 0 ≤ v0 ∧ v0 ≤ 5 := by omega
theorem om1120 (v0 : Int) (h0 : v0 = 5) : 0 ≤ v0 ∧ v0 ≤ 5 := by omega
theorem om1121 (v0 : Int) (h0 : v0 = 2) : v0 ≤ 274 := by omega
theorem om1122 (v0 : Int) (h0 : v0 = 2) : 2 ≤ v0 := by omega
theorem om1123 (v0 : Int) (v1 : Int) (v2 : Int) (h0 : v1 ≤ v0) (h1 : 0 ≤ v1 ∧ v1 ≤ v2) : 0 ≤ v0 ∧ v0 = v0 ∧ (v0 + 1 = v0 ∨ v0 + 1 = v0 + 1) := by omega
theorem om1124 (v0 : Int) (v1 : Int) (v2 : Int) (v3 : Int) (v4 : Int) (h0 : v4 - 1 ≤ v1 ∧ v1 < v2) (h1 : v0 = 1) : 1 ≤ v0 ∧ v1 + v0 ≤ v2 ∧ (v0 = 1 ∨ (2 ≤ v0 ∧ 1 ≤ v3 ∧ v3 ≤ v1)) := by omega
theorem om1125 (v0 : Int) (v1 : Int) (v2 : Int) (v3 : Int) (h0 : 0 ≤ v0 ∧ v0 ≤ v2) (h1 : v1 = v2 - v3) (h2 : v3 = 1) : v0 - 1 ≤ v1 ∧ v1 < v2 := by omega
theorem om1126 (v0 : Int) (v1 : Int) (v2 : Int) (h0 : v1 = v0 - v2) (h1 : v2 = 1) : v0 ≤ v1 + 1 := by omega
theorem om1127 (v0 : Int) (v1 : Int) (h0 : 0 ≤ v0 ∧ v0 < v1) (h1 : v1 ≤ 3000) : 0 ≤ v0 ∧ v0 < (3001 : Nat) := by omega
theorem om1128 (v0 : Int) (v1 : Int) (h0 : 0 ≤ v0 ∧ v0 < v1) : 0 ≤ v0 ∧ v0 ≤ v0 ∧ v0 < v1 := by omega
theorem om1129 (v0 : Int) (v1 : Int) (v2 : Int) (v3 : Int) (v4 : Int) (v5 : Int) (h0 : v2 ≤ 3000) (h1 : 1 ≤ v3 ∧ v1 + v3 ≤ v2 ∧ (v3 = 1 ∨ (2 ≤ v3 ∧ 1 ≤ v4 ∧ v4 ≤ v1))) (h2 : v0 = v3) (h3 : v3 ≠ v5) (h4 : v5 = 1) : 1 ≤ v0 ∧ v1 + v0 ≤ v2 ∧ v0 ≤ 3000 := by omega
theorem om1130 (v0 : Int) (h0 : 0 ≤ v0 ∧ v0 ≤ 5) (h1 : v0 = 1 ∨ 2 ≤ v0) : 0 ≤ v0 ∧ v0 ≤ 6 := by omega
theorem om1131 (v0 : Int) (v1 : Int) (v2 : Int) (v3 : Int) (v4 : Int) (v5 : Int) (v6 : Int) (v7 : Int) (h0 : 1 ≤ v4 ∧ v3 + v4 ≤ v5 ∧ (v4 = 1 ∨ (2 ≤ v4 ∧ 1 ≤ v6 ∧ v6 ≤ v3))) (h1 : v1 = v4) (h2 : v2 = v6) (h3 : v4 ≠ v7) (h4 : v7 = 1) : v0 = 1 → (2 ≤ v1 ∧ 1 ≤ v2 ∧ v2 ≤ v3) := by omega
theorem om1132 (v0 : Int) (v1 : Int) (h0 : 0 ≤ v0 ∧ v0 ≤ 5) (h1 : v0 = 1 ∨ 2 ≤ v0) : (v0 = 0 ∨ v0 = 6) → v1 = 1 := by omega
theorem om1133 (v0 : Int) (v1 : Int) (v2 : Int) (h0 : 0 ≤ v0 ∧ v0 ≤ 5) : v0 = 6 → v1 ≤ v2 := by omega
theorem om1134 (v0 : Int) (v1 : Int) (v2 : Int) (v3 : Int) (v4 : Int) (v5 : Int) (v6 : Int) (v7 : Int) (h0 : 1 ≤ v4 ∧ v3 + v4 ≤ v5 ∧ (v4 = 1 ∨ (2 ≤ v4 ∧ 1 ≤ v6 ∧ v6 ≤ v3))) (h1 : v0 = 2 → v2 = v6) (h2 : v1 = v4) (h3 : v4 ≠ v7) (h4 : v7 = 1) : v0 = 2 → (2 ≤ v1 ∧ v2 ≤ v3) := by omega
theorem om1135 (v0 : Int) (v1 : Int) (v2 : Int) (v3 : Int) (v4 : Int) (v5 : Int) (v6 : Int) (v7 : Int) (h0 : 1 ≤ v4 ∧ v3 + v4 ≤ v5 ∧ (v4 = 1 ∨ (2 ≤ v4 ∧ 1 ≤ v6 ∧ v6 ≤ v3))) (h1 : v0 = 3 → v2 = v6) (h2 : v1 = v4) (h3 : v4 ≠ v7) (h4 : v7 = 1) : v0 = 3 → (2 ≤ v1 ∧ v2 ≤ v3) := by omega
theorem om1136 (v0 : Int) (v1 : Int) (v2 : Int) (v3 : Int) (v4 : Int) (v5 : Int) (v6 : Int) (v7 : Int) (h0 : 1 ≤ v4 ∧ v3 + v4 ≤ v5 ∧ (v4 = 1 ∨ (2 ≤ v4 ∧ 1 ≤ v6 ∧ v6 ≤ v3))) (h1 : v0 = 4 → v2 = v6) (h2 : v1 = v4) (h3 : v4 ≠ v7) (h4 : v7 = 1) : v0 = 4 → (2 ≤ v1 ∧ v2 ≤ v3) := by omega
theorem om1137 (v0 : Int) (v1 : Int) (v2 : Int) (v3 : Int) (v4 : Int) (v5 : Int) (v6 : Int) (v7 : Int) (h0 : 1 ≤ v4 ∧ v3 + v4 ≤ v5 ∧ (v4 = 1 ∨ (2 ≤ v4 ∧ 1 ≤ v6 ∧ v6 ≤ v3))) (h1 : v0 = 5 → v2 = v6) (h2 : v1 = v4) (h3 : v4 ≠ v7) (h4 : v7 = 1) : v0 = 5 → (2 ≤ v1 ∧ v2 ≤ v3) := by omega
theorem om1138 (v0 : Int) (v1 : Int) (h0 : v0 ≤ 3) (h1 : v1 ≤ v0) (h2 : v1 = 0) : 0 ≤ v0 ∧ v0 ≤ 3 := by omega
theorem om1139 (v0 : Int) (v1 : Int) (v2 : Int) (h0 : v0 ≤ 3) (h1 : v2 ≤ v0) (h2 : v1 = (-1)) (h3 : v2 = 0) : -2147483648 ≤ v0 + v1 ∧ v0 + v1 ≤ 2147483647 := by omega
theorem om1140 (v0 : Int) (v1 : Int) (h0 : v0 = v1) (h1 : 1 ≤ v1 ∧ v1 ≤ 5) : 0 ≤ v0 ∧ v0 ≤ 5 := by omega
theorem om1141 (v0 : Int) (v1 : Int) (h0 : v0 = v1) (h1 : 1 ≤ v1 ∧ v1 ≤ 5) : v0 = 1 ∨ 2 ≤ v0 := by omega
theorem om1142 (v0 : Int) (v1 : Int) (v2 : Int) (v3 : Int) (h0 : v3 = 2 → v1 = v2) (h1 : v0 = v3) : v0 = 2 → v1 = v2 := by omega
theorem om1143 (v0 : Int) (v1 : Int) (v2 : Int) (v3 : Int) (h0 : v3 = 3 → v1 = v2) (h1 : v0 = v3) : v0 = 3 → v1 = v2 := by omega
theorem om1144 (v0 : Int) (v1 : Int) (v2 : Int) (v3 : Int) (h0 : v3 = 4 → v1 = v2) (h1 : v0 = v3) : v0 = 4 → v1 = v2 := by omega
theorem om1145 (v0 : Int) (v1 : Int) (v2 : Int) (v3 : Int) (h0 : v3 = 5 → v1 = v2) (h1 : v0 = v3) (h2 : 1 ≤ v3 ∧ v3 ≤ 5) : v0 = 5 → v1 = v2 := by omega
theorem om1146 (v0 : Int) (v1 : Int) (v2 : Int) (h0 : v0 = v1 + v2) (h1 : v1 ≤ 3) (h2 : v2 = (-1)) : v0 ≤ 3 := by omega
theorem om1147 (v0 : Int) (h0 : 0 ≤ v0 ∧ v0 ≤ 5) (h1 : v0 = 1 ∨ 2 ≤ v0) : 1 ≤ v0 ∧ v0 ≤ 5 := by omega
theorem om1148 (v0 : Int) (v1 : Int) (v2 : Int) (h0 : v0 = 2 → v1 = v2) : v0 = 2 → v1 = v2 := by omega
theorem om1149 (v0 : Int) (v1 : Int) (v2 : Int) (h0 : v0 = 3 → v1 = v2) : v0 = 3 → v1 = v2 := by omega
theorem om1150 (v0 : Int) (v1 : Int) (v2 : Int) (h0 : v0 = 4 → v1 = v2) : v0 = 4 → v1 = v2 := by omega
theorem om1151 (v0 : Int) (v1 : Int) (v2 : Int) (h0 : 0 ≤ v0 ∧ v0 ≤ 5) (h1 : v0 = 5 → v1 = v2) : v0 = 5 → v1 = v2 := by omega
theorem om1152 (v0 : Int) (v1 : Int) (v2 : Int) (h0 : v1 ≤ 3) (h1 : v2 ≤ v1) (h2 : v0 = 2) (h3 : v2 = 0) : -2147483648 ≤ v0 + v1 ∧ v0 + v1 ≤ 2147483647 := by omega
theorem om1153 (v0 : Int) (v1 : Int) (v2 : Int) (v3 : Int) (h0 : v0 = v1 + v2) (h1 : v2 ≤ 3) (h2 : v3 ≤ v2) (h3 : v1 = 2) (h4 : v3 = 0) : 1 ≤ v0 ∧ v0 ≤ 5 := by omega
theorem om1154 (v0 : Int) (v1 : Int) (v2 : Int) (v3 : Int) (v4 : Int) (v5 : Int) (v6 : Int) (v7 : Int) (v8 : Int) (v9 : Int) (v10 : Int) (h0 : v3 = v1) (h1 : v4 = v2) (h2 : v0 = v5 + v6) (h3 : v7 ≤ v6) (h4 : (v6 = 0 → v4 = v3) ∧ (v6 = 1 → v4 = v8) ∧ (v6 = 2 → v4 = v9) ∧ (v6 = 3 → v4 = v10)) (h5 : v5 = 2) (h6 : v7 = 0) : v0 = 2 → v1 = v2 := by omega
theorem om1155 (v0 : Int) (v1 : Int) (v2 : Int) (v3 : Int) (v4 : Int) (v5 : Int) (v6 : Int) (v7 : Int) (v8 : Int) (v9 : Int) (h0 : v3 = v1) (h1 : v4 = v2) (h2 : v0 = v5 + v6) (h3 : (v6 = 0 → v4 = v7) ∧ (v6 = 1 → v4 = v3) ∧ (v6 = 2 → v4 = v8) ∧ (v6 = 3 → v4 = v9)) (h4 : v5 = 2) : v0 = 3 → v1 = v2 := by omega
theorem om1156 (v0 : Int) (v1 : Int) (v2 : Int) (v3 : Int) (v4 : Int) (v5 : Int) (v6 : Int) (v7 : Int) (v8 : Int) (v9 : Int) (h0 : v3 = v1) (h1 : v4 = v2) (h2 : v0 = v5 + v6) (h3 : (v6 = 0 → v4 = v7) ∧ (v6 = 1 → v4 = v8) ∧ (v6 = 2 → v4 = v3) ∧ (v6 = 3 → v4 = v9)) (h4 : v5 = 2) : v0 = 4 → v1 = v2 := by omega
theorem om1157 (v0 : Int) (v1 : Int) (v2 : Int) (v3 : Int) (v4 : Int) (v5 : Int) (v6 : Int) (v7 : Int) (v8 : Int) (v9 : Int) (h0 : v3 = v1) (h1 : v4 = v2) (h2 : v0 = v5 + v6) (h3 : v6 ≤ 3) (h4 : (v6 = 0 → v4 = v7) ∧ (v6 = 1 → v4 = v8) ∧ (v6 = 2 → v4 = v9) ∧ (v6 = 3 → v4 = v3)) (h5 : v5 = 2) : v0 = 5 → v1 = v2 := by omega
theorem om1158 (v0 : Int) (v1 : Int) (h0 : v0 = v1) (h1 : v1 = 1) : 0 ≤ v0 ∧ v0 ≤ 5 := by omega
theorem om1159 (v0 : Int) (v1 : Int) (h0 : v0 = v1) (h1 : v1 = 1) : v0 = 1 ∨ 2 ≤ v0 := by omega
theorem om1160 (v0 : Int) (v1 : Int) (v2 : Int) (v3 : Int) (h0 : v0 = v3) (h1 : v3 = 1) : v0 = 2 → v1 = v2 := by omega
theorem om1161 (v0 : Int) (v1 : Int) (v2 : Int) (v3 : Int) (h0 : v0 = v3) (h1 : v3 = 1) : v0 = 3 → v1 = v2 := by omega
theorem om1162 (v0 : Int) (v1 : Int) (v2 : Int) (v3 : Int) (h0 : v0 = v3) (h1 : v3 = 1) : v0 = 4 → v1 = v2 := by omega
theorem om1163 (v0 : Int) (v1 : Int) (v2 : Int) (v3 : Int) (h0 : v0 = v3) (h1 : v3 = 1) : v0 = 5 → v1 = v2 := by omega
theorem om1164 (v0 : Int) (h0 : v0 = 3) : v0 ≤ 3 := by omega
theorem om1165 (v0 : Int) (v1 : Int) (v2 : Int) (v3 : Int) (v4 : Int) (v5 : Int) (h0 : 1 ≤ v3 ∧ v1 + v3 ≤ v2 ∧ (v3 = 1 ∨ (2 ≤ v3 ∧ 1 ≤ v4 ∧ v4 ≤ v1))) (h1 : v0 = v3) (h2 : v3 = v5) (h3 : v5 = 1) : 1 ≤ v0 ∧ v1 + v0 ≤ v2 ∧ v0 ≤ 3000 := by omega
theorem om1166 (v0 : Int) (v1 : Int) (v2 : Int) (v3 : Int) (v4 : Int) (v5 : Int) (v6 : Int) (h0 : v1 = v2) (h1 : 1 ≤ v2 ∧ v3 + v2 ≤ v4 ∧ (v2 = 1 ∨ (2 ≤ v2 ∧ 1 ≤ v5 ∧ v5 ≤ v3))) (h2 : v2 = v6) (h3 : v6 = 1) : (v0 = 0 ∨ v0 = 6) → v1 = 1 := by omega
theorem om1167 (v0 : Int) (v1 : Int) (v2 : Int) (v3 : Int) (v4 : Int) (v5 : Int) (v6 : Int) (v7 : Int) (v8 : Int) (v9 : Int) (h0 : v3 = v1) (h1 : ((1 ≤ v4 ∧ v5 = 0) → v3 ≤ v2) ∧ ((1 ≤ v4 ∧ v5 = 1) → v6 ≤ v2) ∧ ((1 ≤ v4 ∧ v5 = 2) → v7 ≤ v2) ∧ ((1 ≤ v4 ∧ v5 = 3) → v8 ≤ v2)) (h2 : v9 ≤ v4) (h3 : v5 = 0) (h4 : v9 = 1) : v0 = 6 → v1 ≤ v2 := by omega
set_option maxHeartbeats 4000000 in
set_option maxRecDepth 100000 in
/-- X12_sameFrom on (0,) -/
theorem jm_X12_sameFrom (l : Launch) (hlt : l.stackTraces = false) (D : va_G) (t3 : Nat × Nat × Nat) (cI cJ : ClassId) (ad : Nat → Nat) (g : Nat → Int32) (lg : Nat → Int64) (ar : Nat → Nat → Int32) (bk : Nat → Int64) (sz : Nat) (y1 : Int32) (y2 : Int32) (hr0 : 0 ≤ (y1).toInt ∧ (y1).toInt ≤ (g 35).toInt) (hr1 : (g 35).toInt ≤ 3000) (hr2 : 1 ≤ (y2).toInt ∧ (y2).toInt ≤ (y1).toInt) : JMi l yX12_sameFrom (Cond.code yX12_sameFrom cX12_sameFrom 5 (some .int) :: wwM) { frames := 0, cells := 0, slots := 0, locals := 0 } t3 D mw cI cJ ad [.ref (ad 0), .int y1, .int y2] (mw cI cJ ad g lg ar bk) sz 0 0 (fun (r : Int32) g' lg' ar' bk' => g = g' ∧ lg = lg' ∧ ar = ar' ∧ bk = bk' ∧ (0 ≤ (r).toInt ∧ (r).toInt ≤ 273) ∧ ((y1).toInt + (r).toInt ≤ (g 35).toInt)) (fun g' lg' ar' bk' => False) := by
  refine jx_meti (cc := cX12_sameFrom) (maxL := 5) (ret := (some .int)) rfl (by decide) rfl (Nat.le_of_ble_eq_true rfl) ?_
  intro p e s m args below meth c ls Q A hx hb hml hown hts hA hZ hw hl hQ kr kt
  have hq : ∀ w ∈ wwM, w.before args s = true := fun w h => hts w (List.mem_cons_of_mem _ h)
  have hl : lv_has ls 5 [(0, .ref (ad 0)), (1, .int y1), (2, .int y2)] := hl
  refine lv_aload_n hx hb dX12_sameFrom_0 rfl (lv_at hl 0 rfl) ?_
  refine hk_get (ci := 15) (C := RX12) (T := TX12) (N := 92) (v := .int (g 35)) hx hb hts (fun _ h => List.mem_cons_of_mem _ (wwMc_wsX120 _ h)) hown hw 0 rfl rfl 58 (by decide) (hq _ wM_180) rfl dX12_sameFrom_1 ?_
  refine lv_iload_n hx hb dX12_sameFrom_4 rfl (lv_at hl 1 rfl) ?_
  refine lv_isub hx hb dX12_sameFrom_5 (jx_nm fun z1 hz1 => ?_)
  have xz1 : (z1).toInt = (g 35).toInt - (y1).toInt := (hE_imp (hE_sub hz1) (om971 ((g 35).toInt) ((y1).toInt) ((y2).toInt) hr0 hr1 hr2))
  refine lv_sipush (v := 273) hx hb dX12_sameFrom_6 (by decide) ?_
  have B2 : ∀  (x3 : Int32) (ls : Array Slot) (H : Heap) (locs : List Loc), ((x3).toInt ≤ 273 ∧ (x3).toInt ≤ (g 35).toInt - (y1).toInt ∧ 0 ≤ (x3).toInt) → hk_W D (jT cI cJ) A s H locs (mw cI cJ ad g lg ar bk) → lv_has ls 5 [(0, .ref (ad 0)), (1, .int y1), (2, .int y2)] → W p l e { frames := 0, cells := 0, slots := 0, locals := 0 } s m args below meth c H locs 0 0 Q (F0 m 24 ls [.int x3]) := by
    intro x3 ls H locs hf_B2_0 hw hl
    refine lv_istore_n (lv' := [(3, .int x3), (0, .ref (ad 0)), (1, .int y1), (2, .int y2)]) hx hb dX12_sameFrom_24 rfl hl (by decide) rfl (fun ls hl => ?_)
    refine lv_iconst (v := 0) hx hb dX12_sameFrom_25 (by decide) ?_
    refine lv_istore (lv' := [(4, .int 0), (3, .int x3), (0, .ref (ad 0)), (1, .int y1), (2, .int y2)]) hx hb dX12_sameFrom_26 hl (by decide) rfl (fun ls hl => ?_)
    have B4 : ∀ (k6 : Nat) (x5 : Int32) (ls : Array Slot) (H : Heap) (locs : List Loc), (2147483648 - (x5).toInt ≤ (k6 : Int)) → ((x5).toInt ≤ (x3).toInt) → (0 ≤ (x5).toInt) → hk_W D (jT cI cJ) A s H locs (mw cI cJ ad g lg ar bk) → lv_has ls 5 [(0, .ref (ad 0)), (1, .int y1), (2, .int y2), (3, .int x3), (4, .int x5)] → W p l e { frames := 0, cells := 0, slots := 0, locals := 0 } s m args below meth c H locs 0 0 Q (F0 m 28 ls []) := by
      intro k6
      induction k6 with
      | zero =>
        intro x5 ls H locs hrk_B4 hf_B4_0 hf_B4_1 hw hl
        exact False.elim (hk_no0 (0 * (x5).toInt) (om972 ((x5).toInt) ((x3).toInt) ((g 35).toInt) ((y1).toInt) hf_B4_0 hrk_B4 hf_B2_0) (by simp))
      | succ k6 ih_B4 =>
        intro x5 ls H locs hrk_B4 hf_B4_0 hf_B4_1 hw hl
        have hrk_B4 := hk_rk hrk_B4
        refine lv_iload hx hb dX12_sameFrom_28 (lv_at hl 4 rfl) ?_
        refine lv_iload_n hx hb dX12_sameFrom_30 rfl (lv_at hl 3 rfl) ?_
        refine lv_icmp_ge (tgt := 63) hx hb dX12_sameFrom_31 (by decide) (fun cc7 => ?_) (fun cc7 => ?_)
        · refine lv_iload hx hb dX12_sameFrom_63 (lv_at hl 4 rfl) ?_
          exact kr x5 g lg ar bk _ _ _ _ ⟨rfl, rfl, rfl, rfl, (om973 ((x5).toInt) ((x3).toInt) ((g 35).toInt) ((y1).toInt) hf_B4_0 hf_B4_1 hf_B2_0), (om974 ((y1).toInt) ((x5).toInt) ((g 35).toInt) ((x3).toInt) hf_B2_0 hf_B4_0)⟩ hw dX12_sameFrom_65
        · refine lv_aload_n hx hb dX12_sameFrom_34 rfl (lv_at hl 0 rfl) ?_
          refine hk_get (ci := 15) (C := RX12) (T := TX12) (N := 92) (v := .ref (ad 7)) hx hb hts (fun _ h => List.mem_cons_of_mem _ (wwMc_wsX120 _ h)) hown hw 0 rfl rfl 25 (by decide) (hq _ wM_110) rfl dX12_sameFrom_35 ?_
          refine lv_iload_n hx hb dX12_sameFrom_38 rfl (lv_at hl 1 rfl) ?_
          refine lv_iload hx hb dX12_sameFrom_39 (lv_at hl 4 rfl) ?_
          refine lv_iadd hx hb dX12_sameFrom_41 (jx_nm fun z8 hz8 => ?_)
          have xz8 : (z8).toInt = (y1).toInt + (x5).toInt := (hE_imp (hE_add hz8) (om975 ((y1).toInt) ((x5).toInt) ((y2).toInt) ((x3).toInt) ((g 35).toInt) hr2 hf_B2_0 hf_B4_1 (hE_nle cc7) hr1))
          refine jx_iald hx hb hw 7 0 rfl rfl (hE_in (n := 3000) (om976 ((z8).toInt) ((y1).toInt) ((x5).toInt) ((y2).toInt) ((x3).toInt) ((g 35).toInt) xz8 hr2 hf_B2_0 hf_B4_1 (hE_nle cc7) hr1)) dX12_sameFrom_42 (fun z9 hz9 => ?_)
          refine lv_aload_n hx hb dX12_sameFrom_43 rfl (lv_at hl 0 rfl) ?_
          refine hk_get (ci := 15) (C := RX12) (T := TX12) (N := 92) (v := .ref (ad 7)) hx hb hts (fun _ h => List.mem_cons_of_mem _ (wwMc_wsX120 _ h)) hown hw 0 rfl rfl 25 (by decide) (hq _ wM_110) rfl dX12_sameFrom_44 ?_
          refine lv_iload_n hx hb dX12_sameFrom_47 rfl (lv_at hl 1 rfl) ?_
          refine lv_iload hx hb dX12_sameFrom_48 (lv_at hl 4 rfl) ?_
          refine lv_iadd hx hb dX12_sameFrom_50 (jx_nm fun z10 hz10 => ?_)
          have xz10 : (z10).toInt = (y1).toInt + (x5).toInt := (hE_imp (hE_add hz10) (om975 ((y1).toInt) ((x5).toInt) ((y2).toInt) ((x3).toInt) ((g 35).toInt) hr2 hf_B2_0 hf_B4_1 (hE_nle cc7) hr1))
          refine lv_iload_n hx hb dX12_sameFrom_51 rfl (lv_at hl 2 rfl) ?_
          refine lv_isub hx hb dX12_sameFrom_52 (jx_nm fun z11 hz11 => ?_)
          have xz11 : (z11).toInt = (z10).toInt - (y2).toInt := (hE_imp (hE_sub hz11) (om977 ((z10).toInt) ((y2).toInt) ((y1).toInt) ((x5).toInt) ((x3).toInt) ((g 35).toInt) hr2 xz10 hf_B2_0 hf_B4_1 (hE_nle cc7) hr1))
          refine jx_iald hx hb hw 7 0 rfl rfl (hE_in (n := 3000) (om978 ((z11).toInt) ((z10).toInt) ((y2).toInt) ((y1).toInt) ((x5).toInt) ((x3).toInt) ((g 35).toInt) xz11 hr2 xz10 hf_B2_0 hf_B4_1 (hE_nle cc7) hr1)) dX12_sameFrom_53 (fun z12 hz12 => ?_)
          refine lv_icmp_ne (tgt := 63) hx hb dX12_sameFrom_54 (by decide) (fun cc13 => ?_) (fun cc13 => ?_)
          · refine lv_iload hx hb dX12_sameFrom_63 (lv_at hl 4 rfl) ?_
            exact kr x5 g lg ar bk _ _ _ _ ⟨rfl, rfl, rfl, rfl, (om979 ((x5).toInt) ((x3).toInt) ((g 35).toInt) ((y1).toInt) hf_B4_1 (hE_nle cc7) hf_B2_0), (om980 ((y1).toInt) ((x5).toInt) ((g 35).toInt) ((x3).toInt) hf_B2_0 (hE_nle cc7))⟩ hw dX12_sameFrom_65
          · obtain ⟨z14, hz14⟩ : ∃ z : Int32, x5 + 1 = z := ⟨_, rfl⟩
            refine lv_iinc (v := z14) (lv' := [(4, .int z14), (0, .ref (ad 0)), (1, .int y1), (2, .int y2), (3, .int x3)]) hx hb dX12_sameFrom_57 hl (k := 4) rfl hz14 (by decide) rfl (fun ls hl => ?_)
            have xz14 : (z14).toInt = (x5).toInt + ((1 : Int32)).toInt := (hE_imp (hE_add hz14) (om981 ((x5).toInt) (((1 : Int32)).toInt) ((x3).toInt) ((g 35).toInt) ((y1).toInt) hf_B4_1 (hE_nle cc7) hf_B2_0 (by decide)))
            refine lv_goto (tgt := 28) hx hb dX12_sameFrom_60 (by decide) ?_
            exact ih_B4 z14 ls _ _ (om11 ((z14).toInt) (k6 : Int) ((x5).toInt) (((1 : Int32)).toInt) hrk_B4 xz14 (by decide)) (om236 ((z14).toInt) ((x3).toInt) ((x5).toInt) (((1 : Int32)).toInt) (hE_nle cc7) xz14 (by decide)) (om14 ((z14).toInt) ((x5).toInt) (((1 : Int32)).toInt) xz14 hf_B4_1 (by decide)) hw (lv_sub hl [1, 2, 3, 4, 0] rfl)
    exact B4 (2147483648 - ((0 : Int32)).toInt).toNat 0 ls _ _ (Int.self_le_toNat _) (om982 (((0 : Int32)).toInt) ((x3).toInt) ((g 35).toInt) ((y1).toInt) hf_B2_0 (by decide)) (om18 (((0 : Int32)).toInt) (by decide)) hw (lv_sub hl [2, 3, 4, 1, 0] rfl)
  refine lv_icmp_ge (tgt := 21) hx hb dX12_sameFrom_9 (by decide) (fun cc15 => ?_) (fun cc15 => ?_)
  · refine lv_sipush (v := 273) hx hb dX12_sameFrom_21 (by decide) ?_
    exact B2 273 ls _ _ (om983 (((273 : Int32)).toInt) ((g 35).toInt) ((y1).toInt) ((z1).toInt) xz1 (hE_le cc15) (by decide)) hw (lv_sub hl [0, 1, 2] rfl)
  · refine lv_aload_n hx hb dX12_sameFrom_12 rfl (lv_at hl 0 rfl) ?_
    refine hk_get (ci := 15) (C := RX12) (T := TX12) (N := 92) (v := .int (g 35)) hx hb hts (fun _ h => List.mem_cons_of_mem _ (wwMc_wsX120 _ h)) hown hw 0 rfl rfl 58 (by decide) (hq _ wM_180) rfl dX12_sameFrom_13 ?_
    refine lv_iload_n hx hb dX12_sameFrom_16 rfl (lv_at hl 1 rfl) ?_
    refine lv_isub hx hb dX12_sameFrom_17 (jx_nm fun z16 hz16 => ?_)
    have xz16 : (z16).toInt = (g 35).toInt - (y1).toInt := (hE_imp (hE_sub hz16) (om984 ((g 35).toInt) ((y1).toInt) ((z1).toInt) (((273 : Int32)).toInt) hr0 xz1 (hE_nle cc15) (by decide)))
    refine lv_goto (tgt := 24) hx hb dX12_sameFrom_18 (by decide) ?_
    exact B2 z16 ls _ _ (om985 ((z16).toInt) ((g 35).toInt) ((y1).toInt) ((z1).toInt) (((273 : Int32)).toInt) hr0 xz1 xz16 (hE_nle cc15) (by decide)) hw (lv_sub hl [0, 1, 2] rfl)

set_option maxHeartbeats 4000000 in
set_option maxRecDepth 100000 in
/-- X12_findLongest on (0,) -/
theorem jm_X12_findLongest (l : Launch) (hlt : l.stackTraces = false) (D : va_G) (t3 : Nat × Nat × Nat) (cI cJ : ClassId) (ad : Nat → Nat) (g : Nat → Int32) (lg : Nat → Int64) (ar : Nat → Nat → Int32) (bk : Nat → Int64) (sz : Nat) (y1 : Int32) (hr0 : 0 ≤ (y1).toInt ∧ (y1).toInt ≤ (g 35).toInt) (hr1 : (g 35).toInt ≤ 3000) (hi_g5 : 1 ≤ (g 5).toInt ∧ (g 5).toInt ≤ 4096) : JMv l yX12_findLongest (Cond.code yX12_findLongest cX12_findLongest 5 none :: wwM) { frames := 1, cells := 0, slots := 0, locals := 24 } t3 D mw cI cJ ad [.ref (ad 0), .int y1] (mw cI cJ ad g lg ar bk) sz 0 0 (fun g' lg' ar' bk' => hk_fr [36, 37] g g' ∧ lg = lg' ∧ ar = ar' ∧ bk = bk' ∧ (0 ≤ (g' 36).toInt ∧ (g' 36).toInt ≤ 273 ∧ (y1).toInt + (g' 36).toInt ≤ (g 35).toInt) ∧ (1 ≤ (g' 36).toInt → (1 ≤ (g' 37).toInt ∧ (g' 37).toInt ≤ (y1).toInt)) ∧ (0 ≤ (g' 37).toInt ∧ (g' 37).toInt ≤ 3000)) (fun g' lg' ar' bk' => False) := by
  refine jx_metv (cc := cX12_findLongest) (maxL := 5) (ret := none) rfl (by decide) rfl (Nat.le_of_ble_eq_true rfl) ?_
  intro p e s m args below meth c ls Q A hx hb hml hown hts hA hZ hw hl hQ kr kt
  have hq : ∀ w ∈ wwM, w.before args s = true := fun w h => hts w (List.mem_cons_of_mem _ h)
  have hl : lv_has ls 5 [(0, .ref (ad 0)), (1, .int y1)] := hl
  refine lv_aload_n hx hb dX12_findLongest_0 rfl (lv_at hl 0 rfl) ?_
  refine lv_iconst (v := 0) hx hb dX12_findLongest_1 (by decide) ?_
  refine jx_putg mw (cI := cI) (cJ := cJ) (ad := ad) (g := g) (lg := lg) (ar := ar) (bk := bk) (x := 0) 36 (ci := 15) (C := RX12) (T := TX12) (N := 92) (ty := .int) hx hb hts (fun _ h => List.mem_cons_of_mem _ (wwMc_wsX120 _ h)) tyX12 tyX12_ok nmX12 hown hw 0 rfl rfl 59 (by decide) (hq _ wM_171) rfl (by decide +kernel) rfl rfl (Nat.le_of_ble_eq_true rfl) dX12_findLongest_2 rfl (fun H locs g1 h_g1 hw => ?_)
  refine lv_aload_n hx hb dX12_findLongest_5 rfl (lv_at hl 0 rfl) ?_
  refine lv_iconst (v := 0) hx hb dX12_findLongest_6 (by decide) ?_
  refine jx_putg mw (cI := cI) (cJ := cJ) (ad := ad) (g := g1) (lg := lg) (ar := ar) (bk := bk) (x := 0) 37 (ci := 15) (C := RX12) (T := TX12) (N := 92) (ty := .int) hx hb hts (fun _ h => List.mem_cons_of_mem _ (wwMc_wsX120 _ h)) tyX12 tyX12_ok nmX12 hown hw 0 rfl rfl 60 (by decide) (hq _ wM_175) rfl (by decide +kernel) rfl rfl (Nat.le_of_ble_eq_true rfl) dX12_findLongest_7 rfl (fun H locs g2 h_g2 hw => ?_)
  refine lv_aload_n hx hb dX12_findLongest_10 rfl (lv_at hl 0 rfl) ?_
  have e_g2_5 : g2 5 = (g 5) := ((hk_upgN h_g2 5 rfl)).trans (hk_upgN h_g1 5 rfl)
  refine hk_get (ci := 15) (C := RX12) (T := TX12) (N := 92) (v := .int (g 5)) hx hb hts (fun _ h => List.mem_cons_of_mem _ (wwMc_wsX120 _ h)) hown hw 0 rfl rfl 5 (by decide) (hq _ wM_206) (congrArg (fun z => some (Value.int z)) e_g2_5) dX12_findLongest_11 ?_
  refine lv_iload_n hx hb dX12_findLongest_14 rfl (lv_at hl 1 rfl) ?_
  have B3 : ∀  (x4 : Int32) (ls : Array Slot) (H : Heap) (locs : List Loc), ((x4).toInt ≤ (y1).toInt) → hk_W D (jT cI cJ) A s H locs (mw cI cJ ad g2 lg ar bk) → lv_has ls 5 [(0, .ref (ad 0)), (1, .int y1)] → W p l e { frames := 1, cells := 0, slots := 0, locals := 24 } s m args below meth c H locs 0 0 Q (F0 m 26 ls [.int x4]) := by
    intro x4 ls H locs hf_B3_0 hw hl
    refine lv_istore_n (lv' := [(2, .int x4), (0, .ref (ad 0)), (1, .int y1)]) hx hb dX12_findLongest_26 rfl hl (by decide) rfl (fun ls hl => ?_)
    refine lv_iconst (v := 1) hx hb dX12_findLongest_27 (by decide) ?_
    refine lv_istore_n (lv' := [(3, .int 1), (2, .int x4), (0, .ref (ad 0)), (1, .int y1)]) hx hb dX12_findLongest_28 rfl hl (by decide) rfl (fun ls hl => ?_)
    have B5 : ∀ (k8 : Nat) (x6 : Int32) (g7 : Nat → Int32) (ls : Array Slot) (H : Heap) (locs : List Loc), (2147483648 - (x6).toInt ≤ (k8 : Int)) → (0 ≤ (g7 36).toInt ∧ (g7 36).toInt ≤ 273 ∧ (y1).toInt + (g7 36).toInt ≤ (g 35).toInt) → (1 ≤ (g7 36).toInt → (1 ≤ (g7 37).toInt ∧ (g7 37).toInt ≤ (y1).toInt)) → (0 ≤ (g7 37).toInt ∧ (g7 37).toInt ≤ 3000) → ((x6).toInt ≤ 3001) → (1 ≤ (x6).toInt) → (hk_fr [36, 37] g2 g7) → hk_W D (jT cI cJ) A s H locs (mw cI cJ ad g7 lg ar bk) → lv_has ls 5 [(0, .ref (ad 0)), (1, .int y1), (2, .int x4), (3, .int x6)] → W p l e { frames := 1, cells := 0, slots := 0, locals := 24 } s m args below meth c H locs 0 0 Q (F0 m 29 ls []) := by
      intro k8
      induction k8 with
      | zero =>
        intro x6 g7 ls H locs hrk_B5 hf_B5_0 hf_B5_1 hf_B5_2 hf_B5_3 hf_B5_4 hfr_g7 hw hl
        exact False.elim (hk_no0 (0 * (x6).toInt) (om986 ((x6).toInt) hf_B5_3 hrk_B5) (by simp))
      | succ k8 ih_B5 =>
        intro x6 g7 ls H locs hrk_B5 hf_B5_0 hf_B5_1 hf_B5_2 hf_B5_3 hf_B5_4 hfr_g7 hw hl
        have hrk_B5 := hk_rk hrk_B5
        refine lv_iload_n hx hb dX12_findLongest_29 rfl (lv_at hl 3 rfl) ?_
        refine lv_iload_n hx hb dX12_findLongest_30 rfl (lv_at hl 2 rfl) ?_
        refine lv_icmp_gt (tgt := 68) hx hb dX12_findLongest_31 (by decide) (fun cc9 => ?_) (fun cc9 => ?_)
        · exact kr g7 lg ar bk _ _ _ _ ⟨(hk_frT (hk_frG (hk_frG hk_fr0 (by decide) h_g1) (by decide) h_g2) (by decide) hfr_g7), rfl, rfl, rfl, (om987 ((g7 36).toInt) ((y1).toInt) ((g 35).toInt) hf_B5_0), (om988 ((g7 36).toInt) ((g7 37).toInt) ((y1).toInt) hf_B5_1), (om404 ((g7 37).toInt) hf_B5_2)⟩ hw dX12_findLongest_68
        · refine lv_aload_n hx hb dX12_findLongest_34 rfl (lv_at hl 0 rfl) ?_
          refine lv_iload_n hx hb dX12_findLongest_35 rfl (lv_at hl 1 rfl) ?_
          refine lv_iload_n hx hb dX12_findLongest_36 rfl (lv_at hl 3 rfl) ?_
          have e_g7_35 : g7 35 = (g 35) := ((hfr_g7 35 rfl)).trans (((hk_upgN h_g2 35 rfl)).trans (hk_upgN h_g1 35 rfl))
          refine jx_Vi (As := [.int y1, .int x6]) (rest := []) ⟨hx, hb, hml, hown, hts⟩ hZ hw hA (jm_X12_sameFrom l hlt D t3 cI cJ ad g7 lg ar bk _ y1 x6 (om989 ((y1).toInt) ((g7 35).toInt) ((g 35).toInt) ((x4).toInt) ((x6).toInt) hr0 hf_B3_0 (congrArg Int32.toInt e_g7_35) (hE_nlt cc9) hf_B5_4) (om990 ((g7 35).toInt) ((g 35).toInt) (congrArg Int32.toInt e_g7_35) hr1) (om991 ((x6).toInt) ((y1).toInt) ((x4).toInt) hf_B3_0 hf_B5_4 (hE_nlt cc9))) (cwV 2 hts (jx_gV wwM_good wM_36 wM_37 wM_38 wM_8 wM_39) rfl rfl rfl (by decide +kernel) ⟨Nat.le_of_ble_eq_true rfl, Nat.le_of_ble_eq_true rfl⟩) 0 (ci := 15) (T := TX12) (N := 92) rfl rfl rfl hl.1 rfl (Nat.le_of_ble_eq_true rfl) dX12_findLongest_37 ⟨Nat.le_of_ble_eq_true rfl, Nat.le_of_ble_eq_true rfl⟩ (fun _ _ _ _ _ _ _ _ hp _ _ _ _ => hp.elim) (fun r14 g15 l16 a17 b18 H locs hp19 hw => ?_)
          obtain ⟨rfl, rfl, rfl, rfl, h24, h25⟩ := hp19
          have e_g7_35 : g7 35 = (g 35) := ((hfr_g7 35 rfl)).trans (((hk_upgN h_g2 35 rfl)).trans (hk_upgN h_g1 35 rfl))
          refine lv_istore (lv' := [(4, .int r14), (0, .ref (ad 0)), (1, .int y1), (2, .int x4), (3, .int x6)]) hx hb dX12_findLongest_40 hl (by decide) rfl (fun ls hl => ?_)
          refine lv_iload hx hb dX12_findLongest_42 (lv_at hl 0 rfl) ?_
          refine lv_aload_n hx hb dX12_findLongest_44 rfl (lv_at hl 1 rfl) ?_
          refine hk_get (ci := 15) (C := RX12) (T := TX12) (N := 92) (v := .int (g7 36)) hx hb hts (fun _ h => List.mem_cons_of_mem _ (wwMc_wsX120 _ h)) hown hw 0 rfl rfl 59 (by decide) (hq _ wM_171) rfl dX12_findLongest_45 ?_
          have B26 : ∀  (g27 : Nat → Int32) (ls : Array Slot) (H : Heap) (locs : List Loc), (0 ≤ (g27 36).toInt ∧ (g27 36).toInt ≤ 273 ∧ (y1).toInt + (g27 36).toInt ≤ (g 35).toInt) → (1 ≤ (g27 36).toInt → (1 ≤ (g27 37).toInt ∧ (g27 37).toInt ≤ (y1).toInt)) → (0 ≤ (g27 37).toInt ∧ (g27 37).toInt ≤ 3000) → (hk_fr [36, 37] g7 g27) → hk_W D (jT cI cJ) A s H locs (mw cI cJ ad g27 lg ar bk) → lv_has ls 5 [(0, .ref (ad 0)), (1, .int y1), (2, .int x4), (3, .int x6)] → W p l e { frames := 1, cells := 0, slots := 0, locals := 24 } s m args below meth c H locs 0 0 Q (F0 m 62 ls []) := by
            intro g27 ls H locs hf_B26_0 hf_B26_1 hf_B26_2 hfr_g27 hw hl
            obtain ⟨z28, hz28⟩ : ∃ z : Int32, x6 + 1 = z := ⟨_, rfl⟩
            refine lv_iinc (v := z28) (lv' := [(3, .int z28), (0, .ref (ad 0)), (1, .int y1), (2, .int x4)]) hx hb dX12_findLongest_62 hl (k := 3) rfl hz28 (by decide) rfl (fun ls hl => ?_)
            have xz28 : (z28).toInt = (x6).toInt + ((1 : Int32)).toInt := (hE_imp (hE_add hz28) (om992 ((x6).toInt) (((1 : Int32)).toInt) ((x4).toInt) ((y1).toInt) ((g 35).toInt) hf_B5_4 (hE_nlt cc9) hf_B3_0 hr0 hr1 (by decide)))
            refine lv_goto (tgt := 29) hx hb dX12_findLongest_65 (by decide) ?_
            exact ih_B5 z28 g27 ls _ _ (om11 ((z28).toInt) (k8 : Int) ((x6).toInt) (((1 : Int32)).toInt) hrk_B5 xz28 (by decide)) (om987 ((g27 36).toInt) ((y1).toInt) ((g 35).toInt) hf_B26_0) (om988 ((g27 36).toInt) ((g27 37).toInt) ((y1).toInt) hf_B26_1) (om404 ((g27 37).toInt) hf_B26_2) (om993 ((z28).toInt) ((x6).toInt) (((1 : Int32)).toInt) ((x4).toInt) ((y1).toInt) ((g 35).toInt) xz28 (hE_nlt cc9) hf_B3_0 hr0 hr1 (by decide)) (om994 ((z28).toInt) ((x6).toInt) (((1 : Int32)).toInt) xz28 hf_B5_4 (by decide)) (hk_frT hfr_g7 (by decide) hfr_g27) hw (lv_sub hl [1, 2, 3, 0] rfl)
          refine lv_icmp_le (tgt := 62) hx hb dX12_findLongest_48 (by decide) (fun cc29 => ?_) (fun cc29 => ?_)
          · exact B26 g7 ls _ _ (om987 ((g7 36).toInt) ((y1).toInt) ((g 35).toInt) hf_B5_0) (om988 ((g7 36).toInt) ((g7 37).toInt) ((y1).toInt) hf_B5_1) (om404 ((g7 37).toInt) hf_B5_2) hk_fr0 hw (lv_sub hl [1, 2, 3, 4] rfl)
          · refine lv_aload_n hx hb dX12_findLongest_51 rfl (lv_at hl 1 rfl) ?_
            refine lv_iload hx hb dX12_findLongest_52 (lv_at hl 0 rfl) ?_
            refine jx_putg mw (cI := cI) (cJ := cJ) (ad := ad) (g := g7) (lg := lg) (ar := ar) (bk := bk) (x := r14) 36 (ci := 15) (C := RX12) (T := TX12) (N := 92) (ty := .int) hx hb hts (fun _ h => List.mem_cons_of_mem _ (wwMc_wsX120 _ h)) tyX12 tyX12_ok nmX12 hown hw 0 rfl rfl 59 (by decide) (hq _ wM_171) rfl (by decide +kernel) rfl rfl (Nat.le_of_ble_eq_true rfl) dX12_findLongest_54 rfl (fun H locs g30 h_g30 hw => ?_)
            refine lv_aload_n hx hb dX12_findLongest_57 rfl (lv_at hl 1 rfl) ?_
            refine lv_iload_n hx hb dX12_findLongest_58 rfl (lv_at hl 4 rfl) ?_
            refine jx_putg mw (cI := cI) (cJ := cJ) (ad := ad) (g := g30) (lg := lg) (ar := ar) (bk := bk) (x := x6) 37 (ci := 15) (C := RX12) (T := TX12) (N := 92) (ty := .int) hx hb hts (fun _ h => List.mem_cons_of_mem _ (wwMc_wsX120 _ h)) tyX12 tyX12_ok nmX12 hown hw 0 rfl rfl 60 (by decide) (hq _ wM_175) rfl (by decide +kernel) rfl rfl (Nat.le_of_ble_eq_true rfl) dX12_findLongest_59 rfl (fun H locs g31 h_g31 hw => ?_)
            have e_g31_36 : g31 36 = r14 := ((hk_upgN h_g31 36 rfl)).trans (hk_upgS h_g30)
            have e_g31_37 : g31 37 = x6 := (hk_upgS h_g31)
            exact B26 g31 ls _ _ (om995 ((g31 36).toInt) ((y1).toInt) ((g 35).toInt) ((g7 36).toInt) ((g7 35).toInt) ((r14).toInt) hf_B5_0 (congrArg Int32.toInt e_g7_35) h25 (congrArg Int32.toInt e_g31_36) h24 (hE_nle cc29)) (om996 ((g31 36).toInt) ((g31 37).toInt) ((y1).toInt) ((x4).toInt) ((x6).toInt) hf_B3_0 (congrArg Int32.toInt e_g31_37) hf_B5_4 (hE_nlt cc9)) (om997 ((g31 37).toInt) ((x6).toInt) ((x4).toInt) ((y1).toInt) ((g7 36).toInt) ((g 35).toInt) ((r14).toInt) ((g7 35).toInt) (congrArg Int32.toInt e_g31_37) hf_B5_4 (hE_nlt cc9) hf_B3_0 hf_B5_0 h25 hr1 (congrArg Int32.toInt e_g7_35) (hE_nle cc29)) (hk_frG (hk_frG hk_fr0 (by decide) h_g30) (by decide) h_g31) hw (lv_sub hl [1, 2, 3, 4] rfl)
    have e_g2_36 : g2 36 = (0 : Int32) := ((hk_upgN h_g2 36 rfl)).trans (hk_upgS h_g1)
    have e_g2_37 : g2 37 = (0 : Int32) := (hk_upgS h_g2)
    exact B5 (2147483648 - ((1 : Int32)).toInt).toNat 1 g2 ls _ _ (Int.self_le_toNat _) (om998 ((g2 36).toInt) ((y1).toInt) ((g 35).toInt) (((0 : Int32)).toInt) hr0 (congrArg Int32.toInt e_g2_36) (by decide)) (om999 ((g2 36).toInt) ((g2 37).toInt) ((y1).toInt) (((0 : Int32)).toInt) (congrArg Int32.toInt e_g2_36) (by decide)) (om625 ((g2 37).toInt) (((0 : Int32)).toInt) (congrArg Int32.toInt e_g2_37) (by decide)) (om1000 (((1 : Int32)).toInt) (by decide)) (om1001 (((1 : Int32)).toInt) (by decide)) hk_fr0 hw (lv_sub hl [2, 3, 1, 0] rfl)
  refine lv_icmp_ge (tgt := 25) hx hb dX12_findLongest_15 (by decide) (fun cc32 => ?_) (fun cc32 => ?_)
  · refine lv_iload_n hx hb dX12_findLongest_25 rfl (lv_at hl 1 rfl) ?_
    exact B3 y1 ls _ _ (om122 ((y1).toInt)) hw (lv_sub hl [0, 1] rfl)
  · refine lv_aload_n hx hb dX12_findLongest_18 rfl (lv_at hl 0 rfl) ?_
    refine hk_get (ci := 15) (C := RX12) (T := TX12) (N := 92) (v := .int (g 5)) hx hb hts (fun _ h => List.mem_cons_of_mem _ (wwMc_wsX120 _ h)) hown hw 0 rfl rfl 5 (by decide) (hq _ wM_206) (congrArg (fun z => some (Value.int z)) e_g2_5) dX12_findLongest_19 ?_
    refine lv_goto (tgt := 26) hx hb dX12_findLongest_22 (by decide) ?_
    exact B3 (g 5) ls _ _ (om1002 ((g 5).toInt) ((y1).toInt) (hE_nle cc32)) hw (lv_sub hl [0, 1] rfl)

set_option maxHeartbeats 4000000 in
set_option maxRecDepth 100000 in
/-- X12_again on (0,) -/
theorem jm_X12_again (l : Launch) (hlt : l.stackTraces = false) (D : va_G) (t3 : Nat × Nat × Nat) (cI cJ : ClassId) (ad : Nat → Nat) (g : Nat → Int32) (lg : Nat → Int64) (ar : Nat → Nat → Int32) (bk : Nat → Int64) (sz : Nat) (y1 : Int32) (y2 : Int32) (hr0 : 0 ≤ (y1).toInt ∧ (y1).toInt ≤ 3) (hr1 : 0 ≤ (y2).toInt ∧ (y2).toInt ≤ (g 35).toInt) (hr2 : (g 35).toInt ≤ 3000) (hi_g24 : 1 ≤ (g 24).toInt ∧ (g 24).toInt ≤ 3000) (hi_g25 : 1 ≤ (g 25).toInt ∧ (g 25).toInt ≤ 3000) (hi_g26 : 1 ≤ (g 26).toInt ∧ (g 26).toInt ≤ 3000) (hi_g27 : 1 ≤ (g 27).toInt ∧ (g 27).toInt ≤ 3000) : JMi l yX12_again (Cond.code yX12_again cX12_again 3 (some .int) :: wwM) { frames := 1, cells := 0, slots := 0, locals := 24 } t3 D mw cI cJ ad [.ref (ad 0), .int y1, .int y2] (mw cI cJ ad g lg ar bk) sz 0 0 (fun (r : Int32) g' lg' ar' bk' => g = g' ∧ lg = lg' ∧ ar = ar' ∧ bk = bk' ∧ (0 ≤ (r).toInt ∧ (r).toInt ≤ 273) ∧ ((y2).toInt + (r).toInt ≤ (g 35).toInt) ∧ (((1 ≤ (r).toInt ∧ (y1).toInt = 0) → (g 24).toInt ≤ (y2).toInt) ∧ ((1 ≤ (r).toInt ∧ (y1).toInt = 1) → (g 25).toInt ≤ (y2).toInt) ∧ ((1 ≤ (r).toInt ∧ (y1).toInt = 2) → (g 26).toInt ≤ (y2).toInt) ∧ ((1 ≤ (r).toInt ∧ (y1).toInt = 3) → (g 27).toInt ≤ (y2).toInt))) (fun g' lg' ar' bk' => False) := by
  refine jx_meti (cc := cX12_again) (maxL := 3) (ret := (some .int)) rfl (by decide) rfl (Nat.le_of_ble_eq_true rfl) ?_
  intro p e s m args below meth c ls Q A hx hb hml hown hts hA hZ hw hl hQ kr kt
  have hq : ∀ w ∈ wwM, w.before args s = true := fun w h => hts w (List.mem_cons_of_mem _ h)
  have hl : lv_has ls 3 [(0, .ref (ad 0)), (1, .int y1), (2, .int y2)] := hl
  refine lv_aload_n hx hb dX12_again_0 rfl (lv_at hl 0 rfl) ?_
  refine lv_iload_n hx hb dX12_again_1 rfl (lv_at hl 1 rfl) ?_
  refine jx_Vi (As := [.int y1]) (rest := []) ⟨hx, hb, hml, hown, hts⟩ hZ hw hA (jm_X12_backOf l hlt D t3 cI cJ ad g lg ar bk _ y1 (om159 ((y1).toInt) hr0)) (cwV 1 hts (jx_gV wwM_good wM_32 wM_33 wM_34 wM_8 wM_35) rfl rfl rfl (by decide +kernel) ⟨Nat.le_of_ble_eq_true rfl, Nat.le_of_ble_eq_true rfl⟩) 0 (ci := 15) (T := TX12) (N := 92) rfl rfl rfl hl.1 rfl (Nat.le_of_ble_eq_true rfl) dX12_again_2 ⟨Nat.le_of_ble_eq_true rfl, Nat.le_of_ble_eq_true rfl⟩ (fun _ _ _ _ _ _ _ _ hp _ _ _ _ => hp.elim) (fun r5 g6 l7 a8 b9 H locs hp10 hw => ?_)
  obtain ⟨rfl, rfl, rfl, rfl, h15⟩ := hp10
  refine lv_iload_n hx hb dX12_again_5 rfl (lv_at hl 2 rfl) ?_
  refine lv_icmp_le (tgt := 13) hx hb dX12_again_6 (by decide) (fun cc16 => ?_) (fun cc16 => ?_)
  · refine lv_aload_n hx hb dX12_again_13 rfl (lv_at hl 0 rfl) ?_
    refine lv_iload_n hx hb dX12_again_14 rfl (lv_at hl 2 rfl) ?_
    refine lv_aload_n hx hb dX12_again_15 rfl (lv_at hl 0 rfl) ?_
    refine lv_iload_n hx hb dX12_again_16 rfl (lv_at hl 1 rfl) ?_
    refine jx_Vi (As := [.int y1]) (rest := [.int y2, .ref (ad 0)]) ⟨hx, hb, hml, hown, hts⟩ hZ hw hA (jm_X12_backOf l hlt D t3 cI cJ ad g lg ar bk _ y1 (om159 ((y1).toInt) hr0)) (cwV 1 hts (jx_gV wwM_good wM_32 wM_33 wM_34 wM_8 wM_35) rfl rfl rfl (by decide +kernel) ⟨Nat.le_of_ble_eq_true rfl, Nat.le_of_ble_eq_true rfl⟩) 0 (ci := 15) (T := TX12) (N := 92) rfl rfl rfl hl.1 rfl (Nat.le_of_ble_eq_true rfl) dX12_again_17 ⟨Nat.le_of_ble_eq_true rfl, Nat.le_of_ble_eq_true rfl⟩ (fun _ _ _ _ _ _ _ _ hp _ _ _ _ => hp.elim) (fun r21 g22 l23 a24 b25 H locs hp26 hw => ?_)
    obtain ⟨rfl, rfl, rfl, rfl, h31⟩ := hp26
    refine jx_Vi (As := [.int y2, .int r21]) (rest := []) ⟨hx, hb, hml, hown, hts⟩ hZ hw hA (jm_X12_sameFrom l hlt D t3 cI cJ ad g lg ar bk _ y2 r21 (om1003 ((y2).toInt) ((g 35).toInt) hr1) (om1004 ((g 35).toInt) hr2) (om1005 ((r21).toInt) ((y2).toInt) ((g 35).toInt) ((r5).toInt) ((y1).toInt) ((g 24).toInt) ((g 25).toInt) ((g 26).toInt) ((g 27).toInt) hr1 (hE_le cc16) h31 hr0 hi_g24 hi_g25 hi_g26 hi_g27 h15 (hE_rng (r21)) (hE_rng (y2)) (hE_rng (r5)) (hE_rng (y1)) (hE_rng (g 24)) (hE_rng (g 25)) (hE_rng (g 26)) (hE_rng (g 27)))) (cwV 2 hts (jx_gV wwM_good wM_36 wM_37 wM_38 wM_8 wM_39) rfl rfl rfl (by decide +kernel) ⟨Nat.le_of_ble_eq_true rfl, Nat.le_of_ble_eq_true rfl⟩) 0 (ci := 15) (T := TX12) (N := 92) rfl rfl rfl hl.1 rfl (Nat.le_of_ble_eq_true rfl) dX12_again_20 ⟨Nat.le_of_ble_eq_true rfl, Nat.le_of_ble_eq_true rfl⟩ (fun _ _ _ _ _ _ _ _ hp _ _ _ _ => hp.elim) (fun r36 g37 l38 a39 b40 H locs hp41 hw => ?_)
    obtain ⟨rfl, rfl, rfl, rfl, h46, h47⟩ := hp41
    exact kr r36 g lg ar bk _ _ _ _ ⟨rfl, rfl, rfl, rfl, (om1006 ((r36).toInt) h46), (om1007 ((y2).toInt) ((r36).toInt) ((g 35).toInt) h47), (om1008 ((r36).toInt) ((y1).toInt) ((g 24).toInt) ((y2).toInt) ((g 25).toInt) ((g 26).toInt) ((g 27).toInt) ((r5).toInt) hr0 h15 (hE_le cc16))⟩ hw dX12_again_23
  · refine lv_iconst (v := 0) hx hb dX12_again_9 (by decide) ?_
    refine lv_goto (tgt := 23) hx hb dX12_again_10 (by decide) ?_
    exact kr 0 g lg ar bk _ _ _ _ ⟨rfl, rfl, rfl, rfl, (om1009 (((0 : Int32)).toInt) (by decide)), (om1010 ((y2).toInt) (((0 : Int32)).toInt) ((g 35).toInt) hr1 (by decide)), (om1011 (((0 : Int32)).toInt) ((y1).toInt) ((g 24).toInt) ((y2).toInt) ((g 25).toInt) ((g 26).toInt) ((g 27).toInt) (by decide))⟩ hw dX12_again_23

set_option maxHeartbeats 4000000 in
set_option maxRecDepth 100000 in
/-- X12_choose0 on (0,) -/
theorem jm_X12_choose0 (l : Launch) (hlt : l.stackTraces = false) (D : va_G) (t3 : Nat × Nat × Nat) (cI cJ : ClassId) (ad : Nat → Nat) (g : Nat → Int32) (lg : Nat → Int64) (ar : Nat → Nat → Int32) (bk : Nat → Int64) (sz : Nat) (y1 : Int32) (hr0 : 0 ≤ (y1).toInt ∧ (y1).toInt < (g 35).toInt) (hr1 : (g 35).toInt ≤ 3000) (hi_g24 : 1 ≤ (g 24).toInt ∧ (g 24).toInt ≤ 3000) (hi_g25 : 1 ≤ (g 25).toInt ∧ (g 25).toInt ≤ 3000) (hi_g26 : 1 ≤ (g 26).toInt ∧ (g 26).toInt ≤ 3000) (hi_g27 : 1 ≤ (g 27).toInt ∧ (g 27).toInt ≤ 3000) (hi_g5 : 1 ≤ (g 5).toInt ∧ (g 5).toInt ≤ 4096) : JMv l yX12_choose0 (Cond.code yX12_choose0 cX12_choose0 4 none :: wwM) { frames := 2, cells := 0, slots := 0, locals := 48 } t3 D mw cI cJ ad [.ref (ad 0), .int y1] (mw cI cJ ad g lg ar bk) sz 0 0 (fun g' lg' ar' bk' => hk_fr [36, 37, 38, 39, 40] g g' ∧ lg = lg' ∧ ar = ar' ∧ bk = bk' ∧ (1 ≤ (g' 39).toInt ∧ (y1).toInt + (g' 39).toInt ≤ (g 35).toInt ∧ (g' 39).toInt ≤ 3000) ∧ (0 ≤ (g' 38).toInt ∧ (g' 38).toInt ≤ 6) ∧ ((g' 38).toInt = 1 → (2 ≤ (g' 39).toInt ∧ 1 ≤ (g' 40).toInt ∧ (g' 40).toInt ≤ (y1).toInt)) ∧ (((g' 38).toInt = 0 ∨ (g' 38).toInt = 6) → (g' 39).toInt = 1) ∧ ((g' 38).toInt = 6 → (g 24).toInt ≤ (y1).toInt) ∧ ((g' 38).toInt = 2 → (2 ≤ (g' 39).toInt ∧ (g 24).toInt ≤ (y1).toInt)) ∧ ((g' 38).toInt = 3 → (2 ≤ (g' 39).toInt ∧ (g 25).toInt ≤ (y1).toInt)) ∧ ((g' 38).toInt = 4 → (2 ≤ (g' 39).toInt ∧ (g 26).toInt ≤ (y1).toInt)) ∧ ((g' 38).toInt = 5 → (2 ≤ (g' 39).toInt ∧ (g 27).toInt ≤ (y1).toInt))) (fun g' lg' ar' bk' => False) := by
  refine jx_metv (cc := cX12_choose0) (maxL := 4) (ret := none) rfl (by decide) rfl (Nat.le_of_ble_eq_true rfl) ?_
  intro p e s m args below meth c ls Q A hx hb hml hown hts hA hZ hw hl hQ kr kt
  have hq : ∀ w ∈ wwM, w.before args s = true := fun w h => hts w (List.mem_cons_of_mem _ h)
  have hl : lv_has ls 4 [(0, .ref (ad 0)), (1, .int y1)] := hl
  refine lv_aload_n hx hb dX12_choose0_0 rfl (lv_at hl 0 rfl) ?_
  refine lv_iload_n hx hb dX12_choose0_1 rfl (lv_at hl 1 rfl) ?_
  refine jx_Vv (As := [.int y1]) (rest := []) ⟨hx, hb, hml, hown, hts⟩ hZ hw hA (jm_X12_findLongest l hlt D t3 cI cJ ad g lg ar bk _ y1 (om1012 ((y1).toInt) ((g 35).toInt) hr0) (om1004 ((g 35).toInt) hr1) (om1013 ((g 5).toInt) hi_g5)) (cwV 1 hts (jx_gV wwM_good wM_163 wM_164 wM_165 wM_8 wM_166) rfl rfl rfl (by decide +kernel) ⟨Nat.le_of_ble_eq_true rfl, Nat.le_of_ble_eq_true rfl⟩) 0 (ci := 15) (T := TX12) (N := 92) rfl rfl rfl hl.1 rfl (Nat.le_of_ble_eq_true rfl) dX12_choose0_2 ⟨Nat.le_of_ble_eq_true rfl, Nat.le_of_ble_eq_true rfl⟩ (fun _ _ _ _ _ _ _ _ hp _ _ _ _ => hp.elim) (fun g6 l7 a8 b9 H locs hp10 hw => ?_)
  obtain ⟨h11, rfl, rfl, rfl, h15, h16, h17⟩ := hp10
  refine lv_iconst (v := 0) hx hb dX12_choose0_5 (by decide) ?_
  refine lv_istore_n (lv' := [(2, .int 0), (0, .ref (ad 0)), (1, .int y1)]) hx hb dX12_choose0_6 rfl hl (by decide) rfl (fun ls hl => ?_)
  refine lv_iconst (v := 1) hx hb dX12_choose0_7 (by decide) ?_
  refine lv_istore_n (lv' := [(3, .int 1), (2, .int 0), (0, .ref (ad 0)), (1, .int y1)]) hx hb dX12_choose0_8 rfl hl (by decide) rfl (fun ls hl => ?_)
  have B18 : ∀ (k21 : Nat) (x19 : Int32) (x20 : Int32) (ls : Array Slot) (H : Heap) (locs : List Loc), (2147483648 - (x20).toInt ≤ (k21 : Int)) → (0 ≤ (x19).toInt ∧ (x19).toInt ≤ 3) → ((x20).toInt ≤ 4) → (1 ≤ (x20).toInt) → hk_W D (jT cI cJ) A s H locs (mw cI cJ ad g6 lg ar bk) → lv_has ls 4 [(0, .ref (ad 0)), (1, .int y1), (2, .int x19), (3, .int x20)] → W p l e { frames := 2, cells := 0, slots := 0, locals := 48 } s m args below meth c H locs 0 0 Q (F0 m 9 ls []) := by
    intro k21
    induction k21 with
    | zero =>
      intro x19 x20 ls H locs hrk_B18 hf_B18_0 hf_B18_1 hf_B18_2 hw hl
      exact False.elim (hk_no0 (0 * (x20).toInt) (om1014 ((x20).toInt) hf_B18_1 hrk_B18) (by simp))
    | succ k21 ih_B18 =>
      intro x19 x20 ls H locs hrk_B18 hf_B18_0 hf_B18_1 hf_B18_2 hw hl
      have hrk_B18 := hk_rk hrk_B18
      refine lv_iload_n hx hb dX12_choose0_9 rfl (lv_at hl 3 rfl) ?_
      refine lv_iconst (v := 4) hx hb dX12_choose0_10 (by decide) ?_
      refine lv_icmp_ge (tgt := 41) hx hb dX12_choose0_11 (by decide) (fun cc22 => ?_) (fun cc22 => ?_)
      · refine lv_aload_n hx hb dX12_choose0_41 rfl (lv_at hl 0 rfl) ?_
        refine lv_iload_n hx hb dX12_choose0_42 rfl (lv_at hl 2 rfl) ?_
        refine lv_iload_n hx hb dX12_choose0_43 rfl (lv_at hl 1 rfl) ?_
        have e_g6_35 : g6 35 = (g 35) := (h11 35 rfl)
        have e_g6_24 : g6 24 = (g 24) := (h11 24 rfl)
        have e_g6_25 : g6 25 = (g 25) := (h11 25 rfl)
        have e_g6_26 : g6 26 = (g 26) := (h11 26 rfl)
        have e_g6_27 : g6 27 = (g 27) := (h11 27 rfl)
        refine jx_Vi (As := [.int x19, .int y1]) (rest := []) ⟨hx, hb, hml, hown, hts⟩ hZ hw hA (jm_X12_again l hlt D t3 cI cJ ad g6 lg ar bk _ x19 y1 (om159 ((x19).toInt) hf_B18_0) (om1015 ((y1).toInt) ((g6 35).toInt) ((g 35).toInt) hr0 (congrArg Int32.toInt e_g6_35)) (om990 ((g6 35).toInt) ((g 35).toInt) (congrArg Int32.toInt e_g6_35) hr1) (om162 ((g6 24).toInt) ((g 24).toInt) (congrArg Int32.toInt e_g6_24) hi_g24) (om162 ((g6 25).toInt) ((g 25).toInt) (congrArg Int32.toInt e_g6_25) hi_g25) (om162 ((g6 26).toInt) ((g 26).toInt) (congrArg Int32.toInt e_g6_26) hi_g26) (om162 ((g6 27).toInt) ((g 27).toInt) (congrArg Int32.toInt e_g6_27) hi_g27)) (cwV 2 hts (jx_gV wwM_good wM_167 wM_168 wM_169 wM_8 wM_170) rfl rfl rfl (by decide +kernel) ⟨Nat.le_of_ble_eq_true rfl, Nat.le_of_ble_eq_true rfl⟩) 0 (ci := 15) (T := TX12) (N := 92) rfl rfl rfl hl.1 rfl (Nat.le_of_ble_eq_true rfl) dX12_choose0_44 ⟨Nat.le_of_ble_eq_true rfl, Nat.le_of_ble_eq_true rfl⟩ (fun _ _ _ _ _ _ _ _ hp _ _ _ _ => hp.elim) (fun r27 g28 l29 a30 b31 H locs hp32 hw => ?_)
        obtain ⟨rfl, rfl, rfl, rfl, h37, h38, h39⟩ := hp32
        have e_g6_35 : g6 35 = (g 35) := (h11 35 rfl)
        have e_g6_24 : g6 24 = (g 24) := (h11 24 rfl)
        have e_g6_25 : g6 25 = (g 25) := (h11 25 rfl)
        have e_g6_26 : g6 26 = (g 26) := (h11 26 rfl)
        have e_g6_27 : g6 27 = (g 27) := (h11 27 rfl)
        refine lv_istore_n (lv' := [(3, .int r27), (0, .ref (ad 0)), (1, .int y1), (2, .int x19)]) hx hb dX12_choose0_47 rfl hl (by decide) rfl (fun ls hl => ?_)
        refine lv_iload_n hx hb dX12_choose0_48 rfl (lv_at hl 0 rfl) ?_
        refine lv_iconst (v := 2) hx hb dX12_choose0_49 (by decide) ?_
        have B40 : ∀  (ls : Array Slot) (H : Heap) (locs : List Loc), hk_W D (jT cI cJ) A s H locs (mw cI cJ ad g6 lg ar bk) → lv_has ls 4 [(0, .ref (ad 0)), (1, .int y1)] → W p l e { frames := 2, cells := 0, slots := 0, locals := 48 } s m args below meth c H locs 0 0 Q (F0 m 87 ls []) := by
          intro ls H locs hw hl
          refine lv_aload_n hx hb dX12_choose0_87 rfl (lv_at hl 0 rfl) ?_
          refine hk_get (ci := 15) (C := RX12) (T := TX12) (N := 92) (v := .int (g6 36)) hx hb hts (fun _ h => List.mem_cons_of_mem _ (wwMc_wsX120 _ h)) hown hw 0 rfl rfl 59 (by decide) (hq _ wM_171) rfl dX12_choose0_88 ?_
          refine lv_iconst (v := 3) hx hb dX12_choose0_91 (by decide) ?_
          have B41 : ∀  (ls : Array Slot) (H : Heap) (locs : List Loc), (2 ≤ (g6 36).toInt) → hk_W D (jT cI cJ) A s H locs (mw cI cJ ad g6 lg ar bk) → lv_has ls 4 [(0, .ref (ad 0))] → W p l e { frames := 2, cells := 0, slots := 0, locals := 48 } s m args below meth c H locs 0 0 Q (F0 m 113 ls []) := by
            intro ls H locs hf_B41_0 hw hl
            refine lv_aload_n hx hb dX12_choose0_113 rfl (lv_at hl 0 rfl) ?_
            refine lv_iconst (v := 1) hx hb dX12_choose0_114 (by decide) ?_
            refine jx_putg mw (cI := cI) (cJ := cJ) (ad := ad) (g := g6) (lg := lg) (ar := ar) (bk := bk) (x := 1) 38 (ci := 15) (C := RX12) (T := TX12) (N := 92) (ty := .int) hx hb hts (fun _ h => List.mem_cons_of_mem _ (wwMc_wsX120 _ h)) tyX12 tyX12_ok nmX12 hown hw 0 rfl rfl 61 (by decide) (hq _ wM_172) rfl (by decide +kernel) rfl rfl (Nat.le_of_ble_eq_true rfl) dX12_choose0_115 rfl (fun H locs g42 h_g42 hw => ?_)
            refine lv_aload_n hx hb dX12_choose0_118 rfl (lv_at hl 0 rfl) ?_
            refine lv_aload_n hx hb dX12_choose0_119 rfl (lv_at hl 0 rfl) ?_
            have e_g42_36 : g42 36 = (g6 36) := (hk_upgN h_g42 36 rfl)
            refine hk_get (ci := 15) (C := RX12) (T := TX12) (N := 92) (v := .int (g6 36)) hx hb hts (fun _ h => List.mem_cons_of_mem _ (wwMc_wsX120 _ h)) hown hw 0 rfl rfl 59 (by decide) (hq _ wM_171) (congrArg (fun z => some (Value.int z)) e_g42_36) dX12_choose0_120 ?_
            refine jx_putg mw (cI := cI) (cJ := cJ) (ad := ad) (g := g42) (lg := lg) (ar := ar) (bk := bk) (x := (g6 36)) 39 (ci := 15) (C := RX12) (T := TX12) (N := 92) (ty := .int) hx hb hts (fun _ h => List.mem_cons_of_mem _ (wwMc_wsX120 _ h)) tyX12 tyX12_ok nmX12 hown hw 0 rfl rfl 62 (by decide) (hq _ wM_173) rfl (by decide +kernel) rfl rfl (Nat.le_of_ble_eq_true rfl) dX12_choose0_123 rfl (fun H locs g43 h_g43 hw => ?_)
            refine lv_aload_n hx hb dX12_choose0_126 rfl (lv_at hl 0 rfl) ?_
            refine lv_aload_n hx hb dX12_choose0_127 rfl (lv_at hl 0 rfl) ?_
            have e_g43_37 : g43 37 = (g6 37) := ((hk_upgN h_g43 37 rfl)).trans (hk_upgN h_g42 37 rfl)
            refine hk_get (ci := 15) (C := RX12) (T := TX12) (N := 92) (v := .int (g6 37)) hx hb hts (fun _ h => List.mem_cons_of_mem _ (wwMc_wsX120 _ h)) hown hw 0 rfl rfl 60 (by decide) (hq _ wM_175) (congrArg (fun z => some (Value.int z)) e_g43_37) dX12_choose0_128 ?_
            refine jx_putg mw (cI := cI) (cJ := cJ) (ad := ad) (g := g43) (lg := lg) (ar := ar) (bk := bk) (x := (g6 37)) 40 (ci := 15) (C := RX12) (T := TX12) (N := 92) (ty := .int) hx hb hts (fun _ h => List.mem_cons_of_mem _ (wwMc_wsX120 _ h)) tyX12 tyX12_ok nmX12 hown hw 0 rfl rfl 63 (by decide) (hq _ wM_174) rfl (by decide +kernel) rfl rfl (Nat.le_of_ble_eq_true rfl) dX12_choose0_131 rfl (fun H locs g44 h_g44 hw => ?_)
            refine lv_goto (tgt := 184) hx hb dX12_choose0_134 (by decide) ?_
            have e_g44_39 : g44 39 = (g6 36) := ((hk_upgN h_g44 39 rfl)).trans (hk_upgS h_g43)
            have e_g44_38 : g44 38 = (1 : Int32) := ((hk_upgN h_g44 38 rfl)).trans (((hk_upgN h_g43 38 rfl)).trans (hk_upgS h_g42))
            have e_g44_40 : g44 40 = (g6 37) := (hk_upgS h_g44)
            exact kr g44 lg ar bk _ _ _ _ ⟨(hk_frG (hk_frG (hk_frG (hk_frT hk_fr0 (by decide) h11) (by decide) h_g42) (by decide) h_g43) (by decide) h_g44), rfl, rfl, rfl, (om1016 ((g44 39).toInt) ((y1).toInt) ((g 35).toInt) ((g6 36).toInt) h15 (congrArg Int32.toInt e_g44_39) hf_B41_0), (om1017 ((g44 38).toInt) (((1 : Int32)).toInt) (congrArg Int32.toInt e_g44_38) (by decide)), (om1018 ((g44 38).toInt) ((g44 39).toInt) ((g44 40).toInt) ((y1).toInt) ((g6 36).toInt) ((g6 37).toInt) h16 (congrArg Int32.toInt e_g44_39) (congrArg Int32.toInt e_g44_40) hf_B41_0), (om1019 ((g44 38).toInt) ((g44 39).toInt) (((1 : Int32)).toInt) (congrArg Int32.toInt e_g44_38) (by decide)), (om1020 ((g44 38).toInt) ((g 24).toInt) ((y1).toInt) (((1 : Int32)).toInt) (congrArg Int32.toInt e_g44_38) (by decide)), (om1021 ((g44 38).toInt) ((g44 39).toInt) ((g 24).toInt) ((y1).toInt) (((1 : Int32)).toInt) (congrArg Int32.toInt e_g44_38) (by decide)), (om1022 ((g44 38).toInt) ((g44 39).toInt) ((g 25).toInt) ((y1).toInt) (((1 : Int32)).toInt) (congrArg Int32.toInt e_g44_38) (by decide)), (om1023 ((g44 38).toInt) ((g44 39).toInt) ((g 26).toInt) ((y1).toInt) (((1 : Int32)).toInt) (congrArg Int32.toInt e_g44_38) (by decide)), (om1024 ((g44 38).toInt) ((g44 39).toInt) ((g 27).toInt) ((y1).toInt) (((1 : Int32)).toInt) (congrArg Int32.toInt e_g44_38) (by decide))⟩ hw dX12_choose0_184
          refine lv_icmp_ge (tgt := 113) hx hb dX12_choose0_92 (by decide) (fun cc45 => ?_) (fun cc45 => ?_)
          · exact B41 ls _ _ (om1025 ((g6 36).toInt) (((3 : Int32)).toInt) (hE_le cc45) (by decide)) hw (lv_sub hl [0] rfl)
          · refine lv_aload_n hx hb dX12_choose0_95 rfl (lv_at hl 0 rfl) ?_
            refine hk_get (ci := 15) (C := RX12) (T := TX12) (N := 92) (v := .int (g6 36)) hx hb hts (fun _ h => List.mem_cons_of_mem _ (wwMc_wsX120 _ h)) hown hw 0 rfl rfl 59 (by decide) (hq _ wM_171) rfl dX12_choose0_96 ?_
            refine lv_iconst (v := 2) hx hb dX12_choose0_99 (by decide) ?_
            have B46 : ∀  (ls : Array Slot) (H : Heap) (locs : List Loc), hk_W D (jT cI cJ) A s H locs (mw cI cJ ad g6 lg ar bk) → lv_has ls 4 [(0, .ref (ad 0)), (1, .int y1)] → W p l e { frames := 2, cells := 0, slots := 0, locals := 48 } s m args below meth c H locs 0 0 Q (F0 m 137 ls []) := by
              intro ls H locs hw hl
              refine lv_aload_n hx hb dX12_choose0_137 rfl (lv_at hl 0 rfl) ?_
              refine lv_iconst (v := 0) hx hb dX12_choose0_138 (by decide) ?_
              refine lv_iload_n hx hb dX12_choose0_139 rfl (lv_at hl 1 rfl) ?_
              refine jx_Vi (As := [.int 0, .int y1]) (rest := []) ⟨hx, hb, hml, hown, hts⟩ hZ hw hA (jm_X12_again l hlt D t3 cI cJ ad g6 lg ar bk _ 0 y1 (om464 (((0 : Int32)).toInt) (by decide)) (om1015 ((y1).toInt) ((g6 35).toInt) ((g 35).toInt) hr0 (congrArg Int32.toInt e_g6_35)) (om990 ((g6 35).toInt) ((g 35).toInt) (congrArg Int32.toInt e_g6_35) hr1) (om162 ((g6 24).toInt) ((g 24).toInt) (congrArg Int32.toInt e_g6_24) hi_g24) (om162 ((g6 25).toInt) ((g 25).toInt) (congrArg Int32.toInt e_g6_25) hi_g25) (om162 ((g6 26).toInt) ((g 26).toInt) (congrArg Int32.toInt e_g6_26) hi_g26) (om162 ((g6 27).toInt) ((g 27).toInt) (congrArg Int32.toInt e_g6_27) hi_g27)) (cwV 2 hts (jx_gV wwM_good wM_167 wM_168 wM_169 wM_8 wM_170) rfl rfl rfl (by decide +kernel) ⟨Nat.le_of_ble_eq_true rfl, Nat.le_of_ble_eq_true rfl⟩) 0 (ci := 15) (T := TX12) (N := 92) rfl rfl rfl hl.1 rfl (Nat.le_of_ble_eq_true rfl) dX12_choose0_140 ⟨Nat.le_of_ble_eq_true rfl, Nat.le_of_ble_eq_true rfl⟩ (fun _ _ _ _ _ _ _ _ hp _ _ _ _ => hp.elim) (fun r51 g52 l53 a54 b55 H locs hp56 hw => ?_)
              obtain ⟨rfl, rfl, rfl, rfl, h61, h62, h63⟩ := hp56
              refine lv_iconst (v := 1) hx hb dX12_choose0_143 (by decide) ?_
              refine lv_icmp_ne (tgt := 169) hx hb dX12_choose0_144 (by decide) (fun cc64 => ?_) (fun cc64 => ?_)
              · refine lv_aload_n hx hb dX12_choose0_169 rfl (lv_at hl 0 rfl) ?_
                refine lv_iconst (v := 0) hx hb dX12_choose0_170 (by decide) ?_
                refine jx_putg mw (cI := cI) (cJ := cJ) (ad := ad) (g := g6) (lg := lg) (ar := ar) (bk := bk) (x := 0) 38 (ci := 15) (C := RX12) (T := TX12) (N := 92) (ty := .int) hx hb hts (fun _ h => List.mem_cons_of_mem _ (wwMc_wsX120 _ h)) tyX12 tyX12_ok nmX12 hown hw 0 rfl rfl 61 (by decide) (hq _ wM_172) rfl (by decide +kernel) rfl rfl (Nat.le_of_ble_eq_true rfl) dX12_choose0_171 rfl (fun H locs g65 h_g65 hw => ?_)
                refine lv_aload_n hx hb dX12_choose0_174 rfl (lv_at hl 0 rfl) ?_
                refine lv_iconst (v := 1) hx hb dX12_choose0_175 (by decide) ?_
                refine jx_putg mw (cI := cI) (cJ := cJ) (ad := ad) (g := g65) (lg := lg) (ar := ar) (bk := bk) (x := 1) 39 (ci := 15) (C := RX12) (T := TX12) (N := 92) (ty := .int) hx hb hts (fun _ h => List.mem_cons_of_mem _ (wwMc_wsX120 _ h)) tyX12 tyX12_ok nmX12 hown hw 0 rfl rfl 62 (by decide) (hq _ wM_173) rfl (by decide +kernel) rfl rfl (Nat.le_of_ble_eq_true rfl) dX12_choose0_176 rfl (fun H locs g66 h_g66 hw => ?_)
                refine lv_aload_n hx hb dX12_choose0_179 rfl (lv_at hl 0 rfl) ?_
                refine lv_iconst (v := 0) hx hb dX12_choose0_180 (by decide) ?_
                refine jx_putg mw (cI := cI) (cJ := cJ) (ad := ad) (g := g66) (lg := lg) (ar := ar) (bk := bk) (x := 0) 40 (ci := 15) (C := RX12) (T := TX12) (N := 92) (ty := .int) hx hb hts (fun _ h => List.mem_cons_of_mem _ (wwMc_wsX120 _ h)) tyX12 tyX12_ok nmX12 hown hw 0 rfl rfl 63 (by decide) (hq _ wM_174) rfl (by decide +kernel) rfl rfl (Nat.le_of_ble_eq_true rfl) dX12_choose0_181 rfl (fun H locs g67 h_g67 hw => ?_)
                have e_g67_39 : g67 39 = (1 : Int32) := ((hk_upgN h_g67 39 rfl)).trans (hk_upgS h_g66)
                have e_g67_38 : g67 38 = (0 : Int32) := ((hk_upgN h_g67 38 rfl)).trans (((hk_upgN h_g66 38 rfl)).trans (hk_upgS h_g65))
                have e_g67_40 : g67 40 = (0 : Int32) := (hk_upgS h_g67)
                exact kr g67 lg ar bk _ _ _ _ ⟨(hk_frG (hk_frG (hk_frG (hk_frT hk_fr0 (by decide) h11) (by decide) h_g65) (by decide) h_g66) (by decide) h_g67), rfl, rfl, rfl, (om1026 ((g67 39).toInt) ((y1).toInt) ((g 35).toInt) (((1 : Int32)).toInt) hr0 (congrArg Int32.toInt e_g67_39) (by decide)), (om1027 ((g67 38).toInt) (((0 : Int32)).toInt) (congrArg Int32.toInt e_g67_38) (by decide)), (om1028 ((g67 38).toInt) ((g67 39).toInt) ((g67 40).toInt) ((y1).toInt) (((0 : Int32)).toInt) (congrArg Int32.toInt e_g67_38) (by decide)), (om1029 ((g67 38).toInt) ((g67 39).toInt) (((1 : Int32)).toInt) (congrArg Int32.toInt e_g67_39) (by decide)), (om1030 ((g67 38).toInt) ((g 24).toInt) ((y1).toInt) (((0 : Int32)).toInt) (congrArg Int32.toInt e_g67_38) (by decide)), (om1031 ((g67 38).toInt) ((g67 39).toInt) ((g 24).toInt) ((y1).toInt) (((0 : Int32)).toInt) (congrArg Int32.toInt e_g67_38) (by decide)), (om1032 ((g67 38).toInt) ((g67 39).toInt) ((g 25).toInt) ((y1).toInt) (((0 : Int32)).toInt) (congrArg Int32.toInt e_g67_38) (by decide)), (om1033 ((g67 38).toInt) ((g67 39).toInt) ((g 26).toInt) ((y1).toInt) (((0 : Int32)).toInt) (congrArg Int32.toInt e_g67_38) (by decide)), (om1034 ((g67 38).toInt) ((g67 39).toInt) ((g 27).toInt) ((y1).toInt) (((0 : Int32)).toInt) (congrArg Int32.toInt e_g67_38) (by decide))⟩ hw dX12_choose0_184
              · refine lv_aload_n hx hb dX12_choose0_147 rfl (lv_at hl 0 rfl) ?_
                refine lv_bipush (v := 6) hx hb dX12_choose0_148 (by decide) ?_
                refine jx_putg mw (cI := cI) (cJ := cJ) (ad := ad) (g := g6) (lg := lg) (ar := ar) (bk := bk) (x := 6) 38 (ci := 15) (C := RX12) (T := TX12) (N := 92) (ty := .int) hx hb hts (fun _ h => List.mem_cons_of_mem _ (wwMc_wsX120 _ h)) tyX12 tyX12_ok nmX12 hown hw 0 rfl rfl 61 (by decide) (hq _ wM_172) rfl (by decide +kernel) rfl rfl (Nat.le_of_ble_eq_true rfl) dX12_choose0_150 rfl (fun H locs g68 h_g68 hw => ?_)
                refine lv_aload_n hx hb dX12_choose0_153 rfl (lv_at hl 0 rfl) ?_
                refine lv_iconst (v := 1) hx hb dX12_choose0_154 (by decide) ?_
                refine jx_putg mw (cI := cI) (cJ := cJ) (ad := ad) (g := g68) (lg := lg) (ar := ar) (bk := bk) (x := 1) 39 (ci := 15) (C := RX12) (T := TX12) (N := 92) (ty := .int) hx hb hts (fun _ h => List.mem_cons_of_mem _ (wwMc_wsX120 _ h)) tyX12 tyX12_ok nmX12 hown hw 0 rfl rfl 62 (by decide) (hq _ wM_173) rfl (by decide +kernel) rfl rfl (Nat.le_of_ble_eq_true rfl) dX12_choose0_155 rfl (fun H locs g69 h_g69 hw => ?_)
                refine lv_aload_n hx hb dX12_choose0_158 rfl (lv_at hl 0 rfl) ?_
                refine lv_aload_n hx hb dX12_choose0_159 rfl (lv_at hl 0 rfl) ?_
                have e_g69_24 : g69 24 = (g 24) := ((hk_upgN h_g69 24 rfl)).trans (((hk_upgN h_g68 24 rfl)).trans e_g6_24)
                refine hk_get (ci := 15) (C := RX12) (T := TX12) (N := 92) (v := .int (g 24)) hx hb hts (fun _ h => List.mem_cons_of_mem _ (wwMc_wsX120 _ h)) hown hw 0 rfl rfl 44 (by decide) (hq _ wM_40) (congrArg (fun z => some (Value.int z)) e_g69_24) dX12_choose0_160 ?_
                refine jx_putg mw (cI := cI) (cJ := cJ) (ad := ad) (g := g69) (lg := lg) (ar := ar) (bk := bk) (x := (g 24)) 40 (ci := 15) (C := RX12) (T := TX12) (N := 92) (ty := .int) hx hb hts (fun _ h => List.mem_cons_of_mem _ (wwMc_wsX120 _ h)) tyX12 tyX12_ok nmX12 hown hw 0 rfl rfl 63 (by decide) (hq _ wM_174) rfl (by decide +kernel) rfl rfl (Nat.le_of_ble_eq_true rfl) dX12_choose0_163 rfl (fun H locs g70 h_g70 hw => ?_)
                refine lv_goto (tgt := 184) hx hb dX12_choose0_166 (by decide) ?_
                have e_g70_39 : g70 39 = (1 : Int32) := ((hk_upgN h_g70 39 rfl)).trans (hk_upgS h_g69)
                have e_g70_38 : g70 38 = (6 : Int32) := ((hk_upgN h_g70 38 rfl)).trans (((hk_upgN h_g69 38 rfl)).trans (hk_upgS h_g68))
                have e_g70_40 : g70 40 = (g 24) := (hk_upgS h_g70)
                exact kr g70 lg ar bk _ _ _ _ ⟨(hk_frG (hk_frG (hk_frG (hk_frT hk_fr0 (by decide) h11) (by decide) h_g68) (by decide) h_g69) (by decide) h_g70), rfl, rfl, rfl, (om1026 ((g70 39).toInt) ((y1).toInt) ((g 35).toInt) (((1 : Int32)).toInt) hr0 (congrArg Int32.toInt e_g70_39) (by decide)), (om1035 ((g70 38).toInt) (((6 : Int32)).toInt) (congrArg Int32.toInt e_g70_38) (by decide)), (om1036 ((g70 38).toInt) ((g70 39).toInt) ((g70 40).toInt) ((y1).toInt) (((6 : Int32)).toInt) (congrArg Int32.toInt e_g70_38) (by decide)), (om1029 ((g70 38).toInt) ((g70 39).toInt) (((1 : Int32)).toInt) (congrArg Int32.toInt e_g70_39) (by decide)), (om1037 ((g70 38).toInt) ((g 24).toInt) ((y1).toInt) ((g6 24).toInt) ((r51).toInt) (((0 : Int32)).toInt) ((g6 25).toInt) ((g6 26).toInt) ((g6 27).toInt) (((1 : Int32)).toInt) (congrArg Int32.toInt e_g6_24) h63 (hE_eq cc64) (by decide) (by decide)), (om1038 ((g70 38).toInt) ((g70 39).toInt) ((g 24).toInt) ((y1).toInt) (((6 : Int32)).toInt) (congrArg Int32.toInt e_g70_38) (by decide)), (om1039 ((g70 38).toInt) ((g70 39).toInt) ((g 25).toInt) ((y1).toInt) (((6 : Int32)).toInt) (congrArg Int32.toInt e_g70_38) (by decide)), (om1040 ((g70 38).toInt) ((g70 39).toInt) ((g 26).toInt) ((y1).toInt) (((6 : Int32)).toInt) (congrArg Int32.toInt e_g70_38) (by decide)), (om1041 ((g70 38).toInt) ((g70 39).toInt) ((g 27).toInt) ((y1).toInt) (((6 : Int32)).toInt) (congrArg Int32.toInt e_g70_38) (by decide))⟩ hw dX12_choose0_184
            refine lv_icmp_ne (tgt := 137) hx hb dX12_choose0_100 (by decide) (fun cc71 => ?_) (fun cc71 => ?_)
            · exact B46 ls _ _ hw (lv_sub hl [0, 1] rfl)
            · refine lv_aload_n hx hb dX12_choose0_103 rfl (lv_at hl 0 rfl) ?_
              refine hk_get (ci := 15) (C := RX12) (T := TX12) (N := 92) (v := .int (g6 37)) hx hb hts (fun _ h => List.mem_cons_of_mem _ (wwMc_wsX120 _ h)) hown hw 0 rfl rfl 60 (by decide) (hq _ wM_175) rfl dX12_choose0_104 ?_
              refine lv_sipush (v := 128) hx hb dX12_choose0_107 (by decide) ?_
              refine lv_icmp_gt (tgt := 137) hx hb dX12_choose0_110 (by decide) (fun cc72 => ?_) (fun cc72 => ?_)
              · exact B46 ls _ _ hw (lv_sub hl [0, 1] rfl)
              · exact B41 ls _ _ (om1042 ((g6 36).toInt) (((2 : Int32)).toInt) (hE_eq cc71) (by decide)) hw (lv_sub hl [0] rfl)
        refine lv_icmp_lt (tgt := 87) hx hb dX12_choose0_50 (by decide) (fun cc73 => ?_) (fun cc73 => ?_)
        · exact B40 ls _ _ hw (lv_sub hl [1, 2] rfl)
        · refine lv_iload_n hx hb dX12_choose0_53 rfl (lv_at hl 0 rfl) ?_
          refine lv_aload_n hx hb dX12_choose0_54 rfl (lv_at hl 1 rfl) ?_
          refine hk_get (ci := 15) (C := RX12) (T := TX12) (N := 92) (v := .int (g6 36)) hx hb hts (fun _ h => List.mem_cons_of_mem _ (wwMc_wsX120 _ h)) hown hw 0 rfl rfl 59 (by decide) (hq _ wM_171) rfl dX12_choose0_55 ?_
          refine lv_iconst (v := 1) hx hb dX12_choose0_58 (by decide) ?_
          refine lv_isub hx hb dX12_choose0_59 (jx_nm fun z74 hz74 => ?_)
          have xz74 : (z74).toInt = (g6 36).toInt - ((1 : Int32)).toInt := (hE_imp (hE_sub hz74) (om1043 ((g6 36).toInt) (((1 : Int32)).toInt) ((y1).toInt) ((g 35).toInt) h15 (by decide)))
          refine lv_icmp_lt (tgt := 87) hx hb dX12_choose0_60 (by decide) (fun cc75 => ?_) (fun cc75 => ?_)
          · exact B40 ls _ _ hw (lv_sub hl [1, 2] rfl)
          · refine lv_aload_n hx hb dX12_choose0_63 rfl (lv_at hl 1 rfl) ?_
            refine lv_iconst (v := 2) hx hb dX12_choose0_64 (by decide) ?_
            refine lv_iload_n hx hb dX12_choose0_65 rfl (lv_at hl 3 rfl) ?_
            refine lv_iadd hx hb dX12_choose0_66 (jx_nm fun z76 hz76 => ?_)
            have xz76 : (z76).toInt = ((2 : Int32)).toInt + (x19).toInt := (hE_imp (hE_add hz76) (om443 (((2 : Int32)).toInt) ((x19).toInt) hf_B18_0 (by decide)))
            refine jx_putg mw (cI := cI) (cJ := cJ) (ad := ad) (g := g6) (lg := lg) (ar := ar) (bk := bk) (x := z76) 38 (ci := 15) (C := RX12) (T := TX12) (N := 92) (ty := .int) hx hb hts (fun _ h => List.mem_cons_of_mem _ (wwMc_wsX120 _ h)) tyX12 tyX12_ok nmX12 hown hw 0 rfl rfl 61 (by decide) (hq _ wM_172) rfl (by decide +kernel) rfl rfl (Nat.le_of_ble_eq_true rfl) dX12_choose0_67 rfl (fun H locs g77 h_g77 hw => ?_)
            refine lv_aload_n hx hb dX12_choose0_70 rfl (lv_at hl 1 rfl) ?_
            refine lv_iload_n hx hb dX12_choose0_71 rfl (lv_at hl 0 rfl) ?_
            refine jx_putg mw (cI := cI) (cJ := cJ) (ad := ad) (g := g77) (lg := lg) (ar := ar) (bk := bk) (x := r27) 39 (ci := 15) (C := RX12) (T := TX12) (N := 92) (ty := .int) hx hb hts (fun _ h => List.mem_cons_of_mem _ (wwMc_wsX120 _ h)) tyX12 tyX12_ok nmX12 hown hw 0 rfl rfl 62 (by decide) (hq _ wM_173) rfl (by decide +kernel) rfl rfl (Nat.le_of_ble_eq_true rfl) dX12_choose0_72 rfl (fun H locs g78 h_g78 hw => ?_)
            refine lv_aload_n hx hb dX12_choose0_75 rfl (lv_at hl 1 rfl) ?_
            refine lv_aload_n hx hb dX12_choose0_76 rfl (lv_at hl 1 rfl) ?_
            refine lv_iload_n hx hb dX12_choose0_77 rfl (lv_at hl 3 rfl) ?_
            refine jx_Vi (As := [.int x19]) (rest := [.ref (ad 0)]) ⟨hx, hb, hml, hown, hts⟩ hZ hw hA (jm_X12_backOf l hlt D t3 cI cJ ad g78 lg ar bk _ x19 (om159 ((x19).toInt) hf_B18_0)) (cwV 1 hts (jx_gV wwM_good wM_32 wM_33 wM_34 wM_8 wM_35) rfl rfl rfl (by decide +kernel) ⟨Nat.le_of_ble_eq_true rfl, Nat.le_of_ble_eq_true rfl⟩) 0 (ci := 15) (T := TX12) (N := 92) rfl rfl rfl hl.1 rfl (Nat.le_of_ble_eq_true rfl) dX12_choose0_78 ⟨Nat.le_of_ble_eq_true rfl, Nat.le_of_ble_eq_true rfl⟩ (fun _ _ _ _ _ _ _ _ hp _ _ _ _ => hp.elim) (fun r83 g84 l85 a86 b87 H locs hp88 hw => ?_)
            obtain ⟨rfl, rfl, rfl, rfl, h93⟩ := hp88
            have e_g78_24 : g78 24 = (g 24) := ((hk_upgN h_g78 24 rfl)).trans (((hk_upgN h_g77 24 rfl)).trans e_g6_24)
            have e_g78_25 : g78 25 = (g 25) := ((hk_upgN h_g78 25 rfl)).trans (((hk_upgN h_g77 25 rfl)).trans e_g6_25)
            have e_g78_26 : g78 26 = (g 26) := ((hk_upgN h_g78 26 rfl)).trans (((hk_upgN h_g77 26 rfl)).trans e_g6_26)
            have e_g78_27 : g78 27 = (g 27) := ((hk_upgN h_g78 27 rfl)).trans (((hk_upgN h_g77 27 rfl)).trans e_g6_27)
            refine jx_putg mw (cI := cI) (cJ := cJ) (ad := ad) (g := g78) (lg := lg) (ar := ar) (bk := bk) (x := r83) 40 (ci := 15) (C := RX12) (T := TX12) (N := 92) (ty := .int) hx hb hts (fun _ h => List.mem_cons_of_mem _ (wwMc_wsX120 _ h)) tyX12 tyX12_ok nmX12 hown hw 0 rfl rfl 63 (by decide) (hq _ wM_174) rfl (by decide +kernel) rfl rfl (Nat.le_of_ble_eq_true rfl) dX12_choose0_81 rfl (fun H locs g94 h_g94 hw => ?_)
            refine lv_goto (tgt := 184) hx hb dX12_choose0_84 (by decide) ?_
            have e_g94_39 : g94 39 = r27 := ((hk_upgN h_g94 39 rfl)).trans (hk_upgS h_g78)
            have e_g94_38 : g94 38 = z76 := ((hk_upgN h_g94 38 rfl)).trans (((hk_upgN h_g78 38 rfl)).trans (hk_upgS h_g77))
            have e_g94_40 : g94 40 = r83 := (hk_upgS h_g94)
            exact kr g94 lg ar bk _ _ _ _ ⟨(hk_frG (hk_frG (hk_frG (hk_frT hk_fr0 (by decide) h11) (by decide) h_g77) (by decide) h_g78) (by decide) h_g94), rfl, rfl, rfl, (om1044 ((g94 39).toInt) ((y1).toInt) ((g 35).toInt) ((g6 35).toInt) ((r27).toInt) (((2 : Int32)).toInt) (congrArg Int32.toInt e_g6_35) h38 (congrArg Int32.toInt e_g94_39) h37 (hE_nlt cc73) (by decide)), (om1045 ((g94 38).toInt) ((z76).toInt) (((2 : Int32)).toInt) ((x19).toInt) (congrArg Int32.toInt e_g94_38) xz76 hf_B18_0 (by decide)), (om1046 ((g94 38).toInt) ((g94 39).toInt) ((g94 40).toInt) ((y1).toInt) ((z76).toInt) ((x19).toInt) (((2 : Int32)).toInt) (congrArg Int32.toInt e_g94_38) hf_B18_0 xz76 (by decide)), (om1047 ((g94 38).toInt) ((g94 39).toInt) ((z76).toInt) (((2 : Int32)).toInt) ((x19).toInt) (congrArg Int32.toInt e_g94_38) xz76 hf_B18_0 (by decide)), (om1048 ((g94 38).toInt) ((g 24).toInt) ((y1).toInt) ((z76).toInt) ((x19).toInt) (((2 : Int32)).toInt) (congrArg Int32.toInt e_g94_38) hf_B18_0 xz76 (by decide)), (om1049 ((g94 38).toInt) ((g94 39).toInt) ((g 24).toInt) ((y1).toInt) ((g6 24).toInt) ((r27).toInt) ((x19).toInt) ((g6 25).toInt) ((g6 26).toInt) ((g6 27).toInt) ((z76).toInt) (((2 : Int32)).toInt) (congrArg Int32.toInt e_g6_24) h39 (congrArg Int32.toInt e_g94_39) (congrArg Int32.toInt e_g94_38) hf_B18_0 (hE_nlt cc73) xz76 (by decide)), (om1050 ((g94 38).toInt) ((g94 39).toInt) ((g 25).toInt) ((y1).toInt) ((g6 25).toInt) ((r27).toInt) ((x19).toInt) ((g6 24).toInt) ((g6 26).toInt) ((g6 27).toInt) ((z76).toInt) (((2 : Int32)).toInt) (congrArg Int32.toInt e_g6_25) h39 (congrArg Int32.toInt e_g94_39) (congrArg Int32.toInt e_g94_38) (hE_nlt cc73) xz76 (by decide)), (om1051 ((g94 38).toInt) ((g94 39).toInt) ((g 26).toInt) ((y1).toInt) ((g6 26).toInt) ((r27).toInt) ((x19).toInt) ((g6 24).toInt) ((g6 25).toInt) ((g6 27).toInt) ((z76).toInt) (((2 : Int32)).toInt) (congrArg Int32.toInt e_g6_26) h39 (congrArg Int32.toInt e_g94_39) (congrArg Int32.toInt e_g94_38) (hE_nlt cc73) xz76 (by decide)), (om1052 ((g94 38).toInt) ((g94 39).toInt) ((g 27).toInt) ((y1).toInt) ((g6 27).toInt) ((r27).toInt) ((x19).toInt) ((g6 24).toInt) ((g6 25).toInt) ((g6 26).toInt) ((z76).toInt) (((2 : Int32)).toInt) (congrArg Int32.toInt e_g6_27) h39 (congrArg Int32.toInt e_g94_39) (congrArg Int32.toInt e_g94_38) hf_B18_0 (hE_nlt cc73) xz76 (by decide))⟩ hw dX12_choose0_184
      · refine lv_aload_n hx hb dX12_choose0_14 rfl (lv_at hl 0 rfl) ?_
        refine lv_iload_n hx hb dX12_choose0_15 rfl (lv_at hl 3 rfl) ?_
        refine lv_iload_n hx hb dX12_choose0_16 rfl (lv_at hl 1 rfl) ?_
        have e_g6_35 : g6 35 = (g 35) := (h11 35 rfl)
        have e_g6_24 : g6 24 = (g 24) := (h11 24 rfl)
        have e_g6_25 : g6 25 = (g 25) := (h11 25 rfl)
        have e_g6_26 : g6 26 = (g 26) := (h11 26 rfl)
        have e_g6_27 : g6 27 = (g 27) := (h11 27 rfl)
        refine jx_Vi (As := [.int x20, .int y1]) (rest := []) ⟨hx, hb, hml, hown, hts⟩ hZ hw hA (jm_X12_again l hlt D t3 cI cJ ad g6 lg ar bk _ x20 y1 (om1053 ((x20).toInt) (((4 : Int32)).toInt) hf_B18_2 (hE_nle cc22) (by decide)) (om1015 ((y1).toInt) ((g6 35).toInt) ((g 35).toInt) hr0 (congrArg Int32.toInt e_g6_35)) (om990 ((g6 35).toInt) ((g 35).toInt) (congrArg Int32.toInt e_g6_35) hr1) (om162 ((g6 24).toInt) ((g 24).toInt) (congrArg Int32.toInt e_g6_24) hi_g24) (om162 ((g6 25).toInt) ((g 25).toInt) (congrArg Int32.toInt e_g6_25) hi_g25) (om162 ((g6 26).toInt) ((g 26).toInt) (congrArg Int32.toInt e_g6_26) hi_g26) (om162 ((g6 27).toInt) ((g 27).toInt) (congrArg Int32.toInt e_g6_27) hi_g27)) (cwV 2 hts (jx_gV wwM_good wM_167 wM_168 wM_169 wM_8 wM_170) rfl rfl rfl (by decide +kernel) ⟨Nat.le_of_ble_eq_true rfl, Nat.le_of_ble_eq_true rfl⟩) 0 (ci := 15) (T := TX12) (N := 92) rfl rfl rfl hl.1 rfl (Nat.le_of_ble_eq_true rfl) dX12_choose0_17 ⟨Nat.le_of_ble_eq_true rfl, Nat.le_of_ble_eq_true rfl⟩ (fun _ _ _ _ _ _ _ _ hp _ _ _ _ => hp.elim) (fun r99 g100 l101 a102 b103 H locs hp104 hw => ?_)
        obtain ⟨rfl, rfl, rfl, rfl, h109, h110, h111⟩ := hp104
        have e_g6_35 : g6 35 = (g 35) := (h11 35 rfl)
        have e_g6_24 : g6 24 = (g 24) := (h11 24 rfl)
        have e_g6_25 : g6 25 = (g 25) := (h11 25 rfl)
        have e_g6_26 : g6 26 = (g 26) := (h11 26 rfl)
        have e_g6_27 : g6 27 = (g 27) := (h11 27 rfl)
        refine lv_aload_n hx hb dX12_choose0_20 rfl (lv_at hl 0 rfl) ?_
        refine lv_iload_n hx hb dX12_choose0_21 rfl (lv_at hl 2 rfl) ?_
        refine lv_iload_n hx hb dX12_choose0_22 rfl (lv_at hl 1 rfl) ?_
        refine jx_Vi (As := [.int x19, .int y1]) (rest := [.int r99]) ⟨hx, hb, hml, hown, hts⟩ hZ hw hA (jm_X12_again l hlt D t3 cI cJ ad g6 lg ar bk _ x19 y1 (om159 ((x19).toInt) hf_B18_0) (om1015 ((y1).toInt) ((g6 35).toInt) ((g 35).toInt) hr0 (congrArg Int32.toInt e_g6_35)) (om990 ((g6 35).toInt) ((g 35).toInt) (congrArg Int32.toInt e_g6_35) hr1) (om1054 ((g6 24).toInt) ((g 24).toInt) (congrArg Int32.toInt e_g6_24) (congrArg Int32.toInt e_g6_24) hi_g24) (om1054 ((g6 25).toInt) ((g 25).toInt) (congrArg Int32.toInt e_g6_25) (congrArg Int32.toInt e_g6_25) hi_g25) (om1054 ((g6 26).toInt) ((g 26).toInt) (congrArg Int32.toInt e_g6_26) (congrArg Int32.toInt e_g6_26) hi_g26) (om1054 ((g6 27).toInt) ((g 27).toInt) (congrArg Int32.toInt e_g6_27) (congrArg Int32.toInt e_g6_27) hi_g27)) (cwV 2 hts (jx_gV wwM_good wM_167 wM_168 wM_169 wM_8 wM_170) rfl rfl rfl (by decide +kernel) ⟨Nat.le_of_ble_eq_true rfl, Nat.le_of_ble_eq_true rfl⟩) 0 (ci := 15) (T := TX12) (N := 92) rfl rfl rfl hl.1 rfl (Nat.le_of_ble_eq_true rfl) dX12_choose0_23 ⟨Nat.le_of_ble_eq_true rfl, Nat.le_of_ble_eq_true rfl⟩ (fun _ _ _ _ _ _ _ _ hp _ _ _ _ => hp.elim) (fun r116 g117 l118 a119 b120 H locs hp121 hw => ?_)
        obtain ⟨rfl, rfl, rfl, rfl, h126, h127, h128⟩ := hp121
        have B129 : ∀  (x130 : Int32) (ls : Array Slot) (H : Heap) (locs : List Loc), (0 ≤ (x130).toInt ∧ (x130).toInt ≤ 3) → hk_W D (jT cI cJ) A s H locs (mw cI cJ ad g6 lg ar bk) → lv_has ls 4 [(0, .ref (ad 0)), (1, .int y1), (3, .int x20)] → W p l e { frames := 2, cells := 0, slots := 0, locals := 48 } s m args below meth c H locs 0 0 Q (F0 m 34 ls [.int x130]) := by
          intro x130 ls H locs hf_B129_0 hw hl
          refine lv_istore_n (lv' := [(2, .int x130), (0, .ref (ad 0)), (1, .int y1), (3, .int x20)]) hx hb dX12_choose0_34 rfl hl (by decide) rfl (fun ls hl => ?_)
          obtain ⟨z131, hz131⟩ : ∃ z : Int32, x20 + 1 = z := ⟨_, rfl⟩
          refine lv_iinc (v := z131) (lv' := [(3, .int z131), (2, .int x130), (0, .ref (ad 0)), (1, .int y1)]) hx hb dX12_choose0_35 hl (k := 3) rfl hz131 (by decide) rfl (fun ls hl => ?_)
          have xz131 : (z131).toInt = (x20).toInt + ((1 : Int32)).toInt := (hE_imp (hE_add hz131) (om1055 ((x20).toInt) (((1 : Int32)).toInt) (((4 : Int32)).toInt) hf_B18_2 (hE_nle cc22) (by decide) (by decide)))
          refine lv_goto (tgt := 9) hx hb dX12_choose0_38 (by decide) ?_
          exact ih_B18 x130 z131 ls _ _ (om11 ((z131).toInt) (k21 : Int) ((x20).toInt) (((1 : Int32)).toInt) hrk_B18 xz131 (by decide)) (om159 ((x130).toInt) hf_B129_0) (om1056 ((z131).toInt) ((x20).toInt) (((1 : Int32)).toInt) (((4 : Int32)).toInt) xz131 (hE_nle cc22) (by decide) (by decide)) (om994 ((z131).toInt) ((x20).toInt) (((1 : Int32)).toInt) xz131 hf_B18_2 (by decide)) hw (lv_sub hl [2, 3, 1, 0] rfl)
        refine lv_icmp_le (tgt := 33) hx hb dX12_choose0_26 (by decide) (fun cc132 => ?_) (fun cc132 => ?_)
        · refine lv_iload_n hx hb dX12_choose0_33 rfl (lv_at hl 2 rfl) ?_
          exact B129 x19 ls _ _ (om159 ((x19).toInt) hf_B18_0) hw (lv_sub hl [0, 1, 3] rfl)
        · refine lv_iload_n hx hb dX12_choose0_29 rfl (lv_at hl 3 rfl) ?_
          refine lv_goto (tgt := 34) hx hb dX12_choose0_30 (by decide) ?_
          exact B129 x20 ls _ _ (om1053 ((x20).toInt) (((4 : Int32)).toInt) hf_B18_2 (hE_nle cc22) (by decide)) hw (lv_sub hl [0, 1, 3] rfl)
  exact B18 (2147483648 - ((1 : Int32)).toInt).toNat 0 1 ls _ _ (Int.self_le_toNat _) (om464 (((0 : Int32)).toInt) (by decide)) (om1057 (((1 : Int32)).toInt) (by decide)) (om1001 (((1 : Int32)).toInt) (by decide)) hw (lv_sub hl [2, 3, 1, 0] rfl)

set_option maxHeartbeats 4000000 in
set_option maxRecDepth 100000 in
/-- X12_choose1 on (0,) -/
theorem jm_X12_choose1 (l : Launch) (hlt : l.stackTraces = false) (D : va_G) (t3 : Nat × Nat × Nat) (cI cJ : ClassId) (ad : Nat → Nat) (g : Nat → Int32) (lg : Nat → Int64) (ar : Nat → Nat → Int32) (bk : Nat → Int64) (sz : Nat) (y1 : Int32) (hr0 : 0 ≤ (y1).toInt ∧ (y1).toInt < (g 35).toInt) (hr1 : (g 35).toInt ≤ 3000) (hi_g24 : 1 ≤ (g 24).toInt ∧ (g 24).toInt ≤ 3000) (hi_g25 : 1 ≤ (g 25).toInt ∧ (g 25).toInt ≤ 3000) (hi_g26 : 1 ≤ (g 26).toInt ∧ (g 26).toInt ≤ 3000) (hi_g27 : 1 ≤ (g 27).toInt ∧ (g 27).toInt ≤ 3000) (hi_g5 : 1 ≤ (g 5).toInt ∧ (g 5).toInt ≤ 4096) : JMv l yX12_choose1 (Cond.code yX12_choose1 cX12_choose1 6 none :: wwM) { frames := 3, cells := 0, slots := 0, locals := 71 } t3 D mw cI cJ ad [.ref (ad 0), .int y1] (mw cI cJ ad g lg ar bk) sz 0 0 (fun g' lg' ar' bk' => hk_fr [36, 37, 38, 39, 40] g g' ∧ lg = lg' ∧ ar = ar' ∧ bk = bk' ∧ (1 ≤ (g' 39).toInt ∧ (y1).toInt + (g' 39).toInt ≤ (g 35).toInt ∧ (g' 39).toInt ≤ 3000) ∧ (0 ≤ (g' 38).toInt ∧ (g' 38).toInt ≤ 6) ∧ ((g' 38).toInt = 1 → (2 ≤ (g' 39).toInt ∧ 1 ≤ (g' 40).toInt ∧ (g' 40).toInt ≤ (y1).toInt)) ∧ (((g' 38).toInt = 0 ∨ (g' 38).toInt = 6) → (g' 39).toInt = 1) ∧ ((g' 38).toInt = 6 → (g 24).toInt ≤ (y1).toInt) ∧ ((g' 38).toInt = 2 → (2 ≤ (g' 39).toInt ∧ (g 24).toInt ≤ (y1).toInt)) ∧ ((g' 38).toInt = 3 → (2 ≤ (g' 39).toInt ∧ (g 25).toInt ≤ (y1).toInt)) ∧ ((g' 38).toInt = 4 → (2 ≤ (g' 39).toInt ∧ (g 26).toInt ≤ (y1).toInt)) ∧ ((g' 38).toInt = 5 → (2 ≤ (g' 39).toInt ∧ (g 27).toInt ≤ (y1).toInt))) (fun g' lg' ar' bk' => False) := by
  refine jx_metv (cc := cX12_choose1) (maxL := 6) (ret := none) rfl (by decide) rfl (Nat.le_of_ble_eq_true rfl) ?_
  intro p e s m args below meth c ls Q A hx hb hml hown hts hA hZ hw hl hQ kr kt
  have hq : ∀ w ∈ wwM, w.before args s = true := fun w h => hts w (List.mem_cons_of_mem _ h)
  have hl : lv_has ls 6 [(0, .ref (ad 0)), (1, .int y1)] := hl
  refine lv_aload_n hx hb dX12_choose1_0 rfl (lv_at hl 0 rfl) ?_
  refine lv_iload_n hx hb dX12_choose1_1 rfl (lv_at hl 1 rfl) ?_
  refine jx_Vv (As := [.int y1]) (rest := []) ⟨hx, hb, hml, hown, hts⟩ hZ hw hA (jm_X12_choose0 l hlt D t3 cI cJ ad g lg ar bk _ y1 (om1058 ((y1).toInt) ((g 35).toInt) hr0) (om1004 ((g 35).toInt) hr1) (om163 ((g 24).toInt) hi_g24) (om163 ((g 25).toInt) hi_g25) (om163 ((g 26).toInt) hi_g26) (om163 ((g 27).toInt) hi_g27) (om1013 ((g 5).toInt) hi_g5)) (cwV 1 hts (jx_gV wwM_good wM_176 wM_177 wM_178 wM_8 wM_179) rfl rfl rfl (by decide +kernel) ⟨Nat.le_of_ble_eq_true rfl, Nat.le_of_ble_eq_true rfl⟩) 0 (ci := 15) (T := TX12) (N := 92) rfl rfl rfl hl.1 rfl (Nat.le_of_ble_eq_true rfl) dX12_choose1_2 ⟨Nat.le_of_ble_eq_true rfl, Nat.le_of_ble_eq_true rfl⟩ (fun _ _ _ _ _ _ _ _ hp _ _ _ _ => hp.elim) (fun g6 l7 a8 b9 H locs hp10 hw => ?_)
  obtain ⟨h11, rfl, rfl, rfl, h15, h16, h17, h18, h19, h20, h21, h22, h23⟩ := hp10
  refine lv_aload_n hx hb dX12_choose1_5 rfl (lv_at hl 0 rfl) ?_
  refine hk_get (ci := 15) (C := RX12) (T := TX12) (N := 92) (v := .int (g6 38)) hx hb hts (fun _ h => List.mem_cons_of_mem _ (wwMc_wsX120 _ h)) hown hw 0 rfl rfl 61 (by decide) (hq _ wM_172) rfl dX12_choose1_6 ?_
  refine lv_if_eq (tgt := 34) hx hb dX12_choose1_9 (by decide) (fun cc24 => ?_) (fun cc24 => ?_)
  · refine lv_iconst (v := 0) hx hb dX12_choose1_34 (by decide) ?_
    refine lv_istore_n (lv' := [(2, .int 0), (0, .ref (ad 0)), (1, .int y1)]) hx hb dX12_choose1_35 rfl hl (by decide) rfl (fun ls hl => ?_)
    refine lv_iload_n hx hb dX12_choose1_36 rfl (lv_at hl 0 rfl) ?_
    refine lv_if_eq (tgt := 50) hx hb dX12_choose1_37 (by decide) (fun _ => ?_) (fun cc25 => absurd (by decide) cc25)
    exact kr g6 lg ar bk _ _ _ _ ⟨h11, rfl, rfl, rfl, (om1059 ((g6 39).toInt) ((y1).toInt) ((g 35).toInt) h15), (om1060 ((g6 38).toInt) (((0 : Int32)).toInt) h16 (hE_eq cc24) (by decide)), (om1028 ((g6 38).toInt) ((g6 39).toInt) ((g6 40).toInt) ((y1).toInt) (((0 : Int32)).toInt) (hE_eq cc24) (by decide)), (om1061 ((g6 38).toInt) ((g6 39).toInt) ((y1).toInt) ((g 35).toInt) (((0 : Int32)).toInt) h15 h16 h18 (hE_eq cc24) (by decide)), (om1030 ((g6 38).toInt) ((g 24).toInt) ((y1).toInt) (((0 : Int32)).toInt) (hE_eq cc24) (by decide)), (om1031 ((g6 38).toInt) ((g6 39).toInt) ((g 24).toInt) ((y1).toInt) (((0 : Int32)).toInt) (hE_eq cc24) (by decide)), (om1032 ((g6 38).toInt) ((g6 39).toInt) ((g 25).toInt) ((y1).toInt) (((0 : Int32)).toInt) (hE_eq cc24) (by decide)), (om1033 ((g6 38).toInt) ((g6 39).toInt) ((g 26).toInt) ((y1).toInt) (((0 : Int32)).toInt) (hE_eq cc24) (by decide)), (om1034 ((g6 38).toInt) ((g6 39).toInt) ((g 27).toInt) ((y1).toInt) (((0 : Int32)).toInt) (hE_eq cc24) (by decide))⟩ hw dX12_choose1_50
  · refine lv_aload_n hx hb dX12_choose1_12 rfl (lv_at hl 0 rfl) ?_
    refine hk_get (ci := 15) (C := RX12) (T := TX12) (N := 92) (v := .int (g6 38)) hx hb hts (fun _ h => List.mem_cons_of_mem _ (wwMc_wsX120 _ h)) hown hw 0 rfl rfl 61 (by decide) (hq _ wM_172) rfl dX12_choose1_13 ?_
    refine lv_bipush (v := 6) hx hb dX12_choose1_16 (by decide) ?_
    refine lv_icmp_eq (tgt := 34) hx hb dX12_choose1_18 (by decide) (fun cc26 => ?_) (fun cc26 => ?_)
    · refine lv_iconst (v := 0) hx hb dX12_choose1_34 (by decide) ?_
      refine lv_istore_n (lv' := [(2, .int 0), (0, .ref (ad 0)), (1, .int y1)]) hx hb dX12_choose1_35 rfl hl (by decide) rfl (fun ls hl => ?_)
      refine lv_iload_n hx hb dX12_choose1_36 rfl (lv_at hl 0 rfl) ?_
      refine lv_if_eq (tgt := 50) hx hb dX12_choose1_37 (by decide) (fun _ => ?_) (fun cc27 => absurd (by decide) cc27)
      exact kr g6 lg ar bk _ _ _ _ ⟨h11, rfl, rfl, rfl, (om1062 ((g6 39).toInt) ((y1).toInt) ((g 35).toInt) ((g6 38).toInt) ((g 24).toInt) (((6 : Int32)).toInt) hr1 h15 h19 hi_g24 h16 (hE_eq cc26) (by decide)), (om1063 ((g6 38).toInt) (((6 : Int32)).toInt) h16 (hE_eq cc26) (by decide)), (om1036 ((g6 38).toInt) ((g6 39).toInt) ((g6 40).toInt) ((y1).toInt) (((6 : Int32)).toInt) (hE_eq cc26) (by decide)), (om1064 ((g6 38).toInt) ((g6 39).toInt) ((y1).toInt) ((g 35).toInt) (((6 : Int32)).toInt) h15 h16 h18 (hE_eq cc26) (by decide)), (om1065 ((g6 38).toInt) ((g 24).toInt) ((y1).toInt) h19), (om1038 ((g6 38).toInt) ((g6 39).toInt) ((g 24).toInt) ((y1).toInt) (((6 : Int32)).toInt) (hE_eq cc26) (by decide)), (om1039 ((g6 38).toInt) ((g6 39).toInt) ((g 25).toInt) ((y1).toInt) (((6 : Int32)).toInt) (hE_eq cc26) (by decide)), (om1040 ((g6 38).toInt) ((g6 39).toInt) ((g 26).toInt) ((y1).toInt) (((6 : Int32)).toInt) (hE_eq cc26) (by decide)), (om1041 ((g6 38).toInt) ((g6 39).toInt) ((g 27).toInt) ((y1).toInt) (((6 : Int32)).toInt) (hE_eq cc26) (by decide))⟩ hw dX12_choose1_50
    · refine lv_aload_n hx hb dX12_choose1_21 rfl (lv_at hl 0 rfl) ?_
      refine hk_get (ci := 15) (C := RX12) (T := TX12) (N := 92) (v := .int (g6 39)) hx hb hts (fun _ h => List.mem_cons_of_mem _ (wwMc_wsX120 _ h)) hown hw 0 rfl rfl 62 (by decide) (hq _ wM_173) rfl dX12_choose1_22 ?_
      refine lv_bipush (v := 32) hx hb dX12_choose1_25 (by decide) ?_
      refine lv_icmp_ge (tgt := 34) hx hb dX12_choose1_27 (by decide) (fun cc28 => ?_) (fun cc28 => ?_)
      · refine lv_iconst (v := 0) hx hb dX12_choose1_34 (by decide) ?_
        refine lv_istore_n (lv' := [(2, .int 0), (0, .ref (ad 0)), (1, .int y1)]) hx hb dX12_choose1_35 rfl hl (by decide) rfl (fun ls hl => ?_)
        refine lv_iload_n hx hb dX12_choose1_36 rfl (lv_at hl 0 rfl) ?_
        refine lv_if_eq (tgt := 50) hx hb dX12_choose1_37 (by decide) (fun _ => ?_) (fun cc29 => absurd (by decide) cc29)
        exact kr g6 lg ar bk _ _ _ _ ⟨h11, rfl, rfl, rfl, (om1066 ((g6 39).toInt) ((y1).toInt) ((g 35).toInt) ((g6 38).toInt) ((g6 40).toInt) ((g 24).toInt) ((g 25).toInt) ((g 26).toInt) ((g 27).toInt) (((32 : Int32)).toInt) (((0 : Int32)).toInt) (((6 : Int32)).toInt) hr1 h15 h17 h20 h21 h22 h23 (hE_le cc28) hi_g24 hi_g25 hi_g26 hi_g27 h16 (hE_ne cc24) (hE_ne cc26) (by decide) (by decide) (by decide)), (om1067 ((g6 38).toInt) (((0 : Int32)).toInt) h16 (hE_ne cc24) (by decide)), (om1068 ((g6 38).toInt) ((g6 39).toInt) ((g6 40).toInt) ((y1).toInt) (((32 : Int32)).toInt) h17 (hE_le cc28) (by decide)), (om1069 ((g6 38).toInt) ((g6 39).toInt) (((0 : Int32)).toInt) (((6 : Int32)).toInt) h16 (hE_ne cc24) (hE_ne cc26) (by decide) (by decide)), (om1070 ((g6 38).toInt) ((g 24).toInt) ((y1).toInt) (((6 : Int32)).toInt) (hE_ne cc26) (by decide)), (om1071 ((g6 38).toInt) ((g6 39).toInt) ((g 24).toInt) ((y1).toInt) (((32 : Int32)).toInt) h20 (hE_le cc28) (by decide)), (om1072 ((g6 38).toInt) ((g6 39).toInt) ((g 25).toInt) ((y1).toInt) (((32 : Int32)).toInt) h21 (hE_le cc28) (by decide)), (om1073 ((g6 38).toInt) ((g6 39).toInt) ((g 26).toInt) ((y1).toInt) (((32 : Int32)).toInt) h22 (hE_le cc28) (by decide)), (om1074 ((g6 38).toInt) ((g6 39).toInt) ((g 27).toInt) ((y1).toInt) (((32 : Int32)).toInt) h23 (hE_le cc28) (by decide))⟩ hw dX12_choose1_50
      · refine lv_iconst (v := 1) hx hb dX12_choose1_30 (by decide) ?_
        refine lv_goto (tgt := 35) hx hb dX12_choose1_31 (by decide) ?_
        refine lv_istore_n (lv' := [(2, .int 1), (0, .ref (ad 0)), (1, .int y1)]) hx hb dX12_choose1_35 rfl hl (by decide) rfl (fun ls hl => ?_)
        refine lv_iload_n hx hb dX12_choose1_36 rfl (lv_at hl 0 rfl) ?_
        refine lv_if_eq (tgt := 50) hx hb dX12_choose1_37 (by decide) (fun cc30 => absurd cc30 (by decide)) (fun _ => ?_)
        refine lv_iload_n hx hb dX12_choose1_40 rfl (lv_at hl 2 rfl) ?_
        refine lv_iconst (v := 1) hx hb dX12_choose1_41 (by decide) ?_
        refine lv_iadd hx hb dX12_choose1_42 (jx_nm fun z31 hz31 => ?_)
        have xz31 : (z31).toInt = (y1).toInt + ((1 : Int32)).toInt := (hE_imp (hE_add hz31) (om1075 ((y1).toInt) (((1 : Int32)).toInt) ((g 35).toInt) hr0 hr1 (by decide)))
        refine lv_aload_n hx hb dX12_choose1_43 rfl (lv_at hl 1 rfl) ?_
        have e_g6_35 : g6 35 = (g 35) := (h11 35 rfl)
        refine hk_get (ci := 15) (C := RX12) (T := TX12) (N := 92) (v := .int (g 35)) hx hb hts (fun _ h => List.mem_cons_of_mem _ (wwMc_wsX120 _ h)) hown hw 0 rfl rfl 58 (by decide) (hq _ wM_180) (congrArg (fun z => some (Value.int z)) e_g6_35) dX12_choose1_44 ?_
        refine lv_icmp_lt (tgt := 51) hx hb dX12_choose1_47 (by decide) (fun cc32 => ?_) (fun cc32 => ?_)
        · refine lv_aload_n hx hb dX12_choose1_51 rfl (lv_at hl 1 rfl) ?_
          refine hk_get (ci := 15) (C := RX12) (T := TX12) (N := 92) (v := .int (g6 38)) hx hb hts (fun _ h => List.mem_cons_of_mem _ (wwMc_wsX120 _ h)) hown hw 0 rfl rfl 61 (by decide) (hq _ wM_172) rfl dX12_choose1_52 ?_
          refine lv_istore_n (lv' := [(3, .int (g6 38)), (2, .int 1), (0, .ref (ad 0)), (1, .int y1)]) hx hb dX12_choose1_55 rfl hl (by decide) rfl (fun ls hl => ?_)
          refine lv_aload_n hx hb dX12_choose1_56 rfl (lv_at hl 2 rfl) ?_
          refine hk_get (ci := 15) (C := RX12) (T := TX12) (N := 92) (v := .int (g6 39)) hx hb hts (fun _ h => List.mem_cons_of_mem _ (wwMc_wsX120 _ h)) hown hw 0 rfl rfl 62 (by decide) (hq _ wM_173) rfl dX12_choose1_57 ?_
          refine lv_istore (lv' := [(4, .int (g6 39)), (3, .int (g6 38)), (2, .int 1), (0, .ref (ad 0)), (1, .int y1)]) hx hb dX12_choose1_60 hl (by decide) rfl (fun ls hl => ?_)
          refine lv_aload_n hx hb dX12_choose1_62 rfl (lv_at hl 3 rfl) ?_
          refine hk_get (ci := 15) (C := RX12) (T := TX12) (N := 92) (v := .int (g6 40)) hx hb hts (fun _ h => List.mem_cons_of_mem _ (wwMc_wsX120 _ h)) hown hw 0 rfl rfl 63 (by decide) (hq _ wM_174) rfl dX12_choose1_63 ?_
          refine lv_istore (lv' := [(5, .int (g6 40)), (4, .int (g6 39)), (3, .int (g6 38)), (2, .int 1), (0, .ref (ad 0)), (1, .int y1)]) hx hb dX12_choose1_66 hl (by decide) rfl (fun ls hl => ?_)
          refine lv_aload_n hx hb dX12_choose1_68 rfl (lv_at hl 4 rfl) ?_
          refine lv_iload_n hx hb dX12_choose1_69 rfl (lv_at hl 5 rfl) ?_
          refine lv_iconst (v := 1) hx hb dX12_choose1_70 (by decide) ?_
          refine lv_iadd hx hb dX12_choose1_71 (jx_nm fun z33 hz33 => ?_)
          have xz33 : (z33).toInt = (y1).toInt + ((1 : Int32)).toInt := (hE_imp (hE_add hz33) (om1076 ((y1).toInt) (((1 : Int32)).toInt) ((g 35).toInt) ((z31).toInt) hr0 xz31 hr1 (hE_lt cc32) (by decide)))
          have e_g6_24 : g6 24 = (g 24) := (h11 24 rfl)
          have e_g6_25 : g6 25 = (g 25) := (h11 25 rfl)
          have e_g6_26 : g6 26 = (g 26) := (h11 26 rfl)
          have e_g6_27 : g6 27 = (g 27) := (h11 27 rfl)
          have e_g6_5 : g6 5 = (g 5) := (h11 5 rfl)
          refine jx_Vv (As := [.int z33]) (rest := []) ⟨hx, hb, hml, hown, hts⟩ hZ hw hA (jm_X12_choose0 l hlt D t3 cI cJ ad g6 lg ar bk _ z33 (om1077 ((z33).toInt) ((g6 35).toInt) ((g 35).toInt) ((y1).toInt) (((1 : Int32)).toInt) ((z31).toInt) (congrArg Int32.toInt e_g6_35) xz33 hr0 xz31 (hE_lt cc32) (by decide)) (om990 ((g6 35).toInt) ((g 35).toInt) (congrArg Int32.toInt e_g6_35) hr1) (om162 ((g6 24).toInt) ((g 24).toInt) (congrArg Int32.toInt e_g6_24) hi_g24) (om162 ((g6 25).toInt) ((g 25).toInt) (congrArg Int32.toInt e_g6_25) hi_g25) (om162 ((g6 26).toInt) ((g 26).toInt) (congrArg Int32.toInt e_g6_26) hi_g26) (om162 ((g6 27).toInt) ((g 27).toInt) (congrArg Int32.toInt e_g6_27) hi_g27) (om41 ((g6 5).toInt) ((g 5).toInt) (congrArg Int32.toInt e_g6_5) hi_g5)) (cwV 1 hts (jx_gV wwM_good wM_176 wM_177 wM_178 wM_8 wM_179) rfl rfl rfl (by decide +kernel) ⟨Nat.le_of_ble_eq_true rfl, Nat.le_of_ble_eq_true rfl⟩) 0 (ci := 15) (T := TX12) (N := 92) rfl rfl rfl hl.1 rfl (Nat.le_of_ble_eq_true rfl) dX12_choose1_72 ⟨Nat.le_of_ble_eq_true rfl, Nat.le_of_ble_eq_true rfl⟩ (fun _ _ _ _ _ _ _ _ hp _ _ _ _ => hp.elim) (fun g39 l40 a41 b42 H locs hp43 hw => ?_)
          obtain ⟨h44, rfl, rfl, rfl, h48, h49, h50, h51, h52, h53, h54, h55, h56⟩ := hp43
          have e_g6_24 : g6 24 = (g 24) := (h11 24 rfl)
          have e_g6_25 : g6 25 = (g 25) := (h11 25 rfl)
          have e_g6_26 : g6 26 = (g 26) := (h11 26 rfl)
          have e_g6_27 : g6 27 = (g 27) := (h11 27 rfl)
          refine lv_aload_n hx hb dX12_choose1_75 rfl (lv_at hl 4 rfl) ?_
          refine hk_get (ci := 15) (C := RX12) (T := TX12) (N := 92) (v := .int (g39 39)) hx hb hts (fun _ h => List.mem_cons_of_mem _ (wwMc_wsX120 _ h)) hown hw 0 rfl rfl 62 (by decide) (hq _ wM_173) rfl dX12_choose1_76 ?_
          refine lv_iload hx hb dX12_choose1_79 (lv_at hl 1 rfl) ?_
          refine lv_iconst (v := 2) hx hb dX12_choose1_81 (by decide) ?_
          refine lv_iadd hx hb dX12_choose1_82 (jx_nm fun z57 hz57 => ?_)
          have xz57 : (z57).toInt = (g6 39).toInt + ((2 : Int32)).toInt := (hE_imp (hE_add hz57) (om1078 ((g6 39).toInt) (((2 : Int32)).toInt) ((y1).toInt) ((g 35).toInt) (((32 : Int32)).toInt) h15 (hE_nle cc28) (by decide) (by decide)))
          refine lv_icmp_lt (tgt := 104) hx hb dX12_choose1_83 (by decide) (fun cc58 => ?_) (fun cc58 => ?_)
          · refine lv_aload_n hx hb dX12_choose1_104 rfl (lv_at hl 4 rfl) ?_
            refine lv_iload_n hx hb dX12_choose1_105 rfl (lv_at hl 2 rfl) ?_
            refine jx_putg mw (cI := cI) (cJ := cJ) (ad := ad) (g := g39) (lg := lg) (ar := ar) (bk := bk) (x := (g6 38)) 38 (ci := 15) (C := RX12) (T := TX12) (N := 92) (ty := .int) hx hb hts (fun _ h => List.mem_cons_of_mem _ (wwMc_wsX120 _ h)) tyX12 tyX12_ok nmX12 hown hw 0 rfl rfl 61 (by decide) (hq _ wM_172) rfl (by decide +kernel) rfl rfl (Nat.le_of_ble_eq_true rfl) dX12_choose1_106 rfl (fun H locs g59 h_g59 hw => ?_)
            refine lv_aload_n hx hb dX12_choose1_109 rfl (lv_at hl 4 rfl) ?_
            refine lv_iload hx hb dX12_choose1_110 (lv_at hl 1 rfl) ?_
            refine jx_putg mw (cI := cI) (cJ := cJ) (ad := ad) (g := g59) (lg := lg) (ar := ar) (bk := bk) (x := (g6 39)) 39 (ci := 15) (C := RX12) (T := TX12) (N := 92) (ty := .int) hx hb hts (fun _ h => List.mem_cons_of_mem _ (wwMc_wsX120 _ h)) tyX12 tyX12_ok nmX12 hown hw 0 rfl rfl 62 (by decide) (hq _ wM_173) rfl (by decide +kernel) rfl rfl (Nat.le_of_ble_eq_true rfl) dX12_choose1_112 rfl (fun H locs g60 h_g60 hw => ?_)
            refine lv_aload_n hx hb dX12_choose1_115 rfl (lv_at hl 4 rfl) ?_
            refine lv_iload hx hb dX12_choose1_116 (lv_at hl 0 rfl) ?_
            refine jx_putg mw (cI := cI) (cJ := cJ) (ad := ad) (g := g60) (lg := lg) (ar := ar) (bk := bk) (x := (g6 40)) 40 (ci := 15) (C := RX12) (T := TX12) (N := 92) (ty := .int) hx hb hts (fun _ h => List.mem_cons_of_mem _ (wwMc_wsX120 _ h)) tyX12 tyX12_ok nmX12 hown hw 0 rfl rfl 63 (by decide) (hq _ wM_174) rfl (by decide +kernel) rfl rfl (Nat.le_of_ble_eq_true rfl) dX12_choose1_118 rfl (fun H locs g61 h_g61 hw => ?_)
            have e_g61_39 : g61 39 = (g6 39) := ((hk_upgN h_g61 39 rfl)).trans (hk_upgS h_g60)
            have e_g61_38 : g61 38 = (g6 38) := ((hk_upgN h_g61 38 rfl)).trans (((hk_upgN h_g60 38 rfl)).trans (hk_upgS h_g59))
            have e_g61_40 : g61 40 = (g6 40) := (hk_upgS h_g61)
            exact kr g61 lg ar bk _ _ _ _ ⟨(hk_frG (hk_frG (hk_frG (hk_frT h11 (by decide) h44) (by decide) h_g59) (by decide) h_g60) (by decide) h_g61), rfl, rfl, rfl, (om1079 ((g61 39).toInt) ((y1).toInt) ((g 35).toInt) ((g6 39).toInt) ((g6 38).toInt) ((g6 40).toInt) ((g 24).toInt) ((g 25).toInt) ((g 26).toInt) ((g 27).toInt) (((0 : Int32)).toInt) (((6 : Int32)).toInt) (((32 : Int32)).toInt) h15 h17 h20 h21 h22 h23 (congrArg Int32.toInt e_g61_39) h16 (hE_ne cc24) (hE_ne cc26) (hE_nle cc28) (by decide) (by decide) (by decide)), (om1080 ((g61 38).toInt) ((g6 38).toInt) (((0 : Int32)).toInt) (congrArg Int32.toInt e_g61_38) h16 (hE_ne cc24) (by decide)), (om1081 ((g61 38).toInt) ((g61 39).toInt) ((g61 40).toInt) ((y1).toInt) ((g6 38).toInt) ((g6 39).toInt) ((g6 40).toInt) h17 (congrArg Int32.toInt e_g61_39) (congrArg Int32.toInt e_g61_38) (congrArg Int32.toInt e_g61_40)), (om1082 ((g61 38).toInt) ((g61 39).toInt) ((g6 38).toInt) (((0 : Int32)).toInt) (((6 : Int32)).toInt) (congrArg Int32.toInt e_g61_38) h16 (hE_ne cc24) (hE_ne cc26) (by decide) (by decide)), (om1083 ((g61 38).toInt) ((g 24).toInt) ((y1).toInt) ((g6 38).toInt) (((6 : Int32)).toInt) (congrArg Int32.toInt e_g61_38) h16 (hE_ne cc26) (by decide)), (om1084 ((g61 38).toInt) ((g61 39).toInt) ((g 24).toInt) ((y1).toInt) ((g6 38).toInt) ((g6 39).toInt) h20 (congrArg Int32.toInt e_g61_39) (congrArg Int32.toInt e_g61_38)), (om1085 ((g61 38).toInt) ((g61 39).toInt) ((g 25).toInt) ((y1).toInt) ((g6 38).toInt) ((g6 39).toInt) h21 (congrArg Int32.toInt e_g61_39) (congrArg Int32.toInt e_g61_38)), (om1086 ((g61 38).toInt) ((g61 39).toInt) ((g 26).toInt) ((y1).toInt) ((g6 38).toInt) ((g6 39).toInt) h22 (congrArg Int32.toInt e_g61_39) (congrArg Int32.toInt e_g61_38)), (om1087 ((g61 38).toInt) ((g61 39).toInt) ((g 27).toInt) ((y1).toInt) ((g6 38).toInt) ((g6 39).toInt) h23 (congrArg Int32.toInt e_g61_39) (congrArg Int32.toInt e_g61_38))⟩ hw dX12_choose1_121
          · refine lv_aload_n hx hb dX12_choose1_86 rfl (lv_at hl 4 rfl) ?_
            refine lv_iconst (v := 0) hx hb dX12_choose1_87 (by decide) ?_
            refine jx_putg mw (cI := cI) (cJ := cJ) (ad := ad) (g := g39) (lg := lg) (ar := ar) (bk := bk) (x := 0) 38 (ci := 15) (C := RX12) (T := TX12) (N := 92) (ty := .int) hx hb hts (fun _ h => List.mem_cons_of_mem _ (wwMc_wsX120 _ h)) tyX12 tyX12_ok nmX12 hown hw 0 rfl rfl 61 (by decide) (hq _ wM_172) rfl (by decide +kernel) rfl rfl (Nat.le_of_ble_eq_true rfl) dX12_choose1_88 rfl (fun H locs g62 h_g62 hw => ?_)
            refine lv_aload_n hx hb dX12_choose1_91 rfl (lv_at hl 4 rfl) ?_
            refine lv_iconst (v := 1) hx hb dX12_choose1_92 (by decide) ?_
            refine jx_putg mw (cI := cI) (cJ := cJ) (ad := ad) (g := g62) (lg := lg) (ar := ar) (bk := bk) (x := 1) 39 (ci := 15) (C := RX12) (T := TX12) (N := 92) (ty := .int) hx hb hts (fun _ h => List.mem_cons_of_mem _ (wwMc_wsX120 _ h)) tyX12 tyX12_ok nmX12 hown hw 0 rfl rfl 62 (by decide) (hq _ wM_173) rfl (by decide +kernel) rfl rfl (Nat.le_of_ble_eq_true rfl) dX12_choose1_93 rfl (fun H locs g63 h_g63 hw => ?_)
            refine lv_aload_n hx hb dX12_choose1_96 rfl (lv_at hl 4 rfl) ?_
            refine lv_iconst (v := 0) hx hb dX12_choose1_97 (by decide) ?_
            refine jx_putg mw (cI := cI) (cJ := cJ) (ad := ad) (g := g63) (lg := lg) (ar := ar) (bk := bk) (x := 0) 40 (ci := 15) (C := RX12) (T := TX12) (N := 92) (ty := .int) hx hb hts (fun _ h => List.mem_cons_of_mem _ (wwMc_wsX120 _ h)) tyX12 tyX12_ok nmX12 hown hw 0 rfl rfl 63 (by decide) (hq _ wM_174) rfl (by decide +kernel) rfl rfl (Nat.le_of_ble_eq_true rfl) dX12_choose1_98 rfl (fun H locs g64 h_g64 hw => ?_)
            refine lv_goto (tgt := 121) hx hb dX12_choose1_101 (by decide) ?_
            have e_g64_39 : g64 39 = (1 : Int32) := ((hk_upgN h_g64 39 rfl)).trans (hk_upgS h_g63)
            have e_g64_38 : g64 38 = (0 : Int32) := ((hk_upgN h_g64 38 rfl)).trans (((hk_upgN h_g63 38 rfl)).trans (hk_upgS h_g62))
            have e_g64_40 : g64 40 = (0 : Int32) := (hk_upgS h_g64)
            exact kr g64 lg ar bk _ _ _ _ ⟨(hk_frG (hk_frG (hk_frG (hk_frT h11 (by decide) h44) (by decide) h_g62) (by decide) h_g63) (by decide) h_g64), rfl, rfl, rfl, (om1088 ((g64 39).toInt) ((y1).toInt) ((g 35).toInt) ((g6 38).toInt) ((g6 39).toInt) ((g6 40).toInt) ((g 24).toInt) ((g 25).toInt) ((g 26).toInt) ((g 27).toInt) ((g6 35).toInt) ((z33).toInt) (((1 : Int32)).toInt) (((0 : Int32)).toInt) (((6 : Int32)).toInt) ((g39 39).toInt) ((z57).toInt) (((2 : Int32)).toInt) h17 h20 h21 h22 h23 (congrArg Int32.toInt e_g6_35) xz33 (congrArg Int32.toInt e_g64_39) h16 (hE_ne cc24) (hE_ne cc26) h48 xz57 (hE_nlt cc58) (by decide) (by decide) (by decide) (by decide)), (om1027 ((g64 38).toInt) (((0 : Int32)).toInt) (congrArg Int32.toInt e_g64_38) (by decide)), (om1028 ((g64 38).toInt) ((g64 39).toInt) ((g64 40).toInt) ((y1).toInt) (((0 : Int32)).toInt) (congrArg Int32.toInt e_g64_38) (by decide)), (om1029 ((g64 38).toInt) ((g64 39).toInt) (((1 : Int32)).toInt) (congrArg Int32.toInt e_g64_39) (by decide)), (om1030 ((g64 38).toInt) ((g 24).toInt) ((y1).toInt) (((0 : Int32)).toInt) (congrArg Int32.toInt e_g64_38) (by decide)), (om1031 ((g64 38).toInt) ((g64 39).toInt) ((g 24).toInt) ((y1).toInt) (((0 : Int32)).toInt) (congrArg Int32.toInt e_g64_38) (by decide)), (om1032 ((g64 38).toInt) ((g64 39).toInt) ((g 25).toInt) ((y1).toInt) (((0 : Int32)).toInt) (congrArg Int32.toInt e_g64_38) (by decide)), (om1033 ((g64 38).toInt) ((g64 39).toInt) ((g 26).toInt) ((y1).toInt) (((0 : Int32)).toInt) (congrArg Int32.toInt e_g64_38) (by decide)), (om1034 ((g64 38).toInt) ((g64 39).toInt) ((g 27).toInt) ((y1).toInt) (((0 : Int32)).toInt) (congrArg Int32.toInt e_g64_38) (by decide))⟩ hw dX12_choose1_121
        · exact kr g6 lg ar bk _ _ _ _ ⟨h11, rfl, rfl, rfl, (om1089 ((g6 39).toInt) ((y1).toInt) ((g 35).toInt) ((g6 38).toInt) ((g6 40).toInt) ((g 24).toInt) ((g 25).toInt) ((g 26).toInt) ((g 27).toInt) ((z31).toInt) (((1 : Int32)).toInt) (((0 : Int32)).toInt) (((6 : Int32)).toInt) h15 h17 h20 h21 h22 h23 xz31 (hE_nlt cc32) h16 (hE_ne cc24) (hE_ne cc26) (by decide) (by decide) (by decide)), (om1067 ((g6 38).toInt) (((0 : Int32)).toInt) h16 (hE_ne cc24) (by decide)), (om1090 ((g6 38).toInt) ((g6 39).toInt) ((g6 40).toInt) ((y1).toInt) ((g 35).toInt) ((z31).toInt) (((1 : Int32)).toInt) h15 h17 xz31 (hE_nlt cc32) (by decide)), (om1069 ((g6 38).toInt) ((g6 39).toInt) (((0 : Int32)).toInt) (((6 : Int32)).toInt) h16 (hE_ne cc24) (hE_ne cc26) (by decide) (by decide)), (om1070 ((g6 38).toInt) ((g 24).toInt) ((y1).toInt) (((6 : Int32)).toInt) (hE_ne cc26) (by decide)), (om1091 ((g6 38).toInt) ((g6 39).toInt) ((g 24).toInt) ((y1).toInt) ((g 35).toInt) ((z31).toInt) (((1 : Int32)).toInt) h15 h20 xz31 (hE_nlt cc32) (by decide)), (om1092 ((g6 38).toInt) ((g6 39).toInt) ((g 25).toInt) ((y1).toInt) ((g 35).toInt) ((z31).toInt) (((1 : Int32)).toInt) h15 h21 xz31 (hE_nlt cc32) (by decide)), (om1093 ((g6 38).toInt) ((g6 39).toInt) ((g 26).toInt) ((y1).toInt) ((g 35).toInt) ((z31).toInt) (((1 : Int32)).toInt) h15 h22 xz31 (hE_nlt cc32) (by decide)), (om1094 ((g6 38).toInt) ((g6 39).toInt) ((g 27).toInt) ((y1).toInt) ((g 35).toInt) ((z31).toInt) (((1 : Int32)).toInt) h15 h23 xz31 (hE_nlt cc32) (by decide))⟩ hw dX12_choose1_50

set_option maxHeartbeats 4000000 in
set_option maxRecDepth 100000 in
/-- X12_bitsOf -/
theorem jm_X12_bitsOf (l : Launch) (hlt : l.stackTraces = false) (D : va_G) (t3 : Nat × Nat × Nat) (cI cJ : ClassId) (ad : Nat → Nat) (g : Nat → Int32) (lg : Nat → Int64) (ar : Nat → Nat → Int32) (bk : Nat → Int64) (sz : Nat) (y0 : Int32) : JMi l yX12_bitsOf (Cond.code yX12_bitsOf cX12_bitsOf 3 (some .int) :: wwM) { frames := 0, cells := 0, slots := 0, locals := 0 } t3 D mw cI cJ ad [.int y0] (mw cI cJ ad g lg ar bk) sz 0 0 (fun (r : Int32) g' lg' ar' bk' => g = g' ∧ lg = lg' ∧ ar = ar' ∧ bk = bk') (fun g' lg' ar' bk' => False) := by
  refine jx_meti (cc := cX12_bitsOf) (maxL := 3) (ret := (some .int)) rfl (by decide) rfl (Nat.le_of_ble_eq_true rfl) ?_
  intro p e s m args below meth c ls Q A hx hb hml hown hts hA hZ hw hl hQ kr kt
  have hq : ∀ w ∈ wwM, w.before args s = true := fun w h => hts w (List.mem_cons_of_mem _ h)
  have hl : lv_has ls 3 [(0, .int y0)] := hl
  refine lv_iconst (v := 0) hx hb dX12_bitsOf_0 (by decide) ?_
  refine lv_istore_n (lv' := [(1, .int 0), (0, .int y0)]) hx hb dX12_bitsOf_1 rfl hl (by decide) rfl (fun ls hl => ?_)
  refine lv_iload_n hx hb dX12_bitsOf_2 rfl (lv_at hl 1 rfl) ?_
  refine lv_istore_n (lv' := [(2, .int y0), (1, .int 0), (0, .int y0)]) hx hb dX12_bitsOf_3 rfl hl (by decide) rfl (fun ls hl => ?_)
  have B1 : ∀ (k4 : Nat) (x2 : Int32) (x3 : Int32) (ls : Array Slot) (H : Heap) (locs : List Loc), ((x3).toInt + 2147483649 ≤ (k4 : Int)) → hk_W D (jT cI cJ) A s H locs (mw cI cJ ad g lg ar bk) → lv_has ls 3 [(1, .int x2), (2, .int x3)] → W p l e { frames := 0, cells := 0, slots := 0, locals := 0 } s m args below meth c H locs 0 0 Q (F0 m 4 ls []) := by
    intro k4
    induction k4 with
    | zero =>
      intro x2 x3 ls H locs hrk_B1 hw hl
      exact False.elim (hk_no0 (0 * (x3).toInt) (om81 ((x3).toInt) hrk_B1 (hE_rng (x3))) (by simp))
    | succ k4 ih_B1 =>
      intro x2 x3 ls H locs hrk_B1 hw hl
      have hrk_B1 := hk_rk hrk_B1
      refine lv_iload_n hx hb dX12_bitsOf_4 rfl (lv_at hl 1 rfl) ?_
      refine lv_if_le (tgt := 18) hx hb dX12_bitsOf_5 (by decide) (fun cc5 => ?_) (fun cc5 => ?_)
      · refine lv_iload_n hx hb dX12_bitsOf_18 rfl (lv_at hl 0 rfl) ?_
        exact kr x2 g lg ar bk _ _ _ _ ⟨rfl, rfl, rfl, rfl⟩ hw dX12_bitsOf_19
      · obtain ⟨z6, hz6⟩ : ∃ z : Int32, x2 + 1 = z := ⟨_, rfl⟩
        refine lv_iinc (v := z6) (lv' := [(1, .int z6), (2, .int x3)]) hx hb dX12_bitsOf_8 hl (k := 0) rfl hz6 (by decide) rfl (fun ls hl => ?_)
        refine lv_iload_n hx hb dX12_bitsOf_11 rfl (lv_at hl 1 rfl) ?_
        refine lv_iconst (v := 1) hx hb dX12_bitsOf_12 (by decide) ?_
        refine lv_ishr hx hb dX12_bitsOf_13 (jx_nm fun z7 hz7 => ?_)
        refine lv_istore_n (lv' := [(2, .int z7), (1, .int z6)]) hx hb dX12_bitsOf_14 rfl hl (by decide) rfl (fun ls hl => ?_)
        refine lv_goto (tgt := 4) hx hb dX12_bitsOf_15 (by decide) ?_
        exact ih_B1 z6 z7 ls _ _ (om1095 ((z7).toInt) (k4 : Int) ((x3).toInt) (((0 : Int32)).toInt) hrk_B1 (hE_shr 1 2 hz7 (by decide) (by decide) (by decide)) (hE_nle cc5) (by decide)) hw (lv_sub hl [1, 0] rfl)
  exact B1 ((y0).toInt + 2147483649).toNat 0 y0 ls _ _ (Int.self_le_toNat _) hw (lv_sub hl [1, 0] rfl)

set_option maxHeartbeats 4000000 in
set_option maxRecDepth 100000 in
/-- X12_plan on (0,) -/
theorem jm_X12_plan (l : Launch) (hlt : l.stackTraces = false) (D : va_G) (t3 : Nat × Nat × Nat) (cI cJ : ClassId) (ad : Nat → Nat) (g : Nat → Int32) (lg : Nat → Int64) (ar : Nat → Nat → Int32) (bk : Nat → Int64) (sz : Nat) (y1 : Int32) (hr0 : 0 ≤ (y1).toInt ∧ (y1).toInt ≤ (g 35).toInt) (hr1 : (g 35).toInt ≤ 3000) (hi_g5 : 1 ≤ (g 5).toInt ∧ (g 5).toInt ≤ 4096) : JMv l yX12_plan (Cond.code yX12_plan cX12_plan 5 none :: wwM) { frames := 2, cells := 0, slots := 0, locals := 48 } t3 D mw cI cJ ad [.ref (ad 0), .int y1] (mw cI cJ ad g lg ar bk) sz 0 0 (fun g' lg' ar' bk' => hk_fr [36, 37] g g' ∧ lg = lg' ∧ hk_fr [19, 20, 21] ar ar' ∧ bk = bk' ∧ (hk_pl (y1).toInt (g 35).toInt (ar' 20) (ar' 21))) (fun g' lg' ar' bk' => False) := by
  refine jx_metv (cc := cX12_plan) (maxL := 5) (ret := none) rfl (by decide) rfl (Nat.le_of_ble_eq_true rfl) ?_
  intro p e s m args below meth c ls Q A hx hb hml hown hts hA hZ hw hl hQ kr kt
  have hq : ∀ w ∈ wwM, w.before args s = true := fun w h => hts w (List.mem_cons_of_mem _ h)
  have hl : lv_has ls 5 [(0, .ref (ad 0)), (1, .int y1)] := hl
  refine lv_aload_n hx hb dX12_plan_0 rfl (lv_at hl 0 rfl) ?_
  refine hk_get (ci := 15) (C := RX12) (T := TX12) (N := 92) (v := .ref (ad 20)) hx hb hts (fun _ h => List.mem_cons_of_mem _ (wwMc_wsX120 _ h)) hown hw 0 rfl rfl 64 (by decide) (hq _ wM_423) rfl dX12_plan_1 ?_
  refine lv_aload_n hx hb dX12_plan_4 rfl (lv_at hl 0 rfl) ?_
  refine hk_get (ci := 15) (C := RX12) (T := TX12) (N := 92) (v := .int (g 35)) hx hb hts (fun _ h => List.mem_cons_of_mem _ (wwMc_wsX120 _ h)) hown hw 0 rfl rfl 58 (by decide) (hq _ wM_180) rfl dX12_plan_5 ?_
  refine lv_iconst (v := 0) hx hb dX12_plan_8 (by decide) ?_
  refine jx_iast mw (cI := cI) (cJ := cJ) (ad := ad) (g := g) (lg := lg) (ar := ar) (bk := bk) 19 hx hb hw 20 0 rfl rfl (hE_in (n := 3001) (om1096 ((g 35).toInt) ((y1).toInt) hr0 hr1)) dX12_plan_9 rfl (fun H locs a1 h_a1 hw => ?_)
  refine lv_aload_n hx hb dX12_plan_10 rfl (lv_at hl 0 rfl) ?_
  refine hk_get (ci := 15) (C := RX12) (T := TX12) (N := 92) (v := .int (g 35)) hx hb hts (fun _ h => List.mem_cons_of_mem _ (wwMc_wsX120 _ h)) hown hw 0 rfl rfl 58 (by decide) (hq _ wM_180) rfl dX12_plan_11 ?_
  refine lv_iconst (v := 1) hx hb dX12_plan_14 (by decide) ?_
  refine lv_isub hx hb dX12_plan_15 (jx_nm fun z2 hz2 => ?_)
  have xz2 : (z2).toInt = (g 35).toInt - ((1 : Int32)).toInt := (hE_imp (hE_sub hz2) (om1097 ((g 35).toInt) (((1 : Int32)).toInt) ((y1).toInt) hr0 hr1 (by decide)))
  refine lv_istore_n (lv' := [(2, .int z2), (0, .ref (ad 0)), (1, .int y1)]) hx hb dX12_plan_16 rfl hl (by decide) rfl (fun ls hl => ?_)
  have B3 : ∀ (k7 : Nat) (x4 : Int32) (g5 : Nat → Int32) (a6 : Nat → Nat → Int32) (ls : Array Slot) (H : Heap) (locs : List Loc), ((x4).toInt + 2147483649 ≤ (k7 : Int)) → ((y1).toInt - 1 ≤ (x4).toInt ∧ (x4).toInt < (g 35).toInt) → (hk_fr [36, 37] g g5) → (hk_fr [19, 20, 21] a1 a6) → (hk_pl ((x4).toInt + 1) (g 35).toInt (a6 20) (a6 21)) → hk_W D (jT cI cJ) A s H locs (mw cI cJ ad g5 lg a6 bk) → lv_has ls 5 [(0, .ref (ad 0)), (1, .int y1), (2, .int x4)] → W p l e { frames := 2, cells := 0, slots := 0, locals := 48 } s m args below meth c H locs 0 0 Q (F0 m 17 ls []) := by
    intro k7
    induction k7 with
    | zero =>
      intro x4 g5 a6 ls H locs hrk_B3 hf_B3_0 hfr_g5 hfr_a6 hw_B3_pl hw hl
      exact False.elim (hk_no0 (0 * (x4).toInt) (om1098 ((x4).toInt) ((y1).toInt) ((g 35).toInt) hf_B3_0 hrk_B3 hr0) (by simp))
    | succ k7 ih_B3 =>
      intro x4 g5 a6 ls H locs hrk_B3 hf_B3_0 hfr_g5 hfr_a6 hw_B3_pl hw hl
      have hrk_B3 := hk_rk hrk_B3
      refine lv_iload_n hx hb dX12_plan_17 rfl (lv_at hl 2 rfl) ?_
      refine lv_iload_n hx hb dX12_plan_18 rfl (lv_at hl 1 rfl) ?_
      refine lv_icmp_lt (tgt := 161) hx hb dX12_plan_19 (by decide) (fun cc8 => ?_) (fun cc8 => ?_)
      · exact kr g5 lg a6 bk _ _ _ _ ⟨hfr_g5, rfl, (hk_frT (hk_frA hk_fr0 (by decide) h_a1) (by decide) hfr_a6), rfl, (hk_plM hw_B3_pl (om1099 ((x4).toInt) ((y1).toInt) (hE_lt cc8)) rfl rfl rfl)⟩ hw dX12_plan_161
      · refine lv_aload_n hx hb dX12_plan_22 rfl (lv_at hl 0 rfl) ?_
        refine lv_iload_n hx hb dX12_plan_23 rfl (lv_at hl 2 rfl) ?_
        have e_g5_35 : g5 35 = (g 35) := (hfr_g5 35 rfl)
        have e_g5_5 : g5 5 = (g 5) := (hfr_g5 5 rfl)
        refine jx_Vv (As := [.int x4]) (rest := []) ⟨hx, hb, hml, hown, hts⟩ hZ hw hA (jm_X12_findLongest l hlt D t3 cI cJ ad g5 lg a6 bk _ x4 (om1100 ((x4).toInt) ((g5 35).toInt) ((y1).toInt) ((g 35).toInt) hf_B3_0 (hE_nlt cc8) (congrArg Int32.toInt e_g5_35) hr0) (om990 ((g5 35).toInt) ((g 35).toInt) (congrArg Int32.toInt e_g5_35) hr1) (om41 ((g5 5).toInt) ((g 5).toInt) (congrArg Int32.toInt e_g5_5) hi_g5)) (cwV 1 hts (jx_gV wwM_good wM_163 wM_164 wM_165 wM_8 wM_166) rfl rfl rfl (by decide +kernel) ⟨Nat.le_of_ble_eq_true rfl, Nat.le_of_ble_eq_true rfl⟩) 0 (ci := 15) (T := TX12) (N := 92) rfl rfl rfl hl.1 rfl (Nat.le_of_ble_eq_true rfl) dX12_plan_24 ⟨Nat.le_of_ble_eq_true rfl, Nat.le_of_ble_eq_true rfl⟩ (fun _ _ _ _ _ _ _ _ hp _ _ _ _ => hp.elim) (fun g14 l15 a16 b17 H locs hp18 hw => ?_)
        obtain ⟨h19, rfl, rfl, rfl, h23, h24, h25⟩ := hp18
        have e_g5_35 : g5 35 = (g 35) := (hfr_g5 35 rfl)
        refine lv_aload_n hx hb dX12_plan_27 rfl (lv_at hl 0 rfl) ?_
        refine hk_get (ci := 15) (C := RX12) (T := TX12) (N := 92) (v := .ref (ad 20)) hx hb hts (fun _ h => List.mem_cons_of_mem _ (wwMc_wsX120 _ h)) hown hw 0 rfl rfl 64 (by decide) (hq _ wM_423) rfl dX12_plan_28 ?_
        refine lv_iload_n hx hb dX12_plan_31 rfl (lv_at hl 2 rfl) ?_
        refine lv_bipush (v := 9) hx hb dX12_plan_32 (by decide) ?_
        refine lv_aload_n hx hb dX12_plan_34 rfl (lv_at hl 0 rfl) ?_
        refine hk_get (ci := 15) (C := RX12) (T := TX12) (N := 92) (v := .ref (ad 20)) hx hb hts (fun _ h => List.mem_cons_of_mem _ (wwMc_wsX120 _ h)) hown hw 0 rfl rfl 64 (by decide) (hq _ wM_423) rfl dX12_plan_35 ?_
        refine lv_iload_n hx hb dX12_plan_38 rfl (lv_at hl 2 rfl) ?_
        refine lv_iconst (v := 1) hx hb dX12_plan_39 (by decide) ?_
        refine lv_iadd hx hb dX12_plan_40 (jx_nm fun z26 hz26 => ?_)
        have xz26 : (z26).toInt = (x4).toInt + ((1 : Int32)).toInt := (hE_imp (hE_add hz26) (om1101 ((x4).toInt) (((1 : Int32)).toInt) ((y1).toInt) ((g 35).toInt) hf_B3_0 (hE_nlt cc8) hr0 hr1 (by decide)))
        refine jx_iald hx hb hw 20 0 rfl rfl (hE_in (n := 3001) (om1102 ((z26).toInt) ((x4).toInt) (((1 : Int32)).toInt) ((y1).toInt) ((g 35).toInt) xz26 hf_B3_0 (hE_nlt cc8) hr0 hr1 (by decide))) dX12_plan_41 (fun z27 hz27 => ?_)
        refine lv_iadd hx hb dX12_plan_42 (jx_nm fun z28 hz28 => ?_)
        refine jx_iast mw (cI := cI) (cJ := cJ) (ad := ad) (g := g14) (lg := lg) (ar := a6) (bk := bk) 19 hx hb hw 20 0 rfl rfl (hE_in (n := 3001) (om1103 ((x4).toInt) ((y1).toInt) ((g 35).toInt) hf_B3_0 (hE_nlt cc8) hr0 hr1)) dX12_plan_43 rfl (fun H locs a29 h_a29 hw => ?_)
        refine lv_aload_n hx hb dX12_plan_44 rfl (lv_at hl 0 rfl) ?_
        refine hk_get (ci := 15) (C := RX12) (T := TX12) (N := 92) (v := .ref (ad 21)) hx hb hts (fun _ h => List.mem_cons_of_mem _ (wwMc_wsX120 _ h)) hown hw 0 rfl rfl 65 (by decide) (hq _ wM_181) rfl dX12_plan_45 ?_
        refine lv_iload_n hx hb dX12_plan_48 rfl (lv_at hl 2 rfl) ?_
        refine lv_iconst (v := 1) hx hb dX12_plan_49 (by decide) ?_
        refine jx_iast mw (cI := cI) (cJ := cJ) (ad := ad) (g := g14) (lg := lg) (ar := a29) (bk := bk) 20 hx hb hw 21 0 rfl rfl (hE_in (n := 3001) (om1103 ((x4).toInt) ((y1).toInt) ((g 35).toInt) hf_B3_0 (hE_nlt cc8) hr0 hr1)) dX12_plan_50 rfl (fun H locs a30 h_a30 hw => ?_)
        refine lv_aload_n hx hb dX12_plan_51 rfl (lv_at hl 0 rfl) ?_
        refine hk_get (ci := 15) (C := RX12) (T := TX12) (N := 92) (v := .ref (ad 22)) hx hb hts (fun _ h => List.mem_cons_of_mem _ (wwMc_wsX120 _ h)) hown hw 0 rfl rfl 66 (by decide) (hq _ wM_182) rfl dX12_plan_52 ?_
        refine lv_iload_n hx hb dX12_plan_55 rfl (lv_at hl 2 rfl) ?_
        refine lv_iconst (v := 0) hx hb dX12_plan_56 (by decide) ?_
        refine jx_iast mw (cI := cI) (cJ := cJ) (ad := ad) (g := g14) (lg := lg) (ar := a30) (bk := bk) 21 hx hb hw 22 0 rfl rfl (hE_in (n := 3001) (om1103 ((x4).toInt) ((y1).toInt) ((g 35).toInt) hf_B3_0 (hE_nlt cc8) hr0 hr1)) dX12_plan_57 rfl (fun H locs a31 h_a31 hw => ?_)
        refine lv_iconst (v := 2) hx hb dX12_plan_58 (by decide) ?_
        refine lv_istore_n (lv' := [(3, .int 2), (0, .ref (ad 0)), (1, .int y1), (2, .int x4)]) hx hb dX12_plan_59 rfl hl (by decide) rfl (fun ls hl => ?_)
        have B32 : ∀ (k35 : Nat) (x33 : Int32) (a34 : Nat → Nat → Int32) (ls : Array Slot) (H : Heap) (locs : List Loc), (2147483648 - (x33).toInt ≤ (k35 : Int)) → ((x33).toInt ≤ 274) → (2 ≤ (x33).toInt) → (hk_fr [19, 20, 21] a31 a34) → (hk_pl ((x4).toInt) (g 35).toInt (a34 20) (a34 21)) → hk_W D (jT cI cJ) A s H locs (mw cI cJ ad g14 lg a34 bk) → lv_has ls 5 [(0, .ref (ad 0)), (1, .int y1), (2, .int x4), (3, .int x33)] → W p l e { frames := 2, cells := 0, slots := 0, locals := 48 } s m args below meth c H locs 0 0 Q (F0 m 60 ls []) := by
          intro k35
          induction k35 with
          | zero =>
            intro x33 a34 ls H locs hrk_B32 hf_B32_0 hf_B32_1 hfr_a34 hw_B32_pl hw hl
            exact False.elim (hk_no0 (0 * (x33).toInt) (om1104 ((x33).toInt) hf_B32_0 hrk_B32) (by simp))
          | succ k35 ih_B32 =>
            intro x33 a34 ls H locs hrk_B32 hf_B32_0 hf_B32_1 hfr_a34 hw_B32_pl hw hl
            have hrk_B32 := hk_rk hrk_B32
            refine lv_iload_n hx hb dX12_plan_60 rfl (lv_at hl 3 rfl) ?_
            refine lv_aload_n hx hb dX12_plan_61 rfl (lv_at hl 0 rfl) ?_
            refine hk_get (ci := 15) (C := RX12) (T := TX12) (N := 92) (v := .int (g14 36)) hx hb hts (fun _ h => List.mem_cons_of_mem _ (wwMc_wsX120 _ h)) hown hw 0 rfl rfl 59 (by decide) (hq _ wM_171) rfl dX12_plan_62 ?_
            refine lv_icmp_gt (tgt := 155) hx hb dX12_plan_65 (by decide) (fun cc36 => ?_) (fun cc36 => ?_)
            · obtain ⟨z37, hz37⟩ : ∃ z : Int32, x4 + (-1) = z := ⟨_, rfl⟩
              refine lv_iinc (v := z37) (lv' := [(2, .int z37), (0, .ref (ad 0)), (1, .int y1), (3, .int x33)]) hx hb dX12_plan_155 hl (k := 2) rfl hz37 (by decide) rfl (fun ls hl => ?_)
              have xz37 : (z37).toInt = (x4).toInt + (((-1) : Int32)).toInt := (hE_imp (hE_add hz37) (om1105 ((x4).toInt) ((((-1) : Int32)).toInt) ((y1).toInt) ((g 35).toInt) hf_B3_0 (hE_nlt cc8) hr0 hr1 (by decide)))
              refine lv_goto (tgt := 17) hx hb dX12_plan_158 (by decide) ?_
              exact ih_B3 z37 g14 a34 ls _ _ (om113 ((z37).toInt) (k7 : Int) ((x4).toInt) ((((-1) : Int32)).toInt) hrk_B3 xz37 (by decide)) (om1106 ((y1).toInt) ((z37).toInt) ((g 35).toInt) ((x4).toInt) ((((-1) : Int32)).toInt) hf_B3_0 (hE_nlt cc8) xz37 (by decide)) (hk_frT hfr_g5 (by decide) h19) (hk_frT (hk_frA (hk_frA (hk_frA hfr_a6 (by decide) h_a29) (by decide) h_a30) (by decide) h_a31) (by decide) hfr_a34) (hk_plC hw_B32_pl (om1107 ((z37).toInt) ((x4).toInt) ((((-1) : Int32)).toInt) xz37 (by decide)) rfl rfl rfl) hw (lv_sub hl [1, 2, 0] rfl)
            · refine lv_bipush (v := 7) hx hb dX12_plan_68 (by decide) ?_
              refine lv_iload_n hx hb dX12_plan_70 rfl (lv_at hl 3 rfl) ?_
              refine lv_bipush (v := 9) hx hb dX12_plan_71 (by decide) ?_
              have B38 : ∀  (x39 : Int32) (ls : Array Slot) (H : Heap) (locs : List Loc), (0 ≤ (x39).toInt ∧ (x39).toInt ≤ 3) → hk_W D (jT cI cJ) A s H locs (mw cI cJ ad g14 lg a34 bk) → lv_has ls 5 [(0, .ref (ad 0)), (1, .int y1), (2, .int x4), (3, .int x33)] → W p l e { frames := 2, cells := 0, slots := 0, locals := 48 } s m args below meth c H locs 0 0 Q (F0 m 81 ls [.int x39, .int 7]) := by
                intro x39 ls H locs hf_B38_0 hw hl
                refine lv_iadd hx hb dX12_plan_81 (jx_nm fun z40 hz40 => ?_)
                have xz40 : (z40).toInt = ((7 : Int32)).toInt + (x39).toInt := (hE_imp (hE_add hz40) (om1108 (((7 : Int32)).toInt) ((x39).toInt) hf_B38_0 (by decide)))
                refine lv_iload_n hx hb dX12_plan_82 rfl (lv_at hl 3 rfl) ?_
                refine lv_bipush (v := 17) hx hb dX12_plan_83 (by decide) ?_
                have B41 : ∀  (x42 : Int32) (ls : Array Slot) (H : Heap) (locs : List Loc), (0 ≤ (x42).toInt ∧ (x42).toInt ≤ 5) → hk_W D (jT cI cJ) A s H locs (mw cI cJ ad g14 lg a34 bk) → lv_has ls 5 [(0, .ref (ad 0)), (1, .int y1), (2, .int x4), (3, .int x33)] → W p l e { frames := 2, cells := 0, slots := 0, locals := 48 } s m args below meth c H locs 0 0 Q (F0 m 93 ls [.int x42, .int z40]) := by
                  intro x42 ls H locs hf_B41_0 hw hl
                  refine lv_iadd hx hb dX12_plan_93 (jx_nm fun z43 hz43 => ?_)
                  have xz43 : (z43).toInt = (z40).toInt + (x42).toInt := (hE_imp (hE_add hz43) (om1109 ((z40).toInt) ((x42).toInt) (((7 : Int32)).toInt) ((x39).toInt) xz40 hf_B41_0 hf_B38_0 (by decide)))
                  refine lv_aload_n hx hb dX12_plan_94 rfl (lv_at hl 0 rfl) ?_
                  refine hk_get (ci := 15) (C := RX12) (T := TX12) (N := 92) (v := .int (g14 37)) hx hb hts (fun _ h => List.mem_cons_of_mem _ (wwMc_wsX120 _ h)) hown hw 0 rfl rfl 60 (by decide) (hq _ wM_175) rfl dX12_plan_95 ?_
                  refine jx_Si (As := [.int (g14 37)]) (rest := [.int z43]) ⟨hx, hb, hml, hown, hts⟩ hZ hw hA (jm_X12_bitsOf l hlt D t3 cI cJ ad g14 lg a34 bk _ (g14 37)) (va_cwS 1 hts (jx_gS wwM_good wM_424 wM_425 wM_8 wM_426) rfl rfl rfl (by decide +kernel) ⟨Nat.le_of_ble_eq_true rfl, Nat.le_of_ble_eq_true rfl⟩) rfl hl.1 rfl (Nat.le_of_ble_eq_true rfl) dX12_plan_98 ⟨Nat.le_of_ble_eq_true rfl, Nat.le_of_ble_eq_true rfl⟩ (fun _ _ _ _ _ _ _ _ hp _ _ _ _ => hp.elim) (fun r48 g49 l50 a51 b52 H locs hp53 hw => ?_)
                  obtain ⟨rfl, rfl, rfl, rfl⟩ := hp53
                  refine lv_iadd hx hb dX12_plan_101 (jx_nm fun z58 hz58 => ?_)
                  refine lv_aload_n hx hb dX12_plan_102 rfl (lv_at hl 0 rfl) ?_
                  refine hk_get (ci := 15) (C := RX12) (T := TX12) (N := 92) (v := .ref (ad 20)) hx hb hts (fun _ h => List.mem_cons_of_mem _ (wwMc_wsX120 _ h)) hown hw 0 rfl rfl 64 (by decide) (hq _ wM_423) rfl dX12_plan_103 ?_
                  refine lv_iload_n hx hb dX12_plan_106 rfl (lv_at hl 2 rfl) ?_
                  refine lv_iload_n hx hb dX12_plan_107 rfl (lv_at hl 3 rfl) ?_
                  refine lv_iadd hx hb dX12_plan_108 (jx_nm fun z59 hz59 => ?_)
                  have xz59 : (z59).toInt = (x4).toInt + (x33).toInt := (hE_imp (hE_add hz59) (om1110 ((x4).toInt) ((x33).toInt) ((g14 36).toInt) ((g5 35).toInt) ((g14 37).toInt) ((g 35).toInt) h23 h24 hf_B32_1 (hE_nlt cc36) hr1 (congrArg Int32.toInt e_g5_35)))
                  refine jx_iald hx hb hw 20 0 rfl rfl (hE_in (n := 3001) (om1111 ((z59).toInt) ((x4).toInt) ((x33).toInt) ((g14 36).toInt) ((g5 35).toInt) ((g14 37).toInt) ((g 35).toInt) xz59 h23 h24 hf_B32_1 (hE_nlt cc36) hr1 (congrArg Int32.toInt e_g5_35))) dX12_plan_109 (fun z60 hz60 => ?_)
                  refine lv_iadd hx hb dX12_plan_110 (jx_nm fun z61 hz61 => ?_)
                  refine lv_istore (lv' := [(4, .int z61), (0, .ref (ad 0)), (1, .int y1), (2, .int x4), (3, .int x33)]) hx hb dX12_plan_111 hl (by decide) rfl (fun ls hl => ?_)
                  refine lv_iload hx hb dX12_plan_113 (lv_at hl 0 rfl) ?_
                  refine lv_aload_n hx hb dX12_plan_115 rfl (lv_at hl 1 rfl) ?_
                  refine hk_get (ci := 15) (C := RX12) (T := TX12) (N := 92) (v := .ref (ad 20)) hx hb hts (fun _ h => List.mem_cons_of_mem _ (wwMc_wsX120 _ h)) hown hw 0 rfl rfl 64 (by decide) (hq _ wM_423) rfl dX12_plan_116 ?_
                  refine lv_iload_n hx hb dX12_plan_119 rfl (lv_at hl 3 rfl) ?_
                  refine jx_iald hx hb hw 20 0 rfl rfl (hE_in (n := 3001) (om1112 ((x4).toInt) ((g14 36).toInt) ((g5 35).toInt) ((g14 37).toInt) ((g 35).toInt) ((x33).toInt) h23 h24 hr1 (congrArg Int32.toInt e_g5_35) hf_B32_1 (hE_nlt cc36))) dX12_plan_120 (fun z62 hz62 => ?_)
                  have B63 : ∀  (a64 : Nat → Nat → Int32) (ls : Array Slot) (H : Heap) (locs : List Loc), (hk_fr [19, 20, 21] a34 a64) → (hk_pl ((x4).toInt) (g 35).toInt (a64 20) (a64 21)) → hk_W D (jT cI cJ) A s H locs (mw cI cJ ad g14 lg a64 bk) → lv_has ls 5 [(0, .ref (ad 0)), (1, .int y1), (2, .int x4), (3, .int x33)] → W p l e { frames := 2, cells := 0, slots := 0, locals := 48 } s m args below meth c H locs 0 0 Q (F0 m 149 ls []) := by
                    intro a64 ls H locs hfr_a64 hw_B63_pl hw hl
                    obtain ⟨z65, hz65⟩ : ∃ z : Int32, x33 + 1 = z := ⟨_, rfl⟩
                    refine lv_iinc (v := z65) (lv' := [(3, .int z65), (0, .ref (ad 0)), (1, .int y1), (2, .int x4)]) hx hb dX12_plan_149 hl (k := 3) rfl hz65 (by decide) rfl (fun ls hl => ?_)
                    have xz65 : (z65).toInt = (x33).toInt + ((1 : Int32)).toInt := (hE_imp (hE_add hz65) (om1113 ((x33).toInt) (((1 : Int32)).toInt) ((g14 36).toInt) ((x4).toInt) ((g5 35).toInt) hf_B32_1 (hE_nlt cc36) h23 (by decide)))
                    refine lv_goto (tgt := 60) hx hb dX12_plan_152 (by decide) ?_
                    exact ih_B32 z65 a64 ls _ _ (om11 ((z65).toInt) (k35 : Int) ((x33).toInt) (((1 : Int32)).toInt) hrk_B32 xz65 (by decide)) (om1114 ((z65).toInt) ((x33).toInt) (((1 : Int32)).toInt) ((g14 36).toInt) ((x4).toInt) ((g5 35).toInt) xz65 (hE_nlt cc36) h23 (by decide)) (om1115 ((z65).toInt) ((x33).toInt) (((1 : Int32)).toInt) xz65 hf_B32_1 (by decide)) (hk_frT hfr_a34 (by decide) hfr_a64) (hk_plC hw_B63_pl (om1116 ((x4).toInt)) rfl rfl rfl) hw (lv_sub hl [1, 2, 3, 0] rfl)
                  refine lv_icmp_gt (tgt := 149) hx hb dX12_plan_121 (by decide) (fun cc66 => ?_) (fun cc66 => ?_)
                  · exact B63 a34 ls _ _ hk_fr0 (hk_plC hw_B32_pl (om1116 ((x4).toInt)) rfl rfl rfl) hw (lv_sub hl [1, 2, 3, 4] rfl)
                  · refine lv_aload_n hx hb dX12_plan_124 rfl (lv_at hl 1 rfl) ?_
                    refine hk_get (ci := 15) (C := RX12) (T := TX12) (N := 92) (v := .ref (ad 20)) hx hb hts (fun _ h => List.mem_cons_of_mem _ (wwMc_wsX120 _ h)) hown hw 0 rfl rfl 64 (by decide) (hq _ wM_423) rfl dX12_plan_125 ?_
                    refine lv_iload_n hx hb dX12_plan_128 rfl (lv_at hl 3 rfl) ?_
                    refine lv_iload hx hb dX12_plan_129 (lv_at hl 0 rfl) ?_
                    refine jx_iast mw (cI := cI) (cJ := cJ) (ad := ad) (g := g14) (lg := lg) (ar := a34) (bk := bk) 19 hx hb hw 20 0 rfl rfl (hE_in (n := 3001) (om1112 ((x4).toInt) ((g14 36).toInt) ((g5 35).toInt) ((g14 37).toInt) ((g 35).toInt) ((x33).toInt) h23 h24 hr1 (congrArg Int32.toInt e_g5_35) hf_B32_1 (hE_nlt cc36))) dX12_plan_131 rfl (fun H locs a67 h_a67 hw => ?_)
                    refine lv_aload_n hx hb dX12_plan_132 rfl (lv_at hl 1 rfl) ?_
                    refine hk_get (ci := 15) (C := RX12) (T := TX12) (N := 92) (v := .ref (ad 21)) hx hb hts (fun _ h => List.mem_cons_of_mem _ (wwMc_wsX120 _ h)) hown hw 0 rfl rfl 65 (by decide) (hq _ wM_181) rfl dX12_plan_133 ?_
                    refine lv_iload_n hx hb dX12_plan_136 rfl (lv_at hl 3 rfl) ?_
                    refine lv_iload_n hx hb dX12_plan_137 rfl (lv_at hl 4 rfl) ?_
                    refine jx_iast mw (cI := cI) (cJ := cJ) (ad := ad) (g := g14) (lg := lg) (ar := a67) (bk := bk) 20 hx hb hw 21 0 rfl rfl (hE_in (n := 3001) (om1112 ((x4).toInt) ((g14 36).toInt) ((g5 35).toInt) ((g14 37).toInt) ((g 35).toInt) ((x33).toInt) h23 h24 hr1 (congrArg Int32.toInt e_g5_35) hf_B32_1 (hE_nlt cc36))) dX12_plan_138 rfl (fun H locs a68 h_a68 hw => ?_)
                    refine lv_aload_n hx hb dX12_plan_139 rfl (lv_at hl 1 rfl) ?_
                    refine hk_get (ci := 15) (C := RX12) (T := TX12) (N := 92) (v := .ref (ad 22)) hx hb hts (fun _ h => List.mem_cons_of_mem _ (wwMc_wsX120 _ h)) hown hw 0 rfl rfl 66 (by decide) (hq _ wM_182) rfl dX12_plan_140 ?_
                    refine lv_iload_n hx hb dX12_plan_143 rfl (lv_at hl 3 rfl) ?_
                    refine lv_aload_n hx hb dX12_plan_144 rfl (lv_at hl 1 rfl) ?_
                    refine hk_get (ci := 15) (C := RX12) (T := TX12) (N := 92) (v := .int (g14 37)) hx hb hts (fun _ h => List.mem_cons_of_mem _ (wwMc_wsX120 _ h)) hown hw 0 rfl rfl 60 (by decide) (hq _ wM_175) rfl dX12_plan_145 ?_
                    refine jx_iast mw (cI := cI) (cJ := cJ) (ad := ad) (g := g14) (lg := lg) (ar := a68) (bk := bk) 21 hx hb hw 22 0 rfl rfl (hE_in (n := 3001) (om1112 ((x4).toInt) ((g14 36).toInt) ((g5 35).toInt) ((g14 37).toInt) ((g 35).toInt) ((x33).toInt) h23 h24 hr1 (congrArg Int32.toInt e_g5_35) hf_B32_1 (hE_nlt cc36))) dX12_plan_148 rfl (fun H locs a69 h_a69 hw => ?_)
                    exact B63 a69 ls _ _ (hk_frA (hk_frA (hk_frA hk_fr0 (by decide) h_a67) (by decide) h_a68) (by decide) h_a69) (hk_plS (i := x4) (x := x33) (y := (g14 37)) hw_B32_pl (((hk_upaN h_a69 20 rfl)).trans ((hk_upaS h_a68).trans (congrArg (fun f => upd f (x4).toNatClampNeg x33) (hk_upaN h_a67 20 rfl)))) ((hk_upaS h_a69).trans (congrArg (fun f => upd f (x4).toNatClampNeg (g14 37)) (((hk_upaN h_a68 21 rfl)).trans (hk_upaN h_a67 21 rfl)))) (om1117 ((x4).toInt) ((g14 36).toInt) ((g14 37).toInt) ((x33).toInt) h24 hf_B32_1 (hE_nlt cc36)) (om1118 ((x33).toInt) ((x4).toInt) ((g 35).toInt) ((g14 37).toInt) ((g5 35).toInt) ((g14 36).toInt) (congrArg Int32.toInt e_g5_35) h23 h24 hf_B32_1 (hE_nlt cc36))) hw (lv_sub hl [1, 2, 3, 4] rfl)
                refine lv_icmp_le (tgt := 92) hx hb dX12_plan_85 (by decide) (fun cc70 => ?_) (fun cc70 => ?_)
                · refine lv_iconst (v := 0) hx hb dX12_plan_92 (by decide) ?_
                  exact B41 0 ls _ _ (om1119 (((0 : Int32)).toInt) (by decide)) hw (lv_sub hl [0, 1, 2, 3] rfl)
                · refine lv_iconst (v := 5) hx hb dX12_plan_88 (by decide) ?_
                  refine lv_goto (tgt := 93) hx hb dX12_plan_89 (by decide) ?_
                  exact B41 5 ls _ _ (om1120 (((5 : Int32)).toInt) (by decide)) hw (lv_sub hl [0, 1, 2, 3] rfl)
              refine lv_icmp_le (tgt := 80) hx hb dX12_plan_73 (by decide) (fun cc71 => ?_) (fun cc71 => ?_)
              · refine lv_iconst (v := 0) hx hb dX12_plan_80 (by decide) ?_
                exact B38 0 ls _ _ (om464 (((0 : Int32)).toInt) (by decide)) hw (lv_sub hl [0, 1, 2, 3] rfl)
              · refine lv_iconst (v := 3) hx hb dX12_plan_76 (by decide) ?_
                refine lv_goto (tgt := 81) hx hb dX12_plan_77 (by decide) ?_
                exact B38 3 ls _ _ (om319 (((3 : Int32)).toInt) (by decide)) hw (lv_sub hl [0, 1, 2, 3] rfl)
        exact B32 (2147483648 - ((2 : Int32)).toInt).toNat 2 a31 ls _ _ (Int.self_le_toNat _) (om1121 (((2 : Int32)).toInt) (by decide)) (om1122 (((2 : Int32)).toInt) (by decide)) hk_fr0 (hk_plS (i := x4) (x := 1) (y := 0) hw_B3_pl (((hk_upaN h_a31 20 rfl)).trans ((hk_upaS h_a30).trans (congrArg (fun f => upd f (x4).toNatClampNeg 1) (hk_upaN h_a29 20 rfl)))) ((hk_upaS h_a31).trans (congrArg (fun f => upd f (x4).toNatClampNeg 0) (((hk_upaN h_a30 21 rfl)).trans (hk_upaN h_a29 21 rfl)))) (om1123 ((x4).toInt) ((y1).toInt) ((g 35).toInt) (hE_nlt cc8) hr0) (om1124 (((1 : Int32)).toInt) ((x4).toInt) ((g 35).toInt) (((0 : Int32)).toInt) ((y1).toInt) hf_B3_0 (by decide))) hw (lv_sub hl [1, 2, 3, 0] rfl)
  exact B3 ((z2).toInt + 2147483649).toNat z2 g a1 ls _ _ (Int.self_le_toNat _) (om1125 ((y1).toInt) ((z2).toInt) ((g 35).toInt) (((1 : Int32)).toInt) hr0 xz2 (by decide)) hk_fr0 hk_fr0 (hk_pl0 (om1126 ((g 35).toInt) ((z2).toInt) (((1 : Int32)).toInt) xz2 (by decide))) hw (lv_sub hl [1, 2, 0] rfl)

set_option maxHeartbeats 4000000 in
set_option maxRecDepth 100000 in
/-- X12_choose2 on (0,) -/
theorem jm_X12_choose2 (l : Launch) (hlt : l.stackTraces = false) (D : va_G) (t3 : Nat × Nat × Nat) (cI cJ : ClassId) (ad : Nat → Nat) (g : Nat → Int32) (lg : Nat → Int64) (ar : Nat → Nat → Int32) (bk : Nat → Int64) (sz : Nat) (y1 : Int32) (hr0 : 0 ≤ (y1).toInt ∧ (y1).toInt < (g 35).toInt) (hr1 : (g 35).toInt ≤ 3000) (hi_g24 : 1 ≤ (g 24).toInt ∧ (g 24).toInt ≤ 3000) (hi_g25 : 1 ≤ (g 25).toInt ∧ (g 25).toInt ≤ 3000) (hi_g26 : 1 ≤ (g 26).toInt ∧ (g 26).toInt ≤ 3000) (hi_g27 : 1 ≤ (g 27).toInt ∧ (g 27).toInt ≤ 3000) (hpl : hk_pl (y1).toInt (g 35).toInt (ar 20) (ar 21)) : JMv l yX12_choose2 (Cond.code yX12_choose2 cX12_choose2 3 none :: wwM) { frames := 2, cells := 0, slots := 0, locals := 46 } t3 D mw cI cJ ad [.ref (ad 0), .int y1] (mw cI cJ ad g lg ar bk) sz 0 0 (fun g' lg' ar' bk' => hk_fr [38, 39, 40] g g' ∧ lg = lg' ∧ ar = ar' ∧ bk = bk' ∧ (1 ≤ (g' 39).toInt ∧ (y1).toInt + (g' 39).toInt ≤ (g 35).toInt ∧ (g' 39).toInt ≤ 3000) ∧ (0 ≤ (g' 38).toInt ∧ (g' 38).toInt ≤ 6) ∧ ((g' 38).toInt = 1 → (2 ≤ (g' 39).toInt ∧ 1 ≤ (g' 40).toInt ∧ (g' 40).toInt ≤ (y1).toInt)) ∧ (((g' 38).toInt = 0 ∨ (g' 38).toInt = 6) → (g' 39).toInt = 1) ∧ ((g' 38).toInt = 6 → (g 24).toInt ≤ (y1).toInt) ∧ ((g' 38).toInt = 2 → (2 ≤ (g' 39).toInt ∧ (g 24).toInt ≤ (y1).toInt)) ∧ ((g' 38).toInt = 3 → (2 ≤ (g' 39).toInt ∧ (g 25).toInt ≤ (y1).toInt)) ∧ ((g' 38).toInt = 4 → (2 ≤ (g' 39).toInt ∧ (g 26).toInt ≤ (y1).toInt)) ∧ ((g' 38).toInt = 5 → (2 ≤ (g' 39).toInt ∧ (g 27).toInt ≤ (y1).toInt))) (fun g' lg' ar' bk' => False) := by
  refine jx_metv (cc := cX12_choose2) (maxL := 3) (ret := none) rfl (by decide) rfl (Nat.le_of_ble_eq_true rfl) ?_
  intro p e s m args below meth c ls Q A hx hb hml hown hts hA hZ hw hl hQ kr kt
  have hq : ∀ w ∈ wwM, w.before args s = true := fun w h => hts w (List.mem_cons_of_mem _ h)
  have hl : lv_has ls 3 [(0, .ref (ad 0)), (1, .int y1)] := hl
  refine lv_aload_n hx hb dX12_choose2_0 rfl (lv_at hl 0 rfl) ?_
  refine lv_aload_n hx hb dX12_choose2_1 rfl (lv_at hl 0 rfl) ?_
  refine hk_get (ci := 15) (C := RX12) (T := TX12) (N := 92) (v := .ref (ad 21)) hx hb hts (fun _ h => List.mem_cons_of_mem _ (wwMc_wsX120 _ h)) hown hw 0 rfl rfl 65 (by decide) (hq _ wM_181) rfl dX12_choose2_2 ?_
  refine lv_iload_n hx hb dX12_choose2_5 rfl (lv_at hl 1 rfl) ?_
  refine jx_iald hx hb hw 21 0 rfl rfl (hE_in (n := 3001) (om1127 ((y1).toInt) ((g 35).toInt) hr0 hr1)) dX12_choose2_6 (fun z1 hz1 => ?_)
  refine jx_putg mw (cI := cI) (cJ := cJ) (ad := ad) (g := g) (lg := lg) (ar := ar) (bk := bk) (x := z1) 39 (ci := 15) (C := RX12) (T := TX12) (N := 92) (ty := .int) hx hb hts (fun _ h => List.mem_cons_of_mem _ (wwMc_wsX120 _ h)) tyX12 tyX12_ok nmX12 hown hw 0 rfl rfl 62 (by decide) (hq _ wM_173) rfl (by decide +kernel) rfl rfl (Nat.le_of_ble_eq_true rfl) dX12_choose2_7 rfl (fun H locs g2 h_g2 hw => ?_)
  refine lv_aload_n hx hb dX12_choose2_10 rfl (lv_at hl 0 rfl) ?_
  refine lv_aload_n hx hb dX12_choose2_11 rfl (lv_at hl 0 rfl) ?_
  refine hk_get (ci := 15) (C := RX12) (T := TX12) (N := 92) (v := .ref (ad 22)) hx hb hts (fun _ h => List.mem_cons_of_mem _ (wwMc_wsX120 _ h)) hown hw 0 rfl rfl 66 (by decide) (hq _ wM_182) rfl dX12_choose2_12 ?_
  refine lv_iload_n hx hb dX12_choose2_15 rfl (lv_at hl 1 rfl) ?_
  refine jx_iald hx hb hw 22 0 rfl rfl (hE_in (n := 3001) (om1127 ((y1).toInt) ((g 35).toInt) hr0 hr1)) dX12_choose2_16 (fun z3 hz3 => ?_)
  refine jx_putg mw (cI := cI) (cJ := cJ) (ad := ad) (g := g2) (lg := lg) (ar := ar) (bk := bk) (x := z3) 40 (ci := 15) (C := RX12) (T := TX12) (N := 92) (ty := .int) hx hb hts (fun _ h => List.mem_cons_of_mem _ (wwMc_wsX120 _ h)) tyX12 tyX12_ok nmX12 hown hw 0 rfl rfl 63 (by decide) (hq _ wM_174) rfl (by decide +kernel) rfl rfl (Nat.le_of_ble_eq_true rfl) dX12_choose2_17 rfl (fun H locs g4 h_g4 hw => ?_)
  refine lv_aload_n hx hb dX12_choose2_20 rfl (lv_at hl 0 rfl) ?_
  have e_g4_39 : g4 39 = z1 := ((hk_upgN h_g4 39 rfl)).trans (hk_upgS h_g2)
  refine hk_get (ci := 15) (C := RX12) (T := TX12) (N := 92) (v := .int z1) hx hb hts (fun _ h => List.mem_cons_of_mem _ (wwMc_wsX120 _ h)) hown hw 0 rfl rfl 62 (by decide) (hq _ wM_173) (congrArg (fun z => some (Value.int z)) e_g4_39) dX12_choose2_21 ?_
  refine lv_iconst (v := 1) hx hb dX12_choose2_24 (by decide) ?_
  refine lv_icmp_ne (tgt := 84) hx hb dX12_choose2_25 (by decide) (fun cc5 => ?_) (fun cc5 => ?_)
  · refine lv_aload_n hx hb dX12_choose2_84 rfl (lv_at hl 0 rfl) ?_
    refine lv_iconst (v := 1) hx hb dX12_choose2_85 (by decide) ?_
    refine jx_putg mw (cI := cI) (cJ := cJ) (ad := ad) (g := g4) (lg := lg) (ar := ar) (bk := bk) (x := 1) 38 (ci := 15) (C := RX12) (T := TX12) (N := 92) (ty := .int) hx hb hts (fun _ h => List.mem_cons_of_mem _ (wwMc_wsX120 _ h)) tyX12 tyX12_ok nmX12 hown hw 0 rfl rfl 61 (by decide) (hq _ wM_172) rfl (by decide +kernel) rfl rfl (Nat.le_of_ble_eq_true rfl) dX12_choose2_86 rfl (fun H locs g6 h_g6 hw => ?_)
    refine lv_iconst (v := 3) hx hb dX12_choose2_89 (by decide) ?_
    refine lv_istore_n (lv' := [(2, .int 3), (0, .ref (ad 0)), (1, .int y1)]) hx hb dX12_choose2_90 rfl hl (by decide) rfl (fun ls hl => ?_)
    have e_g6_40 : g6 40 = z3 := ((hk_upgN h_g6 40 rfl)).trans (hk_upgS h_g4)
    have B7 : ∀ (k10 : Nat) (x8 : Int32) (g9 : Nat → Int32) (ls : Array Slot) (H : Heap) (locs : List Loc), ((x8).toInt + 2147483649 ≤ (k10 : Int)) → (0 ≤ (g9 38).toInt ∧ (g9 38).toInt ≤ 5) → ((g9 38).toInt = 1 ∨ 2 ≤ (g9 38).toInt) → ((g9 38).toInt = 2 → (g 24).toInt = (z3).toInt) → ((g9 38).toInt = 3 → (g 25).toInt = (z3).toInt) → ((g9 38).toInt = 4 → (g 26).toInt = (z3).toInt) → ((g9 38).toInt = 5 → (g 27).toInt = (z3).toInt) → ((x8).toInt ≤ 3) → (hk_fr [38] g6 g9) → hk_W D (jT cI cJ) A s H locs (mw cI cJ ad g9 lg ar bk) → lv_has ls 3 [(0, .ref (ad 0)), (2, .int x8)] → W p l e { frames := 2, cells := 0, slots := 0, locals := 46 } s m args below meth c H locs 0 0 Q (F0 m 91 ls []) := by
      intro k10
      induction k10 with
      | zero =>
        intro x8 g9 ls H locs hrk_B7 hf_B7_0 hf_B7_1 hf_B7_2 hf_B7_3 hf_B7_4 hf_B7_5 hf_B7_6 hfr_g9 hw hl
        exact False.elim (hk_no0 (0 * (x8).toInt) (om81 ((x8).toInt) hrk_B7 (hE_rng (x8))) (by simp))
      | succ k10 ih_B7 =>
        intro x8 g9 ls H locs hrk_B7 hf_B7_0 hf_B7_1 hf_B7_2 hf_B7_3 hf_B7_4 hf_B7_5 hf_B7_6 hfr_g9 hw hl
        have hrk_B7 := hk_rk hrk_B7
        refine lv_iload_n hx hb dX12_choose2_91 rfl (lv_at hl 1 rfl) ?_
        refine lv_if_lt (tgt := 127) hx hb dX12_choose2_92 (by decide) (fun cc11 => ?_) (fun cc11 => ?_)
        · have e_g9_39 : g9 39 = z1 := ((hfr_g9 39 rfl)).trans (((hk_upgN h_g6 39 rfl)).trans e_g4_39)
          have e_g9_40 : g9 40 = z3 := ((hfr_g9 40 rfl)).trans (((hk_upgN h_g6 40 rfl)).trans (hk_upgS h_g4))
          exact kr g9 lg ar bk _ _ _ _ ⟨(hk_frT (hk_frG (hk_frG (hk_frG hk_fr0 (by decide) h_g2) (by decide) h_g4) (by decide) h_g6) (by decide) hfr_g9), rfl, rfl, rfl, (om1129 ((g9 39).toInt) ((y1).toInt) ((g 35).toInt) ((z1).toInt) ((z3).toInt) (((1 : Int32)).toInt) hr1 (hk_plV hpl hz1 hz3 (om1128 ((y1).toInt) ((g 35).toInt) hr0)) (congrArg Int32.toInt e_g9_39) (hE_ne cc5) (by decide)), (om1130 ((g9 38).toInt) hf_B7_0 hf_B7_1), (om1131 ((g9 38).toInt) ((g9 39).toInt) ((g9 40).toInt) ((y1).toInt) ((z1).toInt) ((g 35).toInt) ((z3).toInt) (((1 : Int32)).toInt) (hk_plV hpl hz1 hz3 (om1128 ((y1).toInt) ((g 35).toInt) hr0)) (congrArg Int32.toInt e_g9_39) (congrArg Int32.toInt e_g9_40) (hE_ne cc5) (by decide)), (om1132 ((g9 38).toInt) ((g9 39).toInt) hf_B7_0 hf_B7_1), (om1133 ((g9 38).toInt) ((g 24).toInt) ((y1).toInt) hf_B7_0), (om1134 ((g9 38).toInt) ((g9 39).toInt) ((g 24).toInt) ((y1).toInt) ((z1).toInt) ((g 35).toInt) ((z3).toInt) (((1 : Int32)).toInt) (hk_plV hpl hz1 hz3 (om1128 ((y1).toInt) ((g 35).toInt) hr0)) hf_B7_2 (congrArg Int32.toInt e_g9_39) (hE_ne cc5) (by decide)), (om1135 ((g9 38).toInt) ((g9 39).toInt) ((g 25).toInt) ((y1).toInt) ((z1).toInt) ((g 35).toInt) ((z3).toInt) (((1 : Int32)).toInt) (hk_plV hpl hz1 hz3 (om1128 ((y1).toInt) ((g 35).toInt) hr0)) hf_B7_3 (congrArg Int32.toInt e_g9_39) (hE_ne cc5) (by decide)), (om1136 ((g9 38).toInt) ((g9 39).toInt) ((g 26).toInt) ((y1).toInt) ((z1).toInt) ((g 35).toInt) ((z3).toInt) (((1 : Int32)).toInt) (hk_plV hpl hz1 hz3 (om1128 ((y1).toInt) ((g 35).toInt) hr0)) hf_B7_4 (congrArg Int32.toInt e_g9_39) (hE_ne cc5) (by decide)), (om1137 ((g9 38).toInt) ((g9 39).toInt) ((g 27).toInt) ((y1).toInt) ((z1).toInt) ((g 35).toInt) ((z3).toInt) (((1 : Int32)).toInt) (hk_plV hpl hz1 hz3 (om1128 ((y1).toInt) ((g 35).toInt) hr0)) hf_B7_5 (congrArg Int32.toInt e_g9_39) (hE_ne cc5) (by decide))⟩ hw dX12_choose2_127
        · refine lv_aload_n hx hb dX12_choose2_95 rfl (lv_at hl 0 rfl) ?_
          refine lv_aload_n hx hb dX12_choose2_96 rfl (lv_at hl 0 rfl) ?_
          refine lv_iload_n hx hb dX12_choose2_97 rfl (lv_at hl 1 rfl) ?_
          refine jx_Vi (As := [.int x8]) (rest := [.ref (ad 0)]) ⟨hx, hb, hml, hown, hts⟩ hZ hw hA (jm_X12_backOf l hlt D t3 cI cJ ad g9 lg ar bk _ x8 (om1138 ((x8).toInt) (((0 : Int32)).toInt) hf_B7_6 (hE_nlt cc11) (by decide))) (cwV 1 hts (jx_gV wwM_good wM_32 wM_33 wM_34 wM_8 wM_35) rfl rfl rfl (by decide +kernel) ⟨Nat.le_of_ble_eq_true rfl, Nat.le_of_ble_eq_true rfl⟩) 0 (ci := 15) (T := TX12) (N := 92) rfl rfl rfl hl.1 rfl (Nat.le_of_ble_eq_true rfl) dX12_choose2_98 ⟨Nat.le_of_ble_eq_true rfl, Nat.le_of_ble_eq_true rfl⟩ (fun _ _ _ _ _ _ _ _ hp _ _ _ _ => hp.elim) (fun r16 g17 l18 a19 b20 H locs hp21 hw => ?_)
          obtain ⟨rfl, rfl, rfl, rfl, h26⟩ := hp21
          have e_g9_24 : g9 24 = (g 24) := ((hfr_g9 24 rfl)).trans (((hk_upgN h_g6 24 rfl)).trans (((hk_upgN h_g4 24 rfl)).trans (hk_upgN h_g2 24 rfl)))
          have e_g9_25 : g9 25 = (g 25) := ((hfr_g9 25 rfl)).trans (((hk_upgN h_g6 25 rfl)).trans (((hk_upgN h_g4 25 rfl)).trans (hk_upgN h_g2 25 rfl)))
          have e_g9_26 : g9 26 = (g 26) := ((hfr_g9 26 rfl)).trans (((hk_upgN h_g6 26 rfl)).trans (((hk_upgN h_g4 26 rfl)).trans (hk_upgN h_g2 26 rfl)))
          have e_g9_27 : g9 27 = (g 27) := ((hfr_g9 27 rfl)).trans (((hk_upgN h_g6 27 rfl)).trans (((hk_upgN h_g4 27 rfl)).trans (hk_upgN h_g2 27 rfl)))
          refine lv_aload_n hx hb dX12_choose2_101 rfl (lv_at hl 0 rfl) ?_
          have e_g9_40 : g9 40 = z3 := ((hfr_g9 40 rfl)).trans (((hk_upgN h_g6 40 rfl)).trans (hk_upgS h_g4))
          refine hk_get (ci := 15) (C := RX12) (T := TX12) (N := 92) (v := .int z3) hx hb hts (fun _ h => List.mem_cons_of_mem _ (wwMc_wsX120 _ h)) hown hw 0 rfl rfl 63 (by decide) (hq _ wM_174) (congrArg (fun z => some (Value.int z)) e_g9_40) dX12_choose2_102 ?_
          have B27 : ∀  (x28 : Int32) (ls : Array Slot) (H : Heap) (locs : List Loc), (1 ≤ (x28).toInt ∧ (x28).toInt ≤ 5) → ((x28).toInt = 2 → (g 24).toInt = (z3).toInt) → ((x28).toInt = 3 → (g 25).toInt = (z3).toInt) → ((x28).toInt = 4 → (g 26).toInt = (z3).toInt) → ((x28).toInt = 5 → (g 27).toInt = (z3).toInt) → hk_W D (jT cI cJ) A s H locs (mw cI cJ ad g9 lg ar bk) → lv_has ls 3 [(0, .ref (ad 0)), (2, .int x8)] → W p l e { frames := 2, cells := 0, slots := 0, locals := 46 } s m args below meth c H locs 0 0 Q (F0 m 118 ls [.int x28, .ref (ad 0)]) := by
            intro x28 ls H locs hf_B27_0 hf_B27_1 hf_B27_2 hf_B27_3 hf_B27_4 hw hl
            refine jx_putg mw (cI := cI) (cJ := cJ) (ad := ad) (g := g9) (lg := lg) (ar := ar) (bk := bk) (x := x28) 38 (ci := 15) (C := RX12) (T := TX12) (N := 92) (ty := .int) hx hb hts (fun _ h => List.mem_cons_of_mem _ (wwMc_wsX120 _ h)) tyX12 tyX12_ok nmX12 hown hw 0 rfl rfl 61 (by decide) (hq _ wM_172) rfl (by decide +kernel) rfl rfl (Nat.le_of_ble_eq_true rfl) dX12_choose2_118 rfl (fun H locs g29 h_g29 hw => ?_)
            obtain ⟨z30, hz30⟩ : ∃ z : Int32, x8 + (-1) = z := ⟨_, rfl⟩
            refine lv_iinc (v := z30) (lv' := [(2, .int z30), (0, .ref (ad 0))]) hx hb dX12_choose2_121 hl (k := 1) rfl hz30 (by decide) rfl (fun ls hl => ?_)
            have xz30 : (z30).toInt = (x8).toInt + (((-1) : Int32)).toInt := (hE_imp (hE_add hz30) (om1139 ((x8).toInt) ((((-1) : Int32)).toInt) (((0 : Int32)).toInt) hf_B7_6 (hE_nlt cc11) (by decide) (by decide)))
            refine lv_goto (tgt := 91) hx hb dX12_choose2_124 (by decide) ?_
            have e_g29_38 : g29 38 = x28 := (hk_upgS h_g29)
            exact ih_B7 z30 g29 ls _ _ (om113 ((z30).toInt) (k10 : Int) ((x8).toInt) ((((-1) : Int32)).toInt) hrk_B7 xz30 (by decide)) (om1140 ((g29 38).toInt) ((x28).toInt) (congrArg Int32.toInt e_g29_38) hf_B27_0) (om1141 ((g29 38).toInt) ((x28).toInt) (congrArg Int32.toInt e_g29_38) hf_B27_0) (om1142 ((g29 38).toInt) ((g 24).toInt) ((z3).toInt) ((x28).toInt) hf_B27_1 (congrArg Int32.toInt e_g29_38)) (om1143 ((g29 38).toInt) ((g 25).toInt) ((z3).toInt) ((x28).toInt) hf_B27_2 (congrArg Int32.toInt e_g29_38)) (om1144 ((g29 38).toInt) ((g 26).toInt) ((z3).toInt) ((x28).toInt) hf_B27_3 (congrArg Int32.toInt e_g29_38)) (om1145 ((g29 38).toInt) ((g 27).toInt) ((z3).toInt) ((x28).toInt) hf_B27_4 (congrArg Int32.toInt e_g29_38) hf_B27_0) (om1146 ((z30).toInt) ((x8).toInt) ((((-1) : Int32)).toInt) xz30 hf_B7_6 (by decide)) (hk_frG hfr_g9 (by decide) h_g29) hw (lv_sub hl [1, 0] rfl)
          refine lv_icmp_ne (tgt := 114) hx hb dX12_choose2_105 (by decide) (fun cc31 => ?_) (fun cc31 => ?_)
          · refine lv_aload_n hx hb dX12_choose2_114 rfl (lv_at hl 0 rfl) ?_
            refine hk_get (ci := 15) (C := RX12) (T := TX12) (N := 92) (v := .int (g9 38)) hx hb hts (fun _ h => List.mem_cons_of_mem _ (wwMc_wsX120 _ h)) hown hw 0 rfl rfl 61 (by decide) (hq _ wM_172) rfl dX12_choose2_115 ?_
            exact B27 (g9 38) ls _ _ (om1147 ((g9 38).toInt) hf_B7_0 hf_B7_1) (om1148 ((g9 38).toInt) ((g 24).toInt) ((z3).toInt) hf_B7_2) (om1149 ((g9 38).toInt) ((g 25).toInt) ((z3).toInt) hf_B7_3) (om1150 ((g9 38).toInt) ((g 26).toInt) ((z3).toInt) hf_B7_4) (om1151 ((g9 38).toInt) ((g 27).toInt) ((z3).toInt) hf_B7_0 hf_B7_5) hw (lv_sub hl [0, 1] rfl)
          · refine lv_iconst (v := 2) hx hb dX12_choose2_108 (by decide) ?_
            refine lv_iload_n hx hb dX12_choose2_109 rfl (lv_at hl 1 rfl) ?_
            refine lv_iadd hx hb dX12_choose2_110 (jx_nm fun z32 hz32 => ?_)
            have xz32 : (z32).toInt = ((2 : Int32)).toInt + (x8).toInt := (hE_imp (hE_add hz32) (om1152 (((2 : Int32)).toInt) ((x8).toInt) (((0 : Int32)).toInt) hf_B7_6 (hE_nlt cc11) (by decide) (by decide)))
            refine lv_goto (tgt := 118) hx hb dX12_choose2_111 (by decide) ?_
            exact B27 z32 ls _ _ (om1153 ((z32).toInt) (((2 : Int32)).toInt) ((x8).toInt) (((0 : Int32)).toInt) xz32 hf_B7_6 (hE_nlt cc11) (by decide) (by decide)) (om1154 ((z32).toInt) ((g 24).toInt) ((z3).toInt) ((g9 24).toInt) ((r16).toInt) (((2 : Int32)).toInt) ((x8).toInt) (((0 : Int32)).toInt) ((g9 25).toInt) ((g9 26).toInt) ((g9 27).toInt) (congrArg Int32.toInt e_g9_24) (hE_eq cc31) xz32 (hE_nlt cc11) h26 (by decide) (by decide)) (om1155 ((z32).toInt) ((g 25).toInt) ((z3).toInt) ((g9 25).toInt) ((r16).toInt) (((2 : Int32)).toInt) ((x8).toInt) ((g9 24).toInt) ((g9 26).toInt) ((g9 27).toInt) (congrArg Int32.toInt e_g9_25) (hE_eq cc31) xz32 h26 (by decide)) (om1156 ((z32).toInt) ((g 26).toInt) ((z3).toInt) ((g9 26).toInt) ((r16).toInt) (((2 : Int32)).toInt) ((x8).toInt) ((g9 24).toInt) ((g9 25).toInt) ((g9 27).toInt) (congrArg Int32.toInt e_g9_26) (hE_eq cc31) xz32 h26 (by decide)) (om1157 ((z32).toInt) ((g 27).toInt) ((z3).toInt) ((g9 27).toInt) ((r16).toInt) (((2 : Int32)).toInt) ((x8).toInt) ((g9 24).toInt) ((g9 25).toInt) ((g9 26).toInt) (congrArg Int32.toInt e_g9_27) (hE_eq cc31) xz32 hf_B7_6 h26 (by decide)) hw (lv_sub hl [0, 1] rfl)
    have e_g6_38 : g6 38 = (1 : Int32) := (hk_upgS h_g6)
    exact B7 (((3 : Int32)).toInt + 2147483649).toNat 3 g6 ls _ _ (Int.self_le_toNat _) (om1158 ((g6 38).toInt) (((1 : Int32)).toInt) (congrArg Int32.toInt e_g6_38) (by decide)) (om1159 ((g6 38).toInt) (((1 : Int32)).toInt) (congrArg Int32.toInt e_g6_38) (by decide)) (om1160 ((g6 38).toInt) ((g 24).toInt) ((z3).toInt) (((1 : Int32)).toInt) (congrArg Int32.toInt e_g6_38) (by decide)) (om1161 ((g6 38).toInt) ((g 25).toInt) ((z3).toInt) (((1 : Int32)).toInt) (congrArg Int32.toInt e_g6_38) (by decide)) (om1162 ((g6 38).toInt) ((g 26).toInt) ((z3).toInt) (((1 : Int32)).toInt) (congrArg Int32.toInt e_g6_38) (by decide)) (om1163 ((g6 38).toInt) ((g 27).toInt) ((z3).toInt) (((1 : Int32)).toInt) (congrArg Int32.toInt e_g6_38) (by decide)) (om1164 (((3 : Int32)).toInt) (by decide)) hk_fr0 hw (lv_sub hl [1, 0] rfl)
  · refine lv_aload_n hx hb dX12_choose2_28 rfl (lv_at hl 0 rfl) ?_
    refine lv_iconst (v := 0) hx hb dX12_choose2_29 (by decide) ?_
    refine lv_iload_n hx hb dX12_choose2_30 rfl (lv_at hl 1 rfl) ?_
    have e_g4_35 : g4 35 = (g 35) := ((hk_upgN h_g4 35 rfl)).trans (hk_upgN h_g2 35 rfl)
    have e_g4_24 : g4 24 = (g 24) := ((hk_upgN h_g4 24 rfl)).trans (hk_upgN h_g2 24 rfl)
    have e_g4_25 : g4 25 = (g 25) := ((hk_upgN h_g4 25 rfl)).trans (hk_upgN h_g2 25 rfl)
    have e_g4_26 : g4 26 = (g 26) := ((hk_upgN h_g4 26 rfl)).trans (hk_upgN h_g2 26 rfl)
    have e_g4_27 : g4 27 = (g 27) := ((hk_upgN h_g4 27 rfl)).trans (hk_upgN h_g2 27 rfl)
    refine jx_Vi (As := [.int 0, .int y1]) (rest := []) ⟨hx, hb, hml, hown, hts⟩ hZ hw hA (jm_X12_again l hlt D t3 cI cJ ad g4 lg ar bk _ 0 y1 (om464 (((0 : Int32)).toInt) (by decide)) (om1015 ((y1).toInt) ((g4 35).toInt) ((g 35).toInt) hr0 (congrArg Int32.toInt e_g4_35)) (om990 ((g4 35).toInt) ((g 35).toInt) (congrArg Int32.toInt e_g4_35) hr1) (om162 ((g4 24).toInt) ((g 24).toInt) (congrArg Int32.toInt e_g4_24) hi_g24) (om162 ((g4 25).toInt) ((g 25).toInt) (congrArg Int32.toInt e_g4_25) hi_g25) (om162 ((g4 26).toInt) ((g 26).toInt) (congrArg Int32.toInt e_g4_26) hi_g26) (om162 ((g4 27).toInt) ((g 27).toInt) (congrArg Int32.toInt e_g4_27) hi_g27)) (cwV 2 hts (jx_gV wwM_good wM_167 wM_168 wM_169 wM_8 wM_170) rfl rfl rfl (by decide +kernel) ⟨Nat.le_of_ble_eq_true rfl, Nat.le_of_ble_eq_true rfl⟩) 0 (ci := 15) (T := TX12) (N := 92) rfl rfl rfl hl.1 rfl (Nat.le_of_ble_eq_true rfl) dX12_choose2_31 ⟨Nat.le_of_ble_eq_true rfl, Nat.le_of_ble_eq_true rfl⟩ (fun _ _ _ _ _ _ _ _ hp _ _ _ _ => hp.elim) (fun r37 g38 l39 a40 b41 H locs hp42 hw => ?_)
    obtain ⟨rfl, rfl, rfl, rfl, h47, h48, h49⟩ := hp42
    have e_g4_35 : g4 35 = (g 35) := ((hk_upgN h_g4 35 rfl)).trans (hk_upgN h_g2 35 rfl)
    have e_g4_24 : g4 24 = (g 24) := ((hk_upgN h_g4 24 rfl)).trans (hk_upgN h_g2 24 rfl)
    have e_g4_25 : g4 25 = (g 25) := ((hk_upgN h_g4 25 rfl)).trans (hk_upgN h_g2 25 rfl)
    have e_g4_26 : g4 26 = (g 26) := ((hk_upgN h_g4 26 rfl)).trans (hk_upgN h_g2 26 rfl)
    have e_g4_27 : g4 27 = (g 27) := ((hk_upgN h_g4 27 rfl)).trans (hk_upgN h_g2 27 rfl)
    refine lv_iconst (v := 1) hx hb dX12_choose2_34 (by decide) ?_
    have B50 : ∀  (ls : Array Slot) (H : Heap) (locs : List Loc), hk_W D (jT cI cJ) A s H locs (mw cI cJ ad g4 lg ar bk) → lv_has ls 3 [(0, .ref (ad 0))] → W p l e { frames := 2, cells := 0, slots := 0, locals := 46 } s m args below meth c H locs 0 0 Q (F0 m 51 ls []) := by
      intro ls H locs hw hl
      refine lv_iconst (v := 0) hx hb dX12_choose2_51 (by decide) ?_
      refine lv_istore_n (lv' := [(2, .int 0), (0, .ref (ad 0))]) hx hb dX12_choose2_52 rfl hl (by decide) rfl (fun ls hl => ?_)
      refine lv_aload_n hx hb dX12_choose2_53 rfl (lv_at hl 1 rfl) ?_
      refine lv_iload_n hx hb dX12_choose2_54 rfl (lv_at hl 0 rfl) ?_
      refine lv_if_eq (tgt := 63) hx hb dX12_choose2_55 (by decide) (fun _ => ?_) (fun cc51 => absurd (by decide) cc51)
      refine lv_iconst (v := 0) hx hb dX12_choose2_63 (by decide) ?_
      refine jx_putg mw (cI := cI) (cJ := cJ) (ad := ad) (g := g4) (lg := lg) (ar := ar) (bk := bk) (x := 0) 38 (ci := 15) (C := RX12) (T := TX12) (N := 92) (ty := .int) hx hb hts (fun _ h => List.mem_cons_of_mem _ (wwMc_wsX120 _ h)) tyX12 tyX12_ok nmX12 hown hw 0 rfl rfl 61 (by decide) (hq _ wM_172) rfl (by decide +kernel) rfl rfl (Nat.le_of_ble_eq_true rfl) dX12_choose2_64 rfl (fun H locs g52 h_g52 hw => ?_)
      refine lv_aload_n hx hb dX12_choose2_67 rfl (lv_at hl 1 rfl) ?_
      refine lv_iload_n hx hb dX12_choose2_68 rfl (lv_at hl 0 rfl) ?_
      refine lv_if_eq (tgt := 79) hx hb dX12_choose2_69 (by decide) (fun _ => ?_) (fun cc53 => absurd (by decide) cc53)
      refine lv_iconst (v := 0) hx hb dX12_choose2_79 (by decide) ?_
      refine jx_putg mw (cI := cI) (cJ := cJ) (ad := ad) (g := g52) (lg := lg) (ar := ar) (bk := bk) (x := 0) 40 (ci := 15) (C := RX12) (T := TX12) (N := 92) (ty := .int) hx hb hts (fun _ h => List.mem_cons_of_mem _ (wwMc_wsX120 _ h)) tyX12 tyX12_ok nmX12 hown hw 0 rfl rfl 63 (by decide) (hq _ wM_174) rfl (by decide +kernel) rfl rfl (Nat.le_of_ble_eq_true rfl) dX12_choose2_80 rfl (fun H locs g54 h_g54 hw => ?_)
      have e_g54_39 : g54 39 = z1 := ((hk_upgN h_g54 39 rfl)).trans (((hk_upgN h_g52 39 rfl)).trans e_g4_39)
      have e_g54_38 : g54 38 = (0 : Int32) := ((hk_upgN h_g54 38 rfl)).trans (hk_upgS h_g52)
      have e_g54_40 : g54 40 = (0 : Int32) := (hk_upgS h_g54)
      exact kr g54 lg ar bk _ _ _ _ ⟨(hk_frG (hk_frG (hk_frG (hk_frG hk_fr0 (by decide) h_g2) (by decide) h_g4) (by decide) h_g52) (by decide) h_g54), rfl, rfl, rfl, (om1165 ((g54 39).toInt) ((y1).toInt) ((g 35).toInt) ((z1).toInt) ((z3).toInt) (((1 : Int32)).toInt) (hk_plV hpl hz1 hz3 (om1128 ((y1).toInt) ((g 35).toInt) hr0)) (congrArg Int32.toInt e_g54_39) (hE_eq cc5) (by decide)), (om1027 ((g54 38).toInt) (((0 : Int32)).toInt) (congrArg Int32.toInt e_g54_38) (by decide)), (om1028 ((g54 38).toInt) ((g54 39).toInt) ((g54 40).toInt) ((y1).toInt) (((0 : Int32)).toInt) (congrArg Int32.toInt e_g54_38) (by decide)), (om1166 ((g54 38).toInt) ((g54 39).toInt) ((z1).toInt) ((y1).toInt) ((g 35).toInt) ((z3).toInt) (((1 : Int32)).toInt) (congrArg Int32.toInt e_g54_39) (hk_plV hpl hz1 hz3 (om1128 ((y1).toInt) ((g 35).toInt) hr0)) (hE_eq cc5) (by decide)), (om1030 ((g54 38).toInt) ((g 24).toInt) ((y1).toInt) (((0 : Int32)).toInt) (congrArg Int32.toInt e_g54_38) (by decide)), (om1031 ((g54 38).toInt) ((g54 39).toInt) ((g 24).toInt) ((y1).toInt) (((0 : Int32)).toInt) (congrArg Int32.toInt e_g54_38) (by decide)), (om1032 ((g54 38).toInt) ((g54 39).toInt) ((g 25).toInt) ((y1).toInt) (((0 : Int32)).toInt) (congrArg Int32.toInt e_g54_38) (by decide)), (om1033 ((g54 38).toInt) ((g54 39).toInt) ((g 26).toInt) ((y1).toInt) (((0 : Int32)).toInt) (congrArg Int32.toInt e_g54_38) (by decide)), (om1034 ((g54 38).toInt) ((g54 39).toInt) ((g 27).toInt) ((y1).toInt) (((0 : Int32)).toInt) (congrArg Int32.toInt e_g54_38) (by decide))⟩ hw dX12_choose2_83
    refine lv_icmp_lt (tgt := 51) hx hb dX12_choose2_35 (by decide) (fun cc55 => ?_) (fun cc55 => ?_)
    · exact B50 ls _ _ hw (lv_sub hl [0] rfl)
    · refine lv_aload_n hx hb dX12_choose2_38 rfl (lv_at hl 0 rfl) ?_
      have e_g4_23 : g4 23 = (g 23) := ((hk_upgN h_g4 23 rfl)).trans (hk_upgN h_g2 23 rfl)
      refine hk_get (ci := 15) (C := RX12) (T := TX12) (N := 92) (v := .int (g 23)) hx hb hts (fun _ h => List.mem_cons_of_mem _ (wwMc_wsX120 _ h)) hown hw 0 rfl rfl 43 (by decide) (hq _ wM_31) (congrArg (fun z => some (Value.int z)) e_g4_23) dX12_choose2_39 ?_
      refine lv_bipush (v := 7) hx hb dX12_choose2_42 (by decide) ?_
      refine lv_icmp_lt (tgt := 51) hx hb dX12_choose2_44 (by decide) (fun cc56 => ?_) (fun cc56 => ?_)
      · exact B50 ls _ _ hw (lv_sub hl [0] rfl)
      · refine lv_iconst (v := 1) hx hb dX12_choose2_47 (by decide) ?_
        refine lv_goto (tgt := 52) hx hb dX12_choose2_48 (by decide) ?_
        refine lv_istore_n (lv' := [(2, .int 1), (0, .ref (ad 0)), (1, .int y1)]) hx hb dX12_choose2_52 rfl hl (by decide) rfl (fun ls hl => ?_)
        refine lv_aload_n hx hb dX12_choose2_53 rfl (lv_at hl 1 rfl) ?_
        refine lv_iload_n hx hb dX12_choose2_54 rfl (lv_at hl 0 rfl) ?_
        refine lv_if_eq (tgt := 63) hx hb dX12_choose2_55 (by decide) (fun cc57 => absurd cc57 (by decide)) (fun _ => ?_)
        refine lv_bipush (v := 6) hx hb dX12_choose2_58 (by decide) ?_
        refine lv_goto (tgt := 64) hx hb dX12_choose2_60 (by decide) ?_
        refine jx_putg mw (cI := cI) (cJ := cJ) (ad := ad) (g := g4) (lg := lg) (ar := ar) (bk := bk) (x := 6) 38 (ci := 15) (C := RX12) (T := TX12) (N := 92) (ty := .int) hx hb hts (fun _ h => List.mem_cons_of_mem _ (wwMc_wsX120 _ h)) tyX12 tyX12_ok nmX12 hown hw 0 rfl rfl 61 (by decide) (hq _ wM_172) rfl (by decide +kernel) rfl rfl (Nat.le_of_ble_eq_true rfl) dX12_choose2_64 rfl (fun H locs g58 h_g58 hw => ?_)
        refine lv_aload_n hx hb dX12_choose2_67 rfl (lv_at hl 1 rfl) ?_
        refine lv_iload_n hx hb dX12_choose2_68 rfl (lv_at hl 0 rfl) ?_
        refine lv_if_eq (tgt := 79) hx hb dX12_choose2_69 (by decide) (fun cc59 => absurd cc59 (by decide)) (fun _ => ?_)
        refine lv_aload_n hx hb dX12_choose2_72 rfl (lv_at hl 1 rfl) ?_
        have e_g58_24 : g58 24 = (g 24) := ((hk_upgN h_g58 24 rfl)).trans e_g4_24
        refine hk_get (ci := 15) (C := RX12) (T := TX12) (N := 92) (v := .int (g 24)) hx hb hts (fun _ h => List.mem_cons_of_mem _ (wwMc_wsX120 _ h)) hown hw 0 rfl rfl 44 (by decide) (hq _ wM_40) (congrArg (fun z => some (Value.int z)) e_g58_24) dX12_choose2_73 ?_
        refine lv_goto (tgt := 80) hx hb dX12_choose2_76 (by decide) ?_
        refine jx_putg mw (cI := cI) (cJ := cJ) (ad := ad) (g := g58) (lg := lg) (ar := ar) (bk := bk) (x := (g 24)) 40 (ci := 15) (C := RX12) (T := TX12) (N := 92) (ty := .int) hx hb hts (fun _ h => List.mem_cons_of_mem _ (wwMc_wsX120 _ h)) tyX12 tyX12_ok nmX12 hown hw 0 rfl rfl 63 (by decide) (hq _ wM_174) rfl (by decide +kernel) rfl rfl (Nat.le_of_ble_eq_true rfl) dX12_choose2_80 rfl (fun H locs g60 h_g60 hw => ?_)
        have e_g60_39 : g60 39 = z1 := ((hk_upgN h_g60 39 rfl)).trans (((hk_upgN h_g58 39 rfl)).trans e_g4_39)
        have e_g60_38 : g60 38 = (6 : Int32) := ((hk_upgN h_g60 38 rfl)).trans (hk_upgS h_g58)
        have e_g60_40 : g60 40 = (g 24) := (hk_upgS h_g60)
        exact kr g60 lg ar bk _ _ _ _ ⟨(hk_frG (hk_frG (hk_frG (hk_frG hk_fr0 (by decide) h_g2) (by decide) h_g4) (by decide) h_g58) (by decide) h_g60), rfl, rfl, rfl, (om1165 ((g60 39).toInt) ((y1).toInt) ((g 35).toInt) ((z1).toInt) ((z3).toInt) (((1 : Int32)).toInt) (hk_plV hpl hz1 hz3 (om1128 ((y1).toInt) ((g 35).toInt) hr0)) (congrArg Int32.toInt e_g60_39) (hE_eq cc5) (by decide)), (om1035 ((g60 38).toInt) (((6 : Int32)).toInt) (congrArg Int32.toInt e_g60_38) (by decide)), (om1036 ((g60 38).toInt) ((g60 39).toInt) ((g60 40).toInt) ((y1).toInt) (((6 : Int32)).toInt) (congrArg Int32.toInt e_g60_38) (by decide)), (om1166 ((g60 38).toInt) ((g60 39).toInt) ((z1).toInt) ((y1).toInt) ((g 35).toInt) ((z3).toInt) (((1 : Int32)).toInt) (congrArg Int32.toInt e_g60_39) (hk_plV hpl hz1 hz3 (om1128 ((y1).toInt) ((g 35).toInt) hr0)) (hE_eq cc5) (by decide)), (om1167 ((g60 38).toInt) ((g 24).toInt) ((y1).toInt) ((g4 24).toInt) ((r37).toInt) (((0 : Int32)).toInt) ((g4 25).toInt) ((g4 26).toInt) ((g4 27).toInt) (((1 : Int32)).toInt) (congrArg Int32.toInt e_g4_24) h49 (hE_nlt cc55) (by decide) (by decide)), (om1038 ((g60 38).toInt) ((g60 39).toInt) ((g 24).toInt) ((y1).toInt) (((6 : Int32)).toInt) (congrArg Int32.toInt e_g60_38) (by decide)), (om1039 ((g60 38).toInt) ((g60 39).toInt) ((g 25).toInt) ((y1).toInt) (((6 : Int32)).toInt) (congrArg Int32.toInt e_g60_38) (by decide)), (om1040 ((g60 38).toInt) ((g60 39).toInt) ((g 26).toInt) ((y1).toInt) (((6 : Int32)).toInt) (congrArg Int32.toInt e_g60_38) (by decide)), (om1041 ((g60 38).toInt) ((g60 39).toInt) ((g 27).toInt) ((y1).toInt) (((6 : Int32)).toInt) (congrArg Int32.toInt e_g60_38) (by decide))⟩ hw dX12_choose2_83
