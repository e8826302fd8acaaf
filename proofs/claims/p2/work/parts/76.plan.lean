/-! more of the plan -/
theorem hk_upaS {f f' : Nat → Nat → Int32} {j : Nat} {x : Nat → Int32} (h : f' = va_up f j x) : f' j = x := by
  subst h
  simp [va_up]
theorem hk_plC {lo lo' pe pe' : Int} {s f s' f' : Nat → Int32} (h : hk_pl lo pe s f) (e1 : lo' = lo) (e2 : pe' = pe) (e3 : s' = s) (e4 : f' = f) : hk_pl lo' pe' s' f' := by subst e1; subst e2; subst e3; subst e4; exact h
theorem hk_plM {lo lo' pe pe' : Int} {s f s' f' : Nat → Int32} (h : hk_pl lo pe s f) (e1 : lo ≤ lo') (e2 : pe' = pe) (e3 : s' = s) (e4 : f' = f) : hk_pl lo' pe' s' f' := by
  subst e2
  subst e3
  subst e4
  exact fun k h1 h2 => h k (Int.le_trans e1 h1) h2
