/-- the same cells in another order -/
theorem hk_sub {D : va_G} {tys : List (ClassId × FieldType)} {A : Nat → Prop} {s : State} {H : Heap} {locs : List Loc} {ws ws' : va_W} (hw : hk_W D tys A s H locs ws) (is : List Nat) (hn : va_nd is = true) (hs : is.map (fun i => ws[i]?) = ws'.map some) : hk_W D tys A s H locs ws' := by
  refine ⟨?_, hw.2.1.sub is hn hs, hw.2.2.1, hw.2.2.2⟩
  intro k q hq
  have h1 : (is.map (fun i => ws[i]?))[k]? = some (some q) := by rw [hs, List.getElem?_map, hq]; rfl
  rw [List.getElem?_map] at h1
  cases hi : is[k]? with
  | none => rw [hi] at h1; cases h1
  | some i => rw [hi] at h1; exact hw.1 i q (Option.some.inj h1)
def hk_ad (l : List Nat) : Nat → Nat := fun k => l.getD k 0
def hk_nf (fo fm : Int32) : Prop := fo.toInt = 1 ∧ fm.toInt = 1 ∨ fo.toInt = 2 ∧ fm.toInt = 2 ∨ fo.toInt ≠ 1 ∧ fo.toInt ≠ 2 ∧ fm.toInt = 0
