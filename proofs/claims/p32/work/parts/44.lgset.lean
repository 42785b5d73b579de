theorem lg_set' (l : List Nt) {k : Nat} (y : Nt) (hk : k < l.length) (j : Nat) : lg (l.set k y) j = if j = k then y else lg l j := by
  simp only [lg, List.getD_eq_getElem?_getD, List.getElem?_set]
  by_cases h : k = j
  · subst h; simp [hk]
  · simp [h, Ne.symm h]
theorem bndD_le (b p m : Nat) : bndD b p m ≤ b := by unfold bndD; split <;> omega
theorem bndD_mono {b e p m : Nat} (h : b ≤ e) : bndD b p m ≤ bndD e p m := by unfold bndD; split <;> split <;> omega
