/-! a page at g .. g + 73: document, comments; pa: where each place's comment lies; xs: what it is -/
def nt0 : Nt := (([], [], []), 0, false, 0, 0, 0)
abbrev lg (l : List Nt) (i : Nat) : Nt := l.getD i nt0
def shp (g : Nat) (pa : Nat → Nat) : Prop := (∀ j, j < 10 → g + 4 ≤ pa j ∧ pa j + 7 ≤ g + 74) ∧ ∀ i j, i < 10 → j < 10 → i ≠ j → pa i + 7 ≤ pa j ∨ pa j + 7 ≤ pa i
def pgo (w : PW) (g : Nat) (D : List Int32) (h : Nat → Option Nat) (pa : Nat → Nat) (xs : Nat → Nt) (c nx : Nat) : Prop :=
  w g = some (eO 4 [.ref (g + 1), .ref (g + 3), .int (iI ((c : Nat) : Int)), .int (iI ((nx : Nat) : Int))]) ∧ tx w (g + 1) 120 D ∧ c ≤ 10 ∧ nx < 1000000 ∧ (w (g + 3) = some (eQ 3 10 h) ∧ ∀ j, j < 10 → h j = some (pa j)) ∧ shp g pa ∧ ∀ j, j < 10 → nt w (pa j) (xs j)
def updX (xs : Nat → Nt) (k : Nat) (y : Nt) : Nat → Nt := fun j => if j = k then y else xs j
theorem updX_s (xs : Nat → Nt) (k : Nat) (y : Nt) : updX xs k y k = y := by simp [updX]
theorem updX_n (xs : Nat → Nt) {k j : Nat} (y : Nt) (h : j ≠ k) : updX xs k y j = xs j := by simp [updX, h]
theorem pgo.off {w w1 : PW} {g : Nat} {D : List Int32} {h : Nat → Option Nat} {pa : Nat → Nat} {xs : Nat → Nt} {c nx lo hi : Nat} (H : pgo w g D h pa xs c nx) (o : off w w1 lo hi) (d : g + 74 ≤ lo ∨ hi ≤ g) : pgo w1 g D h pa xs c nx := by
  obtain ⟨h1, h2, h3, h4, ⟨h5, h6⟩, h7, h8⟩ := H
  exact ⟨(o _ (by omega)).trans h1, h2.off o (by omega), h3, h4, ⟨(o _ (by omega)).trans h5, h6⟩, h7, fun j hj => (h8 j hj).off o (by have := h7.1 j hj; omega)⟩
theorem pgo_note {w w1 : PW} {g : Nat} {D : List Int32} {h : Nat → Option Nat} {pa : Nat → Nat} {xs : Nat → Nt} {c nx i : Nat} {y : Nt} (H : pgo w g D h pa xs c nx) (hi : i < 10) (hy : nt w1 (pa i) y) (o : off w w1 (pa i) (pa i + 7)) : pgo w1 g D h pa (updX xs i y) c nx := by
  obtain ⟨h1, h2, h3, h4, ⟨h5, h6⟩, h7, h8⟩ := H
  have h9 := h7.1 i hi
  refine ⟨(o _ (by omega)).trans h1, h2.off o (by omega), h3, h4, ⟨(o _ (by omega)).trans h5, h6⟩, h7, fun j hj => ?_⟩
  by_cases e : j = i
  · subst e; rw [updX_s]; exact hy
  · rw [updX_n _ _ e]; exact (h8 j hj).off o (by have := h7.2 j i hj hi e; omega)
theorem pgo_doc {w w1 : PW} {g : Nat} {D E : List Int32} {h : Nat → Option Nat} {pa : Nat → Nat} {xs : Nat → Nt} {c nx : Nat} (H : pgo w g D h pa xs c nx) (hy : tx w1 (g + 1) 120 E) (o : off w w1 (g + 1) (g + 1 + 2)) : pgo w1 g E h pa xs c nx := by
  obtain ⟨h1, h2, h3, h4, ⟨h5, h6⟩, h7, h8⟩ := H
  exact ⟨(o _ (by omega)).trans h1, hy, h3, h4, ⟨(o _ (by omega)).trans h5, h6⟩, h7, fun j hj => (h8 j hj).off o (by have := h7.1 j hj; omega)⟩
theorem pgo_head {w w1 : PW} {g : Nat} {D : List Int32} {h : Nat → Option Nat} {pa : Nat → Nat} {xs : Nat → Nt} {c nx c1 nx1 : Nat} (H : pgo w g D h pa xs c nx) (hy : w1 g = some (eO 4 [.ref (g + 1), .ref (g + 3), .int (iI ((c1 : Nat) : Int)), .int (iI ((nx1 : Nat) : Int))])) (hc : c1 ≤ 10) (hn : nx1 < 1000000) (o : off w w1 g (g + 1)) : pgo w1 g D h pa xs c1 nx1 := by
  obtain ⟨h1, h2, h3, h4, ⟨h5, h6⟩, h7, h8⟩ := H
  exact ⟨hy, h2.off o (by omega), hc, hn, ⟨(o _ (by omega)).trans h5, h6⟩, h7, fun j hj => (h8 j hj).off o (by have := h7.1 j hj; omega)⟩
def pg (w : PW) (g : Nat) (D : List Int32) (l : List Nt) (nx : Nat) : Prop := ∃ (h : Nat → Option Nat) (pa : Nat → Nat) (xs : Nat → Nt), pgo w g D h pa xs l.length nx ∧ ∀ j, j < l.length → xs j = lg l j
theorem pg.off {w w1 : PW} {g : Nat} {D : List Int32} {l : List Nt} {nx lo hi : Nat} (H : pg w g D l nx) (o : off w w1 lo hi) (d : g + 74 ≤ lo ∨ hi ≤ g) : pg w1 g D l nx := by
  obtain ⟨h, pa, xs, h1, h2⟩ := H
  exact ⟨h, pa, xs, h1.off o d, h2⟩
theorem lg_map (f : Nt → Nt) (l : List Nt) {j : Nat} (h : j < l.length) : lg (l.map f) j = f (lg l j) := by
  simp [lg, List.getD_eq_getElem?_getD, List.getElem?_map, List.getElem?_eq_getElem h]
theorem lg_app1 (l m : List Nt) {j : Nat} (h : j < l.length) : lg (l ++ m) j = lg l j := by simp [lg, List.getD_eq_getElem?_getD, List.getElem?_append, h]
theorem lg_app2 (l : List Nt) (y : Nt) : lg (l ++ [y]) l.length = y := by simp [lg, List.getD_eq_getElem?_getD]
theorem lg_erase (l : List Nt) (i j : Nat) : lg (l.eraseIdx i) j = if j < i then lg l j else lg l (j + 1) := by
  simp only [lg, List.getD_eq_getElem?_getD, List.getElem?_eraseIdx]
  split <;> rfl
theorem lg_ext {l m : List Nt} (h : l.length = m.length) (h2 : ∀ j, j < l.length → lg l j = lg m j) : l = m := by
  apply List.ext_getElem h
  intro i h3 h4
  have := h2 i h3
  simpa [lg, List.getD_eq_getElem?_getD, List.getElem?_eq_getElem h3, List.getElem?_eq_getElem h4] using this
theorem lg_mem {l : List Nt} {j : Nat} (h : j < l.length) : lg l j ∈ l := by
  simp only [lg, List.getD_eq_getElem?_getD, List.getElem?_eq_getElem h]
  exact List.getElem_mem h
/-- the first place whose comment has the number z; l.length: there is none -/
def ixN (l : List Nt) (z : Int) : Nat := runL (fun i => !decide (((nNum (lg l i) : Nat) : Int) = z)) l.length 0
theorem ixN_le (l : List Nt) (z : Int) : ixN l z ≤ l.length := by have := runL_le (fun i => !decide (((nNum (lg l i) : Nat) : Int) = z)) l.length 0; unfold ixN; omega
def ftN (l : List Nt) (i : Nat) : Nat := runL (fun j => !twN (lg l j) (lg l i)) i 0
theorem ftN_le (l : List Nt) (i : Nat) : ftN l i ≤ i := by have := runL_le (fun j => !twN (lg l j) (lg l i)) i 0; unfold ftN; omega
/-- whether a place from k on has a twin ahead of it -/
def htN (l : List Nt) : Bool := decide (runL (fun i => !decide (ftN l i < i)) l.length 0 < l.length)
/-- how many comments that cover a letter come before a comment, of the first k -/
def rkN (l : List Nt) (x : Nt) (i : Int) : Nat → Nat
  | 0 => 0
  | k + 1 => rkN l x i k + (if (cvN (lg l k) i && sbN (lg l k) x) = true then 1 else 0)
theorem rkN_le (l : List Nt) (x : Nt) (i : Int) (k : Nat) : rkN l x i k ≤ k := by
  induction k with
  | zero => exact Nat.le_refl _
  | succ k ih => simp only [rkN]; split <;> omega
def ncN (l : List Nt) (i : Int) (r : Int) : Nat := runL (fun k => !(cvN (lg l k) i && decide (((rkN l (lg l k) i l.length : Nat) : Int) = r))) l.length 0
def mkN (D : List Int32) (k b e : Nat) : Nt := ((slice D (b - 6) b, slice D b e, slice D e (e + 6)), k, true, b, e, 1)
/-- how many of the first k become orphans -/
def orN (p m : Nat) (l : List Nt) : Nat → Nat
  | 0 => 0
  | k + 1 => orN p m l k + (if (nK (lg l k) && !(decide (bndD (nB (lg l k)) p m < bndD (nE (lg l k)) p m))) = true then 1 else 0)
theorem orN_le (p m : Nat) (l : List Nt) (k : Nat) : orN p m l k ≤ k := by
  induction k with
  | zero => exact Nat.le_refl _
  | succ k ih => simp only [orN]; split <;> omega
/-- merging: places k - 1, k - 2 .. 0; a comment with a twin ahead of it goes into the first such -/
def addW (x y : Nt) : Nt := (x.1, nNum x, nK x, nB x, nE x, nW x + nW y)
def mgN : Nat → List Nt → Nat → List Nt × Nat
  | 0, l, r => (l, r)
  | k + 1, l, r => if ftN l k < k then mgN k ((l.set (ftN l k) (addW (lg l (ftN l k)) (lg l k))).eraseIdx k) (r + 1) else mgN k l r
theorem shp.swap {g : Nat} {pa pb : Nat → Nat} (h : shp g pa) (s : Nat → Nat) (hs : ∀ j, j < 10 → s j < 10) (hi : ∀ i j, i < 10 → j < 10 → i ≠ j → s i ≠ s j) (e : ∀ j, j < 10 → pb j = pa (s j)) : shp g pb :=
  ⟨fun j hj => by rw [e j hj]; exact h.1 _ (hs j hj), fun i j h1 h2 h3 => by rw [e i h1, e j h2]; exact h.2 _ _ (hs i h1) (hs j h2) (hi i j h1 h2 h3)⟩
