/-! pure: edit distances, best candidates -/
def rowS (q : List Int32) (c : Int32) (r : Nat → Nat) : Nat → Nat
  | 0 => r 0 + 1
  | j + 1 => min (if q.getD j 0 = c then r j else r j + 1) (min (r (j + 1)) (rowS q c r j) + 1)
theorem rowS_le (q : List Int32) (c : Int32) (r : Nat → Nat) (j : Nat) : rowS q c r j ≤ r j + 1 := by
  cases j with
  | zero => exact Nat.le_refl _
  | succ j => simp only [rowS]; omega
/-- the row behind k letters of D from s on -/
def edK (q D : List Int32) (s : Nat) : Nat → Nat → Nat
  | 0 => fun j => j
  | k + 1 => rowS q (D.getD (s + k) 0) (edK q D s k)
theorem edK_le (q D : List Int32) (s : Nat) : ∀ k j, edK q D s k j ≤ j + k := by
  intro k
  induction k with
  | zero => intro j; exact Nat.le_refl _
  | succ k ih => intro j; have := rowS_le q (D.getD (s + k) 0) (edK q D s k) j; have := ih j; simp only [edK]; omega
theorem rowS_congr (q : List Int32) (c : Int32) {r r' : Nat → Nat} {m : Nat} (h : ∀ j, j ≤ m → r j = r' j) : ∀ j, j ≤ m → rowS q c r j = rowS q c r' j := by
  intro j
  induction j with
  | zero => intro hj; simp only [rowS]; rw [h 0 hj]
  | succ j ih => intro hj; simp only [rowS]; rw [h j (by omega), h (j + 1) hj, ih (by omega)]
def edD (q D : List Int32) (s e : Nat) : Nat := edK q D s (e - s) q.length
def bAt (x : Nt) (D : List Int32) (s : Nat) : Nat → Option (Int × Nat)
  | 0 => none
  | k + 1 =>
    if (nQ x).length ≤ k + 1 + 3 then
      match bAt x D s k with
      | none => some (scN x D s (s + (k + 1)) (edK (nQ x) D s (k + 1) (nQ x).length), k + 1)
      | some p => if p.1 < scN x D s (s + (k + 1)) (edK (nQ x) D s (k + 1) (nQ x).length) then some (scN x D s (s + (k + 1)) (edK (nQ x) D s (k + 1) (nQ x).length), k + 1) else some p
    else bAt x D s k
/-- the best candidate that starts at s: its score and length -/
def bA (x : Nt) (D : List Int32) (s : Nat) : Option (Int × Nat) := bAt x D s (min ((nQ x).length + 3) (D.length - s))
def gI (o : Option (Int × Nat)) : Int := match o with
  | none => -1005
  | some p => p.1
def gE (s : Nat) (o : Option (Int × Nat)) : Int := match o with
  | none => -1005
  | some p => ((s + p.2 : Nat) : Int)
def fBt (x : Nt) (D : List Int32) : Nat → Option (Int × Nat × Nat)
  | 0 => none
  | s + 1 => match bA x D s with
    | none => fBt x D s
    | some p => match fBt x D s with
      | none => some (p.1, s, p.2)
      | some r => if r.1 < p.1 then some (p.1, s, p.2) else some r
/-- the best candidate: score, start, length -/
def fB (x : Nt) (D : List Int32) : Option (Int × Nat × Nat) := fBt x D D.length
def gB0 (o : Option (Int × Nat × Nat)) : Int := match o with
  | none => -1005
  | some r => r.1
def gB1 (o : Option (Int × Nat × Nat)) : Int := match o with
  | none => -1005
  | some r => ((r.2.1 : Nat) : Int)
def gB2 (o : Option (Int × Nat × Nat)) : Int := match o with
  | none => -1005
  | some r => ((r.2.1 + r.2.2 : Nat) : Int)
/-- what every comment keeps to -/
def nOk (x : Nt) : Prop := (nP x).length ≤ 6 ∧ (nQ x).length ≤ 16 ∧ (nS x).length ≤ 6 ∧ nB x ≤ 200 ∧ okL (nP x) ∧ okL (nS x)
theorem scN_bd {x : Nt} (hx : nOk x) (D : List Int32) {s e d : Nat} (hd : d ≤ 60) (hs : s ≤ 200) : -700 ≤ scN x D s e d ∧ scN x D s e d ≤ 108 := by
  obtain ⟨h1, -, h3, h4, -⟩ := hx
  have l1 := lkB_le (nP x) D s
  have l2 := lkS_le (nS x) D e
  unfold scN
  omega
theorem bAt_bd {x : Nt} (hx : nOk x) (D : List Int32) {s : Nat} (hs : s ≤ 200) : ∀ k, k ≤ 40 → ∀ p, bAt x D s k = some p → -700 ≤ p.1 ∧ p.1 ≤ 108 ∧ 1 ≤ p.2 ∧ p.2 ≤ k := by
  intro k
  induction k with
  | zero => intro _ p h; simp [bAt] at h
  | succ k ih =>
    intro hk p h
    have hd := edK_le (nQ x) D s (k + 1) (nQ x).length
    have hb := scN_bd hx D (s := s) (e := s + (k + 1)) (d := edK (nQ x) D s (k + 1) (nQ x).length) (by have := hx.2.1; omega) hs
    simp only [bAt] at h
    split at h
    · split at h
      · cases h; exact ⟨hb.1, hb.2, by omega, by omega⟩
      · rename_i r hr
        split at h
        · cases h; exact ⟨hb.1, hb.2, by omega, by omega⟩
        · cases h; have := ih (by omega) _ hr; omega
    · have := ih (by omega) _ h; omega
theorem bA_bd {x : Nt} (hx : nOk x) (D : List Int32) {s : Nat} (hs : s ≤ 200) {p : Int × Nat} (h : bA x D s = some p) : -700 ≤ p.1 ∧ p.1 ≤ 108 ∧ 1 ≤ p.2 ∧ s + p.2 ≤ D.length ∧ p.2 ≤ 19 := by
  have := bAt_bd hx D hs _ (by have := hx.2.1; omega) p h
  have := hx.2.1
  omega
theorem gI_bd {x : Nt} (hx : nOk x) (D : List Int32) {s : Nat} (hs : s ≤ 200) : -1005 ≤ gI (bA x D s) ∧ gI (bA x D s) ≤ 108 := by
  cases h : bA x D s with
  | none => simp [gI]
  | some p => have := bA_bd hx D hs h; simp only [gI]; omega
theorem gIt_bd {x : Nt} (hx : nOk x) (D : List Int32) {s : Nat} (hs : s ≤ 200) {k : Nat} (hk : k ≤ 40) : -1005 ≤ gI (bAt x D s k) ∧ gI (bAt x D s k) ≤ 108 := by
  cases h : bAt x D s k with
  | none => simp [gI]
  | some p => have := bAt_bd hx D hs k hk p h; simp only [gI]; omega
theorem bAt_up {x : Nt} {D : List Int32} {s k : Nat} (hx : nOk x) (hs : s ≤ 200) (hk : k < 40) (hm : (nQ x).length ≤ k + 1 + 3) (h : gI (bAt x D s k) < scN x D s (s + (k + 1)) (edK (nQ x) D s (k + 1) (nQ x).length)) : bAt x D s (k + 1) = some (scN x D s (s + (k + 1)) (edK (nQ x) D s (k + 1) (nQ x).length), k + 1) := by
  simp only [bAt]
  rw [if_pos hm]
  cases h2 : bAt x D s k with
  | none => rfl
  | some p => rw [h2] at h; simp only [gI] at h; simp only [h, if_true]
theorem bAt_keep {x : Nt} {D : List Int32} {s k : Nat} (hx : nOk x) (hs : s ≤ 200) (hk : k < 40) (hm : (nQ x).length ≤ k + 1 + 3) (h : scN x D s (s + (k + 1)) (edK (nQ x) D s (k + 1) (nQ x).length) ≤ gI (bAt x D s k)) : bAt x D s (k + 1) = bAt x D s k := by
  have hd := edK_le (nQ x) D s (k + 1) (nQ x).length
  have hb := scN_bd hx D (s := s) (e := s + (k + 1)) (d := edK (nQ x) D s (k + 1) (nQ x).length) (by have := hx.2.1; omega) hs
  simp only [bAt]
  rw [if_pos hm]
  cases h2 : bAt x D s k with
  | none => rw [h2] at h; simp only [gI] at h; omega
  | some p => rw [h2] at h; simp only [gI] at h; simp only [show ¬ (p.1 < scN x D s (s + (k + 1)) (edK (nQ x) D s (k + 1) (nQ x).length)) by omega, if_false]
theorem bAt_short {x : Nt} {D : List Int32} {s k : Nat} (hm : ¬ (nQ x).length ≤ k + 1 + 3) : bAt x D s (k + 1) = bAt x D s k := by
  simp only [bAt]; rw [if_neg hm]
theorem fBt_bd {x : Nt} (hx : nOk x) (D : List Int32) : ∀ s, s ≤ 200 → ∀ r, fBt x D s = some r → -700 ≤ r.1 ∧ r.1 ≤ 108 ∧ r.2.1 < s ∧ 1 ≤ r.2.2 ∧ r.2.1 + r.2.2 ≤ D.length ∧ r.2.2 ≤ 19 := by
  intro s
  induction s with
  | zero => intro _ r h; simp [fBt] at h
  | succ s ih =>
    intro hs r h
    simp only [fBt] at h
    split at h
    · have := ih (by omega) _ h; omega
    · rename_i p hp
      have hb := bA_bd hx D (by omega) hp
      split at h
      · cases h; simp only; omega
      · rename_i r' hr
        split at h
        · cases h; simp only; omega
        · cases h; have := ih (by omega) _ hr; omega
theorem gB0_bd {x : Nt} (hx : nOk x) (D : List Int32) {s : Nat} (hs : s ≤ 200) : -1005 ≤ gB0 (fBt x D s) ∧ gB0 (fBt x D s) ≤ 108 := by
  cases h : fBt x D s with
  | none => simp [gB0]
  | some p => have := fBt_bd hx D s hs p h; simp only [gB0]; omega
theorem fBt_up {x : Nt} {D : List Int32} {s : Nat} (hx : nOk x) (hs : s < 200) (h : gB0 (fBt x D s) < gI (bA x D s)) : ∃ p, bA x D s = some p ∧ fBt x D (s + 1) = some (p.1, s, p.2) := by
  have h0 := gB0_bd hx D (s := s) (by omega)
  cases h2 : bA x D s with
  | none => rw [h2] at h; simp only [gI] at h; omega
  | some p =>
    refine ⟨p, rfl, ?_⟩
    rw [h2] at h
    simp only [fBt, h2]
    cases h3 : fBt x D s with
    | none => rfl
    | some r => rw [h3] at h; simp only [gI, gB0] at h; simp only [h, if_true]
theorem fBt_keep {x : Nt} {D : List Int32} {s : Nat} (hx : nOk x) (hs : s < 200) (h : gI (bA x D s) ≤ gB0 (fBt x D s)) : fBt x D (s + 1) = fBt x D s := by
  simp only [fBt]
  cases h2 : bA x D s with
  | none => rfl
  | some p =>
    have hb := bA_bd hx D (s := s) (by omega) h2
    rw [h2] at h
    cases h3 : fBt x D s with
    | none => rw [h3] at h; simp only [gI, gB0] at h; omega
    | some r => rw [h3] at h; simp only [gI, gB0] at h; simp only [show ¬ (r.1 < p.1) by omega, if_false]
/-! the Finder at f, f + 1 -/
def fd (w : PW) (f : Nat) (b0 b1 b2 eh : Int) : Prop := w f = some (eO 1 [.ref (f + 1), .int (iI b0), .int (iI b1), .int (iI b2), .int (iI eh)])
def fr (w : PW) (f m : Nat) (r : Nat → Nat) : Prop := ∃ g : Nat → Nat, w (f + 1) = some (eI 17 (fun i => iI ((g i : Nat) : Int))) ∧ ∀ j, j ≤ m → g j = r j
theorem fd.off {w w1 : PW} {f lo hi : Nat} {b0 b1 b2 eh : Int} (h : fd w f b0 b1 b2 eh) (o : off w w1 lo hi) (d : f + 1 ≤ lo ∨ hi ≤ f) : fd w1 f b0 b1 b2 eh := (o _ (by omega)).trans h
theorem fr.off {w w1 : PW} {f m lo hi : Nat} {r : Nat → Nat} (h : fr w f m r) (o : off w w1 lo hi) (d : f + 2 ≤ lo ∨ hi ≤ f + 1) : fr w1 f m r := by
  obtain ⟨g, h1, h2⟩ := h
  exact ⟨g, (o _ (by omega)).trans h1, h2⟩
