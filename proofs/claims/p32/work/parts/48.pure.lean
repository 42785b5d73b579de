/-! pure: edit distances and lengths; best candidates have their scores -/
theorem edK_dif (q D : List Int32) (s : Nat) : ∀ k j, j ≤ edK q D s k j + k ∧ k ≤ edK q D s k j + j := by
  intro k
  induction k with
  | zero => intro j; simp only [edK]; omega
  | succ k ih =>
    intro j
    induction j with
    | zero => have := ih 0; simp only [edK, rowS] at this ⊢; omega
    | succ j ihj =>
      have h1 := ih j
      have h2 := ih (j + 1)
      simp only [edK] at ihj
      simp only [edK, rowS]
      generalize rowS q (D.getD (s + k) 0) (edK q D s k) j = r3 at *
      generalize edK q D s k j = r1 at *
      generalize edK q D s k (j + 1) = r2 at *
      split <;> omega
theorem edK_zero (q D : List Int32) (s : Nat) : ∀ k j, edK q D s k j = 0 → ∀ i, i < j → q.getD i 0 = D.getD (s + i) 0 := by
  intro k
  induction k with
  | zero => intro j h i hi; simp only [edK] at h; omega
  | succ k ih =>
    intro j h i hi
    have hd := edK_dif q D s (k + 1) j
    obtain ⟨j, rfl⟩ : ∃ j', j = j' + 1 := ⟨j - 1, by omega⟩
    have hjk : j = k := by omega
    simp only [edK, rowS] at h
    split at h
    · rename_i h1
      have h2 : edK q D s k j = 0 := by omega
      by_cases e : i = j
      · rw [e, h1, hjk]
      · exact ih j h2 i (by omega)
    · omega
theorem edD_len {q D : List Int32} {s e : Nat} (h : edD q D s e ≤ 3) : q.length ≤ e - s + 3 ∧ e - s ≤ q.length + 3 := by
  have := edK_dif q D s (e - s) q.length
  unfold edD at h
  omega
theorem edD_len0 {q D : List Int32} {s e : Nat} (h : edD q D s e = 0) : q.length = e - s := by
  have := edK_dif q D s (e - s) q.length
  unfold edD at h
  omega
theorem edD_let {q D : List Int32} {s e p : Nat} (h : edD q D s e = 0) (h1 : s ≤ p) (h2 : p < e) : q.getD (p - s) 0 = D.getD p 0 := by
  have h3 := edD_len0 h
  have h4 := edK_zero q D s (e - s) q.length h (p - s) (by omega)
  rw [show s + (p - s) = p by omega] at h4
  exact h4
theorem bAt_sp {x : Nt} {D : List Int32} {s : Nat} : ∀ k p, bAt x D s k = some p → p.1 = scN x D s (s + p.2) (edK (nQ x) D s p.2 (nQ x).length) ∧ p.2 ≤ k := by
  intro k
  induction k with
  | zero => intro p h; simp [bAt] at h
  | succ k ih =>
    intro p h
    simp only [bAt] at h
    split at h
    · split at h
      · cases h; exact ⟨rfl, Nat.le_refl _⟩
      · rename_i r hr
        split at h
        · cases h; exact ⟨rfl, Nat.le_refl _⟩
        · cases h; have := ih _ hr; exact ⟨this.1, by omega⟩
    · have := ih _ h; exact ⟨this.1, by omega⟩
theorem fBt_sp {x : Nt} {D : List Int32} : ∀ s r, fBt x D s = some r → r.1 = scN x D r.2.1 (r.2.1 + r.2.2) (edK (nQ x) D r.2.1 r.2.2 (nQ x).length) := by
  intro s
  induction s with
  | zero => intro r h; simp [fBt] at h
  | succ s ih =>
    intro r h
    simp only [fBt] at h
    split at h
    · exact ih _ h
    · rename_i p hp
      have hb := (bAt_sp _ _ hp).1
      split at h
      · cases h; exact hb
      · rename_i r' hr
        split at h
        · cases h; exact hb
        · cases h; exact ih _ hr
theorem bAt_ge {x : Nt} {D : List Int32} {s c : Nat} (h1 : 1 ≤ c) (h2 : (nQ x).length ≤ c + 3) : ∀ k, c ≤ k → ∃ p, bAt x D s k = some p ∧ scN x D s (s + c) (edK (nQ x) D s c (nQ x).length) ≤ p.1 := by
  intro k
  induction k with
  | zero => intro h; omega
  | succ k ih =>
    intro hk
    simp only [bAt]
    rw [if_pos (by omega)]
    by_cases e : c = k + 1
    · subst e
      split
      · exact ⟨_, rfl, Int.le_refl _⟩
      · rename_i p hp
        split
        · exact ⟨_, rfl, Int.le_refl _⟩
        · exact ⟨_, rfl, by omega⟩
    · obtain ⟨p, hp, hp2⟩ := ih (by omega)
      rw [hp]
      simp only
      split
      · exact ⟨_, rfl, by simp only; omega⟩
      · exact ⟨_, rfl, hp2⟩
theorem fBt_ge {x : Nt} {D : List Int32} {s : Nat} {p : Int × Nat} (h : bA x D s = some p) : ∀ S, s < S → ∃ r, fBt x D S = some r ∧ p.1 ≤ r.1 := by
  intro S
  induction S with
  | zero => intro h; omega
  | succ S ih =>
    intro hs
    simp only [fBt]
    by_cases e : s = S
    · subst e
      rw [h]
      simp only
      split
      · exact ⟨_, rfl, Int.le_refl _⟩
      · split
        · exact ⟨_, rfl, Int.le_refl _⟩
        · exact ⟨_, rfl, by omega⟩
    · obtain ⟨r, hr, hr2⟩ := ih (by omega)
      rw [hr]
      split
      · exact ⟨_, rfl, hr2⟩
      · simp only
        split
        · exact ⟨_, rfl, by simp only; omega⟩
        · exact ⟨_, rfl, hr2⟩
/-- a candidate's score is at most the best one's -/
theorem fB_ge {x : Nt} {D : List Int32} {s e : Nat} (h1 : s < e) (h2 : (nQ x).length ≤ e - s + 3) (h3 : e - s ≤ (nQ x).length + 3) (h4 : e ≤ D.length) : scN x D s e (edD (nQ x) D s e) ≤ gB0 (fB x D) := by
  obtain ⟨p, hp, hp2⟩ := bAt_ge (x := x) (D := D) (s := s) (c := e - s) (by omega) h2 (min ((nQ x).length + 3) (D.length - s)) (by omega)
  obtain ⟨r, hr, hr2⟩ := fBt_ge (x := x) (D := D) (s := s) (p := p) hp D.length (by omega)
  unfold fB
  rw [hr]
  rw [show s + (e - s) = e by omega] at hp2
  simp only [gB0]
  unfold edD
  omega
theorem fB_sp {x : Nt} {D : List Int32} {r : Int × Nat × Nat} (h : fB x D = some r) : r.1 = scN x D r.2.1 (r.2.1 + r.2.2) (edD (nQ x) D r.2.1 (r.2.1 + r.2.2)) := by
  unfold edD
  rw [show r.2.1 + r.2.2 - r.2.1 = r.2.2 by omega]
  exact fBt_sp _ _ h
theorem sc60 {x : Nt} {D : List Int32} (h : edD (nQ x) D (nB x) (nE x) = 0) : 60 ≤ scN x D (nB x) (nE x) (edD (nQ x) D (nB x) (nE x)) := by
  rw [h]
  unfold scN
  rw [show (nB x : Int) - (nB x : Int) = 0 by omega]
  have : (0 : Int).natAbs / 5 = 0 := rfl
  rw [this]
  omega
theorem best_none {x : Nt} (hx : nOk x) {D : List Int32} (hD : D.length ≤ 120) : gB0 (fB x D) = -1005 ∨ ∃ r, fB x D = some r ∧ -700 ≤ r.1 ∧ r.1 ≤ 108 ∧ r.2.1 < D.length ∧ 1 ≤ r.2.2 ∧ r.2.1 + r.2.2 ≤ D.length ∧ r.2.2 ≤ 19 := by
  cases h : fB x D with
  | none => exact Or.inl rfl
  | some r => exact Or.inr ⟨r, rfl, fBt_bd hx D D.length (by omega) r h⟩
/-! pure: what comments keep to beyond pOk: ATTACHED ones aren't empty, weights are positive, their sum is small -/
def wSm : List Nt → Int
  | [] => 0
  | x :: l => (nW x).toInt + wSm l
def nPos (x : Nt) : Prop := (nK x = true → nB x < nE x) ∧ 1 ≤ (nW x).toInt
def qOk (W : Int) (l : List Nt) : Prop := (∀ j, j < l.length → nPos (lg l j)) ∧ wSm l ≤ W
theorem qOk.up {W W1 : Int} {l : List Nt} (h : W ≤ W1) (q : qOk W l) : qOk W1 l := ⟨q.1, Int.le_trans q.2 h⟩
theorem wSm_map (f : Nt → Nt) (hf : ∀ x, nW (f x) = nW x) : ∀ l, wSm (l.map f) = wSm l := by
  intro l
  induction l with
  | nil => rfl
  | cons x l ih => simp only [List.map_cons, wSm, hf, ih]
theorem wSm_app (y : Nt) : ∀ l, wSm (l ++ [y]) = wSm l + (nW y).toInt := by
  intro l
  induction l with
  | nil => simp [wSm]
  | cons x l ih => simp only [List.cons_append, wSm, ih]; omega
theorem wSm_set (y : Nt) : ∀ (l : List Nt) (i : Nat), i < l.length → wSm (l.set i y) = wSm l - (nW (lg l i)).toInt + (nW y).toInt := by
  intro l
  induction l with
  | nil => intro i h; simp at h
  | cons x l ih =>
    intro i h
    cases i with
    | zero => simp only [List.set_cons_zero, wSm, lg, List.getD_cons_zero]; omega
    | succ i =>
      have := ih i (by simp at h; omega)
      simp only [List.set_cons_succ, wSm, lg, List.getD_cons_succ] at this ⊢
      omega
theorem wSm_erase : ∀ (l : List Nt) (i : Nat), i < l.length → wSm (l.eraseIdx i) = wSm l - (nW (lg l i)).toInt := by
  intro l
  induction l with
  | nil => intro i h; simp at h
  | cons x l ih =>
    intro i h
    cases i with
    | zero => simp only [List.eraseIdx_cons_zero, wSm, lg, List.getD_cons_zero]; omega
    | succ i =>
      have := ih i (by simp at h; omega)
      simp only [List.eraseIdx_cons_succ, wSm, lg, List.getD_cons_succ] at this ⊢
      omega
theorem wSm_ge0 : ∀ l : List Nt, (∀ j, j < l.length → 1 ≤ (nW (lg l j)).toInt) → 0 ≤ wSm l := by
  intro l
  induction l with
  | nil => intro _; exact Int.le_refl _
  | cons x l ih =>
    intro h
    have h0 := h 0 (by simp)
    have h1 := ih (fun j hj => by have := h (j + 1) (by simp; omega); simpa [lg, List.getD_cons_succ] using this)
    simp only [lg, List.getD_cons_zero] at h0
    simp only [wSm]
    omega
theorem erase_pos {l : List Nt} {i : Nat} (h : ∀ j, j < l.length → nPos (lg l j)) (hi : i < l.length) : ∀ j, j < (l.eraseIdx i).length → nPos (lg (l.eraseIdx i) j) := by
  intro j hj
  rw [List.length_eraseIdx, if_pos hi] at hj
  rw [lg_erase]
  split
  · exact h j (by omega)
  · exact h _ (by omega)
theorem wSm_one {l : List Nt} {i : Nat} (h : ∀ j, j < l.length → nPos (lg l j)) (hi : i < l.length) : (nW (lg l i)).toInt ≤ wSm l := by
  have h1 := wSm_erase l i hi
  have h2 := wSm_ge0 _ (fun j hj => (erase_pos h hi j hj).2)
  omega
theorem wSm_two {l : List Nt} {i k : Nat} (h : ∀ j, j < l.length → nPos (lg l j)) (hik : i < k) (hk : k < l.length) : (nW (lg l i)).toInt + (nW (lg l k)).toInt ≤ wSm l := by
  have h1 := wSm_erase l k hk
  have h2 := wSm_one (i := i) (erase_pos h hk) (by rw [List.length_eraseIdx, if_pos hk]; omega)
  rw [lg_erase, if_pos hik] at h2
  omega
theorem q_map {W : Int} {l : List Nt} (f : Nt → Nt) (hw : ∀ x, nW (f x) = nW x) (hf : ∀ x, (nK x = true → nB x < nE x) → nK (f x) = true → nB (f x) < nE (f x)) (h : qOk W l) : qOk W (l.map f) := by
  refine ⟨fun j hj => ?_, by rw [wSm_map f hw]; exact h.2⟩
  rw [List.length_map] at hj
  rw [lg_map f l hj]
  have h1 := h.1 j hj
  exact ⟨hf _ h1.1, by rw [hw]; exact h1.2⟩
theorem q_set {W : Int} {l : List Nt} {i : Nat} {y : Nt} (hi : i < l.length) (hw : nW y = nW (lg l i)) (hy : nK y = true → nB y < nE y) (h : qOk W l) : qOk W (l.set i y) := by
  refine ⟨fun j hj => ?_, by rw [wSm_set y l i hi, hw]; have := h.2; omega⟩
  rw [List.length_set] at hj
  rw [lg_set' _ _ hi]
  by_cases e : j = i
  · rw [if_pos e]; exact ⟨hy, by rw [hw]; exact (h.1 i hi).2⟩
  · rw [if_neg e]; exact h.1 j hj
theorem q_erase {W : Int} {l : List Nt} {i : Nat} (hi : i < l.length) (h : qOk W l) : qOk W (l.eraseIdx i) :=
  ⟨erase_pos h.1 hi, by rw [wSm_erase l i hi]; have := (h.1 i hi).2; have := h.2; omega⟩
theorem q_app {W : Int} {l : List Nt} {y : Nt} (h : qOk W l) (hy : nPos y) (hw : (nW y).toInt = 1) : qOk (W + 1) (l ++ [y]) := by
  refine ⟨fun j hj => ?_, by rw [wSm_app, hw]; have := h.2; omega⟩
  by_cases e : j < l.length
  · rw [lg_app1 _ _ e]; exact h.1 j e
  · have : j = l.length := by simp at hj; omega
    subst this; rw [lg_app2]; exact hy
theorem q_mg {W : Int} (hW : W ≤ 1000000) : ∀ K (l : List Nt) (r : Nat), K ≤ l.length → qOk W l → qOk W (mgN K l r).1 := by
  intro K
  induction K with
  | zero => intro l r _ h; exact h
  | succ k ih =>
    intro l r hK h
    simp only [mgN]
    split
    · rename_i hlt
      have h2 := wSm_two h.1 hlt (by omega : k < l.length)
      have hf := h.1 (ftN l k) (by omega)
      have hk := h.1 k (by omega)
      have hs : (nW (addW (lg l (ftN l k)) (lg l k))).toInt = (nW (lg l (ftN l k))).toInt + (nW (lg l k)).toInt := by
        show (nW (lg l (ftN l k)) + nW (lg l k)).toInt = _
        have e1 := h.2
        rw [← iI_of (nW (lg l (ftN l k))), ← iI_of (nW (lg l k)), iI_add, iI_toInt (by have := hf.2; have := hk.2; omega), iI_of, iI_of]
      refine ih _ (r + 1) (by rw [List.length_eraseIdx, List.length_set, if_pos (by omega)]; omega) ⟨erase_pos (fun j hj => ?_) (by rw [List.length_set]; omega), ?_⟩
      · rw [List.length_set] at hj
        rw [lg_set' _ _ (by omega)]
        by_cases e : j = ftN l k
        · rw [if_pos e]; exact ⟨hf.1, by rw [hs]; have := hf.2; have := hk.2; omega⟩
        · rw [if_neg e]; exact h.1 j hj
      · rw [wSm_erase _ _ (by rw [List.length_set]; omega), wSm_set _ _ _ (by omega), lg_set' _ _ (by omega), if_neg (by omega), hs]
        have := h.2
        omega
    · exact ih l r (by omega) h
theorem q_co {W : Int} {D : List Int32} {nx : Nat} {l : List Nt} {thr : Int} {o : Nat → Nat} {c : Nat} (hD : D.length ≤ 120) (h : lOk D nx l) (hq : qOk W l) (ht : 0 ≤ thr) (ho : ∀ j, j < c → o j < l.length) : ∀ i, i ≤ c → qOk W (coN l D thr o c i).1 := by
  intro i
  induction i with
  | zero => intro _; exact hq
  | succ i ih =>
    intro hi
    have h1 := ih (by omega)
    rcases stN_cases l D thr o c i (coN l D thr o c i).2.1 with h2 | ⟨s, h2, h3, h4, h5⟩
    · rw [coN_no h2]; exact h1
    · rw [coN_yes h2]
      obtain ⟨m, hm, hm1, hm2⟩ := elN_ne (h.1 (o i) (ho i (by omega))).1 ht (by omega) h5
      rw [hm]
      show qOk W ((coN l D thr o c i).1.set (o i) (atN s m (lg (coN l D thr o c i).1 (o i))))
      have hl : o i < (coN l D thr o c i).1.length := by rw [coN_len]; exact ho i (by omega)
      exact q_set hl rfl (fun _ => hm1) h1
