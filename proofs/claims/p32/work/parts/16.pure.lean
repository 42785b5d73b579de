/-! pure: attaching all together -/
def off2 (w w1 : PW) (lo hi lo2 hi2 : Nat) : Prop := ∀ q : Nat, (q < lo ∨ hi ≤ q) → (q < lo2 ∨ hi2 ≤ q) → w1 q = w q
theorem off2.trans {w w1 w2 : PW} {lo hi lo2 hi2 : Nat} (h : off2 w w1 lo hi lo2 hi2) (h2 : off2 w1 w2 lo hi lo2 hi2) : off2 w w2 lo hi lo2 hi2 := fun q h3 h4 => (h2 q h3 h4).trans (h q h3 h4)
theorem off_l {w w1 : PW} {lo hi a b : Nat} (h : off w w1 a b) (h1 : lo ≤ a) (h2 : b ≤ hi) (lo2 hi2 : Nat) : off2 w w1 lo hi lo2 hi2 := fun q h3 _ => h q (by omega)
theorem off_r {w w1 : PW} {lo2 hi2 a b : Nat} (h : off w w1 a b) (h1 : lo2 ≤ a) (h2 : b ≤ hi2) (lo hi : Nat) : off2 w w1 lo hi lo2 hi2 := fun q _ h3 => h q (by omega)
theorem off2.mono {w w1 : PW} {lo hi lo2 hi2 a b a2 b2 : Nat} (h : off2 w w1 a b a2 b2) (h1 : lo ≤ a) (h2 : b ≤ hi) (h3 : lo2 ≤ a2) (h4 : b2 ≤ hi2) : off2 w w1 lo hi lo2 hi2 := fun q h5 h6 => h q (by omega) (by omega)
theorem off2.rfl' (w : PW) (a b c d : Nat) : off2 w w a b c d := fun _ _ _ => rfl
theorem off2.cov {w w1 : PW} {lo hi lo2 hi2 a b : Nat} (h : off2 w w1 lo hi lo2 hi2) (h1 : a ≤ lo) (h2 : hi ≤ b) (h3 : a ≤ lo2) (h4 : hi2 ≤ b) : off w w1 a b := fun q h5 => h q (by omega) (by omega)
theorem tx.off2 {w w1 : PW} {t R lo hi lo2 hi2 : Nat} {L : List Int32} (h : tx w t R L) (o : off2 w w1 lo hi lo2 hi2) (d : t + 2 ≤ lo ∨ hi ≤ t) (d2 : t + 2 ≤ lo2 ∨ hi2 ≤ t) : tx w1 t R L := by
  obtain ⟨h0, h1, g, h2, h3⟩ := h
  exact ⟨(o _ (by omega) (by omega)).trans h0, h1, g, (o _ (by omega) (by omega)).trans h2, h3⟩
theorem nt.off2 {w w1 : PW} {a lo hi lo2 hi2 : Nat} {x : Nt} (h : nt w a x) (o : off2 w w1 lo hi lo2 hi2) (d : a + 7 ≤ lo ∨ hi ≤ a) (d2 : a + 7 ≤ lo2 ∨ hi2 ≤ a) : nt w1 a x := by
  obtain ⟨h0, h1, h2, h3, h4⟩ := h
  exact ⟨(o _ (by omega) (by omega)).trans h0, h1.off2 o (by omega) (by omega), h2.off2 o (by omega) (by omega), h3.off2 o (by omega) (by omega), h4⟩
theorem pgo.off2 {w w1 : PW} {g : Nat} {D : List Int32} {h : Nat → Option Nat} {pa : Nat → Nat} {xs : Nat → Nt} {c nx lo hi lo2 hi2 : Nat} (H : pgo w g D h pa xs c nx) (o : off2 w w1 lo hi lo2 hi2) (d : g + 74 ≤ lo ∨ hi ≤ g) (d2 : g + 74 ≤ lo2 ∨ hi2 ≤ g) : pgo w1 g D h pa xs c nx := by
  obtain ⟨h1, h2, h3, h4, ⟨h5, h6⟩, h7, h8⟩ := H
  exact ⟨(o _ (by omega) (by omega)).trans h1, h2.off2 o (by omega) (by omega), h3, h4, ⟨(o _ (by omega) (by omega)).trans h5, h6⟩, h7, fun j hj => (h8 j hj).off2 o (by have := h7.1 j hj; omega) (by have := h7.1 j hj; omega)⟩
/-- the score that a start is good for; -1005: not good enough, or none -/
def elN (x : Nt) (D : List Int32) (thr : Int) (p : Nat) : Int := if gI (bA x D p) < thr then -1005 else gI (bA x D p)
theorem elN_bd {x : Nt} (hx : nOk x) (D : List Int32) {thr : Int} (h0 : 0 ≤ thr) {p : Nat} (hp : p ≤ 200) : elN x D thr p = -1005 ∨ (0 ≤ elN x D thr p ∧ elN x D thr p ≤ 108 ∧ thr ≤ elN x D thr p) := by
  have h := gI_bd hx D hp
  unfold elN
  split
  · exact Or.inl rfl
  · right; omega
/-- the greatest sums from p = 121 - k on -/
def upS (sz : Nat) (sc b : Nat → Int) : Nat → Int
  | 0 => 0
  | k + 1 => if 120 - k < sz ∧ sc (120 - k) ≠ -1005 then max (max (upS sz sc b k) (b (120 - k))) (sc (120 - k) + b (120 - k)) else max (upS sz sc b k) (b (120 - k))
theorem upS_bd {sz : Nat} {sc b : Nat → Int} {B : Int} (h0 : 0 ≤ B) (hs : ∀ p, p < sz → sc p ≤ 108) (hb : ∀ p, p ≤ 120 → 0 ≤ b p ∧ b p ≤ B) : ∀ k, 0 ≤ upS sz sc b k ∧ upS sz sc b k ≤ B + 108 := by
  intro k
  induction k with
  | zero => simp only [upS]; omega
  | succ k ih =>
    have h1 := hb (120 - k) (by omega)
    simp only [upS]
    split
    · rename_i h2
      have h3 := hs _ h2.1
      omega
    · omega
/-- choosing: the greatest score and its start, of the first k starts from 'from' on -/
def chS (sc b : Nat → Int) (tot : Int) (fr : Nat) : Nat → Int × Int
  | 0 => (-1005, -1005)
  | k + 1 => if (chS sc b tot fr k).1 < sc (fr + k) ∧ sc (fr + k) + b (fr + k) = tot then (sc (fr + k), ((fr + k : Nat) : Int)) else chS sc b tot fr k
theorem chS_bd (sc b : Nat → Int) (tot : Int) (fr : Nat) : ∀ k, ((chS sc b tot fr k) = (-1005, -1005)) ∨ ∃ p, fr ≤ p ∧ p < fr + k ∧ (chS sc b tot fr k) = (sc p, (p : Int)) := by
  intro k
  induction k with
  | zero => exact Or.inl rfl
  | succ k ih =>
    simp only [chS]
    split
    · exact Or.inr ⟨fr + k, by omega, by omega, rfl⟩
    · rcases ih with h | ⟨p, h1, h2, h3⟩
      · exact Or.inl h
      · exact Or.inr ⟨p, h1, by omega, h3⟩
/-- the least place p up to k such that from p on, up to k, c holds -/
def dnL (c : Nat → Bool) : Nat → Nat
  | 0 => 0
  | p + 1 => if c p = true then dnL c p else p + 1
theorem dnL_le (c : Nat → Bool) : ∀ k, dnL c k ≤ k := by
  intro k
  induction k with
  | zero => exact Nat.le_refl _
  | succ k ih => simp only [dnL]; split <;> omega
def insF (l : List Nt) (o : Nat → Nat) (c k : Nat) : Nat → Nat := fun j => if j < dnL (fun p => decide (nB (lg l k) < nB (lg l (o p)))) c then o j else if j = dnL (fun p => decide (nB (lg l k) < nB (lg l (o p)))) c then k else o (j - 1)
/-- the orphans among the first k, in their order -/
def gaN (l : List Nt) : Nat → (Nat → Nat) × Nat
  | 0 => (fun _ => 0, 0)
  | k + 1 => if nK (lg l k) = true then gaN l k else (insF l (gaN l k).1 (gaN l k).2 k, (gaN l k).2 + 1)
theorem gaN_le (l : List Nt) : ∀ k, (gaN l k).2 ≤ k := by
  intro k
  induction k with
  | zero => exact Nat.le_refl _
  | succ k ih => simp only [gaN]; split <;> (try simp only) <;> omega
theorem gaN_lt (l : List Nt) : ∀ k j, j < (gaN l k).2 → (gaN l k).1 j < k := by
  intro k
  induction k with
  | zero => intro j hj; simp [gaN] at hj
  | succ k ih =>
    intro j hj
    simp only [gaN] at hj ⊢
    split
    · rename_i h; rw [if_pos h] at hj; have := ih j hj; omega
    · rename_i h
      rw [if_neg h] at hj
      simp only at hj ⊢
      have hd := dnL_le (fun p => decide (nB (lg l k) < nB (lg l ((gaN l k).1 p)))) (gaN l k).2
      simp only [insF]
      split
      · rename_i h2; have := ih j (by omega); omega
      · split
        · omega
        · rename_i h2 h3; have := ih (j - 1) (by omega); omega
/-- sums of the orphan i and those behind it (k of them), if none starts ahead of p -/
def smN (l : List Nt) (D : List Int32) (thr : Int) (o : Nat → Nat) (c : Nat) : Nat → Nat → Int
  | 0 => fun _ => 0
  | k + 1 => fun p => upS D.length (elN (lg l (o (c - (k + 1)))) D thr) (smN l D thr o c k) (121 - p)
theorem smN_bd {l : List Nt} (hl : ∀ j, j < l.length → nOk (lg l j)) {D : List Int32} (hD : D.length ≤ 120) {thr : Int} (h0 : 0 ≤ thr) {o : Nat → Nat} {c : Nat} (ho : ∀ j, j < c → o j < l.length) : ∀ k, k ≤ c → ∀ p, 0 ≤ smN l D thr o c k p ∧ smN l D thr o c k p ≤ 108 * (k : Int) := by
  intro k
  induction k with
  | zero => intro _ p; simp [smN]
  | succ k ih =>
    intro hk p
    have hx := hl _ (ho (c - (k + 1)) (by omega))
    have := upS_bd (sz := D.length) (sc := elN (lg l (o (c - (k + 1)))) D thr) (b := smN l D thr o c k) (B := 108 * (k : Int)) (by omega) (fun p hp => by rcases elN_bd hx D h0 (p := p) (by omega) with h | h <;> omega) (fun p _ => ih (by omega) p) (121 - p)
    simp only [smN]
    push_cast
    omega
/-- the start that the orphan i gets, if those before it got what they got -/
def stN (l : List Nt) (D : List Int32) (thr : Int) (o : Nat → Nat) (c i fr : Nat) : Int := (chS (elN (lg l (o i)) D thr) (smN l D thr o c (c - (i + 1))) (smN l D thr o c (c - i) fr) fr (D.length - fr)).2
/-- attaching as planned: i orphans done: comments, where the next may start, how many are attached -/
def coN (l : List Nt) (D : List Int32) (thr : Int) (o : Nat → Nat) (c : Nat) : Nat → List Nt × Nat × Nat
  | 0 => (l, 0, 0)
  | i + 1 =>
    if stN l D thr o c i (coN l D thr o c i).2.1 = -1005 then coN l D thr o c i
    else ((coN l D thr o c i).1.set (o i) (atN (stN l D thr o c i (coN l D thr o c i).2.1).toNat (gE (stN l D thr o c i (coN l D thr o c i).2.1).toNat (bA (lg l (o i)) D (stN l D thr o c i (coN l D thr o c i).2.1).toNat)).toNat (lg (coN l D thr o c i).1 (o i))), (stN l D thr o c i (coN l D thr o c i).2.1).toNat, (coN l D thr o c i).2.2 + 1)
theorem coN_no {l : List Nt} {D : List Int32} {thr : Int} {o : Nat → Nat} {c i : Nat} (h : stN l D thr o c i (coN l D thr o c i).2.1 = -1005) : coN l D thr o c (i + 1) = coN l D thr o c i := by
  simp only [coN]; rw [if_pos h]
theorem coN_yes {l : List Nt} {D : List Int32} {thr : Int} {o : Nat → Nat} {c i s : Nat} (h : stN l D thr o c i (coN l D thr o c i).2.1 = (s : Int)) : coN l D thr o c (i + 1) = ((coN l D thr o c i).1.set (o i) (atN s (gE s (bA (lg l (o i)) D s)).toNat (lg (coN l D thr o c i).1 (o i))), s, (coN l D thr o c i).2.2 + 1) := by
  have h2 : ¬ stN l D thr o c i (coN l D thr o c i).2.1 = -1005 := by omega
  have h3 : (stN l D thr o c i (coN l D thr o c i).2.1).toNat = s := by omega
  simp only [coN]; rw [if_neg h2, h3]
theorem coN_len (l : List Nt) (D : List Int32) (thr : Int) (o : Nat → Nat) (c : Nat) : ∀ i, (coN l D thr o c i).1.length = l.length := by
  intro i
  induction i with
  | zero => rfl
  | succ i ih => simp only [coN]; split <;> simp [ih]
theorem coN_cnt (l : List Nt) (D : List Int32) (thr : Int) (o : Nat → Nat) (c : Nat) : ∀ i, (coN l D thr o c i).2.2 ≤ i := by
  intro i
  induction i with
  | zero => exact Nat.le_refl _
  | succ i ih => simp only [coN]; split <;> (try simp only) <;> omega
theorem upS_congr {sz : Nat} {sc sc' b b' : Nat → Int} (hs : ∀ p, p < sz → sc p = sc' p) (hb : ∀ p, p ≤ 120 → b p = b' p) : ∀ k, upS sz sc b k = upS sz sc' b' k := by
  intro k
  induction k with
  | zero => rfl
  | succ k ih =>
    simp only [upS]
    rw [ih, hb (120 - k) (by omega)]
    by_cases h : 120 - k < sz
    · rw [hs _ h]
    · simp only [h, false_and, if_false]
theorem chS_congr {sz : Nat} {sc sc' b b' : Nat → Int} {tot : Int} {fr : Nat} (hs : ∀ p, p < sz → sc p = sc' p) (hb : ∀ p, p ≤ 120 → b p = b' p) (hz : sz ≤ 120) : ∀ k, (k = 0 ∨ fr + k ≤ sz) → chS sc b tot fr k = chS sc' b' tot fr k := by
  intro k
  induction k with
  | zero => intro _; rfl
  | succ k ih =>
    intro hk
    have h : fr + k < sz := by omega
    simp only [chS]
    rw [ih (by omega), hs _ h, hb _ (by omega)]
/-! Choices at q .. q + 3 -/
def chp (w : PW) (q sz : Nat) (sc en sm : Nat → Int) : Prop := w q = some (eO 0 [.ref (q + 1), .ref (q + 2), .ref (q + 3), .int (iI ((sz : Nat) : Int))]) ∧ w (q + 1) = some (eI 120 (fun ii => iI (sc ii))) ∧ w (q + 2) = some (eI 120 (fun ii => iI (en ii))) ∧ w (q + 3) = some (eI 121 (fun ii => iI (sm ii)))
theorem chp.off {w w1 : PW} {q sz lo hi : Nat} {sc en sm : Nat → Int} (h : chp w q sz sc en sm) (o : off w w1 lo hi) (d : q + 4 ≤ lo ∨ hi ≤ q) : chp w1 q sz sc en sm := by
  obtain ⟨h0, h1, h2, h3⟩ := h
  exact ⟨(o _ (by omega)).trans h0, (o _ (by omega)).trans h1, (o _ (by omega)).trans h2, (o _ (by omega)).trans h3⟩
theorem chp.off2 {w w1 : PW} {q sz lo hi lo2 hi2 : Nat} {sc en sm : Nat → Int} (h : chp w q sz sc en sm) (o : off2 w w1 lo hi lo2 hi2) (d : q + 4 ≤ lo ∨ hi ≤ q) (d2 : q + 4 ≤ lo2 ∨ hi2 ≤ q) : chp w1 q sz sc en sm := by
  obtain ⟨h0, h1, h2, h3⟩ := h
  exact ⟨(o _ (by omega) (by omega)).trans h0, (o _ (by omega) (by omega)).trans h1, (o _ (by omega) (by omega)).trans h2, (o _ (by omega) (by omega)).trans h3⟩
/-- the choices of the orphans k .. c are made -/
def chOk (l : List Nt) (D : List Int32) (thr : Int) (o : Nat → Nat) (c j sz : Nat) (sc en sm : Nat → Int) : Prop := (∀ p, p ≤ 120 → sm p = smN l D thr o c (c - j) p) ∧ (j < c → sz = D.length ∧ ∀ p, p < D.length → sc p = elN (lg l (o j)) D thr p ∧ en p = gE p (bA (lg l (o j)) D p))
def chG (w : PW) (pl : Nat) (l : List Nt) (D : List Int32) (thr : Int) (o : Nat → Nat) (c k : Nat) : Prop := ∀ j, j < 11 → ∃ (sz : Nat) (sc en sm : Nat → Int), chp w (pl + 10 + 4 * j) sz sc en sm ∧ (k ≤ j → j ≤ c → chOk l D thr o c j sz sc en sm)
def chA (w : PW) (pl : Nat) : Prop := ∀ j, j < 11 → ∃ (sz : Nat) (sc en sm : Nat → Int), chp w (pl + 10 + 4 * j) sz sc en sm
theorem chG.off {w w1 : PW} {pl : Nat} {l : List Nt} {D : List Int32} {thr : Int} {o : Nat → Nat} {c k lo hi : Nat} (h : chG w pl l D thr o c k) (of : off w w1 lo hi) (d : pl + 54 ≤ lo ∨ hi ≤ pl + 10) : chG w1 pl l D thr o c k := fun j hj => let ⟨sz, sc, en, sm, h1, h2⟩ := h j hj; ⟨sz, sc, en, sm, h1.off of (by omega), h2⟩
theorem chA.off {w w1 : PW} {pl lo hi : Nat} (h : chA w pl) (of : off w w1 lo hi) (d : pl + 54 ≤ lo ∨ hi ≤ pl + 10) : chA w1 pl := fun j hj => let ⟨sz, sc, en, sm, h1⟩ := h j hj; ⟨sz, sc, en, sm, h1.off of (by omega)⟩
theorem chG.all {w : PW} {pl : Nat} {l : List Nt} {D : List Int32} {thr : Int} {o : Nat → Nat} {c k : Nat} (h : chG w pl l D thr o c k) : chA w pl := fun j hj => let ⟨sz, sc, en, sm, h1, _⟩ := h j hj; ⟨sz, sc, en, sm, h1⟩
theorem chS_hi (sc b : Nat → Int) (tot : Int) (fr : Nat) : ∀ k, (chS sc b tot fr k = (-1005, -1005)) ∨ ∃ p, fr ≤ p ∧ p < fr + k ∧ chS sc b tot fr k = (sc p, (p : Int)) ∧ -1005 < sc p := by
  intro k
  induction k with
  | zero => exact Or.inl rfl
  | succ k ih =>
    simp only [chS]
    split
    · rename_i h
      refine Or.inr ⟨fr + k, by omega, by omega, rfl, ?_⟩
      rcases ih with h2 | ⟨p, h1, h2, h3, h4⟩
      · rw [h2] at h; exact h.1
      · rw [h3] at h; have := h.1; simp only at this; omega
    · rcases ih with h | ⟨p, h1, h2, h3, h4⟩
      · exact Or.inl h
      · exact Or.inr ⟨p, h1, by omega, h3, h4⟩
theorem stN_cases (l : List Nt) (D : List Int32) (thr : Int) (o : Nat → Nat) (c i fr : Nat) : stN l D thr o c i fr = -1005 ∨ ∃ s : Nat, stN l D thr o c i fr = (s : Int) ∧ fr ≤ s ∧ s < D.length ∧ elN (lg l (o i)) D thr s ≠ -1005 := by
  unfold stN
  rcases chS_hi (elN (lg l (o i)) D thr) (smN l D thr o c (c - (i + 1))) (smN l D thr o c (c - i) fr) fr (D.length - fr) with h | ⟨p, h1, h2, h3, h4⟩
  · rw [h]; exact Or.inl rfl
  · rw [h3]; exact Or.inr ⟨p, rfl, h1, by omega, by omega⟩
theorem elN_ne {x : Nt} (hx : nOk x) {D : List Int32} {thr : Int} (h0 : 0 ≤ thr) {s : Nat} (hs : s ≤ 200) (h : elN x D thr s ≠ -1005) : ∃ e : Nat, gE s (bA x D s) = (e : Int) ∧ s < e ∧ e ≤ D.length := by
  unfold elN at h
  split at h
  · exact absurd rfl h
  · rename_i h2
    cases h3 : bA x D s with
    | none => rw [h3] at h2; simp only [gI] at h2; omega
    | some p => have := bA_bd hx D hs h3; exact ⟨s + p.2, rfl, by omega, by omega⟩
/-! the Planner at pl .. pl + 53 -/
def plo (w : PW) (pl c : Nat) (oh ch : Nat → Option Nat) : Prop := w pl = some (eO 5 [.ref (pl + 1), .ref (pl + 2), .int (iI ((c : Nat) : Int))]) ∧ w (pl + 1) = some (eQ 3 10 oh) ∧ w (pl + 2) = some (eQ 2 11 ch) ∧ ∀ j, j < 11 → ch j = some (pl + 10 + 4 * j)
theorem plo.off {w w1 : PW} {pl c lo hi : Nat} {oh ch : Nat → Option Nat} (h : plo w pl c oh ch) (o : off w w1 lo hi) (d : pl + 3 ≤ lo ∨ hi ≤ pl) : plo w1 pl c oh ch := by
  obtain ⟨h0, h1, h2, h3⟩ := h
  exact ⟨(o _ (by omega)).trans h0, (o _ (by omega)).trans h1, (o _ (by omega)).trans h2, h3⟩
theorem plo.off2 {w w1 : PW} {pl c lo hi lo2 hi2 : Nat} {oh ch : Nat → Option Nat} (h : plo w pl c oh ch) (o : off2 w w1 lo hi lo2 hi2) (d : pl + 3 ≤ lo ∨ hi ≤ pl) (d2 : pl + 3 ≤ lo2 ∨ hi2 ≤ pl) : plo w1 pl c oh ch := by
  obtain ⟨h0, h1, h2, h3⟩ := h
  exact ⟨(o _ (by omega) (by omega)).trans h0, (o _ (by omega) (by omega)).trans h1, (o _ (by omega) (by omega)).trans h2, h3⟩
