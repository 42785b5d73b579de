/-! the model's memory: the object at mo, its rows at mo + 1 .. mo + 11 -/
abbrev mE (mo : Nat) (rg : Nat → Int) : PE := eO 9 [.ref (mo + 1), .ref (mo + 2), .ref (mo + 3), .int (iI (rg 3)), .ref (mo + 4), .ref (mo + 5), .int (iI (rg 6)), .ref (mo + 6), .int (iI (rg 8)), .ref (mo + 7), .int (iI (rg 10)), .int (iI (rg 11)), .int (iI (rg 12)), .int (iI (rg 13)), .int (iI (rg 14)), .ref (mo + 8), .int (iI (rg 16)), .ref (mo + 9), .ref (mo + 10), .ref (mo + 11)]
/-- a text in a row: its length, its letters -/
def vtx (g : Nat → Int32) (b : Nat) (L : List Int32) : Prop := g b = iI ((L.length : Nat) : Int) ∧ ∀ i, i < L.length → g (b + 1 + i) = L.getD i 0
def vnt (g : Nat → Int32) (b : Nat) (x : Nt) : Prop := g b = iI ((nNum x : Nat) : Int) ∧ g (b + 1) = bI (nK x) ∧ g (b + 2) = iI ((nB x : Nat) : Int) ∧ g (b + 3) = iI ((nE x : Nat) : Int) ∧ g (b + 4) = nW x ∧ vtx g (b + 5) (nP x) ∧ vtx g (b + 12) (nQ x) ∧ vtx g (b + 29) (nS x) ∧ (nP x).length ≤ 6 ∧ (nQ x).length ≤ 16 ∧ (nS x).length ≤ 6 ∧ nNum x < 1000000 ∧ nB x ≤ 200 ∧ nE x ≤ 200
def vdp (g : Nat → Int32) (D : List Int32) : Prop := g 0 = iI ((D.length : Nat) : Int) ∧ (∀ i, i < D.length → g (1 + i) = D.getD i 0) ∧ D.length ≤ 120
/-- the comments xs 0 .. xs (c - 1) -/
def vnx (g : Nat → Int32) (xs : Nat → Nt) (c : Nat) : Prop := ∀ k, k < c → vnt g (123 + 36 * k) (xs k)
def vnp (g : Nat → Int32) (l : List Nt) (nx : Nat) : Prop := g 121 = iI ((nx : Nat) : Int) ∧ g 122 = iI ((l.length : Nat) : Int) ∧ l.length ≤ 10 ∧ nx < 1000000 ∧ vnx g (lg l) l.length
def vpg (g : Nat → Int32) (p : Pg) : Prop := vdp g p.1 ∧ vnp g p.2.1 p.2.2
def vpo (g : Nat → Int32) (o : Nat) (p : Pg) : Prop := vpg (fun i => g (o + i)) p
theorem vtx.congr {g g' : Nat → Int32} {b m : Nat} {L : List Int32} (h : vtx g b L) (hl : L.length ≤ m) (e : ∀ i, b ≤ i → i < b + 1 + m → g' i = g i) : vtx g' b L :=
  ⟨(e b (Nat.le_refl _) (by omega)).trans h.1, fun i hi => (e _ (by omega) (by omega)).trans (h.2 i hi)⟩
theorem vnt.congr {g g' : Nat → Int32} {b : Nat} {x : Nt} (h : vnt g b x) (e : ∀ i, b ≤ i → i < b + 36 → g' i = g i) : vnt g' b x := by
  obtain ⟨h0, h1, h2, h3, h4, h5, h6, h7, h8, h9, h10, h11⟩ := h
  exact ⟨(e _ (by omega) (by omega)).trans h0, (e _ (by omega) (by omega)).trans h1, (e _ (by omega) (by omega)).trans h2, (e _ (by omega) (by omega)).trans h3, (e _ (by omega) (by omega)).trans h4,
    h5.congr h8 (fun i h1 h2 => e i (by omega) (by omega)), h6.congr h9 (fun i h1 h2 => e i (by omega) (by omega)), h7.congr h10 (fun i h1 h2 => e i (by omega) (by omega)), h8, h9, h10, h11⟩
/-- another head on the same texts -/
theorem vnt_head {g g' : Nat → Int32} {b : Nat} {x y : Nt} (h : vnt g b x) (e : ∀ i, b + 5 ≤ i → i < b + 36 → g' i = g i) (h0 : g' b = iI ((nNum y : Nat) : Int)) (h1 : g' (b + 1) = bI (nK y)) (h2 : g' (b + 2) = iI ((nB y : Nat) : Int)) (h3 : g' (b + 3) = iI ((nE y : Nat) : Int)) (h4 : g' (b + 4) = nW y) (ht : y.1 = x.1) (hb : nNum y < 1000000 ∧ nB y ≤ 200 ∧ nE y ≤ 200) : vnt g' b y := by
  obtain ⟨-, -, -, -, -, h5, h6, h7, h8, h9, h10, h11⟩ := h
  have e1 : nP y = nP x := by unfold nP; rw [ht]
  have e2 : nQ y = nQ x := by unfold nQ; rw [ht]
  have e3 : nS y = nS x := by unfold nS; rw [ht]
  refine ⟨h0, h1, h2, h3, h4, ?_, ?_, ?_, by rw [e1]; exact h8, by rw [e2]; exact h9, by rw [e3]; exact h10, hb⟩
  · rw [e1]; exact h5.congr h8 (fun i h1 h2 => e i (by omega) (by omega))
  · rw [e2]; exact h6.congr h9 (fun i h1 h2 => e i (by omega) (by omega))
  · rw [e3]; exact h7.congr h10 (fun i h1 h2 => e i (by omega) (by omega))
theorem vdp.congr {g g' : Nat → Int32} {D : List Int32} (h : vdp g D) (e : ∀ i, i ≤ 120 → g' i = g i) : vdp g' D :=
  ⟨(e 0 (by omega)).trans h.1, fun i hi => (e _ (by have := h.2.2; omega)).trans (h.2.1 i hi), h.2.2⟩
theorem vnx.congr {g g' : Nat → Int32} {xs : Nat → Nt} {c : Nat} (h : vnx g xs c) (hc : c ≤ 10) (e : ∀ i, 123 ≤ i → i < 483 → g' i = g i) : vnx g' xs c := fun k hk => (h k hk).congr (fun i h1 h2 => e i (by omega) (by omega))
theorem vnp.congr {g g' : Nat → Int32} {l : List Nt} {nx : Nat} (h : vnp g l nx) (e : ∀ i, 121 ≤ i → i < 483 → g' i = g i) : vnp g' l nx :=
  ⟨(e _ (by omega) (by omega)).trans h.1, (e _ (by omega) (by omega)).trans h.2.1, h.2.2.1, h.2.2.2.1, h.2.2.2.2.congr h.2.2.1 (fun i h1 h2 => e i (by omega) h2)⟩
theorem vpg.congr {g g' : Nat → Int32} {p : Pg} (h : vpg g p) (e : ∀ i, i < 483 → g' i = g i) : vpg g' p := ⟨h.1.congr (fun i hi => e i (by omega)), h.2.congr (fun i _ hi => e i hi)⟩
theorem vpo.congr {g g' : Nat → Int32} {o o' : Nat} {p : Pg} (h : vpo g o p) (e : ∀ i, i < 483 → g' (o' + i) = g (o + i)) : vpo g' o' p := vpg.congr h e
theorem vpo_0 {g : Nat → Int32} {p : Pg} (h : vpo g 0 p) : vpg g p := vpg.congr h (fun i _ => by show g i = g (0 + i); rw [Nat.zero_add])
theorem vpg_o {g : Nat → Int32} {p : Pg} (h : vpg g p) : vpo g 0 p := vpg.congr h (fun i _ => by show g (0 + i) = g i; rw [Nat.zero_add])
def vph (pa : Nat → Int32) (hs : List Pg) : Prop := hs.length ≤ 6 ∧ ∀ j, j < hs.length → vpo pa (483 * j) (hg hs j)
def vsl (ik kp : Nat → Int32) (k o : Nat) (s : Option (Pg × Int)) : Prop := ik k = bI s.isSome ∧ ∀ v, s = some v → vpo kp o v.1 ∧ kp (o + 483) = iI v.2
def vbf (bg : Nat → Int32) (B : List Int32) : Prop := B.length ≤ 40 ∧ ∀ i, i < B.length → bg i = B.getD i 0
/-- the model at mo .. mo + 11 -/
def moE (w : PW) (mo : Nat) (B D : List Int32) (l : List Nt) (nx : Nat) (hs : List Pg) (s0 s1 : Option (Pg × Int)) (thr : Int) : Prop :=
  ∃ (rg : Nat → Int) (g sp pa kp ik bg : Nat → Int32) (ln od : Nat → Nat) (sc le sm : Nat → Int), w mo = some (mE mo rg) ∧ w (mo + 1) = some (eI 483 g) ∧ w (mo + 2) = some (eI 483 sp) ∧ w (mo + 3) = some (eI 2898 pa) ∧ w (mo + 4) = some (eI 968 kp) ∧ w (mo + 5) = some (eZ 2 ik) ∧ w (mo + 6) = some (eI 40 bg) ∧ w (mo + 7) = some (eI 17 (fun ii => iI ((ln ii : Nat) : Int))) ∧ w (mo + 8) = some (eI 10 (fun ii => iI ((od ii : Nat) : Int))) ∧ w (mo + 9) = some (eI 1210 (fun ii => iI (sc ii))) ∧ w (mo + 10) = some (eI 1210 (fun ii => iI (le ii))) ∧ w (mo + 11) = some (eI 1331 (fun ii => iI (sm ii))) ∧
    vpg g (D, l, nx) ∧ rg 3 = (hs.length : Int) ∧ vph pa hs ∧ rg 6 = thr ∧ rg 8 = (B.length : Int) ∧ vbf bg B ∧ vsl ik kp 0 0 s0 ∧ vsl ik kp 1 484 s1
def mo_ (w : PW) (mo : Nat) (S : Fs) : Prop := moE w mo S.1 S.2.1.1 S.2.1.2.1 S.2.1.2.2 S.2.2.1 S.2.2.2.1 S.2.2.2.2.1 S.2.2.2.2.2
