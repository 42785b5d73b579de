/-! the readers: the state stays; what they answer -/
theorem rd_length (B D : List Int32) (l : List Nt) (nx : Nat) (hs : List Pg) (s0 s1 : Option (Pg × Int)) (thr : Int)  : (oLen B D l nx hs s0 s1 thr ).2 = (B, (D, l, nx), hs, s0, s1, thr) := by
  unfold oLen
  repeat (first | rfl | split)
theorem rd_letter (B D : List Int32) (l : List Nt) (nx : Nat) (hs : List Pg) (s0 s1 : Option (Pg × Int)) (thr : Int) (z : Int) : (oLet B D l nx hs s0 s1 thr z).2 = (B, (D, l, nx), hs, s0, s1, thr) := by
  unfold oLet
  repeat (first | rfl | split)
theorem rd_comments (B D : List Int32) (l : List Nt) (nx : Nat) (hs : List Pg) (s0 s1 : Option (Pg × Int)) (thr : Int)  : (oCnt B D l nx hs s0 s1 thr ).2 = (B, (D, l, nx), hs, s0, s1, thr) := by
  unfold oCnt
  repeat (first | rfl | split)
theorem rd_commentAt (B D : List Int32) (l : List Nt) (nx : Nat) (hs : List Pg) (s0 s1 : Option (Pg × Int)) (thr : Int) (z : Int) : (oAt B D l nx hs s0 s1 thr z).2 = (B, (D, l, nx), hs, s0, s1, thr) := by
  unfold oAt
  repeat (first | rfl | split)
theorem rd_state (B D : List Int32) (l : List Nt) (nx : Nat) (hs : List Pg) (s0 s1 : Option (Pg × Int)) (thr : Int) (z : Int) : (oSta B D l nx hs s0 s1 thr z).2 = (B, (D, l, nx), hs, s0, s1, thr) := by
  unfold oSta
  repeat (first | rfl | split)
theorem rd_weight (B D : List Int32) (l : List Nt) (nx : Nat) (hs : List Pg) (s0 s1 : Option (Pg × Int)) (thr : Int) (z : Int) : (oWei B D l nx hs s0 s1 thr z).2 = (B, (D, l, nx), hs, s0, s1, thr) := by
  unfold oWei
  repeat (first | rfl | split)
theorem rd_quoted (B D : List Int32) (l : List Nt) (nx : Nat) (hs : List Pg) (s0 s1 : Option (Pg × Int)) (thr : Int) (z p i : Int) : (oQtd B D l nx hs s0 s1 thr z p i).2 = (B, (D, l, nx), hs, s0, s1, thr) := by
  unfold oQtd
  repeat (first | rfl | split)
theorem rd_distance (B D : List Int32) (l : List Nt) (nx : Nat) (hs : List Pg) (s0 s1 : Option (Pg × Int)) (thr : Int) (z : Int) : (oDis B D l nx hs s0 s1 thr z).2 = (B, (D, l, nx), hs, s0, s1, thr) := by
  unfold oDis
  repeat (first | rfl | split)
theorem rd_score (B D : List Int32) (l : List Nt) (nx : Nat) (hs : List Pg) (s0 s1 : Option (Pg × Int)) (thr : Int) (z f t : Int) : (oSco B D l nx hs s0 s1 thr z f t).2 = (B, (D, l, nx), hs, s0, s1, thr) := by
  unfold oSco
  repeat (first | rfl | split)
theorem rd_best (B D : List Int32) (l : List Nt) (nx : Nat) (hs : List Pg) (s0 s1 : Option (Pg × Int)) (thr : Int) (z k : Int) : (oBes B D l nx hs s0 s1 thr z k).2 = (B, (D, l, nx), hs, s0, s1, thr) := by
  unfold oBes
  repeat (first | rfl | split)
theorem rd_overlap (B D : List Int32) (l : List Nt) (nx : Nat) (hs : List Pg) (s0 s1 : Option (Pg × Int)) (thr : Int) (z y : Int) : (oOve B D l nx hs s0 s1 thr z y).2 = (B, (D, l, nx), hs, s0, s1, thr) := by
  unfold oOve
  repeat (first | rfl | split)
theorem rd_covering (B D : List Int32) (l : List Nt) (nx : Nat) (hs : List Pg) (s0 s1 : Option (Pg × Int)) (thr : Int) (z r : Int) : (oCov B D l nx hs s0 s1 thr z r).2 = (B, (D, l, nx), hs, s0, s1, thr) := by
  unfold oCov
  repeat (first | rfl | split)
theorem rd_range (B D : List Int32) (l : List Nt) (nx : Nat) (hs : List Pg) (s0 s1 : Option (Pg × Int)) (thr : Int) (z : Int) (b : Bool) : (oRan B D l nx hs s0 s1 thr z b).2 = (B, (D, l, nx), hs, s0, s1, thr) := by
  unfold oRan
  repeat (first | rfl | split)
theorem runL_stop {c : Nat → Bool} : ∀ (d k a : Nat), (∀ j, j < d → c (a + j) = true) → d < k → c (a + d) = false → runL c k a = a + d := by
  intro d
  induction d with
  | zero =>
    intro k a _ hk h
    obtain ⟨k, rfl⟩ : ∃ k', k = k' + 1 := ⟨k - 1, by omega⟩
    simp only [runL]
    rw [if_neg (by rw [show a = a + 0 from rfl, h]; decide)]; rfl
  | succ d ih =>
    intro k a h1 hk h
    obtain ⟨k, rfl⟩ : ∃ k', k = k' + 1 := ⟨k - 1, by omega⟩
    simp only [runL]
    rw [if_pos (show c a = true from h1 0 (by omega)), ih k (a + 1) (fun j hj => by rw [show a + 1 + j = a + (j + 1) by omega]; exact h1 (j + 1) (by omega)) (by omega) (by rw [show a + 1 + d = a + (d + 1) by omega]; exact h)]
    omega
theorem runL_all {c : Nat → Bool} : ∀ (k a : Nat), (∀ j, j < k → c (a + j) = true) → runL c k a = a + k := by
  intro k
  induction k with
  | zero => intro a _; rfl
  | succ k ih =>
    intro a h
    simp only [runL]
    rw [if_pos (show c a = true from h 0 (by omega)), ih (a + 1) (fun j hj => by rw [show a + 1 + j = a + (j + 1) by omega]; exact h (j + 1) (by omega))]
    omega
theorem ixN_self {D : List Int32} {nx : Nat} {l : List Nt} (h : lOk D nx l) {i : Nat} (hi : i < l.length) : ixN l ((nNum (lg l i) : Nat) : Int) = i := by
  have h1 := runL_stop (c := fun j => !decide (((nNum (lg l j) : Nat) : Int) = ((nNum (lg l i) : Nat) : Int))) i l.length 0 (fun j hj => by
    have h2 := h.2 j i hj hi
    simp only [Nat.zero_add]
    rw [decide_eq_false (by omega)]; rfl) hi (by simp)
  unfold ixN
  rw [h1, Nat.zero_add]
theorem ixN_none {l : List Nt} {z : Int} (h : ∀ j, j < l.length → ((nNum (lg l j) : Nat) : Int) ≠ z) : ixN l z = l.length := by
  have h1 := runL_all (c := fun j => !decide (((nNum (lg l j) : Nat) : Int) = z)) l.length 0 (fun j hj => by
    simp only [Nat.zero_add]
    rw [decide_eq_false (h j hj)]; rfl)
  unfold ixN
  rw [h1, Nat.zero_add]
theorem posN_nat {D : List Int32} {p : Nat} (h : p ≤ D.length) : posN D ((p : Nat) : Int) = true := decide_eq_true (by omega)
theorem e_At (B D : List Int32) (l : List Nt) (nx : Nat) (hs : List Pg) (s0 s1 : Option (Pg × Int)) (thr : Int) {j : Nat} (h : j < l.length) : (oAt B D l nx hs s0 s1 thr ((j : Nat) : Int)).1 = iI ((nNum (lg l j) : Nat) : Int) := by
  unfold oAt; rw [if_neg (by omega)]; rfl
theorem e_AtO (B D : List Int32) (l : List Nt) (nx : Nat) (hs : List Pg) (s0 s1 : Option (Pg × Int)) (thr : Int) {z : Int} (h : z < 0 ∨ (l.length : Int) ≤ z) : (oAt B D l nx hs s0 s1 thr z).1 = iI (-1001) := by
  unfold oAt; rw [if_pos h]
theorem e_Ran (B D : List Int32) (l : List Nt) (nx : Nat) (hs : List Pg) (s0 s1 : Option (Pg × Int)) (thr : Int) {z : Int} {i : Nat} (hx : ixN l z = i) (hi : i < l.length) (b : Bool) : (oRan B D l nx hs s0 s1 thr z b).1 = iI ((if b = true then nE (lg l i) else nB (lg l i) : Nat) : Int) := by
  unfold oRan; rw [hx, if_neg (by omega)]
theorem e_Sta (B D : List Int32) (l : List Nt) (nx : Nat) (hs : List Pg) (s0 s1 : Option (Pg × Int)) (thr : Int) {z : Int} {i : Nat} (hx : ixN l z = i) (hi : i < l.length) : (oSta B D l nx hs s0 s1 thr z).1 = bI (nK (lg l i)) := by
  unfold oSta; rw [hx, if_neg (by omega)]
theorem e_Wei (B D : List Int32) (l : List Nt) (nx : Nat) (hs : List Pg) (s0 s1 : Option (Pg × Int)) (thr : Int) {z : Int} {i : Nat} (hx : ixN l z = i) (hi : i < l.length) : (oWei B D l nx hs s0 s1 thr z).1 = nW (lg l i) := by
  unfold oWei; rw [hx, if_neg (by omega)]
theorem e_Qtd3 (B D : List Int32) (l : List Nt) (nx : Nat) (hs : List Pg) (s0 s1 : Option (Pg × Int)) (thr : Int) {z : Int} {i : Nat} (hx : ixN l z = i) (hi : i < l.length) : (oQtd B D l nx hs s0 s1 thr z 3 0).1 = iI (-1002) := by
  unfold oQtd; rw [hx, if_neg (by omega), if_pos (by omega)]
theorem e_Qtd1 (B D : List Int32) (l : List Nt) (nx : Nat) (hs : List Pg) (s0 s1 : Option (Pg × Int)) (thr : Int) {z : Int} {i : Nat} (hx : ixN l z = i) (hi : i < l.length) {j : Nat} (hj : j < (nQ (lg l i)).length) : (oQtd B D l nx hs s0 s1 thr z 1 ((j : Nat) : Int)).1 = (nQ (lg l i)).getD j 0 := by
  unfold oQtd
  rw [hx, if_neg (by omega), if_neg (by omega)]
  have e1 : prtN (lg l i) 1 = nQ (lg l i) := by unfold prtN; rw [if_neg (by decide), if_pos rfl]
  rw [e1, if_neg (by omega)]; rfl
theorem e_Dis (B D : List Int32) (l : List Nt) (nx : Nat) (hs : List Pg) (s0 s1 : Option (Pg × Int)) (thr : Int) {z : Int} {i : Nat} (hx : ixN l z = i) (hi : i < l.length) (hk : nK (lg l i) = true) : (oDis B D l nx hs s0 s1 thr z).1 = iI ((edD (nQ (lg l i)) D (nB (lg l i)) (nE (lg l i)) : Nat) : Int) := by
  unfold oDis; rw [hx, if_neg (by omega), if_neg (by rw [hk]; decide)]
theorem e_Sco (B D : List Int32) (l : List Nt) (nx : Nat) (hs : List Pg) (s0 s1 : Option (Pg × Int)) (thr : Int) {z : Int} {i : Nat} (hx : ixN l z = i) (hi : i < l.length) {f t : Nat} (h1 : f < t) (h2 : t ≤ D.length) (h3 : t ≤ f + 30) : (oSco B D l nx hs s0 s1 thr z ((f : Nat) : Int) ((t : Nat) : Int)).1 = iI (scN (lg l i) D f t (edD (nQ (lg l i)) D f t)) := by
  have e1 : rngN D ((f : Nat) : Int) ((t : Nat) : Int) 30 = true := decide_eq_true (by omega)
  have e2 := posN_nat (D := D) (p := f) (by omega)
  have e3 : ¬ (l.length ≤ i ∨ posN D ((f : Nat) : Int) = false) := by rw [e2]; intro h; rcases h with h | h; exact absurd hi (by omega); cases h
  unfold oSco
  rw [hx, if_neg e3, if_neg (by rw [e1]; decide)]; rfl
theorem e_Bes0 (B D : List Int32) (l : List Nt) (nx : Nat) (hs : List Pg) (s0 s1 : Option (Pg × Int)) (thr : Int) {z : Int} {i : Nat} (hx : ixN l z = i) (hi : i < l.length) : (oBes B D l nx hs s0 s1 thr z 0).1 = iI (gB0 (fB (lg l i) D)) := by
  unfold oBes; rw [hx, if_neg (by omega), if_neg (by decide)]; rfl
theorem e_Bes1 (B D : List Int32) (l : List Nt) (nx : Nat) (hs : List Pg) (s0 s1 : Option (Pg × Int)) (thr : Int) {z : Int} {i : Nat} (hx : ixN l z = i) (hi : i < l.length) : (oBes B D l nx hs s0 s1 thr z 1).1 = iI (gB1 (fB (lg l i) D)) := by
  unfold oBes; rw [hx, if_neg (by omega), if_neg (by decide)]; rfl
theorem e_Bes2 (B D : List Int32) (l : List Nt) (nx : Nat) (hs : List Pg) (s0 s1 : Option (Pg × Int)) (thr : Int) {z : Int} {i : Nat} (hx : ixN l z = i) (hi : i < l.length) : (oBes B D l nx hs s0 s1 thr z 2).1 = iI (gB2 (fB (lg l i) D)) := by
  unfold oBes; rw [hx, if_neg (by omega), if_neg (by decide)]; rfl
theorem e_Ove (B D : List Int32) (l : List Nt) (nx : Nat) (hs : List Pg) (s0 s1 : Option (Pg × Int)) (thr : Int) {z : Int} {i : Nat} (hx : ixN l z = i) (hi : i < l.length) (h1 : nB (lg l i) ≤ nE (lg l i)) : (oOve B D l nx hs s0 s1 thr z z).1 = iI ((nE (lg l i) : Int) - (nB (lg l i) : Int)) := by
  unfold oOve; rw [hx, if_neg (by omega)]
  unfold ovN
  rw [show max 0 (min (nE (lg l i) : Int) (nE (lg l i)) - max (nB (lg l i) : Int) (nB (lg l i))) = (nE (lg l i) : Int) - (nB (lg l i) : Int) by omega]
theorem e_Let (B D : List Int32) (l : List Nt) (nx : Nat) (hs : List Pg) (s0 s1 : Option (Pg × Int)) (thr : Int) {p : Nat} (h : p < D.length) : (oLet B D l nx hs s0 s1 thr ((p : Nat) : Int)).1 = D.getD p 0 := by
  unfold oLet
  rw [if_neg (by have e1 : letN D ((p : Nat) : Int) = true := decide_eq_true (by omega)
                 rw [e1]; decide)]; rfl
theorem e_Thr (B D : List Int32) (l : List Nt) (nx : Nat) (hs : List Pg) (s0 s1 : Option (Pg × Int)) (thr : Int) {z : Int} (h : 0 ≤ z ∧ z ≤ 108) : oThr B D l nx hs s0 s1 thr z = (iI thr, (B, (D, l, nx), hs, s0, s1, z)) := by
  unfold oThr; rw [if_neg (by omega)]
theorem e_InsE (B D : List Int32) (l : List Nt) (nx : Nat) (hs : List Pg) (s0 s1 : Option (Pg × Int)) (thr : Int) {z : Int} (h : posN D z = false) : oIns B D l nx hs s0 s1 thr z = (iI (-1001), (B, (D, l, nx), hs, s0, s1, thr)) := by
  unfold oIns; rw [if_pos h]
theorem e_DelE (B D : List Int32) (l : List Nt) (nx : Nat) (hs : List Pg) (s0 s1 : Option (Pg × Int)) (thr : Int)  : oDel B D l nx hs s0 s1 thr 0 (-1) = (iI (-1002), (B, (D, l, nx), hs, s0, s1, thr)) := by
  unfold oDel; rw [if_neg (by rw [show (0 : Int) = ((0 : Nat) : Int) from rfl, posN_nat (Nat.zero_le _)]; decide), if_pos (by omega)]
theorem e_ComE (B D : List Int32) (l : List Nt) (nx : Nat) (hs : List Pg) (s0 s1 : Option (Pg × Int)) (thr : Int)  : oCom B D l nx hs s0 s1 thr 0 0 = (iI (-1002), (B, (D, l, nx), hs, s0, s1, thr)) := by
  unfold oCom; rw [if_neg (by rw [show (0 : Int) = ((0 : Nat) : Int) from rfl, posN_nat (Nat.zero_le _)]; decide), if_pos (show rngN D 0 0 16 = false from decide_eq_false (by omega))]
theorem e_RemE (B D : List Int32) (l : List Nt) (nx : Nat) (hs : List Pg) (s0 s1 : Option (Pg × Int)) (thr : Int) {z : Int} (h : ixN l z = l.length) : oRem B D l nx hs s0 s1 thr z = (iI (-1001), (B, (D, l, nx), hs, s0, s1, thr)) := by
  unfold oRem; rw [if_pos (by omega)]
theorem e_AttE (B D : List Int32) (l : List Nt) (nx : Nat) (hs : List Pg) (s0 s1 : Option (Pg × Int)) (thr : Int) {z : Int} (h : ixN l z = l.length) : oAtt B D l nx hs s0 s1 thr z = (iI (-1001), (B, (D, l, nx), hs, s0, s1, thr)) := by
  unfold oAtt; rw [if_pos (by omega)]
theorem e_BesE (B D : List Int32) (l : List Nt) (nx : Nat) (hs : List Pg) (s0 s1 : Option (Pg × Int)) (thr : Int) {z k : Int} (h : ixN l z = l.length) : oBes B D l nx hs s0 s1 thr z k = (iI (-1001), (B, (D, l, nx), hs, s0, s1, thr)) := by
  unfold oBes; rw [if_pos (by omega)]
theorem e_CovE (B D : List Int32) (l : List Nt) (nx : Nat) (hs : List Pg) (s0 s1 : Option (Pg × Int)) (thr : Int) {l2 : Int} (h : l2 = (D.length : Int)) : oCov B D l nx hs s0 s1 thr (l2 : Int) 0 = (iI (-1001), (B, (D, l, nx), hs, s0, s1, thr)) := by
  unfold oCov; rw [if_pos (Or.inl (show letN D l2 = false from decide_eq_false (by omega)))]
theorem e_ThrE (B D : List Int32) (l : List Nt) (nx : Nat) (hs : List Pg) (s0 s1 : Option (Pg × Int)) (thr : Int)  : oThr B D l nx hs s0 s1 thr (-1) = (iI (-1002), (B, (D, l, nx), hs, s0, s1, thr)) := by
  unfold oThr; rw [if_pos (by omega)]
theorem e_SavE (B D : List Int32) (l : List Nt) (nx : Nat) (hs : List Pg) (s0 s1 : Option (Pg × Int)) (thr : Int)  : oSav B D l nx hs s0 s1 thr 2 = (iI (-1001), (B, (D, l, nx), hs, s0, s1, thr)) := by
  unfold oSav; rw [if_pos (by omega)]
theorem e_TypE (B D : List Int32) (l : List Nt) (nx : Nat) (hs : List Pg) (s0 s1 : Option (Pg × Int)) (thr : Int)  : oType B D l nx hs s0 s1 thr 31 = (iI (-1002), (B, (D, l, nx), hs, s0, s1, thr)) := by
  unfold oType; rw [if_pos (by omega)]
theorem e_UndE (B D : List Int32) (l : List Nt) (nx : Nat) (hs : List Pg) (s0 s1 : Option (Pg × Int)) (thr : Int) (h : hs.length = 0) : oUndo B D l nx hs s0 s1 thr  = (iI (-1003), (B, (D, l, nx), hs, s0, s1, thr)) := by
  unfold oUndo; rw [if_pos h]
theorem e_ResE (B D : List Int32) (l : List Nt) (nx : Nat) (hs : List Pg) (s0 s1 : Option (Pg × Int)) (thr : Int) (h : s0 = none) : oRes B D l nx hs s0 s1 thr 0 = (iI (-1003), (B, (D, l, nx), hs, s0, s1, thr)) := by
  subst h; unfold oRes; rw [if_neg (by omega)]; rfl
theorem e_Sav0 (B D : List Int32) (l : List Nt) (nx : Nat) (hs : List Pg) (s0 s1 : Option (Pg × Int)) (thr : Int) : oSav B D l nx hs s0 s1 thr 0 = (iI ((l.length : Nat) : Int), (B, (D, l, nx), hs, some ((D, l, nx), thr), s1, thr)) := by
  unfold oSav; rw [if_neg (by omega)]; rfl
theorem e_Sav1 (B D : List Int32) (l : List Nt) (nx : Nat) (hs : List Pg) (s0 s1 : Option (Pg × Int)) (thr : Int) : oSav B D l nx hs s0 s1 thr 1 = (iI ((l.length : Nat) : Int), (B, (D, l, nx), hs, s0, some ((D, l, nx), thr), thr)) := by
  unfold oSav; rw [if_neg (by omega)]; rfl
theorem e_Res0 (B D : List Int32) (l : List Nt) (nx : Nat) (hs : List Pg) (s0 s1 : Option (Pg × Int)) (thr : Int) {p : Pg} {t : Int} (h : s0 = some (p, t)) : oRes B D l nx hs s0 s1 thr 0 = (iI ((p.2.1.length : Nat) : Int), (B, p, [], s0, s1, t)) := by
  subst h; unfold oRes; rw [if_neg (by omega)]; rfl
theorem recH_ne (hs : List Pg) (p : Pg) : 0 < (recH hs p).length := by unfold recH; simp
theorem recH_last (hs : List Pg) (p : Pg) : hg (recH hs p) ((recH hs p).length - 1) = p := by
  unfold recH
  generalize (if hs.length < 6 then hs else hs.drop 1) = m
  rw [show (m ++ [p]).length - 1 = m.length by simp]
  exact hg_app2 m p
theorem e_Und (B D : List Int32) (l : List Nt) (nx : Nat) (hs : List Pg) (s0 s1 : Option (Pg × Int)) (thr : Int) (p : Pg) : oUndo B D l nx (recH hs p) s0 s1 thr = (iI (((recH hs p).length - 1 : Nat) : Int), (B, p, (recH hs p).take ((recH hs p).length - 1), s0, s1, thr)) := by
  unfold oUndo
  rw [if_neg (by have := recH_ne hs p; omega), recH_last]
