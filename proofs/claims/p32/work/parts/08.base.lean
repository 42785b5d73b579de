/-! small things of the worlds; rules in the forms that the walker lays -/
def off (w w1 : PW) (lo hi : Nat) : Prop := ∀ q : Nat, (q < lo ∨ hi ≤ q) → w1 q = w q
theorem off.rfl' (w : PW) (lo hi : Nat) : off w w lo hi := fun _ _ => rfl
theorem off.mono {w w1 : PW} {lo hi lo' hi' : Nat} (h : off w w1 lo hi) (h1 : lo' ≤ lo) (h2 : hi ≤ hi') : off w w1 lo' hi' := fun q hq => h q (by omega)
theorem off.trans {w w1 w2 : PW} {lo hi : Nat} (h : off w w1 lo hi) (h2 : off w1 w2 lo hi) : off w w2 lo hi := fun q hq => (h2 q hq).trans (h q hq)
theorem pset_off {w w1 : PW} {a : Nat} {e : PE} (h : w1 = pset w a e) : off w w1 a (a + 1) := fun q hq => by rw [h]; exact pset_ne w e (by omega)
def updZ (F : Nat → Int) (k : Nat) (x : Int) : Nat → Int := fun j => if j = k then x else F j
def updN (F : Nat → Nat) (k : Nat) (x : Nat) : Nat → Nat := fun j => if j = k then x else F j
theorem updZ_iI (F : Nat → Int) (k : Nat) (x : Int) : upd (fun i => iI (F i)) k (iI x) = fun i => iI (updZ F k x i) := by
  funext j
  by_cases h : j = k <;> simp [upd, updZ, h]
theorem updN_iI (F : Nat → Nat) (k : Nat) (x : Nat) : upd (fun i => iI ((F i : Nat) : Int)) k (iI ((x : Nat) : Int)) = fun i => iI ((updN F k x i : Nat) : Int) := by
  funext j
  by_cases h : j = k <;> simp [upd, updN, h]
theorem updZ_s (F : Nat → Int) (k : Nat) (x : Int) : updZ F k x k = x := by simp [updZ]
theorem updZ_n (F : Nat → Int) {k j : Nat} (x : Int) (h : j ≠ k) : updZ F k x j = F j := by simp [updZ, h]
theorem updN_s (F : Nat → Nat) (k : Nat) (x : Nat) : updN F k x k = x := by simp [updN]
theorem updN_n (F : Nat → Nat) {k j : Nat} (x : Nat) (h : j ≠ k) : updN F k x j = F j := by simp [updN, h]
section P08
variable {S : PS} {cc : ByteArray} {pc : Nat} {lv : List (Nat × Value)} {st : List Value} {w : PW} {n ce sl : Nat}
theorem r_ialdZ {a N : Nat} {F : Nat → Int} {z : Int} (hb : S.1.1 = cc) (q : Nat) (hd : decode cc pc = .ok (.iaload, 1)) (hq : pc + 1 = q) (hw : w a = some (eI N (fun i => iI (F i)))) (j : Nat) (hz : z = (j : Int)) (hj : j < N ∧ N < 2147483648) (kk : Wp S q lv (.int (iI (F j)) :: st) w n ce sl) : Wp S pc lv (.int (iI z) :: .ref a :: st) w n ce sl := r_iald hb q hd hq hw j hz hj kk
theorem r_ialdN {a N : Nat} {F : Nat → Nat} {z : Int} (hb : S.1.1 = cc) (q : Nat) (hd : decode cc pc = .ok (.iaload, 1)) (hq : pc + 1 = q) (hw : w a = some (eI N (fun i => iI ((F i : Nat) : Int)))) (j : Nat) (hz : z = (j : Int)) (hj : j < N ∧ N < 2147483648) (kk : Wp S q lv (.int (iI ((F j : Nat) : Int)) :: st) w n ce sl) : Wp S pc lv (.int (iI z) :: .ref a :: st) w n ce sl := r_iald hb q hd hq hw j hz hj kk
theorem r_iastZ {a N : Nat} {F : Nat → Int} {z x : Int} (hb : S.1.1 = cc) (q : Nat) (hd : decode cc pc = .ok (.iastore, 1)) (hq : pc + 1 = q) (hw : w a = some (eI N (fun i => iI (F i)))) (j : Nat) (hz : z = (j : Int)) (hj : j < N ∧ N < 2147483648) (kk : ∀ w1, w1 = pset w a (eI N (fun i => iI (updZ F j x i))) → Wp S q lv st w1 n ce sl) : Wp S pc lv (.int (iI x) :: .int (iI z) :: .ref a :: st) w n ce sl :=
  r_iast hb q hd hq hw j hz hj (by rw [updZ_iI]; exact kk)
theorem r_iastN {a N : Nat} {F : Nat → Nat} {z zx : Int} {x : Nat} (hx : zx = ((x : Nat) : Int)) (hb : S.1.1 = cc) (q : Nat) (hd : decode cc pc = .ok (.iastore, 1)) (hq : pc + 1 = q) (hw : w a = some (eI N (fun i => iI ((F i : Nat) : Int)))) (j : Nat) (hz : z = (j : Int)) (hj : j < N ∧ N < 2147483648) (kk : ∀ w1, w1 = pset w a (eI N (fun i => iI ((updN F j x i : Nat) : Int))) → Wp S q lv st w1 n ce sl) : Wp S pc lv (.int (iI zx) :: .int (iI z) :: .ref a :: st) w n ce sl := by
  subst hx
  exact r_iast hb q hd hq hw j hz hj (by rw [updN_iI]; exact kk)
section P08C
variable {own : String} {idx : Nat} {y : MethodName} {b : ByteArray} {L : Nat} {r : Option FieldType} {rm : Room} {k a ci : Nat} {As : List Value} {qc : vw_C} {fs : List Value} {st0 : List Value}
theorem r_callVR {x : Value} (hb : S.1.1 = cc) (ho : S.1.2.1 = own) (q : Nat) (hd : decode cc pc = .ok (.invokevirtual idx, 3)) (hq : pc + 3 = q) (hl0 : pCV own idx y b L r k) (hc : CtR y b L r rm (.ref a :: As) w n x) (hk : As.length = k) (hst : st0 = As.reverse ++ .ref a :: st) (hw : w a = some (eO ci fs)) (hci : vwCl[ci]? = some qc) (hqc : qc.1 = y.cls) (hR : rm.frames + 1 ≤ S.2.1.frames ∧ 8 + (L + 11) + rm.locals ≤ S.2.1.locals) (hcat : (st.map fun v => v.category).sum ≤ 8) (hz : rm.cells = 0 ∧ rm.slots = 0) (hce : ce ≤ S.2.1.cells) (hsl : sl ≤ S.2.1.slots)
    (kk : Wp S q lv (x :: st) w n ce sl) : Wp S pc lv st0 w n ce sl := by
  refine r_callV hb ho q hd hq hl0 hc hk hst hw hci hqc hR hcat (by rw [hz.1]; exact hce) (by rw [hz.2]; exact hsl) fun v w1 n1 hv => ?_
  obtain ⟨x, rfl, rfl, rfl, rfl⟩ := hv
  rw [hz.1, hz.2]
  exact kk
theorem r_callSR {x : Value} (hb : S.1.1 = cc) (ho : S.1.2.1 = own) (q : Nat) (hd : decode cc pc = .ok (.invokestatic idx, 3)) (hq : pc + 3 = q) (hl0 : pCS own idx y b L r k) (hc : CtR y b L r rm As w n x) (hk : As.length = k) (hst : st0 = As.reverse ++ st) (hR : rm.frames + 1 ≤ S.2.1.frames ∧ 8 + (L + 11) + rm.locals ≤ S.2.1.locals) (hcat : (st.map fun v => v.category).sum ≤ 8) (hz : rm.cells = 0 ∧ rm.slots = 0) (hce : ce ≤ S.2.1.cells) (hsl : sl ≤ S.2.1.slots)
    (kk : Wp S q lv (x :: st) w n ce sl) : Wp S pc lv st0 w n ce sl := by
  refine r_callS hb ho q hd hq hl0 hc hk hst hR hcat (by rw [hz.1]; exact hce) (by rw [hz.2]; exact hsl) fun v w1 n1 hv => ?_
  obtain ⟨x, rfl, rfl, rfl, rfl⟩ := hv
  rw [hz.1, hz.2]
  exact kk
theorem r_callV1 {Q : Value → PW → Nat → Prop} (hb : S.1.1 = cc) (ho : S.1.2.1 = own) (q : Nat) (hd : decode cc pc = .ok (.invokevirtual idx, 3)) (hq : pc + 3 = q) (hl0 : pCV own idx y b L r k) (hc : Ct1 y b L r rm (.ref a :: As) w n Q) (hk : As.length = k) (hst : st0 = As.reverse ++ .ref a :: st) (hw : w a = some (eO ci fs)) (hci : vwCl[ci]? = some qc) (hqc : qc.1 = y.cls) (hR : rm.frames + 1 ≤ S.2.1.frames ∧ 8 + (L + 11) + rm.locals ≤ S.2.1.locals) (hcat : (st.map fun v => v.category).sum ≤ 8) (hz : rm.cells = 0 ∧ rm.slots = 0) (hce : ce ≤ S.2.1.cells) (hsl : sl ≤ S.2.1.slots)
    (kk : ∀ x w1 n1, Q x w1 n1 → Wp S q lv (x :: st) w1 n1 ce sl) : Wp S pc lv st0 w n ce sl := by
  refine r_callV hb ho q hd hq hl0 hc hk hst hw hci hqc hR hcat (by rw [hz.1]; exact hce) (by rw [hz.2]; exact hsl) fun v w1 n1 hv => ?_
  obtain ⟨x, rfl, hx⟩ := hv
  rw [hz.1, hz.2]
  exact kk x w1 n1 hx
theorem r_callV0 {Q : PW → Nat → Prop} (hb : S.1.1 = cc) (ho : S.1.2.1 = own) (q : Nat) (hd : decode cc pc = .ok (.invokevirtual idx, 3)) (hq : pc + 3 = q) (hl0 : pCV own idx y b L r k) (hc : Ct0 y b L r rm (.ref a :: As) w n Q) (hk : As.length = k) (hst : st0 = As.reverse ++ .ref a :: st) (hw : w a = some (eO ci fs)) (hci : vwCl[ci]? = some qc) (hqc : qc.1 = y.cls) (hR : rm.frames + 1 ≤ S.2.1.frames ∧ 8 + (L + 11) + rm.locals ≤ S.2.1.locals) (hcat : (st.map fun v => v.category).sum ≤ 8) (hz : rm.cells = 0 ∧ rm.slots = 0) (hce : ce ≤ S.2.1.cells) (hsl : sl ≤ S.2.1.slots)
    (kk : ∀ w1 n1, Q w1 n1 → Wp S q lv st w1 n1 ce sl) : Wp S pc lv st0 w n ce sl := by
  refine r_callV hb ho q hd hq hl0 hc hk hst hw hci hqc hR hcat (by rw [hz.1]; exact hce) (by rw [hz.2]; exact hsl) fun v w1 n1 hv => ?_
  obtain ⟨rfl, hx⟩ := hv
  rw [hz.1, hz.2]
  exact kk w1 n1 hx
theorem r_callS0 {Q : PW → Nat → Prop} (hb : S.1.1 = cc) (ho : S.1.2.1 = own) (q : Nat) (hd : decode cc pc = .ok (.invokestatic idx, 3)) (hq : pc + 3 = q) (hl0 : pCS own idx y b L r k) (hc : Ct0 y b L r rm As w n Q) (hk : As.length = k) (hst : st0 = As.reverse ++ st) (hR : rm.frames + 1 ≤ S.2.1.frames ∧ 8 + (L + 11) + rm.locals ≤ S.2.1.locals) (hcat : (st.map fun v => v.category).sum ≤ 8) (hz : rm.cells = 0 ∧ rm.slots = 0) (hce : ce ≤ S.2.1.cells) (hsl : sl ≤ S.2.1.slots)
    (kk : ∀ w1 n1, Q w1 n1 → Wp S q lv st w1 n1 ce sl) : Wp S pc lv st0 w n ce sl := by
  refine r_callS hb ho q hd hq hl0 hc hk hst hR hcat (by rw [hz.1]; exact hce) (by rw [hz.2]; exact hsl) fun v w1 n1 hv => ?_
  obtain ⟨rfl, hx⟩ := hv
  rw [hz.1, hz.2]
  exact kk w1 n1 hx
theorem r_callN0 {Q : PW → Nat → Prop} (hb : S.1.1 = cc) (ho : S.1.2.1 = own) (q : Nat) (hd : decode cc pc = .ok (.invokespecial idx, 3)) (hq : pc + 3 = q) (hl0 : pCN own idx y b L k) (hc : Ct0 y b L none rm (.ref a :: As) w n Q) (hk : As.length = k) (hst : st0 = As.reverse ++ .ref a :: st) (hR : rm.frames + 1 ≤ S.2.1.frames ∧ 8 + (L + 11) + rm.locals ≤ S.2.1.locals) (hcat : (st.map fun v => v.category).sum ≤ 8) (hce : ce + rm.cells ≤ S.2.1.cells) (hsl : sl + rm.slots ≤ S.2.1.slots)
    (kk : ∀ w1 n1, Q w1 n1 → Wp S q lv st w1 n1 (ce + rm.cells) (sl + rm.slots)) : Wp S pc lv st0 w n ce sl := by
  refine r_callN hb ho q hd hq hl0 hc hk hst hR hcat hce hsl fun v w1 n1 hv => ?_
  obtain ⟨rfl, hx⟩ := hv
  exact kk w1 n1 hx
end P08C
end P08
/-! a Text: its letters, at t and t + 1 -/
def tx (w : PW) (t R : Nat) (L : List Int32) : Prop := w t = some (eO 7 [.ref (t + 1), .int (iI ((L.length : Nat) : Int))]) ∧ L.length ≤ R ∧ ∃ g : Nat → Int32, w (t + 1) = some (eI R g) ∧ ∀ i, i < L.length → g i = L.getD i 0
theorem tx.off {w w1 : PW} {t R lo hi : Nat} {L : List Int32} (h : tx w t R L) (o : off w w1 lo hi) (d : t + 2 ≤ lo ∨ hi ≤ t) : tx w1 t R L := by
  obtain ⟨h0, h1, g, h2, h3⟩ := h
  exact ⟨(o _ (by omega)).trans h0, h1, g, (o _ (by omega)).trans h2, h3⟩
def textAt (L : List Int32) (z : Int) : Int32 := if 0 ≤ z ∧ z < (L.length : Int) then L.getD z.toNat 0 else iI (-1)
theorem textAt_in {L : List Int32} {z : Int} (h : 0 ≤ z) (h1 : z < (L.length : Int)) : textAt L z = L.getD z.toNat 0 := if_pos ⟨h, h1⟩
theorem textAt_out {L : List Int32} {z : Int} (h : z < 0 ∨ (L.length : Int) ≤ z) : textAt L z = iI (-1) := if_neg (by omega)
theorem textAt_nat {L : List Int32} {i : Nat} (h1 : i < L.length) : textAt L (i : Int) = L.getD i 0 := by rw [textAt_in (by omega) (by omega)]; rfl
/-- letters [a, b) -/
def slice (L : List Int32) (a b : Nat) : List Int32 := (L.take b).drop a
theorem slice_len (L : List Int32) (a b : Nat) : (slice L a b).length = min b L.length - a := by simp [slice]
theorem slice_get (L : List Int32) (a b i : Nat) (h : a + i < b) : (slice L a b).getD i 0 = L.getD (a + i) 0 := by
  simp [slice, List.getD_eq_getElem?_getD, List.getElem?_drop, List.getElem?_take, h]
theorem slice_nil (L : List Int32) {a b : Nat} (h : b ≤ a) : slice L a b = [] := by
  apply List.eq_nil_of_length_eq_zero
  rw [slice_len]; omega
theorem slice_all (L : List Int32) : slice L 0 L.length = L := by simp [slice]
theorem slice_add (L : List Int32) {a b : Nat} (h : a ≤ b) (h2 : b < L.length) : slice L a (b + 1) = slice L a b ++ [L.getD b 0] := by
  apply List.ext_getElem?
  intro i
  simp only [slice, List.getElem?_drop, List.getElem?_take, List.getElem?_append, List.length_drop, List.length_take, List.getD_eq_getElem?_getD]
  by_cases h3 : i < b - a
  · simp [show a + i < b + 1 by omega, show a + i < b by omega, show i < min b L.length - a by omega]
  · by_cases h4 : i = b - a
    · subst h4
      simp [show a + (b - a) = b by omega, show ¬ (b - a < min b L.length - a) by omega, show b - a - (min b L.length - a) = 0 by omega, h2]
    · simp [show ¬ (a + i < b + 1) by omega, show ¬ (i < min b L.length - a) by omega]
      omega
theorem slice_more (L : List Int32) {a b c : Nat} (h : L.length ≤ b) (h2 : L.length ≤ c) : slice L a b = slice L a c := by simp [slice, List.take_of_length_le h, List.take_of_length_le h2]
theorem getD_app1 (L M : List Int32) {i : Nat} (h : i < L.length) : (L ++ M).getD i 0 = L.getD i 0 := by simp [List.getD_eq_getElem?_getD, List.getElem?_append, h]
theorem getD_app2 (L M : List Int32) {i : Nat} (h : L.length ≤ i) : (L ++ M).getD i 0 = M.getD (i - L.length) 0 := by simp [List.getD_eq_getElem?_getD, List.getElem?_append, Nat.not_lt.mpr h]

theorem r_widen {S : PS} {pc : Nat} {lv : List (Nat × Value)} {st : List Value} {w : PW} {n ce sl : Nat} (ce1 sl1 : Nat) (h1 : ce ≤ ce1) (h2 : sl ≤ sl1) (kk : Wp S pc lv st w n ce1 sl1) : Wp S pc lv st w n ce sl := by
  intro D p l e s m args below meth c H locs ls Q hC hX hl hH hn hdm hs hS
  exact W.widen h1 h2 (kk D p l e s m args below meth c H locs ls Q hC hX hl hH hn hdm hs hS)
def cutL (L : List Int32) (p k : Nat) : List Int32 := L.take p ++ L.drop (p + k)
theorem cutL_len {L : List Int32} {p k : Nat} (h : p + k ≤ L.length) : (cutL L p k).length = L.length - k := by simp [cutL]; omega
theorem cutL_get {L : List Int32} {p k : Nat} (h : p + k ≤ L.length) (j : Nat) : (cutL L p k).getD j 0 = if j < p then L.getD j 0 else L.getD (j + k) 0 := by
  have hp : (L.take p).length = p := by simp; omega
  unfold cutL
  split
  · rename_i h1
    rw [getD_app1 _ _ (by omega)]
    simp [List.getD_eq_getElem?_getD, List.getElem?_take, h1]
  · rename_i h1
    rw [getD_app2 _ _ (by omega), hp]
    simp [List.getD_eq_getElem?_getD, List.getElem?_drop, show p + k + (j - p) = j + k by omega]
def putL (L : List Int32) (p : Nat) (M : List Int32) : List Int32 := L.take p ++ M ++ L.drop p
theorem putL_len {L M : List Int32} {p : Nat} (h : p ≤ L.length) : (putL L p M).length = L.length + M.length := by simp [putL]; omega
theorem putL_get {L M : List Int32} {p : Nat} (h : p ≤ L.length) (j : Nat) : (putL L p M).getD j 0 = if j < p then L.getD j 0 else if j < p + M.length then M.getD (j - p) 0 else L.getD (j - M.length) 0 := by
  have hp : (L.take p).length = p := by simp; omega
  unfold putL
  split
  · rename_i h1
    rw [getD_app1 _ _ (by simp; omega), getD_app1 _ _ (by omega)]
    simp [List.getD_eq_getElem?_getD, List.getElem?_take, h1]
  · rename_i h1
    split
    · rename_i h2
      rw [getD_app1 _ _ (by simp; omega), getD_app2 _ _ (by omega), hp]
    · rename_i h2
      rw [getD_app2 _ _ (by simp; omega)]
      simp only [List.length_append, hp]
      simp [List.getD_eq_getElem?_getD, List.getElem?_drop, show p + (j - (p + M.length)) = j - M.length by omega]
section P08B
variable {S : PS} {cc : ByteArray} {pc : Nat} {lv : List (Nat × Value)} {st : List Value} {w : PW} {n ce sl : Nat}
theorem bI_one {b : Bool} : bI b = iI 1 ↔ b = true := by cases b <;> decide
theorem r_icmpB_ne {b : Bool} {off : Int} (hb : S.1.1 = cc) (q tgt : Nat) (hd : decode cc pc = .ok (.if_icmp .ne off, 3)) (hq : pc + 3 = q) (ht : (pc : Int) + off = (tgt : Int)) (kt : b = false → Wp S tgt lv st w n ce sl) (kf : b = true → Wp S q lv st w n ce sl) : Wp S pc lv (.int (iI 1) :: .int (bI b) :: st) w n ce sl :=
  r_icmpR_ne hb q tgt hd hq ht (fun h => kt (by cases b <;> first | rfl | exact absurd rfl h)) (fun h => kf (bI_one.mp h))
theorem r_icmpB_eq {b : Bool} {off : Int} (hb : S.1.1 = cc) (q tgt : Nat) (hd : decode cc pc = .ok (.if_icmp .eq off, 3)) (hq : pc + 3 = q) (ht : (pc : Int) + off = (tgt : Int)) (kt : b = true → Wp S tgt lv st w n ce sl) (kf : b = false → Wp S q lv st w n ce sl) : Wp S pc lv (.int (iI 1) :: .int (bI b) :: st) w n ce sl :=
  r_icmpR_eq hb q tgt hd hq ht (fun h => kt (bI_one.mp h)) (fun h => kf (by cases b <;> first | rfl | exact absurd rfl h))
end P08B
theorem bI_T {b : Bool} (h : b = true) : iI 1 = bI b := by rw [h]; rfl
theorem bI_F {b : Bool} (h : b = false) : iI 0 = bI b := by rw [h]; rfl
theorem bI_nar (b : Bool) : narrow .boolean (.int (bI b)) = .int (bI b) := by cases b <;> rfl
/-! pure: comments -/
abbrev Nt : Type := (List Int32 × List Int32 × List Int32) × Nat × Bool × Nat × Nat × Int32
def nP (x : Nt) : List Int32 := x.1.1
def nQ (x : Nt) : List Int32 := x.1.2.1
def nS (x : Nt) : List Int32 := x.1.2.2
def nNum (x : Nt) : Nat := x.2.1
def nK (x : Nt) : Bool := x.2.2.1
def nB (x : Nt) : Nat := x.2.2.2.1
def nE (x : Nt) : Nat := x.2.2.2.2.1
def nW (x : Nt) : Int32 := x.2.2.2.2.2
def ntE (a : Nat) (x : Nt) : PE := eO 3 [.ref (a + 1), .ref (a + 3), .ref (a + 5), .int (iI ((nNum x : Nat) : Int)), .int (bI (nK x)), .int (iI ((nB x : Nat) : Int)), .int (iI ((nE x : Nat) : Int)), .int (nW x)]
def nt (w : PW) (a : Nat) (x : Nt) : Prop := w a = some (eO 3 [.ref (a + 1), .ref (a + 3), .ref (a + 5), .int (iI ((nNum x : Nat) : Int)), .int (bI (nK x)), .int (iI ((nB x : Nat) : Int)), .int (iI ((nE x : Nat) : Int)), .int (nW x)]) ∧ tx w (a + 1) 6 (nP x) ∧ tx w (a + 3) 16 (nQ x) ∧ tx w (a + 5) 6 (nS x) ∧ nNum x < 1000000 ∧ nB x ≤ 200 ∧ nE x ≤ 200
theorem nt.off {w w1 : PW} {a lo hi : Nat} {x : Nt} (h : nt w a x) (o : off w w1 lo hi) (d : a + 7 ≤ lo ∨ hi ≤ a) : nt w1 a x := by
  obtain ⟨h0, h1, h2, h3, h4⟩ := h
  exact ⟨(o _ (by omega)).trans h0, h1.off o (by omega), h2.off o (by omega), h3.off o (by omega), h4⟩
def mvIns (p m : Nat) (x : Nt) : Nt := (x.1, nNum x, nK x, (if p ≤ nB x then nB x + m else nB x), (if p ≤ nB x ∨ p < nE x then nE x + m else nE x), nW x)
def bndD (b p m : Nat) : Nat := if p + m ≤ b then b - m else min b p
def mvDel (p m : Nat) (x : Nt) : Nt := (x.1, nNum x, (nK x && decide (bndD (nB x) p m < bndD (nE x) p m)), bndD (nB x) p m, bndD (nE x) p m, nW x)
def mvRep (len : Nat) (x : Nt) : Nt := (x.1, nNum x, false, min (nB x) len, min (nE x) len, nW x)
def qtN (D : List Int32) (x : Nt) : Nt := ((slice D (nB x - 6) (nB x), slice D (nB x) (nE x), slice D (nE x) (nE x + 6)), x.2)
def atN (b e : Nat) (x : Nt) : Nt := (x.1, nNum x, true, b, e, nW x)
def twN (x y : Nt) : Bool := decide (nK x = true ∧ nK y = true ∧ nB x = nB y ∧ nE x = nE y)
def cvN (x : Nt) (i : Int) : Bool := decide (nK x = true ∧ (nB x : Int) ≤ i ∧ i < (nE x : Int))
def sbN (x y : Nt) : Bool := decide (nB x < nB y ∨ (nB x = nB y ∧ (nE y < nE x ∨ (nE x = nE y ∧ nNum x < nNum y))))
def runL (c : Nat → Bool) : Nat → Nat → Nat
  | 0, a => a
  | k + 1, a => if c a = true then runL c k (a + 1) else a
theorem runL_t {c : Nat → Bool} {N a : Nat} (h : a < N) (hc : c a = true) : runL c (N - a) a = runL c (N - (a + 1)) (a + 1) := by
  rw [show N - a = (N - (a + 1)) + 1 by omega]
  simp [runL, hc]
theorem runL_f {c : Nat → Bool} {N a : Nat} (h : N ≤ a ∨ c a = false) : runL c (N - a) a = a := by
  by_cases h1 : N ≤ a
  · rw [show N - a = 0 by omega]; rfl
  · rw [show N - a = (N - (a + 1)) + 1 by omega]
    simp [runL, h.resolve_left h1]
theorem runL_le (c : Nat → Bool) : ∀ k a, runL c k a ≤ a + k := by
  intro k
  induction k with
  | zero => intro a; simp [runL]
  | succ k ih =>
    intro a
    simp only [runL]
    split
    · have := ih (a + 1); omega
    · omega
def lkcB (P D : List Int32) (s a : Nat) : Bool := decide (a < s ∧ P.getD (P.length - 1 - a) 0 = D.getD (s - 1 - a) 0)
def lkcS (F D : List Int32) (e b : Nat) : Bool := decide (e + b < D.length ∧ F.getD b 0 = D.getD (e + b) 0)
def lkB (P D : List Int32) (s : Nat) : Nat := runL (lkcB P D s) P.length 0
def lkS (F D : List Int32) (e : Nat) : Nat := runL (lkcS F D e) F.length 0
theorem lkB_le (P D : List Int32) (s : Nat) : lkB P D s ≤ P.length := by have := runL_le (lkcB P D s) P.length 0; unfold lkB; omega
theorem lkS_le (F D : List Int32) (e : Nat) : lkS F D e ≤ F.length := by have := runL_le (lkcS F D e) F.length 0; unfold lkS; omega
/-- no letter is like the mark of a place outside -/
def okL (L : List Int32) : Prop := ∀ c ∈ L, c ≠ iI (-1)
theorem okL.get {L : List Int32} (h : okL L) {i : Nat} (hi : i < L.length) : L.getD i 0 ≠ iI (-1) := by
  rw [List.getD_eq_getElem?_getD, List.getElem?_eq_getElem hi]
  exact h _ (List.getElem_mem hi)
theorem okL.slice {L : List Int32} (h : okL L) (a b : Nat) : okL (slice L a b) := fun c hc => h c (List.mem_of_mem_take (List.mem_of_mem_drop hc))
theorem okL.app {L M : List Int32} (h : okL L) (h2 : okL M) : okL (L ++ M) := fun c hc => (List.mem_append.mp hc).elim (h c) (h2 c)
theorem okL.cut {L : List Int32} (h : okL L) (p k : Nat) : okL (cutL L p k) := fun c hc => (List.mem_append.mp hc).elim (fun h1 => h c (List.mem_of_mem_take h1)) (fun h1 => h c (List.mem_of_mem_drop h1))
theorem okL.put {L M : List Int32} (h : okL L) (h2 : okL M) (p : Nat) : okL (putL L p M) := fun c hc => (List.mem_append.mp hc).elim (fun h1 => (List.mem_append.mp h1).elim (fun h3 => h c (List.mem_of_mem_take h3)) (h2 c)) (fun h1 => h c (List.mem_of_mem_drop h1))
/-- the score of a comment for [s, e), d: the edit distance -/
def scN (x : Nt) (D : List Int32) (s e d : Nat) : Int := 60 - 10 * (d : Int) + 4 * ((lkB (nP x) D s + lkS (nS x) D e : Nat) : Int) - (((s : Int) - (nB x : Int)).natAbs / 5 : Nat)
theorem iI_tdiv5 {a : Nat} (h : a < 2147483648) : iI ((a : Nat) : Int) / iI 5 = iI ((a / 5 : Nat) : Int) := by
  rw [iI_nat, iI_nat, show iI 5 = nI 5 from rfl]
  exact pk_div h (by decide) (by decide)
