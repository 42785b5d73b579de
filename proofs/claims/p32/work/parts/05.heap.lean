/-! rules for fields, arrays, new cells, calls and ends -/
theorem pK.same {D : PD} {u U : State} (h : u.vm = U.vm) (hk : pK D u) : pK D U := by
  refine ⟨va_K.moved (by rw [h]; exact Vm.Alike.refl _) hk.1, fun x hx => ?_⟩
  obtain ⟨-, hn⟩ := List.mem_filter.mp hx
  have h2 := hk.2 x hx
  cases x <;> first | (cases hn; done) | exact va_Nw.same rfl h h2 | skip
  rename_i ty
  cases ty <;> first | (cases hn; done) | exact va_AO.moved (by rw [h]; exact Vm.Alike.refl _) h2
theorem pH.one {D : PD} {w : PW} {H : Heap} {a : Nat} {e : PE} (h : pH D w H) (hw : w a = some e) : va_P (pG D) vwCl [(a, pE D e)] H := by
  intro k q hk
  cases k with
  | zero => cases hk; exact h a e hw
  | succ k => simp at hk
theorem pH.set {D : PD} {w : PW} {H H1 : Heap} {a : Nat} {e : PE} (h : pH D w H) (he : va_at (pG D) vwCl (a, pE D e) H1) (oq : ∀ q : Nat, q ≠ a → H1[q]? = H[q]?) : pH D (pset w a e) H1 := by
  intro b x hb
  by_cases hba : b = a
  · subst hba
    rw [pset_eq] at hb
    cases hb
    exact he
  · rw [pset_ne w e hba] at hb
    exact (h b x hb).kept (oq b hba)
theorem pH.push {D : PD} {w : PW} {H H1 : Heap} {a : Nat} {e : PE} (h : pH D w H) (ha : H.size = a) (he : va_at (pG D) vwCl (a, pE D e) H1) (oq : ∀ q : Nat, q < H.size → H1[q]? = H[q]?) : pH D (pset w a e) H1 := by
  intro b x hb
  by_cases hba : b = a
  · subst hba
    rw [pset_eq] at hb
    cases hb
    exact he
  · rw [pset_ne w e hba] at hb
    exact (h b x hb).kept (oq b (h b x hb).lt)
theorem pset_dom {w : PW} {a : Nat} {e : PE} {A : Nat → Prop} (h : ∀ q, (w q).isSome = true → A q) (ha : A a) : ∀ q, (pset w a e q).isSome = true → A q := by
  intro q hq
  by_cases hqa : q = a
  · rw [hqa]; exact ha
  · rw [pset_ne w e hqa] at hq
    exact h q hq
/-- field k of the class of number ci: its type, whether it is final -/
def pFd (ci k : Nat) (q : vw_C) (ty : FieldType) (fin : Bool) : Prop := vwCl[ci]? = some q ∧ (∀ x ∈ u_ws q.1 q.2.1 q.2.2, x ∈ PT) ∧ k < q.2.2 ∧ (q.2.1 k).1 = q.1 ∧ parseFieldDescriptor (q.2.1 k).2.2.1 = some ty ∧ (q.2.1 k).2.2.2 = fin ∧
  (∃ tyf : Nat → FieldType, ∀ j, j < q.2.2 → parseFieldDescriptor (q.2.1 j).2.2.1 = some (tyf j)) ∧ ∀ a, a < q.2.2 → ∀ b, b < q.2.2 → a ≠ b → (q.2.1 a).2.1 ≠ (q.2.1 b).2.1
/-- entry idx of the pool of class own names it -/
def pLk (own : String) (idx : Nat) (q : vw_C) (k : Nat) : Prop := Cond.fieldLink own idx q.1 (q.2.1 k).2.1 (q.2.1 k).2.2.1 ∈ PT ∨ ∃ host, Cond.fieldLinkNest own idx q.1 (q.2.1 k).2.1 (q.2.1 k).2.2.1 host ∈ PN
section PHR
variable {S : PS} {cc : ByteArray} {pc : Nat} {lv : List (Nat × Value)} {st : List Value} {w : PW} {n ce sl : Nat}
theorem r_get {own : String} {idx a ci k : Nat} {qc : vw_C} {ty : FieldType} {fin : Bool} {fs : List Value} {v : Value} (hb : S.1.1 = cc) (ho : S.1.2.1 = own) (q : Nat) (hd : decode cc pc = .ok (.getfield idx, 3)) (hq : pc + 3 = q) (hl0 : pLk own idx qc k) (hf : pFd ci k qc ty fin) (hw : w a = some (eO ci fs)) (hv : fs[k]? = some v)
    (kk : Wp S q lv (v :: st) w n ce sl) : Wp S pc lv (.ref a :: st) w n ce sl := by
  intro D p l e s m args below meth c H locs ls Q hC hX hl hH hn hdm hs hS
  subst hq; subst hb; subst ho
  obtain ⟨f1, f2, f3, f4, -⟩ := hf
  obtain ⟨hx, hcd, hml, hown, hts, hret, hnm, hlk, hK, hN⟩ := id hC
  have hk := kk D p l e s m args below meth c H locs ls Q hC hX hl hH hn hdm hs hS
  rcases hl0 with h | ⟨host, h⟩
  · exact va_get (C := qc.1) (T := qc.2.1) (N := qc.2.2) (ci := ci) hx hcd hts f2 hown hK (hH.one hw) 0 (fs := fs) rfl f1 k f3 (hts _ h) (fun _ h9 => by rw [f4] at h9; exact h9) hv hd hk
  · exact va_getN (C := qc.1) (T := qc.2.1) (N := qc.2.2) (ci := ci) (host := host) hx hcd hts f2 hown hK (hH.one hw) 0 (fs := fs) rfl f1 k f3 (va_Nw.use rfl (hN _ h)) (fun _ h9 => by rw [f4] at h9; exact h9) hv hd hk
theorem r_put {own : String} {idx a ci k : Nat} {qc : vw_C} {ty : FieldType} {fs : List Value} {v : Value} (hb : S.1.1 = cc) (ho : S.1.2.1 = own) (q : Nat) (hd : decode cc pc = .ok (.putfield idx, 3)) (hq : pc + 3 = q) (hl0 : pLk own idx qc k) (hf : pFd ci k qc ty false) (hw : w a = some (eO ci fs)) (hkl : k < fs.length) (hty : narrow ty v = v ∧ fits ty v = true)
    (kk : ∀ w1, w1 = pset w a (eO ci (fs.set k v)) → Wp S q lv st w1 n ce sl) : Wp S pc lv (v :: .ref a :: st) w n ce sl := by
  intro D p l e s m args below meth c H locs ls Q hC hX hl hH hn hdm hs hS
  subst hq; subst hb; subst ho
  obtain ⟨f1, f2, f3, f4, f5, f6, ⟨tyf, f7⟩, f8⟩ := hf
  obtain ⟨hx, hcd, hml, hown, hts, hret, hnm, hlk, hK, hN⟩ := id hC
  have hA : S.2.2.1 a := hdm a (by rw [hw]; rfl)
  have hap := va_apart (own := S.1.2.1) (C := qc.1) (T := qc.2.1) (N := qc.2.2) hts f2 tyf f7 f8 hK f1
  obtain ⟨r, h1, cell, q1, q2, q3, q4⟩ := hH a _ hw
  have hr : r = (qc.1, qc.2.1, qc.2.2) := Option.some.inj (h1.symm.trans f1)
  subst hr
  obtain ⟨hSl, hfc, kC, hkC, hkind⟩ := hK.1 ci _ f1
  obtain ⟨cf, kf, fi, f, hi, hsl⟩ := hSl k f3
  have hlay := hts _ (f2 _ (u_in_lay f3))
  unfold u_lay at hlay
  rw [if_neg (by rw [f6]; decide)] at hlay
  have hst := (u_facts hfc hkC (u_lays hts f2 f3) hi).1
  have h6 := u_store hfc hkC hkind hlay hi f5 hty.1 hty.2
  have hi2 := hi
  rw [f4] at hi2
  have key : ∀ H' : Heap, H'[a]? = some (cell.setSlot f.slot v) → H'.size = H.size → (∀ q, q ≠ a → H'[q]? = H[q]?) → W p l e S.2.1 s m args below meth c H' (locs ++ [⟨a, f.slot⟩]) ce sl Q (F0 m (pc + 3) ls st) := by
    intro H' e1 e2 e3
    rw [hsl] at e1 ⊢
    exact kk _ rfl D p l e s m args below meth c H' _ ls Q hC hX hl (hH.set ⟨_, f1, t_OB.to (V := updV (vp_V fs) k v) ⟨_, e1, q2, q3, t_set q4 hap f3 v⟩ (fun j _ => vp_updV_set hkl v j)⟩ e3) (e2.trans hn) (pset_dom hdm hA) hs (hS.put e2 e3 hA)
  rcases hl0 with h | ⟨host, h⟩
  · exact W.putK hx hcd (f := f) ⟨hown, hts _ h, ⟨_, _, _, hi2⟩, hst⟩ (by rw [q2]; exact h6) q1 q3 (by rw [hsl]; exact k2_hasslot (q4 k f3)) rfl rfl hd key
  · exact va_WputK hx hcd (f := f) hown (va_Nw.use rfl (hN _ h)) hi2 hst (by rw [q2]; exact h6) q1 q3 (by rw [hsl]; exact k2_hasslot (q4 k f3)) rfl rfl hd key
theorem r_putF {own : String} {idx a ci k : Nat} {qc : vw_C} {ty : FieldType} {fs : List Value} {v : Value} (hb : S.1.1 = cc) (ho : S.1.2.1 = own) (hname : S.1.2.2.2.2 = "<init>") (hoc : qc.1 = own) (q : Nat) (hd : decode cc pc = .ok (.putfield idx, 3)) (hq : pc + 3 = q) (hl0 : Cond.fieldLink own idx qc.1 (qc.2.1 k).2.1 (qc.2.1 k).2.2.1 ∈ PT) (hf : pFd ci k qc ty true) (hw : w a = some (eO ci fs)) (hkl : k < fs.length) (hty : narrow ty v = v ∧ fits ty v = true)
    (kk : ∀ w1, w1 = pset w a (eO ci (fs.set k v)) → Wp S q lv st w1 n ce sl) : Wp S pc lv (v :: .ref a :: st) w n ce sl := by
  intro D p l e s m args below meth c H locs ls Q hC hX hl hH hn hdm hs hS
  subst hq; subst hb; subst ho
  obtain ⟨f1, f2, f3, f4, f5, f6, ⟨tyf, f7⟩, f8⟩ := hf
  obtain ⟨hx, hcd, hml, hown, hts, hret, hnm, hlk, hK, hN⟩ := id hC
  have hA : S.2.2.1 a := hdm a (by rw [hw]; rfl)
  have hap := va_apart (own := S.1.2.1) (C := qc.1) (T := qc.2.1) (N := qc.2.2) hts f2 tyf f7 f8 hK f1
  obtain ⟨r, h1, cell, q1, q2, q3, q4⟩ := hH a _ hw
  have hr : r = (qc.1, qc.2.1, qc.2.2) := Option.some.inj (h1.symm.trans f1)
  subst hr
  obtain ⟨hSl, hfc, kC, hkC, hkind⟩ := hK.1 ci _ f1
  obtain ⟨cf, kf, fi, f, hi, hsl⟩ := hSl k f3
  have hlay := hts _ (f2 _ (u_in_lay f3))
  unfold u_lay at hlay
  rw [if_pos f6] at hlay
  have hst := (u_facts hfc hkC (u_lays hts f2 f3) hi).1
  have hcf : m.cls = cf := by
    obtain ⟨_, _, c', _, _, _, -, -, hf', -, -, -, hown2, -⟩ := Cond.laysFinal_spec hlay
    have e1 : c' = cf := by have := hi.symm.trans hf'; simp at this; exact this.1.symm
    rw [f4, hoc] at hown2
    rw [← e1]; exact Option.some.inj (hown.symm.trans hown2)
  have h6 := u_fits hfc hkC hkind (Or.inr hlay) hi f5 hty.1 hty.2
  have hi2 := hi
  rw [f4] at hi2
  refine W.putFinK hx hcd hown (hts _ hl0) hi2 hst hcf (hnm.trans hname) (by rw [q2]; exact h6) q1 q3 (by rw [hsl]; exact k2_hasslot (q4 k f3)) rfl rfl hd fun H' e1 e2 e3 => ?_
  rw [hsl] at e1 ⊢
  exact kk _ rfl D p l e s m args below meth c H' _ ls Q hC hX hl (hH.set ⟨_, f1, t_OB.to (V := updV (vp_V fs) k v) ⟨_, e1, q2, q3, t_set q4 hap f3 v⟩ (fun j _ => vp_updV_set hkl v j)⟩ e3) (e2.trans hn) (pset_dom hdm hA) hs (hS.put e2 e3 hA)
theorem r_alen {a k : Nat} {x : vp_A} (hb : S.1.1 = cc) (q : Nat) (hd : decode cc pc = .ok (.arraylength, 1)) (hq : pc + 1 = q) (hw : w a = some (.inl (k, x))) (hk5 : k < 5) (z : Int) (hz : (x.1 : Int) = z) (kk : Wp S q lv (.int (iI z) :: st) w n ce sl) : Wp S pc lv (.ref a :: st) w n ce sl := by
  intro D p l e s m args below meth c H locs ls Q hC hX hl hH hn hdm hs hS
  subst hq; subst hb; subst hz
  obtain ⟨hx, hcd, hml, hown, hts, hret, hnm, hlk, hK, hN⟩ := id hC
  have hk := kk D p l e s m args below meth c H locs ls Q hC hX hl hH hn hdm hs hS
  rw [iI_nat] at hk
  have hP := hH.one hw
  have h5 : k = 0 ∨ k = 1 ∨ k = 2 ∨ k = 3 ∨ k = 4 := by omega
  rcases h5 with rfl | rfl | rfl | rfl | rfl
  · exact va_alen hx hcd hK hP 0 0 rfl rfl rfl hd hk
  · exact va_alen hx hcd hK hP 0 1 rfl rfl rfl hd hk
  · exact va_alen hx hcd hK hP 0 2 rfl rfl rfl hd hk
  · exact va_alen hx hcd hK hP 0 3 rfl rfl rfl hd hk
  · exact va_alen hx hcd hK hP 0 4 rfl rfl rfl hd hk
theorem r_iald {a N : Nat} {f : Nat → Int32} {z : Int} (hb : S.1.1 = cc) (q : Nat) (hd : decode cc pc = .ok (.iaload, 1)) (hq : pc + 1 = q) (hw : w a = some (eI N f)) (j : Nat) (hz : z = (j : Int)) (hj : j < N ∧ N < 2147483648) (kk : Wp S q lv (.int (f j) :: st) w n ce sl) : Wp S pc lv (.int (iI z) :: .ref a :: st) w n ce sl := by
  intro D p l e s m args below meth c H locs ls Q hC hX hl hH hn hdm hs hS
  subst hq; subst hb; subst hz
  obtain ⟨hx, hcd, hml, hown, hts, hret, hnm, hlk, hK, hN⟩ := id hC
  refine va_iald hx hcd hK (hH.one hw) 0 0 rfl rfl (iI_vpin hj.1 hj.2) hd ?_
  rw [iI_clamp (by omega)]
  exact kk D p l e s m args below meth c H locs ls Q hC hX hl hH hn hdm hs hS
theorem r_aald {a k N : Nat} {f : Nat → Option Nat} {z : Int} (hb : S.1.1 = cc) (q : Nat) (hd : decode cc pc = .ok (.aaload, 1)) (hq : pc + 1 = q) (hw : w a = some (eQ k N f)) (hk5 : 2 ≤ k ∧ k < 5) (j : Nat) (hz : z = (j : Int)) (hj : j < N ∧ N < 2147483648) (b : Nat) (hf : f j = some b) (kk : Wp S q lv (.ref b :: st) w n ce sl) : Wp S pc lv (.int (iI z) :: .ref a :: st) w n ce sl := by
  intro D p l e s m args below meth c H locs ls Q hC hX hl hH hn hdm hs hS
  subst hq; subst hb; subst hz
  obtain ⟨hx, hcd, hml, hown, hts, hret, hnm, hlk, hK, hN⟩ := id hC
  have hk := kk D p l e s m args below meth c H locs ls Q hC hX hl hH hn hdm hs hS
  have hk2 : W p l e S.2.1 s m args below meth c H locs ce sl Q (F0 m (pc + 1) ls (va_rf (f (iI (j : Int)).toNatClampNeg) :: st)) := by
    rw [iI_clamp (by omega), hf]
    exact hk
  have hP := hH.one hw
  have h5 : k = 2 ∨ k = 3 ∨ k = 4 := by omega
  rcases h5 with rfl | rfl | rfl
  · exact va_aldq hx hcd hK hP 0 2 rfl rfl (iI_vpin hj.1 hj.2) hd hk2
  · exact va_aldq hx hcd hK hP 0 3 rfl rfl (iI_vpin hj.1 hj.2) hd hk2
  · exact va_aldq hx hcd hK hP 0 4 rfl rfl (iI_vpin hj.1 hj.2) hd hk2
theorem p_notin {j N : Nat} (h : j < N ∧ N < 2147483648) {cA : ClassId} {g : Nat → Value} : ¬ (iI (j : Int) < 0 ∨ (arrV cA N g).slots.size ≤ (iI (j : Int)).toNatClampNeg) := by
  rw [arrV_size]
  exact iI_vpin h.1 h.2
theorem r_iast {a N : Nat} {f : Nat → Int32} {z : Int} {x : Int32} (hb : S.1.1 = cc) (q : Nat) (hd : decode cc pc = .ok (.iastore, 1)) (hq : pc + 1 = q) (hw : w a = some (eI N f)) (j : Nat) (hz : z = (j : Int)) (hj : j < N ∧ N < 2147483648) (kk : ∀ w1, w1 = pset w a (eI N (upd f j x)) → Wp S q lv st w1 n ce sl) : Wp S pc lv (.int x :: .int (iI z) :: .ref a :: st) w n ce sl := by
  intro D p l e s m args below meth c H locs ls Q hC hX hl hH hn hdm hs hS
  subst hq; subst hb; subst hz
  obtain ⟨hx, hcd, hml, hown, hts, hret, hnm, hlk, hK, hN⟩ := id hC
  have hA : S.2.2.1 a := hdm a (by rw [hw]; rfl)
  have hcell : H[a]? = some (arrV (D.2.2 0) N (fun j => .int (f j))) := hH a _ hw
  refine W.iast hx hcd hcell ((hK.2 0 _ rfl).1 N (fun j => .int (f j))) (fun q => by cases q) (p_notin hj) rfl rfl hd fun H1 e1 z1 oq => ?_
  refine kk _ rfl D p l e s m args below meth c H1 _ ls Q hC hX hl (hH.set ?_ oq) (z1.trans hn) (pset_dom hdm hA) hs (hS.put z1 oq hA)
  show H1[a]? = some (vp_cell _ _)
  rw [e1, iI_clamp (by omega), vp_cell_i, arrV_store]
  congr 2
  funext q
  by_cases hq : q = j
  · subst hq; simp [updV, upd]
  · simp [updV, upd, hq]
theorem r_aast {a k N b ci : Nat} {qc : vw_C} {fsb : List Value} {f : Nat → Option Nat} {z : Int} (hb : S.1.1 = cc) (q : Nat) (hd : decode cc pc = .ok (.aastore, 1)) (hq : pc + 1 = q) (hw : w a = some (eQ k N f)) (hwb : w b = some (eO ci fsb)) (hci : vwCl[ci]? = some qc) (hkc : (k = 2 ∧ qc.1 = RX0) ∨ (k = 3 ∧ qc.1 = RX3) ∨ (k = 4 ∧ qc.1 = RX4)) (j : Nat) (hz : z = (j : Int)) (hj : j < N ∧ N < 2147483648) (kk : ∀ w1, w1 = pset w a (eQ k N (va_up f j (some b))) → Wp S q lv st w1 n ce sl) : Wp S pc lv (.ref b :: .int (iI z) :: .ref a :: st) w n ce sl := by
  intro D p l e s m args below meth c H locs ls Q hC hX hl hH hn hdm hs hS
  subst hq; subst hb; subst hz
  obtain ⟨hx, hcd, hml, hown, hts, hret, hnm, hlk, hK, hN⟩ := id hC
  have hA : S.2.2.1 a := hdm a (by rw [hw]; rfl)
  have hcell : H[a]? = some (arrV (D.2.2 k) N (fun j => va_rf (f j))) := hH a _ hw
  obtain ⟨r', hr', cellV, g1, g2, g3, -⟩ := hH b _ hwb
  have hcls := (hK.1 ci qc hci).2
  have hRA : va_RA s (D.2.2 k) (.object qc.1) := by
    rcases hkc with ⟨rfl, h⟩ | ⟨rfl, h⟩ | ⟨rfl, h⟩ <;> rw [h]
    · exact (hK.2 2 _ rfl).2
    · exact (hK.2 3 _ rfl).2
    · exact (hK.2 4 _ rfl).2
  obtain ⟨kA, comp, k1, k2, k3, -⟩ := hRA
  have hcomp : comp = D.1 ci := Option.some.inj (k3.symm.trans hcls.1)
  subst hcomp
  obtain ⟨kC, hkC, -⟩ := hcls.2
  have h0 : ¬ (iI (j : Int)) < 0 := fun q => (iI_vpin hj.1 hj.2) (Or.inl q)
  have hjs : (iI (j : Int)).toNatClampNeg < (arrV (D.2.2 k) N (fun j => va_rf (f j))).slots.size := by rw [arrV_size, iI_clamp (by omega)]; exact hj.1
  refine W.aast hx hcd hcell (fun q h => by cases h) (fun h => by cases h) k1 k2 rfl hkC ⟨h0, hjs⟩ g1 (fun q h => by rw [g3] at h; cases h) (by rw [g2]; exact hkC) (by rw [g2]; exact va_assign hcls) rfl rfl hd fun H1 e1 z1 oq => ?_
  refine kk _ rfl D p l e s m args below meth c H1 _ ls Q hC hX hl (hH.set ?_ oq) (z1.trans hn) (pset_dom hdm hA) hs (hS.put z1 oq hA)
  show H1[a]? = some (vp_cell _ _)
  rw [e1, iI_clamp (by omega), vp_cell_q, arrV_store]
  congr 2
  funext q
  by_cases hq : q = j
  · subst hq; simp [updV, va_up, va_rf]
  · simp [updV, va_up, hq]
/-- what a new object of the class of number ci holds -/
def pNw (own : String) (idx ci : Nat) (q : vw_C) (fs : List Value) : Prop := vwCl[ci]? = some q ∧ (∀ x ∈ u_ws q.1 q.2.1 q.2.2, x ∈ PT) ∧ (∃ tyf : Nat → FieldType, (∀ j, j < q.2.2 → parseFieldDescriptor (q.2.1 j).2.2.1 = some (tyf j)) ∧ ∀ j, j < q.2.2 → defaultValue (tyf j) = vp_V fs j) ∧
  Cond.classLink own idx q.1 ∈ PT ∧ Cond.instantiable q.1 q.2.2 ∈ PT ∧ Cond.initialized q.1 ∈ PT
theorem r_new {own : String} {idx ci : Nat} {qc : vw_C} {fs : List Value} (hb : S.1.1 = cc) (ho : S.1.2.1 = own) (q : Nat) (hd : decode cc pc = .ok (.new idx, 3)) (hq : pc + 3 = q) (hN0 : pNw own idx ci qc fs) (hce : ce + 1 ≤ S.2.1.cells) (hsl : sl + qc.2.2 ≤ S.2.1.slots)
    (kk : ∀ w1, w1 = pset w n (eO ci fs) → Wp S q lv (.ref n :: st) w1 (n + 1) (ce + 1) (sl + qc.2.2)) : Wp S pc lv st w n ce sl := by
  intro D p l e s m args below meth c H locs ls Q hC hX hl hH hn hdm hs hS
  subst hq; subst hb; subst ho
  obtain ⟨f1, f2, ⟨tyf, f3, f4⟩, f5, f6, f7⟩ := hN0
  obtain ⟨hx, hcd, hml, hown, hts, hret, hnm, hlk, hK, hN⟩ := id hC
  have hKn := hK.1 ci _ f1
  refine W.newcK hx hcd hown (hts _ f5) (hts _ f6) (hts _ f7) rfl hd hce hsl hKn.2.1 hn fun H1 kC hkC e1 z1 o1 => ?_
  refine kk _ rfl D p l e s m args below meth c H1 locs ls Q hC hX hl (hH.push hn ⟨_, f1, (u_born tyf hts f2 hKn hkC e1 f3).to f4⟩ (fun q hq => o1 q (by omega))) z1 (pset_dom hdm (hs _ (by rw [← hn]; exact hS.1))) hs ⟨Nat.le_trans hS.1 (by omega), fun x h1 h2 => (o1 x (by have := hS.1; omega)).trans (hS.2.1 x h1 h2), hS.2.2⟩
theorem p_newarr {k N : Nat} {ty : FieldType} {at0 : ArrayType} (x : (Nat → Int32) ⊕ (Nat → Int64) ⊕ (Nat → UInt32) ⊕ (Nat → UInt64) ⊕ (Nat → Option Nat)) (hb : S.1.1 = cc) (q : Nat) (hd : decode cc pc = .ok (.newarray at0, 2)) (hq : pc + 2 = q) (hty : newarray.typeOf at0 = ty) (hT : ∀ D : PD, (pT D)[k]? = some (D.2.2 k, ty)) (hra : ∀ (s : State) (cA : ClassId), va_RA s cA ty → s.vm.findClass ("[" ++ ty.toString) = some cA) (hac : Cond.arrayClass ty ∈ PT)
    (hx0 : ∀ cA : ClassId, vp_cell cA (N, x) = arrV cA N (fun _ => defaultValue ty)) {z : Int} (hz : z = (N : Int)) (hN2 : N < 2147483647) (hbytes : N * componentBytes ty ≤ 536870912) (hce : ce + 1 ≤ S.2.1.cells) (hsl : sl + N ≤ S.2.1.slots)
    (kk : ∀ w1, w1 = pset w n (.inl (k, N, x)) → Wp S q lv (.ref n :: st) w1 (n + 1) (ce + 1) (sl + N)) : Wp S pc lv (.int (iI z) :: st) w n ce sl := by
  intro D p l e s m args below meth c H locs ls Q hC hX hl hH hn hdm hs hS
  subst hq; subst hb; subst hz; subst hty
  obtain ⟨hx, hcd, hml, hown, hts, hret, hnm, hlk, hK, hN⟩ := id hC
  refine va_newaK (N := N) hx hcd (hts _ hac) rfl hd rfl (fun h => (iI_vpin (N := N + 1) (j := N) (by omega) (by omega) : vp_in _ _) (Or.inl h)) (iI_clamp (by omega)) hbytes hce hsl hn fun H1 cA e1 z1 o1 hAr hNm => ?_
  have hcA : cA = D.2.2 k := Option.some.inj (hNm.symm.trans (hra s _ (hK.2 k _ (hT D)).2))
  subst hcA
  refine kk _ rfl D p l e s m args below meth c H1 locs ls Q hC hX hl (hH.push hn ?_ (fun q hq => o1 q (by omega))) z1 (pset_dom hdm (hs _ (by rw [← hn]; exact hS.1))) hs ⟨Nat.le_trans hS.1 (by omega), fun x h1 h2 => (o1 x (by have := hS.1; omega)).trans (hS.2.1 x h1 h2), hS.2.2⟩
  show H1[n]? = some (vp_cell _ _)
  rw [hx0]
  exact e1
theorem r_newI {N : Nat} {z : Int} (hb : S.1.1 = cc) (q : Nat) (hd : decode cc pc = .ok (.newarray .int, 2)) (hq : pc + 2 = q) (hac : Cond.arrayClass .int ∈ PT) (hz : z = (N : Int)) (hN2 : N ≤ 134217728) (hce : ce + 1 ≤ S.2.1.cells) (hsl : sl + N ≤ S.2.1.slots)
    (kk : ∀ w1, w1 = pset w n (eI N (fun _ => 0)) → Wp S q lv (.ref n :: st) w1 (n + 1) (ce + 1) (sl + N)) : Wp S pc lv (.int (iI z) :: st) w n ce sl :=
  p_newarr (k := 0) (ty := .int) (.inl fun _ => 0) hb q hd hq rfl (fun _ => rfl) (fun _ _ h => h) hac (fun _ => rfl) hz (by omega) (by show N * 4 ≤ _; omega) hce hsl kk
theorem r_newQ {own C : String} {idx k N : Nat} {z : Int} (hb : S.1.1 = cc) (ho : S.1.2.1 = own) (q : Nat) (hd : decode cc pc = .ok (.anewarray idx, 3)) (hq : pc + 3 = q) (hT : ∀ D : PD, (pT D)[k]? = some (D.2.2 k, .object C)) (hcl : Cond.classLink own idx C ∈ PT) (hao : Cond.arrayOver (.object C) ∈ PN) (hz : z = (N : Int)) (hN2 : N ≤ 134217728) (hce : ce + 1 ≤ S.2.1.cells) (hsl : sl + N ≤ S.2.1.slots)
    (kk : ∀ w1, w1 = pset w n (eQ k N (fun _ => none)) → Wp S q lv (.ref n :: st) w1 (n + 1) (ce + 1) (sl + N)) : Wp S pc lv (.int (iI z) :: st) w n ce sl := by
  intro D p l e s m args below meth c H locs ls Q hC hX hl hH hn hdm hs hS
  subst hq; subst hb; subst hz; subst ho
  obtain ⟨hx, hcd, hml, hown, hts, hret, hnm, hlk, hK, hN⟩ := id hC
  have hcl2 := iI_clamp (j := N) (by omega)
  refine W.anew hx hcd hown (hts _ hcl) (va_AO.use (hN _ hao)) rfl hd rfl (fun h => (iI_vpin (N := N + 1) (j := N) (by omega) (by omega) : vp_in _ _) (Or.inl h)) (by rw [hcl2]; omega) hce (by rw [hcl2]; exact hsl) fun cA kA comp f1 f2 f3 f4 => ?_
  rw [hcl2]
  obtain ⟨kA', comp', g1, g2, g3, g4⟩ := (hK.2 k _ (hT D)).2
  have hcA : cA = D.2.2 k := Option.some.inj (by first | exact f1.symm.trans g4 | exact f4.symm.trans g4)
  subst hcA
  generalize hH1 : H.push ({ cls := D.2.2 k, slots := Array.replicate N .null, vm := .none } : Cell) = H1
  have z1 : H1.size = H.size + 1 := by rw [← hH1, Array.size_push]
  have e1 : H1[H.size]? = some (arrV (D.2.2 k) N (fun _ => .null)) := by rw [← hH1, Array.getElem?_push_size, ← arrV_new]
  have o1 : ∀ q : Nat, q < H.size → H1[q]? = H[q]? := fun q hq => by rw [← hH1, Array.getElem?_push, if_neg (Nat.ne_of_lt hq)]
  rw [hn] at e1 z1
  have hk := kk _ rfl D p l e s m args below meth c H1 locs ls Q hC hX hl (hH.push hn e1 (fun q hq => o1 q (by omega))) z1 (pset_dom hdm (hs _ (by rw [← hn]; exact hS.1))) hs ⟨Nat.le_trans hS.1 (by omega), fun x h1 h2 => (o1 x (by have := hS.1; omega)).trans (hS.2.1 x h1 h2), hS.2.2⟩
  rw [← hn] at hk
  exact hk
theorem r_objInit {own : String} {idx a : Nat} (hb : S.1.1 = cc) (ho : S.1.2.1 = own) (q : Nat) (hd : decode cc pc = .ok (.invokespecial idx, 3)) (hq : pc + 3 = q) (h1 : Cond.methodLink own idx objectInit ∈ PT) (h2 : Cond.instanceMethod objectInit ∈ PT) (h3 : Cond.code objectInit ⟨#[0xb1]⟩ 1 none ∈ PT) (hfr : 1 ≤ S.2.1.frames) (hlo : (st.map fun v => v.category).sum + 12 ≤ S.2.1.locals)
    (kk : Wp S q lv st w n ce sl) : Wp S pc lv (.ref a :: st) w n ce sl := by
  intro D p l e s m args below meth c H locs ls Q hC hX hl hH hn hdm hs hS
  subst hq; subst hb; subst ho
  obtain ⟨hx, hcd, hml, hown, hts, hret, hnm, hlk, hK, hN⟩ := id hC
  exact W.objInit hx hcd hown (hts _ h1) (hts _ h2) (hts _ h3) rfl (by rw [hml]; exact hl.1) rfl hd hfr (by show 2 * 0 + _ + 12 ≤ _; omega) (kk D p l e s m args below meth c H locs ls Q hC hX hl hH hn hdm hs hS)
def pMx (own : String) (idx : Nat) (y : MethodName) (b : ByteArray) (L : Nat) : Prop := Cond.methodLink own idx y ∈ PT ∧ Cond.static y ∈ PT ∧ Cond.initialized "java/lang/Math" ∈ PT ∧ Cond.code y b L (some .int) ∈ PT
theorem r_max {own : String} {idx : Nat} {a b : Int} (hb : S.1.1 = cc) (ho : S.1.2.1 = own) (q : Nat) (hd : decode cc pc = .ok (.invokestatic idx, 3)) (hq : pc + 3 = q) (hM : pMx own idx Lib.Math.max.name Lib.Math.max.code 2) (hfr : 1 ≤ S.2.1.frames) (hlo : (st.map fun v => v.category).sum + 13 ≤ S.2.1.locals) (hce : ce ≤ S.2.1.cells) (hsl : sl ≤ S.2.1.slots) (ha : -2147483648 ≤ a ∧ a < 2147483648) (hbb : -2147483648 ≤ b ∧ b < 2147483648) (z : Int) (hz : (if a < b then b else a) = z)
    (kk : Wp S q lv (.int (iI z) :: st) w n ce sl) : Wp S pc lv (.int (iI b) :: .int (iI a) :: st) w n ce sl := by
  intro D p l e s m args below meth c H locs ls Q hC hX hl hH hn hdm hs hS
  subst hq; subst hb; subst ho; subst hz
  obtain ⟨hx, hcd, hml, hown, hts, hret, hnm, hlk, hK, hN⟩ := id hC
  refine va_mmax hx hcd (by rw [hml]; exact hl.1.symm) hown (hts _ hM.1) (hts _ hM.2.1) (hts _ hM.2.2.1) (hts _ hM.2.2.2) hfr hlo hce hsl hd ?_
  have hk := kk D p l e s m args below meth c H locs ls Q hC hX hl hH hn hdm hs hS
  simp only [iI_cmp_lt ha hbb]
  split <;> rename_i h <;> simp only [h, if_true, if_false] at hk <;> exact hk
theorem r_min {own : String} {idx : Nat} {a b : Int} (hb : S.1.1 = cc) (ho : S.1.2.1 = own) (q : Nat) (hd : decode cc pc = .ok (.invokestatic idx, 3)) (hq : pc + 3 = q) (hM : pMx own idx Lib.Math.min.name Lib.Math.min.code 2) (hfr : 1 ≤ S.2.1.frames) (hlo : (st.map fun v => v.category).sum + 13 ≤ S.2.1.locals) (hce : ce ≤ S.2.1.cells) (hsl : sl ≤ S.2.1.slots) (ha : -2147483648 ≤ a ∧ a < 2147483648) (hbb : -2147483648 ≤ b ∧ b < 2147483648) (z : Int) (hz : (if b < a then b else a) = z)
    (kk : Wp S q lv (.int (iI z) :: st) w n ce sl) : Wp S pc lv (.int (iI b) :: .int (iI a) :: st) w n ce sl := by
  intro D p l e s m args below meth c H locs ls Q hC hX hl hH hn hdm hs hS
  subst hq; subst hb; subst ho; subst hz
  obtain ⟨hx, hcd, hml, hown, hts, hret, hnm, hlk, hK, hN⟩ := id hC
  refine va_mmin hx hcd (by rw [hml]; exact hl.1.symm) hown (hts _ hM.1) (hts _ hM.2.1) (hts _ hM.2.2.1) (hts _ hM.2.2.2) hfr hlo hce hsl hd ?_
  have hk := kk D p l e s m args below meth c H locs ls Q hC hX hl hH hn hdm hs hS
  simp only [iI_cmp_lt hbb ha]
  split <;> rename_i h <;> simp only [h, if_true, if_false] at hk <;> exact hk
theorem r_abs {own : String} {idx : Nat} {a : Int} (hb : S.1.1 = cc) (ho : S.1.2.1 = own) (q : Nat) (hd : decode cc pc = .ok (.invokestatic idx, 3)) (hq : pc + 3 = q) (hM : pMx own idx Lib.Math.abs.name Lib.Math.abs.code 1) (hfr : 1 ≤ S.2.1.frames) (hlo : (st.map fun v => v.category).sum + 13 ≤ S.2.1.locals) (hce : ce ≤ S.2.1.cells) (hsl : sl ≤ S.2.1.slots) (ha : -2147483648 ≤ a ∧ a < 2147483648) (z : Int) (hz : (if 0 ≤ a then a else -a) = z)
    (kk : Wp S q lv (.int (iI z) :: st) w n ce sl) : Wp S pc lv (.int (iI a) :: st) w n ce sl := by
  intro D p l e s m args below meth c H locs ls Q hC hX hl hH hn hdm hs hS
  subst hq; subst hb; subst ho; subst hz
  obtain ⟨hx, hcd, hml, hown, hts, hret, hnm, hlk, hK, hN⟩ := id hC
  refine va_mabs hx hcd (by rw [hml]; exact hl.1.symm) hown (hts _ hM.1) (hts _ hM.2.1) (hts _ hM.2.2.1) (hts _ hM.2.2.2) hfr hlo hce hsl hd ?_
  have hk := kk D p l e s m args below meth c H locs ls Q hC hX hl hH hn hdm hs hS
  have h0 : (0 : Int32) ≤ iI a ↔ 0 ≤ a := iI_cmp_le (a := 0) (b := a) (by decide) ha
  have h1 : (0 : Int32) - iI a = iI (-a) := by rw [show (0 : Int32) = iI 0 from rfl, iI_sub, Int.zero_sub]
  simp only [h0, h1]
  split <;> rename_i h <;> simp only [h, if_true, if_false] at hk <;> exact hk
theorem r_ldc2 {own : String} {idx : Nat} {v : Int64} (hb : S.1.1 = cc) (ho : S.1.2.1 = own) (q : Nat) (hd : decode cc pc = .ok (.ldc2_w idx, 3)) (hq : pc + 3 = q) (h1 : Cond.constantLong own idx v ∈ PT) (kk : Wp S q lv (.long v :: st) w n ce sl) : Wp S pc lv st w n ce sl := by
  intro D p l e s m args below meth c H locs ls Q hC hX hl hH hn hdm hs hS
  subst hq; subst hb; subst ho
  obtain ⟨hx, hcd, hml, hown, hts, hret, hnm, hlk, hK, hN⟩ := id hC
  exact lv_ldc2 hx hcd hown (hts _ h1) hd (kk D p l e s m args below meth c H locs ls Q hC hX hl hH hn hdm hs hS)
/-! ends -/
section PRET
variable {b : ByteArray} {own name : String} {nL : Nat} {ret : Option FieldType} {rm : Room} {A : Nat → Prop} {Q : Option Value → PW → Nat → Prop}
theorem r_iret {v : Int32} {ty : FieldType} (hS0 : S = mS b own nL ret name rm A Q) (hd : decode b pc = .ok (.ireturn, 1)) (hr : ret = some ty) (hnw : narrow ty (.int v) = .int v) (hce : ce ≤ rm.cells) (hsl : sl ≤ rm.slots) (hq : Q (some (.int v)) w n) : Wp S pc lv [.int v] w n ce sl := by
  intro D p l e s m args below meth c H locs ls Q' hC hX hl hH hn hdm hs hS
  subst hS0
  obtain ⟨hx, hcd, hml, hown, hts, hret, hnm, hlk, hK⟩ := id hC
  cases hX
  refine W.widen hce hsl ?_
  exact W.zret hx hcd (hret.trans hr) hnw (fun t ht hW => ⟨⟨_, w, rfl, by rw [ht, hn]; exact hq, by rw [ht]; exact hH, hdm, pK.moved hW hK⟩, hS.F ht⟩) hS.2.2 hd hlk
theorem r_lret {v : Int64} (hS0 : S = mS b own nL ret name rm A Q) (hd : decode b pc = .ok (.lreturn, 1)) (hr : ret = some .long) (hce : ce ≤ rm.cells) (hsl : sl ≤ rm.slots) (hq : Q (some (.long v)) w n) : Wp S pc lv [.long v] w n ce sl := by
  intro D p l e s m args below meth c H locs ls Q' hC hX hl hH hn hdm hs hS
  subst hS0
  obtain ⟨hx, hcd, hml, hown, hts, hret, hnm, hlk, hK⟩ := id hC
  cases hX
  refine W.widen hce hsl ?_
  exact W.lret hx hcd (hret.trans hr) (fun t ht hW => ⟨⟨_, w, rfl, by rw [ht, hn]; exact hq, by rw [ht]; exact hH, hdm, pK.moved hW hK⟩, hS.F ht⟩) hS.2.2 hd hlk
theorem r_vret (hS0 : S = mS b own nL ret name rm A Q) (hd : decode b pc = .ok (.return_, 1)) (hr : ret = none) (hce : ce ≤ rm.cells) (hsl : sl ≤ rm.slots) (hq : Q none w n) : Wp S pc lv [] w n ce sl := by
  intro D p l e s m args below meth c H locs ls Q' hC hX hl hH hn hdm hs hS
  subst hS0
  obtain ⟨hx, hcd, hml, hown, hts, hret, hnm, hlk, hK⟩ := id hC
  cases hX
  refine W.widen hce hsl ?_
  exact W.vret hx hcd (hret.trans hr) (fun t ht hW => ⟨⟨_, w, rfl, by rw [ht, hn]; exact hq, by rw [ht]; exact hH, hdm, pK.moved hW hK⟩, hS.F ht⟩) hS.2.2 hd hlk
theorem r_aret {v : Value} {C : String} (hS0 : S = mS b own nL ret name rm A Q) (hd : decode b pc = .ok (.areturn, 1)) (hr : ret = some (.object C)) (hv : v = .null ∨ ∃ a, v = .ref a) (hce : ce ≤ rm.cells) (hsl : sl ≤ rm.slots) (hq : Q (some v) w n) : Wp S pc lv [v] w n ce sl := by
  intro D p l e s m args below meth c H locs ls Q' hC hX hl hH hn hdm hs hS
  subst hS0
  obtain ⟨hx, hcd, hml, hown, hts, hret, hnm, hlk, hK⟩ := id hC
  cases hX
  refine W.widen hce hsl ?_
  exact W.aret hx hcd (hret.trans hr) (Or.inl ⟨_, rfl⟩) hv (fun t ht hW => ⟨⟨_, w, rfl, by rw [ht, hn]; exact hq, by rw [ht]; exact hH, hdm, pK.moved hW hK⟩, hS.F ht⟩) hS.2.2 hd hlk
end PRET
/-! calls -/
theorem p_call {p : Program} {l : Launch} {e : Env} {R : Room} {s : State} {m : MethodId} {args a : Array Value} {below : List Frame} {meth : Method} {c : Code} {H : Heap} {locs : List Loc} {ls : Array Slot} {st0 rest : List Value} {Q : State → Prop} {D : PD} {A0 A1 : Nat → Prop} {Q1 : Option Value → PW → Nat → Prop} {mc ms : Nat} (hr : va_Run p l e R s m args below meth c H locs ce sl mc ms (F0 m pc ls st0) rest (pQ D A1 Q1 a) A1) (hS : va_S A0 s.heap H locs) (hA : ∀ q, A1 q → A0 q)
    (kk : ∀ (v : Option Value) (w1 : PW) (H1 : Heap) (locs1 : List Loc), Q1 v w1 H1.size → pH D w1 H1 → (∀ a, (w1 a).isSome = true → A1 a) → va_S A0 s.heap H1 locs1 → W p l e R s m args below meth c H1 locs1 (ce + mc) (sl + ms) Q (F0 m (pc + 3) ls (v.toList ++ rest))) : W p l e R s m args below meth c H locs ce sl Q (F0 m pc ls st0) := by
  intro T hT X
  obtain ⟨v, st₀, t, T', L, h0, X', hL, e1, e2, ⟨⟨v', w1, hv, hp, hb, hd1, -⟩, hz, hk⟩, st⟩ := hr T hT X
  cases hv
  rw [h0] at hz hk
  obtain ⟨t2, a1, b1⟩ := kk v w1 T'.heap (locs ++ L) (by rw [e1]; exact hp) (by rw [e1]; exact hb) hd1
    ⟨Nat.le_trans hS.1 (by rw [e1]; exact hz), fun q h1 h2 => by rw [e1, hk q (Nat.lt_of_lt_of_le h1 hS.1) (fun z => h2 (hA q z))]; exact hS.2.1 q h1 h2, fun q hq => by
      rcases List.mem_append.mp hq with h | h
      · exact hS.2.2 q h
      · exact hA _ (hL q h)⟩ T' rfl X'
  exact ⟨t2, st t2 a1, b1⟩
def pMt (y : MethodName) (b : ByteArray) (L : Nat) (r : Option FieldType) (k : Nat) : Prop := Cond.code y b L r ∈ PT ∧ Cond.initialized y.cls ∈ PT ∧ (y.cls ≠ "java/lang/invoke/MethodHandle" ∧ y.cls ≠ "java/lang/invoke/VarHandle") ∧ (parseMethodDescriptor y.desc).map (fun d => d.parameters.length) = some k
def pCV (own : String) (idx : Nat) (y : MethodName) (b : ByteArray) (L : Nat) (r : Option FieldType) (k : Nat) : Prop := pMt y b L r k ∧ Cond.methodLink own idx y ∈ PT ∧ Cond.instanceMethod y ∈ PT ∧ Cond.selects y.cls y y ∈ PT
def pCS (own : String) (idx : Nat) (y : MethodName) (b : ByteArray) (L : Nat) (r : Option FieldType) (k : Nat) : Prop := pMt y b L r k ∧ Cond.methodLink own idx y ∈ PT ∧ Cond.static y ∈ PT
def pCN (own : String) (idx : Nat) (y : MethodName) (b : ByteArray) (L : Nat) (k : Nat) : Prop := pMt y b L none k ∧ Cond.methodLink own idx y ∈ PT ∧ Cond.instanceMethod y ∈ PT ∧ y.name = "<init>"
theorem pMt.cb {R : Room} {s : State} {args : Array Value} {own : String} {idx : Nat} {y : MethodName} {b : ByteArray} {L : Nat} {r : Option FieldType} {k : Nat} {rm : Room} (h : pMt y b L r k) (hl : Cond.methodLink own idx y ∈ PT) (hts : ∀ x ∈ PT, x.before args s = true) (hR : rm.frames + 1 ≤ R.frames ∧ 8 + (L + 11) + rm.locals ≤ R.locals) : CallB R s args own idx y b L r (Cond.code y b L r :: PT) rm rm.cells rm.slots k := by
  refine ⟨rfl, rfl, hR.1, hR.2, pay_in hts (PT_cons h.1), List.mem_cons_self, hts _ h.1, hts _ h.2.1, h.2.2.1, fun sig hsig => ?_, hts _ hl⟩
  have h2 := h.2.2.2
  rw [hsig] at h2
  exact (Option.some.inj h2).symm
theorem p_blind {D : PD} {w : PW} {n : Nat} (av : List Value) : FrameBlind (va_Pc av (fun U => U.heap.size = n ∧ pH D w U.heap ∧ pK D U)) := fun a U g mk q => ⟨q.1, q.2.1, q.2.2.1, pK.same (u := U) (U := U.calling g mk a) rfl q.2.2.2⟩
theorem p_pA {S : PS} {s : State} {H : Heap} {locs : List Loc} {w : PW} {n : Nat} (hn : H.size = n) (hdm : ∀ a, (w a).isSome = true → S.2.2.1 a) (hs : ∀ q, s.heap.size ≤ q → S.2.2.1 q) (hS : va_S S.2.2.1 s.heap H locs) : ∀ q, pA w n q → S.2.2.1 q := fun q hq => hq.elim (hdm q) (fun h => hs q (Nat.le_trans hS.1 (by rw [hn]; exact h)))
section PCALL
variable {own : String} {idx : Nat} {y : MethodName} {b : ByteArray} {L : Nat} {r : Option FieldType} {rm : Room} {k a ci : Nat} {As : List Value} {qc : vw_C} {fs : List Value} {st0 : List Value} {Q : Option Value → PW → Nat → Prop}
theorem r_callV (hb : S.1.1 = cc) (ho : S.1.2.1 = own) (q : Nat) (hd : decode cc pc = .ok (.invokevirtual idx, 3)) (hq : pc + 3 = q) (hl0 : pCV own idx y b L r k) (hc : Ctr y b L r rm (.ref a :: As) w n Q) (hk : As.length = k) (hst : st0 = As.reverse ++ .ref a :: st) (hw : w a = some (eO ci fs)) (hci : vwCl[ci]? = some qc) (hqc : qc.1 = y.cls) (hR : rm.frames + 1 ≤ S.2.1.frames ∧ 8 + (L + 11) + rm.locals ≤ S.2.1.locals) (hcat : (st.map fun v => v.category).sum ≤ 8) (hce : ce + rm.cells ≤ S.2.1.cells) (hsl : sl + rm.slots ≤ S.2.1.slots)
    (kk : ∀ v w1 n1, Q v w1 n1 → Wp S q lv (v.toList ++ st) w1 n1 (ce + rm.cells) (sl + rm.slots)) : Wp S pc lv st0 w n ce sl := by
  intro D p l e s m args below meth c H locs ls Q' hC hX hl hH hn hdm hs hS
  subst hq; subst hb; subst ho
  obtain ⟨hx, hcd, hml, hown, hts, hret, hnm, hlk, hK⟩ := id hC
  obtain ⟨m1, m2, m3, m4⟩ := hl0
  obtain ⟨cell, c1, c2, c3⟩ := va_recv hK.1 (hH.one hw) hci (q0 := 0) rfl
  rw [hqc] at c3
  refine p_call (va_runV (C := y.cls) (rest := st) ⟨hx, hcd, hml, hown, hts⟩ (hc l D) ⟨pMt.cb m1 m2 hts hR, hts _ m3, hts _ m4⟩ ⟨p_blind _, ⟨cell, c1, c2, c3⟩, fun U hU hW => ⟨rfl, by rw [hU, hn], by rw [hU]; exact hH, pK.moved hW hK⟩⟩ rfl hk hl.1 hst (lv_room hcat) hd ⟨hce, hsl⟩) hS (p_pA hn hdm hs hS) fun v w1 H1 locs1 g1 g2 g3 g4 => ?_
  exact kk v w1 _ g1 D p l e s m args below meth c H1 locs1 ls Q' hC hX hl g2 rfl (fun q hq => p_pA hn hdm hs hS q (g3 q hq)) hs g4
theorem r_callS (hb : S.1.1 = cc) (ho : S.1.2.1 = own) (q : Nat) (hd : decode cc pc = .ok (.invokestatic idx, 3)) (hq : pc + 3 = q) (hl0 : pCS own idx y b L r k) (hc : Ctr y b L r rm As w n Q) (hk : As.length = k) (hst : st0 = As.reverse ++ st) (hR : rm.frames + 1 ≤ S.2.1.frames ∧ 8 + (L + 11) + rm.locals ≤ S.2.1.locals) (hcat : (st.map fun v => v.category).sum ≤ 8) (hce : ce + rm.cells ≤ S.2.1.cells) (hsl : sl + rm.slots ≤ S.2.1.slots)
    (kk : ∀ v w1 n1, Q v w1 n1 → Wp S q lv (v.toList ++ st) w1 n1 (ce + rm.cells) (sl + rm.slots)) : Wp S pc lv st0 w n ce sl := by
  intro D p l e s m args below meth c H locs ls Q' hC hX hl hH hn hdm hs hS
  subst hq; subst hb; subst ho
  obtain ⟨hx, hcd, hml, hown, hts, hret, hnm, hlk, hK⟩ := id hC
  obtain ⟨m1, m2, m3⟩ := hl0
  refine p_call (va_runS (rest := st) ⟨hx, hcd, hml, hown, hts⟩ (hc l D) ⟨pMt.cb m1 m2 hts hR, hts _ m3⟩ ⟨p_blind _, fun U hU hW => ⟨rfl, by rw [hU, hn], by rw [hU]; exact hH, pK.moved hW hK⟩⟩ rfl hk hl.1 hst (lv_room hcat) hd ⟨hce, hsl⟩) hS (p_pA hn hdm hs hS) fun v w1 H1 locs1 g1 g2 g3 g4 => ?_
  exact kk v w1 _ g1 D p l e s m args below meth c H1 locs1 ls Q' hC hX hl g2 rfl (fun q hq => p_pA hn hdm hs hS q (g3 q hq)) hs g4
theorem r_callN (hb : S.1.1 = cc) (ho : S.1.2.1 = own) (q : Nat) (hd : decode cc pc = .ok (.invokespecial idx, 3)) (hq : pc + 3 = q) (hl0 : pCN own idx y b L k) (hc : Ctr y b L none rm (.ref a :: As) w n Q) (hk : As.length = k) (hst : st0 = As.reverse ++ .ref a :: st) (hR : rm.frames + 1 ≤ S.2.1.frames ∧ 8 + (L + 11) + rm.locals ≤ S.2.1.locals) (hcat : (st.map fun v => v.category).sum ≤ 8) (hce : ce + rm.cells ≤ S.2.1.cells) (hsl : sl + rm.slots ≤ S.2.1.slots)
    (kk : ∀ v w1 n1, Q v w1 n1 → Wp S q lv (v.toList ++ st) w1 n1 (ce + rm.cells) (sl + rm.slots)) : Wp S pc lv st0 w n ce sl := by
  intro D p l e s m args below meth c H locs ls Q' hC hX hl hH hn hdm hs hS
  subst hq; subst hb; subst ho
  obtain ⟨hx, hcd, hml, hown, hts, hret, hnm, hlk, hK⟩ := id hC
  obtain ⟨m1, m2, m3, m4⟩ := hl0
  refine p_call (va_runI (rest := st) ⟨hx, hcd, hml, hown, hts⟩ (hc l D) ⟨pMt.cb m1 m2 hts hR, m4, hts _ m3⟩ ⟨p_blind _, fun U hU hW => ⟨rfl, by rw [hU, hn], by rw [hU]; exact hH, pK.moved hW hK⟩⟩ rfl hk hl.1 hst (lv_room hcat) hd ⟨hce, hsl⟩) hS (p_pA hn hdm hs hS) fun v w1 H1 locs1 g1 g2 g3 g4 => ?_
  exact kk v w1 _ g1 D p l e s m args below meth c H1 locs1 ls Q' hC hX hl g2 rfl (fun q hq => p_pA hn hdm hs hS q (g3 q hq)) hs g4
end PCALL
end PHR
