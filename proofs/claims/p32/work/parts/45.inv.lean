/-! pure: what holds of every state that a script reaches -/
def nOkp (D : List Int32) (nx : Nat) (x : Nt) : Prop := nOk x ∧ nB x ≤ nE x ∧ nE x ≤ D.length ∧ nNum x < nx
def lOk (D : List Int32) (nx : Nat) (l : List Nt) : Prop := (∀ j, j < l.length → nOkp D nx (lg l j)) ∧ ∀ i j, i < j → j < l.length → nNum (lg l i) < nNum (lg l j)
theorem pOk_of {D : List Int32} {nx : Nat} {l : List Nt} (h1 : D.length ≤ 120) (h2 : okL D) (h3 : l.length ≤ 10) (h4 : lOk D nx l) : pOk (D, l, nx) := ⟨h1, h2, h3, h4.1, h4.2⟩
theorem pOk_l {D : List Int32} {nx : Nat} {l : List Nt} (h : pOk (D, l, nx)) : lOk D nx l := ⟨h.2.2.2.1, h.2.2.2.2⟩
theorem lOk_map {D E : List Int32} {nx : Nat} {l : List Nt} (f : Nt → Nt) (h : lOk D nx l) (hf : ∀ x, nOkp D nx x → nOkp E nx (f x)) (hn : ∀ x, nNum (f x) = nNum x) : lOk E nx (l.map f) := by
  refine ⟨fun j hj => ?_, fun i j hij hj => ?_⟩
  · rw [List.length_map] at hj; rw [lg_map f l hj]; exact hf _ (h.1 j hj)
  · rw [List.length_map] at hj; rw [lg_map f l hj, lg_map f l (by omega), hn, hn]; exact h.2 i j hij hj
theorem lOk_set {D : List Int32} {nx k : Nat} {l : List Nt} {y : Nt} (h : lOk D nx l) (hk : k < l.length) (hy : nOkp D nx y) (hn : nNum y = nNum (lg l k)) : lOk D nx (l.set k y) := by
  have e : ∀ j, nNum (lg (l.set k y) j) = nNum (lg l j) := fun j => by
    rw [lg_set' _ _ hk]
    by_cases h1 : j = k
    · rw [if_pos h1, hn, h1]
    · rw [if_neg h1]
  refine ⟨fun j hj => ?_, fun i j hij hj => ?_⟩
  · rw [List.length_set] at hj
    rw [lg_set' _ _ hk]
    by_cases h1 : j = k
    · rw [if_pos h1]; exact hy
    · rw [if_neg h1]; exact h.1 j hj
  · rw [List.length_set] at hj; rw [e, e]; exact h.2 i j hij hj
theorem lOk_erase {D : List Int32} {nx i : Nat} {l : List Nt} (h : lOk D nx l) (hi : i < l.length) : lOk D nx (l.eraseIdx i) := by
  have el : (l.eraseIdx i).length = l.length - 1 := by rw [List.length_eraseIdx, if_pos hi]
  refine ⟨fun j hj => ?_, fun a b hab hb => ?_⟩
  · rw [el] at hj; rw [lg_erase]; split
    · exact h.1 j (by omega)
    · exact h.1 _ (by omega)
  · rw [el] at hb; rw [lg_erase, lg_erase]
    split <;> split
    · exact h.2 a b hab (by omega)
    · exact h.2 a _ (by omega) (by omega)
    · omega
    · exact h.2 _ _ (by omega) (by omega)
theorem lOk_app {D : List Int32} {nx : Nat} {l : List Nt} {y : Nt} (h : lOk D nx l) (hy : nOkp D (nx + 1) y) (hn : nNum y = nx) : lOk D (nx + 1) (l ++ [y]) := by
  refine ⟨fun j hj => ?_, fun i j hij hj => ?_⟩
  · rw [List.length_append] at hj
    by_cases e : j = l.length
    · subst e; rw [lg_app2]; exact hy
    · have h2 : j < l.length := by simp at hj; omega
      rw [lg_app1 _ _ h2]; have h3 := h.1 j h2; exact ⟨h3.1, h3.2.1, h3.2.2.1, by have := h3.2.2.2; omega⟩
  · rw [List.length_append] at hj
    have hi2 : i < l.length := by simp at hj; omega
    rw [lg_app1 _ _ hi2]
    by_cases e : j = l.length
    · subst e; rw [lg_app2, hn]; exact (h.1 i hi2).2.2.2
    · have h2 : j < l.length := by simp at hj; omega
      rw [lg_app1 _ _ h2]; exact h.2 i j hij h2
theorem mg_ok {D : List Int32} {nx : Nat} : ∀ K (l : List Nt) (r : Nat), K ≤ l.length → lOk D nx l → lOk D nx (mgN K l r).1 ∧ (mgN K l r).1.length ≤ l.length := by
  intro K
  induction K with
  | zero => intro l r _ h; exact ⟨h, Nat.le_refl _⟩
  | succ k ih =>
    intro l r hK h
    simp only [mgN]
    have hf := ftN_le l k
    split
    · rename_i hlt
      have h1 : lOk D nx ((l.set (ftN l k) (addW (lg l (ftN l k)) (lg l k))).eraseIdx k) := by
        refine lOk_erase (lOk_set h (by omega) ?_ rfl) (by rw [List.length_set]; omega)
        exact h.1 (ftN l k) (by omega)
      have el : ((l.set (ftN l k) (addW (lg l (ftN l k)) (lg l k))).eraseIdx k).length = l.length - 1 := by rw [List.length_eraseIdx, List.length_set, if_pos (by omega)]
      obtain ⟨h2, h3⟩ := ih _ (r + 1) (by rw [el]; omega) h1
      exact ⟨h2, by rw [el] at h3; omega⟩
    · exact ih l r (by omega) h
theorem atN_ok {D : List Int32} {nx b e : Nat} {x : Nt} (h : nOkp D nx x) (h1 : b ≤ e) (h2 : e ≤ D.length) (h3 : D.length ≤ 120) : nOkp D nx (atN b e x) := by
  obtain ⟨⟨a1, a2, a3, a4, a5, a6⟩, a7, a8, a9⟩ := h
  exact ⟨⟨a1, a2, a3, (by show b ≤ 200; omega), a5, a6⟩, h1, h2, a9⟩
theorem co_ok {D : List Int32} {nx : Nat} {l : List Nt} {thr : Int} {o : Nat → Nat} {c : Nat} (hD : D.length ≤ 120) (h : lOk D nx l) (ht : 0 ≤ thr) (ho : ∀ j, j < c → o j < l.length) : ∀ i, i ≤ c → lOk D nx (coN l D thr o c i).1 := by
  intro i
  induction i with
  | zero => intro _; exact h
  | succ i ih =>
    intro hi
    have h1 := ih (by omega)
    rcases stN_cases l D thr o c i (coN l D thr o c i).2.1 with h2 | ⟨s, h2, h3, h4, h5⟩
    · rw [coN_no h2]; exact h1
    · rw [coN_yes h2]
      obtain ⟨m, hm, hm1, hm2⟩ := elN_ne (h.1 (o i) (ho i (by omega))).1 ht (by omega) h5
      rw [hm]
      show lOk D nx ((coN l D thr o c i).1.set (o i) (atN s m (lg (coN l D thr o c i).1 (o i))))
      have hl : o i < (coN l D thr o c i).1.length := by rw [coN_len]; exact ho i (by omega)
      exact lOk_set h1 hl (atN_ok (h1.1 _ hl) (by omega) hm2 hD) rfl
theorem qtN_ok {D : List Int32} {nx : Nat} {x : Nt} (hD : okL D) (h : nOkp D nx x) (h1 : nE x ≤ nB x + 16) : nOkp D nx (qtN D x) := by
  obtain ⟨⟨a1, a2, a3, a4, a5, a6⟩, a7, a8, a9⟩ := h
  have L1 := slice_len D (nB x - 6) (nB x)
  have L2 := slice_len D (nB x) (nE x)
  have L3 := slice_len D (nE x) (nE x + 6)
  exact ⟨⟨by show (slice D _ _).length ≤ 6; omega, by show (slice D _ _).length ≤ 16; omega, by show (slice D _ _).length ≤ 6; omega, a4, okL.slice hD _ _, okL.slice hD _ _⟩, a7, a8, a9⟩
theorem mkN_ok {D : List Int32} {k b e : Nat} (hD : okL D) (h1 : b ≤ e) (h2 : e ≤ b + 16) (h3 : e ≤ D.length) (h4 : D.length ≤ 120) : nOkp D (k + 1) (mkN D k b e) := by
  have L1 := slice_len D (b - 6) b
  have L2 := slice_len D b e
  have L3 := slice_len D e (e + 6)
  exact ⟨⟨by show (slice D _ _).length ≤ 6; omega, by show (slice D _ _).length ≤ 16; omega, by show (slice D _ _).length ≤ 6; omega, by show b ≤ 200; omega, okL.slice hD _ _, okL.slice hD _ _⟩, h1, h3, by show k < k + 1; omega⟩
def gOk (cap : Nat) (p : Pg) : Prop := pOk p ∧ p.2.2 ≤ cap
def slOk (cap : Nat) (s : Option (Pg × Int)) : Prop := ∀ v, s = some v → gOk cap v.1 ∧ 0 ≤ v.2 ∧ v.2 ≤ 108
def sOk (cap : Nat) (S : Fs) : Prop := (S.1.length ≤ 40 ∧ okL S.1) ∧ gOk cap S.2.1 ∧ (∀ p ∈ S.2.2.1, gOk cap p) ∧ slOk cap S.2.2.2.1 ∧ slOk cap S.2.2.2.2.1 ∧ 0 ≤ S.2.2.2.2.2 ∧ S.2.2.2.2.2 ≤ 108
theorem gOk.up {a b : Nat} (h : a ≤ b) {p : Pg} (g : gOk a p) : gOk b p := ⟨g.1, Nat.le_trans g.2 h⟩
theorem slOk.up {a b : Nat} (h : a ≤ b) {s : Option (Pg × Int)} (g : slOk a s) : slOk b s := fun v hv => ⟨(g v hv).1.up h, (g v hv).2⟩
theorem sOk.up {a b : Nat} (h : a ≤ b) {S : Fs} (g : sOk a S) : sOk b S := ⟨g.1, g.2.1.up h, fun p hp => (g.2.2.1 p hp).up h, g.2.2.2.1.up h, g.2.2.2.2.1.up h, g.2.2.2.2.2⟩
theorem recH_ok {cap : Nat} {hs : List Pg} {p : Pg} (h : ∀ q ∈ hs, gOk cap q) (hp : gOk cap p) : ∀ q ∈ recH hs p, gOk cap q := by
  intro q hq
  unfold recH at hq
  rcases List.mem_append.mp hq with h1 | h1
  · split at h1
    · exact h q h1
    · exact h q (List.mem_of_mem_drop h1)
  · rw [List.mem_singleton.mp h1]; exact hp
section SOK
variable {cap : Nat} {B D : List Int32} {l : List Nt} {nx : Nat} {hs : List Pg} {s0 s1 : Option (Pg × Int)} {thr : Int}
theorem sOk_new (h : sOk cap (B, (D, l, nx), hs, s0, s1, thr)) {p : Pg} (hp : gOk (cap + 1) p) : sOk (cap + 1) (stP B D l nx hs s0 s1 thr p) := by
  obtain ⟨h1, h2, h3, h4, h5, h6⟩ := sOk.up (Nat.le_succ cap) h
  exact ⟨h1, hp, recH_ok h3 h2, h4, h5, h6⟩
theorem ok_type (h : sOk cap (B, (D, l, nx), hs, s0, s1, thr)) (z : Int) : sOk (cap + 1) (oType B D l nx hs s0 s1 thr z).2 := by
  have hu := sOk.up (Nat.le_succ cap) h
  unfold oType
  split
  · exact hu
  · split
    · exact hu
    · rename_i h1 h2
      refine ⟨⟨by simp; omega, okL.app hu.1.2 (fun c hc => ?_)⟩, hu.2⟩
      rw [List.mem_singleton.mp hc]
      intro h3
      have h4 := congrArg Int32.toInt h3
      rw [iI_toInt (by omega), iI_toInt (by omega)] at h4
      omega
theorem ok_clear (h : sOk cap (B, (D, l, nx), hs, s0, s1, thr)) : sOk (cap + 1) (oClear B D l nx hs s0 s1 thr).2 := by
  have hu := sOk.up (Nat.le_succ cap) h
  exact ⟨⟨Nat.zero_le _, fun c hc => absurd hc List.not_mem_nil⟩, hu.2⟩
theorem ok_load (h : sOk cap (B, (D, l, nx), hs, s0, s1, thr)) : sOk (cap + 1) (oLoad B D l nx hs s0 s1 thr).2 := by
  obtain ⟨hb, ⟨hp, hc⟩, -⟩ := id h
  have hBl : B.length ≤ 40 := hb.1
  refine sOk_new h ⟨pOk_of (by omega) hb.2 (by rw [List.length_map]; exact hp.2.2.1) (lOk_map _ (pOk_l hp) (fun x hx => ?_) (fun x => rfl)), by show nx ≤ cap + 1; exact Nat.le_succ_of_le hc⟩
  obtain ⟨⟨a1, a2, a3, a4, a5, a6⟩, a7, a8, a9⟩ := hx
  exact ⟨⟨a1, a2, a3, by show min (nB x) B.length ≤ 200; omega, a5, a6⟩, by show min (nB x) B.length ≤ min (nE x) B.length; omega, by show min (nE x) B.length ≤ B.length; omega, a9⟩
theorem ok_ins (h : sOk cap (B, (D, l, nx), hs, s0, s1, thr)) (z : Int) : sOk (cap + 1) (oIns B D l nx hs s0 s1 thr z).2 := by
  have hu := sOk.up (Nat.le_succ cap) h
  obtain ⟨hb, ⟨hp, hc⟩, -⟩ := id h
  have hBl : B.length ≤ 40 := hb.1
  unfold oIns
  split
  · exact hu
  · split
    · exact hu
    · rename_i h1 h2
      have hz : posN D z = true := by cases e : posN D z <;> simp_all
      have hz2 := of_decide_eq_true hz
      have L := putL_len (L := D) (M := B) (p := z.toNat) (by omega)
      refine sOk_new h ⟨pOk_of (by omega) (okL.put hp.2.1 hb.2 _) (by rw [List.length_map]; exact hp.2.2.1) (lOk_map _ (pOk_l hp) (fun x hx => ?_) (fun x => rfl)), by show nx ≤ cap + 1; exact Nat.le_succ_of_le hc⟩
      obtain ⟨⟨a1, a2, a3, a4, a5, a6⟩, a7, a8, a9⟩ := hx
      refine ⟨⟨a1, a2, a3, ?_, a5, a6⟩, ?_, ?_, a9⟩
      · show (if z.toNat ≤ nB x then nB x + B.length else nB x) ≤ 200; split <;> omega
      · show (if z.toNat ≤ nB x then nB x + B.length else nB x) ≤ (if z.toNat ≤ nB x ∨ z.toNat < nE x then nE x + B.length else nE x); split <;> split <;> omega
      · show (if z.toNat ≤ nB x ∨ z.toNat < nE x then nE x + B.length else nE x) ≤ _; rw [L]; split <;> omega
theorem ok_del (h : sOk cap (B, (D, l, nx), hs, s0, s1, thr)) (z m : Int) : sOk (cap + 1) (oDel B D l nx hs s0 s1 thr z m).2 := by
  have hu := sOk.up (Nat.le_succ cap) h
  obtain ⟨hb, ⟨hp, hc⟩, -⟩ := id h
  have hBl : B.length ≤ 40 := hb.1
  unfold oDel
  split
  · exact hu
  · split
    · exact hu
    · rename_i h1 h2
      have hz : posN D z = true := by cases e : posN D z <;> simp_all
      have hz2 := of_decide_eq_true hz
      have L := cutL_len (L := D) (p := z.toNat) (k := m.toNat) (by omega)
      have hD := hp.1
      simp only at hD
      refine sOk_new h ⟨pOk_of (by omega) (okL.cut hp.2.1 _ _) (by rw [List.length_map]; exact hp.2.2.1) (lOk_map _ (pOk_l hp) (fun x hx => ?_) (fun x => rfl)), by show nx ≤ cap + 1; exact Nat.le_succ_of_le hc⟩
      obtain ⟨⟨a1, a2, a3, a4, a5, a6⟩, a7, a8, a9⟩ := hx
      have b1 := bndD_le (nB x) z.toNat m.toNat
      refine ⟨⟨a1, a2, a3, ?_, a5, a6⟩, bndD_mono a7, ?_, a9⟩
      · show bndD (nB x) z.toNat m.toNat ≤ 200; omega
      · show bndD (nE x) z.toNat m.toNat ≤ _; rw [L]; unfold bndD; split <;> omega
theorem ok_com (h : sOk cap (B, (D, l, nx), hs, s0, s1, thr)) (f t : Int) : sOk (cap + 1) (oCom B D l nx hs s0 s1 thr f t).2 := by
  have hu := sOk.up (Nat.le_succ cap) h
  obtain ⟨hb, ⟨hp, hc⟩, -⟩ := id h
  have hBl : B.length ≤ 40 := hb.1
  unfold oCom
  split
  · exact hu
  · split
    · exact hu
    · split
      · exact hu
      · rename_i h1 h2 h3
        have hz : posN D f = true := by cases e : posN D f <;> simp_all
        have hz2 := of_decide_eq_true hz
        have hr : rngN D f t 16 = true := by cases e : rngN D f t 16 <;> simp_all
        have hr2 := of_decide_eq_true hr
        have hD := hp.1
        simp only at hD hc
        exact sOk_new h ⟨pOk_of hD hp.2.1 (by simp; omega) (lOk_app (pOk_l hp) (mkN_ok hp.2.1 (by omega) (by omega) (by omega) hD) rfl), by show nx + 1 ≤ cap + 1; omega⟩
theorem ixN_lt {z : Int} (h : ¬ l.length ≤ ixN l z) : ixN l z < l.length := by omega
theorem ok_rem (h : sOk cap (B, (D, l, nx), hs, s0, s1, thr)) (z : Int) : sOk (cap + 1) (oRem B D l nx hs s0 s1 thr z).2 := by
  have hu := sOk.up (Nat.le_succ cap) h
  obtain ⟨hb, ⟨hp, hc⟩, -⟩ := id h
  have hBl : B.length ≤ 40 := hb.1
  unfold oRem
  split
  · exact hu
  · rename_i h1
    have hl := hp.2.2.1
    simp only at hl
    refine sOk_new h ⟨pOk_of hp.1 hp.2.1 ?_ (lOk_erase (pOk_l hp) (ixN_lt h1)), Nat.le_succ_of_le hc⟩
    rw [List.length_eraseIdx, if_pos (ixN_lt h1)]; omega
theorem ok_quo (h : sOk cap (B, (D, l, nx), hs, s0, s1, thr)) (z : Int) : sOk (cap + 1) (oQuo B D l nx hs s0 s1 thr z).2 := by
  have hu := sOk.up (Nat.le_succ cap) h
  obtain ⟨hb, ⟨hp, hc⟩, -⟩ := id h
  have hBl : B.length ≤ 40 := hb.1
  unfold oQuo
  split
  · exact hu
  · split
    · exact hu
    · rename_i h1 h2
      have hx := (pOk_l hp).1 _ (ixN_lt h1)
      exact sOk_new h ⟨pOk_of hp.1 hp.2.1 (by rw [List.length_set]; exact hp.2.2.1) (lOk_set (pOk_l hp) (ixN_lt h1) (qtN_ok hp.2.1 hx (by omega)) rfl), Nat.le_succ_of_le hc⟩
theorem ok_att (h : sOk cap (B, (D, l, nx), hs, s0, s1, thr)) (z : Int) : sOk (cap + 1) (oAtt B D l nx hs s0 s1 thr z).2 := by
  have hu := sOk.up (Nat.le_succ cap) h
  obtain ⟨hb, ⟨hp, hc⟩, -, -, -, ht, -⟩ := id h
  unfold oAtt
  split
  · exact hu
  · split
    · exact hu
    · split
      · exact hu
      · rename_i h1 h2 h3
        have hx := (pOk_l hp).1 _ (ixN_lt h1)
        have hD := hp.1
        simp only at hD ht
        cases hf : fB (lg l (ixN l z)) D with
        | none => rw [hf] at h3; simp only [gB0] at h3; omega
        | some r =>
          have hb2 := fBt_bd hx.1 D D.length (by omega) r hf
          exact sOk_new h ⟨pOk_of hD hp.2.1 (by rw [List.length_set]; exact hp.2.2.1) (lOk_set (pOk_l hp) (ixN_lt h1) (atN_ok hx (by show r.2.1 ≤ r.2.1 + r.2.2; omega) (by show r.2.1 + r.2.2 ≤ D.length; omega) hD) rfl), Nat.le_succ_of_le hc⟩
theorem ok_all (h : sOk cap (B, (D, l, nx), hs, s0, s1, thr)) : sOk (cap + 1) (oAll B D l nx hs s0 s1 thr).2 := by
  have hu := sOk.up (Nat.le_succ cap) h
  obtain ⟨hb, ⟨hp, hc⟩, -, -, -, ht, -⟩ := id h
  unfold oAll
  split
  · exact hu
  · exact sOk_new h ⟨pOk_of hp.1 hp.2.1 (by rw [coN_len]; exact hp.2.2.1) (co_ok hp.1 (pOk_l hp) ht (gaN_lt l l.length) _ (Nat.le_refl _)), Nat.le_succ_of_le hc⟩
theorem ok_mer (h : sOk cap (B, (D, l, nx), hs, s0, s1, thr)) : sOk (cap + 1) (oMer B D l nx hs s0 s1 thr).2 := by
  have hu := sOk.up (Nat.le_succ cap) h
  obtain ⟨hb, ⟨hp, hc⟩, -⟩ := id h
  have hBl : B.length ≤ 40 := hb.1
  unfold oMer
  split
  · exact hu
  · have hm := mg_ok l.length l 0 (Nat.le_refl _) (pOk_l hp)
    exact sOk_new h ⟨pOk_of hp.1 hp.2.1 (Nat.le_trans hm.2 hp.2.2.1) hm.1, Nat.le_succ_of_le hc⟩
theorem ok_undo (h : sOk cap (B, (D, l, nx), hs, s0, s1, thr)) : sOk (cap + 1) (oUndo B D l nx hs s0 s1 thr).2 := by
  have hu := sOk.up (Nat.le_succ cap) h
  unfold oUndo
  split
  · exact hu
  · rename_i h1
    refine ⟨hu.1, hu.2.2.1 _ ?_, fun p hp => hu.2.2.1 p (List.mem_of_mem_take hp), hu.2.2.2⟩
    show hg hs (hs.length - 1) ∈ hs
    simp only [hg, List.getD_eq_getElem?_getD, List.getElem?_eq_getElem (show hs.length - 1 < hs.length by omega)]
    exact List.getElem_mem _
theorem ok_thr (h : sOk cap (B, (D, l, nx), hs, s0, s1, thr)) (z : Int) : sOk (cap + 1) (oThr B D l nx hs s0 s1 thr z).2 := by
  have hu := sOk.up (Nat.le_succ cap) h
  unfold oThr
  split
  · exact hu
  · exact ⟨hu.1, hu.2.1, hu.2.2.1, hu.2.2.2.1, hu.2.2.2.2.1, by show 0 ≤ z; omega, by show z ≤ 108; omega⟩
theorem ok_sav (h : sOk cap (B, (D, l, nx), hs, s0, s1, thr)) (z : Int) : sOk (cap + 1) (oSav B D l nx hs s0 s1 thr z).2 := by
  have hu := sOk.up (Nat.le_succ cap) h
  unfold oSav
  split
  · exact hu
  · have hn : slOk (cap + 1) (some ((D, l, nx), thr)) := fun v hv => by cases hv; exact ⟨hu.2.1, hu.2.2.2.2.2⟩
    refine ⟨hu.1, hu.2.1, hu.2.2.1, ?_, ?_, hu.2.2.2.2.2⟩
    · show slOk (cap + 1) (if z = 0 then some ((D, l, nx), thr) else s0); split
      · exact hn
      · exact hu.2.2.2.1
    · show slOk (cap + 1) (if z = 0 then s1 else some ((D, l, nx), thr)); split
      · exact hu.2.2.2.2.1
      · exact hn
theorem ok_res (h : sOk cap (B, (D, l, nx), hs, s0, s1, thr)) (z : Int) : sOk (cap + 1) (oRes B D l nx hs s0 s1 thr z).2 := by
  have hu := sOk.up (Nat.le_succ cap) h
  unfold oRes
  split
  · exact hu
  · have hn : slOk (cap + 1) (if z = 0 then s0 else s1) := by
      by_cases hz : z = 0
      · rw [if_pos hz]; exact hu.2.2.2.1
      · rw [if_neg hz]; exact hu.2.2.2.2.1
    split
    · exact hu
    · rename_i v hv
      have h2 := hn v hv
      exact ⟨hu.1, h2.1, fun p hp => absurd hp List.not_mem_nil, hu.2.2.2.1, hu.2.2.2.2.1, h2.2⟩
end SOK
