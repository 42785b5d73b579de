/-! pure: an action of the law, by its number: an error that changes nothing, or an answer and a new page, whatever history and slots are -/
def acK (l : List Nt) (z : Nat) : Nat := if l.length = 0 then 0 else nNum (lg l (z % l.length))
def acF (B D : List Int32) (l : List Nt) (nx : Nat) (hs : List Pg) (s0 s1 : Option (Pg × Int)) (thr : Int) (y : Nat) : Int32 × Fs :=
  if y % 10 = 0 then oIns B D l nx hs s0 s1 thr ((y / 16 % (D.length + 1) : Nat) : Int)
  else if y % 10 = 1 then oDel B D l nx hs s0 s1 thr ((y / 16 % (D.length + 1) : Nat) : Int) ((y / 16 / 32 % 6 : Nat) : Int)
  else if y % 10 = 2 ∨ y % 10 = 3 then oCom B D l nx hs s0 s1 thr ((y / 16 % (D.length + 1) : Nat) : Int) ((y / 16 % (D.length + 1) + 1 + y / 16 / 32 % 7 : Nat) : Int)
  else if y % 10 = 4 then oAtt B D l nx hs s0 s1 thr ((acK l (y / 16) : Nat) : Int)
  else if y % 10 = 5 then oAll B D l nx hs s0 s1 thr
  else if y % 10 = 6 then oMer B D l nx hs s0 s1 thr
  else if y % 10 = 7 then (if iI ((y / 16 : Nat) : Int) &&& iI 32 = 0 then oRem B D l nx hs s0 s1 thr ((acK l (y / 16) : Nat) : Int) else oQuo B D l nx hs s0 s1 thr ((acK l (y / 16) : Nat) : Int))
  else (if iI ((y / 16 : Nat) : Int) &&& iI 64 = 0 then oLoad B D l nx hs s0 s1 thr else oIns B D l nx hs s0 s1 thr ((y / 16 % (D.length + 1) : Nat) : Int))
def actR (W : Int) (B D : List Int32) (l : List Nt) (nx : Nat) (thr : Int) (f : List Pg → Option (Pg × Int) → Option (Pg × Int) → Int32 × Fs) : Prop :=
  ∃ r : Int32, (r.toInt ≤ -1001 ∧ ∀ hs s0 s1, f hs s0 s1 = (r, (B, (D, l, nx), hs, s0, s1, thr))) ∨ (0 ≤ r.toInt ∧ ∃ p : Pg, qOk (W + 1) p.2.1 ∧ ∀ hs s0 s1, f hs s0 s1 = (r, stP B D l nx hs s0 s1 thr p))
section ACT
variable {W : Int} {B D : List Int32} {l : List Nt} {nx : Nat} {thr : Int} {f : List Pg → Option (Pg × Int) → Option (Pg × Int) → Int32 × Fs}
theorem act_err (k : Int) (hk : -2147483648 ≤ k ∧ k ≤ -1001) (h : ∀ hs s0 s1, f hs s0 s1 = (iI k, (B, (D, l, nx), hs, s0, s1, thr))) : actR W B D l nx thr f :=
  ⟨_, Or.inl ⟨by rw [iI_toInt (by omega)]; exact hk.2, h⟩⟩
theorem act_ok (z : Int) (hz : 0 ≤ z ∧ z < 2147483648) (p : Pg) (hq : qOk (W + 1) p.2.1) (h : ∀ hs s0 s1, f hs s0 s1 = (iI z, stP B D l nx hs s0 s1 thr p)) : actR W B D l nx thr f :=
  ⟨_, Or.inr ⟨by rw [iI_toInt (by omega)]; exact hz.1, p, hq, h⟩⟩
theorem qOk.up1 {W : Int} {l : List Nt} (q : qOk W l) : qOk (W + 1) l := qOk.up (by omega) q
theorem act_load (hq : qOk W l) (hD : D.length ≤ 120) : actR W B D l nx thr (fun hs s0 s1 => oLoad B D l nx hs s0 s1 thr) :=
  act_ok ((D.length : Nat) : Int) (by omega) (B, l.map (mvRep B.length), nx) ((q_map (mvRep B.length) (fun x => rfl) (fun x _ hk => absurd (show false = true from hk) (by decide)) hq).up1) (fun hs s0 s1 => rfl)
theorem act_ins (hq : qOk W l) (hB : B.length ≤ 40) (hD : D.length ≤ 120) (z : Int) : actR W B D l nx thr (fun hs s0 s1 => oIns B D l nx hs s0 s1 thr z) := by
  by_cases h1 : posN D z = false
  · exact act_err (-1001) (by omega) (fun hs s0 s1 => by simp only [oIns]; rw [if_pos h1])
  · by_cases h2 : 120 < D.length + B.length
    · exact act_err (-1004) (by omega) (fun hs s0 s1 => by simp only [oIns]; rw [if_neg h1, if_pos h2])
    · refine act_ok ((D.length + B.length : Nat) : Int) (by omega) (putL D z.toNat B, l.map (mvIns z.toNat B.length), nx) ((q_map (mvIns z.toNat B.length) (fun x => rfl) (fun x h hk => ?_) hq).up1) (fun hs s0 s1 => by simp only [oIns]; rw [if_neg h1, if_neg h2])
      have h3 := h hk
      show (if z.toNat ≤ nB x then nB x + B.length else nB x) < (if z.toNat ≤ nB x ∨ z.toNat < nE x then nE x + B.length else nE x)
      split <;> split <;> omega
theorem act_del (hq : qOk W l) (hl : l.length ≤ 10) (z m : Int) : actR W B D l nx thr (fun hs s0 s1 => oDel B D l nx hs s0 s1 thr z m) := by
  by_cases h1 : posN D z = false
  · exact act_err (-1001) (by omega) (fun hs s0 s1 => by simp only [oDel]; rw [if_pos h1])
  · by_cases h2 : m < 0 ∨ (D.length : Int) - z < m
    · exact act_err (-1002) (by omega) (fun hs s0 s1 => by simp only [oDel]; rw [if_neg h1, if_pos h2])
    · refine act_ok ((orN z.toNat m.toNat l l.length : Nat) : Int) (by have := orN_le z.toNat m.toNat l l.length; omega) (cutL D z.toNat m.toNat, l.map (mvDel z.toNat m.toNat), nx) ((q_map (mvDel z.toNat m.toNat) (fun x => rfl) (fun x h hk => ?_) hq).up1) (fun hs s0 s1 => by simp only [oDel]; rw [if_neg h1, if_neg h2])
      have h3 : (nK x && decide (bndD (nB x) z.toNat m.toNat < bndD (nE x) z.toNat m.toNat)) = true := hk
      rw [Bool.and_eq_true] at h3
      exact of_decide_eq_true h3.2
theorem act_com (hq : qOk W l) (hn : nx < 1000000) (a b : Int) : actR W B D l nx thr (fun hs s0 s1 => oCom B D l nx hs s0 s1 thr a b) := by
  by_cases h1 : posN D a = false
  · exact act_err (-1001) (by omega) (fun hs s0 s1 => by simp only [oCom]; rw [if_pos h1])
  · by_cases h2 : rngN D a b 16 = false
    · exact act_err (-1002) (by omega) (fun hs s0 s1 => by simp only [oCom]; rw [if_neg h1, if_pos h2])
    · by_cases h3 : 10 ≤ l.length
      · exact act_err (-1004) (by omega) (fun hs s0 s1 => by simp only [oCom]; rw [if_neg h1, if_neg h2, if_pos h3])
      · have hz : posN D a = true := by cases e : posN D a <;> simp_all
        have hz2 := of_decide_eq_true hz
        have hr : rngN D a b 16 = true := by cases e : rngN D a b 16 <;> simp_all
        have hr2 := of_decide_eq_true hr
        exact act_ok ((nx : Nat) : Int) (by omega) (D, l ++ [mkN D nx a.toNat b.toNat], nx + 1) (q_app hq ⟨fun _ => (by show a.toNat < b.toNat; omega), (by show 1 ≤ (1 : Int32).toInt; decide)⟩ rfl) (fun hs s0 s1 => by simp only [oCom]; rw [if_neg h1, if_neg h2, if_neg h3])
theorem act_rem (hq : qOk W l) (hl : l.length ≤ 10) (z : Int) : actR W B D l nx thr (fun hs s0 s1 => oRem B D l nx hs s0 s1 thr z) := by
  by_cases h1 : l.length ≤ ixN l z
  · exact act_err (-1001) (by omega) (fun hs s0 s1 => by simp only [oRem]; rw [if_pos h1])
  · exact act_ok ((l.length - 1 : Nat) : Int) (by omega) (D, l.eraseIdx (ixN l z), nx) ((q_erase (by omega) hq).up1) (fun hs s0 s1 => by simp only [oRem]; rw [if_neg h1])
theorem act_quo (hq : qOk W l) (hD : D.length ≤ 120) (z : Int) : actR W B D l nx thr (fun hs s0 s1 => oQuo B D l nx hs s0 s1 thr z) := by
  by_cases h1 : l.length ≤ ixN l z
  · exact act_err (-1001) (by omega) (fun hs s0 s1 => by simp only [oQuo]; rw [if_pos h1])
  · by_cases h2 : nK (lg l (ixN l z)) = false ∨ nB (lg l (ixN l z)) + 16 < nE (lg l (ixN l z))
    · exact act_err (-1003) (by omega) (fun hs s0 s1 => by simp only [oQuo]; rw [if_neg h1, if_pos h2])
    · have hs := slice_len D (nB (lg l (ixN l z))) (nE (lg l (ixN l z)))
      exact act_ok (((nQ (qtN D (lg l (ixN l z)))).length : Nat) : Int) (by
        show 0 ≤ (((slice D (nB (lg l (ixN l z))) (nE (lg l (ixN l z)))).length : Nat) : Int) ∧ (((slice D (nB (lg l (ixN l z))) (nE (lg l (ixN l z)))).length : Nat) : Int) < 2147483648
        omega) (D, l.set (ixN l z) (qtN D (lg l (ixN l z))), nx) ((q_set (y := qtN D (lg l (ixN l z))) (i := ixN l z) (by omega) rfl (fun hk => (hq.1 (ixN l z) (by omega)).1 hk) hq).up1) (fun hs s0 s1 => by simp only [oQuo]; rw [if_neg h1, if_neg h2])
theorem act_att (hq : qOk W l) (hp : pOk (D, l, nx)) (ht : 0 ≤ thr) (z : Int) : actR W B D l nx thr (fun hs s0 s1 => oAtt B D l nx hs s0 s1 thr z) := by
  by_cases h1 : l.length ≤ ixN l z
  · exact act_err (-1001) (by omega) (fun hs s0 s1 => by simp only [oAtt]; rw [if_pos h1])
  · by_cases h2 : nK (lg l (ixN l z)) = true
    · exact act_err (-1003) (by omega) (fun hs s0 s1 => by simp only [oAtt]; rw [if_neg h1, if_pos h2])
    · by_cases h3 : gB0 (fB (lg l (ixN l z)) D) < thr
      · exact act_err (-1005) (by omega) (fun hs s0 s1 => by simp only [oAtt]; rw [if_neg h1, if_neg h2, if_pos h3])
      · have hx := (pOk_l hp).1 _ (ixN_lt h1)
        have hD : D.length ≤ 120 := hp.1
        cases hf : fB (lg l (ixN l z)) D with
        | none => rw [hf] at h3; simp only [gB0] at h3; omega
        | some r =>
          have hb2 := fBt_bd hx.1 D D.length (by omega) r hf
          refine act_ok (gB1 (fB (lg l (ixN l z)) D)) (by rw [hf]; simp only [gB1]; omega) (D, l.set (ixN l z) (atN (gB1 (fB (lg l (ixN l z)) D)).toNat (gB2 (fB (lg l (ixN l z)) D)).toNat (lg l (ixN l z))), nx) ((q_set (y := atN (gB1 (fB (lg l (ixN l z)) D)).toNat (gB2 (fB (lg l (ixN l z)) D)).toNat (lg l (ixN l z))) (i := ixN l z) (by omega) rfl (fun _ => ?_) hq).up1) (fun hs s0 s1 => by simp only [oAtt]; rw [if_neg h1, if_neg h2, if_neg h3])
          show (gB1 (fB (lg l (ixN l z)) D)).toNat < (gB2 (fB (lg l (ixN l z)) D)).toNat
          rw [hf]; simp only [gB1, gB2]; omega
theorem act_all (hq : qOk W l) (hp : pOk (D, l, nx)) (ht : 0 ≤ thr) : actR W B D l nx thr (fun hs s0 s1 => oAll B D l nx hs s0 s1 thr) := by
  by_cases h1 : (gaN l l.length).2 = 0
  · exact act_err (-1005) (by omega) (fun hs s0 s1 => by simp only [oAll]; rw [if_pos h1])
  · have c1 := coN_cnt l D thr (gaN l l.length).1 (gaN l l.length).2 (gaN l l.length).2
    have c2 := gaN_le l l.length
    have c3 : l.length ≤ 10 := hp.2.2.1
    exact act_ok (((coN l D thr (gaN l l.length).1 (gaN l l.length).2 (gaN l l.length).2).2.2 : Nat) : Int) (by omega) (D, (coN l D thr (gaN l l.length).1 (gaN l l.length).2 (gaN l l.length).2).1, nx) ((q_co hp.1 (pOk_l hp) hq ht (gaN_lt l l.length) _ (Nat.le_refl _)).up1) (fun hs s0 s1 => by simp only [oAll]; rw [if_neg h1])
theorem mg_cnt : ∀ K (l : List Nt) (r : Nat), (mgN K l r).2 ≤ r + K := by
  intro K
  induction K with
  | zero => intro l r; exact Nat.le_refl _
  | succ k ih =>
    intro l r
    simp only [mgN]
    split
    · have := ih ((l.set (ftN l k) (addW (lg l (ftN l k)) (lg l k))).eraseIdx k) (r + 1); omega
    · have := ih l r; omega
theorem act_mer (hq : qOk W l) (hW : W ≤ 1000000) (hl : l.length ≤ 10) : actR W B D l nx thr (fun hs s0 s1 => oMer B D l nx hs s0 s1 thr) := by
  by_cases h1 : htN l = false
  · exact act_err (-1005) (by omega) (fun hs s0 s1 => by simp only [oMer]; rw [if_pos h1])
  · have c1 := mg_cnt l.length l 0
    exact act_ok (((mgN l.length l 0).2 : Nat) : Int) (by omega) (D, (mgN l.length l 0).1, nx) ((q_mg hW l.length l 0 (Nat.le_refl _) hq).up1) (fun hs s0 s1 => by simp only [oMer]; rw [if_neg h1])
theorem act_F (hq : qOk W l) (hW : W ≤ 1000000) (hp : pOk (D, l, nx)) (hB : B.length ≤ 40) (hn : nx < 1000000) (ht : 0 ≤ thr) (y : Nat) : actR W B D l nx thr (fun hs s0 s1 => acF B D l nx hs s0 s1 thr y) := by
  have hD : D.length ≤ 120 := hp.1
  have hl : l.length ≤ 10 := hp.2.2.1
  unfold acF
  by_cases h0 : y % 10 = 0
  · simp only [h0, if_true]; exact act_ins hq hB hD _
  by_cases h1 : y % 10 = 1
  · simp only [h1, if_true]; exact act_del hq hl _ _
  by_cases h2 : y % 10 = 2 ∨ y % 10 = 3
  · simp only [h0, h1, h2, if_true, if_false]; exact act_com hq hn _ _
  by_cases h4 : y % 10 = 4
  · simp only [h4]; exact act_att hq hp ht _
  by_cases h5 : y % 10 = 5
  · simp only [h5]; exact act_all hq hp ht
  by_cases h6 : y % 10 = 6
  · simp only [h6]; exact act_mer hq hW hl
  by_cases h7 : y % 10 = 7
  · simp only [h7]
    by_cases g : iI ((y / 16 : Nat) : Int) &&& iI 32 = 0
    · simp only [g, if_true]; exact act_rem hq hl _
    · simp only [g, if_false]; exact act_quo hq hD _
  · simp only [h0, h1, h2, h4, h5, h6, h7, if_false]
    by_cases g : iI ((y / 16 : Nat) : Int) &&& iI 64 = 0
    · simp only [g, if_true]; exact act_load hq hD
    · simp only [g, if_false]; exact act_ins hq hB hD _
theorem ok_F {cap : Nat} {hs : List Pg} {s0 s1 : Option (Pg × Int)} (h : sOk cap (B, (D, l, nx), hs, s0, s1, thr)) (y : Nat) : sOk (cap + 1) (acF B D l nx hs s0 s1 thr y).2 := by
  unfold acF
  repeat' split
  · exact ok_ins h _
  · exact ok_del h _ _
  · exact ok_com h _ _
  · exact ok_att h _
  · exact ok_all h
  · exact ok_mer h
  · exact ok_rem h _
  · exact ok_quo h _
  · exact ok_load h
  · exact ok_ins h _
theorem ok_buf {cap : Nat} {hs : List Pg} {s0 s1 : Option (Pg × Int)} {C : List Int32} (h : sOk cap (B, (D, l, nx), hs, s0, s1, thr)) (hC : C.length ≤ 40 ∧ okL C) : sOk cap (C, (D, l, nx), hs, s0, s1, thr) := ⟨hC, h.2⟩
end ACT
