theorem runL_eq {c : Nat → Bool} : ∀ k a b, a ≤ b → b ≤ a + k → (∀ x, a ≤ x → x < b → c x = true) → (b < a + k → c b = false) → runL c k a = b := by
  intro k
  induction k with
  | zero => intro a b h1 h2 _ _; show a = b; omega
  | succ k ih =>
    intro a b h1 h2 h3 h4
    simp only [runL]
    by_cases e : a = b
    · subst e; rw [h4 (by omega)]; rfl
    · rw [if_pos (h3 a (by omega) (by omega))]
      exact ih (a + 1) b (by omega) (by omega) (fun x hx hx2 => h3 x (by omega) hx2) (fun h => h4 (by omega))
theorem runL_spec {c : Nat → Bool} : ∀ k a, a ≤ runL c k a ∧ (∀ x, a ≤ x → x < runL c k a → c x = true) ∧ (runL c k a < a + k → c (runL c k a) = false) := by
  intro k
  induction k with
  | zero => intro a; refine ⟨Nat.le_refl _, fun x h1 h2 => ?_, fun h => ?_⟩ <;> simp only [runL] at * <;> omega
  | succ k ih =>
    intro a
    simp only [runL]
    by_cases e : c a = true
    · rw [if_pos e]
      obtain ⟨h1, h2, h3⟩ := ih (a + 1)
      refine ⟨by omega, fun x hx hx2 => ?_, fun h => h3 (by omega)⟩
      by_cases e1 : x = a
      · subst e1; exact e
      · exact h2 x (by omega) hx2
    · rw [if_neg e]
      exact ⟨Nat.le_refl _, fun x h1 h2 => by omega, fun _ => by cases h : c a <;> simp_all⟩
theorem twN_iff {x y : Nt} : twN x y = true ↔ nK x = true ∧ nK y = true ∧ nB x = nB y ∧ nE x = nE y := by unfold twN; exact decide_eq_true_iff
theorem twN_com {x y z : Nt} (h1 : twN x y = true) (h2 : twN y z = true) : twN x z = true := by
  rw [twN_iff] at *
  exact ⟨h1.1, h2.2.1, h1.2.2.1.trans h2.2.2.1, h1.2.2.2.trans h2.2.2.2⟩
theorem twN_sym {x y : Nt} (h1 : twN x y = true) : twN y x = true := by
  rw [twN_iff] at *
  exact ⟨h1.2.1, h1.1, h1.2.2.1.symm, h1.2.2.2.symm⟩
theorem ftN_spec (l : List Nt) (i : Nat) : (∀ a, a < ftN l i → twN (lg l a) (lg l i) = false) ∧ (ftN l i < i → twN (lg l (ftN l i)) (lg l i) = true) := by
  obtain ⟨h1, h2, h3⟩ := runL_spec (c := fun j => !twN (lg l j) (lg l i)) i 0
  refine ⟨fun a ha => ?_, fun h => ?_⟩
  · have h5 := h2 a (Nat.zero_le _) ha; simp only [Bool.not_eq_true'] at h5; exact h5
  · have h5 := h3 (by show ftN l i < 0 + i; omega); simp only [Bool.not_eq_false'] at h5; exact h5
theorem ftN_eq {l : List Nt} {i j : Nat} (h : j ≤ i) (h1 : ∀ a, a < j → twN (lg l a) (lg l i) = false) (h2 : j < i → twN (lg l j) (lg l i) = true) : ftN l i = j :=
  runL_eq i 0 j (Nat.zero_le _) (by omega) (fun x _ hx => by show (!twN (lg l x) (lg l i)) = true; rw [h1 x hx]; rfl) (fun h3 => by show (!twN (lg l j) (lg l i)) = false; rw [h2 (by omega)]; rfl)
def stp (l : List Nt) (k i : Nat) : List Nt := (l.set k (addW (lg l k) (lg l i))).eraseIdx i
theorem stp_len {l : List Nt} {k i : Nat} (hi : i < l.length) : (stp l k i).length = l.length - 1 := by
  unfold stp; rw [List.length_eraseIdx, List.length_set, if_pos hi]
theorem lg_set' (l : List Nt) {k : Nat} (y : Nt) (hk : k < l.length) (j : Nat) : lg (l.set k y) j = if j = k then y else lg l j := by
  simp only [lg, List.getD_eq_getElem?_getD, List.getElem?_set]
  by_cases h : k = j
  · subst h; simp [hk]
  · simp [h, Ne.symm h]
theorem lgq_stp {l : List Nt} {k i : Nat} (hk : k < i) (hi : i < l.length) (j : Nat) : lg (stp l k i) j = if j < i then (if j = k then addW (lg l k) (lg l i) else lg l j) else lg l (j + 1) := by
  unfold stp
  rw [lg_erase]
  split
  · rw [lg_set' _ _ (by omega)]
  · rw [lg_set' _ _ (by omega), if_neg (by omega)]
theorem tw_stp_l {l : List Nt} {k i j : Nat} (hk : k < i) (hi : i < l.length) (hj : j < i) (z : Nt) : twN (lg (stp l k i) j) z = twN (lg l j) z := by
  rw [lgq_stp hk hi, if_pos hj]
  by_cases e : j = k
  · subst e; rw [if_pos rfl]; rfl
  · rw [if_neg e]
theorem tw_stp_r {l : List Nt} {k i j : Nat} (hk : k < i) (hi : i < l.length) (hj : j < i) (z : Nt) : twN z (lg (stp l k i) j) = twN z (lg l j) := by
  rw [lgq_stp hk hi, if_pos hj]
  by_cases e : j = k
  · subst e; rw [if_pos rfl]; rfl
  · rw [if_neg e]
theorem addW_com (x y z : Nt) : addW (addW x y) z = addW (addW x z) y := by
  show (x.1, nNum x, nK x, nB x, nE x, nW x + nW y + nW z) = (x.1, nNum x, nK x, nB x, nE x, nW x + nW z + nW y)
  rw [show nW x + nW y + nW z = nW x + nW z + nW y by rw [Int32.add_assoc, Int32.add_comm (nW y), ← Int32.add_assoc]]
theorem stp_com1 {l : List Nt} {k i j m : Nat} (hk : k < i) (him : i < m) (hm : m < l.length) (hj : j < i) : stp (stp l j m) k i = stp (stp l k i) j (m - 1) := by
  have L1 : (stp l j m).length = l.length - 1 := stp_len hm
  have L2 : (stp l k i).length = l.length - 1 := stp_len (by omega)
  apply lg_ext
  · rw [stp_len (l := stp l j m) (by omega), stp_len (l := stp l k i) (by omega)]; omega
  · intro a ha
    rw [stp_len (by omega), L1] at ha
    rw [lgq_stp hk (by omega), lgq_stp (k := j) (i := m - 1) (by omega) (by omega)]
    rw [lgq_stp (l := l) (k := j) (i := m) (by omega) hm, lgq_stp (l := l) (k := j) (i := m) (by omega) hm, lgq_stp (l := l) (k := j) (i := m) (by omega) hm, lgq_stp (l := l) (k := j) (i := m) (by omega) hm]
    rw [lgq_stp (l := l) (k := k) (i := i) hk (by omega), lgq_stp (l := l) (k := k) (i := i) hk (by omega), lgq_stp (l := l) (k := k) (i := i) hk (by omega), lgq_stp (l := l) (k := k) (i := i) hk (by omega)]
    by_cases h1 : a < i
    · rw [if_pos h1, if_pos (show a < m - 1 by omega)]
      rw [if_pos (show k < m by omega), if_pos him, if_neg (show ¬ i = j by omega), if_pos (show a < m by omega), if_pos hj, if_pos h1, if_neg (show ¬ m - 1 < i by omega), show m - 1 + 1 = m by omega]
      by_cases h2 : a = k
      · subst h2
        rw [if_pos rfl]
        by_cases h3 : a = j
        · subst h3; rw [if_pos rfl, if_pos rfl, if_pos rfl]; exact addW_com _ _ _
        · rw [if_neg h3, if_neg h3, if_pos rfl]
      · rw [if_neg h2]
        by_cases h3 : a = j
        · subst h3; rw [if_pos rfl, if_pos rfl, if_neg h2]
        · rw [if_neg h3, if_neg h3, if_neg h2]
    · rw [if_neg h1]
      by_cases h4 : a < m - 1
      · rw [if_pos h4, if_neg (show ¬ a = j by omega), if_pos (show a + 1 < m by omega), if_neg (show ¬ a + 1 = j by omega), if_neg h1]
      · rw [if_neg h4, if_neg (show ¬ a + 1 < m by omega), if_neg (show ¬ a + 1 < i by omega)]
theorem stp_com2 {l : List Nt} {k i j m : Nat} (hk : k < i) (hm : m < l.length) (hij : i < j) (hjm : j < m) : stp (stp l j m) k i = stp (stp l k i) (j - 1) (m - 1) := by
  have L1 : (stp l j m).length = l.length - 1 := stp_len hm
  have L2 : (stp l k i).length = l.length - 1 := stp_len (by omega)
  apply lg_ext
  · rw [stp_len (l := stp l j m) (by omega), stp_len (l := stp l k i) (by omega)]; omega
  · intro a ha
    rw [stp_len (by omega), L1] at ha
    rw [lgq_stp hk (by omega), lgq_stp (k := j - 1) (i := m - 1) (by omega) (by omega)]
    rw [lgq_stp (l := l) (k := j) (i := m) (by omega) hm, lgq_stp (l := l) (k := j) (i := m) (by omega) hm, lgq_stp (l := l) (k := j) (i := m) (by omega) hm, lgq_stp (l := l) (k := j) (i := m) (by omega) hm]
    rw [lgq_stp (l := l) (k := k) (i := i) hk (by omega), lgq_stp (l := l) (k := k) (i := i) hk (by omega), lgq_stp (l := l) (k := k) (i := i) hk (by omega), lgq_stp (l := l) (k := k) (i := i) hk (by omega)]
    by_cases h1 : a < i
    · rw [if_pos h1, if_pos (show a < m - 1 by omega), if_neg (show ¬ a = j - 1 by omega), if_pos h1]
      rw [if_pos (show k < m by omega), if_neg (show ¬ k = j by omega), if_pos (show i < m by omega), if_neg (show ¬ i = j by omega), if_pos (show a < m by omega), if_neg (show ¬ a = j by omega)]
    · rw [if_neg h1]
      by_cases h4 : a < m - 1
      · rw [if_pos h4, if_pos (show a + 1 < m by omega), if_neg h1, if_neg (show ¬ j - 1 < i by omega), if_neg (show ¬ m - 1 < i by omega), show m - 1 + 1 = m by omega, show j - 1 + 1 = j by omega]
        by_cases h3 : a = j - 1
        · rw [if_pos (show a + 1 = j by omega), if_pos h3]
        · rw [if_neg (show ¬ a + 1 = j by omega), if_neg h3]
      · rw [if_neg h4, if_neg (show ¬ a + 1 < m by omega), if_neg (show ¬ a + 1 < i by omega)]
theorem mg_step : ∀ K (l : List Nt) (k i r : Nat), K ≤ l.length → i < K → ftN l i = k → k < i → mgN K l r = mgN (K - 1) (stp l k i) (r + 1) := by
  intro K
  induction K with
  | zero => intro l k i r _ h; omega
  | succ m ih =>
    intro l k i r hK hi hf hk
    have hfl := ftN_le l m
    obtain ⟨f1, f2⟩ := ftN_spec l m
    obtain ⟨g1, g2⟩ := ftN_spec l i
    rw [hf] at g1 g2
    by_cases e : m = i
    · subst e
      simp only [mgN]
      rw [hf, if_pos hk]; rfl
    · have hy : lg (stp l k i) (m - 1) = lg l m := by rw [lgq_stp hk (by omega), if_neg (by omega), show m - 1 + 1 = m by omega]
      have hm1 : m + 1 - 1 = (m - 1) + 1 := by omega
      rw [hm1]
      by_cases hj : ftN l m < m
      · have h2 := f2 hj
        have hne : ftN l m ≠ i := fun h => by
          rw [h] at h2 f1
          have h5 := twN_com (g2 hk) h2
          rw [f1 k hk] at h5; exact absurd h5 (by decide)
        have hfi : ftN (stp l (ftN l m) m) i = k := by
          refine ftN_eq (by omega) (fun a ha => ?_) (fun _ => ?_)
          · rw [tw_stp_l hj (by omega) (by omega), tw_stp_r hj (by omega) (by omega)]; exact g1 a ha
          · rw [tw_stp_l hj (by omega) (by omega), tw_stp_r hj (by omega) (by omega)]; exact g2 hk
        have hl : mgN (m + 1) l r = mgN m (stp l (ftN l m) m) (r + 1) := by simp only [mgN]; rw [if_pos hj]; rfl
        rw [hl, ih _ k i (r + 1) (by rw [stp_len (by omega)]; omega) (by omega) hfi hk]
        by_cases h3 : ftN l m < i
        · have hf2 : ftN (stp l k i) (m - 1) = ftN l m := by
            refine ftN_eq (by omega) (fun a ha => ?_) (fun _ => ?_)
            · rw [hy, tw_stp_l hk (by omega) (by omega)]; exact f1 a ha
            · rw [hy, tw_stp_l hk (by omega) (by omega)]; exact h2
          simp only [mgN]
          rw [hf2, if_pos (by omega), stp_com1 hk (by omega) (by omega) h3]
          rfl
        · have hf2 : ftN (stp l k i) (m - 1) = ftN l m - 1 := by
            refine ftN_eq (by omega) (fun a ha => ?_) (fun _ => ?_)
            · rw [hy]
              by_cases h5 : a < i
              · rw [tw_stp_l hk (by omega) h5]; exact f1 a (by omega)
              · rw [lgq_stp hk (by omega), if_neg h5]; exact f1 _ (by omega)
            · rw [hy, lgq_stp hk (by omega), if_neg (by omega), show ftN l m - 1 + 1 = ftN l m by omega]; exact h2
          simp only [mgN]
          rw [hf2, if_pos (by omega), stp_com2 hk (by omega) (by omega) hj]
          rfl
      · have hf2 : ftN (stp l k i) (m - 1) = m - 1 := by
          refine ftN_eq (Nat.le_refl _) (fun a ha => ?_) (fun h => absurd h (Nat.lt_irrefl _))
          rw [hy]
          by_cases h5 : a < i
          · rw [tw_stp_l hk (by omega) h5]; exact f1 a (by omega)
          · rw [lgq_stp hk (by omega), if_neg h5]; exact f1 _ (by omega)
        have hl : mgN (m + 1) l r = mgN m l r := by simp only [mgN]; rw [if_neg hj]
        rw [hl, ih _ k i r (by omega) (by omega) hf hk]
        simp only [mgN]
        rw [hf2, if_neg (Nat.lt_irrefl _)]
theorem mg_none : ∀ K (l : List Nt) (r : Nat), (∀ i, i < K → ftN l i = i) → mgN K l r = (l, r) := by
  intro K
  induction K with
  | zero => intro l r _; rfl
  | succ m ih =>
    intro l r h
    simp only [mgN]
    rw [h m (by omega), if_neg (Nat.lt_irrefl _)]
    exact ih l r (fun i hi => h i (by omega))
theorem htN_t {l : List Nt} {i : Nat} (hi : i < l.length) (h : ftN l i < i) : htN l = true := by
  unfold htN
  apply decide_eq_true
  obtain ⟨h1, h2, h3⟩ := runL_spec (c := fun i => !decide (ftN l i < i)) l.length 0
  by_cases e : runL (fun i => !decide (ftN l i < i)) l.length 0 < l.length
  · exact e
  · have := h2 i (Nat.zero_le _) (by omega); simp at this; omega
theorem htN_f {l : List Nt} (h : ∀ i, i < l.length → ftN l i = i) : htN l = false := by
  unfold htN
  apply decide_eq_false
  rw [runL_eq l.length 0 l.length (Nat.zero_le _) (by omega) (fun x _ hx => by simp [h x hx]) (fun h => by omega)]
  omega
abbrev rm_X9_isLike : Room := { frames := 1, cells := 0, slots := 0, locals := 21 }
set_option maxHeartbeats 4000000 in
set_option maxRecDepth 100000 in
theorem c_X9_isLike (mo : Nat) (rg : Nat → Int) (g : Nat → Int32) (k i : Nat) (x y : Nt) {w : PW} {n : Nat} (mc : w mo = some (mE mo rg)) (vc : w (mo + 1) = some (eI 483 g)) (hN : vnt g (123 + 36 * k) x) (hM2 : vnt g (123 + 36 * i) y) (hk : k < 10 ∧ i < 10) : CtR yX9_isLike cX9_isLike 4 (some .boolean) rm_X9_isLike [.ref mo, .int (iI (((k : Nat) : Int))), .int (iI (((i : Nat) : Int)))] w n (.int (bI (twN x y))) := by
  obtain ⟨n0, n1, n2, n3, n4, n5, n6, n7, n8, n9, n10, n11, n12, n13⟩ := id (hN)
  obtain ⟨m0, m1, m2, m3, m4, m5, m6, m7, m8, m9, m10, m11, m12, m13⟩ := id (hM2)
  refine Ctr.of rfl (Nat.le_of_ble_eq_true rfl) fun S hS => ?_
  have hb : S.1.1 = cX9_isLike := by rw [hS]; rfl
  have ho : S.1.2.1 = RX9 := by rw [hS]; rfl
  have hnL : S.1.2.2.1 = 4 := by rw [hS]; rfl
  have hR0 : S.2.1 = rm_X9_isLike := by rw [hS]; rfl
  show Wp S 0 [(0, .ref mo), (1, .int (iI (((k : Nat) : Int)))), (2, .int (iI (((i : Nat) : Int))))] [] w n 0 0
  refine r_aload_n hb 1 dX9_isLike_0 rfl 0 rfl ?_
  refine r_get hb ho 4 dX9_isLike_1 rfl lk_X9_7 pf_X9_0 mc rfl ?_
  refine r_iload_n hb 5 dX9_isLike_4 rfl 1 rfl ?_
  refine r_iconst hb 6 dX9_isLike_5 rfl ?_
  refine r_callSR (st := [.ref (mo + 1)]) hb ho 9 dX9_isLike_6 rfl ck_X9_48 (c_X9_at (((k : Nat) : Int)) 1 (36 * ((k : Nat) : Int) + 124) (by omega)) rfl rfl (by rw [hR0]; exact ⟨Nat.le_of_ble_eq_true rfl, Nat.le_of_ble_eq_true rfl⟩) (Nat.le_of_ble_eq_true rfl) ⟨rfl, rfl⟩ (by rw [hR0]; exact Nat.zero_le _) (by rw [hR0]; exact Nat.zero_le _) ?_
  refine r_iald hb 10 dX9_isLike_9 rfl vc (123 + 36 * k + 1) (by omega) (⟨by omega, by omega⟩) ?_
  refine r_topv (.int (bI (nK (x)))) (congrArg Value.int (n1)) ?_
  refine r_iconst hb 11 dX9_isLike_10 rfl ?_
  refine r_icmpB_ne hb 14 32 dX9_isLike_11 rfl (by decide) (fun c11 => ?_) (fun c11 => ?_)
  · refine r_iconst hb 33 dX9_isLike_32 rfl ?_
    refine r_istore_n [(3, .int (iI 0)), (0, .ref mo), (1, .int (iI (((k : Nat) : Int)))), (2, .int (iI (((i : Nat) : Int))))] hb 34 4 dX9_isLike_33 rfl rfl hnL (by decide) rfl ?_
    refine r_iload_n hb 35 dX9_isLike_34 rfl 0 rfl ?_
    refine r_if_eq hb 38 88 dX9_isLike_35 rfl (by decide) (by omega) (fun c35 => ?_) (fun c35 => ?_)
    · refine r_iconst hb 89 dX9_isLike_88 rfl ?_
      refine r_iret hS dX9_isLike_89 rfl rfl (Nat.zero_le _) (Nat.zero_le _) ?_
      exact ⟨_, rfl, congrArg Value.int (bI_F (decide_eq_false (fun hh => by rw [c11] at hh; cases hh.1))), rfl, rfl⟩
    · exfalso; omega
  · refine r_aload_n hb 15 dX9_isLike_14 rfl 0 rfl ?_
    refine r_get hb ho 18 dX9_isLike_15 rfl lk_X9_7 pf_X9_0 mc rfl ?_
    refine r_iload_n hb 19 dX9_isLike_18 rfl 2 rfl ?_
    refine r_iconst hb 20 dX9_isLike_19 rfl ?_
    refine r_callSR (st := [.ref (mo + 1)]) hb ho 23 dX9_isLike_20 rfl ck_X9_48 (c_X9_at (((i : Nat) : Int)) 1 (36 * ((i : Nat) : Int) + 124) (by omega)) rfl rfl (by rw [hR0]; exact ⟨Nat.le_of_ble_eq_true rfl, Nat.le_of_ble_eq_true rfl⟩) (Nat.le_of_ble_eq_true rfl) ⟨rfl, rfl⟩ (by rw [hR0]; exact Nat.zero_le _) (by rw [hR0]; exact Nat.zero_le _) ?_
    refine r_iald hb 24 dX9_isLike_23 rfl vc (123 + 36 * i + 1) (by omega) (⟨by omega, by omega⟩) ?_
    refine r_topv (.int (bI (nK (y)))) (congrArg Value.int (m1)) ?_
    refine r_iconst hb 25 dX9_isLike_24 rfl ?_
    refine r_icmpB_ne hb 28 32 dX9_isLike_25 rfl (by decide) (fun c25 => ?_) (fun c25 => ?_)
    · refine r_iconst hb 33 dX9_isLike_32 rfl ?_
      refine r_istore_n [(3, .int (iI 0)), (0, .ref mo), (1, .int (iI (((k : Nat) : Int)))), (2, .int (iI (((i : Nat) : Int))))] hb 34 4 dX9_isLike_33 rfl rfl hnL (by decide) rfl ?_
      refine r_iload_n hb 35 dX9_isLike_34 rfl 0 rfl ?_
      refine r_if_eq hb 38 88 dX9_isLike_35 rfl (by decide) (by omega) (fun c35 => ?_) (fun c35 => ?_)
      · refine r_iconst hb 89 dX9_isLike_88 rfl ?_
        refine r_iret hS dX9_isLike_89 rfl rfl (Nat.zero_le _) (Nat.zero_le _) ?_
        exact ⟨_, rfl, congrArg Value.int (bI_F (decide_eq_false (fun hh => by rw [c25] at hh; cases hh.2.1))), rfl, rfl⟩
      · exfalso; omega
    · refine r_iconst hb 29 dX9_isLike_28 rfl ?_
      refine r_goto hb 33 dX9_isLike_29 (by decide) ?_
      refine r_istore_n [(3, .int (iI 1)), (0, .ref mo), (1, .int (iI (((k : Nat) : Int)))), (2, .int (iI (((i : Nat) : Int))))] hb 34 4 dX9_isLike_33 rfl rfl hnL (by decide) rfl ?_
      refine r_iload_n hb 35 dX9_isLike_34 rfl 0 rfl ?_
      refine r_if_eq hb 38 88 dX9_isLike_35 rfl (by decide) (by omega) (fun c35 => ?_) (fun c35 => ?_)
      · exfalso; omega
      · refine r_aload_n hb 39 dX9_isLike_38 rfl 1 rfl ?_
        refine r_get hb ho 42 dX9_isLike_39 rfl lk_X9_7 pf_X9_0 mc rfl ?_
        refine r_iload_n hb 43 dX9_isLike_42 rfl 2 rfl ?_
        refine r_iconst hb 44 dX9_isLike_43 rfl ?_
        refine r_callSR (st := [.ref (mo + 1)]) hb ho 47 dX9_isLike_44 rfl ck_X9_48 (c_X9_at (((k : Nat) : Int)) 2 (36 * ((k : Nat) : Int) + 125) (by omega)) rfl rfl (by rw [hR0]; exact ⟨Nat.le_of_ble_eq_true rfl, Nat.le_of_ble_eq_true rfl⟩) (Nat.le_of_ble_eq_true rfl) ⟨rfl, rfl⟩ (by rw [hR0]; exact Nat.zero_le _) (by rw [hR0]; exact Nat.zero_le _) ?_
        refine r_iald hb 48 dX9_isLike_47 rfl vc (123 + 36 * k + 2) (by omega) (⟨by omega, by omega⟩) ?_
        refine r_topz (((nB (x) : Nat) : Int)) (n2) ?_
        refine r_aload_n hb 49 dX9_isLike_48 rfl 1 rfl ?_
        refine r_get hb ho 52 dX9_isLike_49 rfl lk_X9_7 pf_X9_0 mc rfl ?_
        refine r_iload_n hb 53 dX9_isLike_52 rfl 3 rfl ?_
        refine r_iconst hb 54 dX9_isLike_53 rfl ?_
        refine r_callSR (st := [.ref (mo + 1), .int (iI (((nB (x) : Nat) : Int)))]) hb ho 57 dX9_isLike_54 rfl ck_X9_48 (c_X9_at (((i : Nat) : Int)) 2 (36 * ((i : Nat) : Int) + 125) (by omega)) rfl rfl (by rw [hR0]; exact ⟨Nat.le_of_ble_eq_true rfl, Nat.le_of_ble_eq_true rfl⟩) (Nat.le_of_ble_eq_true rfl) ⟨rfl, rfl⟩ (by rw [hR0]; exact Nat.zero_le _) (by rw [hR0]; exact Nat.zero_le _) ?_
        refine r_iald hb 58 dX9_isLike_57 rfl vc (123 + 36 * i + 2) (by omega) (⟨by omega, by omega⟩) ?_
        refine r_topz (((nB (y) : Nat) : Int)) (m2) ?_
        refine r_icmp_ne hb 61 88 dX9_isLike_58 rfl (by decide) (by omega) (by omega) (fun c58 => ?_) (fun c58 => ?_)
        · refine r_iconst hb 89 dX9_isLike_88 rfl ?_
          refine r_iret hS dX9_isLike_89 rfl rfl (Nat.zero_le _) (Nat.zero_le _) ?_
          exact ⟨_, rfl, congrArg Value.int (bI_F (decide_eq_false (by omega))), rfl, rfl⟩
        · refine r_aload_n hb 62 dX9_isLike_61 rfl 1 rfl ?_
          refine r_get hb ho 65 dX9_isLike_62 rfl lk_X9_7 pf_X9_0 mc rfl ?_
          refine r_iload_n hb 66 dX9_isLike_65 rfl 2 rfl ?_
          refine r_iconst hb 67 dX9_isLike_66 rfl ?_
          refine r_callSR (st := [.ref (mo + 1)]) hb ho 70 dX9_isLike_67 rfl ck_X9_48 (c_X9_at (((k : Nat) : Int)) 3 (36 * ((k : Nat) : Int) + 126) (by omega)) rfl rfl (by rw [hR0]; exact ⟨Nat.le_of_ble_eq_true rfl, Nat.le_of_ble_eq_true rfl⟩) (Nat.le_of_ble_eq_true rfl) ⟨rfl, rfl⟩ (by rw [hR0]; exact Nat.zero_le _) (by rw [hR0]; exact Nat.zero_le _) ?_
          refine r_iald hb 71 dX9_isLike_70 rfl vc (123 + 36 * k + 3) (by omega) (⟨by omega, by omega⟩) ?_
          refine r_topz (((nE (x) : Nat) : Int)) (n3) ?_
          refine r_aload_n hb 72 dX9_isLike_71 rfl 1 rfl ?_
          refine r_get hb ho 75 dX9_isLike_72 rfl lk_X9_7 pf_X9_0 mc rfl ?_
          refine r_iload_n hb 76 dX9_isLike_75 rfl 3 rfl ?_
          refine r_iconst hb 77 dX9_isLike_76 rfl ?_
          refine r_callSR (st := [.ref (mo + 1), .int (iI (((nE (x) : Nat) : Int)))]) hb ho 80 dX9_isLike_77 rfl ck_X9_48 (c_X9_at (((i : Nat) : Int)) 3 (36 * ((i : Nat) : Int) + 126) (by omega)) rfl rfl (by rw [hR0]; exact ⟨Nat.le_of_ble_eq_true rfl, Nat.le_of_ble_eq_true rfl⟩) (Nat.le_of_ble_eq_true rfl) ⟨rfl, rfl⟩ (by rw [hR0]; exact Nat.zero_le _) (by rw [hR0]; exact Nat.zero_le _) ?_
          refine r_iald hb 81 dX9_isLike_80 rfl vc (123 + 36 * i + 3) (by omega) (⟨by omega, by omega⟩) ?_
          refine r_topz (((nE (y) : Nat) : Int)) (m3) ?_
          refine r_icmp_ne hb 84 88 dX9_isLike_81 rfl (by decide) (by omega) (by omega) (fun c81 => ?_) (fun c81 => ?_)
          · refine r_iconst hb 89 dX9_isLike_88 rfl ?_
            refine r_iret hS dX9_isLike_89 rfl rfl (Nat.zero_le _) (Nat.zero_le _) ?_
            exact ⟨_, rfl, congrArg Value.int (bI_F (decide_eq_false (by omega))), rfl, rfl⟩
          · refine r_iconst hb 85 dX9_isLike_84 rfl ?_
            refine r_goto hb 89 dX9_isLike_85 (by decide) ?_
            refine r_iret hS dX9_isLike_89 rfl rfl (Nat.zero_le _) (Nat.zero_le _) ?_
            exact ⟨_, rfl, congrArg Value.int (bI_T (decide_eq_true ⟨c11, c25, by omega, by omega⟩)), rfl, rfl⟩

abbrev rm_X9_merge : Room := { frames := 2, cells := 0, slots := 0, locals := 46 }
set_option maxHeartbeats 4000000 in
set_option maxRecDepth 100000 in
theorem c_X9_merge (mo : Nat) (B D : List Int32) (l : List Nt) (nx : Nat) (hs : List Pg) (s0 s1 : Option (Pg × Int)) (thr : Int)  {w : PW} {n : Nat} (hM : moE w mo B D l nx hs s0 s1 thr) : Ct1 yX9_merge cX9_merge 4 (some .int) rm_X9_merge [.ref mo] w n (fun v w1 n1 => v = .int (oMer B D l nx hs s0 s1 thr ).1 ∧ n = n1 ∧ mo_ w1 mo (oMer B D l nx hs s0 s1 thr ).2 ∧ off w w1 mo (mo + 12)) := by
  obtain ⟨rg, g, sp, pa, kp, ik, bg, ln, od, sco, leo, smo, mc, vc, sc, pc, kc, ic, bc, lc, oc, xc, ec, uc, hV, h3, hH, h6, h8, hB, hS0, hS1⟩ := id hM
  have hD : vdp g D := hV.1
  have hP : vnp g l nx := hV.2
  have hDl := hD.2.2
  have hPl := hP.2.2.1
  have hnx := hP.2.2.2.1
  have hBl := hB.1
  have hHl := hH.1
  refine Ctr.of rfl (Nat.le_of_ble_eq_true rfl) fun S hS => ?_
  have hb : S.1.1 = cX9_merge := by rw [hS]; rfl
  have ho : S.1.2.1 = RX9 := by rw [hS]; rfl
  have hnL : S.1.2.2.1 = 4 := by rw [hS]; rfl
  have hR0 : S.2.1 = rm_X9_merge := by rw [hS]; rfl
  show Wp S 0 [(0, .ref mo)] [] w n 0 0
  refine r_aload_n hb 1 dX9_merge_0 rfl 0 rfl ?_
  refine r_callV0 (st := []) hb ho 4 dX9_merge_1 rfl ck_X9_66 (c_X9_begins mo rg g sp mc vc sc) rfl rfl (mc) rfl rfl (by rw [hR0]; exact ⟨Nat.le_of_ble_eq_true rfl, Nat.le_of_ble_eq_true rfl⟩) (Nat.le_of_ble_eq_true rfl) ⟨rfl, rfl⟩ (by rw [hR0]; exact Nat.zero_le _) (by rw [hR0]; exact Nat.zero_le _) (fun w_1 nw_1 qw_1 => ?_)
  obtain ⟨rfl, ⟨sp1, sc, spi⟩, ow_1⟩ := qw_1
  have hsp : vpo sp1 0 (D, l, nx) := vpg_o (hV.congr (fun i hi => spi i hi))
  have mc : w_1 mo = some (eO 9 [.ref (mo + 1), .ref (mo + 2), .ref (mo + 3), .int (iI ((rg 3))), .ref (mo + 4), .ref (mo + 5), .int (iI ((rg 6))), .ref (mo + 6), .int (iI ((rg 8))), .ref (mo + 7), .int (iI ((rg 10))), .int (iI ((rg 11))), .int (iI ((rg 12))), .int (iI ((rg 13))), .int (iI ((rg 14))), .ref (mo + 8), .int (iI ((rg 16))), .ref (mo + 9), .ref (mo + 10), .ref (mo + 11)]) := (ow_1 _ (by omega)).trans mc
  have vc : w_1 (mo + 1) = some (eI 483 g) := (ow_1 _ (by omega)).trans vc
  have pc : w_1 (mo + 3) = some (eI 2898 pa) := (ow_1 _ (by omega)).trans pc
  have kc : w_1 (mo + 4) = some (eI 968 kp) := (ow_1 _ (by omega)).trans kc
  have ic : w_1 (mo + 5) = some (eZ 2 ik) := (ow_1 _ (by omega)).trans ic
  have bc : w_1 (mo + 6) = some (eI 40 bg) := (ow_1 _ (by omega)).trans bc
  have lc : w_1 (mo + 7) = some (eI 17 (fun ii => iI ((ln ii : Nat) : Int))) := (ow_1 _ (by omega)).trans lc
  have oc : w_1 (mo + 8) = some (eI 10 (fun ii => iI ((od ii : Nat) : Int))) := (ow_1 _ (by omega)).trans oc
  have xc : w_1 (mo + 9) = some (eI 1210 (fun ii => iI (sco ii))) := (ow_1 _ (by omega)).trans xc
  have ec : w_1 (mo + 10) = some (eI 1210 (fun ii => iI (leo ii))) := (ow_1 _ (by omega)).trans ec
  have uc : w_1 (mo + 11) = some (eI 1331 (fun ii => iI (smo ii))) := (ow_1 _ (by omega)).trans uc
  refine r_iconst hb 5 dX9_merge_4 rfl ?_
  refine r_istore_n [(1, .int (iI 0)), (0, .ref mo)] hb 6 4 dX9_merge_5 rfl rfl hnL (by decide) rfl ?_
  refine r_iconst hb 7 dX9_merge_6 rfl ?_
  refine r_istore_n [(2, .int (iI 0)), (1, .int (iI 0)), (0, .ref mo)] hb 8 4 dX9_merge_7 rfl rfl hnL (by decide) rfl ?_
  have lp : ∀ (d : Nat) (k : Nat) (wi : PW) (gi : Nat → Int32) (cur : List Nt) (r : Nat), 20 - k = d → (k ≤ cur.length ∧ r ≤ 10) → (wi mo = some (eO 9 [.ref (mo + 1), .ref (mo + 2), .ref (mo + 3), .int (iI ((rg 3))), .ref (mo + 4), .ref (mo + 5), .int (iI ((rg 6))), .ref (mo + 6), .int (iI ((rg 8))), .ref (mo + 7), .int (iI ((rg 10))), .int (iI ((rg 11))), .int (iI ((rg 12))), .int (iI ((rg 13))), .int (iI ((rg 14))), .ref (mo + 8), .int (iI ((rg 16))), .ref (mo + 9), .ref (mo + 10), .ref (mo + 11)])) → (wi (mo + 1) = some (eI 483 gi)) → (wi (mo + 2) = some (eI 483 sp1)) → (wi (mo + 3) = some (eI 2898 pa)) → (wi (mo + 4) = some (eI 968 kp)) → (wi (mo + 5) = some (eZ 2 ik)) → (wi (mo + 6) = some (eI 40 bg)) → (wi (mo + 7) = some (eI 17 (fun ii => iI ((ln ii : Nat) : Int)))) → (wi (mo + 8) = some (eI 10 (fun ii => iI ((od ii : Nat) : Int)))) → (wi (mo + 9) = some (eI 1210 (fun ii => iI (sco ii)))) → (wi (mo + 10) = some (eI 1210 (fun ii => iI (leo ii)))) → (wi (mo + 11) = some (eI 1331 (fun ii => iI (smo ii)))) → (vdp gi D) → (vnp gi cur nx) → (mgN l.length l 0 = mgN cur.length cur r) → ((r = 0 ∧ cur = l) ∨ (0 < r ∧ htN l = true)) → (r + cur.length = l.length) → (∀ a b, a < k → a < b → b < cur.length → twN (lg cur a) (lg cur b) = false) → (off w wi mo (mo + 12)) → Wp S 8 [(2, .int (iI (((k : Nat) : Int)))), (1, .int (iI (((r : Nat) : Int)))), (0, .ref mo)] [] wi n 0 0 := by
    intro d
    induction d using Nat.strongRecOn with
    | _ d ih_lp =>
      intro k wi gi cur r hd_lp hk mc vc sc pc kc ic bc lc oc xc ec uc hDi hPi hmg hst hrl hnt hO
      have hcl := hPi.2.2.1
      refine r_iload_n hb 9 dX9_merge_8 rfl 0 rfl ?_
      refine r_aload_n hb 10 dX9_merge_9 rfl 2 rfl ?_
      refine r_get hb ho 13 dX9_merge_10 rfl lk_X9_7 pf_X9_0 mc rfl ?_
      refine r_bipush 122 hb 15 dX9_merge_13 rfl rfl ?_
      refine r_iald hb 16 dX9_merge_15 rfl vc 122 (by omega) (⟨by omega, by omega⟩) ?_
      refine r_topz ((((cur).length : Nat) : Int)) (hPi.2.1) ?_
      refine r_icmp_ge hb 19 86 dX9_merge_16 rfl (by decide) (by omega) (by omega) (fun c16 => ?_) (fun c16 => ?_)
      · refine r_iload_n hb 87 dX9_merge_86 rfl 1 rfl ?_
        refine r_if_ne hb 90 96 dX9_merge_87 rfl (by decide) (by omega) (fun c87 => ?_) (fun c87 => ?_)
        · refine r_aload_n hb 97 dX9_merge_96 rfl 2 rfl ?_
          refine r_iload_n hb 98 dX9_merge_97 rfl 1 rfl ?_
          refine r_callV1 (st := []) hb ho 101 dX9_merge_98 rfl ck_X9_72 (c_X9_made mo rg sp1 pa hs (D, l, nx) (iI (((r : Nat) : Int))) mc sc pc h3 hH hsp) rfl rfl (mc) rfl rfl (by rw [hR0]; exact ⟨Nat.le_of_ble_eq_true rfl, Nat.le_of_ble_eq_true rfl⟩) (Nat.le_of_ble_eq_true rfl) ⟨rfl, rfl⟩ (by rw [hR0]; exact Nat.zero_le _) (by rw [hR0]; exact Nat.zero_le _) (fun vw_98 w_98 nw_98 qw_98 => ?_)
          obtain ⟨rfl, rfl, ⟨rg3, pa1, mc, hF3, h3, pc, hH⟩, ow_98⟩ := qw_98
          have h6 := (hF3 6 (by decide)).trans h6
          have h8 := (hF3 8 (by decide)).trans h8
          have vc : w_98 (mo + 1) = some (eI 483 gi) := (ow_98 _ (by omega) (by omega)).trans vc
          have sc : w_98 (mo + 2) = some (eI 483 sp1) := (ow_98 _ (by omega) (by omega)).trans sc
          have kc : w_98 (mo + 4) = some (eI 968 kp) := (ow_98 _ (by omega) (by omega)).trans kc
          have ic : w_98 (mo + 5) = some (eZ 2 ik) := (ow_98 _ (by omega) (by omega)).trans ic
          have bc : w_98 (mo + 6) = some (eI 40 bg) := (ow_98 _ (by omega) (by omega)).trans bc
          have lc : w_98 (mo + 7) = some (eI 17 (fun ii => iI ((ln ii : Nat) : Int))) := (ow_98 _ (by omega) (by omega)).trans lc
          have oc : w_98 (mo + 8) = some (eI 10 (fun ii => iI ((od ii : Nat) : Int))) := (ow_98 _ (by omega) (by omega)).trans oc
          have xc : w_98 (mo + 9) = some (eI 1210 (fun ii => iI (sco ii))) := (ow_98 _ (by omega) (by omega)).trans xc
          have ec : w_98 (mo + 10) = some (eI 1210 (fun ii => iI (leo ii))) := (ow_98 _ (by omega) (by omega)).trans ec
          have uc : w_98 (mo + 11) = some (eI 1331 (fun ii => iI (smo ii))) := (ow_98 _ (by omega) (by omega)).trans uc
          refine r_iret hS dX9_merge_101 rfl rfl (Nat.zero_le _) (Nat.zero_le _) ?_
          have eic : k = cur.length := by omega
          have hft : ∀ b, b < cur.length → ftN cur b = b := fun b hb2 => ftN_eq (Nat.le_refl _) (fun a ha => hnt a b (by omega) ha hb2) (fun h => absurd h (Nat.lt_irrefl _))
          rw [mg_none _ cur r hft] at hmg
          obtain ⟨-, hht⟩ := hst.resolve_left (fun h => by omega)
          have hV1 : vpg gi (D, cur, nx) := ⟨hDi, hPi⟩
          have e : oMer B D l nx hs s0 s1 thr  = (iI ((r : Nat) : Int), stP B D l nx hs s0 s1 thr (D, cur, nx)) := by unfold oMer; rw [if_neg (by rw [hht]; decide), hmg]
          rw [e]
          exact ⟨_, rfl, rfl, rfl, ⟨rg3, gi, sp1, pa1, kp, ik, bg, ln, od, sco, leo, smo, mc, vc, sc, pc, kc, ic, bc, lc, oc, xc, ec, uc, hV1, h3, hH, h6, h8, hB, hS0, hS1⟩, (hO.trans (ow_98.cov (by omega) (by omega) (by omega) (by omega)))⟩
        · refine r_sipush (-1005) hb 93 dX9_merge_90 rfl rfl ?_
          refine r_goto hb 101 dX9_merge_93 (by decide) ?_
          refine r_iret hS dX9_merge_101 rfl rfl (Nat.zero_le _) (Nat.zero_le _) ?_
          have eic : k = cur.length := by omega
          have hft : ∀ b, b < cur.length → ftN cur b = b := fun b hb2 => ftN_eq (Nat.le_refl _) (fun a ha => hnt a b (by omega) ha hb2) (fun h => absurd h (Nat.lt_irrefl _))
          rw [mg_none _ cur r hft] at hmg
          have hz : r = 0 := by omega
          obtain ⟨-, hcu⟩ := hst.resolve_right (fun h => by omega)
          have hht : htN l = false := by rw [← hcu]; exact htN_f hft
          have hV1 : vpg gi (D, l, nx) := ⟨hDi, hcu ▸ hPi⟩
          have e : oMer B D l nx hs s0 s1 thr  = (iI (-1005), (B, (D, l, nx), hs, s0, s1, thr)) := by unfold oMer; rw [if_pos hht]
          rw [e]
          exact ⟨_, rfl, rfl, rfl, ⟨rg, gi, sp1, pa, kp, ik, bg, ln, od, sco, leo, smo, mc, vc, sc, pc, kc, ic, bc, lc, oc, xc, ec, uc, hV1, h3, hH, h6, h8, hB, hS0, hS1⟩, hO⟩
      · refine r_aload_n hb 20 dX9_merge_19 rfl 2 rfl ?_
        refine r_get hb ho 23 dX9_merge_20 rfl lk_X9_7 pf_X9_0 mc rfl ?_
        refine r_bipush 122 hb 25 dX9_merge_23 rfl rfl ?_
        refine r_iald hb 26 dX9_merge_25 rfl vc 122 (by omega) (⟨by omega, by omega⟩) ?_
        refine r_topz ((((cur).length : Nat) : Int)) (hPi.2.1) ?_
        refine r_iconst hb 27 dX9_merge_26 rfl ?_
        refine r_isubZ hb 28 ((((cur).length : Nat) : Int) - 1) dX9_merge_27 rfl (by omega) ?_
        refine r_istore_n [(3, .int (iI ((((cur).length : Nat) : Int) - 1))), (2, .int (iI (((k : Nat) : Int)))), (1, .int (iI (((r : Nat) : Int)))), (0, .ref mo)] hb 29 4 dX9_merge_28 rfl rfl hnL (by decide) rfl ?_
        have li : ∀ (d : Nat) (i : Nat) (wi : PW) (gi : Nat → Int32) (cur : List Nt) (r : Nat), i = d → (k ≤ i ∧ i + 1 ≤ cur.length ∧ r ≤ 10) → (wi mo = some (eO 9 [.ref (mo + 1), .ref (mo + 2), .ref (mo + 3), .int (iI ((rg 3))), .ref (mo + 4), .ref (mo + 5), .int (iI ((rg 6))), .ref (mo + 6), .int (iI ((rg 8))), .ref (mo + 7), .int (iI ((rg 10))), .int (iI ((rg 11))), .int (iI ((rg 12))), .int (iI ((rg 13))), .int (iI ((rg 14))), .ref (mo + 8), .int (iI ((rg 16))), .ref (mo + 9), .ref (mo + 10), .ref (mo + 11)])) → (wi (mo + 1) = some (eI 483 gi)) → (wi (mo + 2) = some (eI 483 sp1)) → (wi (mo + 3) = some (eI 2898 pa)) → (wi (mo + 4) = some (eI 968 kp)) → (wi (mo + 5) = some (eZ 2 ik)) → (wi (mo + 6) = some (eI 40 bg)) → (wi (mo + 7) = some (eI 17 (fun ii => iI ((ln ii : Nat) : Int)))) → (wi (mo + 8) = some (eI 10 (fun ii => iI ((od ii : Nat) : Int)))) → (wi (mo + 9) = some (eI 1210 (fun ii => iI (sco ii)))) → (wi (mo + 10) = some (eI 1210 (fun ii => iI (leo ii)))) → (wi (mo + 11) = some (eI 1331 (fun ii => iI (smo ii)))) → (vdp gi D) → (vnp gi cur nx) → (mgN l.length l 0 = mgN cur.length cur r) → ((r = 0 ∧ cur = l) ∨ (0 < r ∧ htN l = true)) → (r + cur.length = l.length) → (∀ a b, a < k → a < b → b < cur.length → twN (lg cur a) (lg cur b) = false) → (∀ b, i < b → b < cur.length → twN (lg cur k) (lg cur b) = false) → (off w wi mo (mo + 12)) → Wp S 29 [(3, .int (iI (((i : Nat) : Int)))), (2, .int (iI (((k : Nat) : Int)))), (1, .int (iI (((r : Nat) : Int)))), (0, .ref mo)] [] wi n 0 0 := by
          intro d
          induction d using Nat.strongRecOn with
          | _ d ih_li =>
            intro i wi gi cur r hd_li hi mc vc sc pc kc ic bc lc oc xc ec uc hDi hPi hmg hst hrl hnt hni hO
            have hcl := hPi.2.2.1
            refine r_iload_n hb 30 dX9_merge_29 rfl 0 rfl ?_
            refine r_iload_n hb 31 dX9_merge_30 rfl 1 rfl ?_
            refine r_icmp_le hb 34 80 dX9_merge_31 rfl (by decide) (by omega) (by omega) (fun c31 => ?_) (fun c31 => ?_)
            · refine r_iinc [(2, .int (iI (((k : Nat) : Int) + 1))), (3, .int (iI (((i : Nat) : Int)))), (1, .int (iI (((r : Nat) : Int)))), (0, .ref mo)] hb 83 4 1 dX9_merge_80 rfl rfl hnL (by decide) (((k : Nat) : Int) + 1) (by omega) rfl ?_
              refine r_goto hb 8 dX9_merge_83 (by decide) ?_
              refine r_lv [(2, .int (iI (((k + 1 : Nat) : Int)))), (1, .int (iI (((r : Nat) : Int)))), (0, .ref mo)] [0, 2, 3] rfl ?_
              exact ih_lp (20 - (k + 1)) (by omega) (k + 1) _ gi cur r rfl (by omega) mc vc sc pc kc ic bc lc oc xc ec uc hDi hPi hmg hst hrl (fun a b h1 h2 h3 => by
                by_cases e : a = k
                · subst e; exact hni b (by omega) h3
                · exact hnt a b (by omega) h2 h3) hO
            · refine r_aload_n hb 35 dX9_merge_34 rfl 3 rfl ?_
              refine r_iload_n hb 36 dX9_merge_35 rfl 1 rfl ?_
              refine r_iload_n hb 37 dX9_merge_36 rfl 0 rfl ?_
              refine r_callVR (st := []) hb ho 40 dX9_merge_37 rfl ck_X9_159 (c_X9_isLike mo rg gi k i (lg cur k) (lg cur i) mc vc (hPi.2.2.2.2 k (by omega)) (hPi.2.2.2.2 i (by omega)) (by omega)) rfl rfl (mc) rfl rfl (by rw [hR0]; exact ⟨Nat.le_of_ble_eq_true rfl, Nat.le_of_ble_eq_true rfl⟩) (Nat.le_of_ble_eq_true rfl) ⟨rfl, rfl⟩ (by rw [hR0]; exact Nat.zero_le _) (by rw [hR0]; exact Nat.zero_le _) ?_
              refine r_ifb_eq hb 43 74 dX9_merge_40 rfl (by decide) (fun c40 => ?_) (fun c40 => ?_)
              · refine r_iinc [(3, .int (iI (((i : Nat) : Int) - 1))), (2, .int (iI (((k : Nat) : Int)))), (1, .int (iI (((r : Nat) : Int)))), (0, .ref mo)] hb 77 4 0 dX9_merge_74 rfl rfl hnL (by decide) (((i : Nat) : Int) - 1) (by omega) rfl ?_
                refine r_goto hb 29 dX9_merge_77 (by decide) ?_
                refine r_lv [(3, .int (iI ((((i - 1 : Nat) : Nat) : Int)))), (2, .int (iI (((k : Nat) : Int)))), (1, .int (iI (((r : Nat) : Int)))), (0, .ref mo)] [0, 1, 2, 3] (congrArg (fun zz : Int => ([(3, .int (iI zz)), (2, .int (iI (((k : Nat) : Int)))), (1, .int (iI (((r : Nat) : Int)))), (0, .ref mo)] : List (Nat × Value))) (show ((i : Nat) : Int) - 1 = ((i - 1 : Nat) : Int) from by omega)) ?_
                exact ih_li (i - 1) (by omega) (i - 1) _ gi cur r rfl (by omega) mc vc sc pc kc ic bc lc oc xc ec uc hDi hPi hmg hst hrl hnt (fun b h1 h2 => by
                  by_cases e : b = i
                  · subst e; exact c40
                  · exact hni b (by omega) h2) hO
              · have hNk := hPi.2.2.2.2 k (by omega)
                have hNi := hPi.2.2.2.2 i (by omega)
                obtain ⟨n0, n1, n2, n3, n4, n5, n6, n7, n8, n9, n10, n11, n12, n13⟩ := id (hNk)
                obtain ⟨m0, m1, m2, m3, m4, m5, m6, m7, m8, m9, m10, m11, m12, m13⟩ := id (hNi)
                refine r_aload_n hb 44 dX9_merge_43 rfl 3 rfl ?_
                refine r_get hb ho 47 dX9_merge_44 rfl lk_X9_7 pf_X9_0 mc rfl ?_
                refine r_iload_n hb 48 dX9_merge_47 rfl 1 rfl ?_
                refine r_iconst hb 49 dX9_merge_48 rfl ?_
                refine r_callSR (st := [.ref (mo + 1)]) hb ho 52 dX9_merge_49 rfl ck_X9_48 (c_X9_at (((k : Nat) : Int)) 4 (36 * ((k : Nat) : Int) + 127) (by omega)) rfl rfl (by rw [hR0]; exact ⟨Nat.le_of_ble_eq_true rfl, Nat.le_of_ble_eq_true rfl⟩) (Nat.le_of_ble_eq_true rfl) ⟨rfl, rfl⟩ (by rw [hR0]; exact Nat.zero_le _) (by rw [hR0]; exact Nat.zero_le _) ?_
                refine r_dup2 hb 53 dX9_merge_52 rfl rfl rfl ?_
                refine r_iald hb 54 dX9_merge_53 rfl vc (123 + 36 * k + 4) (by omega) (⟨by omega, by omega⟩) ?_
                refine r_topv (.int (nW (lg cur k))) (congrArg Value.int n4) ?_
                refine r_aload_n hb 55 dX9_merge_54 rfl 3 rfl ?_
                refine r_get hb ho 58 dX9_merge_55 rfl lk_X9_7 pf_X9_0 mc rfl ?_
                refine r_iload_n hb 59 dX9_merge_58 rfl 0 rfl ?_
                refine r_iconst hb 60 dX9_merge_59 rfl ?_
                refine r_callSR (st := [.ref (mo + 1), .int (nW (lg cur k)), .int (iI (36 * ((k : Nat) : Int) + 127)), .ref (mo + 1)]) hb ho 63 dX9_merge_60 rfl ck_X9_48 (c_X9_at (((i : Nat) : Int)) 4 (36 * ((i : Nat) : Int) + 127) (by omega)) rfl rfl (by rw [hR0]; exact ⟨Nat.le_of_ble_eq_true rfl, Nat.le_of_ble_eq_true rfl⟩) (Nat.le_of_ble_eq_true rfl) ⟨rfl, rfl⟩ (by rw [hR0]; exact Nat.zero_le _) (by rw [hR0]; exact Nat.zero_le _) ?_
                refine r_iald hb 64 dX9_merge_63 rfl vc (123 + 36 * i + 4) (by omega) (⟨by omega, by omega⟩) ?_
                refine r_topv (.int (nW (lg cur i))) (congrArg Value.int m4) ?_
                refine r_iadd hb 65 dX9_merge_64 rfl ?_
                refine r_iast hb 66 dX9_merge_65 rfl vc (123 + 36 * k + 4) (by omega) (⟨by omega, by omega⟩) (fun w_65 hw_65 => ?_)
                have ow_65 := pset_off hw_65
                have xw_65 : w_65 (mo + 1) = some (eI 483 (upd gi (123 + 36 * k + 4) (((nW (lg cur k)) + (nW (lg cur i)))))) := by rw [hw_65]; exact pset_eq _ _ _
                have mc : w_65 mo = some (eO 9 [.ref (mo + 1), .ref (mo + 2), .ref (mo + 3), .int (iI ((rg 3))), .ref (mo + 4), .ref (mo + 5), .int (iI ((rg 6))), .ref (mo + 6), .int (iI ((rg 8))), .ref (mo + 7), .int (iI ((rg 10))), .int (iI ((rg 11))), .int (iI ((rg 12))), .int (iI ((rg 13))), .int (iI ((rg 14))), .ref (mo + 8), .int (iI ((rg 16))), .ref (mo + 9), .ref (mo + 10), .ref (mo + 11)]) := (ow_65 _ (by omega)).trans mc
                have sc : w_65 (mo + 2) = some (eI 483 sp1) := (ow_65 _ (by omega)).trans sc
                have pc : w_65 (mo + 3) = some (eI 2898 pa) := (ow_65 _ (by omega)).trans pc
                have kc : w_65 (mo + 4) = some (eI 968 kp) := (ow_65 _ (by omega)).trans kc
                have ic : w_65 (mo + 5) = some (eZ 2 ik) := (ow_65 _ (by omega)).trans ic
                have bc : w_65 (mo + 6) = some (eI 40 bg) := (ow_65 _ (by omega)).trans bc
                have lc : w_65 (mo + 7) = some (eI 17 (fun ii => iI ((ln ii : Nat) : Int))) := (ow_65 _ (by omega)).trans lc
                have oc : w_65 (mo + 8) = some (eI 10 (fun ii => iI ((od ii : Nat) : Int))) := (ow_65 _ (by omega)).trans oc
                have xc : w_65 (mo + 9) = some (eI 1210 (fun ii => iI (sco ii))) := (ow_65 _ (by omega)).trans xc
                have ec : w_65 (mo + 10) = some (eI 1210 (fun ii => iI (leo ii))) := (ow_65 _ (by omega)).trans ec
                have uc : w_65 (mo + 11) = some (eI 1331 (fun ii => iI (smo ii))) := (ow_65 _ (by omega)).trans uc
                refine r_aload_n hb 67 dX9_merge_66 rfl 3 rfl ?_
                refine r_iload_n hb 68 dX9_merge_67 rfl 0 rfl ?_
                have hPs : vnp (upd gi (123 + 36 * k + 4) (((nW (lg cur k)) + (nW (lg cur i))))) (cur.set k (addW (lg cur k) (lg cur i))) nx := by
                  refine vnp_set hPi (vnt_head hNk (fun q h1 h2 => pk_un (by omega)) ((pk_un (by omega)).trans n0) ((pk_un (by omega)).trans n1) ((pk_un (by omega)).trans n2) ((pk_un (by omega)).trans n3) pk_us rfl ⟨n11, n12, n13⟩) (fun q hq => pk_un (by omega))
                refine r_callV0 (st := []) hb ho 71 dX9_merge_68 rfl ck_X9_95 (c_X9_removes mo rg (upd gi (123 + 36 * k + 4) (((nW (lg cur k)) + (nW (lg cur i))))) (cur.set k (addW (lg cur k) (lg cur i))) nx i mc xw_65 hPs (by rw [List.length_set]; omega)) rfl rfl (mc) rfl rfl (by rw [hR0]; exact ⟨Nat.le_of_ble_eq_true rfl, Nat.le_of_ble_eq_true rfl⟩) (Nat.le_of_ble_eq_true rfl) ⟨rfl, rfl⟩ (by rw [hR0]; exact Nat.zero_le _) (by rw [hR0]; exact Nat.zero_le _) (fun w_68 nw_68 qw_68 => ?_)
                obtain ⟨rfl, ⟨g1, vc, ⟨hP1, e1⟩⟩, ow_68⟩ := qw_68
                have mc : w_68 mo = some (eO 9 [.ref (mo + 1), .ref (mo + 2), .ref (mo + 3), .int (iI ((rg 3))), .ref (mo + 4), .ref (mo + 5), .int (iI ((rg 6))), .ref (mo + 6), .int (iI ((rg 8))), .ref (mo + 7), .int (iI ((rg 10))), .int (iI ((rg 11))), .int (iI ((rg 12))), .int (iI ((rg 13))), .int (iI ((rg 14))), .ref (mo + 8), .int (iI ((rg 16))), .ref (mo + 9), .ref (mo + 10), .ref (mo + 11)]) := (ow_68 _ (by omega)).trans mc
                have sc : w_68 (mo + 2) = some (eI 483 sp1) := (ow_68 _ (by omega)).trans sc
                have pc : w_68 (mo + 3) = some (eI 2898 pa) := (ow_68 _ (by omega)).trans pc
                have kc : w_68 (mo + 4) = some (eI 968 kp) := (ow_68 _ (by omega)).trans kc
                have ic : w_68 (mo + 5) = some (eZ 2 ik) := (ow_68 _ (by omega)).trans ic
                have bc : w_68 (mo + 6) = some (eI 40 bg) := (ow_68 _ (by omega)).trans bc
                have lc : w_68 (mo + 7) = some (eI 17 (fun ii => iI ((ln ii : Nat) : Int))) := (ow_68 _ (by omega)).trans lc
                have oc : w_68 (mo + 8) = some (eI 10 (fun ii => iI ((od ii : Nat) : Int))) := (ow_68 _ (by omega)).trans oc
                have xc : w_68 (mo + 9) = some (eI 1210 (fun ii => iI (sco ii))) := (ow_68 _ (by omega)).trans xc
                have ec : w_68 (mo + 10) = some (eI 1210 (fun ii => iI (leo ii))) := (ow_68 _ (by omega)).trans ec
                have uc : w_68 (mo + 11) = some (eI 1331 (fun ii => iI (smo ii))) := (ow_68 _ (by omega)).trans uc
                refine r_iinc [(1, .int (iI (((r : Nat) : Int) + 1))), (3, .int (iI (((i : Nat) : Int)))), (2, .int (iI (((k : Nat) : Int)))), (0, .ref mo)] hb 74 4 2 dX9_merge_71 rfl rfl hnL (by decide) (((r : Nat) : Int) + 1) (by omega) rfl ?_
                refine r_iinc [(3, .int (iI (((i : Nat) : Int) - 1))), (1, .int (iI (((r : Nat) : Int) + 1))), (2, .int (iI (((k : Nat) : Int)))), (0, .ref mo)] hb 77 4 1 dX9_merge_74 rfl rfl hnL (by decide) (((i : Nat) : Int) - 1) (by omega) rfl ?_
                refine r_goto hb 29 dX9_merge_77 (by decide) ?_
                have hfk : ftN cur i = k := ftN_eq (by omega) (fun a ha => hnt a i ha (by omega) (by omega)) (fun _ => c40)
                have L1 : (stp cur k i).length = cur.length - 1 := stp_len (by omega)
                refine r_lv [(3, .int (iI ((((i - 1 : Nat) : Nat) : Int)))), (2, .int (iI (((k : Nat) : Int)))), (1, .int (iI ((((r + 1 : Nat) : Nat) : Int)))), (0, .ref mo)] [0, 2, 1, 3] ((congrArg (fun zz : Int => (fun yy : Int => ([(3, .int (iI zz)), (2, .int (iI (((k : Nat) : Int)))), (1, .int (iI yy)), (0, .ref mo)] : List (Nat × Value))) (((r : Nat) : Int) + 1)) (show ((i : Nat) : Int) - 1 = ((i - 1 : Nat) : Int) from by omega)).trans (congrArg (fun yy : Int => (fun zz : Int => ([(3, .int (iI zz)), (2, .int (iI (((k : Nat) : Int)))), (1, .int (iI yy)), (0, .ref mo)] : List (Nat × Value))) (((i - 1 : Nat)) : Int)) (show ((r : Nat) : Int) + 1 = ((r + 1 : Nat) : Int) from by omega))) ?_
                refine ih_li (i - 1) (by omega) (i - 1) _ g1 (stp cur k i) (r + 1) rfl (by omega) mc vc sc pc kc ic bc lc oc xc ec uc (hDi.congr (fun q hq => (e1 q (by omega)).trans (pk_un (by omega)))) hP1 ?_ ?_ (by omega) ?_ ?_ (hO.trans ((ow_65.mono (by omega) (by omega)).trans (ow_68.mono (by omega) (by omega))))
                · rw [L1]; exact hmg.trans (mg_step _ cur k i r (Nat.le_refl _) (by omega) hfk (by omega))
                · refine Or.inr ⟨by omega, ?_⟩
                  rcases hst with h | h
                  · obtain ⟨-, h9⟩ := h
                    rw [h9] at hfk
                    exact htN_t (i := i) (by rw [← h9]; omega) (by omega)
                  · exact h.2
                · intro a b ha hab hb
                  rw [tw_stp_l (by omega) (by omega) (by omega)]
                  by_cases h5 : b < i
                  · rw [tw_stp_r (by omega) (by omega) h5]; exact hnt a b ha hab (by omega)
                  · rw [lgq_stp (by omega) (by omega), if_neg h5]; exact hnt a _ ha (by omega) (by omega)
                · intro b hb hb2
                  rw [tw_stp_l (by omega) (by omega) (by omega), lgq_stp (by omega) (by omega), if_neg (by omega)]
                  exact hni _ (by omega) (by omega)
        refine r_lv [(3, .int (iI ((((cur.length - 1 : Nat) : Nat) : Int)))), (2, .int (iI (((k : Nat) : Int)))), (1, .int (iI (((r : Nat) : Int)))), (0, .ref mo)] [0, 1, 2, 3] (congrArg (fun zz : Int => ([(3, .int (iI zz)), (2, .int (iI (((k : Nat) : Int)))), (1, .int (iI (((r : Nat) : Int)))), (0, .ref mo)] : List (Nat × Value))) (show ((cur.length : Nat) : Int) - 1 = ((cur.length - 1 : Nat) : Int) from by omega)) ?_
        exact li _ (cur.length - 1) _ gi cur r rfl (by omega) mc vc sc pc kc ic bc lc oc xc ec uc hDi hPi hmg hst hrl hnt (fun b h1 h2 => absurd h1 (by omega)) hO
  refine r_lv [(2, .int (iI (((0 : Nat) : Int)))), (1, .int (iI (((0 : Nat) : Int)))), (0, .ref mo)] [0, 1, 2] rfl ?_
  exact lp _ 0 _ g l 0 rfl (by omega) mc vc sc pc kc ic bc lc oc xc ec uc hD hP rfl (Or.inl ⟨rfl, rfl⟩) (by omega) (fun a b ha => absurd ha (Nat.not_lt_zero _)) (ow_1.mono (by omega) (by omega))
