theorem r_stk {S : PS} {pc : Nat} {lv : List (Nat × Value)} {st : List Value} {w : PW} {n ce sl : Nat} (st1 : List Value) (h : st = st1) (kk : Wp S pc lv st1 w n ce sl) : Wp S pc lv st w n ce sl := by rw [h]; exact kk
theorem lg_set (l : List Nt) (k : Nat) (y : Nt) (j : Nat) (hj : j < l.length) : lg (l.set k y) j = if j = k then y else lg l j := by
  simp only [lg, List.getD_eq_getElem?_getD, List.getElem?_set]
  by_cases h : k = j
  · subst h; simp [hj]
  · simp [h, Ne.symm h]
theorem vnp_set {g g1 : Nat → Int32} {l : List Nt} {nx k : Nat} {y : Nt} (h : vnp g l nx) (hy : vnt g1 (123 + 36 * k) y) (e : ∀ q, q < 123 + 36 * k ∨ 123 + 36 * k + 36 ≤ q → g1 q = g q) : vnp g1 (l.set k y) nx := by
  obtain ⟨h0, h1, h2, h3, h4⟩ := h
  refine ⟨(e _ (by omega)).trans h0, ?_, by simpa using h2, h3, fun j hj => ?_⟩
  · rw [List.length_set]; exact (e _ (by omega)).trans h1
  · rw [List.length_set] at hj
    rw [lg_set _ _ _ _ hj]
    by_cases hk : j = k
    · subst hk; rw [if_pos rfl]; exact hy
    · rw [if_neg hk]; exact (h4 j hj).congr (fun i h5 h6 => e i (by omega))
abbrev rm_X9_at : Room := { frames := 0, cells := 0, slots := 0, locals := 0 }
set_option maxHeartbeats 4000000 in
set_option maxRecDepth 100000 in
theorem c_X9_at (k t z : Int) {w : PW} {n : Nat} (hz : 0 ≤ k ∧ k ≤ 10000 ∧ 0 ≤ t ∧ t ≤ 10000 ∧ z = 123 + 36 * k + t) : CtR yX9_at cX9_at 2 (some .int) rm_X9_at [.int (iI (k)), .int (iI (t))] w n (.int (iI (z))) := by
  refine Ctr.of rfl (Nat.le_of_ble_eq_true rfl) fun S hS => ?_
  have hb : S.1.1 = cX9_at := by rw [hS]; rfl
  have ho : S.1.2.1 = RX9 := by rw [hS]; rfl
  have hnL : S.1.2.2.1 = 2 := by rw [hS]; rfl
  have hR0 : S.2.1 = rm_X9_at := by rw [hS]; rfl
  show Wp S 0 [(0, .int (iI (k))), (1, .int (iI (t)))] [] w n 0 0
  refine r_bipush 123 hb 2 dX9_at_0 rfl rfl ?_
  refine r_bipush 36 hb 4 dX9_at_2 rfl rfl ?_
  refine r_iload_n hb 5 dX9_at_4 rfl 0 rfl ?_
  refine r_imulZ hb 6 (36 * k) dX9_at_5 rfl (by omega) ?_
  refine r_iaddZ hb 7 (36 * k + 123) dX9_at_6 rfl (by omega) ?_
  refine r_iload_n hb 8 dX9_at_7 rfl 1 rfl ?_
  refine r_iaddZ hb 9 (z) dX9_at_8 rfl (by omega) ?_
  refine r_iret hS dX9_at_9 rfl rfl (Nat.zero_le _) (Nat.zero_le _) ?_
  exact ⟨_, rfl, rfl, rfl, rfl⟩

abbrev rm_X9_in : Room := { frames := 0, cells := 0, slots := 0, locals := 0 }
set_option maxHeartbeats 4000000 in
set_option maxRecDepth 100000 in
theorem c_X9_in (x lo hi : Int) {w : PW} {n : Nat} (hz : (-2147483648 ≤ x ∧ x < 2147483648) ∧ (-2147483648 ≤ lo ∧ lo < 2147483648) ∧ (-2147483648 ≤ hi ∧ hi < 2147483648)) : CtR yX9_in cX9_in 3 (some .boolean) rm_X9_in [.int (iI (x)), .int (iI (lo)), .int (iI (hi))] w n (.int (bI (decide (lo ≤ x ∧ x ≤ hi)))) := by
  refine Ctr.of rfl (Nat.le_of_ble_eq_true rfl) fun S hS => ?_
  have hb : S.1.1 = cX9_in := by rw [hS]; rfl
  have ho : S.1.2.1 = RX9 := by rw [hS]; rfl
  have hnL : S.1.2.2.1 = 3 := by rw [hS]; rfl
  have hR0 : S.2.1 = rm_X9_in := by rw [hS]; rfl
  show Wp S 0 [(0, .int (iI (x))), (1, .int (iI (lo))), (2, .int (iI (hi)))] [] w n 0 0
  refine r_iload_n hb 1 dX9_in_0 rfl 0 rfl ?_
  refine r_iload_n hb 2 dX9_in_1 rfl 1 rfl ?_
  refine r_icmp_lt hb 5 14 dX9_in_2 rfl (by decide) (by omega) (by omega) (fun c2 => ?_) (fun c2 => ?_)
  · refine r_iconst hb 15 dX9_in_14 rfl ?_
    refine r_iret hS dX9_in_15 rfl rfl (Nat.zero_le _) (Nat.zero_le _) ?_
    exact ⟨_, rfl, congrArg Value.int (bI_F (decide_eq_false (by omega))), rfl, rfl⟩
  · refine r_iload_n hb 6 dX9_in_5 rfl 0 rfl ?_
    refine r_iload_n hb 7 dX9_in_6 rfl 2 rfl ?_
    refine r_icmp_gt hb 10 14 dX9_in_7 rfl (by decide) (by omega) (by omega) (fun c7 => ?_) (fun c7 => ?_)
    · refine r_iconst hb 15 dX9_in_14 rfl ?_
      refine r_iret hS dX9_in_15 rfl rfl (Nat.zero_le _) (Nat.zero_le _) ?_
      exact ⟨_, rfl, congrArg Value.int (bI_F (decide_eq_false (by omega))), rfl, rfl⟩
    · refine r_iconst hb 11 dX9_in_10 rfl ?_
      refine r_goto hb 15 dX9_in_11 (by decide) ?_
      refine r_iret hS dX9_in_15 rfl rfl (Nat.zero_le _) (Nat.zero_le _) ?_
      exact ⟨_, rfl, congrArg Value.int (bI_T (decide_eq_true ⟨by omega, by omega⟩)), rfl, rfl⟩

abbrev rm_X9_least : Room := { frames := 0, cells := 0, slots := 0, locals := 0 }
set_option maxHeartbeats 4000000 in
set_option maxRecDepth 100000 in
theorem c_X9_least (x y z : Int) {w : PW} {n : Nat} (hz : (-2147483648 ≤ x ∧ x < 2147483648) ∧ (-2147483648 ≤ y ∧ y < 2147483648) ∧ z = min x y) : CtR yX9_least cX9_least 2 (some .int) rm_X9_least [.int (iI (x)), .int (iI (y))] w n (.int (iI (z))) := by
  refine Ctr.of rfl (Nat.le_of_ble_eq_true rfl) fun S hS => ?_
  have hb : S.1.1 = cX9_least := by rw [hS]; rfl
  have ho : S.1.2.1 = RX9 := by rw [hS]; rfl
  have hnL : S.1.2.2.1 = 2 := by rw [hS]; rfl
  have hR0 : S.2.1 = rm_X9_least := by rw [hS]; rfl
  show Wp S 0 [(0, .int (iI (x))), (1, .int (iI (y)))] [] w n 0 0
  refine r_iload_n hb 1 dX9_least_0 rfl 0 rfl ?_
  refine r_iload_n hb 2 dX9_least_1 rfl 1 rfl ?_
  refine r_icmp_ge hb 5 9 dX9_least_2 rfl (by decide) (by omega) (by omega) (fun c2 => ?_) (fun c2 => ?_)
  · refine r_iload_n hb 10 dX9_least_9 rfl 1 rfl ?_
    refine r_iret hS dX9_least_10 rfl rfl (Nat.zero_le _) (Nat.zero_le _) ?_
    exact ⟨_, rfl, congrArg (fun z => Value.int (iI z)) (by omega), rfl, rfl⟩
  · refine r_iload_n hb 6 dX9_least_5 rfl 0 rfl ?_
    refine r_goto hb 10 dX9_least_6 (by decide) ?_
    refine r_iret hS dX9_least_10 rfl rfl (Nat.zero_le _) (Nat.zero_le _) ?_
    exact ⟨_, rfl, congrArg (fun z => Value.int (iI z)) (by omega), rfl, rfl⟩

abbrev rm_X9_more : Room := { frames := 0, cells := 0, slots := 0, locals := 0 }
set_option maxHeartbeats 4000000 in
set_option maxRecDepth 100000 in
theorem c_X9_more (h : Int64) (x : Int32) {w : PW} {n : Nat}  : CtR yX9_more cX9_more 3 (some .long) rm_X9_more [.long (h), .int x] w n (.long (mixL h x)) := by
  refine Ctr.of rfl (Nat.le_of_ble_eq_true rfl) fun S hS => ?_
  have hb : S.1.1 = cX9_more := by rw [hS]; rfl
  have ho : S.1.2.1 = RX9 := by rw [hS]; rfl
  have hnL : S.1.2.2.1 = 3 := by rw [hS]; rfl
  have hR0 : S.2.1 = rm_X9_more := by rw [hS]; rfl
  show Wp S 0 [(0, .long (h)), (2, .int x)] [] w n 0 0
  refine r_ldc2 hb ho 3 dX9_more_0 rfl kl_X9_177 ?_
  refine r_lload_n hb 4 dX9_more_3 rfl 0 rfl ?_
  refine r_lmul hb 5 dX9_more_4 rfl ?_
  refine r_iload_n hb 6 dX9_more_5 rfl 1 rfl ?_
  refine r_i2l hb 7 dX9_more_6 rfl ?_
  refine r_ladd hb 8 dX9_more_7 rfl ?_
  refine r_lret hS dX9_more_8 rfl (Nat.zero_le _) (Nat.zero_le _) ?_
  exact ⟨_, rfl, rfl, rfl, rfl⟩

abbrev rm_X9_without : Room := { frames := 1, cells := 0, slots := 0, locals := 21 }
set_option maxHeartbeats 4000000 in
set_option maxRecDepth 100000 in
theorem c_X9_without (b p m : Nat) {w : PW} {n : Nat} (h1 : b ≤ 200 ∧ p ≤ 200 ∧ m ≤ 200) : CtR yX9_without cX9_without 3 (some .int) rm_X9_without [.int (iI (((b : Nat) : Int))), .int (iI (((p : Nat) : Int))), .int (iI (((m : Nat) : Int)))] w n (.int (iI (((bndD b p m : Nat) : Int)))) := by
  refine Ctr.of rfl (Nat.le_of_ble_eq_true rfl) fun S hS => ?_
  have hb : S.1.1 = cX9_without := by rw [hS]; rfl
  have ho : S.1.2.1 = RX9 := by rw [hS]; rfl
  have hnL : S.1.2.2.1 = 3 := by rw [hS]; rfl
  have hR0 : S.2.1 = rm_X9_without := by rw [hS]; rfl
  show Wp S 0 [(0, .int (iI (((b : Nat) : Int)))), (1, .int (iI (((p : Nat) : Int)))), (2, .int (iI (((m : Nat) : Int))))] [] w n 0 0
  refine r_iload_n hb 1 dX9_without_0 rfl 0 rfl ?_
  refine r_iload_n hb 2 dX9_without_1 rfl 1 rfl ?_
  refine r_iload_n hb 3 dX9_without_2 rfl 2 rfl ?_
  refine r_iaddZ hb 4 (((p : Nat) : Int) + ((m : Nat) : Int)) dX9_without_3 rfl (by omega) ?_
  refine r_icmp_lt hb 7 13 dX9_without_4 rfl (by decide) (by omega) (by omega) (fun c4 => ?_) (fun c4 => ?_)
  · refine r_iload_n hb 14 dX9_without_13 rfl 0 rfl ?_
    refine r_iload_n hb 15 dX9_without_14 rfl 1 rfl ?_
    refine r_callSR (st := []) hb ho 18 dX9_without_15 rfl ck_X9_69 (c_X9_least (((b : Nat) : Int)) (((p : Nat) : Int)) (((min b p : Nat) : Int)) (by omega)) rfl rfl (by rw [hR0]; exact ⟨Nat.le_of_ble_eq_true rfl, Nat.le_of_ble_eq_true rfl⟩) (Nat.le_of_ble_eq_true rfl) ⟨rfl, rfl⟩ (by rw [hR0]; exact Nat.zero_le _) (by rw [hR0]; exact Nat.zero_le _) ?_
    refine r_iret hS dX9_without_18 rfl rfl (Nat.zero_le _) (Nat.zero_le _) ?_
    exact ⟨_, rfl, congrArg (fun z => Value.int (iI z)) (by unfold bndD; split <;> omega), rfl, rfl⟩
  · refine r_iload_n hb 8 dX9_without_7 rfl 0 rfl ?_
    refine r_iload_n hb 9 dX9_without_8 rfl 2 rfl ?_
    refine r_isubZ hb 10 (((b : Nat) : Int) - ((m : Nat) : Int)) dX9_without_9 rfl (by omega) ?_
    refine r_goto hb 18 dX9_without_10 (by decide) ?_
    refine r_iret hS dX9_without_18 rfl rfl (Nat.zero_le _) (Nat.zero_le _) ?_
    exact ⟨_, rfl, congrArg (fun z => Value.int (iI z)) (by unfold bndD; split <;> omega), rfl, rfl⟩

abbrev rm_X9_isPosition : Room := { frames := 1, cells := 0, slots := 0, locals := 22 }
set_option maxHeartbeats 4000000 in
set_option maxRecDepth 100000 in
theorem c_X9_isPosition (mo : Nat) (rg : Nat → Int) (g : Nat → Int32) (D : List Int32) (z : Int) {w : PW} {n : Nat} (mc : w mo = some (mE mo rg)) (vc : w (mo + 1) = some (eI 483 g)) (hD : vdp g D) (hz : -2147483648 ≤ z ∧ z < 2147483648) : CtR yX9_isPosition cX9_isPosition 2 (some .boolean) rm_X9_isPosition [.ref mo, .int (iI (z))] w n (.int (bI (posN D z))) := by
  have hDl := hD.2.2
  refine Ctr.of rfl (Nat.le_of_ble_eq_true rfl) fun S hS => ?_
  have hb : S.1.1 = cX9_isPosition := by rw [hS]; rfl
  have ho : S.1.2.1 = RX9 := by rw [hS]; rfl
  have hnL : S.1.2.2.1 = 2 := by rw [hS]; rfl
  have hR0 : S.2.1 = rm_X9_isPosition := by rw [hS]; rfl
  show Wp S 0 [(0, .ref mo), (1, .int (iI (z)))] [] w n 0 0
  refine r_iload_n hb 1 dX9_isPosition_0 rfl 1 rfl ?_
  refine r_iconst hb 2 dX9_isPosition_1 rfl ?_
  refine r_aload_n hb 3 dX9_isPosition_2 rfl 0 rfl ?_
  refine r_get hb ho 6 dX9_isPosition_3 rfl lk_X9_7 pf_X9_0 mc rfl ?_
  refine r_iconst hb 7 dX9_isPosition_6 rfl ?_
  refine r_iald hb 8 dX9_isPosition_7 rfl vc 0 (by omega) (⟨by omega, by omega⟩) ?_
  refine r_topz ((((D).length : Nat) : Int)) (hD.1) ?_
  refine r_callSR (st := []) hb ho 11 dX9_isPosition_8 rfl ck_X9_52 (c_X9_in (z) 0 ((((D).length : Nat) : Int)) (by omega)) rfl rfl (by rw [hR0]; exact ⟨Nat.le_of_ble_eq_true rfl, Nat.le_of_ble_eq_true rfl⟩) (Nat.le_of_ble_eq_true rfl) ⟨rfl, rfl⟩ (by rw [hR0]; exact Nat.zero_le _) (by rw [hR0]; exact Nat.zero_le _) ?_
  refine r_iret hS dX9_isPosition_11 rfl (bI_nar _) (Nat.zero_le _) (Nat.zero_le _) ?_
  exact ⟨_, rfl, rfl, rfl, rfl⟩

abbrev rm_X9_isLetter : Room := { frames := 1, cells := 0, slots := 0, locals := 22 }
set_option maxHeartbeats 4000000 in
set_option maxRecDepth 100000 in
theorem c_X9_isLetter (mo : Nat) (rg : Nat → Int) (g : Nat → Int32) (D : List Int32) (z : Int) {w : PW} {n : Nat} (mc : w mo = some (mE mo rg)) (vc : w (mo + 1) = some (eI 483 g)) (hD : vdp g D) (hz : -2147483648 ≤ z ∧ z < 2147483648) : CtR yX9_isLetter cX9_isLetter 2 (some .boolean) rm_X9_isLetter [.ref mo, .int (iI (z))] w n (.int (bI (letN D z))) := by
  have hDl := hD.2.2
  refine Ctr.of rfl (Nat.le_of_ble_eq_true rfl) fun S hS => ?_
  have hb : S.1.1 = cX9_isLetter := by rw [hS]; rfl
  have ho : S.1.2.1 = RX9 := by rw [hS]; rfl
  have hnL : S.1.2.2.1 = 2 := by rw [hS]; rfl
  have hR0 : S.2.1 = rm_X9_isLetter := by rw [hS]; rfl
  show Wp S 0 [(0, .ref mo), (1, .int (iI (z)))] [] w n 0 0
  refine r_iload_n hb 1 dX9_isLetter_0 rfl 1 rfl ?_
  refine r_iconst hb 2 dX9_isLetter_1 rfl ?_
  refine r_aload_n hb 3 dX9_isLetter_2 rfl 0 rfl ?_
  refine r_get hb ho 6 dX9_isLetter_3 rfl lk_X9_7 pf_X9_0 mc rfl ?_
  refine r_iconst hb 7 dX9_isLetter_6 rfl ?_
  refine r_iald hb 8 dX9_isLetter_7 rfl vc 0 (by omega) (⟨by omega, by omega⟩) ?_
  refine r_topz ((((D).length : Nat) : Int)) (hD.1) ?_
  refine r_iconst hb 9 dX9_isLetter_8 rfl ?_
  refine r_isubZ hb 10 ((((D).length : Nat) : Int) - 1) dX9_isLetter_9 rfl (by omega) ?_
  refine r_callSR (st := []) hb ho 13 dX9_isLetter_10 rfl ck_X9_52 (c_X9_in (z) 0 ((((D).length : Nat) : Int) - 1) (by omega)) rfl rfl (by rw [hR0]; exact ⟨Nat.le_of_ble_eq_true rfl, Nat.le_of_ble_eq_true rfl⟩) (Nat.le_of_ble_eq_true rfl) ⟨rfl, rfl⟩ (by rw [hR0]; exact Nat.zero_le _) (by rw [hR0]; exact Nat.zero_le _) ?_
  refine r_iret hS dX9_isLetter_13 rfl (bI_nar _) (Nat.zero_le _) (Nat.zero_le _) ?_
  exact ⟨_, rfl, congrArg (fun b => Value.int (bI b)) (decide_eq_decide.mpr (by omega)), rfl, rfl⟩

abbrev rm_X9_find : Room := { frames := 1, cells := 0, slots := 0, locals := 21 }
set_option maxHeartbeats 4000000 in
set_option maxRecDepth 100000 in
theorem c_X9_find (mo : Nat) (rg : Nat → Int) (g : Nat → Int32) (l : List Nt) (nx : Nat) (z : Int) {w : PW} {n : Nat} (mc : w mo = some (mE mo rg)) (vc : w (mo + 1) = some (eI 483 g)) (hP : vnp g l nx) (hz : -2147483648 ≤ z ∧ z < 2147483648) : CtR yX9_find cX9_find 3 (some .int) rm_X9_find [.ref mo, .int (iI (z))] w n (.int (iI ((ixZ l z)))) := by
  have hPl := hP.2.2.1
  refine Ctr.of rfl (Nat.le_of_ble_eq_true rfl) fun S hS => ?_
  have hb : S.1.1 = cX9_find := by rw [hS]; rfl
  have ho : S.1.2.1 = RX9 := by rw [hS]; rfl
  have hnL : S.1.2.2.1 = 3 := by rw [hS]; rfl
  have hR0 : S.2.1 = rm_X9_find := by rw [hS]; rfl
  show Wp S 0 [(0, .ref mo), (1, .int (iI (z)))] [] w n 0 0
  refine r_iconst hb 1 dX9_find_0 rfl ?_
  refine r_istore_n [(2, .int (iI 0)), (0, .ref mo), (1, .int (iI (z)))] hb 2 3 dX9_find_1 rfl rfl hnL (by decide) rfl ?_
  have lp : ∀ (d : Nat) (k : Nat), l.length - k = d → (k ≤ l.length) → (runL (fun i => !decide (((nNum (lg l i) : Nat) : Int) = z)) (l.length - k) k = ixN l z) → Wp S 2 [(2, .int (iI (((k : Nat) : Int)))), (0, .ref mo), (1, .int (iI (z)))] [] w n 0 0 := by
    intro d
    induction d using Nat.strongRecOn with
    | _ d ih_lp =>
      intro k hd_lp hk hr
      refine r_iload_n hb 3 dX9_find_2 rfl 0 rfl ?_
      refine r_aload_n hb 4 dX9_find_3 rfl 1 rfl ?_
      refine r_get hb ho 7 dX9_find_4 rfl lk_X9_7 pf_X9_0 mc rfl ?_
      refine r_bipush 122 hb 9 dX9_find_7 rfl rfl ?_
      refine r_iald hb 10 dX9_find_9 rfl vc 122 (by omega) (⟨by omega, by omega⟩) ?_
      refine r_topz ((((l).length : Nat) : Int)) (hP.2.1) ?_
      refine r_icmp_ge hb 13 35 dX9_find_10 rfl (by decide) (by omega) (by omega) (fun c10 => ?_) (fun c10 => ?_)
      · refine r_iconst hb 36 dX9_find_35 rfl ?_
        refine r_iret hS dX9_find_36 rfl rfl (Nat.zero_le _) (Nat.zero_le _) ?_
        have e := runL_f (c := fun i => !decide (((nNum (lg l i) : Nat) : Int) = z)) (N := l.length) (a := k) (Or.inl (by omega))
        exact ⟨_, rfl, by unfold ixZ; rw [← hr, e, if_neg (by omega)], rfl, rfl⟩
      · obtain ⟨n0, n1, n2, n3, n4, n5, n6, n7, n8, n9, n10, n11, n12, n13⟩ := id (hP.2.2.2.2 k (by omega))
        refine r_aload_n hb 14 dX9_find_13 rfl 1 rfl ?_
        refine r_get hb ho 17 dX9_find_14 rfl lk_X9_7 pf_X9_0 mc rfl ?_
        refine r_iload_n hb 18 dX9_find_17 rfl 0 rfl ?_
        refine r_iconst hb 19 dX9_find_18 rfl ?_
        refine r_callSR (st := [.ref (mo + 1)]) hb ho 22 dX9_find_19 rfl ck_X9_48 (c_X9_at (((k : Nat) : Int)) 0 (36 * ((k : Nat) : Int) + 123) (by omega)) rfl rfl (by rw [hR0]; exact ⟨Nat.le_of_ble_eq_true rfl, Nat.le_of_ble_eq_true rfl⟩) (Nat.le_of_ble_eq_true rfl) ⟨rfl, rfl⟩ (by rw [hR0]; exact Nat.zero_le _) (by rw [hR0]; exact Nat.zero_le _) ?_
        refine r_iald hb 23 dX9_find_22 rfl vc (123 + 36 * k) (by omega) (⟨by omega, by omega⟩) ?_
        refine r_topz (((nNum (lg l k) : Nat) : Int)) (n0) ?_
        refine r_iload_n hb 24 dX9_find_23 rfl 2 rfl ?_
        refine r_icmp_ne hb 27 29 dX9_find_24 rfl (by decide) (by omega) (by omega) (fun c24 => ?_) (fun c24 => ?_)
        · refine r_iinc [(2, .int (iI (((k : Nat) : Int) + 1))), (0, .ref mo), (1, .int (iI (z)))] hb 32 3 0 dX9_find_29 rfl rfl hnL (by decide) (((k : Nat) : Int) + 1) (by omega) rfl ?_
          refine r_goto hb 2 dX9_find_32 (by decide) ?_
          refine r_lv [(2, .int (iI (((k + 1 : Nat) : Int)))), (0, .ref mo), (1, .int (iI (z)))] [0, 1, 2] rfl ?_
          exact ih_lp (l.length - (k + 1)) (by omega) (k + 1) rfl (by omega) (by rw [← runL_t (by omega) (by simp only [Bool.not_eq_true', decide_eq_false_iff_not]; exact c24)]; exact hr)
        · refine r_iload_n hb 28 dX9_find_27 rfl 0 rfl ?_
          refine r_iret hS dX9_find_28 rfl rfl (Nat.zero_le _) (Nat.zero_le _) ?_
          have e := runL_f (c := fun i => !decide (((nNum (lg l i) : Nat) : Int) = z)) (N := l.length) (a := k) (Or.inr (by simp only [Bool.not_eq_false', decide_eq_true_eq]; exact c24))
          exact ⟨_, rfl, by unfold ixZ; rw [← hr, e, if_pos (by omega)], rfl, rfl⟩
  refine r_lv [(2, .int (iI (((0 : Nat) : Int)))), (0, .ref mo), (1, .int (iI (z)))] [0, 1, 2] rfl ?_
  exact lp _ 0 rfl (Nat.zero_le _) rfl

abbrev rm_X9_copies : Room := { frames := 0, cells := 0, slots := 0, locals := 0 }
set_option maxHeartbeats 4000000 in
set_option maxRecDepth 100000 in
theorem c_X9_copies (a b i j NA NB : Nat) (f g : Nat → Int32) {w : PW} {n : Nat} (ha : w a = some (eI NA f)) (hbc : w b = some (eI NB g)) (hne : a ≠ b) (h1 : i + 483 ≤ NA ∧ NA ≤ 3000) (h2 : j + 483 ≤ NB ∧ NB ≤ 3000) : Ct0 yX9_copies cX9_copies 5 none rm_X9_copies [.ref a, .int (iI (((i : Nat) : Int))), .ref b, .int (iI (((j : Nat) : Int)))] w n (fun w1 n1 => n = n1 ∧ (∃ g1, w1 b = some (eI NB g1) ∧ (∀ k, k < 483 → g1 (j + k) = f (i + k)) ∧ ∀ q, q < j ∨ j + 483 ≤ q → g1 q = g q) ∧ off w w1 b (b + 1)) := by
  refine Ctr.of rfl (Nat.le_of_ble_eq_true rfl) fun S hS => ?_
  have hb : S.1.1 = cX9_copies := by rw [hS]; rfl
  have ho : S.1.2.1 = RX9 := by rw [hS]; rfl
  have hnL : S.1.2.2.1 = 5 := by rw [hS]; rfl
  have hR0 : S.2.1 = rm_X9_copies := by rw [hS]; rfl
  show Wp S 0 [(0, .ref a), (1, .int (iI (((i : Nat) : Int)))), (2, .ref b), (3, .int (iI (((j : Nat) : Int))))] [] w n 0 0
  refine r_iconst hb 1 dX9_copies_0 rfl ?_
  refine r_istore [(4, .int (iI 0)), (0, .ref a), (1, .int (iI (((i : Nat) : Int)))), (2, .ref b), (3, .int (iI (((j : Nat) : Int))))] hb 3 5 dX9_copies_1 rfl hnL (by decide) rfl ?_
  have lp : ∀ (d : Nat) (k : Nat) (wi : PW) (gi : Nat → Int32), 483 - k = d → (k ≤ 483) → (wi a = some (eI NA f)) → (wi b = some (eI NB gi)) → (∀ q, q < k → gi (j + q) = f (i + q)) → (∀ q, q < j ∨ j + 483 ≤ q → gi q = g q) → (off w wi b (b + 1)) → Wp S 3 [(4, .int (iI (((k : Nat) : Int)))), (0, .ref a), (1, .int (iI (((i : Nat) : Int)))), (2, .ref b), (3, .int (iI (((j : Nat) : Int))))] [] wi n 0 0 := by
    intro d
    induction d using Nat.strongRecOn with
    | _ d ih_lp =>
      intro k wi gi hd_lp hk ha hbc e1 e2 hO
      refine r_iload hb 5 dX9_copies_3 rfl 0 rfl ?_
      refine r_sipush 483 hb 8 dX9_copies_5 rfl rfl ?_
      refine r_icmp_ge hb 11 29 dX9_copies_8 rfl (by decide) (by omega) (by omega) (fun c8 => ?_) (fun c8 => ?_)
      · refine r_vret hS dX9_copies_29 rfl (Nat.zero_le _) (Nat.zero_le _) ?_
        exact ⟨rfl, rfl, ⟨gi, hbc, fun k hk => e1 k (by omega), e2⟩, hO⟩
      · refine r_aload_n hb 12 dX9_copies_11 rfl 3 rfl ?_
        refine r_iload_n hb 13 dX9_copies_12 rfl 4 rfl ?_
        refine r_iload hb 15 dX9_copies_13 rfl 0 rfl ?_
        refine r_iaddZ hb 16 (((j : Nat) : Int) + ((k : Nat) : Int)) dX9_copies_15 rfl (by omega) ?_
        refine r_aload_n hb 17 dX9_copies_16 rfl 1 rfl ?_
        refine r_iload_n hb 18 dX9_copies_17 rfl 2 rfl ?_
        refine r_iload hb 20 dX9_copies_18 rfl 0 rfl ?_
        refine r_iaddZ hb 21 (((i : Nat) : Int) + ((k : Nat) : Int)) dX9_copies_20 rfl (by omega) ?_
        refine r_iald hb 22 dX9_copies_21 rfl ha (i + k) (by omega) (⟨by omega, by omega⟩) ?_
        refine r_iast hb 23 dX9_copies_22 rfl hbc (j + k) (by omega) (⟨by omega, by omega⟩) (fun w_22 hw_22 => ?_)
        have ow_22 := pset_off hw_22
        have xw_22 : w_22 b = some (eI NB (upd gi (j + k) ((f (i + k))))) := by rw [hw_22]; exact pset_eq _ _ _
        have ha : w_22 a = some (eI NA f) := (ow_22 _ (by omega)).trans ha
        refine r_iinc [(4, .int (iI (((k : Nat) : Int) + 1))), (0, .ref a), (1, .int (iI (((i : Nat) : Int)))), (2, .ref b), (3, .int (iI (((j : Nat) : Int))))] hb 26 5 0 dX9_copies_23 rfl rfl hnL (by decide) (((k : Nat) : Int) + 1) (by omega) rfl ?_
        refine r_goto hb 3 dX9_copies_26 (by decide) ?_
        refine r_lv [(4, .int (iI (((k + 1 : Nat) : Int)))), (0, .ref a), (1, .int (iI (((i : Nat) : Int)))), (2, .ref b), (3, .int (iI (((j : Nat) : Int))))] [0, 1, 2, 3, 4] rfl ?_
        refine ih_lp (483 - (k + 1)) (by omega) (k + 1) _ _ rfl (by omega) ha xw_22 ?_ ?_ (hO.trans ow_22)
        · intro q hq
          by_cases e : q = k
          · subst e; exact pk_us
          · exact (pk_un (by omega)).trans (e1 q (by omega))
        · intro q hq
          exact (pk_un (by omega)).trans (e2 q hq)
  refine r_lv [(4, .int (iI (((0 : Nat) : Int)))), (0, .ref a), (1, .int (iI (((i : Nat) : Int)))), (2, .ref b), (3, .int (iI (((j : Nat) : Int))))] [0, 1, 2, 3, 4] rfl ?_
  exact lp _ 0 _ g rfl (Nat.zero_le _) ha hbc (fun q hq => absurd hq (Nat.not_lt_zero _)) (fun q _ => rfl) (off.rfl' _ _ _)

abbrev rm_X9_begins : Room := { frames := 1, cells := 0, slots := 0, locals := 24 }
set_option maxHeartbeats 4000000 in
set_option maxRecDepth 100000 in
theorem c_X9_begins (mo : Nat) (rg : Nat → Int) (g : Nat → Int32) (sp : Nat → Int32) {w : PW} {n : Nat} (mc : w mo = some (mE mo rg)) (vc : w (mo + 1) = some (eI 483 g)) (sc : w (mo + 2) = some (eI 483 sp)) : Ct0 yX9_begins cX9_begins 1 none rm_X9_begins [.ref mo] w n (fun w1 n1 => n = n1 ∧ (∃ g1, w1 (mo + 2) = some (eI 483 g1) ∧ (∀ k, k < 483 → g1 k = g k)) ∧ off w w1 (mo + 2) (mo + 3)) := by
  refine Ctr.of rfl (Nat.le_of_ble_eq_true rfl) fun S hS => ?_
  have hb : S.1.1 = cX9_begins := by rw [hS]; rfl
  have ho : S.1.2.1 = RX9 := by rw [hS]; rfl
  have hnL : S.1.2.2.1 = 1 := by rw [hS]; rfl
  have hR0 : S.2.1 = rm_X9_begins := by rw [hS]; rfl
  show Wp S 0 [(0, .ref mo)] [] w n 0 0
  refine r_aload_n hb 1 dX9_begins_0 rfl 0 rfl ?_
  refine r_get hb ho 4 dX9_begins_1 rfl lk_X9_7 pf_X9_0 mc rfl ?_
  refine r_iconst hb 5 dX9_begins_4 rfl ?_
  refine r_aload_n hb 6 dX9_begins_5 rfl 0 rfl ?_
  refine r_get hb ho 9 dX9_begins_6 rfl lk_X9_13 pf_X9_1 mc rfl ?_
  refine r_iconst hb 10 dX9_begins_9 rfl ?_
  refine r_callS0 (st := []) hb ho 13 dX9_begins_10 rfl ck_X9_56 (c_X9_copies (mo + 1) (mo + 2) 0 0 483 483 g sp vc sc (by omega) (by omega) (by omega)) rfl rfl (by rw [hR0]; exact ⟨Nat.le_of_ble_eq_true rfl, Nat.le_of_ble_eq_true rfl⟩) (Nat.le_of_ble_eq_true rfl) ⟨rfl, rfl⟩ (by rw [hR0]; exact Nat.zero_le _) (by rw [hR0]; exact Nat.zero_le _) (fun w_10 nw_10 qw_10 => ?_)
  obtain ⟨rfl, ⟨sp1, sc, sp_i, sp_o⟩, ow_10⟩ := qw_10
  have mc : w_10 mo = some (eO 9 [.ref (mo + 1), .ref (mo + 2), .ref (mo + 3), .int (iI ((rg 3))), .ref (mo + 4), .ref (mo + 5), .int (iI ((rg 6))), .ref (mo + 6), .int (iI ((rg 8))), .ref (mo + 7), .int (iI ((rg 10))), .int (iI ((rg 11))), .int (iI ((rg 12))), .int (iI ((rg 13))), .int (iI ((rg 14))), .ref (mo + 8), .int (iI ((rg 16))), .ref (mo + 9), .ref (mo + 10), .ref (mo + 11)]) := (ow_10 _ (by omega)).trans mc
  have vc : w_10 (mo + 1) = some (eI 483 g) := (ow_10 _ (by omega)).trans vc
  refine r_vret hS dX9_begins_13 rfl (Nat.zero_le _) (Nat.zero_le _) ?_
  refine ⟨rfl, rfl, ⟨sp1, sc, fun k hk => ?_⟩, ow_10⟩
  have e := sp_i k hk
  rw [Nat.zero_add] at e
  exact e

abbrev rm_X9_made : Room := { frames := 1, cells := 0, slots := 0, locals := 24 }
set_option maxHeartbeats 4000000 in
set_option maxRecDepth 100000 in
theorem c_X9_made (mo : Nat) (rg : Nat → Int) (sp pa : Nat → Int32) (hs : List Pg) (p : Pg) (v : Int32) {w : PW} {n : Nat} (mc : w mo = some (mE mo rg)) (sc : w (mo + 2) = some (eI 483 sp)) (pc : w (mo + 3) = some (eI 2898 pa)) (h3 : rg 3 = (hs.length : Int)) (hph : vph pa hs) (hp : vpo sp 0 p) : Ct1 yX9_made cX9_made 3 (some .int) rm_X9_made [.ref mo, .int v] w n (fun v1 w1 n1 => v1 = .int v ∧ n = n1 ∧ (∃ (rg1 : Nat → Int) (pa1 : Nat → Int32), w1 mo = some (mE mo rg1) ∧ (∀ k, k ≠ 3 → rg1 k = rg k) ∧ rg1 3 = ((recH hs p).length : Int) ∧ w1 (mo + 3) = some (eI 2898 pa1) ∧ vph pa1 (recH hs p)) ∧ off2 w w1 mo (mo + 1) (mo + 3) (mo + 4)) := by
  have hl6 := hph.1
  refine Ctr.of rfl (Nat.le_of_ble_eq_true rfl) fun S hS => ?_
  have hb : S.1.1 = cX9_made := by rw [hS]; rfl
  have ho : S.1.2.1 = RX9 := by rw [hS]; rfl
  have hnL : S.1.2.2.1 = 3 := by rw [hS]; rfl
  have hR0 : S.2.1 = rm_X9_made := by rw [hS]; rfl
  show Wp S 0 [(0, .ref mo), (1, .int v)] [] w n 0 0
  refine r_aload_n hb 1 dX9_made_0 rfl 0 rfl ?_
  refine r_get hb ho 4 dX9_made_1 rfl lk_X9_60 pf_X9_3 mc rfl ?_
  refine r_bipush 6 hb 6 dX9_made_4 rfl rfl ?_
  refine r_icmp_ne hb 9 45 dX9_made_6 rfl (by decide) (by omega) (by omega) (fun c6 => ?_) (fun c6 => ?_)
  · refine r_aload_n hb 46 dX9_made_45 rfl 0 rfl ?_
    refine r_get hb ho 49 dX9_made_46 rfl lk_X9_13 pf_X9_1 mc rfl ?_
    refine r_iconst hb 50 dX9_made_49 rfl ?_
    refine r_aload_n hb 51 dX9_made_50 rfl 0 rfl ?_
    refine r_get hb ho 54 dX9_made_51 rfl lk_X9_16 pf_X9_2 mc rfl ?_
    refine r_sipush 483 hb 57 dX9_made_54 rfl rfl ?_
    refine r_aload_n hb 58 dX9_made_57 rfl 0 rfl ?_
    refine r_get hb ho 61 dX9_made_58 rfl lk_X9_60 pf_X9_3 mc rfl ?_
    refine r_imulZ hb 62 (483 * ((hs.length : Nat) : Int)) dX9_made_61 rfl (by omega) ?_
    refine r_callS0 (st := []) hb ho 65 dX9_made_62 rfl ck_X9_56 (c_X9_copies (mo + 2) (mo + 3) 0 (483 * hs.length) 483 2898 sp pa sc pc (by omega) (by omega) (by omega)) rfl rfl (by rw [hR0]; exact ⟨Nat.le_of_ble_eq_true rfl, Nat.le_of_ble_eq_true rfl⟩) (Nat.le_of_ble_eq_true rfl) ⟨rfl, rfl⟩ (by rw [hR0]; exact Nat.zero_le _) (by rw [hR0]; exact Nat.zero_le _) (fun w_62 nw_62 qw_62 => ?_)
    obtain ⟨rfl, ⟨pa1, pc, pa_i, pa_o⟩, ow_62⟩ := qw_62
    have mc : w_62 mo = some (eO 9 [.ref (mo + 1), .ref (mo + 2), .ref (mo + 3), .int (iI ((rg 3))), .ref (mo + 4), .ref (mo + 5), .int (iI ((rg 6))), .ref (mo + 6), .int (iI ((rg 8))), .ref (mo + 7), .int (iI ((rg 10))), .int (iI ((rg 11))), .int (iI ((rg 12))), .int (iI ((rg 13))), .int (iI ((rg 14))), .ref (mo + 8), .int (iI ((rg 16))), .ref (mo + 9), .ref (mo + 10), .ref (mo + 11)]) := (ow_62 _ (by omega)).trans mc
    have sc : w_62 (mo + 2) = some (eI 483 sp) := (ow_62 _ (by omega)).trans sc
    refine r_aload_n hb 66 dX9_made_65 rfl 0 rfl ?_
    refine r_dup hb 67 dX9_made_66 rfl rfl ?_
    refine r_get hb ho 70 dX9_made_67 rfl lk_X9_60 pf_X9_3 mc rfl ?_
    refine r_iconst hb 71 dX9_made_70 rfl ?_
    refine r_iaddZ hb 72 ((rg 3) + 1) dX9_made_71 rfl (by omega) ?_
    refine r_put hb ho 75 dX9_made_72 rfl lk_X9_60 pf_X9_3 mc (Nat.le_of_ble_eq_true rfl) ⟨rfl, rfl⟩ (fun w_72 hw_72 => ?_)
    have ow_72 := pset_off hw_72
    have xw_72 : w_72 mo = some (eO 9 [.ref (mo + 1), .ref (mo + 2), .ref (mo + 3), .int (iI ((rg 3) + 1)), .ref (mo + 4), .ref (mo + 5), .int (iI ((rg 6))), .ref (mo + 6), .int (iI ((rg 8))), .ref (mo + 7), .int (iI ((rg 10))), .int (iI ((rg 11))), .int (iI ((rg 12))), .int (iI ((rg 13))), .int (iI ((rg 14))), .ref (mo + 8), .int (iI ((rg 16))), .ref (mo + 9), .ref (mo + 10), .ref (mo + 11)]) := by rw [hw_72]; exact pset_eq _ _ _
    have pc : w_72 (mo + 3) = some (eI 2898 pa1) := (ow_72 _ (by omega)).trans pc
    have sc : w_72 (mo + 2) = some (eI 483 sp) := (ow_72 _ (by omega)).trans sc
    refine r_iload_n hb 76 dX9_made_75 rfl 1 rfl ?_
    refine r_iret hS dX9_made_76 rfl rfl (Nat.zero_le _) (Nat.zero_le _) ?_
    have er : recH hs p = hs ++ [p] := by unfold recH; rw [if_pos (by omega)]
    have hl1 : (hs).length = hs.length := by simp
    have hl2 : (recH hs p).length = hs.length + 1 := by rw [er, List.length_append, hl1]; rfl
    refine ⟨_, rfl, rfl, rfl, ⟨updZ rg 3 ((recH hs p).length : Int), pa1, ?_, fun k hk => updZ_n _ _ hk, updZ_s _ _ _, pc, by rw [hl2]; omega, fun j hj => ?_⟩, ?_⟩
    · rw [hl2]; rw [show (((hs.length + 1 : Nat)) : Int) = ((rg 3) + 1) by omega]; exact xw_72
    · rw [hl2] at hj
      by_cases e : j = hs.length
      · subst e; rw [er, show hg (hs ++ [p]) (hs.length) = p by simp only [hg, List.getD_eq_getElem?_getD]; rw [← hl1, List.getElem?_concat_length]; rfl]
        exact vpo.congr hp (fun i hi => by rw [show 483 * hs.length + i = 483 * hs.length + i from rfl]; exact (pa_i i hi).trans (by rw [Nat.zero_add]))
      · rw [er, show hg (hs ++ [p]) j = hg hs j by simp only [hg, List.getD_eq_getElem?_getD]; rw [List.getElem?_append_left (by omega)]]
        exact vpo.congr (hph.2 j (by omega)) (fun i hi => pa_o _ (by omega))
    · exact (off_r ow_62 (by omega) (by omega) _ _).trans (off_l ow_72 (by omega) (by omega) _ _)
  · refine r_iconst hb 10 dX9_made_9 rfl ?_
    refine r_istore_n [(2, .int (iI 0)), (0, .ref mo), (1, .int v)] hb 11 3 dX9_made_10 rfl rfl hnL (by decide) rfl ?_
    have lp : ∀ (d : Nat) (i : Nat) (wi : PW) (pi : Nat → Int32), 2415 - i = d → (i ≤ 2415) → (wi mo = some (mE mo rg)) → (wi (mo + 2) = some (eI 483 sp)) → (wi (mo + 3) = some (eI 2898 pi)) → (∀ q, q < i → pi q = pa (q + 483)) → (∀ q, i ≤ q → pi q = pa q) → (off w wi (mo + 3) (mo + 4)) → Wp S 11 [(2, .int (iI (((i : Nat) : Int)))), (0, .ref mo), (1, .int v)] [] wi n 0 0 := by
      intro d
      induction d using Nat.strongRecOn with
      | _ d ih_lp =>
        intro i wi pi hd_lp hi mc sc pc e1 e2 hO
        refine r_iload_n hb 12 dX9_made_11 rfl 0 rfl ?_
        refine r_sipush 2415 hb 15 dX9_made_12 rfl rfl ?_
        refine r_icmp_ge hb 18 40 dX9_made_15 rfl (by decide) (by omega) (by omega) (fun c15 => ?_) (fun c15 => ?_)
        · refine r_aload_n hb 41 dX9_made_40 rfl 1 rfl ?_
          refine r_iconst hb 42 dX9_made_41 rfl ?_
          refine r_put hb ho 45 dX9_made_42 rfl lk_X9_60 pf_X9_3 mc (Nat.le_of_ble_eq_true rfl) ⟨rfl, rfl⟩ (fun w_42 hw_42 => ?_)
          have ow_42 := pset_off hw_42
          have xw_42 : w_42 mo = some (eO 9 [.ref (mo + 1), .ref (mo + 2), .ref (mo + 3), .int (iI 5), .ref (mo + 4), .ref (mo + 5), .int (iI ((rg 6))), .ref (mo + 6), .int (iI ((rg 8))), .ref (mo + 7), .int (iI ((rg 10))), .int (iI ((rg 11))), .int (iI ((rg 12))), .int (iI ((rg 13))), .int (iI ((rg 14))), .ref (mo + 8), .int (iI ((rg 16))), .ref (mo + 9), .ref (mo + 10), .ref (mo + 11)]) := by rw [hw_42]; exact pset_eq _ _ _
          have sc : w_42 (mo + 2) = some (eI 483 sp) := (ow_42 _ (by omega)).trans sc
          have pc : w_42 (mo + 3) = some (eI 2898 pi) := (ow_42 _ (by omega)).trans pc
          refine r_aload_n hb 46 dX9_made_45 rfl 1 rfl ?_
          refine r_get hb ho 49 dX9_made_46 rfl lk_X9_13 pf_X9_1 xw_42 rfl ?_
          refine r_iconst hb 50 dX9_made_49 rfl ?_
          refine r_aload_n hb 51 dX9_made_50 rfl 1 rfl ?_
          refine r_get hb ho 54 dX9_made_51 rfl lk_X9_16 pf_X9_2 xw_42 rfl ?_
          refine r_sipush 483 hb 57 dX9_made_54 rfl rfl ?_
          refine r_aload_n hb 58 dX9_made_57 rfl 1 rfl ?_
          refine r_get hb ho 61 dX9_made_58 rfl lk_X9_60 pf_X9_3 xw_42 rfl ?_
          refine r_imulZ hb 62 2415 dX9_made_61 rfl (by omega) ?_
          refine r_callS0 (st := []) hb ho 65 dX9_made_62 rfl ck_X9_56 (c_X9_copies (mo + 2) (mo + 3) 0 (2415) 483 2898 sp pi sc pc (by omega) (by omega) (by omega)) rfl rfl (by rw [hR0]; exact ⟨Nat.le_of_ble_eq_true rfl, Nat.le_of_ble_eq_true rfl⟩) (Nat.le_of_ble_eq_true rfl) ⟨rfl, rfl⟩ (by rw [hR0]; exact Nat.zero_le _) (by rw [hR0]; exact Nat.zero_le _) (fun w_62 nw_62 qw_62 => ?_)
          obtain ⟨rfl, ⟨pa1, pc, pa_i, pa_o⟩, ow_62⟩ := qw_62
          have xw_42 : w_62 mo = some (eO 9 [.ref (mo + 1), .ref (mo + 2), .ref (mo + 3), .int (iI 5), .ref (mo + 4), .ref (mo + 5), .int (iI ((rg 6))), .ref (mo + 6), .int (iI ((rg 8))), .ref (mo + 7), .int (iI ((rg 10))), .int (iI ((rg 11))), .int (iI ((rg 12))), .int (iI ((rg 13))), .int (iI ((rg 14))), .ref (mo + 8), .int (iI ((rg 16))), .ref (mo + 9), .ref (mo + 10), .ref (mo + 11)]) := (ow_62 _ (by omega)).trans xw_42
          have sc : w_62 (mo + 2) = some (eI 483 sp) := (ow_62 _ (by omega)).trans sc
          refine r_aload_n hb 66 dX9_made_65 rfl 1 rfl ?_
          refine r_dup hb 67 dX9_made_66 rfl rfl ?_
          refine r_get hb ho 70 dX9_made_67 rfl lk_X9_60 pf_X9_3 xw_42 rfl ?_
          refine r_iconst hb 71 dX9_made_70 rfl ?_
          refine r_iaddZ hb 72 6 dX9_made_71 rfl (by omega) ?_
          refine r_put hb ho 75 dX9_made_72 rfl lk_X9_60 pf_X9_3 xw_42 (Nat.le_of_ble_eq_true rfl) ⟨rfl, rfl⟩ (fun w_72 hw_72 => ?_)
          have ow_72 := pset_off hw_72
          have xw_72 : w_72 mo = some (eO 9 [.ref (mo + 1), .ref (mo + 2), .ref (mo + 3), .int (iI 6), .ref (mo + 4), .ref (mo + 5), .int (iI ((rg 6))), .ref (mo + 6), .int (iI ((rg 8))), .ref (mo + 7), .int (iI ((rg 10))), .int (iI ((rg 11))), .int (iI ((rg 12))), .int (iI ((rg 13))), .int (iI ((rg 14))), .ref (mo + 8), .int (iI ((rg 16))), .ref (mo + 9), .ref (mo + 10), .ref (mo + 11)]) := by rw [hw_72]; exact pset_eq _ _ _
          have pc : w_72 (mo + 3) = some (eI 2898 pa1) := (ow_72 _ (by omega)).trans pc
          have sc : w_72 (mo + 2) = some (eI 483 sp) := (ow_72 _ (by omega)).trans sc
          refine r_iload_n hb 76 dX9_made_75 rfl 2 rfl ?_
          refine r_iret hS dX9_made_76 rfl rfl (Nat.zero_le _) (Nat.zero_le _) ?_
          have er : recH hs p = (hs.drop 1) ++ [p] := by unfold recH; rw [if_neg (by omega)]
          have hl1 : (hs.drop 1).length = hs.length - 1 := by simp
          have hl2 : (recH hs p).length = hs.length - 1 + 1 := by rw [er, List.length_append, hl1]; rfl
          refine ⟨_, rfl, rfl, rfl, ⟨updZ rg 3 ((recH hs p).length : Int), pa1, ?_, fun k hk => updZ_n _ _ hk, updZ_s _ _ _, pc, by rw [hl2]; omega, fun j hj => ?_⟩, ?_⟩
          · rw [hl2]; rw [show (((hs.length - 1 + 1 : Nat)) : Int) = 6 by omega]; exact xw_72
          · rw [hl2] at hj
            by_cases e : j = hs.length - 1
            · subst e; rw [er, show hg ((hs.drop 1) ++ [p]) (hs.length - 1) = p by simp only [hg, List.getD_eq_getElem?_getD]; rw [← hl1, List.getElem?_concat_length]; rfl]
              exact vpo.congr hp (fun i hi => by rw [show 483 * (hs.length - 1) + i = 2415 + i by omega]; exact (pa_i i hi).trans (by rw [Nat.zero_add]))
            · rw [er, show hg ((hs.drop 1) ++ [p]) j = hg hs (j + 1) by simp only [hg, List.getD_eq_getElem?_getD]; rw [List.getElem?_append_left (by omega), List.getElem?_drop, Nat.add_comm]]
              exact vpo.congr (hph.2 (j + 1) (by omega)) (fun i hi => by rw [pa_o _ (by omega), e1 _ (by omega), show 483 * j + i + 483 = 483 * (j + 1) + i by omega])
          · exact (((off_r hO (by omega) (by omega) _ _).trans (off_l ow_42 (by omega) (by omega) _ _)).trans (off_r ow_62 (by omega) (by omega) _ _)).trans (off_l ow_72 (by omega) (by omega) _ _)
        · refine r_aload_n hb 19 dX9_made_18 rfl 1 rfl ?_
          refine r_get hb ho 22 dX9_made_19 rfl lk_X9_16 pf_X9_2 mc rfl ?_
          refine r_iload_n hb 23 dX9_made_22 rfl 0 rfl ?_
          refine r_aload_n hb 24 dX9_made_23 rfl 1 rfl ?_
          refine r_get hb ho 27 dX9_made_24 rfl lk_X9_16 pf_X9_2 mc rfl ?_
          refine r_iload_n hb 28 dX9_made_27 rfl 0 rfl ?_
          refine r_sipush 483 hb 31 dX9_made_28 rfl rfl ?_
          refine r_iaddZ hb 32 (((i : Nat) : Int) + 483) dX9_made_31 rfl (by omega) ?_
          refine r_iald hb 33 dX9_made_32 rfl pc (i + 483) (by omega) (⟨by omega, by omega⟩) ?_
          refine r_iast hb 34 dX9_made_33 rfl pc i (by omega) (⟨by omega, by omega⟩) (fun w_33 hw_33 => ?_)
          have ow_33 := pset_off hw_33
          have xw_33 : w_33 (mo + 3) = some (eI 2898 (upd pi i ((pi (i + 483))))) := by rw [hw_33]; exact pset_eq _ _ _
          have mc : w_33 mo = some (eO 9 [.ref (mo + 1), .ref (mo + 2), .ref (mo + 3), .int (iI ((rg 3))), .ref (mo + 4), .ref (mo + 5), .int (iI ((rg 6))), .ref (mo + 6), .int (iI ((rg 8))), .ref (mo + 7), .int (iI ((rg 10))), .int (iI ((rg 11))), .int (iI ((rg 12))), .int (iI ((rg 13))), .int (iI ((rg 14))), .ref (mo + 8), .int (iI ((rg 16))), .ref (mo + 9), .ref (mo + 10), .ref (mo + 11)]) := (ow_33 _ (by omega)).trans mc
          have sc : w_33 (mo + 2) = some (eI 483 sp) := (ow_33 _ (by omega)).trans sc
          refine r_iinc [(2, .int (iI (((i : Nat) : Int) + 1))), (0, .ref mo), (1, .int v)] hb 37 3 0 dX9_made_34 rfl rfl hnL (by decide) (((i : Nat) : Int) + 1) (by omega) rfl ?_
          refine r_goto hb 11 dX9_made_37 (by decide) ?_
          refine r_lv [(2, .int (iI (((i + 1 : Nat) : Int)))), (0, .ref mo), (1, .int v)] [0, 1, 2] rfl ?_
          refine ih_lp (2415 - (i + 1)) (by omega) (i + 1) _ _ rfl (by omega) mc sc xw_33 ?_ ?_ (hO.trans (ow_33.mono (by omega) (by omega)))
          · intro q hq
            by_cases e : q = i
            · subst e; rw [pk_us]; exact e2 _ (by omega)
            · exact (pk_un e).trans (e1 q (by omega))
          · intro q hq
            exact (pk_un (by omega)).trans (e2 q (by omega))
    refine r_lv [(2, .int (iI (((0 : Nat) : Int)))), (0, .ref mo), (1, .int v)] [0, 1, 2] rfl ?_
    exact lp _ 0 _ pa rfl (Nat.zero_le _) mc sc pc (fun q hq => absurd hq (Nat.not_lt_zero _)) (fun q _ => rfl) (off.rfl' _ _ _)

abbrev rm_X9_quotesPart : Room := { frames := 1, cells := 0, slots := 0, locals := 21 }
set_option maxHeartbeats 4000000 in
set_option maxRecDepth 100000 in
theorem c_X9_quotesPart (mo : Nat) (rg : Nat → Int) (g : Nat → Int32) (D : List Int32) (k t b e : Nat) {w : PW} {n : Nat} (mc : w mo = some (mE mo rg)) (vc : w (mo + 1) = some (eI 483 g)) (hD : vdp g D) (h1 : k < 10 ∧ b ≤ e ∧ e ≤ D.length ∧ t + 1 + (e - b) ≤ 36) : Ct0 yX9_quotesPart cX9_quotesPart 6 none rm_X9_quotesPart [.ref mo, .int (iI (((k : Nat) : Int))), .int (iI (((t : Nat) : Int))), .int (iI (((b : Nat) : Int))), .int (iI (((e : Nat) : Int)))] w n (fun w1 n1 => n = n1 ∧ (∃ g1, w1 (mo + 1) = some (eI 483 g1) ∧ vtx g1 (123 + 36 * k + t) (slice D b e) ∧ ∀ q, q < 123 + 36 * k + t ∨ 123 + 36 * k + t + 1 + (e - b) ≤ q → g1 q = g q) ∧ off w w1 (mo + 1) (mo + 2)) := by
  have hDl := hD.2.2
  refine Ctr.of rfl (Nat.le_of_ble_eq_true rfl) fun S hS => ?_
  have hb : S.1.1 = cX9_quotesPart := by rw [hS]; rfl
  have ho : S.1.2.1 = RX9 := by rw [hS]; rfl
  have hnL : S.1.2.2.1 = 6 := by rw [hS]; rfl
  have hR0 : S.2.1 = rm_X9_quotesPart := by rw [hS]; rfl
  show Wp S 0 [(0, .ref mo), (1, .int (iI (((k : Nat) : Int)))), (2, .int (iI (((t : Nat) : Int)))), (3, .int (iI (((b : Nat) : Int)))), (4, .int (iI (((e : Nat) : Int))))] [] w n 0 0
  refine r_aload_n hb 1 dX9_quotesPart_0 rfl 0 rfl ?_
  refine r_get hb ho 4 dX9_quotesPart_1 rfl lk_X9_7 pf_X9_0 mc rfl ?_
  refine r_iload_n hb 5 dX9_quotesPart_4 rfl 1 rfl ?_
  refine r_iload_n hb 6 dX9_quotesPart_5 rfl 2 rfl ?_
  refine r_callSR (st := [.ref (mo + 1)]) hb ho 9 dX9_quotesPart_6 rfl ck_X9_48 (c_X9_at (((k : Nat) : Int)) (((t : Nat) : Int)) (36 * ((k : Nat) : Int) + ((t : Nat) : Int) + 123) (by omega)) rfl rfl (by rw [hR0]; exact ⟨Nat.le_of_ble_eq_true rfl, Nat.le_of_ble_eq_true rfl⟩) (Nat.le_of_ble_eq_true rfl) ⟨rfl, rfl⟩ (by rw [hR0]; exact Nat.zero_le _) (by rw [hR0]; exact Nat.zero_le _) ?_
  refine r_iload hb 11 dX9_quotesPart_9 rfl 4 rfl ?_
  refine r_iload_n hb 12 dX9_quotesPart_11 rfl 3 rfl ?_
  refine r_isubZ hb 13 (((e : Nat) : Int) - ((b : Nat) : Int)) dX9_quotesPart_12 rfl (by omega) ?_
  refine r_iast hb 14 dX9_quotesPart_13 rfl vc (123 + 36 * k + t) (by omega) (⟨by omega, by omega⟩) (fun w_13 hw_13 => ?_)
  have ow_13 := pset_off hw_13
  have xw_13 : w_13 (mo + 1) = some (eI 483 (upd g (123 + 36 * k + t) ((iI (((e : Nat) : Int) - ((b : Nat) : Int)))))) := by rw [hw_13]; exact pset_eq _ _ _
  have mc : w_13 mo = some (eO 9 [.ref (mo + 1), .ref (mo + 2), .ref (mo + 3), .int (iI ((rg 3))), .ref (mo + 4), .ref (mo + 5), .int (iI ((rg 6))), .ref (mo + 6), .int (iI ((rg 8))), .ref (mo + 7), .int (iI ((rg 10))), .int (iI ((rg 11))), .int (iI ((rg 12))), .int (iI ((rg 13))), .int (iI ((rg 14))), .ref (mo + 8), .int (iI ((rg 16))), .ref (mo + 9), .ref (mo + 10), .ref (mo + 11)]) := (ow_13 _ (by omega)).trans mc
  refine r_iload_n hb 15 dX9_quotesPart_14 rfl 3 rfl ?_
  refine r_istore [(5, .int (iI (((b : Nat) : Int)))), (0, .ref mo), (1, .int (iI (((k : Nat) : Int)))), (2, .int (iI (((t : Nat) : Int)))), (3, .int (iI (((b : Nat) : Int)))), (4, .int (iI (((e : Nat) : Int))))] hb 17 6 dX9_quotesPart_15 rfl hnL (by decide) rfl ?_
  have lp : ∀ (d : Nat) (i : Nat) (wi : PW) (gi : Nat → Int32), e - i = d → (b ≤ i ∧ i ≤ e) → (wi mo = some (mE mo rg)) → (wi (mo + 1) = some (eI 483 gi)) → (gi (123 + 36 * k + t) = iI ((e - b : Nat) : Int)) → (∀ j, j < i - b → gi (123 + 36 * k + t + 1 + j) = D.getD (b + j) 0) → (∀ q, q < 123 + 36 * k + t ∨ 123 + 36 * k + t + 1 + (e - b) ≤ q → gi q = g q) → (off w wi (mo + 1) (mo + 2)) → Wp S 17 [(5, .int (iI (((i : Nat) : Int)))), (0, .ref mo), (1, .int (iI (((k : Nat) : Int)))), (2, .int (iI (((t : Nat) : Int)))), (3, .int (iI (((b : Nat) : Int)))), (4, .int (iI (((e : Nat) : Int))))] [] wi n 0 0 := by
    intro d
    induction d using Nat.strongRecOn with
    | _ d ih_lp =>
      intro i wi gi hd_lp hi mc vc q0 q1 q2 hO
      have hDi : vdp gi D := hD.congr (fun q hq => q2 q (by omega))
      refine r_iload hb 19 dX9_quotesPart_17 rfl 0 rfl ?_
      refine r_iload hb 21 dX9_quotesPart_19 rfl 5 rfl ?_
      refine r_icmp_ge hb 24 56 dX9_quotesPart_21 rfl (by decide) (by omega) (by omega) (fun c21 => ?_) (fun c21 => ?_)
      · refine r_vret hS dX9_quotesPart_56 rfl (Nat.zero_le _) (Nat.zero_le _) ?_
        refine ⟨rfl, rfl, ⟨gi, vc, ⟨?_, fun j hj => ?_⟩, q2⟩, hO⟩
        · rw [slice_len, show min e D.length - b = e - b by omega]; exact q0
        · rw [slice_len] at hj
          rw [slice_get _ _ _ _ (by omega)]; exact q1 j (by omega)
      · refine r_aload_n hb 25 dX9_quotesPart_24 rfl 1 rfl ?_
        refine r_get hb ho 28 dX9_quotesPart_25 rfl lk_X9_7 pf_X9_0 mc rfl ?_
        refine r_iload_n hb 29 dX9_quotesPart_28 rfl 2 rfl ?_
        refine r_iload_n hb 30 dX9_quotesPart_29 rfl 3 rfl ?_
        refine r_iconst hb 31 dX9_quotesPart_30 rfl ?_
        refine r_iaddZ hb 32 (((t : Nat) : Int) + 1) dX9_quotesPart_31 rfl (by omega) ?_
        refine r_iload hb 34 dX9_quotesPart_32 rfl 0 rfl ?_
        refine r_iaddZ hb 35 (((t : Nat) : Int) + ((i : Nat) : Int) + 1) dX9_quotesPart_34 rfl (by omega) ?_
        refine r_iload_n hb 36 dX9_quotesPart_35 rfl 4 rfl ?_
        refine r_isubZ hb 37 (((t : Nat) : Int) + ((i : Nat) : Int) - ((b : Nat) : Int) + 1) dX9_quotesPart_36 rfl (by omega) ?_
        refine r_callSR (st := [.ref (mo + 1)]) hb ho 40 dX9_quotesPart_37 rfl ck_X9_48 (c_X9_at (((k : Nat) : Int)) (((t : Nat) : Int) + ((i : Nat) : Int) - ((b : Nat) : Int) + 1) (36 * ((k : Nat) : Int) + ((t : Nat) : Int) + ((i : Nat) : Int) - ((b : Nat) : Int) + 124) (by omega)) rfl rfl (by rw [hR0]; exact ⟨Nat.le_of_ble_eq_true rfl, Nat.le_of_ble_eq_true rfl⟩) (Nat.le_of_ble_eq_true rfl) ⟨rfl, rfl⟩ (by rw [hR0]; exact Nat.zero_le _) (by rw [hR0]; exact Nat.zero_le _) ?_
        refine r_aload_n hb 41 dX9_quotesPart_40 rfl 1 rfl ?_
        refine r_get hb ho 44 dX9_quotesPart_41 rfl lk_X9_7 pf_X9_0 mc rfl ?_
        refine r_iconst hb 45 dX9_quotesPart_44 rfl ?_
        refine r_iload hb 47 dX9_quotesPart_45 rfl 0 rfl ?_
        refine r_iaddZ hb 48 (((i : Nat) : Int) + 1) dX9_quotesPart_47 rfl (by omega) ?_
        refine r_iald hb 49 dX9_quotesPart_48 rfl vc (1 + i) (by omega) (⟨by omega, by omega⟩) ?_
        refine r_topv (.int ((D).getD i 0)) (congrArg Value.int (hDi.2.1 i (by omega))) ?_
        refine r_iast hb 50 dX9_quotesPart_49 rfl vc (123 + 36 * k + t + 1 + (i - b)) (by omega) (⟨by omega, by omega⟩) (fun w_49 hw_49 => ?_)
        have ow_49 := pset_off hw_49
        have xw_49 : w_49 (mo + 1) = some (eI 483 (upd gi (123 + 36 * k + t + 1 + (i - b)) (((D).getD i 0)))) := by rw [hw_49]; exact pset_eq _ _ _
        have mc : w_49 mo = some (eO 9 [.ref (mo + 1), .ref (mo + 2), .ref (mo + 3), .int (iI ((rg 3))), .ref (mo + 4), .ref (mo + 5), .int (iI ((rg 6))), .ref (mo + 6), .int (iI ((rg 8))), .ref (mo + 7), .int (iI ((rg 10))), .int (iI ((rg 11))), .int (iI ((rg 12))), .int (iI ((rg 13))), .int (iI ((rg 14))), .ref (mo + 8), .int (iI ((rg 16))), .ref (mo + 9), .ref (mo + 10), .ref (mo + 11)]) := (ow_49 _ (by omega)).trans mc
        refine r_iinc [(5, .int (iI (((i : Nat) : Int) + 1))), (0, .ref mo), (1, .int (iI (((k : Nat) : Int)))), (2, .int (iI (((t : Nat) : Int)))), (3, .int (iI (((b : Nat) : Int)))), (4, .int (iI (((e : Nat) : Int))))] hb 53 6 0 dX9_quotesPart_50 rfl rfl hnL (by decide) (((i : Nat) : Int) + 1) (by omega) rfl ?_
        refine r_goto hb 17 dX9_quotesPart_53 (by decide) ?_
        refine r_lv [(5, .int (iI (((i + 1 : Nat) : Int)))), (0, .ref mo), (1, .int (iI (((k : Nat) : Int)))), (2, .int (iI (((t : Nat) : Int)))), (3, .int (iI (((b : Nat) : Int)))), (4, .int (iI (((e : Nat) : Int))))] [0, 1, 2, 3, 4, 5] rfl ?_
        refine ih_lp (e - (i + 1)) (by omega) (i + 1) _ _ rfl (by omega) mc xw_49 ?_ ?_ ?_ (hO.trans (ow_49.mono (by omega) (by omega)))
        · exact (pk_un (by omega)).trans q0
        · intro j hj
          by_cases e1 : j = i - b
          · subst e1; rw [pk_us, show b + (i - b) = i by omega]
          · exact (pk_un (by omega)).trans (q1 j (by omega))
        · intro q hq
          exact (pk_un (by omega)).trans (q2 q hq)
  refine r_lv [(5, .int (iI (((b : Nat) : Int)))), (0, .ref mo), (1, .int (iI (((k : Nat) : Int)))), (2, .int (iI (((t : Nat) : Int)))), (3, .int (iI (((b : Nat) : Int)))), (4, .int (iI (((e : Nat) : Int))))] [0, 1, 2, 3, 4, 5] rfl ?_
  refine lp _ b _ _ rfl (by omega) mc xw_13 (by rw [pk_us]; exact congrArg iI (by omega)) (fun j hj => absurd hj (by omega)) (fun q hq => pk_un (by omega)) (ow_13.mono (by omega) (by omega))

abbrev rm_X9_quotes : Room := { frames := 2, cells := 0, slots := 0, locals := 46 }
set_option maxHeartbeats 4000000 in
set_option maxRecDepth 100000 in
theorem c_X9_quotes (mo : Nat) (rg : Nat → Int) (g : Nat → Int32) (D : List Int32) (k b e : Nat) {w : PW} {n : Nat} (mc : w mo = some (mE mo rg)) (vc : w (mo + 1) = some (eI 483 g)) (hD : vdp g D) (hb2 : g (123 + 36 * k + 2) = iI ((b : Nat) : Int)) (hb3 : g (123 + 36 * k + 3) = iI ((e : Nat) : Int)) (h1 : k < 10 ∧ b ≤ e ∧ e ≤ D.length ∧ e - b ≤ 16) : Ct0 yX9_quotes cX9_quotes 4 none rm_X9_quotes [.ref mo, .int (iI (((k : Nat) : Int)))] w n (fun w1 n1 => n = n1 ∧ (∃ g1, w1 (mo + 1) = some (eI 483 g1) ∧ (vtx g1 (123 + 36 * k + 5) (slice D (b - 6) b) ∧ vtx g1 (123 + 36 * k + 12) (slice D b e) ∧ vtx g1 (123 + 36 * k + 29) (slice D e (e + 6))) ∧ ∀ q, q < 123 + 36 * k + 5 ∨ 123 + 36 * k + 36 ≤ q → g1 q = g q) ∧ off w w1 (mo + 1) (mo + 2)) := by
  have hDl := hD.2.2
  refine Ctr.of rfl (Nat.le_of_ble_eq_true rfl) fun S hS => ?_
  have hb : S.1.1 = cX9_quotes := by rw [hS]; rfl
  have ho : S.1.2.1 = RX9 := by rw [hS]; rfl
  have hnL : S.1.2.2.1 = 4 := by rw [hS]; rfl
  have hR0 : S.2.1 = rm_X9_quotes := by rw [hS]; rfl
  show Wp S 0 [(0, .ref mo), (1, .int (iI (((k : Nat) : Int))))] [] w n 0 0
  refine r_aload_n hb 1 dX9_quotes_0 rfl 0 rfl ?_
  refine r_get hb ho 4 dX9_quotes_1 rfl lk_X9_7 pf_X9_0 mc rfl ?_
  refine r_iload_n hb 5 dX9_quotes_4 rfl 1 rfl ?_
  refine r_iconst hb 6 dX9_quotes_5 rfl ?_
  refine r_callSR (st := [.ref (mo + 1)]) hb ho 9 dX9_quotes_6 rfl ck_X9_48 (c_X9_at (((k : Nat) : Int)) 2 (36 * ((k : Nat) : Int) + 125) (by omega)) rfl rfl (by rw [hR0]; exact ⟨Nat.le_of_ble_eq_true rfl, Nat.le_of_ble_eq_true rfl⟩) (Nat.le_of_ble_eq_true rfl) ⟨rfl, rfl⟩ (by rw [hR0]; exact Nat.zero_le _) (by rw [hR0]; exact Nat.zero_le _) ?_
  refine r_iald hb 10 dX9_quotes_9 rfl vc (123 + 36 * k + 2) (by omega) (⟨by omega, by omega⟩) ?_
  refine r_topz (((b : Nat) : Int)) (hb2) ?_
  refine r_istore_n [(2, .int (iI (((b : Nat) : Int)))), (0, .ref mo), (1, .int (iI (((k : Nat) : Int))))] hb 11 4 dX9_quotes_10 rfl rfl hnL (by decide) rfl ?_
  refine r_aload_n hb 12 dX9_quotes_11 rfl 1 rfl ?_
  refine r_get hb ho 15 dX9_quotes_12 rfl lk_X9_7 pf_X9_0 mc rfl ?_
  refine r_iload_n hb 16 dX9_quotes_15 rfl 2 rfl ?_
  refine r_iconst hb 17 dX9_quotes_16 rfl ?_
  refine r_callSR (st := [.ref (mo + 1)]) hb ho 20 dX9_quotes_17 rfl ck_X9_48 (c_X9_at (((k : Nat) : Int)) 3 (36 * ((k : Nat) : Int) + 126) (by omega)) rfl rfl (by rw [hR0]; exact ⟨Nat.le_of_ble_eq_true rfl, Nat.le_of_ble_eq_true rfl⟩) (Nat.le_of_ble_eq_true rfl) ⟨rfl, rfl⟩ (by rw [hR0]; exact Nat.zero_le _) (by rw [hR0]; exact Nat.zero_le _) ?_
  refine r_iald hb 21 dX9_quotes_20 rfl vc (123 + 36 * k + 3) (by omega) (⟨by omega, by omega⟩) ?_
  refine r_topz (((e : Nat) : Int)) (hb3) ?_
  refine r_istore_n [(3, .int (iI (((e : Nat) : Int)))), (2, .int (iI (((b : Nat) : Int)))), (0, .ref mo), (1, .int (iI (((k : Nat) : Int))))] hb 22 4 dX9_quotes_21 rfl rfl hnL (by decide) rfl ?_
  refine r_aload_n hb 23 dX9_quotes_22 rfl 2 rfl ?_
  refine r_iload_n hb 24 dX9_quotes_23 rfl 3 rfl ?_
  refine r_iconst hb 25 dX9_quotes_24 rfl ?_
  refine r_iload_n hb 26 dX9_quotes_25 rfl 1 rfl ?_
  refine r_bipush 6 hb 28 dX9_quotes_26 rfl rfl ?_
  refine r_icmp_ge hb 31 35 dX9_quotes_28 rfl (by decide) (by omega) (by omega) (fun c28 => ?_) (fun c28 => ?_)
  · refine r_iload_n hb 36 dX9_quotes_35 rfl 1 rfl ?_
    refine r_bipush 6 hb 38 dX9_quotes_36 rfl rfl ?_
    refine r_isubZ hb 39 (((b : Nat) : Int) - 6) dX9_quotes_38 rfl (by omega) ?_
    refine r_iload_n hb 40 dX9_quotes_39 rfl 1 rfl ?_
    refine r_stk [.int (iI (((b : Nat) : Int))), .int (iI ((((b - 6 : Nat) : Nat) : Int))), .int (iI 5), .int (iI (((k : Nat) : Int))), .ref mo] (congrArg (fun zz : Int => ([.int (iI (((b : Nat) : Int))), .int (iI zz), .int (iI 5), .int (iI (((k : Nat) : Int))), .ref mo] : List Value)) (show (((b : Nat) : Int) - 6) = ((((b - 6 : Nat) : Nat) : Int)) from by omega)) ?_
    refine r_callV0 (st := []) hb ho 43 dX9_quotes_40 rfl ck_X9_84 (c_X9_quotesPart mo rg g D k 5 (b - 6) b mc vc hD (by omega)) rfl rfl (mc) rfl rfl (by rw [hR0]; exact ⟨Nat.le_of_ble_eq_true rfl, Nat.le_of_ble_eq_true rfl⟩) (Nat.le_of_ble_eq_true rfl) ⟨rfl, rfl⟩ (by rw [hR0]; exact Nat.zero_le _) (by rw [hR0]; exact Nat.zero_le _) (fun w_40 nw_40 qw_40 => ?_)
    obtain ⟨rfl, ⟨g1, vc, t1, e1⟩, ow_40⟩ := qw_40
    have mc : w_40 mo = some (eO 9 [.ref (mo + 1), .ref (mo + 2), .ref (mo + 3), .int (iI ((rg 3))), .ref (mo + 4), .ref (mo + 5), .int (iI ((rg 6))), .ref (mo + 6), .int (iI ((rg 8))), .ref (mo + 7), .int (iI ((rg 10))), .int (iI ((rg 11))), .int (iI ((rg 12))), .int (iI ((rg 13))), .int (iI ((rg 14))), .ref (mo + 8), .int (iI ((rg 16))), .ref (mo + 9), .ref (mo + 10), .ref (mo + 11)]) := (ow_40 _ (by omega)).trans mc
    have hD1 : vdp g1 D := hD.congr (fun q hq => e1 q (by omega))
    refine r_aload_n hb 44 dX9_quotes_43 rfl 2 rfl ?_
    refine r_iload_n hb 45 dX9_quotes_44 rfl 3 rfl ?_
    refine r_bipush 12 hb 47 dX9_quotes_45 rfl rfl ?_
    refine r_iload_n hb 48 dX9_quotes_47 rfl 1 rfl ?_
    refine r_iload_n hb 49 dX9_quotes_48 rfl 0 rfl ?_
    refine r_callV0 (st := []) hb ho 52 dX9_quotes_49 rfl ck_X9_84 (c_X9_quotesPart mo rg g1 D k 12 b e mc vc hD1 (by omega)) rfl rfl (mc) rfl rfl (by rw [hR0]; exact ⟨Nat.le_of_ble_eq_true rfl, Nat.le_of_ble_eq_true rfl⟩) (Nat.le_of_ble_eq_true rfl) ⟨rfl, rfl⟩ (by rw [hR0]; exact Nat.zero_le _) (by rw [hR0]; exact Nat.zero_le _) (fun w_49 nw_49 qw_49 => ?_)
    obtain ⟨rfl, ⟨g2, vc, t2, e2⟩, ow_49⟩ := qw_49
    have mc : w_49 mo = some (eO 9 [.ref (mo + 1), .ref (mo + 2), .ref (mo + 3), .int (iI ((rg 3))), .ref (mo + 4), .ref (mo + 5), .int (iI ((rg 6))), .ref (mo + 6), .int (iI ((rg 8))), .ref (mo + 7), .int (iI ((rg 10))), .int (iI ((rg 11))), .int (iI ((rg 12))), .int (iI ((rg 13))), .int (iI ((rg 14))), .ref (mo + 8), .int (iI ((rg 16))), .ref (mo + 9), .ref (mo + 10), .ref (mo + 11)]) := (ow_49 _ (by omega)).trans mc
    have hD2 : vdp g2 D := hD1.congr (fun q hq => e2 q (by omega))
    refine r_aload_n hb 53 dX9_quotes_52 rfl 2 rfl ?_
    refine r_iload_n hb 54 dX9_quotes_53 rfl 3 rfl ?_
    refine r_bipush 29 hb 56 dX9_quotes_54 rfl rfl ?_
    refine r_iload_n hb 57 dX9_quotes_56 rfl 0 rfl ?_
    refine r_aload_n hb 58 dX9_quotes_57 rfl 2 rfl ?_
    refine r_get hb ho 61 dX9_quotes_58 rfl lk_X9_7 pf_X9_0 mc rfl ?_
    refine r_iconst hb 62 dX9_quotes_61 rfl ?_
    refine r_iald hb 63 dX9_quotes_62 rfl vc 0 (by omega) (⟨by omega, by omega⟩) ?_
    refine r_topz ((((D).length : Nat) : Int)) (hD2.1) ?_
    refine r_iload_n hb 64 dX9_quotes_63 rfl 0 rfl ?_
    refine r_bipush 6 hb 66 dX9_quotes_64 rfl rfl ?_
    refine r_iaddZ hb 67 (((e : Nat) : Int) + 6) dX9_quotes_66 rfl (by omega) ?_
    refine r_callSR (st := [.int (iI (((e : Nat) : Int))), .int (iI 29), .int (iI (((k : Nat) : Int))), .ref mo]) hb ho 70 dX9_quotes_67 rfl ck_X9_69 (c_X9_least ((((D).length : Nat) : Int)) (((e : Nat) : Int) + 6) (((min D.length (e + 6) : Nat) : Int)) (by omega)) rfl rfl (by rw [hR0]; exact ⟨Nat.le_of_ble_eq_true rfl, Nat.le_of_ble_eq_true rfl⟩) (Nat.le_of_ble_eq_true rfl) ⟨rfl, rfl⟩ (by rw [hR0]; exact Nat.zero_le _) (by rw [hR0]; exact Nat.zero_le _) ?_
    refine r_callV0 (st := []) hb ho 73 dX9_quotes_70 rfl ck_X9_84 (c_X9_quotesPart mo rg g2 D k 29 e (min D.length (e + 6)) mc vc hD2 (by omega)) rfl rfl (mc) rfl rfl (by rw [hR0]; exact ⟨Nat.le_of_ble_eq_true rfl, Nat.le_of_ble_eq_true rfl⟩) (Nat.le_of_ble_eq_true rfl) ⟨rfl, rfl⟩ (by rw [hR0]; exact Nat.zero_le _) (by rw [hR0]; exact Nat.zero_le _) (fun w_70 nw_70 qw_70 => ?_)
    obtain ⟨rfl, ⟨g3, vc, t3, e3⟩, ow_70⟩ := qw_70
    have mc : w_70 mo = some (eO 9 [.ref (mo + 1), .ref (mo + 2), .ref (mo + 3), .int (iI ((rg 3))), .ref (mo + 4), .ref (mo + 5), .int (iI ((rg 6))), .ref (mo + 6), .int (iI ((rg 8))), .ref (mo + 7), .int (iI ((rg 10))), .int (iI ((rg 11))), .int (iI ((rg 12))), .int (iI ((rg 13))), .int (iI ((rg 14))), .ref (mo + 8), .int (iI ((rg 16))), .ref (mo + 9), .ref (mo + 10), .ref (mo + 11)]) := (ow_70 _ (by omega)).trans mc
    have hD3 : vdp g3 D := hD2.congr (fun q hq => e3 q (by omega))
    refine r_vret hS dX9_quotes_73 rfl (Nat.zero_le _) (Nat.zero_le _) ?_
    have ea : slice D e (min D.length (e + 6)) = slice D e (e + 6) := by
      by_cases h : e + 6 ≤ D.length
      · rw [show min D.length (e + 6) = e + 6 by omega]
      · exact slice_more D (by omega) (by omega)
    rw [ea] at t3
    have L1 := slice_len D (b - 6) b
    have L2 := slice_len D b e
    refine ⟨rfl, rfl, ⟨g3, vc, ⟨?_, ?_, t3⟩, ?_⟩, (((ow_40.mono (by omega) (by omega)).trans (ow_49.mono (by omega) (by omega))).trans (ow_70.mono (by omega) (by omega)))⟩
    · exact t1.congr (m := 6) (by omega) (fun i hi hi2 => by rw [e3 _ (by omega), e2 _ (by omega)])
    · exact t2.congr (m := 16) (by omega) (fun i hi hi2 => by rw [e3 _ (by omega)])
    · intro q hq
      rw [e3 _ (by omega), e2 _ (by omega), e1 _ (by omega)]
  · refine r_iconst hb 32 dX9_quotes_31 rfl ?_
    refine r_goto hb 39 dX9_quotes_32 (by decide) ?_
    refine r_iload_n hb 40 dX9_quotes_39 rfl 1 rfl ?_
    refine r_stk [.int (iI (((b : Nat) : Int))), .int (iI ((((b - 6 : Nat) : Nat) : Int))), .int (iI 5), .int (iI (((k : Nat) : Int))), .ref mo] (congrArg (fun zz : Int => ([.int (iI (((b : Nat) : Int))), .int (iI zz), .int (iI 5), .int (iI (((k : Nat) : Int))), .ref mo] : List Value)) (show 0 = ((((b - 6 : Nat) : Nat) : Int)) from by omega)) ?_
    refine r_callV0 (st := []) hb ho 43 dX9_quotes_40 rfl ck_X9_84 (c_X9_quotesPart mo rg g D k 5 (b - 6) b mc vc hD (by omega)) rfl rfl (mc) rfl rfl (by rw [hR0]; exact ⟨Nat.le_of_ble_eq_true rfl, Nat.le_of_ble_eq_true rfl⟩) (Nat.le_of_ble_eq_true rfl) ⟨rfl, rfl⟩ (by rw [hR0]; exact Nat.zero_le _) (by rw [hR0]; exact Nat.zero_le _) (fun w_40 nw_40 qw_40 => ?_)
    obtain ⟨rfl, ⟨g1, vc, t1, e1⟩, ow_40⟩ := qw_40
    have mc : w_40 mo = some (eO 9 [.ref (mo + 1), .ref (mo + 2), .ref (mo + 3), .int (iI ((rg 3))), .ref (mo + 4), .ref (mo + 5), .int (iI ((rg 6))), .ref (mo + 6), .int (iI ((rg 8))), .ref (mo + 7), .int (iI ((rg 10))), .int (iI ((rg 11))), .int (iI ((rg 12))), .int (iI ((rg 13))), .int (iI ((rg 14))), .ref (mo + 8), .int (iI ((rg 16))), .ref (mo + 9), .ref (mo + 10), .ref (mo + 11)]) := (ow_40 _ (by omega)).trans mc
    have hD1 : vdp g1 D := hD.congr (fun q hq => e1 q (by omega))
    refine r_aload_n hb 44 dX9_quotes_43 rfl 2 rfl ?_
    refine r_iload_n hb 45 dX9_quotes_44 rfl 3 rfl ?_
    refine r_bipush 12 hb 47 dX9_quotes_45 rfl rfl ?_
    refine r_iload_n hb 48 dX9_quotes_47 rfl 1 rfl ?_
    refine r_iload_n hb 49 dX9_quotes_48 rfl 0 rfl ?_
    refine r_callV0 (st := []) hb ho 52 dX9_quotes_49 rfl ck_X9_84 (c_X9_quotesPart mo rg g1 D k 12 b e mc vc hD1 (by omega)) rfl rfl (mc) rfl rfl (by rw [hR0]; exact ⟨Nat.le_of_ble_eq_true rfl, Nat.le_of_ble_eq_true rfl⟩) (Nat.le_of_ble_eq_true rfl) ⟨rfl, rfl⟩ (by rw [hR0]; exact Nat.zero_le _) (by rw [hR0]; exact Nat.zero_le _) (fun w_49 nw_49 qw_49 => ?_)
    obtain ⟨rfl, ⟨g2, vc, t2, e2⟩, ow_49⟩ := qw_49
    have mc : w_49 mo = some (eO 9 [.ref (mo + 1), .ref (mo + 2), .ref (mo + 3), .int (iI ((rg 3))), .ref (mo + 4), .ref (mo + 5), .int (iI ((rg 6))), .ref (mo + 6), .int (iI ((rg 8))), .ref (mo + 7), .int (iI ((rg 10))), .int (iI ((rg 11))), .int (iI ((rg 12))), .int (iI ((rg 13))), .int (iI ((rg 14))), .ref (mo + 8), .int (iI ((rg 16))), .ref (mo + 9), .ref (mo + 10), .ref (mo + 11)]) := (ow_49 _ (by omega)).trans mc
    have hD2 : vdp g2 D := hD1.congr (fun q hq => e2 q (by omega))
    refine r_aload_n hb 53 dX9_quotes_52 rfl 2 rfl ?_
    refine r_iload_n hb 54 dX9_quotes_53 rfl 3 rfl ?_
    refine r_bipush 29 hb 56 dX9_quotes_54 rfl rfl ?_
    refine r_iload_n hb 57 dX9_quotes_56 rfl 0 rfl ?_
    refine r_aload_n hb 58 dX9_quotes_57 rfl 2 rfl ?_
    refine r_get hb ho 61 dX9_quotes_58 rfl lk_X9_7 pf_X9_0 mc rfl ?_
    refine r_iconst hb 62 dX9_quotes_61 rfl ?_
    refine r_iald hb 63 dX9_quotes_62 rfl vc 0 (by omega) (⟨by omega, by omega⟩) ?_
    refine r_topz ((((D).length : Nat) : Int)) (hD2.1) ?_
    refine r_iload_n hb 64 dX9_quotes_63 rfl 0 rfl ?_
    refine r_bipush 6 hb 66 dX9_quotes_64 rfl rfl ?_
    refine r_iaddZ hb 67 (((e : Nat) : Int) + 6) dX9_quotes_66 rfl (by omega) ?_
    refine r_callSR (st := [.int (iI (((e : Nat) : Int))), .int (iI 29), .int (iI (((k : Nat) : Int))), .ref mo]) hb ho 70 dX9_quotes_67 rfl ck_X9_69 (c_X9_least ((((D).length : Nat) : Int)) (((e : Nat) : Int) + 6) (((min D.length (e + 6) : Nat) : Int)) (by omega)) rfl rfl (by rw [hR0]; exact ⟨Nat.le_of_ble_eq_true rfl, Nat.le_of_ble_eq_true rfl⟩) (Nat.le_of_ble_eq_true rfl) ⟨rfl, rfl⟩ (by rw [hR0]; exact Nat.zero_le _) (by rw [hR0]; exact Nat.zero_le _) ?_
    refine r_callV0 (st := []) hb ho 73 dX9_quotes_70 rfl ck_X9_84 (c_X9_quotesPart mo rg g2 D k 29 e (min D.length (e + 6)) mc vc hD2 (by omega)) rfl rfl (mc) rfl rfl (by rw [hR0]; exact ⟨Nat.le_of_ble_eq_true rfl, Nat.le_of_ble_eq_true rfl⟩) (Nat.le_of_ble_eq_true rfl) ⟨rfl, rfl⟩ (by rw [hR0]; exact Nat.zero_le _) (by rw [hR0]; exact Nat.zero_le _) (fun w_70 nw_70 qw_70 => ?_)
    obtain ⟨rfl, ⟨g3, vc, t3, e3⟩, ow_70⟩ := qw_70
    have mc : w_70 mo = some (eO 9 [.ref (mo + 1), .ref (mo + 2), .ref (mo + 3), .int (iI ((rg 3))), .ref (mo + 4), .ref (mo + 5), .int (iI ((rg 6))), .ref (mo + 6), .int (iI ((rg 8))), .ref (mo + 7), .int (iI ((rg 10))), .int (iI ((rg 11))), .int (iI ((rg 12))), .int (iI ((rg 13))), .int (iI ((rg 14))), .ref (mo + 8), .int (iI ((rg 16))), .ref (mo + 9), .ref (mo + 10), .ref (mo + 11)]) := (ow_70 _ (by omega)).trans mc
    have hD3 : vdp g3 D := hD2.congr (fun q hq => e3 q (by omega))
    refine r_vret hS dX9_quotes_73 rfl (Nat.zero_le _) (Nat.zero_le _) ?_
    have ea : slice D e (min D.length (e + 6)) = slice D e (e + 6) := by
      by_cases h : e + 6 ≤ D.length
      · rw [show min D.length (e + 6) = e + 6 by omega]
      · exact slice_more D (by omega) (by omega)
    rw [ea] at t3
    have L1 := slice_len D (b - 6) b
    have L2 := slice_len D b e
    refine ⟨rfl, rfl, ⟨g3, vc, ⟨?_, ?_, t3⟩, ?_⟩, (((ow_40.mono (by omega) (by omega)).trans (ow_49.mono (by omega) (by omega))).trans (ow_70.mono (by omega) (by omega)))⟩
    · exact t1.congr (m := 6) (by omega) (fun i hi hi2 => by rw [e3 _ (by omega), e2 _ (by omega)])
    · exact t2.congr (m := 16) (by omega) (fun i hi hi2 => by rw [e3 _ (by omega)])
    · intro q hq
      rw [e3 _ (by omega), e2 _ (by omega), e1 _ (by omega)]

abbrev rm_X9_removes : Room := { frames := 1, cells := 0, slots := 0, locals := 21 }
set_option maxHeartbeats 4000000 in
set_option maxRecDepth 100000 in
theorem c_X9_removes (mo : Nat) (rg : Nat → Int) (g : Nat → Int32) (l : List Nt) (nx i : Nat) {w : PW} {n : Nat} (mc : w mo = some (mE mo rg)) (vc : w (mo + 1) = some (eI 483 g)) (hP : vnp g l nx) (hi : i < l.length) : Ct0 yX9_removes cX9_removes 3 none rm_X9_removes [.ref mo, .int (iI (((i : Nat) : Int)))] w n (fun w1 n1 => n = n1 ∧ (∃ g1, w1 (mo + 1) = some (eI 483 g1) ∧ vnp g1 (l.eraseIdx i) nx ∧ ∀ q, q < 121 → g1 q = g q) ∧ off w w1 (mo + 1) (mo + 2)) := by
  have hPl := hP.2.2.1
  refine Ctr.of rfl (Nat.le_of_ble_eq_true rfl) fun S hS => ?_
  have hb : S.1.1 = cX9_removes := by rw [hS]; rfl
  have ho : S.1.2.1 = RX9 := by rw [hS]; rfl
  have hnL : S.1.2.2.1 = 3 := by rw [hS]; rfl
  have hR0 : S.2.1 = rm_X9_removes := by rw [hS]; rfl
  show Wp S 0 [(0, .ref mo), (1, .int (iI (((i : Nat) : Int))))] [] w n 0 0
  refine r_aload_n hb 1 dX9_removes_0 rfl 0 rfl ?_
  refine r_get hb ho 4 dX9_removes_1 rfl lk_X9_7 pf_X9_0 mc rfl ?_
  refine r_bipush 122 hb 6 dX9_removes_4 rfl rfl ?_
  refine r_dup2 hb 7 dX9_removes_6 rfl rfl rfl ?_
  refine r_iald hb 8 dX9_removes_7 rfl vc 122 (by omega) (⟨by omega, by omega⟩) ?_
  refine r_topz ((((l).length : Nat) : Int)) (hP.2.1) ?_
  refine r_iconst hb 9 dX9_removes_8 rfl ?_
  refine r_isubZ hb 10 ((((l).length : Nat) : Int) - 1) dX9_removes_9 rfl (by omega) ?_
  refine r_iast hb 11 dX9_removes_10 rfl vc 122 (by omega) (⟨by omega, by omega⟩) (fun w_10 hw_10 => ?_)
  have ow_10 := pset_off hw_10
  have xw_10 : w_10 (mo + 1) = some (eI 483 (upd g 122 ((iI ((((l).length : Nat) : Int) - 1))))) := by rw [hw_10]; exact pset_eq _ _ _
  have mc : w_10 mo = some (eO 9 [.ref (mo + 1), .ref (mo + 2), .ref (mo + 3), .int (iI ((rg 3))), .ref (mo + 4), .ref (mo + 5), .int (iI ((rg 6))), .ref (mo + 6), .int (iI ((rg 8))), .ref (mo + 7), .int (iI ((rg 10))), .int (iI ((rg 11))), .int (iI ((rg 12))), .int (iI ((rg 13))), .int (iI ((rg 14))), .ref (mo + 8), .int (iI ((rg 16))), .ref (mo + 9), .ref (mo + 10), .ref (mo + 11)]) := (ow_10 _ (by omega)).trans mc
  refine r_iload_n hb 12 dX9_removes_11 rfl 1 rfl ?_
  refine r_iconst hb 13 dX9_removes_12 rfl ?_
  refine r_callSR (st := []) hb ho 16 dX9_removes_13 rfl ck_X9_48 (c_X9_at (((i : Nat) : Int)) 0 (36 * ((i : Nat) : Int) + 123) (by omega)) rfl rfl (by rw [hR0]; exact ⟨Nat.le_of_ble_eq_true rfl, Nat.le_of_ble_eq_true rfl⟩) (Nat.le_of_ble_eq_true rfl) ⟨rfl, rfl⟩ (by rw [hR0]; exact Nat.zero_le _) (by rw [hR0]; exact Nat.zero_le _) ?_
  refine r_topv (.int (iI (((123 + 36 * i : Nat) : Int)))) (congrArg (fun z => Value.int (iI z)) (by omega)) ?_
  refine r_istore_n [(2, .int (iI (((123 + 36 * i : Nat) : Int)))), (0, .ref mo), (1, .int (iI (((i : Nat) : Int))))] hb 17 3 dX9_removes_16 rfl rfl hnL (by decide) rfl ?_
  have lp : ∀ (d : Nat) (j : Nat) (wi : PW) (gi : Nat → Int32), 483 - j = d → (123 + 36 * i ≤ j ∧ j ≤ 123 + 36 * (l.length - 1)) → (wi mo = some (mE mo rg)) → (wi (mo + 1) = some (eI 483 gi)) → (gi 122 = iI ((l.length - 1 : Nat) : Int)) → (∀ q, 123 + 36 * i ≤ q → q < j → gi q = g (q + 36)) → (∀ q, (q < 123 + 36 * i ∨ j ≤ q) → q ≠ 122 → gi q = g q) → (off w wi (mo + 1) (mo + 2)) → Wp S 17 [(2, .int (iI (((j : Nat) : Int)))), (0, .ref mo), (1, .int (iI (((i : Nat) : Int))))] [] wi n 0 0 := by
    intro d
    induction d using Nat.strongRecOn with
    | _ d ih_lp =>
      intro j wi gi hd_lp hj mc vc q0 q1 q2 hO
      refine r_iload_n hb 18 dX9_removes_17 rfl 0 rfl ?_
      refine r_aload_n hb 19 dX9_removes_18 rfl 1 rfl ?_
      refine r_get hb ho 22 dX9_removes_19 rfl lk_X9_7 pf_X9_0 mc rfl ?_
      refine r_bipush 122 hb 24 dX9_removes_22 rfl rfl ?_
      refine r_iald hb 25 dX9_removes_24 rfl vc 122 (by omega) (⟨by omega, by omega⟩) ?_
      refine r_topz ((((l.length - 1 : Nat) : Nat) : Int)) (q0) ?_
      refine r_iconst hb 26 dX9_removes_25 rfl ?_
      refine r_callSR (st := [.int (iI (((j : Nat) : Int)))]) hb ho 29 dX9_removes_26 rfl ck_X9_48 (c_X9_at ((((l.length - 1 : Nat) : Nat) : Int)) 0 (36 * (((l.length - 1 : Nat) : Nat) : Int) + 123) (by omega)) rfl rfl (by rw [hR0]; exact ⟨Nat.le_of_ble_eq_true rfl, Nat.le_of_ble_eq_true rfl⟩) (Nat.le_of_ble_eq_true rfl) ⟨rfl, rfl⟩ (by rw [hR0]; exact Nat.zero_le _) (by rw [hR0]; exact Nat.zero_le _) ?_
      refine r_icmp_ge hb 32 53 dX9_removes_29 rfl (by decide) (by omega) (by omega) (fun c29 => ?_) (fun c29 => ?_)
      · refine r_vret hS dX9_removes_53 rfl (Nat.zero_le _) (Nat.zero_le _) ?_
        have el : (l.eraseIdx i).length = l.length - 1 := by rw [List.length_eraseIdx, if_pos hi]
        refine ⟨rfl, rfl, ⟨gi, vc, ⟨(q2 _ (by omega) (by omega)).trans hP.1, by rw [el]; exact q0, by omega, hP.2.2.2.1, fun m hm => ?_⟩, fun q hq => q2 q (by omega) (by omega)⟩, hO⟩
        rw [el] at hm
        rw [lg_erase]
        by_cases h : m < i
        · rw [if_pos h]; exact (hP.2.2.2.2 m (by omega)).congr (fun q h1 h2 => q2 q (by omega) (by omega))
        · rw [if_neg h]
          have hv := hP.2.2.2.2 (m + 1) (by omega)
          have hv2 : vnt (fun q => g (q + 36)) (123 + 36 * m) (lg l (m + 1)) := by
            obtain ⟨n0, n1, n2, n3, n4, n5, n6, n7, n8⟩ := hv
            have sh : ∀ q, g (123 + 36 * (m + 1) + q) = g (123 + 36 * m + q + 36) := fun q => by rw [show 123 + 36 * (m + 1) + q = 123 + 36 * m + q + 36 by omega]
            have tx : ∀ o L, vtx g (123 + 36 * (m + 1) + o) L → vtx (fun q => g (q + 36)) (123 + 36 * m + o) L := fun o L h => ⟨(sh o).symm.trans h.1, fun q hq => (by have e := h.2 q hq; rw [show 123 + 36 * (m + 1) + o + 1 + q = 123 + 36 * m + o + 1 + q + 36 by omega] at e; exact e)⟩
            exact ⟨(sh 0).symm.trans n0, (sh 1).symm.trans n1, (sh 2).symm.trans n2, (sh 3).symm.trans n3, (sh 4).symm.trans n4, tx 5 _ n5, tx 12 _ n6, tx 29 _ n7, n8⟩
          exact hv2.congr (fun q h1 h2 => q1 q (by omega) (by omega))
      · refine r_aload_n hb 33 dX9_removes_32 rfl 1 rfl ?_
        refine r_get hb ho 36 dX9_removes_33 rfl lk_X9_7 pf_X9_0 mc rfl ?_
        refine r_iload_n hb 37 dX9_removes_36 rfl 0 rfl ?_
        refine r_aload_n hb 38 dX9_removes_37 rfl 1 rfl ?_
        refine r_get hb ho 41 dX9_removes_38 rfl lk_X9_7 pf_X9_0 mc rfl ?_
        refine r_iload_n hb 42 dX9_removes_41 rfl 0 rfl ?_
        refine r_bipush 36 hb 44 dX9_removes_42 rfl rfl ?_
        refine r_iaddZ hb 45 (((j : Nat) : Int) + 36) dX9_removes_44 rfl (by omega) ?_
        refine r_iald hb 46 dX9_removes_45 rfl vc (j + 36) (by omega) (⟨by omega, by omega⟩) ?_
        refine r_iast hb 47 dX9_removes_46 rfl vc j (by omega) (⟨by omega, by omega⟩) (fun w_46 hw_46 => ?_)
        have ow_46 := pset_off hw_46
        have xw_46 : w_46 (mo + 1) = some (eI 483 (upd gi j ((gi (j + 36))))) := by rw [hw_46]; exact pset_eq _ _ _
        have mc : w_46 mo = some (eO 9 [.ref (mo + 1), .ref (mo + 2), .ref (mo + 3), .int (iI ((rg 3))), .ref (mo + 4), .ref (mo + 5), .int (iI ((rg 6))), .ref (mo + 6), .int (iI ((rg 8))), .ref (mo + 7), .int (iI ((rg 10))), .int (iI ((rg 11))), .int (iI ((rg 12))), .int (iI ((rg 13))), .int (iI ((rg 14))), .ref (mo + 8), .int (iI ((rg 16))), .ref (mo + 9), .ref (mo + 10), .ref (mo + 11)]) := (ow_46 _ (by omega)).trans mc
        refine r_iinc [(2, .int (iI (((j : Nat) : Int) + 1))), (0, .ref mo), (1, .int (iI (((i : Nat) : Int))))] hb 50 3 0 dX9_removes_47 rfl rfl hnL (by decide) (((j : Nat) : Int) + 1) (by omega) rfl ?_
        refine r_goto hb 17 dX9_removes_50 (by decide) ?_
        refine r_lv [(2, .int (iI (((j + 1 : Nat) : Int)))), (0, .ref mo), (1, .int (iI (((i : Nat) : Int))))] [0, 1, 2] rfl ?_
        refine ih_lp (483 - (j + 1)) (by omega) (j + 1) _ _ rfl (by omega) mc xw_46 ?_ ?_ ?_ (hO.trans (ow_46.mono (by omega) (by omega)))
        · exact (pk_un (by omega)).trans q0
        · intro q hq hq2
          by_cases e1 : q = j
          · subst e1; rw [pk_us]; exact q2 _ (by omega) (by omega)
          · exact (pk_un (by omega)).trans (q1 q hq (by omega))
        · intro q hq hq2
          exact (pk_un (by omega)).trans (q2 q (by omega) hq2)
  refine r_lv [(2, .int (iI (((123 + 36 * i : Nat) : Int)))), (0, .ref mo), (1, .int (iI (((i : Nat) : Int))))] [0, 1, 2] rfl ?_
  refine lp _ (123 + 36 * i) _ _ rfl (by omega) mc xw_10 (by rw [pk_us]; exact congrArg iI (by omega)) (fun q h h2 => absurd h2 (by omega)) (fun q hq hq2 => pk_un (by omega)) (ow_10.mono (by omega) (by omega))
