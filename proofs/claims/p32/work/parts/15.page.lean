def ixZ (l : List Nt) (z : Int) : Int := if ixN l z < l.length then ((ixN l z : Nat) : Int) else -1
abbrev rm_X4_indexOf : Room := { frames := 0, cells := 0, slots := 0, locals := 0 }
set_option maxHeartbeats 4000000 in
set_option maxRecDepth 100000 in
theorem c_X4_indexOf (g nx : Nat) (D : List Int32) (l : List Nt) (z : Int) {w : PW} {n : Nat} (hP : pg w g D l nx) (hz : -2147483648 ≤ z ∧ z < 2147483648) : CtR yX4_indexOf cX4_indexOf 3 (some .int) rm_X4_indexOf [.ref g, .int (iI (z))] w n (.int (iI ((ixZ l z)))) := by
  obtain ⟨h, pa, xs, hG, hx⟩ := id hP
  obtain ⟨gc, gT, gcl, gnx, ⟨ga, gh⟩, ⟨gs1, gs2⟩, gN⟩ := id hG
  have gd := gT.1
  have gdl := gT.2.1
  refine Ctr.of rfl (Nat.le_of_ble_eq_true rfl) fun S hS => ?_
  have hb : S.1.1 = cX4_indexOf := by rw [hS]; rfl
  have ho : S.1.2.1 = RX4 := by rw [hS]; rfl
  have hnL : S.1.2.2.1 = 3 := by rw [hS]; rfl
  have hR0 : S.2.1 = rm_X4_indexOf := by rw [hS]; rfl
  show Wp S 0 [(0, .ref g), (1, .int (iI (z)))] [] w n 0 0
  refine r_iconst hb 1 dX4_indexOf_0 rfl ?_
  refine r_istore_n [(2, .int (iI 0)), (0, .ref g), (1, .int (iI (z)))] hb 2 3 dX4_indexOf_1 rfl rfl hnL (by decide) rfl ?_
  have lp : ∀ (d : Nat) (i : Nat), l.length - i = d → (i ≤ l.length) → (runL (fun i => !decide (((nNum (lg l i) : Nat) : Int) = z)) (l.length - i) i = ixN l z) → Wp S 2 [(2, .int (iI (((i : Nat) : Int)))), (0, .ref g), (1, .int (iI (z)))] [] w n 0 0 := by
    intro d
    induction d using Nat.strongRecOn with
    | _ d ih_lp =>
      intro i hd_lp hi hr
      refine r_iload_n hb 3 dX4_indexOf_2 rfl 0 rfl ?_
      refine r_aload_n hb 4 dX4_indexOf_3 rfl 1 rfl ?_
      refine r_get hb ho 7 dX4_indexOf_4 rfl lk_X4_31 pf_X4_2 gc rfl ?_
      refine r_icmp_ge hb 10 40 dX4_indexOf_7 rfl (by decide) (by omega) (by omega) (fun c7 => ?_) (fun c7 => ?_)
      · refine r_iconst hb 41 dX4_indexOf_40 rfl ?_
        refine r_iret hS dX4_indexOf_41 rfl rfl (Nat.zero_le _) (Nat.zero_le _) ?_
        have e := runL_f (c := fun i => !decide (((nNum (lg l i) : Nat) : Int) = z)) (N := l.length) (a := i) (Or.inl (by omega))
        exact ⟨_, rfl, by unfold ixZ; rw [← hr, e, if_neg (by omega)], rfl, rfl⟩
      · refine r_iload_n hb 11 dX4_indexOf_10 rfl 0 rfl ?_
        refine r_aload_n hb 12 dX4_indexOf_11 rfl 1 rfl ?_
        refine r_get hb ho 15 dX4_indexOf_12 rfl lk_X4_22 pf_X4_1 gc rfl ?_
        refine r_alen hb 16 dX4_indexOf_15 rfl ga (by decide) 10 rfl ?_
        refine r_icmp_ge hb 19 40 dX4_indexOf_16 rfl (by decide) (by omega) (by omega) (fun c16 => ?_) (fun c16 => ?_)
        · exfalso; omega
        · refine r_aload_n hb 20 dX4_indexOf_19 rfl 1 rfl ?_
          refine r_get hb ho 23 dX4_indexOf_20 rfl lk_X4_22 pf_X4_1 gc rfl ?_
          refine r_iload_n hb 24 dX4_indexOf_23 rfl 0 rfl ?_
          refine r_aald hb 25 dX4_indexOf_24 rfl ga (by decide) i (by omega) (⟨by omega, by omega⟩) (pa i) (gh i (by omega)) ?_
          have n0 := (gN i (by omega)).1
          have hsn0 := gs1 i (by omega)
          have hqn0 := (gN i (by omega)).2.2.2.2
          refine r_get hb ho 28 dX4_indexOf_25 rfl lk_X4_47 pf_X3_3 n0 rfl ?_
          refine r_iload_n hb 29 dX4_indexOf_28 rfl 2 rfl ?_
          refine r_icmp_ne hb 32 34 dX4_indexOf_29 rfl (by decide) (by omega) (by omega) (fun c29 => ?_) (fun c29 => ?_)
          · refine r_iinc [(2, .int (iI (((i : Nat) : Int) + 1))), (0, .ref g), (1, .int (iI (z)))] hb 37 3 0 dX4_indexOf_34 rfl rfl hnL (by decide) (((i : Nat) : Int) + 1) (by omega) rfl ?_
            refine r_goto hb 2 dX4_indexOf_37 (by decide) ?_
            rw [hx i (by omega)] at c29
            refine r_lv [(2, .int (iI (((i + 1 : Nat)) : Int))), (0, .ref g), (1, .int (iI z))] [0, 1, 2] rfl ?_
            exact ih_lp (l.length - (i + 1)) (by omega) (i + 1) rfl (by omega) (by rw [← runL_t (by omega) (by simp only [Bool.not_eq_true', decide_eq_false_iff_not]; exact c29)]; exact hr)
          · refine r_iload_n hb 33 dX4_indexOf_32 rfl 0 rfl ?_
            refine r_iret hS dX4_indexOf_33 rfl rfl (Nat.zero_le _) (Nat.zero_le _) ?_
            rw [hx i (by omega)] at c29
            have e := runL_f (c := fun i => !decide (((nNum (lg l i) : Nat) : Int) = z)) (N := l.length) (a := i) (Or.inr (by simp only [Bool.not_eq_false', decide_eq_true_eq]; exact c29))
            exact ⟨_, rfl, by unfold ixZ; rw [← hr, e, if_pos (by omega)], rfl, rfl⟩
  refine r_lv [(2, .int (iI (((0 : Nat)) : Int))), (0, .ref g), (1, .int (iI z))] [0, 1, 2] rfl ?_
  exact lp _ 0 rfl (Nat.zero_le _) rfl

abbrev rm_X4_find : Room := { frames := 1, cells := 0, slots := 0, locals := 22 }
set_option maxHeartbeats 4000000 in
set_option maxRecDepth 100000 in
theorem c_X4_find (g nx : Nat) (D : List Int32) (h : Nat → Option Nat) (pa : Nat → Nat) (xs : Nat → Nt) (l : List Nt) (z : Int) {w : PW} {n : Nat} (hG : pgo w g D h pa xs l.length nx) (hx : ∀ j, j < l.length → xs j = lg l j) (hz : -2147483648 ≤ z ∧ z < 2147483648) (hf : ixN l z < l.length) : CtR yX4_find cX4_find 3 (some (.object "AnchoredComments$Note")) rm_X4_find [.ref g, .int (iI (z))] w n (.ref (pa (ixN l z))) := by
  obtain ⟨gc, gT, gcl, gnx, ⟨ga, gh⟩, ⟨gs1, gs2⟩, gN⟩ := id hG
  have gd := gT.1
  have gdl := gT.2.1
  have hle := ixN_le l z
  refine Ctr.of rfl (Nat.le_of_ble_eq_true rfl) fun S hS => ?_
  have hb : S.1.1 = cX4_find := by rw [hS]; rfl
  have ho : S.1.2.1 = RX4 := by rw [hS]; rfl
  have hnL : S.1.2.2.1 = 3 := by rw [hS]; rfl
  have hR0 : S.2.1 = rm_X4_find := by rw [hS]; rfl
  show Wp S 0 [(0, .ref g), (1, .int (iI (z)))] [] w n 0 0
  refine r_aload_n hb 1 dX4_find_0 rfl 0 rfl ?_
  refine r_iload_n hb 2 dX4_find_1 rfl 1 rfl ?_
  refine r_callVR (st := []) hb ho 5 dX4_find_2 rfl ck_X4_50 (c_X4_indexOf g nx D l z ⟨h, pa, xs, hG, hx⟩ hz) rfl rfl (gc) rfl rfl (by rw [hR0]; exact ⟨Nat.le_of_ble_eq_true rfl, Nat.le_of_ble_eq_true rfl⟩) (Nat.le_of_ble_eq_true rfl) ⟨rfl, rfl⟩ (by rw [hR0]; exact Nat.zero_le _) (by rw [hR0]; exact Nat.zero_le _) ?_
  refine r_topv (.int (iI (((ixN l z : Nat) : Int)))) (by unfold ixZ; rw [if_pos hf]) ?_
  refine r_istore_n [(2, .int (iI (((ixN l z : Nat) : Int)))), (0, .ref g), (1, .int (iI (z)))] hb 6 3 dX4_find_5 rfl rfl hnL (by decide) rfl ?_
  refine r_iload_n hb 7 dX4_find_6 rfl 0 rfl ?_
  refine r_if_lt hb 10 28 dX4_find_7 rfl (by decide) (by omega) (fun c7 => ?_) (fun c7 => ?_)
  · exfalso; omega
  · refine r_iload_n hb 11 dX4_find_10 rfl 0 rfl ?_
    refine r_aload_n hb 12 dX4_find_11 rfl 1 rfl ?_
    refine r_get hb ho 15 dX4_find_12 rfl lk_X4_22 pf_X4_1 gc rfl ?_
    refine r_alen hb 16 dX4_find_15 rfl ga (by decide) 10 rfl ?_
    refine r_icmp_ge hb 19 28 dX4_find_16 rfl (by decide) (by omega) (by omega) (fun c16 => ?_) (fun c16 => ?_)
    · exfalso; omega
    · refine r_aload_n hb 20 dX4_find_19 rfl 1 rfl ?_
      refine r_get hb ho 23 dX4_find_20 rfl lk_X4_22 pf_X4_1 gc rfl ?_
      refine r_iload_n hb 24 dX4_find_23 rfl 0 rfl ?_
      refine r_aald hb 25 dX4_find_24 rfl ga (by decide) ((ixN l z)) (by omega) (⟨by omega, by omega⟩) (pa (ixN l z)) (gh _ (by omega)) ?_
      refine r_goto hb 29 dX4_find_25 (by decide) ?_
      refine r_aret hS dX4_find_29 rfl (Or.inr ⟨_, rfl⟩) (Nat.zero_le _) (Nat.zero_le _) ?_
      exact ⟨_, rfl, rfl, rfl, rfl⟩

set_option maxHeartbeats 4000000 in
set_option maxRecDepth 100000 in
theorem c_X4_findN (g nx : Nat) (D : List Int32) (h : Nat → Option Nat) (pa : Nat → Nat) (xs : Nat → Nt) (l : List Nt) (z : Int) {w : PW} {n : Nat} (hG : pgo w g D h pa xs l.length nx) (hx : ∀ j, j < l.length → xs j = lg l j) (hz : -2147483648 ≤ z ∧ z < 2147483648) (hf : ¬ ixN l z < l.length) : CtR yX4_find cX4_find 3 (some (.object "AnchoredComments$Note")) rm_X4_find [.ref g, .int (iI (z))] w n (.null) := by
  obtain ⟨gc, gT, gcl, gnx, ⟨ga, gh⟩, ⟨gs1, gs2⟩, gN⟩ := id hG
  have gd := gT.1
  have gdl := gT.2.1
  have hle := ixN_le l z
  refine Ctr.of rfl (Nat.le_of_ble_eq_true rfl) fun S hS => ?_
  have hb : S.1.1 = cX4_find := by rw [hS]; rfl
  have ho : S.1.2.1 = RX4 := by rw [hS]; rfl
  have hnL : S.1.2.2.1 = 3 := by rw [hS]; rfl
  have hR0 : S.2.1 = rm_X4_find := by rw [hS]; rfl
  show Wp S 0 [(0, .ref g), (1, .int (iI (z)))] [] w n 0 0
  refine r_aload_n hb 1 dX4_find_0 rfl 0 rfl ?_
  refine r_iload_n hb 2 dX4_find_1 rfl 1 rfl ?_
  refine r_callVR (st := []) hb ho 5 dX4_find_2 rfl ck_X4_50 (c_X4_indexOf g nx D l z ⟨h, pa, xs, hG, hx⟩ hz) rfl rfl (gc) rfl rfl (by rw [hR0]; exact ⟨Nat.le_of_ble_eq_true rfl, Nat.le_of_ble_eq_true rfl⟩) (Nat.le_of_ble_eq_true rfl) ⟨rfl, rfl⟩ (by rw [hR0]; exact Nat.zero_le _) (by rw [hR0]; exact Nat.zero_le _) ?_
  refine r_topv (.int (iI (-1))) (by unfold ixZ; rw [if_neg hf]) ?_
  refine r_istore_n [(2, .int (iI (-1))), (0, .ref g), (1, .int (iI (z)))] hb 6 3 dX4_find_5 rfl rfl hnL (by decide) rfl ?_
  refine r_iload_n hb 7 dX4_find_6 rfl 0 rfl ?_
  refine r_if_lt hb 10 28 dX4_find_7 rfl (by decide) (by omega) (fun c7 => ?_) (fun c7 => ?_)
  · refine r_null hb 29 dX4_find_28 rfl ?_
    refine r_aret hS dX4_find_29 rfl (Or.inl rfl) (Nat.zero_le _) (Nat.zero_le _) ?_
    exact ⟨_, rfl, rfl, rfl, rfl⟩
  · exfalso; omega

def ftZ (l : List Nt) (i : Nat) : Int := if ftN l i < i then ((ftN l i : Nat) : Int) else -1
abbrev rm_X4_firstTwin : Room := { frames := 1, cells := 0, slots := 0, locals := 21 }
set_option maxHeartbeats 4000000 in
set_option maxRecDepth 100000 in
theorem c_X4_firstTwin (g nx i : Nat) (D : List Int32) (l : List Nt) {w : PW} {n : Nat} (hP : pg w g D l nx) (hi : i < l.length) : CtR yX4_firstTwin cX4_firstTwin 3 (some .int) rm_X4_firstTwin [.ref g, .int (iI (((i : Nat) : Int)))] w n (.int (iI ((ftZ l i)))) := by
  obtain ⟨h, pa, xs, hG, hx⟩ := id hP
  obtain ⟨gc, gT, gcl, gnx, ⟨ga, gh⟩, ⟨gs1, gs2⟩, gN⟩ := id hG
  have gd := gT.1
  have gdl := gT.2.1
  refine Ctr.of rfl (Nat.le_of_ble_eq_true rfl) fun S hS => ?_
  have hb : S.1.1 = cX4_firstTwin := by rw [hS]; rfl
  have ho : S.1.2.1 = RX4 := by rw [hS]; rfl
  have hnL : S.1.2.2.1 = 3 := by rw [hS]; rfl
  have hR0 : S.2.1 = rm_X4_firstTwin := by rw [hS]; rfl
  show Wp S 0 [(0, .ref g), (1, .int (iI (((i : Nat) : Int))))] [] w n 0 0
  refine r_iload_n hb 1 dX4_firstTwin_0 rfl 1 rfl ?_
  refine r_if_lt hb 4 13 dX4_firstTwin_1 rfl (by decide) (by omega) (fun c1 => ?_) (fun c1 => ?_)
  · exfalso; omega
  · refine r_iload_n hb 5 dX4_firstTwin_4 rfl 1 rfl ?_
    refine r_aload_n hb 6 dX4_firstTwin_5 rfl 0 rfl ?_
    refine r_get hb ho 9 dX4_firstTwin_6 rfl lk_X4_22 pf_X4_1 gc rfl ?_
    refine r_alen hb 10 dX4_firstTwin_9 rfl ga (by decide) 10 rfl ?_
    refine r_icmp_lt hb 13 15 dX4_firstTwin_10 rfl (by decide) (by omega) (by omega) (fun c10 => ?_) (fun c10 => ?_)
    · refine r_iconst hb 16 dX4_firstTwin_15 rfl ?_
      refine r_istore_n [(2, .int (iI 0)), (0, .ref g), (1, .int (iI (((i : Nat) : Int))))] hb 17 3 dX4_firstTwin_16 rfl rfl hnL (by decide) rfl ?_
      have lp : ∀ (d : Nat) (j : Nat), i - j = d → (j ≤ i) → (runL (fun j => !twN (lg l j) (lg l i)) (i - j) j = ftN l i) → Wp S 17 [(2, .int (iI (((j : Nat) : Int)))), (0, .ref g), (1, .int (iI (((i : Nat) : Int))))] [] w n 0 0 := by
        intro d
        induction d using Nat.strongRecOn with
        | _ d ih_lp =>
          intro j hd_lp hj hr
          refine r_iload_n hb 18 dX4_firstTwin_17 rfl 0 rfl ?_
          refine r_iload_n hb 19 dX4_firstTwin_18 rfl 2 rfl ?_
          refine r_icmp_ge hb 22 48 dX4_firstTwin_19 rfl (by decide) (by omega) (by omega) (fun c19 => ?_) (fun c19 => ?_)
          · refine r_iconst hb 49 dX4_firstTwin_48 rfl ?_
            refine r_iret hS dX4_firstTwin_49 rfl rfl (Nat.zero_le _) (Nat.zero_le _) ?_
            have e := runL_f (c := fun j => !twN (lg l j) (lg l i)) (N := i) (a := j) (Or.inl (by omega))
            exact ⟨_, rfl, by unfold ftZ; rw [← hr, e, if_neg (by omega)], rfl, rfl⟩
          · refine r_aload_n hb 23 dX4_firstTwin_22 rfl 1 rfl ?_
            refine r_get hb ho 26 dX4_firstTwin_23 rfl lk_X4_22 pf_X4_1 gc rfl ?_
            refine r_iload_n hb 27 dX4_firstTwin_26 rfl 0 rfl ?_
            refine r_aald hb 28 dX4_firstTwin_27 rfl ga (by decide) j (by omega) (⟨by omega, by omega⟩) (pa j) (gh j (by omega)) ?_
            have n0 := (gN j (by omega)).1
            have hsn0 := gs1 j (by omega)
            have hqn0 := (gN j (by omega)).2.2.2.2
            refine r_aload_n hb 29 dX4_firstTwin_28 rfl 1 rfl ?_
            refine r_get hb ho 32 dX4_firstTwin_29 rfl lk_X4_22 pf_X4_1 gc rfl ?_
            refine r_iload_n hb 33 dX4_firstTwin_32 rfl 2 rfl ?_
            refine r_aald hb 34 dX4_firstTwin_33 rfl ga (by decide) i (by omega) (⟨by omega, by omega⟩) (pa i) (gh i (by omega)) ?_
            have n1 := (gN i (by omega)).1
            have hsn1 := gs1 i (by omega)
            have hqn1 := (gN i (by omega)).2.2.2.2
            refine r_callVR (st := []) hb ho 37 dX4_firstTwin_34 rfl ck_X4_88 (c_X3_isTwinOf (pa j) (pa i) (xs j) (xs i) (gN j (by omega)) (gN i (by omega))) rfl rfl (n0) rfl rfl (by rw [hR0]; exact ⟨Nat.le_of_ble_eq_true rfl, Nat.le_of_ble_eq_true rfl⟩) (Nat.le_of_ble_eq_true rfl) ⟨rfl, rfl⟩ (by rw [hR0]; exact Nat.zero_le _) (by rw [hR0]; exact Nat.zero_le _) ?_
            refine r_ifb_eq hb 40 42 dX4_firstTwin_37 rfl (by decide) (fun c37 => ?_) (fun c37 => ?_)
            · refine r_iinc [(2, .int (iI (((j : Nat) : Int) + 1))), (0, .ref g), (1, .int (iI (((i : Nat) : Int))))] hb 45 3 0 dX4_firstTwin_42 rfl rfl hnL (by decide) (((j : Nat) : Int) + 1) (by omega) rfl ?_
              refine r_goto hb 17 dX4_firstTwin_45 (by decide) ?_
              rw [hx j (by omega), hx i (by omega)] at c37
              refine r_lv [(2, .int (iI (((j + 1 : Nat)) : Int))), (0, .ref g), (1, .int (iI ((i : Nat) : Int)))] [0, 1, 2] rfl ?_
              exact ih_lp (i - (j + 1)) (by omega) (j + 1) rfl (by omega) (by rw [← runL_t (by omega) (by rw [c37]; rfl)]; exact hr)
            · refine r_iload_n hb 41 dX4_firstTwin_40 rfl 0 rfl ?_
              refine r_iret hS dX4_firstTwin_41 rfl rfl (Nat.zero_le _) (Nat.zero_le _) ?_
              rw [hx j (by omega), hx i (by omega)] at c37
              have e := runL_f (c := fun j => !twN (lg l j) (lg l i)) (N := i) (a := j) (Or.inr (by rw [c37]; rfl))
              exact ⟨_, rfl, by unfold ftZ; rw [← hr, e, if_pos (by omega)], rfl, rfl⟩
      refine r_lv [(2, .int (iI (((0 : Nat)) : Int))), (0, .ref g), (1, .int (iI ((i : Nat) : Int)))] [0, 1, 2] rfl ?_
      exact lp _ 0 rfl (Nat.zero_le _) rfl
    · exfalso; omega

abbrev rm_X4_hasTwins : Room := { frames := 2, cells := 0, slots := 0, locals := 43 }
set_option maxHeartbeats 4000000 in
set_option maxRecDepth 100000 in
theorem c_X4_hasTwins (g nx : Nat) (D : List Int32) (l : List Nt) {w : PW} {n : Nat} (hP : pg w g D l nx) : CtR yX4_hasTwins cX4_hasTwins 2 (some .boolean) rm_X4_hasTwins [.ref g] w n (.int (bI (htN l))) := by
  obtain ⟨h, pa, xs, hG, hx⟩ := id hP
  obtain ⟨gc, gT, gcl, gnx, ⟨ga, gh⟩, ⟨gs1, gs2⟩, gN⟩ := id hG
  have gd := gT.1
  have gdl := gT.2.1
  refine Ctr.of rfl (Nat.le_of_ble_eq_true rfl) fun S hS => ?_
  have hb : S.1.1 = cX4_hasTwins := by rw [hS]; rfl
  have ho : S.1.2.1 = RX4 := by rw [hS]; rfl
  have hnL : S.1.2.2.1 = 2 := by rw [hS]; rfl
  have hR0 : S.2.1 = rm_X4_hasTwins := by rw [hS]; rfl
  show Wp S 0 [(0, .ref g)] [] w n 0 0
  refine r_iconst hb 1 dX4_hasTwins_0 rfl ?_
  refine r_istore_n [(1, .int (iI 0)), (0, .ref g)] hb 2 2 dX4_hasTwins_1 rfl rfl hnL (by decide) rfl ?_
  have lp : ∀ (d : Nat) (i : Nat), l.length - i = d → (i ≤ l.length) → (runL (fun i => !decide (ftN l i < i)) (l.length - i) i = runL (fun i => !decide (ftN l i < i)) l.length 0) → Wp S 2 [(1, .int (iI (((i : Nat) : Int)))), (0, .ref g)] [] w n 0 0 := by
    intro d
    induction d using Nat.strongRecOn with
    | _ d ih_lp =>
      intro i hd_lp hi hr
      refine r_iload_n hb 3 dX4_hasTwins_2 rfl 0 rfl ?_
      refine r_aload_n hb 4 dX4_hasTwins_3 rfl 1 rfl ?_
      refine r_get hb ho 7 dX4_hasTwins_4 rfl lk_X4_31 pf_X4_2 gc rfl ?_
      refine r_icmp_ge hb 10 35 dX4_hasTwins_7 rfl (by decide) (by omega) (by omega) (fun c7 => ?_) (fun c7 => ?_)
      · refine r_iconst hb 36 dX4_hasTwins_35 rfl ?_
        refine r_iret hS dX4_hasTwins_36 rfl rfl (Nat.zero_le _) (Nat.zero_le _) ?_
        have e := runL_f (c := fun i => !decide (ftN l i < i)) (N := l.length) (a := i) (Or.inl (by omega))
        exact ⟨_, rfl, congrArg Value.int (bI_F (decide_eq_false (by rw [← hr, e]; omega))), rfl, rfl⟩
      · refine r_iload_n hb 11 dX4_hasTwins_10 rfl 0 rfl ?_
        refine r_aload_n hb 12 dX4_hasTwins_11 rfl 1 rfl ?_
        refine r_get hb ho 15 dX4_hasTwins_12 rfl lk_X4_22 pf_X4_1 gc rfl ?_
        refine r_alen hb 16 dX4_hasTwins_15 rfl ga (by decide) 10 rfl ?_
        refine r_icmp_ge hb 19 35 dX4_hasTwins_16 rfl (by decide) (by omega) (by omega) (fun c16 => ?_) (fun c16 => ?_)
        · exfalso; omega
        · refine r_aload_n hb 20 dX4_hasTwins_19 rfl 1 rfl ?_
          refine r_iload_n hb 21 dX4_hasTwins_20 rfl 0 rfl ?_
          refine r_callVR (st := []) hb ho 24 dX4_hasTwins_21 rfl ck_X4_79 (c_X4_firstTwin g nx i D l hP (by omega)) rfl rfl (gc) rfl rfl (by rw [hR0]; exact ⟨Nat.le_of_ble_eq_true rfl, Nat.le_of_ble_eq_true rfl⟩) (Nat.le_of_ble_eq_true rfl) ⟨rfl, rfl⟩ (by rw [hR0]; exact Nat.zero_le _) (by rw [hR0]; exact Nat.zero_le _) ?_
          have hft : -1 ≤ ftZ l i ∧ ftZ l i < 100 := by unfold ftZ; split <;> omega
          refine r_if_lt hb 27 29 dX4_hasTwins_24 rfl (by decide) (by omega) (fun c24 => ?_) (fun c24 => ?_)
          · refine r_iinc [(1, .int (iI (((i : Nat) : Int) + 1))), (0, .ref g)] hb 32 2 0 dX4_hasTwins_29 rfl rfl hnL (by decide) (((i : Nat) : Int) + 1) (by omega) rfl ?_
            refine r_goto hb 2 dX4_hasTwins_32 (by decide) ?_
            refine r_lv [(1, .int (iI (((i + 1 : Nat)) : Int))), (0, .ref g)] [0, 1] rfl ?_
            exact ih_lp (l.length - (i + 1)) (by omega) (i + 1) rfl (by omega) (by rw [← runL_t (by omega) (by simp only [Bool.not_eq_true', decide_eq_false_iff_not]; unfold ftZ at c24; split at c24 <;> omega)]; exact hr)
          · refine r_iconst hb 28 dX4_hasTwins_27 rfl ?_
            refine r_iret hS dX4_hasTwins_28 rfl rfl (Nat.zero_le _) (Nat.zero_le _) ?_
            have h3 : ftN l i < i := by unfold ftZ at c24; split at c24 <;> omega
            have e := runL_f (c := fun i => !decide (ftN l i < i)) (N := l.length) (a := i) (Or.inr (by rw [decide_eq_true h3]; rfl))
            exact ⟨_, rfl, congrArg Value.int (bI_T (decide_eq_true (by rw [← hr, e]; omega))), rfl, rfl⟩
  refine r_lv [(1, .int (iI (((0 : Nat)) : Int))), (0, .ref g)] [0, 1] rfl ?_
  exact lp _ 0 rfl (Nat.zero_le _) rfl

abbrev rm_X4_rankOf : Room := { frames := 1, cells := 0, slots := 0, locals := 21 }
set_option maxHeartbeats 4000000 in
set_option maxRecDepth 100000 in
theorem c_X4_rankOf (g nx b : Nat) (D : List Int32) (l : List Nt) (y : Nt) (z : Int) {w : PW} {n : Nat} (hP : pg w g D l nx) (hz : -2147483648 ≤ z ∧ z < 2147483648) (hY : nt w b y) : CtR yX4_rankOf cX4_rankOf 5 (some .int) rm_X4_rankOf [.ref g, .ref b, .int (iI (z))] w n (.int (iI (((rkN l y z l.length : Nat) : Int)))) := by
  obtain ⟨h, pa, xs, hG, hx⟩ := id hP
  obtain ⟨gc, gT, gcl, gnx, ⟨ga, gh⟩, ⟨gs1, gs2⟩, gN⟩ := id hG
  have gd := gT.1
  have gdl := gT.2.1
  refine Ctr.of rfl (Nat.le_of_ble_eq_true rfl) fun S hS => ?_
  have hb : S.1.1 = cX4_rankOf := by rw [hS]; rfl
  have ho : S.1.2.1 = RX4 := by rw [hS]; rfl
  have hnL : S.1.2.2.1 = 5 := by rw [hS]; rfl
  have hR0 : S.2.1 = rm_X4_rankOf := by rw [hS]; rfl
  show Wp S 0 [(0, .ref g), (1, .ref b), (2, .int (iI (z)))] [] w n 0 0
  refine r_iconst hb 1 dX4_rankOf_0 rfl ?_
  refine r_istore_n [(3, .int (iI 0)), (0, .ref g), (1, .ref b), (2, .int (iI (z)))] hb 2 5 dX4_rankOf_1 rfl rfl hnL (by decide) rfl ?_
  refine r_iconst hb 3 dX4_rankOf_2 rfl ?_
  refine r_istore [(4, .int (iI 0)), (3, .int (iI 0)), (0, .ref g), (1, .ref b), (2, .int (iI (z)))] hb 5 5 dX4_rankOf_3 rfl hnL (by decide) rfl ?_
  have lp : ∀ (d : Nat) (i : Nat), l.length - i = d → (i ≤ l.length) → Wp S 5 [(4, .int (iI (((i : Nat) : Int)))), (3, .int (iI (((rkN l y z i : Nat) : Int)))), (0, .ref g), (1, .ref b), (2, .int (iI (z)))] [] w n 0 0 := by
    intro d
    induction d using Nat.strongRecOn with
    | _ d ih_lp =>
      intro i hd_lp hi
      have hrk := rkN_le l y z i
      refine r_iload hb 7 dX4_rankOf_5 rfl 0 rfl ?_
      refine r_aload_n hb 8 dX4_rankOf_7 rfl 2 rfl ?_
      refine r_get hb ho 11 dX4_rankOf_8 rfl lk_X4_31 pf_X4_2 gc rfl ?_
      refine r_icmp_ge hb 14 61 dX4_rankOf_11 rfl (by decide) (by omega) (by omega) (fun c11 => ?_) (fun c11 => ?_)
      · refine r_iload_n hb 62 dX4_rankOf_61 rfl 1 rfl ?_
        refine r_iret hS dX4_rankOf_62 rfl rfl (Nat.zero_le _) (Nat.zero_le _) ?_
        rw [show i = l.length by omega]
        exact ⟨_, rfl, rfl, rfl, rfl⟩
      · refine r_iload hb 16 dX4_rankOf_14 rfl 0 rfl ?_
        refine r_aload_n hb 17 dX4_rankOf_16 rfl 2 rfl ?_
        refine r_get hb ho 20 dX4_rankOf_17 rfl lk_X4_22 pf_X4_1 gc rfl ?_
        refine r_alen hb 21 dX4_rankOf_20 rfl ga (by decide) 10 rfl ?_
        refine r_icmp_ge hb 24 61 dX4_rankOf_21 rfl (by decide) (by omega) (by omega) (fun c21 => ?_) (fun c21 => ?_)
        · exfalso; omega
        · refine r_aload_n hb 25 dX4_rankOf_24 rfl 2 rfl ?_
          refine r_get hb ho 28 dX4_rankOf_25 rfl lk_X4_22 pf_X4_1 gc rfl ?_
          refine r_iload hb 30 dX4_rankOf_28 rfl 0 rfl ?_
          refine r_aald hb 31 dX4_rankOf_30 rfl ga (by decide) i (by omega) (⟨by omega, by omega⟩) (pa i) (gh i (by omega)) ?_
          have n0 := (gN i (by omega)).1
          have hsn0 := gs1 i (by omega)
          have hqn0 := (gN i (by omega)).2.2.2.2
          refine r_iload_n hb 32 dX4_rankOf_31 rfl 4 rfl ?_
          refine r_callVR (st := []) hb ho 35 dX4_rankOf_32 rfl ck_X4_92 (c_X3_covers (pa i) (xs i) z (gN i (by omega)) hz) rfl rfl (n0) rfl rfl (by rw [hR0]; exact ⟨Nat.le_of_ble_eq_true rfl, Nat.le_of_ble_eq_true rfl⟩) (Nat.le_of_ble_eq_true rfl) ⟨rfl, rfl⟩ (by rw [hR0]; exact Nat.zero_le _) (by rw [hR0]; exact Nat.zero_le _) ?_
          refine r_ifb_eq hb 38 55 dX4_rankOf_35 rfl (by decide) (fun c35 => ?_) (fun c35 => ?_)
          · refine r_iinc [(4, .int (iI (((i : Nat) : Int) + 1))), (3, .int (iI (((rkN l y z i : Nat) : Int)))), (0, .ref g), (1, .ref b), (2, .int (iI (z)))] hb 58 5 0 dX4_rankOf_55 rfl rfl hnL (by decide) (((i : Nat) : Int) + 1) (by omega) rfl ?_
            refine r_goto hb 5 dX4_rankOf_58 (by decide) ?_
            rw [hx i (by omega)] at c35
            have e : rkN l y z (i + 1) = rkN l y z i := by simp only [rkN]; rw [c35]; rfl
            refine r_lv [(4, .int (iI (((i + 1 : Nat)) : Int))), (3, .int (iI ((rkN l y z (i + 1) : Nat) : Int))), (0, .ref g), (1, .ref b), (2, .int (iI z))] [0, 1, 2, 3, 4] (by rw [e]; rfl) ?_
            exact ih_lp (l.length - (i + 1)) (by omega) (i + 1) rfl (by omega)
          · refine r_aload_n hb 39 dX4_rankOf_38 rfl 2 rfl ?_
            refine r_get hb ho 42 dX4_rankOf_39 rfl lk_X4_22 pf_X4_1 gc rfl ?_
            refine r_iload hb 44 dX4_rankOf_42 rfl 0 rfl ?_
            refine r_aald hb 45 dX4_rankOf_44 rfl ga (by decide) i (by omega) (⟨by omega, by omega⟩) (pa i) (gh i (by omega)) ?_
            have n0 := (gN i (by omega)).1
            have hsn0 := gs1 i (by omega)
            have hqn0 := (gN i (by omega)).2.2.2.2
            refine r_aload_n hb 46 dX4_rankOf_45 rfl 3 rfl ?_
            refine r_callVR (st := []) hb ho 49 dX4_rankOf_46 rfl ck_X4_100 (c_X3_standsBefore (pa i) b (xs i) y (gN i (by omega)) hY) rfl rfl (n0) rfl rfl (by rw [hR0]; exact ⟨Nat.le_of_ble_eq_true rfl, Nat.le_of_ble_eq_true rfl⟩) (Nat.le_of_ble_eq_true rfl) ⟨rfl, rfl⟩ (by rw [hR0]; exact Nat.zero_le _) (by rw [hR0]; exact Nat.zero_le _) ?_
            refine r_ifb_eq hb 52 55 dX4_rankOf_49 rfl (by decide) (fun c49 => ?_) (fun c49 => ?_)
            · refine r_iinc [(4, .int (iI (((i : Nat) : Int) + 1))), (3, .int (iI (((rkN l y z i : Nat) : Int)))), (0, .ref g), (1, .ref b), (2, .int (iI (z)))] hb 58 5 0 dX4_rankOf_55 rfl rfl hnL (by decide) (((i : Nat) : Int) + 1) (by omega) rfl ?_
              refine r_goto hb 5 dX4_rankOf_58 (by decide) ?_
              rw [hx i (by omega)] at c35
              rw [hx i (by omega)] at c49
              have e : rkN l y z (i + 1) = rkN l y z i := by simp only [rkN]; rw [c35, c49]; rfl
              refine r_lv [(4, .int (iI (((i + 1 : Nat)) : Int))), (3, .int (iI ((rkN l y z (i + 1) : Nat) : Int))), (0, .ref g), (1, .ref b), (2, .int (iI z))] [0, 1, 2, 3, 4] (by rw [e]; rfl) ?_
              exact ih_lp (l.length - (i + 1)) (by omega) (i + 1) rfl (by omega)
            · refine r_iinc [(3, .int (iI (((rkN l y z i : Nat) : Int) + 1))), (4, .int (iI (((i : Nat) : Int)))), (0, .ref g), (1, .ref b), (2, .int (iI (z)))] hb 55 5 1 dX4_rankOf_52 rfl rfl hnL (by decide) (((rkN l y z i : Nat) : Int) + 1) (by omega) rfl ?_
              refine r_iinc [(4, .int (iI (((i : Nat) : Int) + 1))), (3, .int (iI (((rkN l y z i : Nat) : Int) + 1))), (0, .ref g), (1, .ref b), (2, .int (iI (z)))] hb 58 5 1 dX4_rankOf_55 rfl rfl hnL (by decide) (((i : Nat) : Int) + 1) (by omega) rfl ?_
              refine r_goto hb 5 dX4_rankOf_58 (by decide) ?_
              rw [hx i (by omega)] at c35
              rw [hx i (by omega)] at c49
              have e : rkN l y z (i + 1) = rkN l y z i + 1 := by simp only [rkN]; rw [c35, c49]; rfl
              refine r_lv [(4, .int (iI (((i + 1 : Nat)) : Int))), (3, .int (iI ((rkN l y z (i + 1) : Nat) : Int))), (0, .ref g), (1, .ref b), (2, .int (iI z))] [0, 1, 2, 3, 4] (by rw [e]; rfl) ?_
              exact ih_lp (l.length - (i + 1)) (by omega) (i + 1) rfl (by omega)
  refine r_lv [(4, .int (iI (((0 : Nat)) : Int))), (3, .int (iI ((rkN l y z 0 : Nat) : Int))), (0, .ref g), (1, .ref b), (2, .int (iI z))] [0, 1, 2, 3, 4] rfl ?_
  exact lp _ 0 rfl (Nat.zero_le _)

def ncZ (l : List Nt) (z r : Int) : Int := if ncN l z r < l.length then ((nNum (lg l (ncN l z r)) : Nat) : Int) else -1005
abbrev rm_X4_numberCovering : Room := { frames := 2, cells := 0, slots := 0, locals := 45 }
set_option maxHeartbeats 4000000 in
set_option maxRecDepth 100000 in
theorem c_X4_numberCovering (g nx : Nat) (D : List Int32) (l : List Nt) (z r : Int) {w : PW} {n : Nat} (hP : pg w g D l nx) (hz : -2147483648 ≤ z ∧ z < 2147483648) (hrb : -2147483648 ≤ r ∧ r < 2147483648) : CtR yX4_numberCovering cX4_numberCovering 4 (some .int) rm_X4_numberCovering [.ref g, .int (iI (z)), .int (iI (r))] w n (.int (iI ((ncZ l z r)))) := by
  obtain ⟨h, pa, xs, hG, hx⟩ := id hP
  obtain ⟨gc, gT, gcl, gnx, ⟨ga, gh⟩, ⟨gs1, gs2⟩, gN⟩ := id hG
  have gd := gT.1
  have gdl := gT.2.1
  refine Ctr.of rfl (Nat.le_of_ble_eq_true rfl) fun S hS => ?_
  have hb : S.1.1 = cX4_numberCovering := by rw [hS]; rfl
  have ho : S.1.2.1 = RX4 := by rw [hS]; rfl
  have hnL : S.1.2.2.1 = 4 := by rw [hS]; rfl
  have hR0 : S.2.1 = rm_X4_numberCovering := by rw [hS]; rfl
  show Wp S 0 [(0, .ref g), (1, .int (iI (z))), (2, .int (iI (r)))] [] w n 0 0
  refine r_iconst hb 1 dX4_numberCovering_0 rfl ?_
  refine r_istore_n [(3, .int (iI 0)), (0, .ref g), (1, .int (iI (z))), (2, .int (iI (r)))] hb 2 4 dX4_numberCovering_1 rfl rfl hnL (by decide) rfl ?_
  have lp : ∀ (d : Nat) (i : Nat), l.length - i = d → (i ≤ l.length) → (runL (fun k => !(cvN (lg l k) z && decide (((rkN l (lg l k) z l.length : Nat) : Int) = r))) (l.length - i) i = ncN l z r) → Wp S 2 [(3, .int (iI (((i : Nat) : Int)))), (0, .ref g), (1, .int (iI (z))), (2, .int (iI (r)))] [] w n 0 0 := by
    intro d
    induction d using Nat.strongRecOn with
    | _ d ih_lp =>
      intro i hd_lp hi hr
      refine r_iload_n hb 3 dX4_numberCovering_2 rfl 0 rfl ?_
      refine r_aload_n hb 4 dX4_numberCovering_3 rfl 1 rfl ?_
      refine r_get hb ho 7 dX4_numberCovering_4 rfl lk_X4_31 pf_X4_2 gc rfl ?_
      refine r_icmp_ge hb 10 63 dX4_numberCovering_7 rfl (by decide) (by omega) (by omega) (fun c7 => ?_) (fun c7 => ?_)
      · refine r_sipush (-1005) hb 66 dX4_numberCovering_63 rfl rfl ?_
        refine r_iret hS dX4_numberCovering_66 rfl rfl (Nat.zero_le _) (Nat.zero_le _) ?_
        have e := runL_f (c := (fun k => !(cvN (lg l k) z && decide (((rkN l (lg l k) z l.length : Nat) : Int) = r)))) (N := l.length) (a := i) (Or.inl (by omega))
        exact ⟨_, rfl, by unfold ncZ; rw [← hr, e, if_neg (by omega)], rfl, rfl⟩
      · refine r_iload_n hb 11 dX4_numberCovering_10 rfl 0 rfl ?_
        refine r_aload_n hb 12 dX4_numberCovering_11 rfl 1 rfl ?_
        refine r_get hb ho 15 dX4_numberCovering_12 rfl lk_X4_22 pf_X4_1 gc rfl ?_
        refine r_alen hb 16 dX4_numberCovering_15 rfl ga (by decide) 10 rfl ?_
        refine r_icmp_ge hb 19 63 dX4_numberCovering_16 rfl (by decide) (by omega) (by omega) (fun c16 => ?_) (fun c16 => ?_)
        · exfalso; omega
        · refine r_aload_n hb 20 dX4_numberCovering_19 rfl 1 rfl ?_
          refine r_get hb ho 23 dX4_numberCovering_20 rfl lk_X4_22 pf_X4_1 gc rfl ?_
          refine r_iload_n hb 24 dX4_numberCovering_23 rfl 0 rfl ?_
          refine r_aald hb 25 dX4_numberCovering_24 rfl ga (by decide) i (by omega) (⟨by omega, by omega⟩) (pa i) (gh i (by omega)) ?_
          have n0 := (gN i (by omega)).1
          have hsn0 := gs1 i (by omega)
          have hqn0 := (gN i (by omega)).2.2.2.2
          refine r_iload_n hb 26 dX4_numberCovering_25 rfl 2 rfl ?_
          refine r_callVR (st := []) hb ho 29 dX4_numberCovering_26 rfl ck_X4_92 (c_X3_covers (pa i) (xs i) z (gN i (by omega)) hz) rfl rfl (n0) rfl rfl (by rw [hR0]; exact ⟨Nat.le_of_ble_eq_true rfl, Nat.le_of_ble_eq_true rfl⟩) (Nat.le_of_ble_eq_true rfl) ⟨rfl, rfl⟩ (by rw [hR0]; exact Nat.zero_le _) (by rw [hR0]; exact Nat.zero_le _) ?_
          refine r_ifb_eq hb 32 57 dX4_numberCovering_29 rfl (by decide) (fun c29 => ?_) (fun c29 => ?_)
          · refine r_iinc [(3, .int (iI (((i : Nat) : Int) + 1))), (0, .ref g), (1, .int (iI (z))), (2, .int (iI (r)))] hb 60 4 0 dX4_numberCovering_57 rfl rfl hnL (by decide) (((i : Nat) : Int) + 1) (by omega) rfl ?_
            refine r_goto hb 2 dX4_numberCovering_60 (by decide) ?_
            rw [hx i (by omega)] at c29
            refine r_lv [(3, .int (iI (((i + 1 : Nat)) : Int))), (0, .ref g), (1, .int (iI z)), (2, .int (iI r))] [0, 1, 2, 3] rfl ?_
            exact ih_lp (l.length - (i + 1)) (by omega) (i + 1) rfl (by omega) (by rw [← runL_t (by omega) (by rw [c29]; rfl)]; exact hr)
          · refine r_aload_n hb 33 dX4_numberCovering_32 rfl 1 rfl ?_
            refine r_aload_n hb 34 dX4_numberCovering_33 rfl 1 rfl ?_
            refine r_get hb ho 37 dX4_numberCovering_34 rfl lk_X4_22 pf_X4_1 gc rfl ?_
            refine r_iload_n hb 38 dX4_numberCovering_37 rfl 0 rfl ?_
            refine r_aald hb 39 dX4_numberCovering_38 rfl ga (by decide) i (by omega) (⟨by omega, by omega⟩) (pa i) (gh i (by omega)) ?_
            have n0 := (gN i (by omega)).1
            have hsn0 := gs1 i (by omega)
            have hqn0 := (gN i (by omega)).2.2.2.2
            refine r_iload_n hb 40 dX4_numberCovering_39 rfl 2 rfl ?_
            refine r_callVR (st := []) hb ho 43 dX4_numberCovering_40 rfl ck_X4_96 (c_X4_rankOf g nx (pa i) D l (lg l i) z hP hz (hx i (by omega) ▸ gN i (by omega))) rfl rfl (gc) rfl rfl (by rw [hR0]; exact ⟨Nat.le_of_ble_eq_true rfl, Nat.le_of_ble_eq_true rfl⟩) (Nat.le_of_ble_eq_true rfl) ⟨rfl, rfl⟩ (by rw [hR0]; exact Nat.zero_le _) (by rw [hR0]; exact Nat.zero_le _) ?_
            have hrk := rkN_le l (lg l i) z l.length
            refine r_iload_n hb 44 dX4_numberCovering_43 rfl 3 rfl ?_
            refine r_icmp_ne hb 47 57 dX4_numberCovering_44 rfl (by decide) (by omega) (by omega) (fun c44 => ?_) (fun c44 => ?_)
            · refine r_iinc [(3, .int (iI (((i : Nat) : Int) + 1))), (0, .ref g), (1, .int (iI (z))), (2, .int (iI (r)))] hb 60 4 0 dX4_numberCovering_57 rfl rfl hnL (by decide) (((i : Nat) : Int) + 1) (by omega) rfl ?_
              refine r_goto hb 2 dX4_numberCovering_60 (by decide) ?_
              rw [hx i (by omega)] at c29
              refine r_lv [(3, .int (iI (((i + 1 : Nat)) : Int))), (0, .ref g), (1, .int (iI z)), (2, .int (iI r))] [0, 1, 2, 3] rfl ?_
              exact ih_lp (l.length - (i + 1)) (by omega) (i + 1) rfl (by omega) (by rw [← runL_t (by omega) (by rw [c29, decide_eq_false c44]; rfl)]; exact hr)
            · refine r_aload_n hb 48 dX4_numberCovering_47 rfl 1 rfl ?_
              refine r_get hb ho 51 dX4_numberCovering_48 rfl lk_X4_22 pf_X4_1 gc rfl ?_
              refine r_iload_n hb 52 dX4_numberCovering_51 rfl 0 rfl ?_
              refine r_aald hb 53 dX4_numberCovering_52 rfl ga (by decide) i (by omega) (⟨by omega, by omega⟩) (pa i) (gh i (by omega)) ?_
              have n0 := (gN i (by omega)).1
              have hsn0 := gs1 i (by omega)
              have hqn0 := (gN i (by omega)).2.2.2.2
              refine r_get hb ho 56 dX4_numberCovering_53 rfl lk_X4_47 pf_X3_3 n0 rfl ?_
              refine r_iret hS dX4_numberCovering_56 rfl rfl (Nat.zero_le _) (Nat.zero_le _) ?_
              rw [hx i (by omega)] at c29
              have e := runL_f (c := (fun k => !(cvN (lg l k) z && decide (((rkN l (lg l k) z l.length : Nat) : Int) = r)))) (N := l.length) (a := i) (Or.inr (by rw [c29, decide_eq_true c44]; rfl))
              exact ⟨_, rfl, by unfold ncZ; rw [← hr, e, if_pos (by omega), hx i (by omega)], rfl, rfl⟩
  refine r_lv [(3, .int (iI (((0 : Nat)) : Int))), (0, .ref g), (1, .int (iI z)), (2, .int (iI r))] [0, 1, 2, 3] rfl ?_
  exact lp _ 0 rfl (Nat.zero_le _) rfl

abbrev rm_X4_replaceDocument : Room := { frames := 3, cells := 0, slots := 0, locals := 66 }
set_option maxHeartbeats 4000000 in
set_option maxRecDepth 100000 in
theorem c_X4_replaceDocument (g nx u Ru : Nat) (D M : List Int32) (l : List Nt) {w : PW} {n : Nat} (hP : pg w g D l nx) (uT : tx w u Ru M) (hRu : Ru ≤ 120) (hud : g + 74 ≤ u ∨ u + 2 ≤ g) : Ct0 yX4_replaceDocument cX4_replaceDocument 3 none rm_X4_replaceDocument [.ref g, .ref u] w n (fun w1 n1 => n = n1 ∧ pg w1 g M (l.map (mvRep M.length)) nx ∧ off w w1 g (g + 74)) := by
  obtain ⟨h, pa, xs, hG, hx⟩ := id hP
  obtain ⟨gc, gT, gcl, gnx, ⟨ga, gh⟩, ⟨gs1, gs2⟩, gN⟩ := id hG
  have gd := gT.1
  have gdl := gT.2.1
  have ud := uT.1
  have udl := uT.2.1
  refine Ctr.of rfl (Nat.le_of_ble_eq_true rfl) fun S hS => ?_
  have hb : S.1.1 = cX4_replaceDocument := by rw [hS]; rfl
  have ho : S.1.2.1 = RX4 := by rw [hS]; rfl
  have hnL : S.1.2.2.1 = 3 := by rw [hS]; rfl
  have hR0 : S.2.1 = rm_X4_replaceDocument := by rw [hS]; rfl
  show Wp S 0 [(0, .ref g), (1, .ref u)] [] w n 0 0
  refine r_aload_n hb 1 dX4_replaceDocument_0 rfl 0 rfl ?_
  refine r_get hb ho 4 dX4_replaceDocument_1 rfl lk_X4_14 pf_X4_0 gc rfl ?_
  refine r_aload_n hb 5 dX4_replaceDocument_4 rfl 1 rfl ?_
  refine r_callV0 (st := []) hb ho 8 dX4_replaceDocument_5 rfl ck_X4_27 (c_X7_become (g + 1) 120 u Ru D M gT uT (by omega) (by omega) (by omega) (by omega)) rfl rfl (gd) rfl rfl (by rw [hR0]; exact ⟨Nat.le_of_ble_eq_true rfl, Nat.le_of_ble_eq_true rfl⟩) (Nat.le_of_ble_eq_true rfl) ⟨rfl, rfl⟩ (by rw [hR0]; exact Nat.zero_le _) (by rw [hR0]; exact Nat.zero_le _) (fun w_5 nw_5 qw_5 => ?_)
  obtain ⟨rfl, hnew, ow_5⟩ := qw_5
  have uT : tx w_5 u Ru M := uT.off ow_5 (by omega)
  have ud : w_5 u = some (eO 7 [.ref (u + 1), .int (iI (((M.length : Nat) : Int)))]) := (ow_5 _ (by omega)).trans ud
  have hG := pgo_doc hG hnew ow_5
  obtain ⟨gc, gT, gcl, gnx, ⟨ga, gh⟩, ⟨gs1, gs2⟩, gN⟩ := id hG
  have gd := gT.1
  have gdl := gT.2.1
  refine r_iconst hb 9 dX4_replaceDocument_8 rfl ?_
  refine r_istore_n [(2, .int (iI 0)), (0, .ref g), (1, .ref u)] hb 10 3 dX4_replaceDocument_9 rfl rfl hnL (by decide) rfl ?_
  have lp : ∀ (d : Nat) (i : Nat) (wi : PW) (xi : Nat → Nt), l.length - i = d → (i ≤ l.length) → (pgo wi g M h pa xi l.length nx) → (∀ j, j < i → xi j = mvRep M.length (lg l j)) → (∀ j, i ≤ j → j < l.length → xi j = lg l j) → (off w wi g (g + 74)) → Wp S 10 [(2, .int (iI (((i : Nat) : Int)))), (0, .ref g), (1, .ref u)] [] wi n 0 0 := by
    intro d
    induction d using Nat.strongRecOn with
    | _ d ih_lp =>
      intro i wi xi hd_lp hi hG hlo hhi hO
      obtain ⟨gc, gT, gcl, gnx, ⟨ga, gh⟩, ⟨gs1, gs2⟩, gN⟩ := id hG
      have gd := gT.1
      have gdl := gT.2.1
      refine r_iload_n hb 11 dX4_replaceDocument_10 rfl 0 rfl ?_
      refine r_aload_n hb 12 dX4_replaceDocument_11 rfl 1 rfl ?_
      refine r_get hb ho 15 dX4_replaceDocument_12 rfl lk_X4_31 pf_X4_2 gc rfl ?_
      refine r_icmp_ge hb 18 49 dX4_replaceDocument_15 rfl (by decide) (by omega) (by omega) (fun c15 => ?_) (fun c15 => ?_)
      · refine r_vret hS dX4_replaceDocument_49 rfl (Nat.zero_le _) (Nat.zero_le _) ?_
        have ei : i = l.length := by omega
        subst ei
        exact ⟨rfl, rfl, ⟨h, pa, xi, by rw [List.length_map]; exact hG, fun j hj => by rw [List.length_map] at hj; rw [lg_map _ _ hj]; exact hlo j hj⟩, hO⟩
      · refine r_iload_n hb 19 dX4_replaceDocument_18 rfl 0 rfl ?_
        refine r_aload_n hb 20 dX4_replaceDocument_19 rfl 1 rfl ?_
        refine r_get hb ho 23 dX4_replaceDocument_20 rfl lk_X4_22 pf_X4_1 gc rfl ?_
        refine r_alen hb 24 dX4_replaceDocument_23 rfl ga (by decide) 10 rfl ?_
        refine r_icmp_ge hb 27 49 dX4_replaceDocument_24 rfl (by decide) (by omega) (by omega) (fun c24 => ?_) (fun c24 => ?_)
        · exfalso; omega
        · refine r_aload_n hb 28 dX4_replaceDocument_27 rfl 1 rfl ?_
          refine r_get hb ho 31 dX4_replaceDocument_28 rfl lk_X4_22 pf_X4_1 gc rfl ?_
          refine r_iload_n hb 32 dX4_replaceDocument_31 rfl 0 rfl ?_
          refine r_aald hb 33 dX4_replaceDocument_32 rfl ga (by decide) i (by omega) (⟨by omega, by omega⟩) (pa i) (gh i (by omega)) ?_
          have n0 := (gN i (by omega)).1
          have hsn0 := gs1 i (by omega)
          have hqn0 := (gN i (by omega)).2.2.2.2
          refine r_aload_n hb 34 dX4_replaceDocument_33 rfl 1 rfl ?_
          refine r_get hb ho 37 dX4_replaceDocument_34 rfl lk_X4_14 pf_X4_0 gc rfl ?_
          refine r_get hb ho 40 dX4_replaceDocument_37 rfl lk_X4_58 pf_X7_1 gd rfl ?_
          refine r_callV0 (st := []) hb ho 43 dX4_replaceDocument_40 rfl ck_X4_61 (c_X3_moveForReplacement (pa i) (xi i) M.length (gN i (by omega)) (by omega)) rfl rfl (n0) rfl rfl (by rw [hR0]; exact ⟨Nat.le_of_ble_eq_true rfl, Nat.le_of_ble_eq_true rfl⟩) (Nat.le_of_ble_eq_true rfl) ⟨rfl, rfl⟩ (by rw [hR0]; exact Nat.zero_le _) (by rw [hR0]; exact Nat.zero_le _) (fun w_40 nw_40 qw_40 => ?_)
          obtain ⟨rfl, hnew, ow_40⟩ := qw_40
          have hG := pgo_note hG (by omega) hnew ow_40
          obtain ⟨gc, gT, gcl, gnx, ⟨ga, gh⟩, ⟨gs1, gs2⟩, gN⟩ := id hG
          have gd := gT.1
          have gdl := gT.2.1
          refine r_iinc [(2, .int (iI (((i : Nat) : Int) + 1))), (0, .ref g), (1, .ref u)] hb 46 3 0 dX4_replaceDocument_43 rfl rfl hnL (by decide) (((i : Nat) : Int) + 1) (by omega) rfl ?_
          refine r_goto hb 10 dX4_replaceDocument_46 (by decide) ?_
          refine r_lv [(2, .int (iI (((i + 1 : Nat)) : Int))), (0, .ref g), (1, .ref u)] [0, 1, 2] rfl ?_
          refine ih_lp (l.length - (i + 1)) (by omega) (i + 1) _ _ rfl (by omega) hG ?_ ?_ (hO.trans (ow_40.mono (by omega) (by omega)))
          · intro j hj
            by_cases e : j = i
            · subst e; rw [updX_s, hhi j (Nat.le_refl _) (by omega)]
            · rw [updX_n _ _ e]; exact hlo j (by omega)
          · intro j hj hj2
            rw [updX_n _ _ (by omega)]; exact hhi j (by omega) hj2
  refine r_lv [(2, .int (iI (((0 : Nat)) : Int))), (0, .ref g), (1, .ref u)] [0, 1, 2] rfl ?_
  exact lp _ 0 _ xs rfl (Nat.zero_le _) hG (fun j hj => absurd hj (Nat.not_lt_zero _)) (fun j _ hj => hx j hj) (ow_5.mono (by omega) (by omega))

abbrev rm_X4_putIn : Room := { frames := 2, cells := 0, slots := 0, locals := 45 }
set_option maxHeartbeats 4000000 in
set_option maxRecDepth 100000 in
theorem c_X4_putIn (g nx u Ru p : Nat) (D M : List Int32) (l : List Nt) {w : PW} {n : Nat} (hP : pg w g D l nx) (uT : tx w u Ru M) (hRu : Ru ≤ 120) (hud : g + 74 ≤ u ∨ u + 2 ≤ g) (hp : p ≤ D.length) (hm : D.length + M.length ≤ 120) (hbd : ∀ j, j < l.length → nB (lg l j) ≤ D.length ∧ nE (lg l j) ≤ D.length) : Ct0 yX4_putIn cX4_putIn 4 none rm_X4_putIn [.ref g, .int (iI (((p : Nat) : Int))), .ref u] w n (fun w1 n1 => n = n1 ∧ pg w1 g (putL D p M) (l.map (mvIns p M.length)) nx ∧ off w w1 g (g + 74)) := by
  obtain ⟨h, pa, xs, hG, hx⟩ := id hP
  obtain ⟨gc, gT, gcl, gnx, ⟨ga, gh⟩, ⟨gs1, gs2⟩, gN⟩ := id hG
  have gd := gT.1
  have gdl := gT.2.1
  have ud := uT.1
  have udl := uT.2.1
  refine Ctr.of rfl (Nat.le_of_ble_eq_true rfl) fun S hS => ?_
  have hb : S.1.1 = cX4_putIn := by rw [hS]; rfl
  have ho : S.1.2.1 = RX4 := by rw [hS]; rfl
  have hnL : S.1.2.2.1 = 4 := by rw [hS]; rfl
  have hR0 : S.2.1 = rm_X4_putIn := by rw [hS]; rfl
  show Wp S 0 [(0, .ref g), (1, .int (iI (((p : Nat) : Int)))), (2, .ref u)] [] w n 0 0
  refine r_aload_n hb 1 dX4_putIn_0 rfl 0 rfl ?_
  refine r_get hb ho 4 dX4_putIn_1 rfl lk_X4_14 pf_X4_0 gc rfl ?_
  refine r_iload_n hb 5 dX4_putIn_4 rfl 1 rfl ?_
  refine r_aload_n hb 6 dX4_putIn_5 rfl 2 rfl ?_
  refine r_callV0 (st := []) hb ho 9 dX4_putIn_6 rfl ck_X4_64 (c_X7_putLetters (g + 1) 120 u Ru D M p gT uT (by omega) (by omega) (by omega) hp hm) rfl rfl (gd) rfl rfl (by rw [hR0]; exact ⟨Nat.le_of_ble_eq_true rfl, Nat.le_of_ble_eq_true rfl⟩) (Nat.le_of_ble_eq_true rfl) ⟨rfl, rfl⟩ (by rw [hR0]; exact Nat.zero_le _) (by rw [hR0]; exact Nat.zero_le _) (fun w_6 nw_6 qw_6 => ?_)
  obtain ⟨rfl, hnew, ow_6⟩ := qw_6
  have uT : tx w_6 u Ru M := uT.off ow_6 (by omega)
  have ud : w_6 u = some (eO 7 [.ref (u + 1), .int (iI (((M.length : Nat) : Int)))]) := (ow_6 _ (by omega)).trans ud
  have hG := pgo_doc hG hnew ow_6
  obtain ⟨gc, gT, gcl, gnx, ⟨ga, gh⟩, ⟨gs1, gs2⟩, gN⟩ := id hG
  have gd := gT.1
  have gdl := gT.2.1
  refine r_iconst hb 10 dX4_putIn_9 rfl ?_
  refine r_istore_n [(3, .int (iI 0)), (0, .ref g), (1, .int (iI (((p : Nat) : Int)))), (2, .ref u)] hb 11 4 dX4_putIn_10 rfl rfl hnL (by decide) rfl ?_
  have lp : ∀ (d : Nat) (i : Nat) (wi : PW) (xi : Nat → Nt), l.length - i = d → (i ≤ l.length) → (pgo wi g (putL D p M) h pa xi l.length nx) → (∀ j, j < i → xi j = mvIns p M.length (lg l j)) → (∀ j, i ≤ j → j < l.length → xi j = lg l j) → (tx wi u Ru M) → (off w wi g (g + 74)) → Wp S 11 [(3, .int (iI (((i : Nat) : Int)))), (0, .ref g), (1, .int (iI (((p : Nat) : Int)))), (2, .ref u)] [] wi n 0 0 := by
    intro d
    induction d using Nat.strongRecOn with
    | _ d ih_lp =>
      intro i wi xi hd_lp hi hG hlo hhi uT hO
      obtain ⟨gc, gT, gcl, gnx, ⟨ga, gh⟩, ⟨gs1, gs2⟩, gN⟩ := id hG
      have gd := gT.1
      have gdl := gT.2.1
      have ud := uT.1
      refine r_iload_n hb 12 dX4_putIn_11 rfl 0 rfl ?_
      refine r_aload_n hb 13 dX4_putIn_12 rfl 1 rfl ?_
      refine r_get hb ho 16 dX4_putIn_13 rfl lk_X4_31 pf_X4_2 gc rfl ?_
      refine r_icmp_ge hb 19 48 dX4_putIn_16 rfl (by decide) (by omega) (by omega) (fun c16 => ?_) (fun c16 => ?_)
      · refine r_vret hS dX4_putIn_48 rfl (Nat.zero_le _) (Nat.zero_le _) ?_
        have ei : i = l.length := by omega
        subst ei
        exact ⟨rfl, rfl, ⟨h, pa, xi, by rw [List.length_map]; exact hG, fun j hj => by rw [List.length_map] at hj; rw [lg_map _ _ hj]; exact hlo j hj⟩, hO⟩
      · refine r_iload_n hb 20 dX4_putIn_19 rfl 0 rfl ?_
        refine r_aload_n hb 21 dX4_putIn_20 rfl 1 rfl ?_
        refine r_get hb ho 24 dX4_putIn_21 rfl lk_X4_22 pf_X4_1 gc rfl ?_
        refine r_alen hb 25 dX4_putIn_24 rfl ga (by decide) 10 rfl ?_
        refine r_icmp_ge hb 28 48 dX4_putIn_25 rfl (by decide) (by omega) (by omega) (fun c25 => ?_) (fun c25 => ?_)
        · exfalso; omega
        · refine r_aload_n hb 29 dX4_putIn_28 rfl 1 rfl ?_
          refine r_get hb ho 32 dX4_putIn_29 rfl lk_X4_22 pf_X4_1 gc rfl ?_
          refine r_iload_n hb 33 dX4_putIn_32 rfl 0 rfl ?_
          refine r_aald hb 34 dX4_putIn_33 rfl ga (by decide) i (by omega) (⟨by omega, by omega⟩) (pa i) (gh i (by omega)) ?_
          have n0 := (gN i (by omega)).1
          have hsn0 := gs1 i (by omega)
          have hqn0 := (gN i (by omega)).2.2.2.2
          refine r_iload_n hb 35 dX4_putIn_34 rfl 2 rfl ?_
          refine r_aload_n hb 36 dX4_putIn_35 rfl 3 rfl ?_
          refine r_get hb ho 39 dX4_putIn_36 rfl lk_X4_58 pf_X7_1 ud rfl ?_
          have hbi := hbd i (by omega)
          have exi := hhi i (Nat.le_refl _) (by omega)
          refine r_callV0 (st := []) hb ho 42 dX4_putIn_39 rfl ck_X4_68 (c_X3_moveForInsert (pa i) (xi i) p M.length (gN i (by omega)) (by omega) (by rw [exi]; omega) (by rw [exi]; omega)) rfl rfl (n0) rfl rfl (by rw [hR0]; exact ⟨Nat.le_of_ble_eq_true rfl, Nat.le_of_ble_eq_true rfl⟩) (Nat.le_of_ble_eq_true rfl) ⟨rfl, rfl⟩ (by rw [hR0]; exact Nat.zero_le _) (by rw [hR0]; exact Nat.zero_le _) (fun w_39 nw_39 qw_39 => ?_)
          obtain ⟨rfl, hnew, ow_39⟩ := qw_39
          have uT : tx w_39 u Ru M := uT.off ow_39 (by omega)
          have ud : w_39 u = some (eO 7 [.ref (u + 1), .int (iI (((M.length : Nat) : Int)))]) := (ow_39 _ (by omega)).trans ud
          have hG := pgo_note hG (by omega) hnew ow_39
          obtain ⟨gc, gT, gcl, gnx, ⟨ga, gh⟩, ⟨gs1, gs2⟩, gN⟩ := id hG
          have gd := gT.1
          have gdl := gT.2.1
          refine r_iinc [(3, .int (iI (((i : Nat) : Int) + 1))), (0, .ref g), (1, .int (iI (((p : Nat) : Int)))), (2, .ref u)] hb 45 4 0 dX4_putIn_42 rfl rfl hnL (by decide) (((i : Nat) : Int) + 1) (by omega) rfl ?_
          refine r_goto hb 11 dX4_putIn_45 (by decide) ?_
          refine r_lv [(3, .int (iI (((i + 1 : Nat)) : Int))), (0, .ref g), (1, .int (iI ((p : Nat) : Int))), (2, .ref u)] [0, 1, 2, 3] rfl ?_
          refine ih_lp (l.length - (i + 1)) (by omega) (i + 1) _ _ rfl (by omega) hG ?_ ?_ uT (hO.trans (ow_39.mono (by omega) (by omega)))
          · intro j hj
            by_cases e : j = i
            · subst e; rw [updX_s, hhi j (Nat.le_refl _) (by omega)]
            · rw [updX_n _ _ e]; exact hlo j (by omega)
          · intro j hj hj2
            rw [updX_n _ _ (by omega)]; exact hhi j (by omega) hj2
  refine r_lv [(3, .int (iI (((0 : Nat)) : Int))), (0, .ref g), (1, .int (iI ((p : Nat) : Int))), (2, .ref u)] [0, 1, 2, 3] rfl ?_
  exact lp _ 0 _ xs rfl (Nat.zero_le _) hG (fun j hj => absurd hj (Nat.not_lt_zero _)) (fun j _ hj => hx j hj) uT (ow_6.mono (by omega) (by omega))

abbrev rm_X4_cutOut : Room := { frames := 3, cells := 0, slots := 0, locals := 65 }
set_option maxHeartbeats 4000000 in
set_option maxRecDepth 100000 in
theorem c_X4_cutOut (g nx p m : Nat) (D : List Int32) (l : List Nt) {w : PW} {n : Nat} (hP : pg w g D l nx) (hp : p + m ≤ D.length) : Ct1 yX4_cutOut cX4_cutOut 5 (some .int) rm_X4_cutOut [.ref g, .int (iI (((p : Nat) : Int))), .int (iI (((m : Nat) : Int)))] w n (fun v w1 n1 => v = .int (iI ((orN p m l l.length : Nat) : Int)) ∧ n = n1 ∧ pg w1 g (cutL D p m) (l.map (mvDel p m)) nx ∧ off w w1 g (g + 74)) := by
  obtain ⟨h, pa, xs, hG, hx⟩ := id hP
  obtain ⟨gc, gT, gcl, gnx, ⟨ga, gh⟩, ⟨gs1, gs2⟩, gN⟩ := id hG
  have gd := gT.1
  have gdl := gT.2.1
  refine Ctr.of rfl (Nat.le_of_ble_eq_true rfl) fun S hS => ?_
  have hb : S.1.1 = cX4_cutOut := by rw [hS]; rfl
  have ho : S.1.2.1 = RX4 := by rw [hS]; rfl
  have hnL : S.1.2.2.1 = 5 := by rw [hS]; rfl
  have hR0 : S.2.1 = rm_X4_cutOut := by rw [hS]; rfl
  show Wp S 0 [(0, .ref g), (1, .int (iI (((p : Nat) : Int)))), (2, .int (iI (((m : Nat) : Int))))] [] w n 0 0
  refine r_aload_n hb 1 dX4_cutOut_0 rfl 0 rfl ?_
  refine r_get hb ho 4 dX4_cutOut_1 rfl lk_X4_14 pf_X4_0 gc rfl ?_
  refine r_iload_n hb 5 dX4_cutOut_4 rfl 1 rfl ?_
  refine r_iload_n hb 6 dX4_cutOut_5 rfl 2 rfl ?_
  refine r_callV0 (st := []) hb ho 9 dX4_cutOut_6 rfl ck_X4_72 (c_X7_cutLetters (g + 1) 120 D p m gT (by omega) hp) rfl rfl (gd) rfl rfl (by rw [hR0]; exact ⟨Nat.le_of_ble_eq_true rfl, Nat.le_of_ble_eq_true rfl⟩) (Nat.le_of_ble_eq_true rfl) ⟨rfl, rfl⟩ (by rw [hR0]; exact Nat.zero_le _) (by rw [hR0]; exact Nat.zero_le _) (fun w_6 nw_6 qw_6 => ?_)
  obtain ⟨rfl, hnew, ow_6⟩ := qw_6
  have hG := pgo_doc hG hnew ow_6
  obtain ⟨gc, gT, gcl, gnx, ⟨ga, gh⟩, ⟨gs1, gs2⟩, gN⟩ := id hG
  have gd := gT.1
  have gdl := gT.2.1
  refine r_iconst hb 10 dX4_cutOut_9 rfl ?_
  refine r_istore_n [(3, .int (iI 0)), (0, .ref g), (1, .int (iI (((p : Nat) : Int)))), (2, .int (iI (((m : Nat) : Int))))] hb 11 5 dX4_cutOut_10 rfl rfl hnL (by decide) rfl ?_
  refine r_iconst hb 12 dX4_cutOut_11 rfl ?_
  refine r_istore [(4, .int (iI 0)), (3, .int (iI 0)), (0, .ref g), (1, .int (iI (((p : Nat) : Int)))), (2, .int (iI (((m : Nat) : Int))))] hb 14 5 dX4_cutOut_12 rfl hnL (by decide) rfl ?_
  have lp : ∀ (d : Nat) (i : Nat) (wi : PW) (xi : Nat → Nt), l.length - i = d → (i ≤ l.length) → (pgo wi g (cutL D p m) h pa xi l.length nx) → (∀ j, j < i → xi j = mvDel p m (lg l j)) → (∀ j, i ≤ j → j < l.length → xi j = lg l j) → (off w wi g (g + 74)) → Wp S 14 [(4, .int (iI (((i : Nat) : Int)))), (3, .int (iI (((orN p m l i : Nat) : Int)))), (0, .ref g), (1, .int (iI (((p : Nat) : Int)))), (2, .int (iI (((m : Nat) : Int))))] [] wi n 0 0 := by
    intro d
    induction d using Nat.strongRecOn with
    | _ d ih_lp =>
      intro i wi xi hd_lp hi hG hlo hhi hO
      obtain ⟨gc, gT, gcl, gnx, ⟨ga, gh⟩, ⟨gs1, gs2⟩, gN⟩ := id hG
      have gd := gT.1
      have gdl := gT.2.1
      have hor := orN_le p m l i
      refine r_iload hb 16 dX4_cutOut_14 rfl 0 rfl ?_
      refine r_aload_n hb 17 dX4_cutOut_16 rfl 2 rfl ?_
      refine r_get hb ho 20 dX4_cutOut_17 rfl lk_X4_31 pf_X4_2 gc rfl ?_
      refine r_icmp_ge hb 23 57 dX4_cutOut_20 rfl (by decide) (by omega) (by omega) (fun c20 => ?_) (fun c20 => ?_)
      · refine r_iload_n hb 58 dX4_cutOut_57 rfl 1 rfl ?_
        refine r_iret hS dX4_cutOut_58 rfl rfl (Nat.zero_le _) (Nat.zero_le _) ?_
        have ei : i = l.length := by omega
        subst ei
        exact ⟨_, rfl, rfl, rfl, ⟨h, pa, xi, by rw [List.length_map]; exact hG, fun j hj => by rw [List.length_map] at hj; rw [lg_map _ _ hj]; exact hlo j hj⟩, hO⟩
      · refine r_iload hb 25 dX4_cutOut_23 rfl 0 rfl ?_
        refine r_aload_n hb 26 dX4_cutOut_25 rfl 2 rfl ?_
        refine r_get hb ho 29 dX4_cutOut_26 rfl lk_X4_22 pf_X4_1 gc rfl ?_
        refine r_alen hb 30 dX4_cutOut_29 rfl ga (by decide) 10 rfl ?_
        refine r_icmp_ge hb 33 57 dX4_cutOut_30 rfl (by decide) (by omega) (by omega) (fun c30 => ?_) (fun c30 => ?_)
        · exfalso; omega
        · refine r_aload_n hb 34 dX4_cutOut_33 rfl 2 rfl ?_
          refine r_get hb ho 37 dX4_cutOut_34 rfl lk_X4_22 pf_X4_1 gc rfl ?_
          refine r_iload hb 39 dX4_cutOut_37 rfl 0 rfl ?_
          refine r_aald hb 40 dX4_cutOut_39 rfl ga (by decide) i (by omega) (⟨by omega, by omega⟩) (pa i) (gh i (by omega)) ?_
          have n0 := (gN i (by omega)).1
          have hsn0 := gs1 i (by omega)
          have hqn0 := (gN i (by omega)).2.2.2.2
          refine r_iload_n hb 41 dX4_cutOut_40 rfl 3 rfl ?_
          refine r_iload_n hb 42 dX4_cutOut_41 rfl 4 rfl ?_
          refine r_callV1 (st := []) hb ho 45 dX4_cutOut_42 rfl ck_X4_75 (c_X3_moveForDelete (pa i) (xi i) p m (gN i (by omega)) (by omega) (by omega)) rfl rfl (n0) rfl rfl (by rw [hR0]; exact ⟨Nat.le_of_ble_eq_true rfl, Nat.le_of_ble_eq_true rfl⟩) (Nat.le_of_ble_eq_true rfl) ⟨rfl, rfl⟩ (by rw [hR0]; exact Nat.zero_le _) (by rw [hR0]; exact Nat.zero_le _) (fun vw_42 w_42 nw_42 qw_42 => ?_)
          obtain ⟨rfl, rfl, hnew, ow_42⟩ := qw_42
          have hG := pgo_note hG (by omega) hnew ow_42
          obtain ⟨gc, gT, gcl, gnx, ⟨ga, gh⟩, ⟨gs1, gs2⟩, gN⟩ := id hG
          have gd := gT.1
          have gdl := gT.2.1
          refine r_ifb_eq hb 48 51 dX4_cutOut_45 rfl (by decide) (fun c45 => ?_) (fun c45 => ?_)
          · refine r_iinc [(4, .int (iI (((i : Nat) : Int) + 1))), (3, .int (iI (((orN p m l i : Nat) : Int)))), (0, .ref g), (1, .int (iI (((p : Nat) : Int)))), (2, .int (iI (((m : Nat) : Int))))] hb 54 5 0 dX4_cutOut_51 rfl rfl hnL (by decide) (((i : Nat) : Int) + 1) (by omega) rfl ?_
            refine r_goto hb 14 dX4_cutOut_54 (by decide) ?_
            rw [hhi i (Nat.le_refl _) (by omega)] at c45
            have e : orN p m l (i + 1) = orN p m l i := by simp only [orN]; rw [c45]; rfl
            refine r_lv [(4, .int (iI (((i + 1 : Nat)) : Int))), (3, .int (iI ((orN p m l (i + 1) : Nat) : Int))), (0, .ref g), (1, .int (iI ((p : Nat) : Int))), (2, .int (iI ((m : Nat) : Int)))] [0, 1, 2, 3, 4] (by rw [e]; rfl) ?_
            refine ih_lp (l.length - (i + 1)) (by omega) (i + 1) _ _ rfl (by omega) hG ?_ ?_ (hO.trans (ow_42.mono (by omega) (by omega)))
            · intro j hj
              by_cases e : j = i
              · subst e; rw [updX_s, hhi j (Nat.le_refl _) (by omega)]
              · rw [updX_n _ _ e]; exact hlo j (by omega)
            · intro j hj hj2
              rw [updX_n _ _ (by omega)]; exact hhi j (by omega) hj2
          · refine r_iinc [(3, .int (iI (((orN p m l i : Nat) : Int) + 1))), (4, .int (iI (((i : Nat) : Int)))), (0, .ref g), (1, .int (iI (((p : Nat) : Int)))), (2, .int (iI (((m : Nat) : Int))))] hb 51 5 1 dX4_cutOut_48 rfl rfl hnL (by decide) (((orN p m l i : Nat) : Int) + 1) (by omega) rfl ?_
            refine r_iinc [(4, .int (iI (((i : Nat) : Int) + 1))), (3, .int (iI (((orN p m l i : Nat) : Int) + 1))), (0, .ref g), (1, .int (iI (((p : Nat) : Int)))), (2, .int (iI (((m : Nat) : Int))))] hb 54 5 1 dX4_cutOut_51 rfl rfl hnL (by decide) (((i : Nat) : Int) + 1) (by omega) rfl ?_
            refine r_goto hb 14 dX4_cutOut_54 (by decide) ?_
            rw [hhi i (Nat.le_refl _) (by omega)] at c45
            have e : orN p m l (i + 1) = orN p m l i + 1 := by simp only [orN]; rw [c45]; rfl
            refine r_lv [(4, .int (iI (((i + 1 : Nat)) : Int))), (3, .int (iI ((orN p m l (i + 1) : Nat) : Int))), (0, .ref g), (1, .int (iI ((p : Nat) : Int))), (2, .int (iI ((m : Nat) : Int)))] [0, 1, 2, 3, 4] (by rw [e]; rfl) ?_
            refine ih_lp (l.length - (i + 1)) (by omega) (i + 1) _ _ rfl (by omega) hG ?_ ?_ (hO.trans (ow_42.mono (by omega) (by omega)))
            · intro j hj
              by_cases e : j = i
              · subst e; rw [updX_s, hhi j (Nat.le_refl _) (by omega)]
              · rw [updX_n _ _ e]; exact hlo j (by omega)
            · intro j hj hj2
              rw [updX_n _ _ (by omega)]; exact hhi j (by omega) hj2
  refine r_lv [(4, .int (iI (((0 : Nat)) : Int))), (3, .int (iI ((orN p m l 0 : Nat) : Int))), (0, .ref g), (1, .int (iI ((p : Nat) : Int))), (2, .int (iI ((m : Nat) : Int)))] [0, 1, 2, 3, 4] rfl ?_
  exact lp _ 0 _ xs rfl (Nat.zero_le _) hG (fun j hj => absurd hj (Nat.not_lt_zero _)) (fun j _ hj => hx j hj) (ow_6.mono (by omega) (by omega))

abbrev rm_X4_addNote : Room := { frames := 4, cells := 0, slots := 0, locals := 90 }
set_option maxHeartbeats 4000000 in
set_option maxRecDepth 100000 in
theorem c_X4_addNote (g nx b e : Nat) (D : List Int32) (l : List Nt) {w : PW} {n : Nat} (hP : pg w g D l nx) (hl : l.length < 10) (hnx : nx + 1 < 1000000) (hb2 : b ≤ 200) (he2 : e ≤ 200) (he : e - b ≤ 16) : Ct1 yX4_addNote cX4_addNote 4 (some .int) rm_X4_addNote [.ref g, .int (iI (((b : Nat) : Int))), .int (iI (((e : Nat) : Int)))] w n (fun v w1 n1 => v = .int (iI ((nx : Nat) : Int)) ∧ n = n1 ∧ pg w1 g D (l ++ [mkN D nx b e]) (nx + 1) ∧ off w w1 g (g + 74)) := by
  obtain ⟨h, pa, xs, hG, hx⟩ := id hP
  obtain ⟨gc, gT, gcl, gnx, ⟨ga, gh⟩, ⟨gs1, gs2⟩, gN⟩ := id hG
  have gd := gT.1
  have gdl := gT.2.1
  refine Ctr.of rfl (Nat.le_of_ble_eq_true rfl) fun S hS => ?_
  have hb : S.1.1 = cX4_addNote := by rw [hS]; rfl
  have ho : S.1.2.1 = RX4 := by rw [hS]; rfl
  have hnL : S.1.2.2.1 = 4 := by rw [hS]; rfl
  have hR0 : S.2.1 = rm_X4_addNote := by rw [hS]; rfl
  show Wp S 0 [(0, .ref g), (1, .int (iI (((b : Nat) : Int)))), (2, .int (iI (((e : Nat) : Int))))] [] w n 0 0
  refine r_aload_n hb 1 dX4_addNote_0 rfl 0 rfl ?_
  refine r_get hb ho 4 dX4_addNote_1 rfl lk_X4_31 pf_X4_2 gc rfl ?_
  refine r_if_lt hb 7 19 dX4_addNote_4 rfl (by decide) (by omega) (fun c4 => ?_) (fun c4 => ?_)
  · exfalso; omega
  · refine r_aload_n hb 8 dX4_addNote_7 rfl 0 rfl ?_
    refine r_get hb ho 11 dX4_addNote_8 rfl lk_X4_31 pf_X4_2 gc rfl ?_
    refine r_aload_n hb 12 dX4_addNote_11 rfl 0 rfl ?_
    refine r_get hb ho 15 dX4_addNote_12 rfl lk_X4_22 pf_X4_1 gc rfl ?_
    refine r_alen hb 16 dX4_addNote_15 rfl ga (by decide) 10 rfl ?_
    refine r_icmp_lt hb 19 23 dX4_addNote_16 rfl (by decide) (by omega) (by omega) (fun c16 => ?_) (fun c16 => ?_)
    · refine r_aload_n hb 24 dX4_addNote_23 rfl 0 rfl ?_
      refine r_get hb ho 27 dX4_addNote_24 rfl lk_X4_41 pf_X4_3 gc rfl ?_
      refine r_istore_n [(3, .int (iI (((nx : Nat) : Int)))), (0, .ref g), (1, .int (iI (((b : Nat) : Int)))), (2, .int (iI (((e : Nat) : Int))))] hb 28 4 dX4_addNote_27 rfl rfl hnL (by decide) rfl ?_
      refine r_aload_n hb 29 dX4_addNote_28 rfl 1 rfl ?_
      refine r_get hb ho 32 dX4_addNote_29 rfl lk_X4_22 pf_X4_1 gc rfl ?_
      refine r_aload_n hb 33 dX4_addNote_32 rfl 1 rfl ?_
      refine r_get hb ho 36 dX4_addNote_33 rfl lk_X4_31 pf_X4_2 gc rfl ?_
      refine r_aald hb 37 dX4_addNote_36 rfl ga (by decide) l.length (by omega) (⟨by omega, by omega⟩) (pa l.length) (gh l.length (by omega)) ?_
      have n0 := (gN l.length (by omega)).1
      have hsn0 := gs1 l.length (by omega)
      have hqn0 := (gN l.length (by omega)).2.2.2.2
      refine r_iload_n hb 38 dX4_addNote_37 rfl 0 rfl ?_
      refine r_iload_n hb 39 dX4_addNote_38 rfl 2 rfl ?_
      refine r_iload_n hb 40 dX4_addNote_39 rfl 3 rfl ?_
      refine r_aload_n hb 41 dX4_addNote_40 rfl 1 rfl ?_
      refine r_get hb ho 44 dX4_addNote_41 rfl lk_X4_14 pf_X4_0 gc rfl ?_
      refine r_callV0 (st := []) hb ho 47 dX4_addNote_44 rfl ck_X4_54 (c_X3_begin (pa l.length) (g + 1) nx b e (xs l.length) D (gN _ (by omega)) gT (by omega) (by omega) hb2 he2 he) rfl rfl (n0) rfl rfl (by rw [hR0]; exact ⟨Nat.le_of_ble_eq_true rfl, Nat.le_of_ble_eq_true rfl⟩) (Nat.le_of_ble_eq_true rfl) ⟨rfl, rfl⟩ (by rw [hR0]; exact Nat.zero_le _) (by rw [hR0]; exact Nat.zero_le _) (fun w_44 nw_44 qw_44 => ?_)
      obtain ⟨rfl, hnew, ow_44⟩ := qw_44
      have hG := pgo_note hG (by omega) hnew ow_44
      obtain ⟨gc, gT, gcl, gnx, ⟨ga, gh⟩, ⟨gs1, gs2⟩, gN⟩ := id hG
      have gd := gT.1
      have gdl := gT.2.1
      refine r_aload_n hb 48 dX4_addNote_47 rfl 1 rfl ?_
      refine r_dup hb 49 dX4_addNote_48 rfl rfl ?_
      refine r_get hb ho 52 dX4_addNote_49 rfl lk_X4_31 pf_X4_2 gc rfl ?_
      refine r_iconst hb 53 dX4_addNote_52 rfl ?_
      refine r_iaddZ hb 54 (((l.length : Nat) : Int) + 1) dX4_addNote_53 rfl (by omega) ?_
      refine r_put hb ho 57 dX4_addNote_54 rfl lk_X4_31 pf_X4_2 gc (Nat.le_of_ble_eq_true rfl) ⟨rfl, rfl⟩ (fun w_54 hw_54 => ?_)
      have ow_54 := pset_off hw_54
      have xw_54 : w_54 g = some (eO 4 [.ref (g + 1), .ref (g + 3), .int (iI (((l.length : Nat) : Int) + 1)), .int (iI (((nx : Nat) : Int)))]) := by rw [hw_54]; exact pset_eq _ _ _
      have ga : w_54 (g + 3) = some (eQ 3 10 h) := (ow_54 _ (by omega)).trans ga
      have gT : tx w_54 (g + 1) 120 D := gT.off ow_54 (by omega)
      have gd : w_54 (g + 1) = some (eO 7 [.ref (g + 1 + 1), .int (iI (((D.length : Nat) : Int)))]) := (ow_54 _ (by omega)).trans gd
      refine r_aload_n hb 58 dX4_addNote_57 rfl 1 rfl ?_
      refine r_dup hb 59 dX4_addNote_58 rfl rfl ?_
      refine r_get hb ho 62 dX4_addNote_59 rfl lk_X4_41 pf_X4_3 xw_54 rfl ?_
      refine r_iconst hb 63 dX4_addNote_62 rfl ?_
      refine r_iaddZ hb 64 (((nx : Nat) : Int) + 1) dX4_addNote_63 rfl (by omega) ?_
      refine r_put hb ho 67 dX4_addNote_64 rfl lk_X4_41 pf_X4_3 xw_54 (Nat.le_of_ble_eq_true rfl) ⟨rfl, rfl⟩ (fun w_64 hw_64 => ?_)
      have ow_64 := pset_off hw_64
      have xw_64 : w_64 g = some (eO 4 [.ref (g + 1), .ref (g + 3), .int (iI (((l.length : Nat) : Int) + 1)), .int (iI (((nx : Nat) : Int) + 1))]) := by rw [hw_64]; exact pset_eq _ _ _
      have ga : w_64 (g + 3) = some (eQ 3 10 h) := (ow_64 _ (by omega)).trans ga
      have gT : tx w_64 (g + 1) 120 D := gT.off ow_64 (by omega)
      have gd : w_64 (g + 1) = some (eO 7 [.ref (g + 1 + 1), .int (iI (((D.length : Nat) : Int)))]) := (ow_64 _ (by omega)).trans gd
      refine r_iload_n hb 68 dX4_addNote_67 rfl 0 rfl ?_
      refine r_iret hS dX4_addNote_68 rfl rfl (Nat.zero_le _) (Nat.zero_le _) ?_
      have hG := pgo_head (c1 := l.length + 1) (nx1 := nx + 1) hG xw_64 (by omega) (by omega) ((ow_54.mono (by omega) (by omega)).trans (ow_64.mono (by omega) (by omega)))
      refine ⟨_, rfl, rfl, rfl, ⟨h, pa, _, by rw [List.length_append]; exact hG, fun j hj => ?_⟩, ((ow_44.mono (by omega) (by omega)).trans (ow_54.mono (by omega) (by omega))).trans (ow_64.mono (by omega) (by omega))⟩
      rw [List.length_append] at hj
      by_cases e1 : j = l.length
      · subst e1; rw [updX_s, lg_app2]; rfl
      · have h3 : j < l.length := by simp at hj; omega
        rw [updX_n _ _ e1, lg_app1 _ _ h3]; exact hx j h3
    · exfalso; omega

abbrev rm_X4_drop : Room := { frames := 0, cells := 0, slots := 0, locals := 0 }
set_option maxHeartbeats 4000000 in
set_option maxRecDepth 100000 in
theorem c_X4_drop (g nx i : Nat) (D : List Int32) (l : List Nt) {w : PW} {n : Nat} (hP : pg w g D l nx) (hil : i < l.length) : Ct0 yX4_drop cX4_drop 4 none rm_X4_drop [.ref g, .int (iI (((i : Nat) : Int)))] w n (fun w1 n1 => n = n1 ∧ pg w1 g D (l.eraseIdx i) nx ∧ off w w1 g (g + 74)) := by
  obtain ⟨h, pa, xs, hG, hx⟩ := id hP
  obtain ⟨gc, gT, gcl, gnx, ⟨ga, gh⟩, ⟨gs1, gs2⟩, gN⟩ := id hG
  have gd := gT.1
  have gdl := gT.2.1
  refine Ctr.of rfl (Nat.le_of_ble_eq_true rfl) fun S hS => ?_
  have hb : S.1.1 = cX4_drop := by rw [hS]; rfl
  have ho : S.1.2.1 = RX4 := by rw [hS]; rfl
  have hnL : S.1.2.2.1 = 4 := by rw [hS]; rfl
  have hR0 : S.2.1 = rm_X4_drop := by rw [hS]; rfl
  show Wp S 0 [(0, .ref g), (1, .int (iI (((i : Nat) : Int))))] [] w n 0 0
  refine r_iload_n hb 1 dX4_drop_0 rfl 1 rfl ?_
  refine r_if_lt hb 4 24 dX4_drop_1 rfl (by decide) (by omega) (fun c1 => ?_) (fun c1 => ?_)
  · exfalso; omega
  · refine r_iload_n hb 5 dX4_drop_4 rfl 1 rfl ?_
    refine r_aload_n hb 6 dX4_drop_5 rfl 0 rfl ?_
    refine r_get hb ho 9 dX4_drop_6 rfl lk_X4_31 pf_X4_2 gc rfl ?_
    refine r_icmp_ge hb 12 24 dX4_drop_9 rfl (by decide) (by omega) (by omega) (fun c9 => ?_) (fun c9 => ?_)
    · exfalso; omega
    · refine r_aload_n hb 13 dX4_drop_12 rfl 0 rfl ?_
      refine r_get hb ho 16 dX4_drop_13 rfl lk_X4_31 pf_X4_2 gc rfl ?_
      refine r_aload_n hb 17 dX4_drop_16 rfl 0 rfl ?_
      refine r_get hb ho 20 dX4_drop_17 rfl lk_X4_22 pf_X4_1 gc rfl ?_
      refine r_alen hb 21 dX4_drop_20 rfl ga (by decide) 10 rfl ?_
      refine r_icmp_le hb 24 25 dX4_drop_21 rfl (by decide) (by omega) (by omega) (fun c21 => ?_) (fun c21 => ?_)
      · refine r_aload_n hb 26 dX4_drop_25 rfl 0 rfl ?_
        refine r_get hb ho 29 dX4_drop_26 rfl lk_X4_22 pf_X4_1 gc rfl ?_
        refine r_iload_n hb 30 dX4_drop_29 rfl 1 rfl ?_
        refine r_aald hb 31 dX4_drop_30 rfl ga (by decide) i (by omega) (⟨by omega, by omega⟩) (pa i) (gh i (by omega)) ?_
        have n0 := (gN i (by omega)).1
        have hsn0 := gs1 i (by omega)
        have hqn0 := (gN i (by omega)).2.2.2.2
        refine r_astore_n [(2, .ref (pa i)), (0, .ref g), (1, .int (iI (((i : Nat) : Int))))] hb 32 4 dX4_drop_31 rfl rfl hnL (by decide) rfl ?_
        refine r_iload_n hb 33 dX4_drop_32 rfl 2 rfl ?_
        refine r_iconst hb 34 dX4_drop_33 rfl ?_
        refine r_iaddZ hb 35 (((i : Nat) : Int) + 1) dX4_drop_34 rfl (by omega) ?_
        refine r_istore_n [(3, .int (iI (((i : Nat) : Int) + 1))), (2, .ref (pa i)), (0, .ref g), (1, .int (iI (((i : Nat) : Int))))] hb 36 4 dX4_drop_35 rfl rfl hnL (by decide) rfl ?_
        have lp : ∀ (d : Nat) (k : Nat) (wi : PW) (hi : Nat → Option Nat), l.length - k = d → (i + 1 ≤ k) → (k ≤ l.length) → (wi g = some (eO 4 [.ref (g + 1), .ref (g + 3), .int (iI ((l.length : Nat) : Int)), .int (iI ((nx : Nat) : Int))])) → (wi (g + 3) = some (eQ 3 10 hi)) → (∀ j, j < i → hi j = some (pa j)) → (∀ j, i ≤ j → j < k - 1 → hi j = some (pa (j + 1))) → (∀ j, k - 1 ≤ j → j < 10 → hi j = some (pa j)) → (off w wi (g + 3) (g + 4)) → Wp S 36 [(3, .int (iI (((k : Nat) : Int)))), (2, .ref (pa i)), (0, .ref g), (1, .int (iI (((i : Nat) : Int))))] [] wi n 0 0 := by
          intro d
          induction d using Nat.strongRecOn with
          | _ d ih_lp =>
            intro k wi hi hd_lp hk hk2 gc ga g1 g2 g3 hO
            refine r_iload_n hb 37 dX4_drop_36 rfl 0 rfl ?_
            refine r_aload_n hb 38 dX4_drop_37 rfl 2 rfl ?_
            refine r_get hb ho 41 dX4_drop_38 rfl lk_X4_31 pf_X4_2 gc rfl ?_
            refine r_icmp_ge hb 44 64 dX4_drop_41 rfl (by decide) (by omega) (by omega) (fun c41 => ?_) (fun c41 => ?_)
            · refine r_aload_n hb 65 dX4_drop_64 rfl 2 rfl ?_
              refine r_dup hb 66 dX4_drop_65 rfl rfl ?_
              refine r_get hb ho 69 dX4_drop_66 rfl lk_X4_31 pf_X4_2 gc rfl ?_
              refine r_iconst hb 70 dX4_drop_69 rfl ?_
              refine r_isubZ hb 71 ((((l.length - 1 : Nat) : Nat) : Int)) dX4_drop_70 rfl (by omega) ?_
              refine r_put hb ho 74 dX4_drop_71 rfl lk_X4_31 pf_X4_2 gc (Nat.le_of_ble_eq_true rfl) ⟨rfl, rfl⟩ (fun w_71 hw_71 => ?_)
              have ow_71 := pset_off hw_71
              have xw_71 : w_71 g = some (eO 4 [.ref (g + 1), .ref (g + 3), .int (iI ((((l.length - 1 : Nat) : Nat) : Int))), .int (iI (((nx : Nat) : Int)))]) := by rw [hw_71]; exact pset_eq _ _ _
              have ga : w_71 (g + 3) = some (eQ 3 10 hi) := (ow_71 _ (by omega)).trans ga
              refine r_aload_n hb 75 dX4_drop_74 rfl 2 rfl ?_
              refine r_get hb ho 78 dX4_drop_75 rfl lk_X4_22 pf_X4_1 xw_71 rfl ?_
              refine r_aload_n hb 79 dX4_drop_78 rfl 2 rfl ?_
              refine r_get hb ho 82 dX4_drop_79 rfl lk_X4_31 pf_X4_2 xw_71 rfl ?_
              refine r_aload_n hb 83 dX4_drop_82 rfl 1 rfl ?_
              refine r_aast hb 84 dX4_drop_83 rfl ga (((gN i (by omega)).off hO (by have := gs1 i (by omega); omega)).off ow_71 (by have := gs1 i (by omega); omega)).1 rfl (Or.inr (Or.inl ⟨rfl, rfl⟩)) (((l.length - 1 : Nat))) (by omega) (⟨by omega, by omega⟩) (fun w_83 hw_83 => ?_)
              have ow_83 := pset_off hw_83
              have xw_83 : w_83 (g + 3) = some (eQ 3 10 (va_up hi (((l.length - 1 : Nat))) (some (pa i)))) := by rw [hw_83]; exact pset_eq _ _ _
              have xw_71 : w_83 g = some (eO 4 [.ref (g + 1), .ref (g + 3), .int (iI ((((l.length - 1 : Nat) : Nat) : Int))), .int (iI (((nx : Nat) : Int)))]) := (ow_83 _ (by omega)).trans xw_71
              refine r_vret hS dX4_drop_84 rfl (Nat.zero_le _) (Nat.zero_le _) ?_
              have hel : (l.eraseIdx i).length = l.length - 1 := by rw [List.length_eraseIdx]; simp [hil]
              have hO2 : off w w_83 g (g + 4) := ((hO.mono (by omega) (by omega)).trans (ow_71.mono (by omega) (by omega))).trans (ow_83.mono (by omega) (by omega))
              let s : Nat → Nat := fun j => if j < i then j else if j < l.length - 1 then j + 1 else if j = l.length - 1 then i else j
              refine ⟨rfl, rfl, ⟨_, fun j => pa (s j), fun j => xs (s j), ⟨?_, ?_, by rw [hel]; omega, gnx, ⟨xw_83, ?_⟩, ?_, ?_⟩, ?_⟩, hO2.mono (by omega) (by omega)⟩
              · rw [hel]; exact xw_71
              · obtain ⟨t0, t1, tg, t2, t3⟩ := gT
                have o3 : ∀ q, q ≠ g → q ≠ g + 3 → w_83 q = w q := fun q q1 q2 => ((ow_83 q (by omega)).trans (ow_71 q (by omega))).trans (hO q (by omega))
                exact ⟨(o3 _ (by omega) (by omega)).trans t0, t1, tg, (o3 _ (by omega) (by omega)).trans t2, t3⟩
              · intro j hj
                simp only [va_up, s]
                by_cases e : j = l.length - 1
                · rw [if_pos e, if_neg (by omega), if_neg (by omega), if_pos e]
                · rw [if_neg e]
                  by_cases e1 : j < i
                  · rw [if_pos e1]; exact g1 j e1
                  · by_cases e2 : j < l.length - 1
                    · rw [if_neg e1, if_pos e2]; exact g2 j (by omega) (by omega)
                    · rw [if_neg e1, if_neg e2, if_neg e]; exact g3 j (by omega) hj
              · refine shp.swap ⟨gs1, gs2⟩ s ?_ ?_ (fun j _ => rfl)
                · intro j hj
                  simp only [s]; (repeat' split) <;> omega
                · intro a b ha hb hab
                  simp only [s]; (repeat' split) <;> omega
              · intro j hj
                have hs : s j < 10 := by simp only [s]; (repeat' split) <;> omega
                exact (gN _ hs).off hO2 (by have := gs1 _ hs; omega)
              · intro j hj
                rw [hel] at hj
                have e0 : s j = if j < i then j else j + 1 := by simp only [s]; (repeat' split) <;> omega
                show xs (s j) = _
                rw [lg_erase, e0]
                split
                · exact hx j (by omega)
                · exact hx (j + 1) (by omega)
            · refine r_aload_n hb 45 dX4_drop_44 rfl 2 rfl ?_
              refine r_get hb ho 48 dX4_drop_45 rfl lk_X4_22 pf_X4_1 gc rfl ?_
              refine r_iload_n hb 49 dX4_drop_48 rfl 0 rfl ?_
              refine r_iconst hb 50 dX4_drop_49 rfl ?_
              refine r_isubZ hb 51 ((((k - 1 : Nat) : Nat) : Int)) dX4_drop_50 rfl (by omega) ?_
              refine r_aload_n hb 52 dX4_drop_51 rfl 2 rfl ?_
              refine r_get hb ho 55 dX4_drop_52 rfl lk_X4_22 pf_X4_1 gc rfl ?_
              refine r_iload_n hb 56 dX4_drop_55 rfl 0 rfl ?_
              refine r_aald hb 57 dX4_drop_56 rfl ga (by decide) k (by omega) (⟨by omega, by omega⟩) (pa k) (g3 k (by omega) (by omega)) ?_
              refine r_aast hb 58 dX4_drop_57 rfl ga ((gN k (by omega)).off hO (by have := gs1 k (by omega); omega)).1 rfl (Or.inr (Or.inl ⟨rfl, rfl⟩)) (((k - 1 : Nat))) (by omega) (⟨by omega, by omega⟩) (fun w_57 hw_57 => ?_)
              have ow_57 := pset_off hw_57
              have xw_57 : w_57 (g + 3) = some (eQ 3 10 (va_up hi (((k - 1 : Nat))) (some (pa k)))) := by rw [hw_57]; exact pset_eq _ _ _
              have gc : w_57 g = some (eO 4 [.ref (g + 1), .ref (g + 3), .int (iI (((l.length : Nat) : Int))), .int (iI (((nx : Nat) : Int)))]) := (ow_57 _ (by omega)).trans gc
              refine r_iinc [(3, .int (iI (((k : Nat) : Int) + 1))), (2, .ref (pa i)), (0, .ref g), (1, .int (iI (((i : Nat) : Int))))] hb 61 4 0 dX4_drop_58 rfl rfl hnL (by decide) (((k : Nat) : Int) + 1) (by omega) rfl ?_
              refine r_goto hb 36 dX4_drop_61 (by decide) ?_
              refine r_lv [(3, .int (iI (((k + 1 : Nat)) : Int))), (2, .ref (pa i)), (0, .ref g), (1, .int (iI ((i : Nat) : Int)))] [0, 1, 2, 3] rfl ?_
              refine ih_lp (l.length - (k + 1)) (by omega) (k + 1) _ _ rfl (by omega) (by omega) gc xw_57 ?_ ?_ ?_ (hO.trans (ow_57.mono (by omega) (by omega)))
              · intro j hj
                simp only [va_up]; rw [if_neg (by omega)]; exact g1 j hj
              · intro j hj hj2
                simp only [va_up]
                by_cases e : j = k - 1
                · rw [if_pos e, e, show k - 1 + 1 = k by omega]
                · rw [if_neg e]; exact g2 j hj (by omega)
              · intro j hj hj2
                simp only [va_up]; rw [if_neg (by omega)]; exact g3 j (by omega) hj2
        refine r_lv [(3, .int (iI (((i + 1 : Nat)) : Int))), (2, .ref (pa i)), (0, .ref g), (1, .int (iI ((i : Nat) : Int)))] [0, 1, 2, 3] rfl ?_
        exact lp _ (i + 1) _ h rfl (Nat.le_refl _) (by omega) gc ga (fun j hj => gh j (by omega)) (fun j h1 h2 => absurd h2 (by omega)) (fun j _ hj => gh j hj) (off.rfl' _ _ _)
      · exfalso; omega

abbrev rm_X4_mergeTwins : Room := { frames := 2, cells := 0, slots := 0, locals := 43 }
set_option maxHeartbeats 4000000 in
set_option maxRecDepth 100000 in
theorem c_X4_mergeTwins (g nx : Nat) (D : List Int32) (l : List Nt) {w : PW} {n : Nat} (hP : pg w g D l nx) : Ct1 yX4_mergeTwins cX4_mergeTwins 4 (some .int) rm_X4_mergeTwins [.ref g] w n (fun v w1 n1 => v = .int (iI (((mgN l.length l 0).2 : Nat) : Int)) ∧ n = n1 ∧ pg w1 g D (mgN l.length l 0).1 nx ∧ off w w1 g (g + 74)) := by
  obtain ⟨h, pa, xs, hG, hx⟩ := id hP
  obtain ⟨gc, gT, gcl, gnx, ⟨ga, gh⟩, ⟨gs1, gs2⟩, gN⟩ := id hG
  have gd := gT.1
  have gdl := gT.2.1
  refine Ctr.of rfl (Nat.le_of_ble_eq_true rfl) fun S hS => ?_
  have hb : S.1.1 = cX4_mergeTwins := by rw [hS]; rfl
  have ho : S.1.2.1 = RX4 := by rw [hS]; rfl
  have hnL : S.1.2.2.1 = 4 := by rw [hS]; rfl
  have hR0 : S.2.1 = rm_X4_mergeTwins := by rw [hS]; rfl
  show Wp S 0 [(0, .ref g)] [] w n 0 0
  refine r_iconst hb 1 dX4_mergeTwins_0 rfl ?_
  refine r_istore_n [(1, .int (iI 0)), (0, .ref g)] hb 2 4 dX4_mergeTwins_1 rfl rfl hnL (by decide) rfl ?_
  refine r_aload_n hb 3 dX4_mergeTwins_2 rfl 1 rfl ?_
  refine r_get hb ho 6 dX4_mergeTwins_3 rfl lk_X4_31 pf_X4_2 gc rfl ?_
  refine r_iconst hb 7 dX4_mergeTwins_6 rfl ?_
  refine r_isubZ hb 8 (((l.length : Nat) : Int) - 1) dX4_mergeTwins_7 rfl (by omega) ?_
  refine r_istore_n [(2, .int (iI (((l.length : Nat) : Int) - 1))), (1, .int (iI 0)), (0, .ref g)] hb 9 4 dX4_mergeTwins_8 rfl rfl hnL (by decide) rfl ?_
  have lp : ∀ (d : Nat) (k r : Nat) (wi : PW) (lk : List Nt), k = d → (k ≤ lk.length) → (r + k ≤ 10) → (pg wi g D lk nx) → (mgN k lk r = mgN l.length l 0) → (off w wi g (g + 74)) → Wp S 9 [(2, .int (iI (((k : Nat) : Int) - 1))), (1, .int (iI (((r : Nat) : Int)))), (0, .ref g)] [] wi n 0 0 := by
    intro d
    induction d using Nat.strongRecOn with
    | _ d ih_lp =>
      intro k r wi lk hd_lp hk hrk hP hm hO
      obtain ⟨h, pa, xs, hG, hx⟩ := id hP
      obtain ⟨gc, gT, gcl, gnx, ⟨ga, gh⟩, ⟨gs1, gs2⟩, gN⟩ := id hG
      have gd := gT.1
      have gdl := gT.2.1
      refine r_iload_n hb 10 dX4_mergeTwins_9 rfl 0 rfl ?_
      refine r_if_lt hb 13 78 dX4_mergeTwins_10 rfl (by decide) (by omega) (fun c10 => ?_) (fun c10 => ?_)
      · refine r_iload_n hb 79 dX4_mergeTwins_78 rfl 1 rfl ?_
        refine r_iret hS dX4_mergeTwins_79 rfl rfl (Nat.zero_le _) (Nat.zero_le _) ?_
        have ek : k = 0 := by omega
        subst ek
        simp only [mgN] at hm
        rw [← hm]
        exact ⟨_, rfl, rfl, rfl, hP, hO⟩
      · refine r_iload_n hb 14 dX4_mergeTwins_13 rfl 0 rfl ?_
        refine r_aload_n hb 15 dX4_mergeTwins_14 rfl 2 rfl ?_
        refine r_get hb ho 18 dX4_mergeTwins_15 rfl lk_X4_22 pf_X4_1 gc rfl ?_
        refine r_alen hb 19 dX4_mergeTwins_18 rfl ga (by decide) 10 rfl ?_
        refine r_icmp_ge hb 22 78 dX4_mergeTwins_19 rfl (by decide) (by omega) (by omega) (fun c19 => ?_) (fun c19 => ?_)
        · exfalso; omega
        · refine r_lv [(2, .int (iI (((k - 1 : Nat)) : Int))), (1, .int (iI ((r : Nat) : Int))), (0, .ref g)] [0, 1, 2] (by rw [show ((k - 1 : Nat) : Int) = (k : Int) - 1 by omega]; rfl) ?_
          refine r_aload_n hb 23 dX4_mergeTwins_22 rfl 2 rfl ?_
          refine r_iload_n hb 24 dX4_mergeTwins_23 rfl 0 rfl ?_
          have hk1 : 0 < k := by omega
          refine r_callVR (st := []) hb ho 27 dX4_mergeTwins_24 rfl ck_X4_79 (c_X4_firstTwin g nx (k - 1) D lk hP (by omega)) rfl rfl (gc) rfl rfl (by rw [hR0]; exact ⟨Nat.le_of_ble_eq_true rfl, Nat.le_of_ble_eq_true rfl⟩) (Nat.le_of_ble_eq_true rfl) ⟨rfl, rfl⟩ (by rw [hR0]; exact Nat.zero_le _) (by rw [hR0]; exact Nat.zero_le _) ?_
          by_cases hft : ftN lk (k - 1) < k - 1
          · refine r_topz ((ftN lk (k - 1) : Nat) : Int) (by unfold ftZ; rw [if_pos hft]) ?_
            refine r_istore_n [(3, .int (iI (((ftN lk (k - 1) : Nat) : Int)))), (2, .int (iI ((((k - 1 : Nat) : Nat) : Int)))), (1, .int (iI (((r : Nat) : Int)))), (0, .ref g)] hb 28 4 dX4_mergeTwins_27 rfl rfl hnL (by decide) rfl ?_
            refine r_iload_n hb 29 dX4_mergeTwins_28 rfl 0 rfl ?_
            refine r_if_lt hb 32 72 dX4_mergeTwins_29 rfl (by decide) (by omega) (fun c29 => ?_) (fun c29 => ?_)
            · exfalso; omega
            · refine r_iload_n hb 33 dX4_mergeTwins_32 rfl 0 rfl ?_
              refine r_aload_n hb 34 dX4_mergeTwins_33 rfl 3 rfl ?_
              refine r_get hb ho 37 dX4_mergeTwins_34 rfl lk_X4_22 pf_X4_1 gc rfl ?_
              refine r_alen hb 38 dX4_mergeTwins_37 rfl ga (by decide) 10 rfl ?_
              refine r_icmp_ge hb 41 72 dX4_mergeTwins_38 rfl (by decide) (by omega) (by omega) (fun c38 => ?_) (fun c38 => ?_)
              · exfalso; omega
              · refine r_aload_n hb 42 dX4_mergeTwins_41 rfl 3 rfl ?_
                refine r_get hb ho 45 dX4_mergeTwins_42 rfl lk_X4_22 pf_X4_1 gc rfl ?_
                refine r_iload_n hb 46 dX4_mergeTwins_45 rfl 0 rfl ?_
                refine r_aald hb 47 dX4_mergeTwins_46 rfl ga (by decide) (ftN lk (k - 1)) (by omega) (⟨by omega, by omega⟩) (pa (ftN lk (k - 1))) (gh (ftN lk (k - 1)) (by omega)) ?_
                have n0 := (gN (ftN lk (k - 1)) (by omega)).1
                have hsn0 := gs1 (ftN lk (k - 1)) (by omega)
                have hqn0 := (gN (ftN lk (k - 1)) (by omega)).2.2.2.2
                refine r_dup hb 48 dX4_mergeTwins_47 rfl rfl ?_
                refine r_get hb ho 51 dX4_mergeTwins_48 rfl lk_X4_82 pf_X3_7 n0 rfl ?_
                refine r_aload_n hb 52 dX4_mergeTwins_51 rfl 3 rfl ?_
                refine r_get hb ho 55 dX4_mergeTwins_52 rfl lk_X4_22 pf_X4_1 gc rfl ?_
                refine r_iload_n hb 56 dX4_mergeTwins_55 rfl 1 rfl ?_
                refine r_aald hb 57 dX4_mergeTwins_56 rfl ga (by decide) (k - 1) (by omega) (⟨by omega, by omega⟩) (pa (k - 1)) (gh (k - 1) (by omega)) ?_
                have n1 := (gN (k - 1) (by omega)).1
                have hsn1 := gs1 (k - 1) (by omega)
                have hqn1 := (gN (k - 1) (by omega)).2.2.2.2
                refine r_get hb ho 60 dX4_mergeTwins_57 rfl lk_X4_82 pf_X3_7 n1 rfl ?_
                refine r_iadd hb 61 dX4_mergeTwins_60 rfl ?_
                have hap := gs2 (ftN lk (k - 1)) (k - 1) (by omega) (by omega) (by omega)
                refine r_put hb ho 64 dX4_mergeTwins_61 rfl lk_X4_82 pf_X3_7 n0 (Nat.le_of_ble_eq_true rfl) ⟨rfl, rfl⟩ (fun w_61 hw_61 => ?_)
                have ow_61 := pset_off hw_61
                have xw_61 : w_61 (pa (ftN lk (k - 1))) = some (eO 3 [.ref (pa (ftN lk (k - 1)) + 1), .ref (pa (ftN lk (k - 1)) + 3), .ref (pa (ftN lk (k - 1)) + 5), .int (iI (((nNum (xs (ftN lk (k - 1))) : Nat) : Int))), .int (bI (nK (xs (ftN lk (k - 1))))), .int (iI (((nB (xs (ftN lk (k - 1))) : Nat) : Int))), .int (iI (((nE (xs (ftN lk (k - 1))) : Nat) : Int))), .int ((nW (xs (ftN lk (k - 1)))) + (nW (xs (k - 1))))]) := by rw [hw_61]; exact pset_eq _ _ _
                have n1 : w_61 (pa (k - 1)) = some (eO 3 [.ref (pa (k - 1) + 1), .ref (pa (k - 1) + 3), .ref (pa (k - 1) + 5), .int (iI (((nNum (xs (k - 1)) : Nat) : Int))), .int (bI (nK (xs (k - 1)))), .int (iI (((nB (xs (k - 1)) : Nat) : Int))), .int (iI (((nE (xs (k - 1)) : Nat) : Int))), .int (nW (xs (k - 1)))]) := (ow_61 _ (by omega)).trans n1
                have gc : w_61 g = some (eO 4 [.ref (g + 1), .ref (g + 3), .int (iI (((lk.length : Nat) : Int))), .int (iI (((nx : Nat) : Int)))]) := (ow_61 _ (by omega)).trans gc
                have ga : w_61 (g + 3) = some (eQ 3 10 h) := (ow_61 _ (by omega)).trans ga
                have gT : tx w_61 (g + 1) 120 D := gT.off ow_61 (by omega)
                have gd : w_61 (g + 1) = some (eO 7 [.ref (g + 1 + 1), .int (iI (((D.length : Nat) : Int)))]) := (ow_61 _ (by omega)).trans gd
                refine r_aload_n hb 65 dX4_mergeTwins_64 rfl 3 rfl ?_
                refine r_iload_n hb 66 dX4_mergeTwins_65 rfl 1 rfl ?_
                have hft2 : ftN lk (k - 1) < 10 := by omega
                have en : nt w_61 (pa (ftN lk (k - 1))) (addW (lg lk (ftN lk (k - 1))) (lg lk (k - 1))) := by
                  have hA := gN (ftN lk (k - 1)) hft2
                  obtain ⟨a0, a1, a2, a3, a4⟩ := hA
                  rw [hx _ (by omega)] at a1 a2 a3 a4
                  rw [hx (ftN lk (k - 1)) (by omega), hx (k - 1) (by omega)] at xw_61
                  exact ⟨xw_61, a1.off ow_61 (by omega), a2.off ow_61 (by omega), a3.off ow_61 (by omega), a4⟩
                have hG3 := pgo_note hG hft2 en (ow_61.mono (by omega) (by omega))
                have hP3 : pg w_61 g D (lk.set (ftN lk (k - 1)) (addW (lg lk (ftN lk (k - 1))) (lg lk (k - 1)))) nx := by
                  refine ⟨h, pa, _, by rw [List.length_set]; exact hG3, fun j hj => ?_⟩
                  rw [List.length_set] at hj
                  by_cases e : j = ftN lk (k - 1)
                  · subst e; rw [updX_s]; simp [lg, List.getD_eq_getElem?_getD, hj]
                  · rw [updX_n _ _ e, hx j hj]; simp [lg, List.getD_eq_getElem?_getD, List.getElem?_set, Ne.symm e]
                refine r_callV0 (st := []) hb ho 69 dX4_mergeTwins_66 rfl ck_X4_85 (c_X4_drop g nx (k - 1) D _ hP3 (by rw [List.length_set]; omega)) rfl rfl (gc) rfl rfl (by rw [hR0]; exact ⟨Nat.le_of_ble_eq_true rfl, Nat.le_of_ble_eq_true rfl⟩) (Nat.le_of_ble_eq_true rfl) ⟨rfl, rfl⟩ (by rw [hR0]; exact Nat.zero_le _) (by rw [hR0]; exact Nat.zero_le _) (fun w_66 nw_66 qw_66 => ?_)
                obtain ⟨rfl, hP2, ow_66⟩ := qw_66
                refine r_iinc [(1, .int (iI (((r : Nat) : Int) + 1))), (3, .int (iI (((ftN lk (k - 1) : Nat) : Int)))), (2, .int (iI ((((k - 1 : Nat) : Nat) : Int)))), (0, .ref g)] hb 72 4 2 dX4_mergeTwins_69 rfl rfl hnL (by decide) (((r : Nat) : Int) + 1) (by omega) rfl ?_
                refine r_iinc [(2, .int (iI ((((k - 1 : Nat) : Nat) : Int) - 1))), (1, .int (iI (((r : Nat) : Int) + 1))), (3, .int (iI (((ftN lk (k - 1) : Nat) : Int)))), (0, .ref g)] hb 75 4 2 dX4_mergeTwins_72 rfl rfl hnL (by decide) ((((k - 1 : Nat) : Nat) : Int) - 1) (by omega) rfl ?_
                refine r_goto hb 9 dX4_mergeTwins_75 (by decide) ?_
                have e : mgN k lk r = mgN (k - 1) ((lk.set (ftN lk (k - 1)) (addW (lg lk (ftN lk (k - 1))) (lg lk (k - 1)))).eraseIdx (k - 1)) (r + 1) := by
                  rw [show k = (k - 1) + 1 by omega]; simp only [mgN, Nat.add_sub_cancel]; rw [if_pos hft]
                refine r_lv [(2, .int (iI ((((k - 1 : Nat) : Nat) : Int) - 1))), (1, .int (iI (((r + 1 : Nat) : Nat) : Int))), (0, .ref g)] [0, 1, 3] (by rw [show (((k - 1 : Nat) : Nat) : Int) - 1 = (k : Int) - 2 by omega]; rfl) ?_
                refine ih_lp (k - 1) (by omega) (k - 1) _ _ _ rfl ?_ (by omega) hP2 (by rw [← e]; exact hm) (hO.trans ((ow_61.mono (by omega) (by omega)).trans (ow_66.mono (by omega) (by omega))))
                rw [List.length_eraseIdx]; simp; split <;> omega
          · refine r_topz (-1) (by unfold ftZ; rw [if_neg hft]) ?_
            refine r_istore_n [(3, .int (iI (-1))), (2, .int (iI ((((k - 1 : Nat) : Nat) : Int)))), (1, .int (iI (((r : Nat) : Int)))), (0, .ref g)] hb 28 4 dX4_mergeTwins_27 rfl rfl hnL (by decide) rfl ?_
            refine r_iload_n hb 29 dX4_mergeTwins_28 rfl 0 rfl ?_
            refine r_if_lt hb 32 72 dX4_mergeTwins_29 rfl (by decide) (by omega) (fun c29 => ?_) (fun c29 => ?_)
            · refine r_iinc [(2, .int (iI ((((k - 1 : Nat) : Nat) : Int) - 1))), (3, .int (iI (-1))), (1, .int (iI (((r : Nat) : Int)))), (0, .ref g)] hb 75 4 1 dX4_mergeTwins_72 rfl rfl hnL (by decide) ((((k - 1 : Nat) : Nat) : Int) - 1) (by omega) rfl ?_
              refine r_goto hb 9 dX4_mergeTwins_75 (by decide) ?_
              have e : mgN k lk r = mgN (k - 1) lk r := by
                rw [show k = (k - 1) + 1 by omega]; simp only [mgN, Nat.add_sub_cancel]; rw [if_neg hft]
              refine r_lv [(2, .int (iI ((((k - 1 : Nat) : Nat) : Int) - 1))), (1, .int (iI ((r : Nat) : Int))), (0, .ref g)] [0, 2, 3] (by rw [show (((k - 1 : Nat) : Nat) : Int) - 1 = (k : Int) - 2 by omega]; rfl) ?_
              exact ih_lp (k - 1) (by omega) (k - 1) _ _ _ rfl (by omega) (by omega) hP (by rw [← e]; exact hm) hO
            · exfalso; omega
  refine r_lv [(2, .int (iI (((l.length : Nat) : Int) - 1))), (1, .int (iI ((0 : Nat) : Int))), (0, .ref g)] [0, 1, 2] rfl ?_
  exact lp _ l.length 0 _ l rfl (Nat.le_refl _) (by omega) hP rfl (off.rfl' _ _ _)

abbrev rm_X4_become : Room := { frames := 4, cells := 0, slots := 0, locals := 87 }
set_option maxHeartbeats 4000000 in
set_option maxRecDepth 100000 in
theorem c_X4_become (g nx k nx2 : Nat) (D E : List Int32) (l m : List Nt) {w : PW} {n : Nat} (hP : pg w g D l nx) (hK : pg w k E m nx2) (hd : g + 74 ≤ k ∨ k + 74 ≤ g) : Ct0 yX4_become cX4_become 3 none rm_X4_become [.ref g, .ref k] w n (fun w1 n1 => n = n1 ∧ pg w1 g E m nx2 ∧ off w w1 g (g + 74)) := by
  obtain ⟨h, pa, xs, hG, hx⟩ := id hP
  obtain ⟨gc, gT, gcl, gnx, ⟨ga, gh⟩, ⟨gs1, gs2⟩, gN⟩ := id hG
  have gd := gT.1
  have gdl := gT.2.1
  obtain ⟨h2, pa2, xs2, hG2, hx2⟩ := id hK
  obtain ⟨kc, kT, kcl, knx, ⟨ka, kh⟩, ⟨ks1, ks2⟩, kN⟩ := id hG2
  have kd := kT.1
  have kdl := kT.2.1
  refine Ctr.of rfl (Nat.le_of_ble_eq_true rfl) fun S hS => ?_
  have hb : S.1.1 = cX4_become := by rw [hS]; rfl
  have ho : S.1.2.1 = RX4 := by rw [hS]; rfl
  have hnL : S.1.2.2.1 = 3 := by rw [hS]; rfl
  have hR0 : S.2.1 = rm_X4_become := by rw [hS]; rfl
  show Wp S 0 [(0, .ref g), (1, .ref k)] [] w n 0 0
  refine r_aload_n hb 1 dX4_become_0 rfl 0 rfl ?_
  refine r_get hb ho 4 dX4_become_1 rfl lk_X4_14 pf_X4_0 gc rfl ?_
  refine r_aload_n hb 5 dX4_become_4 rfl 1 rfl ?_
  refine r_get hb ho 8 dX4_become_5 rfl lk_X4_14 pf_X4_0 kc rfl ?_
  refine r_callV0 (st := []) hb ho 11 dX4_become_8 rfl ck_X4_27 (c_X7_become (g + 1) 120 (k + 1) 120 D E gT kT (by omega) (by omega) (by omega) (by omega)) rfl rfl (gd) rfl rfl (by rw [hR0]; exact ⟨Nat.le_of_ble_eq_true rfl, Nat.le_of_ble_eq_true rfl⟩) (Nat.le_of_ble_eq_true rfl) ⟨rfl, rfl⟩ (by rw [hR0]; exact Nat.zero_le _) (by rw [hR0]; exact Nat.zero_le _) (fun w_8 nw_8 qw_8 => ?_)
  obtain ⟨rfl, hnew, ow_8⟩ := qw_8
  have kc : w_8 k = some (eO 4 [.ref (k + 1), .ref (k + 3), .int (iI (((m.length : Nat) : Int))), .int (iI (((nx2 : Nat) : Int)))]) := (ow_8 _ (by omega)).trans kc
  have ka : w_8 (k + 3) = some (eQ 3 10 h2) := (ow_8 _ (by omega)).trans ka
  have kT : tx w_8 (k + 1) 120 E := kT.off ow_8 (by omega)
  have kd : w_8 (k + 1) = some (eO 7 [.ref (k + 1 + 1), .int (iI (((E.length : Nat) : Int)))]) := (ow_8 _ (by omega)).trans kd
  have hG := pgo_doc hG hnew ow_8
  obtain ⟨gc, gT, gcl, gnx, ⟨ga, gh⟩, ⟨gs1, gs2⟩, gN⟩ := id hG
  have gd := gT.1
  have gdl := gT.2.1
  refine r_aload_n hb 12 dX4_become_11 rfl 0 rfl ?_
  refine r_aload_n hb 13 dX4_become_12 rfl 1 rfl ?_
  refine r_get hb ho 16 dX4_become_13 rfl lk_X4_31 pf_X4_2 kc rfl ?_
  refine r_aload_n hb 17 dX4_become_16 rfl 0 rfl ?_
  refine r_get hb ho 20 dX4_become_17 rfl lk_X4_22 pf_X4_1 gc rfl ?_
  refine r_alen hb 21 dX4_become_20 rfl ga (by decide) 10 rfl ?_
  refine r_min hb ho 24 dX4_become_21 rfl ck_X4_35 (by rw [hR0]; exact Nat.le_of_ble_eq_true rfl) (by rw [hR0]; exact Nat.le_of_ble_eq_true rfl) (by rw [hR0]; exact Nat.zero_le _) (by rw [hR0]; exact Nat.zero_le _) (by omega) (by omega) (((m.length : Nat) : Int)) (by omega) ?_
  refine r_put hb ho 27 dX4_become_24 rfl lk_X4_31 pf_X4_2 gc (Nat.le_of_ble_eq_true rfl) ⟨rfl, rfl⟩ (fun w_24 hw_24 => ?_)
  have ow_24 := pset_off hw_24
  have xw_24 : w_24 g = some (eO 4 [.ref (g + 1), .ref (g + 3), .int (iI (((m.length : Nat) : Int))), .int (iI (((nx : Nat) : Int)))]) := by rw [hw_24]; exact pset_eq _ _ _
  have ga : w_24 (g + 3) = some (eQ 3 10 h) := (ow_24 _ (by omega)).trans ga
  have gT : tx w_24 (g + 1) 120 E := gT.off ow_24 (by omega)
  have gd : w_24 (g + 1) = some (eO 7 [.ref (g + 1 + 1), .int (iI (((E.length : Nat) : Int)))]) := (ow_24 _ (by omega)).trans gd
  have kc : w_24 k = some (eO 4 [.ref (k + 1), .ref (k + 3), .int (iI (((m.length : Nat) : Int))), .int (iI (((nx2 : Nat) : Int)))]) := (ow_24 _ (by omega)).trans kc
  have ka : w_24 (k + 3) = some (eQ 3 10 h2) := (ow_24 _ (by omega)).trans ka
  have kT : tx w_24 (k + 1) 120 E := kT.off ow_24 (by omega)
  have kd : w_24 (k + 1) = some (eO 7 [.ref (k + 1 + 1), .int (iI (((E.length : Nat) : Int)))]) := (ow_24 _ (by omega)).trans kd
  refine r_aload_n hb 28 dX4_become_27 rfl 0 rfl ?_
  refine r_aload_n hb 29 dX4_become_28 rfl 1 rfl ?_
  refine r_get hb ho 32 dX4_become_29 rfl lk_X4_41 pf_X4_3 kc rfl ?_
  refine r_put hb ho 35 dX4_become_32 rfl lk_X4_41 pf_X4_3 xw_24 (Nat.le_of_ble_eq_true rfl) ⟨rfl, rfl⟩ (fun w_32 hw_32 => ?_)
  have ow_32 := pset_off hw_32
  have xw_32 : w_32 g = some (eO 4 [.ref (g + 1), .ref (g + 3), .int (iI (((m.length : Nat) : Int))), .int (iI (((nx2 : Nat) : Int)))]) := by rw [hw_32]; exact pset_eq _ _ _
  have ga : w_32 (g + 3) = some (eQ 3 10 h) := (ow_32 _ (by omega)).trans ga
  have gT : tx w_32 (g + 1) 120 E := gT.off ow_32 (by omega)
  have gd : w_32 (g + 1) = some (eO 7 [.ref (g + 1 + 1), .int (iI (((E.length : Nat) : Int)))]) := (ow_32 _ (by omega)).trans gd
  have kc : w_32 k = some (eO 4 [.ref (k + 1), .ref (k + 3), .int (iI (((m.length : Nat) : Int))), .int (iI (((nx2 : Nat) : Int)))]) := (ow_32 _ (by omega)).trans kc
  have ka : w_32 (k + 3) = some (eQ 3 10 h2) := (ow_32 _ (by omega)).trans ka
  have kT : tx w_32 (k + 1) 120 E := kT.off ow_32 (by omega)
  have kd : w_32 (k + 1) = some (eO 7 [.ref (k + 1 + 1), .int (iI (((E.length : Nat) : Int)))]) := (ow_32 _ (by omega)).trans kd
  refine r_iconst hb 36 dX4_become_35 rfl ?_
  refine r_istore_n [(2, .int (iI 0)), (0, .ref g), (1, .ref k)] hb 37 3 dX4_become_36 rfl rfl hnL (by decide) rfl ?_
  have lp : ∀ (d : Nat) (i : Nat) (wi : PW) (xi : Nat → Nt), m.length - i = d → (i ≤ m.length) → (pgo wi g E h pa xi m.length nx2) → (pgo wi k E h2 pa2 xs2 m.length nx2) → (∀ j, j < i → xi j = lg m j) → (off w wi g (g + 74)) → Wp S 37 [(2, .int (iI (((i : Nat) : Int)))), (0, .ref g), (1, .ref k)] [] wi n 0 0 := by
    intro d
    induction d using Nat.strongRecOn with
    | _ d ih_lp =>
      intro i wi xi hd_lp hi hG hG2 hlo hO
      obtain ⟨gc, gT, gcl, gnx, ⟨ga, gh⟩, ⟨gs1, gs2⟩, gN⟩ := id hG
      have gd := gT.1
      have gdl := gT.2.1
      obtain ⟨kc, kT, kcl, knx, ⟨ka, kh⟩, ⟨ks1, ks2⟩, kN⟩ := id hG2
      have kd := kT.1
      have kdl := kT.2.1
      refine r_iload_n hb 38 dX4_become_37 rfl 0 rfl ?_
      refine r_aload_n hb 39 dX4_become_38 rfl 1 rfl ?_
      refine r_get hb ho 42 dX4_become_39 rfl lk_X4_31 pf_X4_2 gc rfl ?_
      refine r_icmp_ge hb 45 75 dX4_become_42 rfl (by decide) (by omega) (by omega) (fun c42 => ?_) (fun c42 => ?_)
      · refine r_vret hS dX4_become_75 rfl (Nat.zero_le _) (Nat.zero_le _) ?_
        have ei : i = m.length := by omega
        subst ei
        exact ⟨rfl, rfl, ⟨h, pa, xi, hG, hlo⟩, hO⟩
      · refine r_iload_n hb 46 dX4_become_45 rfl 0 rfl ?_
        refine r_aload_n hb 47 dX4_become_46 rfl 2 rfl ?_
        refine r_get hb ho 50 dX4_become_47 rfl lk_X4_22 pf_X4_1 kc rfl ?_
        refine r_alen hb 51 dX4_become_50 rfl ka (by decide) 10 rfl ?_
        refine r_icmp_ge hb 54 75 dX4_become_51 rfl (by decide) (by omega) (by omega) (fun c51 => ?_) (fun c51 => ?_)
        · exfalso; omega
        · refine r_aload_n hb 55 dX4_become_54 rfl 1 rfl ?_
          refine r_get hb ho 58 dX4_become_55 rfl lk_X4_22 pf_X4_1 gc rfl ?_
          refine r_iload_n hb 59 dX4_become_58 rfl 0 rfl ?_
          refine r_aald hb 60 dX4_become_59 rfl ga (by decide) i (by omega) (⟨by omega, by omega⟩) (pa i) (gh i (by omega)) ?_
          have n0 := (gN i (by omega)).1
          have hsn0 := gs1 i (by omega)
          have hqn0 := (gN i (by omega)).2.2.2.2
          refine r_aload_n hb 61 dX4_become_60 rfl 2 rfl ?_
          refine r_get hb ho 64 dX4_become_61 rfl lk_X4_22 pf_X4_1 kc rfl ?_
          refine r_iload_n hb 65 dX4_become_64 rfl 0 rfl ?_
          refine r_aald hb 66 dX4_become_65 rfl ka (by decide) i (by omega) (⟨by omega, by omega⟩) (pa2 i) (kh i (by omega)) ?_
          have n1 := (kN i (by omega)).1
          have hsn1 := ks1 i (by omega)
          have hqn1 := (kN i (by omega)).2.2.2.2
          refine r_callV0 (st := []) hb ho 69 dX4_become_66 rfl ck_X4_44 (c_X3_become (pa i) (pa2 i) (xi i) (xs2 i) (gN i (by omega)) (kN i (by omega)) (by omega)) rfl rfl (n0) rfl rfl (by rw [hR0]; exact ⟨Nat.le_of_ble_eq_true rfl, Nat.le_of_ble_eq_true rfl⟩) (Nat.le_of_ble_eq_true rfl) ⟨rfl, rfl⟩ (by rw [hR0]; exact Nat.zero_le _) (by rw [hR0]; exact Nat.zero_le _) (fun w_66 nw_66 qw_66 => ?_)
          obtain ⟨rfl, hnew, ow_66⟩ := qw_66
          have kc : w_66 k = some (eO 4 [.ref (k + 1), .ref (k + 3), .int (iI (((m.length : Nat) : Int))), .int (iI (((nx2 : Nat) : Int)))]) := (ow_66 _ (by omega)).trans kc
          have ka : w_66 (k + 3) = some (eQ 3 10 h2) := (ow_66 _ (by omega)).trans ka
          have kT : tx w_66 (k + 1) 120 E := kT.off ow_66 (by omega)
          have kd : w_66 (k + 1) = some (eO 7 [.ref (k + 1 + 1), .int (iI (((E.length : Nat) : Int)))]) := (ow_66 _ (by omega)).trans kd
          have hG2 : pgo w_66 k E h2 pa2 xs2 m.length nx2 := hG2.off ow_66 (by omega)
          have hG := pgo_note hG (by omega) hnew ow_66
          refine r_iinc [(2, .int (iI (((i : Nat) : Int) + 1))), (0, .ref g), (1, .ref k)] hb 72 3 0 dX4_become_69 rfl rfl hnL (by decide) (((i : Nat) : Int) + 1) (by omega) rfl ?_
          refine r_goto hb 37 dX4_become_72 (by decide) ?_
          refine r_lv [(2, .int (iI (((i + 1 : Nat)) : Int))), (0, .ref g), (1, .ref k)] [0, 1, 2] rfl ?_
          refine ih_lp (m.length - (i + 1)) (by omega) (i + 1) _ _ rfl (by omega) hG hG2 ?_ (hO.trans (ow_66.mono (by omega) (by omega)))
          intro j hj
          by_cases e : j = i
          · subst e; rw [updX_s]; exact hx2 j (by omega)
          · rw [updX_n _ _ e]; exact hlo j (by omega)
  have hG := pgo_head (c1 := m.length) (nx1 := nx2) hG xw_32 (by omega) (by omega) ((ow_24.mono (by omega) (by omega)).trans (ow_32.mono (by omega) (by omega)))
  have hG2 := ((hG2.off ow_8 (by omega)).off ow_24 (by omega)).off ow_32 (by omega)
  refine r_lv [(2, .int (iI (((0 : Nat)) : Int))), (0, .ref g), (1, .ref k)] [0, 1, 2] rfl ?_
  exact lp _ 0 _ xs rfl (Nat.zero_le _) hG hG2 (fun j hj => absurd hj (Nat.not_lt_zero _)) (((ow_8.mono (by omega) (by omega)).trans (ow_24.mono (by omega) (by omega))).trans (ow_32.mono (by omega) (by omega)))

abbrev rm_X4_init : Room := { frames := 3, cells := 73, slots := 552, locals := 62 }
set_option maxHeartbeats 4000000 in
set_option maxRecDepth 100000 in
theorem c_X4_init (g : Nat) {w : PW}  (h0 : w g = some (eO 4 [.null, .null, .int (iI 0), .int (iI 0)])) : Ct0 yX4_init cX4_init 2 none rm_X4_init [.ref g] w (g + 1) (fun w1 n1 => n1 = g + 74 ∧ pg w1 g [] [] 0 ∧ off w w1 g (g + 74)) := by
  refine Ctr.of rfl (Nat.le_of_ble_eq_true rfl) fun S hS => ?_
  have hb : S.1.1 = cX4_init := by rw [hS]; rfl
  have ho : S.1.2.1 = RX4 := by rw [hS]; rfl
  have hnL : S.1.2.2.1 = 2 := by rw [hS]; rfl
  have hR0 : S.2.1 = rm_X4_init := by rw [hS]; rfl
  have hnm : S.1.2.2.2.2 = "<init>" := by rw [hS]; rfl
  show Wp S 0 [(0, .ref g)] [] w (g + 1) 0 0
  refine r_aload_n hb 1 dX4_init_0 rfl 0 rfl ?_
  refine r_objInit hb ho 4 dX4_init_1 rfl ck_X4_3 ob_i ob_c (by rw [hR0]; exact Nat.le_of_ble_eq_true rfl) (by rw [hR0]; exact Nat.le_of_ble_eq_true rfl) ?_
  refine r_aload_n hb 5 dX4_init_4 rfl 0 rfl ?_
  refine r_new hb ho 8 dX4_init_5 rfl (kn_X7 kc_X4_9) (by rw [hR0]; exact Nat.le_of_ble_eq_true rfl) (by rw [hR0]; exact Nat.le_of_ble_eq_true rfl) (fun w_5 hw_5 => ?_)
  have ow_5 := pset_off hw_5
  have fw_5 : w_5 (g + 1) = some (eO 7 [.null, .int (iI 0)]) := by rw [hw_5]; exact pset_eq _ _ _
  have h0 : w_5 g = some (eO 4 [.null, .null, .int (iI 0), .int (iI 0)]) := (ow_5 _ (by omega)).trans h0
  refine r_dup hb 9 dX4_init_8 rfl rfl ?_
  refine r_bipush 120 hb 11 dX4_init_9 rfl rfl ?_
  refine r_callN0 (st := [.ref ((g + 1)), .ref g]) hb ho 14 dX4_init_11 rfl ck_X4_11 (c_X7_init (g + 1) 120 fw_5 (by omega)) rfl rfl (by rw [hR0]; exact ⟨Nat.le_of_ble_eq_true rfl, Nat.le_of_ble_eq_true rfl⟩) (Nat.le_of_ble_eq_true rfl) (by rw [hR0]; exact Nat.le_of_ble_eq_true rfl) (by rw [hR0]; exact Nat.le_of_ble_eq_true rfl) (fun w_11 nw_11 qw_11 => ?_)
  obtain ⟨rfl, hnT, ow_11⟩ := qw_11
  have h0 : w_11 g = some (eO 4 [.null, .null, .int (iI 0), .int (iI 0)]) := (ow_11 _ (by omega)).trans h0
  refine r_putF hb ho hnm rfl 17 dX4_init_14 rfl lkw_X4_14 pf_X4_0 h0 (Nat.le_of_ble_eq_true rfl) ⟨rfl, rfl⟩ (fun w_14 hw_14 => ?_)
  have ow_14 := pset_off hw_14
  have xw_14 : w_14 g = some (eO 4 [.ref ((g + 1)), .null, .int (iI 0), .int (iI 0)]) := by rw [hw_14]; exact pset_eq _ _ _
  have hnT : tx w_14 (g + 1) 120 [] := hnT.off ow_14 (by omega)
  refine r_aload_n hb 18 dX4_init_17 rfl 0 rfl ?_
  refine r_bipush 10 hb 20 dX4_init_18 rfl rfl ?_
  refine r_newQ (N := 10) (k := 3) hb ho 23 dX4_init_20 rfl (fun _ => rfl) kc_X4_20 ko_X3 (rfl) (by omega) (by rw [hR0]; exact Nat.le_of_ble_eq_true rfl) (by rw [hR0]; exact Nat.le_of_ble_eq_true rfl) (fun w_20 hw_20 => ?_)
  have ow_20 := pset_off hw_20
  have fw_20 : w_20 (g + 3) = some (eQ 3 10 (fun _ => none)) := by rw [hw_20]; exact pset_eq _ _ _
  have xw_14 : w_20 g = some (eO 4 [.ref ((g + 1)), .null, .int (iI 0), .int (iI 0)]) := (ow_20 _ (by omega)).trans xw_14
  have hnT : tx w_20 (g + 1) 120 [] := hnT.off ow_20 (by omega)
  refine r_putF hb ho hnm rfl 26 dX4_init_23 rfl lkw_X4_22 pf_X4_1 xw_14 (Nat.le_of_ble_eq_true rfl) ⟨rfl, rfl⟩ (fun w_23 hw_23 => ?_)
  have ow_23 := pset_off hw_23
  have xw_23 : w_23 g = some (eO 4 [.ref ((g + 1)), .ref ((g + 3)), .int (iI 0), .int (iI 0)]) := by rw [hw_23]; exact pset_eq _ _ _
  have fw_20 : w_23 (g + 3) = some (eQ 3 10 (fun _ => none)) := (ow_23 _ (by omega)).trans fw_20
  have hnT : tx w_23 (g + 1) 120 [] := hnT.off ow_23 (by omega)
  refine r_iconst hb 27 dX4_init_26 rfl ?_
  refine r_istore_n [(1, .int (iI 0)), (0, .ref g)] hb 28 2 dX4_init_27 rfl rfl hnL (by decide) rfl ?_
  have lp : ∀ (d : Nat) (i : Nat) (wi : PW) (hi : Nat → Option Nat), 10 - i = d → (i ≤ 10) → (wi g = some (eO 4 [.ref (g + 1), .ref (g + 3), .int (iI 0), .int (iI 0)])) → (tx wi (g + 1) 120 []) → (wi (g + 3) = some (eQ 3 10 hi)) → (∀ j, j < i → hi j = some (g + 4 + 7 * j)) → (∀ j, j < i → nt wi (g + 4 + 7 * j) nt0) → (off w wi g (g + 74)) → Wp S 28 [(1, .int (iI (((i : Nat) : Int)))), (0, .ref g)] [] wi (g + 4 + 7 * i) (3 + 7 * i) (132 + 42 * i) := by
    intro d
    induction d using Nat.strongRecOn with
    | _ d ih_lp =>
      intro i wi hi hd_lp hi10 gc hnT ga hhi hnn hO
      have hold := hnn
      refine r_iload_n hb 29 dX4_init_28 rfl 0 rfl ?_
      refine r_aload_n hb 30 dX4_init_29 rfl 1 rfl ?_
      refine r_get hb ho 33 dX4_init_30 rfl lk_X4_22 pf_X4_1 gc rfl ?_
      refine r_alen hb 34 dX4_init_33 rfl ga (by decide) 10 rfl ?_
      refine r_icmp_ge hb 37 56 dX4_init_34 rfl (by decide) (by omega) (by omega) (fun c34 => ?_) (fun c34 => ?_)
      · refine r_vret hS dX4_init_56 rfl ((by show 3 + 7 * i ≤ 73; omega)) ((by show 132 + 42 * i ≤ 552; omega)) ?_
        have ei : i = 10 := by omega
        subst ei
        refine ⟨rfl, rfl, ⟨hi, fun j => g + 4 + 7 * j, fun _ => nt0, ⟨gc, hnT, by decide, by decide, ⟨ga, hhi⟩, ⟨fun j hj => by show g + 4 ≤ g + 4 + 7 * j ∧ g + 4 + 7 * j + 7 ≤ g + 74; omega, fun a b ha hb hab => by show g + 4 + 7 * a + 7 ≤ g + 4 + 7 * b ∨ g + 4 + 7 * b + 7 ≤ g + 4 + 7 * a; omega⟩, hnn⟩, fun j hj => absurd hj (Nat.not_lt_zero _)⟩, hO⟩
      · refine r_aload_n hb 38 dX4_init_37 rfl 1 rfl ?_
        refine r_get hb ho 41 dX4_init_38 rfl lk_X4_22 pf_X4_1 gc rfl ?_
        refine r_iload_n hb 42 dX4_init_41 rfl 0 rfl ?_
        refine r_new hb ho 45 dX4_init_42 rfl (kn_X3 kc_X4_20) (by rw [hR0]; show 3 + 7 * i + 1 ≤ 73; omega) (by rw [hR0]; show 132 + 42 * i + 8 ≤ 552; omega) (fun w_42 hw_42 => ?_)
        have ow_42 := pset_off hw_42
        have fw_42 : w_42 (g + 4 + 7 * i) = some (eO 3 [.null, .null, .null, .int (iI 0), .int (iI 0), .int (iI 0), .int (iI 0), .int (iI 0)]) := by rw [hw_42]; exact pset_eq _ _ _
        have gc : w_42 g = some (eO 4 [.ref (g + 1), .ref (g + 3), .int (iI 0), .int (iI 0)]) := (ow_42 _ (by omega)).trans gc
        have hnT : tx w_42 (g + 1) 120 [] := hnT.off ow_42 (by omega)
        have ga : w_42 (g + 3) = some (eQ 3 10 hi) := (ow_42 _ (by omega)).trans ga
        refine r_dup hb 46 dX4_init_45 rfl rfl ?_
        refine r_callN0 (st := [.ref ((g + 4 + 7 * i)), .int (iI (((i : Nat) : Int))), .ref (g + 3)]) hb ho 49 dX4_init_46 rfl ck_X4_26 (c_X3_init (g + 4 + 7 * i) fw_42) rfl rfl (by rw [hR0]; exact ⟨Nat.le_of_ble_eq_true rfl, Nat.le_of_ble_eq_true rfl⟩) (Nat.le_of_ble_eq_true rfl) (by rw [hR0]; show 3 + 7 * i + 1 + 6 ≤ 73; omega) (by rw [hR0]; show 132 + 42 * i + 8 + 34 ≤ 552; omega) (fun w_46 nw_46 qw_46 => ?_)
        obtain ⟨rfl, hnn, ow_46⟩ := qw_46
        have gc : w_46 g = some (eO 4 [.ref (g + 1), .ref (g + 3), .int (iI 0), .int (iI 0)]) := (ow_46 _ (by omega)).trans gc
        have hnT : tx w_46 (g + 1) 120 [] := hnT.off ow_46 (by omega)
        have ga : w_46 (g + 3) = some (eQ 3 10 hi) := (ow_46 _ (by omega)).trans ga
        have nn0 := hnn.1
        refine r_aast hb 50 dX4_init_49 rfl ga nn0 rfl (Or.inr (Or.inl ⟨rfl, rfl⟩)) i (by omega) (⟨by omega, by omega⟩) (fun w_49 hw_49 => ?_)
        have ow_49 := pset_off hw_49
        have xw_49 : w_49 (g + 3) = some (eQ 3 10 (va_up hi i (some (g + 4 + 7 * i)))) := by rw [hw_49]; exact pset_eq _ _ _
        have hnn : nt w_49 (g + 4 + 7 * i) nt0 := hnn.off ow_49 (by omega)
        have nn0 : w_49 (g + 4 + 7 * i) = some (eO 3 [.ref (g + 4 + 7 * i + 1), .ref (g + 4 + 7 * i + 3), .ref (g + 4 + 7 * i + 5), .int (iI (((nNum nt0 : Nat) : Int))), .int (bI (nK nt0)), .int (iI (((nB nt0 : Nat) : Int))), .int (iI (((nE nt0 : Nat) : Int))), .int (nW nt0)]) := (ow_49 _ (by omega)).trans nn0
        have gc : w_49 g = some (eO 4 [.ref (g + 1), .ref (g + 3), .int (iI 0), .int (iI 0)]) := (ow_49 _ (by omega)).trans gc
        have hnT : tx w_49 (g + 1) 120 [] := hnT.off ow_49 (by omega)
        refine r_iinc [(1, .int (iI (((i : Nat) : Int) + 1))), (0, .ref g)] hb 53 2 0 dX4_init_50 rfl rfl hnL (by decide) (((i : Nat) : Int) + 1) (by omega) rfl ?_
        refine r_goto hb 28 dX4_init_53 (by decide) ?_
        refine r_lv [(1, .int (iI (((i + 1 : Nat)) : Int))), (0, .ref g)] [0, 1] rfl ?_
        refine r_widen (3 + 7 * (i + 1)) (132 + 42 * (i + 1)) (by show 3 + 7 * i + 1 + 6 ≤ _; omega) (by show 132 + 42 * i + 8 + 34 ≤ _; omega) ?_
        rw [show g + 4 + 7 * i + 7 = g + 4 + 7 * (i + 1) by omega]
        have hnn0 := hnn
        refine ih_lp (10 - (i + 1)) (by omega) (i + 1) _ _ rfl (by omega) gc hnT xw_49 ?_ ?_ (((hO.trans (ow_42.mono (by omega) (by omega))).trans (ow_46.mono (by omega) (by omega))).trans (ow_49.mono (by omega) (by omega)))
        · intro j hj
          simp only [va_up]
          by_cases e : j = i
          · rw [if_pos e, e]
          · rw [if_neg e]; exact hhi j (by omega)
        · intro j hj
          by_cases e : j = i
          · subst e; exact hnn
          · exact (((hold j (by omega)).off ow_42 (by omega)).off ow_46 (by omega)).off ow_49 (by omega)
  refine r_lv [(1, .int (iI (((0 : Nat)) : Int))), (0, .ref g)] [0, 1] rfl ?_
  refine r_widen (3 + 7 * 0) (132 + 42 * 0) (Nat.le_of_ble_eq_true rfl) (Nat.le_of_ble_eq_true rfl) ?_
  exact lp _ 0 _ _ rfl (Nat.zero_le _) xw_23 hnT fw_20 (fun j hj => absurd hj (Nat.not_lt_zero _)) (fun j hj => absurd hj (Nat.not_lt_zero _)) (((((ow_5.mono (by omega) (by omega)).trans (ow_11.mono (by omega) (by omega))).trans (ow_14.mono (by omega) (by omega))).trans (ow_20.mono (by omega) (by omega))).trans (ow_23.mono (by omega) (by omega)))
