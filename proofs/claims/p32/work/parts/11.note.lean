abbrev rm_X3_attachTo : Room := { frames := 0, cells := 0, slots := 0, locals := 0 }
set_option maxHeartbeats 4000000 in
set_option maxRecDepth 100000 in
theorem c_X3_attachTo (a : Nat) (x : Nt) (b e : Nat) {w : PW} {n : Nat} (hN : nt w a x) (hb2 : b ≤ 200) (he2 : e ≤ 200) : Ct0 yX3_attachTo cX3_attachTo 3 none rm_X3_attachTo [.ref a, .int (iI (((b : Nat) : Int))), .int (iI (((e : Nat) : Int)))] w n (fun w1 n1 => n = n1 ∧ nt w1 a (atN b e x) ∧ off w w1 a (a + 7)) := by
  obtain ⟨h0, tP, tQ, tS, hnum, hB, hE⟩ := id hN
  refine Ctr.of rfl (Nat.le_of_ble_eq_true rfl) fun S hS => ?_
  have hb : S.1.1 = cX3_attachTo := by rw [hS]; rfl
  have ho : S.1.2.1 = RX3 := by rw [hS]; rfl
  have hnL : S.1.2.2.1 = 3 := by rw [hS]; rfl
  have hR0 : S.2.1 = rm_X3_attachTo := by rw [hS]; rfl
  show Wp S 0 [(0, .ref a), (1, .int (iI (((b : Nat) : Int)))), (2, .int (iI (((e : Nat) : Int))))] [] w n 0 0
  refine r_aload_n hb 1 dX3_attachTo_0 rfl 0 rfl ?_
  refine r_iload_n hb 2 dX3_attachTo_1 rfl 1 rfl ?_
  refine r_put hb ho 5 dX3_attachTo_2 rfl lk_X3_37 pf_X3_5 h0 (Nat.le_of_ble_eq_true rfl) ⟨rfl, rfl⟩ (fun w_2 hw_2 => ?_)
  have ow_2 := pset_off hw_2
  have xw_2 : w_2 a = some (eO 3 [.ref (a + 1), .ref (a + 3), .ref (a + 5), .int (iI (((nNum x : Nat) : Int))), .int (bI (nK x)), .int (iI (((b : Nat) : Int))), .int (iI (((nE x : Nat) : Int))), .int (nW x)]) := by rw [hw_2]; exact pset_eq _ _ _
  have tP : tx w_2 (a + 1) 6 (nP x) := tP.off ow_2 (by omega)
  have tQ : tx w_2 (a + 3) 16 (nQ x) := tQ.off ow_2 (by omega)
  have tS : tx w_2 (a + 5) 6 (nS x) := tS.off ow_2 (by omega)
  refine r_aload_n hb 6 dX3_attachTo_5 rfl 0 rfl ?_
  refine r_iload_n hb 7 dX3_attachTo_6 rfl 2 rfl ?_
  refine r_put hb ho 10 dX3_attachTo_7 rfl lk_X3_40 pf_X3_6 xw_2 (Nat.le_of_ble_eq_true rfl) ⟨rfl, rfl⟩ (fun w_7 hw_7 => ?_)
  have ow_7 := pset_off hw_7
  have xw_7 : w_7 a = some (eO 3 [.ref (a + 1), .ref (a + 3), .ref (a + 5), .int (iI (((nNum x : Nat) : Int))), .int (bI (nK x)), .int (iI (((b : Nat) : Int))), .int (iI (((e : Nat) : Int))), .int (nW x)]) := by rw [hw_7]; exact pset_eq _ _ _
  have tP : tx w_7 (a + 1) 6 (nP x) := tP.off ow_7 (by omega)
  have tQ : tx w_7 (a + 3) 16 (nQ x) := tQ.off ow_7 (by omega)
  have tS : tx w_7 (a + 5) 6 (nS x) := tS.off ow_7 (by omega)
  refine r_aload_n hb 11 dX3_attachTo_10 rfl 0 rfl ?_
  refine r_iconst hb 12 dX3_attachTo_11 rfl ?_
  refine r_topv (.int (bI true)) rfl ?_
  refine r_put hb ho 15 dX3_attachTo_12 rfl lk_X3_34 pf_X3_4 xw_7 (Nat.le_of_ble_eq_true rfl) ⟨rfl, rfl⟩ (fun w_12 hw_12 => ?_)
  have ow_12 := pset_off hw_12
  have xw_12 : w_12 a = some (eO 3 [.ref (a + 1), .ref (a + 3), .ref (a + 5), .int (iI (((nNum x : Nat) : Int))), .int (bI (true)), .int (iI (((b : Nat) : Int))), .int (iI (((e : Nat) : Int))), .int (nW x)]) := by rw [hw_12]; exact pset_eq _ _ _
  have tP : tx w_12 (a + 1) 6 (nP x) := tP.off ow_12 (by omega)
  have tQ : tx w_12 (a + 3) 16 (nQ x) := tQ.off ow_12 (by omega)
  have tS : tx w_12 (a + 5) 6 (nS x) := tS.off ow_12 (by omega)
  refine r_vret hS dX3_attachTo_15 rfl (Nat.zero_le _) (Nat.zero_le _) ?_
  exact ⟨rfl, rfl, ⟨xw_12, tP, tQ, tS, hnum, hb2, he2⟩, ((ow_2.mono (by omega) (by omega)).trans (ow_7.mono (by omega) (by omega))).trans (ow_12.mono (by omega) (by omega))⟩

abbrev rm_X3_covers : Room := { frames := 0, cells := 0, slots := 0, locals := 0 }
set_option maxHeartbeats 4000000 in
set_option maxRecDepth 100000 in
theorem c_X3_covers (a : Nat) (x : Nt) (i : Int) {w : PW} {n : Nat} (hN : nt w a x) (hi : -2147483648 ≤ i ∧ i < 2147483648) : CtR yX3_covers cX3_covers 2 (some .boolean) rm_X3_covers [.ref a, .int (iI (i))] w n (.int (bI (cvN x i))) := by
  obtain ⟨h0, tP, tQ, tS, hnum, hB, hE⟩ := id hN
  refine Ctr.of rfl (Nat.le_of_ble_eq_true rfl) fun S hS => ?_
  have hb : S.1.1 = cX3_covers := by rw [hS]; rfl
  have ho : S.1.2.1 = RX3 := by rw [hS]; rfl
  have hnL : S.1.2.2.1 = 2 := by rw [hS]; rfl
  have hR0 : S.2.1 = rm_X3_covers := by rw [hS]; rfl
  show Wp S 0 [(0, .ref a), (1, .int (iI (i)))] [] w n 0 0
  refine r_aload_n hb 1 dX3_covers_0 rfl 0 rfl ?_
  refine r_get hb ho 4 dX3_covers_1 rfl lk_X3_34 pf_X3_4 h0 rfl ?_
  refine r_iconst hb 5 dX3_covers_4 rfl ?_
  refine r_icmpB_ne hb 8 28 dX3_covers_5 rfl (by decide) (fun c5 => ?_) (fun c5 => ?_)
  · refine r_iconst hb 29 dX3_covers_28 rfl ?_
    refine r_iret hS dX3_covers_29 rfl rfl (Nat.zero_le _) (Nat.zero_le _) ?_
    exact ⟨_, rfl, congrArg Value.int (bI_F (decide_eq_false fun h => absurd (c5.symm.trans h.1) (by decide))), rfl, rfl⟩
  · refine r_aload_n hb 9 dX3_covers_8 rfl 0 rfl ?_
    refine r_get hb ho 12 dX3_covers_9 rfl lk_X3_37 pf_X3_5 h0 rfl ?_
    refine r_iload_n hb 13 dX3_covers_12 rfl 1 rfl ?_
    refine r_icmp_gt hb 16 28 dX3_covers_13 rfl (by decide) (by omega) (by omega) (fun c13 => ?_) (fun c13 => ?_)
    · refine r_iconst hb 29 dX3_covers_28 rfl ?_
      refine r_iret hS dX3_covers_29 rfl rfl (Nat.zero_le _) (Nat.zero_le _) ?_
      exact ⟨_, rfl, congrArg Value.int (bI_F (decide_eq_false fun h => by omega)), rfl, rfl⟩
    · refine r_iload_n hb 17 dX3_covers_16 rfl 1 rfl ?_
      refine r_aload_n hb 18 dX3_covers_17 rfl 0 rfl ?_
      refine r_get hb ho 21 dX3_covers_18 rfl lk_X3_40 pf_X3_6 h0 rfl ?_
      refine r_icmp_ge hb 24 28 dX3_covers_21 rfl (by decide) (by omega) (by omega) (fun c21 => ?_) (fun c21 => ?_)
      · refine r_iconst hb 29 dX3_covers_28 rfl ?_
        refine r_iret hS dX3_covers_29 rfl rfl (Nat.zero_le _) (Nat.zero_le _) ?_
        exact ⟨_, rfl, congrArg Value.int (bI_F (decide_eq_false fun h => by omega)), rfl, rfl⟩
      · refine r_iconst hb 25 dX3_covers_24 rfl ?_
        refine r_goto hb 29 dX3_covers_25 (by decide) ?_
        refine r_iret hS dX3_covers_29 rfl rfl (Nat.zero_le _) (Nat.zero_le _) ?_
        exact ⟨_, rfl, congrArg Value.int (bI_T (decide_eq_true ⟨c5, by omega, by omega⟩)), rfl, rfl⟩

abbrev rm_X3_isTwinOf : Room := { frames := 0, cells := 0, slots := 0, locals := 0 }
set_option maxHeartbeats 4000000 in
set_option maxRecDepth 100000 in
theorem c_X3_isTwinOf (a b : Nat) (x y : Nt) {w : PW} {n : Nat} (hN : nt w a x) (hM : nt w b y) : CtR yX3_isTwinOf cX3_isTwinOf 2 (some .boolean) rm_X3_isTwinOf [.ref a, .ref b] w n (.int (bI (twN x y))) := by
  obtain ⟨h0, tP, tQ, tS, hnum, hB, hE⟩ := id hN
  obtain ⟨g0, gP, gQ, gS, gnum, gB, gE⟩ := id hM
  refine Ctr.of rfl (Nat.le_of_ble_eq_true rfl) fun S hS => ?_
  have hb : S.1.1 = cX3_isTwinOf := by rw [hS]; rfl
  have ho : S.1.2.1 = RX3 := by rw [hS]; rfl
  have hnL : S.1.2.2.1 = 2 := by rw [hS]; rfl
  have hR0 : S.2.1 = rm_X3_isTwinOf := by rw [hS]; rfl
  show Wp S 0 [(0, .ref a), (1, .ref b)] [] w n 0 0
  refine r_aload_n hb 1 dX3_isTwinOf_0 rfl 0 rfl ?_
  refine r_get hb ho 4 dX3_isTwinOf_1 rfl lk_X3_34 pf_X3_4 h0 rfl ?_
  refine r_iconst hb 5 dX3_isTwinOf_4 rfl ?_
  refine r_icmpB_ne hb 8 42 dX3_isTwinOf_5 rfl (by decide) (fun c5 => ?_) (fun c5 => ?_)
  · refine r_iconst hb 43 dX3_isTwinOf_42 rfl ?_
    refine r_iret hS dX3_isTwinOf_43 rfl rfl (Nat.zero_le _) (Nat.zero_le _) ?_
    exact ⟨_, rfl, congrArg Value.int (bI_F (decide_eq_false fun h => absurd (c5.symm.trans h.1) (by decide))), rfl, rfl⟩
  · refine r_aload_n hb 9 dX3_isTwinOf_8 rfl 1 rfl ?_
    refine r_get hb ho 12 dX3_isTwinOf_9 rfl lk_X3_34 pf_X3_4 g0 rfl ?_
    refine r_iconst hb 13 dX3_isTwinOf_12 rfl ?_
    refine r_icmpB_ne hb 16 42 dX3_isTwinOf_13 rfl (by decide) (fun c13 => ?_) (fun c13 => ?_)
    · refine r_iconst hb 43 dX3_isTwinOf_42 rfl ?_
      refine r_iret hS dX3_isTwinOf_43 rfl rfl (Nat.zero_le _) (Nat.zero_le _) ?_
      exact ⟨_, rfl, congrArg Value.int (bI_F (decide_eq_false fun h => absurd (c13.symm.trans h.2.1) (by decide))), rfl, rfl⟩
    · refine r_aload_n hb 17 dX3_isTwinOf_16 rfl 0 rfl ?_
      refine r_get hb ho 20 dX3_isTwinOf_17 rfl lk_X3_37 pf_X3_5 h0 rfl ?_
      refine r_aload_n hb 21 dX3_isTwinOf_20 rfl 1 rfl ?_
      refine r_get hb ho 24 dX3_isTwinOf_21 rfl lk_X3_37 pf_X3_5 g0 rfl ?_
      refine r_icmp_ne hb 27 42 dX3_isTwinOf_24 rfl (by decide) (by omega) (by omega) (fun c24 => ?_) (fun c24 => ?_)
      · refine r_iconst hb 43 dX3_isTwinOf_42 rfl ?_
        refine r_iret hS dX3_isTwinOf_43 rfl rfl (Nat.zero_le _) (Nat.zero_le _) ?_
        exact ⟨_, rfl, congrArg Value.int (bI_F (decide_eq_false fun h => by omega)), rfl, rfl⟩
      · refine r_aload_n hb 28 dX3_isTwinOf_27 rfl 0 rfl ?_
        refine r_get hb ho 31 dX3_isTwinOf_28 rfl lk_X3_40 pf_X3_6 h0 rfl ?_
        refine r_aload_n hb 32 dX3_isTwinOf_31 rfl 1 rfl ?_
        refine r_get hb ho 35 dX3_isTwinOf_32 rfl lk_X3_40 pf_X3_6 g0 rfl ?_
        refine r_icmp_ne hb 38 42 dX3_isTwinOf_35 rfl (by decide) (by omega) (by omega) (fun c35 => ?_) (fun c35 => ?_)
        · refine r_iconst hb 43 dX3_isTwinOf_42 rfl ?_
          refine r_iret hS dX3_isTwinOf_43 rfl rfl (Nat.zero_le _) (Nat.zero_le _) ?_
          exact ⟨_, rfl, congrArg Value.int (bI_F (decide_eq_false fun h => by omega)), rfl, rfl⟩
        · refine r_iconst hb 39 dX3_isTwinOf_38 rfl ?_
          refine r_goto hb 43 dX3_isTwinOf_39 (by decide) ?_
          refine r_iret hS dX3_isTwinOf_43 rfl rfl (Nat.zero_le _) (Nat.zero_le _) ?_
          exact ⟨_, rfl, congrArg Value.int (bI_T (decide_eq_true ⟨c5, c13, by omega, by omega⟩)), rfl, rfl⟩

abbrev rm_X3_standsBefore : Room := { frames := 0, cells := 0, slots := 0, locals := 0 }
set_option maxHeartbeats 4000000 in
set_option maxRecDepth 100000 in
theorem c_X3_standsBefore (a b : Nat) (x y : Nt) {w : PW} {n : Nat} (hN : nt w a x) (hM : nt w b y) : CtR yX3_standsBefore cX3_standsBefore 2 (some .boolean) rm_X3_standsBefore [.ref a, .ref b] w n (.int (bI (sbN x y))) := by
  obtain ⟨h0, tP, tQ, tS, hnum, hB, hE⟩ := id hN
  obtain ⟨g0, gP, gQ, gS, gnum, gB, gE⟩ := id hM
  refine Ctr.of rfl (Nat.le_of_ble_eq_true rfl) fun S hS => ?_
  have hb : S.1.1 = cX3_standsBefore := by rw [hS]; rfl
  have ho : S.1.2.1 = RX3 := by rw [hS]; rfl
  have hnL : S.1.2.2.1 = 2 := by rw [hS]; rfl
  have hR0 : S.2.1 = rm_X3_standsBefore := by rw [hS]; rfl
  show Wp S 0 [(0, .ref a), (1, .ref b)] [] w n 0 0
  refine r_aload_n hb 1 dX3_standsBefore_0 rfl 0 rfl ?_
  refine r_get hb ho 4 dX3_standsBefore_1 rfl lk_X3_37 pf_X3_5 h0 rfl ?_
  refine r_aload_n hb 5 dX3_standsBefore_4 rfl 1 rfl ?_
  refine r_get hb ho 8 dX3_standsBefore_5 rfl lk_X3_37 pf_X3_5 g0 rfl ?_
  refine r_icmp_eq hb 11 28 dX3_standsBefore_8 rfl (by decide) (by omega) (by omega) (fun c8 => ?_) (fun c8 => ?_)
  · refine r_aload_n hb 29 dX3_standsBefore_28 rfl 0 rfl ?_
    refine r_get hb ho 32 dX3_standsBefore_29 rfl lk_X3_40 pf_X3_6 h0 rfl ?_
    refine r_aload_n hb 33 dX3_standsBefore_32 rfl 1 rfl ?_
    refine r_get hb ho 36 dX3_standsBefore_33 rfl lk_X3_40 pf_X3_6 g0 rfl ?_
    refine r_icmp_eq hb 39 58 dX3_standsBefore_36 rfl (by decide) (by omega) (by omega) (fun c36 => ?_) (fun c36 => ?_)
    · refine r_aload_n hb 59 dX3_standsBefore_58 rfl 0 rfl ?_
      refine r_get hb ho 62 dX3_standsBefore_59 rfl lk_X3_30 pf_X3_3 h0 rfl ?_
      refine r_aload_n hb 63 dX3_standsBefore_62 rfl 1 rfl ?_
      refine r_get hb ho 66 dX3_standsBefore_63 rfl lk_X3_30 pf_X3_3 g0 rfl ?_
      refine r_icmp_ge hb 69 73 dX3_standsBefore_66 rfl (by decide) (by omega) (by omega) (fun c66 => ?_) (fun c66 => ?_)
      · refine r_iconst hb 74 dX3_standsBefore_73 rfl ?_
        refine r_iret hS dX3_standsBefore_74 rfl rfl (Nat.zero_le _) (Nat.zero_le _) ?_
        exact ⟨_, rfl, congrArg Value.int (bI_F (decide_eq_false (by omega))), rfl, rfl⟩
      · refine r_iconst hb 70 dX3_standsBefore_69 rfl ?_
        refine r_goto hb 74 dX3_standsBefore_70 (by decide) ?_
        refine r_iret hS dX3_standsBefore_74 rfl rfl (Nat.zero_le _) (Nat.zero_le _) ?_
        exact ⟨_, rfl, congrArg Value.int (bI_T (decide_eq_true (by omega))), rfl, rfl⟩
    · refine r_aload_n hb 40 dX3_standsBefore_39 rfl 0 rfl ?_
      refine r_get hb ho 43 dX3_standsBefore_40 rfl lk_X3_40 pf_X3_6 h0 rfl ?_
      refine r_aload_n hb 44 dX3_standsBefore_43 rfl 1 rfl ?_
      refine r_get hb ho 47 dX3_standsBefore_44 rfl lk_X3_40 pf_X3_6 g0 rfl ?_
      refine r_icmp_le hb 50 54 dX3_standsBefore_47 rfl (by decide) (by omega) (by omega) (fun c47 => ?_) (fun c47 => ?_)
      · refine r_iconst hb 55 dX3_standsBefore_54 rfl ?_
        refine r_goto hb 74 dX3_standsBefore_55 (by decide) ?_
        refine r_iret hS dX3_standsBefore_74 rfl rfl (Nat.zero_le _) (Nat.zero_le _) ?_
        exact ⟨_, rfl, congrArg Value.int (bI_F (decide_eq_false (by omega))), rfl, rfl⟩
      · refine r_iconst hb 51 dX3_standsBefore_50 rfl ?_
        refine r_goto hb 74 dX3_standsBefore_51 (by decide) ?_
        refine r_iret hS dX3_standsBefore_74 rfl rfl (Nat.zero_le _) (Nat.zero_le _) ?_
        exact ⟨_, rfl, congrArg Value.int (bI_T (decide_eq_true (by omega))), rfl, rfl⟩
  · refine r_aload_n hb 12 dX3_standsBefore_11 rfl 0 rfl ?_
    refine r_get hb ho 15 dX3_standsBefore_12 rfl lk_X3_37 pf_X3_5 h0 rfl ?_
    refine r_aload_n hb 16 dX3_standsBefore_15 rfl 1 rfl ?_
    refine r_get hb ho 19 dX3_standsBefore_16 rfl lk_X3_37 pf_X3_5 g0 rfl ?_
    refine r_icmp_ge hb 22 26 dX3_standsBefore_19 rfl (by decide) (by omega) (by omega) (fun c19 => ?_) (fun c19 => ?_)
    · refine r_iconst hb 27 dX3_standsBefore_26 rfl ?_
      refine r_iret hS dX3_standsBefore_27 rfl rfl (Nat.zero_le _) (Nat.zero_le _) ?_
      exact ⟨_, rfl, congrArg Value.int (bI_F (decide_eq_false (by omega))), rfl, rfl⟩
    · refine r_iconst hb 23 dX3_standsBefore_22 rfl ?_
      refine r_goto hb 27 dX3_standsBefore_23 (by decide) ?_
      refine r_iret hS dX3_standsBefore_27 rfl rfl (Nat.zero_le _) (Nat.zero_le _) ?_
      exact ⟨_, rfl, congrArg Value.int (bI_T (decide_eq_true (by omega))), rfl, rfl⟩

abbrev rm_X3_boundAfterDelete : Room := { frames := 1, cells := 0, slots := 0, locals := 21 }
set_option maxHeartbeats 4000000 in
set_option maxRecDepth 100000 in
theorem c_X3_boundAfterDelete (b p m : Nat) {w : PW} {n : Nat} (h1 : b ≤ 200) (h2 : p ≤ 200) (h3 : m ≤ 200) : CtR yX3_boundAfterDelete cX3_boundAfterDelete 3 (some .int) rm_X3_boundAfterDelete [.int (iI (((b : Nat) : Int))), .int (iI (((p : Nat) : Int))), .int (iI (((m : Nat) : Int)))] w n (.int (iI (((bndD b p m : Nat) : Int)))) := by
  refine Ctr.of rfl (Nat.le_of_ble_eq_true rfl) fun S hS => ?_
  have hb : S.1.1 = cX3_boundAfterDelete := by rw [hS]; rfl
  have ho : S.1.2.1 = RX3 := by rw [hS]; rfl
  have hnL : S.1.2.2.1 = 3 := by rw [hS]; rfl
  have hR0 : S.2.1 = rm_X3_boundAfterDelete := by rw [hS]; rfl
  show Wp S 0 [(0, .int (iI (((b : Nat) : Int)))), (1, .int (iI (((p : Nat) : Int)))), (2, .int (iI (((m : Nat) : Int))))] [] w n 0 0
  refine r_iload_n hb 1 dX3_boundAfterDelete_0 rfl 0 rfl ?_
  refine r_iload_n hb 2 dX3_boundAfterDelete_1 rfl 1 rfl ?_
  refine r_iload_n hb 3 dX3_boundAfterDelete_2 rfl 2 rfl ?_
  refine r_iaddZ hb 4 (((p : Nat) : Int) + ((m : Nat) : Int)) dX3_boundAfterDelete_3 rfl (by omega) ?_
  refine r_icmp_lt hb 7 13 dX3_boundAfterDelete_4 rfl (by decide) (by omega) (by omega) (fun c4 => ?_) (fun c4 => ?_)
  · refine r_iload_n hb 14 dX3_boundAfterDelete_13 rfl 0 rfl ?_
    refine r_iload_n hb 15 dX3_boundAfterDelete_14 rfl 1 rfl ?_
    refine r_min hb ho 18 dX3_boundAfterDelete_15 rfl ck_X3_61 (by rw [hR0]; exact Nat.le_of_ble_eq_true rfl) (by rw [hR0]; exact Nat.le_of_ble_eq_true rfl) (by rw [hR0]; exact Nat.zero_le _) (by rw [hR0]; exact Nat.zero_le _) (by omega) (by omega) (((min b p : Nat) : Int)) (by omega) ?_
    refine r_iret hS dX3_boundAfterDelete_18 rfl rfl (Nat.zero_le _) (Nat.zero_le _) ?_
    exact ⟨_, rfl, by rw [bndD, if_neg (by omega)], rfl, rfl⟩
  · refine r_iload_n hb 8 dX3_boundAfterDelete_7 rfl 0 rfl ?_
    refine r_iload_n hb 9 dX3_boundAfterDelete_8 rfl 2 rfl ?_
    refine r_isubZ hb 10 ((((b - m : Nat) : Nat) : Int)) dX3_boundAfterDelete_9 rfl (by omega) ?_
    refine r_goto hb 18 dX3_boundAfterDelete_10 (by decide) ?_
    refine r_iret hS dX3_boundAfterDelete_18 rfl rfl (Nat.zero_le _) (Nat.zero_le _) ?_
    exact ⟨_, rfl, by rw [bndD, if_pos (by omega)], rfl, rfl⟩

abbrev rm_X3_moveForInsert : Room := { frames := 0, cells := 0, slots := 0, locals := 0 }
set_option maxHeartbeats 4000000 in
set_option maxRecDepth 100000 in
theorem c_X3_moveForInsert (a : Nat) (x : Nt) (p m : Nat) {w : PW} {n : Nat} (hN : nt w a x) (hp : p ≤ 200) (hm : nB x + m ≤ 200) (hm2 : nE x + m ≤ 200) : Ct0 yX3_moveForInsert cX3_moveForInsert 3 none rm_X3_moveForInsert [.ref a, .int (iI (((p : Nat) : Int))), .int (iI (((m : Nat) : Int)))] w n (fun w1 n1 => n = n1 ∧ nt w1 a (mvIns p m x) ∧ off w w1 a (a + 7)) := by
  obtain ⟨h0, tP, tQ, tS, hnum, hB, hE⟩ := id hN
  refine Ctr.of rfl (Nat.le_of_ble_eq_true rfl) fun S hS => ?_
  have hb : S.1.1 = cX3_moveForInsert := by rw [hS]; rfl
  have ho : S.1.2.1 = RX3 := by rw [hS]; rfl
  have hnL : S.1.2.2.1 = 3 := by rw [hS]; rfl
  have hR0 : S.2.1 = rm_X3_moveForInsert := by rw [hS]; rfl
  show Wp S 0 [(0, .ref a), (1, .int (iI (((p : Nat) : Int)))), (2, .int (iI (((m : Nat) : Int))))] [] w n 0 0
  refine r_aload_n hb 1 dX3_moveForInsert_0 rfl 0 rfl ?_
  refine r_get hb ho 4 dX3_moveForInsert_1 rfl lk_X3_37 pf_X3_5 h0 rfl ?_
  refine r_iload_n hb 5 dX3_moveForInsert_4 rfl 1 rfl ?_
  refine r_icmp_lt hb 8 31 dX3_moveForInsert_5 rfl (by decide) (by omega) (by omega) (fun c5 => ?_) (fun c5 => ?_)
  · refine r_aload_n hb 32 dX3_moveForInsert_31 rfl 0 rfl ?_
    refine r_get hb ho 35 dX3_moveForInsert_32 rfl lk_X3_40 pf_X3_6 h0 rfl ?_
    refine r_iload_n hb 36 dX3_moveForInsert_35 rfl 1 rfl ?_
    refine r_icmp_le hb 39 49 dX3_moveForInsert_36 rfl (by decide) (by omega) (by omega) (fun c36 => ?_) (fun c36 => ?_)
    · refine r_vret hS dX3_moveForInsert_49 rfl (Nat.zero_le _) (Nat.zero_le _) ?_
      rw [show mvIns p m x = x by unfold mvIns; rw [if_neg (by omega), if_neg (by omega)]; rfl]
      exact ⟨rfl, rfl, hN, off.rfl' _ _ _⟩
    · refine r_aload_n hb 40 dX3_moveForInsert_39 rfl 0 rfl ?_
      refine r_dup hb 41 dX3_moveForInsert_40 rfl rfl ?_
      refine r_get hb ho 44 dX3_moveForInsert_41 rfl lk_X3_40 pf_X3_6 h0 rfl ?_
      refine r_iload_n hb 45 dX3_moveForInsert_44 rfl 2 rfl ?_
      refine r_iaddZ hb 46 ((((nE x + m : Nat) : Nat) : Int)) dX3_moveForInsert_45 rfl (by omega) ?_
      refine r_put hb ho 49 dX3_moveForInsert_46 rfl lk_X3_40 pf_X3_6 h0 (Nat.le_of_ble_eq_true rfl) ⟨rfl, rfl⟩ (fun w_46 hw_46 => ?_)
      have ow_46 := pset_off hw_46
      have xw_46 : w_46 a = some (eO 3 [.ref (a + 1), .ref (a + 3), .ref (a + 5), .int (iI (((nNum x : Nat) : Int))), .int (bI (nK x)), .int (iI (((nB x : Nat) : Int))), .int (iI ((((nE x + m : Nat) : Nat) : Int))), .int (nW x)]) := by rw [hw_46]; exact pset_eq _ _ _
      have tP : tx w_46 (a + 1) 6 (nP x) := tP.off ow_46 (by omega)
      have tQ : tx w_46 (a + 3) 16 (nQ x) := tQ.off ow_46 (by omega)
      have tS : tx w_46 (a + 5) 6 (nS x) := tS.off ow_46 (by omega)
      refine r_vret hS dX3_moveForInsert_49 rfl (Nat.zero_le _) (Nat.zero_le _) ?_
      rw [show mvIns p m x = (x.1, nNum x, nK x, nB x, nE x + m, nW x) by unfold mvIns; rw [if_neg (by omega), if_pos (by omega)]]
      exact ⟨rfl, rfl, ⟨xw_46, tP, tQ, tS, hnum, hB, hm2⟩, ow_46.mono (by omega) (by omega)⟩
  · refine r_aload_n hb 9 dX3_moveForInsert_8 rfl 0 rfl ?_
    refine r_dup hb 10 dX3_moveForInsert_9 rfl rfl ?_
    refine r_get hb ho 13 dX3_moveForInsert_10 rfl lk_X3_37 pf_X3_5 h0 rfl ?_
    refine r_iload_n hb 14 dX3_moveForInsert_13 rfl 2 rfl ?_
    refine r_iaddZ hb 15 ((((nB x + m : Nat) : Nat) : Int)) dX3_moveForInsert_14 rfl (by omega) ?_
    refine r_put hb ho 18 dX3_moveForInsert_15 rfl lk_X3_37 pf_X3_5 h0 (Nat.le_of_ble_eq_true rfl) ⟨rfl, rfl⟩ (fun w_15 hw_15 => ?_)
    have ow_15 := pset_off hw_15
    have xw_15 : w_15 a = some (eO 3 [.ref (a + 1), .ref (a + 3), .ref (a + 5), .int (iI (((nNum x : Nat) : Int))), .int (bI (nK x)), .int (iI ((((nB x + m : Nat) : Nat) : Int))), .int (iI (((nE x : Nat) : Int))), .int (nW x)]) := by rw [hw_15]; exact pset_eq _ _ _
    have tP : tx w_15 (a + 1) 6 (nP x) := tP.off ow_15 (by omega)
    have tQ : tx w_15 (a + 3) 16 (nQ x) := tQ.off ow_15 (by omega)
    have tS : tx w_15 (a + 5) 6 (nS x) := tS.off ow_15 (by omega)
    refine r_aload_n hb 19 dX3_moveForInsert_18 rfl 0 rfl ?_
    refine r_dup hb 20 dX3_moveForInsert_19 rfl rfl ?_
    refine r_get hb ho 23 dX3_moveForInsert_20 rfl lk_X3_40 pf_X3_6 xw_15 rfl ?_
    refine r_iload_n hb 24 dX3_moveForInsert_23 rfl 2 rfl ?_
    refine r_iaddZ hb 25 ((((nE x + m : Nat) : Nat) : Int)) dX3_moveForInsert_24 rfl (by omega) ?_
    refine r_put hb ho 28 dX3_moveForInsert_25 rfl lk_X3_40 pf_X3_6 xw_15 (Nat.le_of_ble_eq_true rfl) ⟨rfl, rfl⟩ (fun w_25 hw_25 => ?_)
    have ow_25 := pset_off hw_25
    have xw_25 : w_25 a = some (eO 3 [.ref (a + 1), .ref (a + 3), .ref (a + 5), .int (iI (((nNum x : Nat) : Int))), .int (bI (nK x)), .int (iI ((((nB x + m : Nat) : Nat) : Int))), .int (iI ((((nE x + m : Nat) : Nat) : Int))), .int (nW x)]) := by rw [hw_25]; exact pset_eq _ _ _
    have tP : tx w_25 (a + 1) 6 (nP x) := tP.off ow_25 (by omega)
    have tQ : tx w_25 (a + 3) 16 (nQ x) := tQ.off ow_25 (by omega)
    have tS : tx w_25 (a + 5) 6 (nS x) := tS.off ow_25 (by omega)
    refine r_goto hb 49 dX3_moveForInsert_28 (by decide) ?_
    refine r_vret hS dX3_moveForInsert_49 rfl (Nat.zero_le _) (Nat.zero_le _) ?_
    rw [show mvIns p m x = (x.1, nNum x, nK x, nB x + m, nE x + m, nW x) by unfold mvIns; rw [if_pos (by omega), if_pos (by omega)]]
    exact ⟨rfl, rfl, ⟨xw_25, tP, tQ, tS, hnum, hm, hm2⟩, (ow_15.mono (by omega) (by omega)).trans (ow_25.mono (by omega) (by omega))⟩

abbrev rm_X3_moveForDelete : Room := { frames := 2, cells := 0, slots := 0, locals := 43 }
set_option maxHeartbeats 4000000 in
set_option maxRecDepth 100000 in
theorem c_X3_moveForDelete (a : Nat) (x : Nt) (p m : Nat) {w : PW} {n : Nat} (hN : nt w a x) (hp : p ≤ 200) (hm : m ≤ 200) : Ct1 yX3_moveForDelete cX3_moveForDelete 3 (some .boolean) rm_X3_moveForDelete [.ref a, .int (iI (((p : Nat) : Int))), .int (iI (((m : Nat) : Int)))] w n (fun v w1 n1 => v = .int (bI (nK x && !(decide (bndD (nB x) p m < bndD (nE x) p m)))) ∧ n = n1 ∧ nt w1 a (mvDel p m x) ∧ off w w1 a (a + 7)) := by
  obtain ⟨h0, tP, tQ, tS, hnum, hB, hE⟩ := id hN
  refine Ctr.of rfl (Nat.le_of_ble_eq_true rfl) fun S hS => ?_
  have hb : S.1.1 = cX3_moveForDelete := by rw [hS]; rfl
  have ho : S.1.2.1 = RX3 := by rw [hS]; rfl
  have hnL : S.1.2.2.1 = 3 := by rw [hS]; rfl
  have hR0 : S.2.1 = rm_X3_moveForDelete := by rw [hS]; rfl
  show Wp S 0 [(0, .ref a), (1, .int (iI (((p : Nat) : Int)))), (2, .int (iI (((m : Nat) : Int))))] [] w n 0 0
  refine r_aload_n hb 1 dX3_moveForDelete_0 rfl 0 rfl ?_
  refine r_aload_n hb 2 dX3_moveForDelete_1 rfl 0 rfl ?_
  refine r_get hb ho 5 dX3_moveForDelete_2 rfl lk_X3_37 pf_X3_5 h0 rfl ?_
  refine r_iload_n hb 6 dX3_moveForDelete_5 rfl 1 rfl ?_
  refine r_iload_n hb 7 dX3_moveForDelete_6 rfl 2 rfl ?_
  refine r_callSR (st := [.ref a]) hb ho 10 dX3_moveForDelete_7 rfl ck_X3_57 (c_X3_boundAfterDelete ((nB x)) p m (by omega) (by omega) (by omega)) rfl rfl (by rw [hR0]; exact ⟨Nat.le_of_ble_eq_true rfl, Nat.le_of_ble_eq_true rfl⟩) (Nat.le_of_ble_eq_true rfl) ⟨rfl, rfl⟩ (by rw [hR0]; exact Nat.zero_le _) (by rw [hR0]; exact Nat.zero_le _) ?_
  refine r_put hb ho 13 dX3_moveForDelete_10 rfl lk_X3_37 pf_X3_5 h0 (Nat.le_of_ble_eq_true rfl) ⟨rfl, rfl⟩ (fun w_10 hw_10 => ?_)
  have ow_10 := pset_off hw_10
  have xw_10 : w_10 a = some (eO 3 [.ref (a + 1), .ref (a + 3), .ref (a + 5), .int (iI (((nNum x : Nat) : Int))), .int (bI (nK x)), .int (iI (((bndD ((nB x)) p m : Nat) : Int))), .int (iI (((nE x : Nat) : Int))), .int (nW x)]) := by rw [hw_10]; exact pset_eq _ _ _
  have tP : tx w_10 (a + 1) 6 (nP x) := tP.off ow_10 (by omega)
  have tQ : tx w_10 (a + 3) 16 (nQ x) := tQ.off ow_10 (by omega)
  have tS : tx w_10 (a + 5) 6 (nS x) := tS.off ow_10 (by omega)
  refine r_aload_n hb 14 dX3_moveForDelete_13 rfl 0 rfl ?_
  refine r_aload_n hb 15 dX3_moveForDelete_14 rfl 0 rfl ?_
  refine r_get hb ho 18 dX3_moveForDelete_15 rfl lk_X3_40 pf_X3_6 xw_10 rfl ?_
  refine r_iload_n hb 19 dX3_moveForDelete_18 rfl 1 rfl ?_
  refine r_iload_n hb 20 dX3_moveForDelete_19 rfl 2 rfl ?_
  refine r_callSR (st := [.ref a]) hb ho 23 dX3_moveForDelete_20 rfl ck_X3_57 (c_X3_boundAfterDelete ((nE x)) p m (by omega) (by omega) (by omega)) rfl rfl (by rw [hR0]; exact ⟨Nat.le_of_ble_eq_true rfl, Nat.le_of_ble_eq_true rfl⟩) (Nat.le_of_ble_eq_true rfl) ⟨rfl, rfl⟩ (by rw [hR0]; exact Nat.zero_le _) (by rw [hR0]; exact Nat.zero_le _) ?_
  refine r_put hb ho 26 dX3_moveForDelete_23 rfl lk_X3_40 pf_X3_6 xw_10 (Nat.le_of_ble_eq_true rfl) ⟨rfl, rfl⟩ (fun w_23 hw_23 => ?_)
  have ow_23 := pset_off hw_23
  have xw_23 : w_23 a = some (eO 3 [.ref (a + 1), .ref (a + 3), .ref (a + 5), .int (iI (((nNum x : Nat) : Int))), .int (bI (nK x)), .int (iI (((bndD ((nB x)) p m : Nat) : Int))), .int (iI (((bndD ((nE x)) p m : Nat) : Int))), .int (nW x)]) := by rw [hw_23]; exact pset_eq _ _ _
  have tP : tx w_23 (a + 1) 6 (nP x) := tP.off ow_23 (by omega)
  have tQ : tx w_23 (a + 3) 16 (nQ x) := tQ.off ow_23 (by omega)
  have tS : tx w_23 (a + 5) 6 (nS x) := tS.off ow_23 (by omega)
  refine r_aload_n hb 27 dX3_moveForDelete_26 rfl 0 rfl ?_
  refine r_get hb ho 30 dX3_moveForDelete_27 rfl lk_X3_34 pf_X3_4 xw_23 rfl ?_
  have hb1 : bndD (nB x) p m ≤ 200 := by unfold bndD; split <;> omega
  have hb2 : bndD (nE x) p m ≤ 200 := by unfold bndD; split <;> omega
  refine r_ifb_eq hb 33 44 dX3_moveForDelete_30 rfl (by decide) (fun c30 => ?_) (fun c30 => ?_)
  · refine r_iconst hb 45 dX3_moveForDelete_44 rfl ?_
    refine r_iret hS dX3_moveForDelete_45 rfl rfl (Nat.zero_le _) (Nat.zero_le _) ?_
    refine ⟨_, rfl, congrArg Value.int (bI_F (by rw [c30]; rfl)), rfl, ?_, (ow_10.mono (by omega) (by omega)).trans (ow_23.mono (by omega) (by omega))⟩
    rw [show mvDel p m x = (x.1, nNum x, nK x, bndD (nB x) p m, bndD (nE x) p m, nW x) by unfold mvDel; rw [c30]; rfl]
    exact ⟨xw_23, tP, tQ, tS, hnum, hb1, hb2⟩
  · refine r_aload_n hb 34 dX3_moveForDelete_33 rfl 0 rfl ?_
    refine r_get hb ho 37 dX3_moveForDelete_34 rfl lk_X3_37 pf_X3_5 xw_23 rfl ?_
    refine r_aload_n hb 38 dX3_moveForDelete_37 rfl 0 rfl ?_
    refine r_get hb ho 41 dX3_moveForDelete_38 rfl lk_X3_40 pf_X3_6 xw_23 rfl ?_
    refine r_icmp_ge hb 44 46 dX3_moveForDelete_41 rfl (by decide) (by omega) (by omega) (fun c41 => ?_) (fun c41 => ?_)
    · refine r_aload_n hb 47 dX3_moveForDelete_46 rfl 0 rfl ?_
      refine r_iconst hb 48 dX3_moveForDelete_47 rfl ?_
      refine r_topv (.int (bI false)) rfl ?_
      refine r_put hb ho 51 dX3_moveForDelete_48 rfl lk_X3_34 pf_X3_4 xw_23 (Nat.le_of_ble_eq_true rfl) ⟨rfl, rfl⟩ (fun w_48 hw_48 => ?_)
      have ow_48 := pset_off hw_48
      have xw_48 : w_48 a = some (eO 3 [.ref (a + 1), .ref (a + 3), .ref (a + 5), .int (iI (((nNum x : Nat) : Int))), .int (bI (false)), .int (iI (((bndD ((nB x)) p m : Nat) : Int))), .int (iI (((bndD ((nE x)) p m : Nat) : Int))), .int (nW x)]) := by rw [hw_48]; exact pset_eq _ _ _
      have tP : tx w_48 (a + 1) 6 (nP x) := tP.off ow_48 (by omega)
      have tQ : tx w_48 (a + 3) 16 (nQ x) := tQ.off ow_48 (by omega)
      have tS : tx w_48 (a + 5) 6 (nS x) := tS.off ow_48 (by omega)
      refine r_iconst hb 52 dX3_moveForDelete_51 rfl ?_
      refine r_iret hS dX3_moveForDelete_52 rfl rfl (Nat.zero_le _) (Nat.zero_le _) ?_
      refine ⟨_, rfl, congrArg Value.int (bI_T (by rw [c30, decide_eq_false (by omega)]; rfl)), rfl, ?_, ((ow_10.mono (by omega) (by omega)).trans (ow_23.mono (by omega) (by omega))).trans (ow_48.mono (by omega) (by omega))⟩
      rw [show mvDel p m x = (x.1, nNum x, false, bndD (nB x) p m, bndD (nE x) p m, nW x) by unfold mvDel; rw [c30, decide_eq_false (by omega)]; rfl]
      exact ⟨xw_48, tP, tQ, tS, hnum, hb1, hb2⟩
    · refine r_iconst hb 45 dX3_moveForDelete_44 rfl ?_
      refine r_iret hS dX3_moveForDelete_45 rfl rfl (Nat.zero_le _) (Nat.zero_le _) ?_
      refine ⟨_, rfl, congrArg Value.int (bI_F (by rw [c30, decide_eq_true (by omega)]; rfl)), rfl, ?_, (ow_10.mono (by omega) (by omega)).trans (ow_23.mono (by omega) (by omega))⟩
      rw [show mvDel p m x = (x.1, nNum x, nK x, bndD (nB x) p m, bndD (nE x) p m, nW x) by unfold mvDel; rw [c30, decide_eq_true (by omega)]; rfl]
      exact ⟨xw_23, tP, tQ, tS, hnum, hb1, hb2⟩

abbrev rm_X3_moveForReplacement : Room := { frames := 1, cells := 0, slots := 0, locals := 21 }
set_option maxHeartbeats 4000000 in
set_option maxRecDepth 100000 in
theorem c_X3_moveForReplacement (a : Nat) (x : Nt) (m : Nat) {w : PW} {n : Nat} (hN : nt w a x) (hm : m ≤ 200) : Ct0 yX3_moveForReplacement cX3_moveForReplacement 2 none rm_X3_moveForReplacement [.ref a, .int (iI (((m : Nat) : Int)))] w n (fun w1 n1 => n = n1 ∧ nt w1 a (mvRep m x) ∧ off w w1 a (a + 7)) := by
  obtain ⟨h0, tP, tQ, tS, hnum, hB, hE⟩ := id hN
  refine Ctr.of rfl (Nat.le_of_ble_eq_true rfl) fun S hS => ?_
  have hb : S.1.1 = cX3_moveForReplacement := by rw [hS]; rfl
  have ho : S.1.2.1 = RX3 := by rw [hS]; rfl
  have hnL : S.1.2.2.1 = 2 := by rw [hS]; rfl
  have hR0 : S.2.1 = rm_X3_moveForReplacement := by rw [hS]; rfl
  show Wp S 0 [(0, .ref a), (1, .int (iI (((m : Nat) : Int))))] [] w n 0 0
  refine r_aload_n hb 1 dX3_moveForReplacement_0 rfl 0 rfl ?_
  refine r_iconst hb 2 dX3_moveForReplacement_1 rfl ?_
  refine r_topv (.int (bI false)) rfl ?_
  refine r_put hb ho 5 dX3_moveForReplacement_2 rfl lk_X3_34 pf_X3_4 h0 (Nat.le_of_ble_eq_true rfl) ⟨rfl, rfl⟩ (fun w_2 hw_2 => ?_)
  have ow_2 := pset_off hw_2
  have xw_2 : w_2 a = some (eO 3 [.ref (a + 1), .ref (a + 3), .ref (a + 5), .int (iI (((nNum x : Nat) : Int))), .int (bI (false)), .int (iI (((nB x : Nat) : Int))), .int (iI (((nE x : Nat) : Int))), .int (nW x)]) := by rw [hw_2]; exact pset_eq _ _ _
  have tP : tx w_2 (a + 1) 6 (nP x) := tP.off ow_2 (by omega)
  have tQ : tx w_2 (a + 3) 16 (nQ x) := tQ.off ow_2 (by omega)
  have tS : tx w_2 (a + 5) 6 (nS x) := tS.off ow_2 (by omega)
  refine r_aload_n hb 6 dX3_moveForReplacement_5 rfl 0 rfl ?_
  refine r_aload_n hb 7 dX3_moveForReplacement_6 rfl 0 rfl ?_
  refine r_get hb ho 10 dX3_moveForReplacement_7 rfl lk_X3_37 pf_X3_5 xw_2 rfl ?_
  refine r_iload_n hb 11 dX3_moveForReplacement_10 rfl 1 rfl ?_
  refine r_min hb ho 14 dX3_moveForReplacement_11 rfl ck_X3_61 (by rw [hR0]; exact Nat.le_of_ble_eq_true rfl) (by rw [hR0]; exact Nat.le_of_ble_eq_true rfl) (by rw [hR0]; exact Nat.zero_le _) (by rw [hR0]; exact Nat.zero_le _) (by omega) (by omega) (((min ((nB x)) m : Nat) : Int)) (by omega) ?_
  refine r_put hb ho 17 dX3_moveForReplacement_14 rfl lk_X3_37 pf_X3_5 xw_2 (Nat.le_of_ble_eq_true rfl) ⟨rfl, rfl⟩ (fun w_14 hw_14 => ?_)
  have ow_14 := pset_off hw_14
  have xw_14 : w_14 a = some (eO 3 [.ref (a + 1), .ref (a + 3), .ref (a + 5), .int (iI (((nNum x : Nat) : Int))), .int (bI (false)), .int (iI (((min ((nB x)) m : Nat) : Int))), .int (iI (((nE x : Nat) : Int))), .int (nW x)]) := by rw [hw_14]; exact pset_eq _ _ _
  have tP : tx w_14 (a + 1) 6 (nP x) := tP.off ow_14 (by omega)
  have tQ : tx w_14 (a + 3) 16 (nQ x) := tQ.off ow_14 (by omega)
  have tS : tx w_14 (a + 5) 6 (nS x) := tS.off ow_14 (by omega)
  refine r_aload_n hb 18 dX3_moveForReplacement_17 rfl 0 rfl ?_
  refine r_aload_n hb 19 dX3_moveForReplacement_18 rfl 0 rfl ?_
  refine r_get hb ho 22 dX3_moveForReplacement_19 rfl lk_X3_40 pf_X3_6 xw_14 rfl ?_
  refine r_iload_n hb 23 dX3_moveForReplacement_22 rfl 1 rfl ?_
  refine r_min hb ho 26 dX3_moveForReplacement_23 rfl ck_X3_61 (by rw [hR0]; exact Nat.le_of_ble_eq_true rfl) (by rw [hR0]; exact Nat.le_of_ble_eq_true rfl) (by rw [hR0]; exact Nat.zero_le _) (by rw [hR0]; exact Nat.zero_le _) (by omega) (by omega) (((min ((nE x)) m : Nat) : Int)) (by omega) ?_
  refine r_put hb ho 29 dX3_moveForReplacement_26 rfl lk_X3_40 pf_X3_6 xw_14 (Nat.le_of_ble_eq_true rfl) ⟨rfl, rfl⟩ (fun w_26 hw_26 => ?_)
  have ow_26 := pset_off hw_26
  have xw_26 : w_26 a = some (eO 3 [.ref (a + 1), .ref (a + 3), .ref (a + 5), .int (iI (((nNum x : Nat) : Int))), .int (bI (false)), .int (iI (((min ((nB x)) m : Nat) : Int))), .int (iI (((min ((nE x)) m : Nat) : Int))), .int (nW x)]) := by rw [hw_26]; exact pset_eq _ _ _
  have tP : tx w_26 (a + 1) 6 (nP x) := tP.off ow_26 (by omega)
  have tQ : tx w_26 (a + 3) 16 (nQ x) := tQ.off ow_26 (by omega)
  have tS : tx w_26 (a + 5) 6 (nS x) := tS.off ow_26 (by omega)
  refine r_vret hS dX3_moveForReplacement_29 rfl (Nat.zero_le _) (Nat.zero_le _) ?_
  exact ⟨rfl, rfl, ⟨xw_26, tP, tQ, tS, hnum, Nat.le_trans (Nat.min_le_left _ _) hB, Nat.le_trans (Nat.min_le_left _ _) hE⟩, ((ow_2.mono (by omega) (by omega)).trans (ow_14.mono (by omega) (by omega))).trans (ow_26.mono (by omega) (by omega))⟩

abbrev rm_X3_become : Room := { frames := 3, cells := 0, slots := 0, locals := 66 }
set_option maxHeartbeats 4000000 in
set_option maxRecDepth 100000 in
theorem c_X3_become (a b : Nat) (x y : Nt) {w : PW} {n : Nat} (hN : nt w a x) (hM : nt w b y) (hd : a + 7 ≤ b ∨ b + 7 ≤ a) : Ct0 yX3_become cX3_become 2 none rm_X3_become [.ref a, .ref b] w n (fun w1 n1 => n = n1 ∧ nt w1 a y ∧ off w w1 a (a + 7)) := by
  obtain ⟨h0, tP, tQ, tS, hnum, hB, hE⟩ := id hN
  obtain ⟨g0, gP, gQ, gS, gnum, gB, gE⟩ := id hM
  refine Ctr.of rfl (Nat.le_of_ble_eq_true rfl) fun S hS => ?_
  have hb : S.1.1 = cX3_become := by rw [hS]; rfl
  have ho : S.1.2.1 = RX3 := by rw [hS]; rfl
  have hnL : S.1.2.2.1 = 2 := by rw [hS]; rfl
  have hR0 : S.2.1 = rm_X3_become := by rw [hS]; rfl
  show Wp S 0 [(0, .ref a), (1, .ref b)] [] w n 0 0
  refine r_aload_n hb 1 dX3_become_0 rfl 0 rfl ?_
  refine r_get hb ho 4 dX3_become_1 rfl lk_X3_14 pf_X3_0 h0 rfl ?_
  refine r_aload_n hb 5 dX3_become_4 rfl 1 rfl ?_
  refine r_get hb ho 8 dX3_become_5 rfl lk_X3_14 pf_X3_0 g0 rfl ?_
  refine r_callV0 (st := []) hb ho 11 dX3_become_8 rfl ck_X3_26 (c_X7_become (a + 1) 6 (b + 1) 6 (nP x) (nP y) tP gP (by omega) (by omega) (by omega) gP.2.1) rfl rfl (tP.1) rfl rfl (by rw [hR0]; exact ⟨Nat.le_of_ble_eq_true rfl, Nat.le_of_ble_eq_true rfl⟩) (Nat.le_of_ble_eq_true rfl) ⟨rfl, rfl⟩ (by rw [hR0]; exact Nat.zero_le _) (by rw [hR0]; exact Nat.zero_le _) (fun w_8 nw_8 qw_8 => ?_)
  obtain ⟨rfl, tP, ow_8⟩ := qw_8
  have h0 : w_8 a = some (eO 3 [.ref (a + 1), .ref (a + 3), .ref (a + 5), .int (iI (((nNum x : Nat) : Int))), .int (bI (nK x)), .int (iI (((nB x : Nat) : Int))), .int (iI (((nE x : Nat) : Int))), .int (nW x)]) := (ow_8 _ (by omega)).trans h0
  have g0 : w_8 b = some (eO 3 [.ref (b + 1), .ref (b + 3), .ref (b + 5), .int (iI (((nNum y : Nat) : Int))), .int (bI (nK y)), .int (iI (((nB y : Nat) : Int))), .int (iI (((nE y : Nat) : Int))), .int (nW y)]) := (ow_8 _ (by omega)).trans g0
  have tQ : tx w_8 (a + 3) 16 (nQ x) := tQ.off ow_8 (by omega)
  have tS : tx w_8 (a + 5) 6 (nS x) := tS.off ow_8 (by omega)
  have gP : tx w_8 (b + 1) 6 (nP y) := gP.off ow_8 (by omega)
  have gQ : tx w_8 (b + 3) 16 (nQ y) := gQ.off ow_8 (by omega)
  have gS : tx w_8 (b + 5) 6 (nS y) := gS.off ow_8 (by omega)
  refine r_aload_n hb 12 dX3_become_11 rfl 0 rfl ?_
  refine r_get hb ho 15 dX3_become_12 rfl lk_X3_20 pf_X3_1 h0 rfl ?_
  refine r_aload_n hb 16 dX3_become_15 rfl 1 rfl ?_
  refine r_get hb ho 19 dX3_become_16 rfl lk_X3_20 pf_X3_1 g0 rfl ?_
  refine r_callV0 (st := []) hb ho 22 dX3_become_19 rfl ck_X3_26 (c_X7_become (a + 3) 16 (b + 3) 16 (nQ x) (nQ y) tQ gQ (by omega) (by omega) (by omega) gQ.2.1) rfl rfl (tQ.1) rfl rfl (by rw [hR0]; exact ⟨Nat.le_of_ble_eq_true rfl, Nat.le_of_ble_eq_true rfl⟩) (Nat.le_of_ble_eq_true rfl) ⟨rfl, rfl⟩ (by rw [hR0]; exact Nat.zero_le _) (by rw [hR0]; exact Nat.zero_le _) (fun w_19 nw_19 qw_19 => ?_)
  obtain ⟨rfl, tQ, ow_19⟩ := qw_19
  have tP : tx w_19 (a + 1) 6 (nP y) := tP.off ow_19 (by omega)
  have h0 : w_19 a = some (eO 3 [.ref (a + 1), .ref (a + 3), .ref (a + 5), .int (iI (((nNum x : Nat) : Int))), .int (bI (nK x)), .int (iI (((nB x : Nat) : Int))), .int (iI (((nE x : Nat) : Int))), .int (nW x)]) := (ow_19 _ (by omega)).trans h0
  have g0 : w_19 b = some (eO 3 [.ref (b + 1), .ref (b + 3), .ref (b + 5), .int (iI (((nNum y : Nat) : Int))), .int (bI (nK y)), .int (iI (((nB y : Nat) : Int))), .int (iI (((nE y : Nat) : Int))), .int (nW y)]) := (ow_19 _ (by omega)).trans g0
  have tS : tx w_19 (a + 5) 6 (nS x) := tS.off ow_19 (by omega)
  have gP : tx w_19 (b + 1) 6 (nP y) := gP.off ow_19 (by omega)
  have gQ : tx w_19 (b + 3) 16 (nQ y) := gQ.off ow_19 (by omega)
  have gS : tx w_19 (b + 5) 6 (nS y) := gS.off ow_19 (by omega)
  refine r_aload_n hb 23 dX3_become_22 rfl 0 rfl ?_
  refine r_get hb ho 26 dX3_become_23 rfl lk_X3_23 pf_X3_2 h0 rfl ?_
  refine r_aload_n hb 27 dX3_become_26 rfl 1 rfl ?_
  refine r_get hb ho 30 dX3_become_27 rfl lk_X3_23 pf_X3_2 g0 rfl ?_
  refine r_callV0 (st := []) hb ho 33 dX3_become_30 rfl ck_X3_26 (c_X7_become (a + 5) 6 (b + 5) 6 (nS x) (nS y) tS gS (by omega) (by omega) (by omega) gS.2.1) rfl rfl (tS.1) rfl rfl (by rw [hR0]; exact ⟨Nat.le_of_ble_eq_true rfl, Nat.le_of_ble_eq_true rfl⟩) (Nat.le_of_ble_eq_true rfl) ⟨rfl, rfl⟩ (by rw [hR0]; exact Nat.zero_le _) (by rw [hR0]; exact Nat.zero_le _) (fun w_30 nw_30 qw_30 => ?_)
  obtain ⟨rfl, tS, ow_30⟩ := qw_30
  have tQ : tx w_30 (a + 3) 16 (nQ y) := tQ.off ow_30 (by omega)
  have tP : tx w_30 (a + 1) 6 (nP y) := tP.off ow_30 (by omega)
  have h0 : w_30 a = some (eO 3 [.ref (a + 1), .ref (a + 3), .ref (a + 5), .int (iI (((nNum x : Nat) : Int))), .int (bI (nK x)), .int (iI (((nB x : Nat) : Int))), .int (iI (((nE x : Nat) : Int))), .int (nW x)]) := (ow_30 _ (by omega)).trans h0
  have g0 : w_30 b = some (eO 3 [.ref (b + 1), .ref (b + 3), .ref (b + 5), .int (iI (((nNum y : Nat) : Int))), .int (bI (nK y)), .int (iI (((nB y : Nat) : Int))), .int (iI (((nE y : Nat) : Int))), .int (nW y)]) := (ow_30 _ (by omega)).trans g0
  have gP : tx w_30 (b + 1) 6 (nP y) := gP.off ow_30 (by omega)
  have gQ : tx w_30 (b + 3) 16 (nQ y) := gQ.off ow_30 (by omega)
  have gS : tx w_30 (b + 5) 6 (nS y) := gS.off ow_30 (by omega)
  refine r_aload_n hb 34 dX3_become_33 rfl 0 rfl ?_
  refine r_aload_n hb 35 dX3_become_34 rfl 1 rfl ?_
  refine r_get hb ho 38 dX3_become_35 rfl lk_X3_30 pf_X3_3 g0 rfl ?_
  refine r_put hb ho 41 dX3_become_38 rfl lk_X3_30 pf_X3_3 h0 (Nat.le_of_ble_eq_true rfl) ⟨rfl, rfl⟩ (fun w_38 hw_38 => ?_)
  have ow_38 := pset_off hw_38
  have xw_38 : w_38 a = some (eO 3 [.ref (a + 1), .ref (a + 3), .ref (a + 5), .int (iI (((nNum y : Nat) : Int))), .int (bI (nK x)), .int (iI (((nB x : Nat) : Int))), .int (iI (((nE x : Nat) : Int))), .int (nW x)]) := by rw [hw_38]; exact pset_eq _ _ _
  have tS : tx w_38 (a + 5) 6 (nS y) := tS.off ow_38 (by omega)
  have tQ : tx w_38 (a + 3) 16 (nQ y) := tQ.off ow_38 (by omega)
  have tP : tx w_38 (a + 1) 6 (nP y) := tP.off ow_38 (by omega)
  have g0 : w_38 b = some (eO 3 [.ref (b + 1), .ref (b + 3), .ref (b + 5), .int (iI (((nNum y : Nat) : Int))), .int (bI (nK y)), .int (iI (((nB y : Nat) : Int))), .int (iI (((nE y : Nat) : Int))), .int (nW y)]) := (ow_38 _ (by omega)).trans g0
  have gP : tx w_38 (b + 1) 6 (nP y) := gP.off ow_38 (by omega)
  have gQ : tx w_38 (b + 3) 16 (nQ y) := gQ.off ow_38 (by omega)
  have gS : tx w_38 (b + 5) 6 (nS y) := gS.off ow_38 (by omega)
  refine r_aload_n hb 42 dX3_become_41 rfl 0 rfl ?_
  refine r_aload_n hb 43 dX3_become_42 rfl 1 rfl ?_
  refine r_get hb ho 46 dX3_become_43 rfl lk_X3_34 pf_X3_4 g0 rfl ?_
  refine r_put hb ho 49 dX3_become_46 rfl lk_X3_34 pf_X3_4 xw_38 (Nat.le_of_ble_eq_true rfl) ⟨rfl, rfl⟩ (fun w_46 hw_46 => ?_)
  have ow_46 := pset_off hw_46
  have xw_46 : w_46 a = some (eO 3 [.ref (a + 1), .ref (a + 3), .ref (a + 5), .int (iI (((nNum y : Nat) : Int))), .int (bI (nK y)), .int (iI (((nB x : Nat) : Int))), .int (iI (((nE x : Nat) : Int))), .int (nW x)]) := by rw [hw_46]; exact pset_eq _ _ _
  have tS : tx w_46 (a + 5) 6 (nS y) := tS.off ow_46 (by omega)
  have tQ : tx w_46 (a + 3) 16 (nQ y) := tQ.off ow_46 (by omega)
  have tP : tx w_46 (a + 1) 6 (nP y) := tP.off ow_46 (by omega)
  have g0 : w_46 b = some (eO 3 [.ref (b + 1), .ref (b + 3), .ref (b + 5), .int (iI (((nNum y : Nat) : Int))), .int (bI (nK y)), .int (iI (((nB y : Nat) : Int))), .int (iI (((nE y : Nat) : Int))), .int (nW y)]) := (ow_46 _ (by omega)).trans g0
  have gP : tx w_46 (b + 1) 6 (nP y) := gP.off ow_46 (by omega)
  have gQ : tx w_46 (b + 3) 16 (nQ y) := gQ.off ow_46 (by omega)
  have gS : tx w_46 (b + 5) 6 (nS y) := gS.off ow_46 (by omega)
  refine r_aload_n hb 50 dX3_become_49 rfl 0 rfl ?_
  refine r_aload_n hb 51 dX3_become_50 rfl 1 rfl ?_
  refine r_get hb ho 54 dX3_become_51 rfl lk_X3_37 pf_X3_5 g0 rfl ?_
  refine r_put hb ho 57 dX3_become_54 rfl lk_X3_37 pf_X3_5 xw_46 (Nat.le_of_ble_eq_true rfl) ⟨rfl, rfl⟩ (fun w_54 hw_54 => ?_)
  have ow_54 := pset_off hw_54
  have xw_54 : w_54 a = some (eO 3 [.ref (a + 1), .ref (a + 3), .ref (a + 5), .int (iI (((nNum y : Nat) : Int))), .int (bI (nK y)), .int (iI (((nB y : Nat) : Int))), .int (iI (((nE x : Nat) : Int))), .int (nW x)]) := by rw [hw_54]; exact pset_eq _ _ _
  have tS : tx w_54 (a + 5) 6 (nS y) := tS.off ow_54 (by omega)
  have tQ : tx w_54 (a + 3) 16 (nQ y) := tQ.off ow_54 (by omega)
  have tP : tx w_54 (a + 1) 6 (nP y) := tP.off ow_54 (by omega)
  have g0 : w_54 b = some (eO 3 [.ref (b + 1), .ref (b + 3), .ref (b + 5), .int (iI (((nNum y : Nat) : Int))), .int (bI (nK y)), .int (iI (((nB y : Nat) : Int))), .int (iI (((nE y : Nat) : Int))), .int (nW y)]) := (ow_54 _ (by omega)).trans g0
  have gP : tx w_54 (b + 1) 6 (nP y) := gP.off ow_54 (by omega)
  have gQ : tx w_54 (b + 3) 16 (nQ y) := gQ.off ow_54 (by omega)
  have gS : tx w_54 (b + 5) 6 (nS y) := gS.off ow_54 (by omega)
  refine r_aload_n hb 58 dX3_become_57 rfl 0 rfl ?_
  refine r_aload_n hb 59 dX3_become_58 rfl 1 rfl ?_
  refine r_get hb ho 62 dX3_become_59 rfl lk_X3_40 pf_X3_6 g0 rfl ?_
  refine r_put hb ho 65 dX3_become_62 rfl lk_X3_40 pf_X3_6 xw_54 (Nat.le_of_ble_eq_true rfl) ⟨rfl, rfl⟩ (fun w_62 hw_62 => ?_)
  have ow_62 := pset_off hw_62
  have xw_62 : w_62 a = some (eO 3 [.ref (a + 1), .ref (a + 3), .ref (a + 5), .int (iI (((nNum y : Nat) : Int))), .int (bI (nK y)), .int (iI (((nB y : Nat) : Int))), .int (iI (((nE y : Nat) : Int))), .int (nW x)]) := by rw [hw_62]; exact pset_eq _ _ _
  have tS : tx w_62 (a + 5) 6 (nS y) := tS.off ow_62 (by omega)
  have tQ : tx w_62 (a + 3) 16 (nQ y) := tQ.off ow_62 (by omega)
  have tP : tx w_62 (a + 1) 6 (nP y) := tP.off ow_62 (by omega)
  have g0 : w_62 b = some (eO 3 [.ref (b + 1), .ref (b + 3), .ref (b + 5), .int (iI (((nNum y : Nat) : Int))), .int (bI (nK y)), .int (iI (((nB y : Nat) : Int))), .int (iI (((nE y : Nat) : Int))), .int (nW y)]) := (ow_62 _ (by omega)).trans g0
  have gP : tx w_62 (b + 1) 6 (nP y) := gP.off ow_62 (by omega)
  have gQ : tx w_62 (b + 3) 16 (nQ y) := gQ.off ow_62 (by omega)
  have gS : tx w_62 (b + 5) 6 (nS y) := gS.off ow_62 (by omega)
  refine r_aload_n hb 66 dX3_become_65 rfl 0 rfl ?_
  refine r_aload_n hb 67 dX3_become_66 rfl 1 rfl ?_
  refine r_get hb ho 70 dX3_become_67 rfl lk_X3_43 pf_X3_7 g0 rfl ?_
  refine r_put hb ho 73 dX3_become_70 rfl lk_X3_43 pf_X3_7 xw_62 (Nat.le_of_ble_eq_true rfl) ⟨rfl, rfl⟩ (fun w_70 hw_70 => ?_)
  have ow_70 := pset_off hw_70
  have xw_70 : w_70 a = some (eO 3 [.ref (a + 1), .ref (a + 3), .ref (a + 5), .int (iI (((nNum y : Nat) : Int))), .int (bI (nK y)), .int (iI (((nB y : Nat) : Int))), .int (iI (((nE y : Nat) : Int))), .int (nW y)]) := by rw [hw_70]; exact pset_eq _ _ _
  have tS : tx w_70 (a + 5) 6 (nS y) := tS.off ow_70 (by omega)
  have tQ : tx w_70 (a + 3) 16 (nQ y) := tQ.off ow_70 (by omega)
  have tP : tx w_70 (a + 1) 6 (nP y) := tP.off ow_70 (by omega)
  have g0 : w_70 b = some (eO 3 [.ref (b + 1), .ref (b + 3), .ref (b + 5), .int (iI (((nNum y : Nat) : Int))), .int (bI (nK y)), .int (iI (((nB y : Nat) : Int))), .int (iI (((nE y : Nat) : Int))), .int (nW y)]) := (ow_70 _ (by omega)).trans g0
  have gP : tx w_70 (b + 1) 6 (nP y) := gP.off ow_70 (by omega)
  have gQ : tx w_70 (b + 3) 16 (nQ y) := gQ.off ow_70 (by omega)
  have gS : tx w_70 (b + 5) 6 (nS y) := gS.off ow_70 (by omega)
  refine r_vret hS dX3_become_73 rfl (Nat.zero_le _) (Nat.zero_le _) ?_
  exact ⟨rfl, rfl, ⟨xw_70, tP, tQ, tS, gnum, gB, gE⟩, (((((((ow_8.mono (by omega) (by omega)).trans (ow_19.mono (by omega) (by omega))).trans (ow_30.mono (by omega) (by omega))).trans (ow_38.mono (by omega) (by omega))).trans (ow_46.mono (by omega) (by omega))).trans (ow_54.mono (by omega) (by omega))).trans (ow_62.mono (by omega) (by omega))).trans (ow_70.mono (by omega) (by omega))⟩

abbrev rm_X3_quoteFrom : Room := { frames := 2, cells := 0, slots := 0, locals := 45 }
set_option maxHeartbeats 4000000 in
set_option maxRecDepth 100000 in
theorem c_X3_quoteFrom (a u : Nat) (x : Nt) (D : List Int32) {w : PW} {n : Nat} (hN : nt w a x) (hD : tx w u 120 D) (hd : a + 7 ≤ u ∨ u + 2 ≤ a) (he : nE x - nB x ≤ 16) : Ct0 yX3_quoteFrom cX3_quoteFrom 2 none rm_X3_quoteFrom [.ref a, .ref u] w n (fun w1 n1 => n = n1 ∧ nt w1 a (qtN D x) ∧ off w w1 a (a + 7)) := by
  obtain ⟨h0, tP, tQ, tS, hnum, hB, hE⟩ := id hN
  refine Ctr.of rfl (Nat.le_of_ble_eq_true rfl) fun S hS => ?_
  have hb : S.1.1 = cX3_quoteFrom := by rw [hS]; rfl
  have ho : S.1.2.1 = RX3 := by rw [hS]; rfl
  have hnL : S.1.2.2.1 = 2 := by rw [hS]; rfl
  have hR0 : S.2.1 = rm_X3_quoteFrom := by rw [hS]; rfl
  show Wp S 0 [(0, .ref a), (1, .ref u)] [] w n 0 0
  refine r_aload_n hb 1 dX3_quoteFrom_0 rfl 0 rfl ?_
  refine r_get hb ho 4 dX3_quoteFrom_1 rfl lk_X3_14 pf_X3_0 h0 rfl ?_
  refine r_aload_n hb 5 dX3_quoteFrom_4 rfl 1 rfl ?_
  refine r_aload_n hb 6 dX3_quoteFrom_5 rfl 0 rfl ?_
  refine r_get hb ho 9 dX3_quoteFrom_6 rfl lk_X3_37 pf_X3_5 h0 rfl ?_
  refine r_bipush 6 hb 11 dX3_quoteFrom_9 rfl rfl ?_
  refine r_isubZ hb 12 (((nB x : Nat) : Int) - 6) dX3_quoteFrom_11 rfl (by omega) ?_
  refine r_aload_n hb 13 dX3_quoteFrom_12 rfl 0 rfl ?_
  refine r_get hb ho 16 dX3_quoteFrom_13 rfl lk_X3_37 pf_X3_5 h0 rfl ?_
  refine r_callV0 (st := []) hb ho 19 dX3_quoteFrom_16 rfl ck_X3_53 (c_X7_copyPart (a + 1) 6 u 120 (nP x) D (((nB x : Nat) : Int) - 6) (((nB x : Nat) : Int)) (nB x - 6) (nB x) tP hD (by omega) (by omega) (by omega) (by omega) (by omega) (by omega) (by omega) (by omega)) rfl rfl (tP.1) rfl rfl (by rw [hR0]; exact ⟨Nat.le_of_ble_eq_true rfl, Nat.le_of_ble_eq_true rfl⟩) (Nat.le_of_ble_eq_true rfl) ⟨rfl, rfl⟩ (by rw [hR0]; exact Nat.zero_le _) (by rw [hR0]; exact Nat.zero_le _) (fun w_16 nw_16 qw_16 => ?_)
  obtain ⟨rfl, tP, ow_16⟩ := qw_16
  have h0 : w_16 a = some (eO 3 [.ref (a + 1), .ref (a + 3), .ref (a + 5), .int (iI (((nNum x : Nat) : Int))), .int (bI (nK x)), .int (iI (((nB x : Nat) : Int))), .int (iI (((nE x : Nat) : Int))), .int (nW x)]) := (ow_16 _ (by omega)).trans h0
  have hD : tx w_16 u 120 D := hD.off ow_16 (by omega)
  have tQ : tx w_16 (a + 3) 16 (nQ x) := tQ.off ow_16 (by omega)
  have tS : tx w_16 (a + 5) 6 (nS x) := tS.off ow_16 (by omega)
  refine r_aload_n hb 20 dX3_quoteFrom_19 rfl 0 rfl ?_
  refine r_get hb ho 23 dX3_quoteFrom_20 rfl lk_X3_20 pf_X3_1 h0 rfl ?_
  refine r_aload_n hb 24 dX3_quoteFrom_23 rfl 1 rfl ?_
  refine r_aload_n hb 25 dX3_quoteFrom_24 rfl 0 rfl ?_
  refine r_get hb ho 28 dX3_quoteFrom_25 rfl lk_X3_37 pf_X3_5 h0 rfl ?_
  refine r_aload_n hb 29 dX3_quoteFrom_28 rfl 0 rfl ?_
  refine r_get hb ho 32 dX3_quoteFrom_29 rfl lk_X3_40 pf_X3_6 h0 rfl ?_
  refine r_callV0 (st := []) hb ho 35 dX3_quoteFrom_32 rfl ck_X3_53 (c_X7_copyPart (a + 3) 16 u 120 (nQ x) D (((nB x : Nat) : Int)) (((nE x : Nat) : Int)) (nB x) (nE x) tQ hD (by omega) (by omega) (by omega) (by omega) (by omega) (by omega) (by omega) (by omega)) rfl rfl (tQ.1) rfl rfl (by rw [hR0]; exact ⟨Nat.le_of_ble_eq_true rfl, Nat.le_of_ble_eq_true rfl⟩) (Nat.le_of_ble_eq_true rfl) ⟨rfl, rfl⟩ (by rw [hR0]; exact Nat.zero_le _) (by rw [hR0]; exact Nat.zero_le _) (fun w_32 nw_32 qw_32 => ?_)
  obtain ⟨rfl, tQ, ow_32⟩ := qw_32
  have tP : tx w_32 (a + 1) 6 (slice D (nB x - 6) (nB x)) := tP.off ow_32 (by omega)
  have h0 : w_32 a = some (eO 3 [.ref (a + 1), .ref (a + 3), .ref (a + 5), .int (iI (((nNum x : Nat) : Int))), .int (bI (nK x)), .int (iI (((nB x : Nat) : Int))), .int (iI (((nE x : Nat) : Int))), .int (nW x)]) := (ow_32 _ (by omega)).trans h0
  have hD : tx w_32 u 120 D := hD.off ow_32 (by omega)
  have tS : tx w_32 (a + 5) 6 (nS x) := tS.off ow_32 (by omega)
  refine r_aload_n hb 36 dX3_quoteFrom_35 rfl 0 rfl ?_
  refine r_get hb ho 39 dX3_quoteFrom_36 rfl lk_X3_23 pf_X3_2 h0 rfl ?_
  refine r_aload_n hb 40 dX3_quoteFrom_39 rfl 1 rfl ?_
  refine r_aload_n hb 41 dX3_quoteFrom_40 rfl 0 rfl ?_
  refine r_get hb ho 44 dX3_quoteFrom_41 rfl lk_X3_40 pf_X3_6 h0 rfl ?_
  refine r_aload_n hb 45 dX3_quoteFrom_44 rfl 0 rfl ?_
  refine r_get hb ho 48 dX3_quoteFrom_45 rfl lk_X3_40 pf_X3_6 h0 rfl ?_
  refine r_bipush 6 hb 50 dX3_quoteFrom_48 rfl rfl ?_
  refine r_iaddZ hb 51 (((nE x : Nat) : Int) + 6) dX3_quoteFrom_50 rfl (by omega) ?_
  refine r_callV0 (st := []) hb ho 54 dX3_quoteFrom_51 rfl ck_X3_53 (c_X7_copyPart (a + 5) 6 u 120 (nS x) D (((nE x : Nat) : Int)) (((nE x : Nat) : Int) + 6) (nE x) (nE x + 6) tS hD (by omega) (by omega) (by omega) (by omega) (by omega) (by omega) (by omega) (by omega)) rfl rfl (tS.1) rfl rfl (by rw [hR0]; exact ⟨Nat.le_of_ble_eq_true rfl, Nat.le_of_ble_eq_true rfl⟩) (Nat.le_of_ble_eq_true rfl) ⟨rfl, rfl⟩ (by rw [hR0]; exact Nat.zero_le _) (by rw [hR0]; exact Nat.zero_le _) (fun w_51 nw_51 qw_51 => ?_)
  obtain ⟨rfl, tS, ow_51⟩ := qw_51
  have tQ : tx w_51 (a + 3) 16 (slice D (nB x) (nE x)) := tQ.off ow_51 (by omega)
  have tP : tx w_51 (a + 1) 6 (slice D (nB x - 6) (nB x)) := tP.off ow_51 (by omega)
  have h0 : w_51 a = some (eO 3 [.ref (a + 1), .ref (a + 3), .ref (a + 5), .int (iI (((nNum x : Nat) : Int))), .int (bI (nK x)), .int (iI (((nB x : Nat) : Int))), .int (iI (((nE x : Nat) : Int))), .int (nW x)]) := (ow_51 _ (by omega)).trans h0
  have hD : tx w_51 u 120 D := hD.off ow_51 (by omega)
  refine r_vret hS dX3_quoteFrom_54 rfl (Nat.zero_le _) (Nat.zero_le _) ?_
  exact ⟨rfl, rfl, ⟨h0, tP, tQ, tS, hnum, hB, hE⟩, ((ow_16.mono (by omega) (by omega)).trans (ow_32.mono (by omega) (by omega))).trans (ow_51.mono (by omega) (by omega))⟩

abbrev rm_X3_begin : Room := { frames := 3, cells := 0, slots := 0, locals := 66 }
set_option maxHeartbeats 4000000 in
set_option maxRecDepth 100000 in
theorem c_X3_begin (a u k b e : Nat) (x : Nt) (D : List Int32) {w : PW} {n : Nat} (hN : nt w a x) (hD : tx w u 120 D) (hd : a + 7 ≤ u ∨ u + 2 ≤ a) (hk : k < 1000000) (hb2 : b ≤ 200) (he2 : e ≤ 200) (he : e - b ≤ 16) : Ct0 yX3_begin cX3_begin 5 none rm_X3_begin [.ref a, .int (iI (((k : Nat) : Int))), .int (iI (((b : Nat) : Int))), .int (iI (((e : Nat) : Int))), .ref u] w n (fun w1 n1 => n = n1 ∧ nt w1 a (qtN D (x.1, k, true, b, e, 1)) ∧ off w w1 a (a + 7)) := by
  obtain ⟨h0, tP, tQ, tS, hnum, hB, hE⟩ := id hN
  refine Ctr.of rfl (Nat.le_of_ble_eq_true rfl) fun S hS => ?_
  have hb : S.1.1 = cX3_begin := by rw [hS]; rfl
  have ho : S.1.2.1 = RX3 := by rw [hS]; rfl
  have hnL : S.1.2.2.1 = 5 := by rw [hS]; rfl
  have hR0 : S.2.1 = rm_X3_begin := by rw [hS]; rfl
  show Wp S 0 [(0, .ref a), (1, .int (iI (((k : Nat) : Int)))), (2, .int (iI (((b : Nat) : Int)))), (3, .int (iI (((e : Nat) : Int)))), (4, .ref u)] [] w n 0 0
  refine r_aload_n hb 1 dX3_begin_0 rfl 0 rfl ?_
  refine r_iload_n hb 2 dX3_begin_1 rfl 1 rfl ?_
  refine r_put hb ho 5 dX3_begin_2 rfl lk_X3_30 pf_X3_3 h0 (Nat.le_of_ble_eq_true rfl) ⟨rfl, rfl⟩ (fun w_2 hw_2 => ?_)
  have ow_2 := pset_off hw_2
  have xw_2 : w_2 a = some (eO 3 [.ref (a + 1), .ref (a + 3), .ref (a + 5), .int (iI (((k : Nat) : Int))), .int (bI (nK x)), .int (iI (((nB x : Nat) : Int))), .int (iI (((nE x : Nat) : Int))), .int (nW x)]) := by rw [hw_2]; exact pset_eq _ _ _
  have hD : tx w_2 u 120 D := hD.off ow_2 (by omega)
  have tP : tx w_2 (a + 1) 6 (nP x) := tP.off ow_2 (by omega)
  have tQ : tx w_2 (a + 3) 16 (nQ x) := tQ.off ow_2 (by omega)
  have tS : tx w_2 (a + 5) 6 (nS x) := tS.off ow_2 (by omega)
  refine r_aload_n hb 6 dX3_begin_5 rfl 0 rfl ?_
  refine r_iconst hb 7 dX3_begin_6 rfl ?_
  refine r_topv (.int 1) rfl ?_
  refine r_put hb ho 10 dX3_begin_7 rfl lk_X3_43 pf_X3_7 xw_2 (Nat.le_of_ble_eq_true rfl) ⟨rfl, rfl⟩ (fun w_7 hw_7 => ?_)
  have ow_7 := pset_off hw_7
  have xw_7 : w_7 a = some (eO 3 [.ref (a + 1), .ref (a + 3), .ref (a + 5), .int (iI (((k : Nat) : Int))), .int (bI (nK x)), .int (iI (((nB x : Nat) : Int))), .int (iI (((nE x : Nat) : Int))), .int 1]) := by rw [hw_7]; exact pset_eq _ _ _
  have hD : tx w_7 u 120 D := hD.off ow_7 (by omega)
  have tP : tx w_7 (a + 1) 6 (nP x) := tP.off ow_7 (by omega)
  have tQ : tx w_7 (a + 3) 16 (nQ x) := tQ.off ow_7 (by omega)
  have tS : tx w_7 (a + 5) 6 (nS x) := tS.off ow_7 (by omega)
  refine r_aload_n hb 11 dX3_begin_10 rfl 0 rfl ?_
  refine r_iload_n hb 12 dX3_begin_11 rfl 2 rfl ?_
  refine r_iload_n hb 13 dX3_begin_12 rfl 3 rfl ?_
  refine r_callV0 (st := []) hb ho 16 dX3_begin_13 rfl ck_X3_46 (c_X3_attachTo a (x.1, k, nK x, nB x, nE x, 1) b e ⟨xw_7, tP, tQ, tS, hk, hB, hE⟩ hb2 he2) rfl rfl (xw_7) rfl rfl (by rw [hR0]; exact ⟨Nat.le_of_ble_eq_true rfl, Nat.le_of_ble_eq_true rfl⟩) (Nat.le_of_ble_eq_true rfl) ⟨rfl, rfl⟩ (by rw [hR0]; exact Nat.zero_le _) (by rw [hR0]; exact Nat.zero_le _) (fun w_13 nw_13 qw_13 => ?_)
  obtain ⟨rfl, hN, ow_13⟩ := qw_13
  have hD : tx w_13 u 120 D := hD.off ow_13 (by omega)
  refine r_aload_n hb 17 dX3_begin_16 rfl 0 rfl ?_
  refine r_aload hb 19 dX3_begin_17 rfl 4 rfl ?_
  refine r_callV0 (st := []) hb ho 22 dX3_begin_19 rfl ck_X3_50 (c_X3_quoteFrom a u (x.1, k, true, b, e, 1) D hN hD hd he) rfl rfl (hN.1) rfl rfl (by rw [hR0]; exact ⟨Nat.le_of_ble_eq_true rfl, Nat.le_of_ble_eq_true rfl⟩) (Nat.le_of_ble_eq_true rfl) ⟨rfl, rfl⟩ (by rw [hR0]; exact Nat.zero_le _) (by rw [hR0]; exact Nat.zero_le _) (fun w_19 nw_19 qw_19 => ?_)
  obtain ⟨rfl, hN, ow_19⟩ := qw_19
  have hD : tx w_19 u 120 D := hD.off ow_19 (by omega)
  refine r_vret hS dX3_begin_22 rfl (Nat.zero_le _) (Nat.zero_le _) ?_
  exact ⟨rfl, rfl, hN, (((ow_2.mono (by omega) (by omega)).trans (ow_7.mono (by omega) (by omega))).trans (ow_13.mono (by omega) (by omega))).trans (ow_19.mono (by omega) (by omega))⟩

abbrev rm_X3_likeBefore : Room := { frames := 1, cells := 0, slots := 0, locals := 21 }
set_option maxHeartbeats 4000000 in
set_option maxRecDepth 100000 in
theorem c_X3_likeBefore (a u s : Nat) (x : Nt) (D : List Int32) {w : PW} {n : Nat} (hN : nt w a x) (hD : tx w u 120 D) (hs : s ≤ D.length) (hok : okL (nP x)) : CtR yX3_likeBefore cX3_likeBefore 4 (some .int) rm_X3_likeBefore [.ref a, .ref u, .int (iI (((s : Nat) : Int)))] w n (.int (iI (((lkB (nP x) D s : Nat) : Int)))) := by
  obtain ⟨h0, tP, tQ, tS, hnum, hB, hE⟩ := id hN
  have p0 := tP.1
  have p1 := tP.2.1
  have d0 := hD.1
  have d1 := hD.2.1
  refine Ctr.of rfl (Nat.le_of_ble_eq_true rfl) fun S hS => ?_
  have hb : S.1.1 = cX3_likeBefore := by rw [hS]; rfl
  have ho : S.1.2.1 = RX3 := by rw [hS]; rfl
  have hnL : S.1.2.2.1 = 4 := by rw [hS]; rfl
  have hR0 : S.2.1 = rm_X3_likeBefore := by rw [hS]; rfl
  show Wp S 0 [(0, .ref a), (1, .ref u), (2, .int (iI (((s : Nat) : Int))))] [] w n 0 0
  refine r_iconst hb 1 dX3_likeBefore_0 rfl ?_
  refine r_istore_n [(3, .int (iI 0)), (0, .ref a), (1, .ref u), (2, .int (iI (((s : Nat) : Int))))] hb 2 4 dX3_likeBefore_1 rfl rfl hnL (by decide) rfl ?_
  have lp : ∀ (d : Nat) (i : Nat), (nP x).length - i = d → (i ≤ (nP x).length) → (runL (lkcB (nP x) D s) ((nP x).length - i) i = lkB (nP x) D s) → Wp S 2 [(3, .int (iI (((i : Nat) : Int)))), (0, .ref a), (1, .ref u), (2, .int (iI (((s : Nat) : Int))))] [] w n 0 0 := by
    intro d
    induction d using Nat.strongRecOn with
    | _ d ih_lp =>
      intro i hd_lp hi hr
      refine r_iload_n hb 3 dX3_likeBefore_2 rfl 0 rfl ?_
      refine r_aload_n hb 4 dX3_likeBefore_3 rfl 1 rfl ?_
      refine r_get hb ho 7 dX3_likeBefore_4 rfl lk_X3_14 pf_X3_0 h0 rfl ?_
      refine r_get hb ho 10 dX3_likeBefore_7 rfl lk_X3_78 pf_X7_1 p0 rfl ?_
      refine r_icmp_ge hb 13 49 dX3_likeBefore_10 rfl (by decide) (by omega) (by omega) (fun c10 => ?_) (fun c10 => ?_)
      · refine r_iload_n hb 50 dX3_likeBefore_49 rfl 0 rfl ?_
        refine r_iret hS dX3_likeBefore_50 rfl rfl (Nat.zero_le _) (Nat.zero_le _) ?_
        have e := runL_f (c := lkcB (nP x) D s) (N := (nP x).length) (a := i) (Or.inl (by omega))
        exact ⟨_, rfl, by rw [← hr, e], rfl, rfl⟩
      · refine r_aload_n hb 14 dX3_likeBefore_13 rfl 1 rfl ?_
        refine r_get hb ho 17 dX3_likeBefore_14 rfl lk_X3_14 pf_X3_0 h0 rfl ?_
        refine r_aload_n hb 18 dX3_likeBefore_17 rfl 1 rfl ?_
        refine r_get hb ho 21 dX3_likeBefore_18 rfl lk_X3_14 pf_X3_0 h0 rfl ?_
        refine r_get hb ho 24 dX3_likeBefore_21 rfl lk_X3_78 pf_X7_1 p0 rfl ?_
        refine r_iconst hb 25 dX3_likeBefore_24 rfl ?_
        refine r_isubZ hb 26 ((((nP x).length : Nat) : Int) - 1) dX3_likeBefore_25 rfl (by omega) ?_
        refine r_iload_n hb 27 dX3_likeBefore_26 rfl 0 rfl ?_
        refine r_isubZ hb 28 ((((nP x).length : Nat) : Int) - ((i : Nat) : Int) - 1) dX3_likeBefore_27 rfl (by omega) ?_
        refine r_callVR (st := []) hb ho 31 dX3_likeBefore_28 rfl ck_X3_81 (c_X7_at (a + 1) 6 (nP x) ((((nP x).length : Nat) : Int) - ((i : Nat) : Int) - 1) tP (by omega) (by omega)) rfl rfl (p0) rfl rfl (by rw [hR0]; exact ⟨Nat.le_of_ble_eq_true rfl, Nat.le_of_ble_eq_true rfl⟩) (Nat.le_of_ble_eq_true rfl) ⟨rfl, rfl⟩ (by rw [hR0]; exact Nat.zero_le _) (by rw [hR0]; exact Nat.zero_le _) ?_
        refine r_aload_n hb 32 dX3_likeBefore_31 rfl 2 rfl ?_
        refine r_iload_n hb 33 dX3_likeBefore_32 rfl 3 rfl ?_
        refine r_iconst hb 34 dX3_likeBefore_33 rfl ?_
        refine r_isubZ hb 35 (((s : Nat) : Int) - 1) dX3_likeBefore_34 rfl (by omega) ?_
        refine r_iload_n hb 36 dX3_likeBefore_35 rfl 0 rfl ?_
        refine r_isubZ hb 37 (((s : Nat) : Int) - ((i : Nat) : Int) - 1) dX3_likeBefore_36 rfl (by omega) ?_
        refine r_callVR (st := [.int (textAt (nP x) ((((nP x).length : Nat) : Int) - ((i : Nat) : Int) - 1))]) hb ho 40 dX3_likeBefore_37 rfl ck_X3_81 (c_X7_at (u) 120 D (((s : Nat) : Int) - ((i : Nat) : Int) - 1) hD (by omega) (by omega)) rfl rfl (d0) rfl rfl (by rw [hR0]; exact ⟨Nat.le_of_ble_eq_true rfl, Nat.le_of_ble_eq_true rfl⟩) (Nat.le_of_ble_eq_true rfl) ⟨rfl, rfl⟩ (by rw [hR0]; exact Nat.zero_le _) (by rw [hR0]; exact Nat.zero_le _) ?_
        refine r_icmpR_ne hb 43 49 dX3_likeBefore_40 rfl (by decide) (fun c40 => ?_) (fun c40 => ?_)
        · refine r_iload_n hb 50 dX3_likeBefore_49 rfl 0 rfl ?_
          refine r_iret hS dX3_likeBefore_50 rfl rfl (Nat.zero_le _) (Nat.zero_le _) ?_
          have e := runL_f (c := lkcB (nP x) D s) (N := (nP x).length) (a := i) (Or.inr (decide_eq_false (fun ⟨h3, h4⟩ => c40 (by
              rw [textAt_in (by omega) (by omega), textAt_in (by omega) (by omega), show ((((nP x).length : Nat) : Int) - ((i : Nat) : Int) - 1).toNat = (nP x).length - 1 - i by omega, show ((s : Int) - ((i : Nat) : Int) - 1).toNat = s - 1 - i by omega]
              exact h4))))
          exact ⟨_, rfl, by rw [← hr, e], rfl, rfl⟩
        · refine r_iinc [(3, .int (iI (((i : Nat) : Int) + 1))), (0, .ref a), (1, .ref u), (2, .int (iI (((s : Nat) : Int))))] hb 46 4 0 dX3_likeBefore_43 rfl rfl hnL (by decide) (((i : Nat) : Int) + 1) (by omega) rfl ?_
          refine r_goto hb 2 dX3_likeBefore_46 (by decide) ?_
          have hc : lkcB (nP x) D s i = true := decide_eq_true (by
              have h2 := c40
              have hok := hok.get (i := (nP x).length - 1 - i) (by omega)
              rw [textAt_in (by omega) (by omega), show ((((nP x).length : Nat) : Int) - ((i : Nat) : Int) - 1).toNat = (nP x).length - 1 - i by omega] at h2
              by_cases h3 : i < s
              · rw [textAt_in (by omega) (by omega), show ((s : Int) - ((i : Nat) : Int) - 1).toNat = s - 1 - i by omega] at h2
                exact ⟨h3, h2⟩
              · rw [textAt_out (by omega)] at h2
                exact absurd h2 hok)
          refine r_lv [(3, .int (iI (((i + 1 : Nat)) : Int))), (0, .ref a), (1, .ref u), (2, .int (iI ((s : Nat) : Int)))] [0, 1, 2, 3] rfl ?_
          exact ih_lp ((nP x).length - (i + 1)) (by omega) (i + 1) rfl (by omega) (by rw [← runL_t (by omega) hc]; exact hr)
  refine r_lv [(3, .int (iI (((0 : Nat)) : Int))), (0, .ref a), (1, .ref u), (2, .int (iI ((s : Nat) : Int)))] [0, 1, 2, 3] rfl ?_
  exact lp _ 0 rfl (Nat.zero_le _) rfl

abbrev rm_X3_likeBehind : Room := { frames := 1, cells := 0, slots := 0, locals := 21 }
set_option maxHeartbeats 4000000 in
set_option maxRecDepth 100000 in
theorem c_X3_likeBehind (a u s : Nat) (x : Nt) (D : List Int32) {w : PW} {n : Nat} (hN : nt w a x) (hD : tx w u 120 D) (hs : s ≤ D.length) (hok : okL (nS x)) : CtR yX3_likeBehind cX3_likeBehind 4 (some .int) rm_X3_likeBehind [.ref a, .ref u, .int (iI (((s : Nat) : Int)))] w n (.int (iI (((lkS (nS x) D s : Nat) : Int)))) := by
  obtain ⟨h0, tP, tQ, tS, hnum, hB, hE⟩ := id hN
  have p0 := tS.1
  have p1 := tS.2.1
  have d0 := hD.1
  have d1 := hD.2.1
  refine Ctr.of rfl (Nat.le_of_ble_eq_true rfl) fun S hS => ?_
  have hb : S.1.1 = cX3_likeBehind := by rw [hS]; rfl
  have ho : S.1.2.1 = RX3 := by rw [hS]; rfl
  have hnL : S.1.2.2.1 = 4 := by rw [hS]; rfl
  have hR0 : S.2.1 = rm_X3_likeBehind := by rw [hS]; rfl
  show Wp S 0 [(0, .ref a), (1, .ref u), (2, .int (iI (((s : Nat) : Int))))] [] w n 0 0
  refine r_iconst hb 1 dX3_likeBehind_0 rfl ?_
  refine r_istore_n [(3, .int (iI 0)), (0, .ref a), (1, .ref u), (2, .int (iI (((s : Nat) : Int))))] hb 2 4 dX3_likeBehind_1 rfl rfl hnL (by decide) rfl ?_
  have lp : ∀ (d : Nat) (i : Nat), (nS x).length - i = d → (i ≤ (nS x).length) → (runL (lkcS (nS x) D s) ((nS x).length - i) i = lkS (nS x) D s) → Wp S 2 [(3, .int (iI (((i : Nat) : Int)))), (0, .ref a), (1, .ref u), (2, .int (iI (((s : Nat) : Int))))] [] w n 0 0 := by
    intro d
    induction d using Nat.strongRecOn with
    | _ d ih_lp =>
      intro i hd_lp hi hr
      refine r_iload_n hb 3 dX3_likeBehind_2 rfl 0 rfl ?_
      refine r_aload_n hb 4 dX3_likeBehind_3 rfl 1 rfl ?_
      refine r_get hb ho 7 dX3_likeBehind_4 rfl lk_X3_23 pf_X3_2 h0 rfl ?_
      refine r_get hb ho 10 dX3_likeBehind_7 rfl lk_X3_78 pf_X7_1 p0 rfl ?_
      refine r_icmp_ge hb 13 37 dX3_likeBehind_10 rfl (by decide) (by omega) (by omega) (fun c10 => ?_) (fun c10 => ?_)
      · refine r_iload_n hb 38 dX3_likeBehind_37 rfl 0 rfl ?_
        refine r_iret hS dX3_likeBehind_38 rfl rfl (Nat.zero_le _) (Nat.zero_le _) ?_
        have e := runL_f (c := lkcS (nS x) D s) (N := (nS x).length) (a := i) (Or.inl (by omega))
        exact ⟨_, rfl, by rw [← hr, e], rfl, rfl⟩
      · refine r_aload_n hb 14 dX3_likeBehind_13 rfl 1 rfl ?_
        refine r_get hb ho 17 dX3_likeBehind_14 rfl lk_X3_23 pf_X3_2 h0 rfl ?_
        refine r_iload_n hb 18 dX3_likeBehind_17 rfl 0 rfl ?_
        refine r_callVR (st := []) hb ho 21 dX3_likeBehind_18 rfl ck_X3_81 (c_X7_at (a + 5) 6 (nS x) (((i : Nat) : Int)) tS (by omega) (by omega)) rfl rfl (p0) rfl rfl (by rw [hR0]; exact ⟨Nat.le_of_ble_eq_true rfl, Nat.le_of_ble_eq_true rfl⟩) (Nat.le_of_ble_eq_true rfl) ⟨rfl, rfl⟩ (by rw [hR0]; exact Nat.zero_le _) (by rw [hR0]; exact Nat.zero_le _) ?_
        refine r_aload_n hb 22 dX3_likeBehind_21 rfl 2 rfl ?_
        refine r_iload_n hb 23 dX3_likeBehind_22 rfl 3 rfl ?_
        refine r_iload_n hb 24 dX3_likeBehind_23 rfl 0 rfl ?_
        refine r_iaddZ hb 25 (((s : Nat) : Int) + ((i : Nat) : Int)) dX3_likeBehind_24 rfl (by omega) ?_
        refine r_callVR (st := [.int (textAt (nS x) (((i : Nat) : Int)))]) hb ho 28 dX3_likeBehind_25 rfl ck_X3_81 (c_X7_at (u) 120 D (((s : Nat) : Int) + ((i : Nat) : Int)) hD (by omega) (by omega)) rfl rfl (d0) rfl rfl (by rw [hR0]; exact ⟨Nat.le_of_ble_eq_true rfl, Nat.le_of_ble_eq_true rfl⟩) (Nat.le_of_ble_eq_true rfl) ⟨rfl, rfl⟩ (by rw [hR0]; exact Nat.zero_le _) (by rw [hR0]; exact Nat.zero_le _) ?_
        refine r_icmpR_ne hb 31 37 dX3_likeBehind_28 rfl (by decide) (fun c28 => ?_) (fun c28 => ?_)
        · refine r_iload_n hb 38 dX3_likeBehind_37 rfl 0 rfl ?_
          refine r_iret hS dX3_likeBehind_38 rfl rfl (Nat.zero_le _) (Nat.zero_le _) ?_
          have e := runL_f (c := lkcS (nS x) D s) (N := (nS x).length) (a := i) (Or.inr (decide_eq_false (fun ⟨h3, h4⟩ => c28 (by
              rw [textAt_nat (by omega), textAt_in (by omega) (by omega), show ((s : Int) + ((i : Nat) : Int)).toNat = s + i by omega]
              exact h4))))
          exact ⟨_, rfl, by rw [← hr, e], rfl, rfl⟩
        · refine r_iinc [(3, .int (iI (((i : Nat) : Int) + 1))), (0, .ref a), (1, .ref u), (2, .int (iI (((s : Nat) : Int))))] hb 34 4 0 dX3_likeBehind_31 rfl rfl hnL (by decide) (((i : Nat) : Int) + 1) (by omega) rfl ?_
          refine r_goto hb 2 dX3_likeBehind_34 (by decide) ?_
          have hc : lkcS (nS x) D s i = true := decide_eq_true (by
              have h2 := c28
              have hok := hok.get (i := i) (by omega)
              rw [textAt_nat (by omega)] at h2
              by_cases h3 : s + i < D.length
              · rw [textAt_in (by omega) (by omega), show ((s : Int) + ((i : Nat) : Int)).toNat = s + i by omega] at h2
                exact ⟨h3, h2⟩
              · rw [textAt_out (by omega)] at h2
                exact absurd h2 hok)
          refine r_lv [(3, .int (iI (((i + 1 : Nat)) : Int))), (0, .ref a), (1, .ref u), (2, .int (iI ((s : Nat) : Int)))] [0, 1, 2, 3] rfl ?_
          exact ih_lp ((nS x).length - (i + 1)) (by omega) (i + 1) rfl (by omega) (by rw [← runL_t (by omega) hc]; exact hr)
  refine r_lv [(3, .int (iI (((0 : Nat)) : Int))), (0, .ref a), (1, .ref u), (2, .int (iI ((s : Nat) : Int)))] [0, 1, 2, 3] rfl ?_
  exact lp _ 0 rfl (Nat.zero_le _) rfl

abbrev rm_X3_scoreOf : Room := { frames := 2, cells := 0, slots := 0, locals := 44 }
set_option maxHeartbeats 4000000 in
set_option maxRecDepth 100000 in
theorem c_X3_scoreOf (a u d s e : Nat) (x : Nt) (D : List Int32) {w : PW} {n : Nat} (hN : nt w a x) (hD : tx w u 120 D) (hs : s ≤ D.length) (he : e ≤ D.length) (hd : d ≤ 1000) (hok : okL (nP x)) (hok2 : okL (nS x)) : CtR yX3_scoreOf cX3_scoreOf 6 (some .int) rm_X3_scoreOf [.ref a, .int (iI (((d : Nat) : Int))), .ref u, .int (iI (((s : Nat) : Int))), .int (iI (((e : Nat) : Int)))] w n (.int (iI ((scN x D s e d)))) := by
  obtain ⟨h0, tP, tQ, tS, hnum, hB, hE⟩ := id hN
  refine Ctr.of rfl (Nat.le_of_ble_eq_true rfl) fun S hS => ?_
  have hb : S.1.1 = cX3_scoreOf := by rw [hS]; rfl
  have ho : S.1.2.1 = RX3 := by rw [hS]; rfl
  have hnL : S.1.2.2.1 = 6 := by rw [hS]; rfl
  have hR0 : S.2.1 = rm_X3_scoreOf := by rw [hS]; rfl
  show Wp S 0 [(0, .ref a), (1, .int (iI (((d : Nat) : Int)))), (2, .ref u), (3, .int (iI (((s : Nat) : Int)))), (4, .int (iI (((e : Nat) : Int))))] [] w n 0 0
  refine r_aload_n hb 1 dX3_scoreOf_0 rfl 0 rfl ?_
  refine r_aload_n hb 2 dX3_scoreOf_1 rfl 2 rfl ?_
  refine r_iload_n hb 3 dX3_scoreOf_2 rfl 3 rfl ?_
  refine r_callVR (st := []) hb ho 6 dX3_scoreOf_3 rfl ck_X3_67 (c_X3_likeBefore a u s x D hN hD hs hok) rfl rfl (h0) rfl rfl (by rw [hR0]; exact ⟨Nat.le_of_ble_eq_true rfl, Nat.le_of_ble_eq_true rfl⟩) (Nat.le_of_ble_eq_true rfl) ⟨rfl, rfl⟩ (by rw [hR0]; exact Nat.zero_le _) (by rw [hR0]; exact Nat.zero_le _) ?_
  refine r_aload_n hb 7 dX3_scoreOf_6 rfl 0 rfl ?_
  refine r_aload_n hb 8 dX3_scoreOf_7 rfl 2 rfl ?_
  refine r_iload hb 10 dX3_scoreOf_8 rfl 4 rfl ?_
  refine r_callVR (st := [.int (iI (((lkB (nP x) D s : Nat) : Int)))]) hb ho 13 dX3_scoreOf_10 rfl ck_X3_71 (c_X3_likeBehind a u e x D hN hD he hok2) rfl rfl (h0) rfl rfl (by rw [hR0]; exact ⟨Nat.le_of_ble_eq_true rfl, Nat.le_of_ble_eq_true rfl⟩) (Nat.le_of_ble_eq_true rfl) ⟨rfl, rfl⟩ (by rw [hR0]; exact Nat.zero_le _) (by rw [hR0]; exact Nat.zero_le _) ?_
  refine r_iaddZ hb 14 (((lkB (nP x) D s : Nat) : Int) + ((lkS (nS x) D e : Nat) : Int)) dX3_scoreOf_13 rfl (by omega) ?_
  refine r_istore [(5, .int (iI (((lkB (nP x) D s : Nat) : Int) + ((lkS (nS x) D e : Nat) : Int)))), (0, .ref a), (1, .int (iI (((d : Nat) : Int)))), (2, .ref u), (3, .int (iI (((s : Nat) : Int)))), (4, .int (iI (((e : Nat) : Int))))] hb 16 6 dX3_scoreOf_14 rfl hnL (by decide) rfl ?_
  refine r_bipush 60 hb 18 dX3_scoreOf_16 rfl rfl ?_
  refine r_bipush 10 hb 20 dX3_scoreOf_18 rfl rfl ?_
  refine r_iload_n hb 21 dX3_scoreOf_20 rfl 2 rfl ?_
  refine r_imulZ hb 22 (10 * ((d : Nat) : Int)) dX3_scoreOf_21 rfl (by omega) ?_
  refine r_isubZ hb 23 ((-10) * ((d : Nat) : Int) + 60) dX3_scoreOf_22 rfl (by omega) ?_
  refine r_iconst hb 24 dX3_scoreOf_23 rfl ?_
  refine r_iload hb 26 dX3_scoreOf_24 rfl 0 rfl ?_
  refine r_imulZ hb 27 (4 * ((lkB (nP x) D s : Nat) : Int) + 4 * ((lkS (nS x) D e : Nat) : Int)) dX3_scoreOf_26 rfl (by omega) ?_
  refine r_iaddZ hb 28 ((-10) * ((d : Nat) : Int) + 4 * ((lkB (nP x) D s : Nat) : Int) + 4 * ((lkS (nS x) D e : Nat) : Int) + 60) dX3_scoreOf_27 rfl (by omega) ?_
  refine r_iload_n hb 29 dX3_scoreOf_28 rfl 4 rfl ?_
  refine r_aload_n hb 30 dX3_scoreOf_29 rfl 1 rfl ?_
  refine r_get hb ho 33 dX3_scoreOf_30 rfl lk_X3_37 pf_X3_5 h0 rfl ?_
  refine r_isubZ hb 34 (((s : Nat) : Int) - ((nB x : Nat) : Int)) dX3_scoreOf_33 rfl (by omega) ?_
  have l1 := lkB_le (nP x) D s
  have l2 := lkS_le (nS x) D e
  have d1 := hD.2.1
  refine r_abs hb ho 37 dX3_scoreOf_34 rfl ck_X3_74 (by rw [hR0]; exact Nat.le_of_ble_eq_true rfl) (by rw [hR0]; exact Nat.le_of_ble_eq_true rfl) (by rw [hR0]; exact Nat.zero_le _) (by rw [hR0]; exact Nat.zero_le _) (by omega) (((((s : Int) - (nB x : Int)).natAbs : Nat) : Int)) (by omega) ?_
  refine r_iconst hb 38 dX3_scoreOf_37 rfl ?_
  refine r_idiv hb 39 dX3_scoreOf_38 rfl (by decide) ?_
  refine r_topz (((((s : Int) - (nB x : Int)).natAbs / 5 : Nat) : Int)) (iI_tdiv5 (by omega)) ?_
  refine r_isubZ hb 40 ((-10) * ((d : Nat) : Int) + 4 * ((lkB (nP x) D s : Nat) : Int) + 4 * ((lkS (nS x) D e : Nat) : Int) - ((((s : Int) - (nB x : Int)).natAbs / 5 : Nat) : Int) + 60) dX3_scoreOf_39 rfl (by omega) ?_
  refine r_iret hS dX3_scoreOf_40 rfl rfl (Nat.zero_le _) (Nat.zero_le _) ?_
  exact ⟨_, rfl, congrArg (fun z => Value.int (iI z)) (by unfold scN; omega), rfl, rfl⟩

abbrev rm_X3_init : Room := { frames := 2, cells := 6, slots := 34, locals := 42 }
set_option maxHeartbeats 4000000 in
set_option maxRecDepth 100000 in
theorem c_X3_init (a : Nat) {w : PW}  (h0 : w a = some (eO 3 [.null, .null, .null, .int (iI 0), .int (iI 0), .int (iI 0), .int (iI 0), .int (iI 0)])) : Ct0 yX3_init cX3_init 1 none rm_X3_init [.ref a] w (a + 1) (fun w1 n1 => n1 = a + 7 ∧ nt w1 a (([], [], []), 0, false, 0, 0, 0) ∧ off w w1 a (a + 7)) := by
  refine Ctr.of rfl (Nat.le_of_ble_eq_true rfl) fun S hS => ?_
  have hb : S.1.1 = cX3_init := by rw [hS]; rfl
  have ho : S.1.2.1 = RX3 := by rw [hS]; rfl
  have hnL : S.1.2.2.1 = 1 := by rw [hS]; rfl
  have hR0 : S.2.1 = rm_X3_init := by rw [hS]; rfl
  have hnm : S.1.2.2.2.2 = "<init>" := by rw [hS]; rfl
  show Wp S 0 [(0, .ref a)] [] w (a + 1) 0 0
  refine r_aload_n hb 1 dX3_init_0 rfl 0 rfl ?_
  refine r_objInit hb ho 4 dX3_init_1 rfl ck_X3_3 ob_i ob_c (by rw [hR0]; exact Nat.le_of_ble_eq_true rfl) (by rw [hR0]; exact Nat.le_of_ble_eq_true rfl) ?_
  refine r_aload_n hb 5 dX3_init_4 rfl 0 rfl ?_
  refine r_new hb ho 8 dX3_init_5 rfl (kn_X7 kc_X3_9) (by rw [hR0]; exact Nat.le_of_ble_eq_true rfl) (by rw [hR0]; exact Nat.le_of_ble_eq_true rfl) (fun w_5 hw_5 => ?_)
  have ow_5 := pset_off hw_5
  have fw_5 : w_5 (a + 1) = some (eO 7 [.null, .int (iI 0)]) := by rw [hw_5]; exact pset_eq _ _ _
  have h0 : w_5 a = some (eO 3 [.null, .null, .null, .int (iI 0), .int (iI 0), .int (iI 0), .int (iI 0), .int (iI 0)]) := (ow_5 _ (by omega)).trans h0
  refine r_dup hb 9 dX3_init_8 rfl rfl ?_
  refine r_bipush 6 hb 11 dX3_init_9 rfl rfl ?_
  refine r_callN0 (st := [.ref ((a + 1)), .ref a]) hb ho 14 dX3_init_11 rfl ck_X3_11 (c_X7_init (a + 1) 6 fw_5 (by omega)) rfl rfl (by rw [hR0]; exact ⟨Nat.le_of_ble_eq_true rfl, Nat.le_of_ble_eq_true rfl⟩) (Nat.le_of_ble_eq_true rfl) (by rw [hR0]; exact Nat.le_of_ble_eq_true rfl) (by rw [hR0]; exact Nat.le_of_ble_eq_true rfl) (fun w_11 nw_11 qw_11 => ?_)
  obtain ⟨rfl, tP, ow_11⟩ := qw_11
  have h0 : w_11 a = some (eO 3 [.null, .null, .null, .int (iI 0), .int (iI 0), .int (iI 0), .int (iI 0), .int (iI 0)]) := (ow_11 _ (by omega)).trans h0
  refine r_putF hb ho hnm rfl 17 dX3_init_14 rfl lkw_X3_14 pf_X3_0 h0 (Nat.le_of_ble_eq_true rfl) ⟨rfl, rfl⟩ (fun w_14 hw_14 => ?_)
  have ow_14 := pset_off hw_14
  have xw_14 : w_14 a = some (eO 3 [.ref ((a + 1)), .null, .null, .int (iI 0), .int (iI 0), .int (iI 0), .int (iI 0), .int (iI 0)]) := by rw [hw_14]; exact pset_eq _ _ _
  have tP : tx w_14 (a + 1) 6 [] := tP.off ow_14 (by omega)
  refine r_aload_n hb 18 dX3_init_17 rfl 0 rfl ?_
  refine r_new hb ho 21 dX3_init_18 rfl (kn_X7 kc_X3_9) (by rw [hR0]; exact Nat.le_of_ble_eq_true rfl) (by rw [hR0]; exact Nat.le_of_ble_eq_true rfl) (fun w_18 hw_18 => ?_)
  have ow_18 := pset_off hw_18
  have fw_18 : w_18 (a + 3) = some (eO 7 [.null, .int (iI 0)]) := by rw [hw_18]; exact pset_eq _ _ _
  have xw_14 : w_18 a = some (eO 3 [.ref ((a + 1)), .null, .null, .int (iI 0), .int (iI 0), .int (iI 0), .int (iI 0), .int (iI 0)]) := (ow_18 _ (by omega)).trans xw_14
  have tP : tx w_18 (a + 1) 6 [] := tP.off ow_18 (by omega)
  refine r_dup hb 22 dX3_init_21 rfl rfl ?_
  refine r_bipush 16 hb 24 dX3_init_22 rfl rfl ?_
  refine r_callN0 (st := [.ref ((a + 3)), .ref a]) hb ho 27 dX3_init_24 rfl ck_X3_11 (c_X7_init (a + 3) 16 fw_18 (by omega)) rfl rfl (by rw [hR0]; exact ⟨Nat.le_of_ble_eq_true rfl, Nat.le_of_ble_eq_true rfl⟩) (Nat.le_of_ble_eq_true rfl) (by rw [hR0]; exact Nat.le_of_ble_eq_true rfl) (by rw [hR0]; exact Nat.le_of_ble_eq_true rfl) (fun w_24 nw_24 qw_24 => ?_)
  obtain ⟨rfl, tQ, ow_24⟩ := qw_24
  have xw_14 : w_24 a = some (eO 3 [.ref ((a + 1)), .null, .null, .int (iI 0), .int (iI 0), .int (iI 0), .int (iI 0), .int (iI 0)]) := (ow_24 _ (by omega)).trans xw_14
  have tP : tx w_24 (a + 1) 6 [] := tP.off ow_24 (by omega)
  refine r_putF hb ho hnm rfl 30 dX3_init_27 rfl lkw_X3_20 pf_X3_1 xw_14 (Nat.le_of_ble_eq_true rfl) ⟨rfl, rfl⟩ (fun w_27 hw_27 => ?_)
  have ow_27 := pset_off hw_27
  have xw_27 : w_27 a = some (eO 3 [.ref ((a + 1)), .ref ((a + 3)), .null, .int (iI 0), .int (iI 0), .int (iI 0), .int (iI 0), .int (iI 0)]) := by rw [hw_27]; exact pset_eq _ _ _
  have tQ : tx w_27 (a + 3) 16 [] := tQ.off ow_27 (by omega)
  have tP : tx w_27 (a + 1) 6 [] := tP.off ow_27 (by omega)
  refine r_aload_n hb 31 dX3_init_30 rfl 0 rfl ?_
  refine r_new hb ho 34 dX3_init_31 rfl (kn_X7 kc_X3_9) (by rw [hR0]; exact Nat.le_of_ble_eq_true rfl) (by rw [hR0]; exact Nat.le_of_ble_eq_true rfl) (fun w_31 hw_31 => ?_)
  have ow_31 := pset_off hw_31
  have fw_31 : w_31 (a + 5) = some (eO 7 [.null, .int (iI 0)]) := by rw [hw_31]; exact pset_eq _ _ _
  have xw_27 : w_31 a = some (eO 3 [.ref ((a + 1)), .ref ((a + 3)), .null, .int (iI 0), .int (iI 0), .int (iI 0), .int (iI 0), .int (iI 0)]) := (ow_31 _ (by omega)).trans xw_27
  have tQ : tx w_31 (a + 3) 16 [] := tQ.off ow_31 (by omega)
  have tP : tx w_31 (a + 1) 6 [] := tP.off ow_31 (by omega)
  refine r_dup hb 35 dX3_init_34 rfl rfl ?_
  refine r_bipush 6 hb 37 dX3_init_35 rfl rfl ?_
  refine r_callN0 (st := [.ref ((a + 5)), .ref a]) hb ho 40 dX3_init_37 rfl ck_X3_11 (c_X7_init (a + 5) 6 fw_31 (by omega)) rfl rfl (by rw [hR0]; exact ⟨Nat.le_of_ble_eq_true rfl, Nat.le_of_ble_eq_true rfl⟩) (Nat.le_of_ble_eq_true rfl) (by rw [hR0]; exact Nat.le_of_ble_eq_true rfl) (by rw [hR0]; exact Nat.le_of_ble_eq_true rfl) (fun w_37 nw_37 qw_37 => ?_)
  obtain ⟨rfl, tS, ow_37⟩ := qw_37
  have xw_27 : w_37 a = some (eO 3 [.ref ((a + 1)), .ref ((a + 3)), .null, .int (iI 0), .int (iI 0), .int (iI 0), .int (iI 0), .int (iI 0)]) := (ow_37 _ (by omega)).trans xw_27
  have tQ : tx w_37 (a + 3) 16 [] := tQ.off ow_37 (by omega)
  have tP : tx w_37 (a + 1) 6 [] := tP.off ow_37 (by omega)
  refine r_putF hb ho hnm rfl 43 dX3_init_40 rfl lkw_X3_23 pf_X3_2 xw_27 (Nat.le_of_ble_eq_true rfl) ⟨rfl, rfl⟩ (fun w_40 hw_40 => ?_)
  have ow_40 := pset_off hw_40
  have xw_40 : w_40 a = some (eO 3 [.ref ((a + 1)), .ref ((a + 3)), .ref ((a + 5)), .int (iI 0), .int (iI 0), .int (iI 0), .int (iI 0), .int (iI 0)]) := by rw [hw_40]; exact pset_eq _ _ _
  have tS : tx w_40 (a + 5) 6 [] := tS.off ow_40 (by omega)
  have tQ : tx w_40 (a + 3) 16 [] := tQ.off ow_40 (by omega)
  have tP : tx w_40 (a + 1) 6 [] := tP.off ow_40 (by omega)
  refine r_vret hS dX3_init_43 rfl (Nat.le_of_ble_eq_true rfl) (Nat.le_of_ble_eq_true rfl) ?_
  exact ⟨rfl, rfl, ⟨xw_40, tP, tQ, tS, by decide, by decide, by decide⟩, ((((((((ow_5.mono (by omega) (by omega)).trans (ow_11.mono (by omega) (by omega))).trans (ow_14.mono (by omega) (by omega))).trans (ow_18.mono (by omega) (by omega))).trans (ow_24.mono (by omega) (by omega))).trans (ow_27.mono (by omega) (by omega))).trans (ow_31.mono (by omega) (by omega))).trans (ow_37.mono (by omega) (by omega))).trans (ow_40.mono (by omega) (by omega))⟩
