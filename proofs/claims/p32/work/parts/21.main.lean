abbrev rm_X8_isPosition : Room := { frames := 0, cells := 0, slots := 0, locals := 0 }
set_option maxHeartbeats 4000000 in
set_option maxRecDepth 100000 in
theorem c_X8_isPosition (a : Nat) (B D : List Int32) (l : List Nt) (nx : Nat) (hs : List Pg) (s0 s1 : Option (Pg × Int)) (thr : Int) (z : Int) {w : PW} {n : Nat} (hX : xoE w a B D l nx hs s0 s1 thr) (hzb : -2147483648 ≤ z ∧ z < 2147483648) : CtR yX8_isPosition cX8_isPosition 2 (some .boolean) rm_X8_isPosition [.ref a, .int (iI (z))] w n (.int (bI (posN D z))) := by
  obtain ⟨xc, xB, xP, xH, xS0, xS1, ⟨b0, b1, b2, eh, xF⟩, ⟨ri, xR⟩, ⟨pc0, oh0, ch0, xL, xLc⟩, xA⟩ := id hX
  have bc := xB.1
  have bl := xB.2.1
  obtain ⟨h, pa, xs, hG, hx⟩ := id xP
  obtain ⟨gc, gT, gcl, gnx, ⟨ga, gh⟩, ⟨gs1, gs2⟩, gN⟩ := id hG
  have gd := gT.1
  have gdl := gT.2.1
  obtain ⟨ph, qa, P, hO0, hhx⟩ := id xH
  have hc := hO0.1
  have hcl := hO0.2.2.2.2.2
  have fc := xF
  have lc := xL.1
  obtain ⟨p0, t0, s0c, s0p, s0e⟩ := id xS0
  obtain ⟨p1, t1, s1c, s1p, s1e⟩ := id xS1
  refine Ctr.of rfl (Nat.le_of_ble_eq_true rfl) fun S hS => ?_
  have hb : S.1.1 = cX8_isPosition := by rw [hS]; rfl
  have ho : S.1.2.1 = RX8 := by rw [hS]; rfl
  have hnL : S.1.2.2.1 = 2 := by rw [hS]; rfl
  have hR0 : S.2.1 = rm_X8_isPosition := by rw [hS]; rfl
  show Wp S 0 [(0, .ref a), (1, .int (iI (z)))] [] w n 0 0
  refine r_iload_n hb 1 dX8_isPosition_0 rfl 1 rfl ?_
  refine r_if_lt hb 4 22 dX8_isPosition_1 rfl (by decide) (by omega) (fun c1 => ?_) (fun c1 => ?_)
  · refine r_iconst hb 23 dX8_isPosition_22 rfl ?_
    refine r_iret hS dX8_isPosition_23 rfl rfl (Nat.zero_le _) (Nat.zero_le _) ?_
    exact ⟨_, rfl, congrArg Value.int (bI_F (decide_eq_false (by omega))), rfl, rfl⟩
  · refine r_iload_n hb 5 dX8_isPosition_4 rfl 1 rfl ?_
    refine r_aload_n hb 6 dX8_isPosition_5 rfl 0 rfl ?_
    refine r_get hb ho 9 dX8_isPosition_6 rfl lk_X8_21 pf_X8_1 xc rfl ?_
    refine r_get hb ho 12 dX8_isPosition_9 rfl lk_X8_73 pf_X4_0 gc rfl ?_
    refine r_get hb ho 15 dX8_isPosition_12 rfl lk_X8_60 pf_X7_1 gd rfl ?_
    refine r_icmp_gt hb 18 22 dX8_isPosition_15 rfl (by decide) (by omega) (by omega) (fun c15 => ?_) (fun c15 => ?_)
    · refine r_iconst hb 23 dX8_isPosition_22 rfl ?_
      refine r_iret hS dX8_isPosition_23 rfl rfl (Nat.zero_le _) (Nat.zero_le _) ?_
      exact ⟨_, rfl, congrArg Value.int (bI_F (decide_eq_false (by omega))), rfl, rfl⟩
    · refine r_iconst hb 19 dX8_isPosition_18 rfl ?_
      refine r_goto hb 23 dX8_isPosition_19 (by decide) ?_
      refine r_iret hS dX8_isPosition_23 rfl rfl (Nat.zero_le _) (Nat.zero_le _) ?_
      exact ⟨_, rfl, congrArg Value.int (bI_T (decide_eq_true (by omega))), rfl, rfl⟩

abbrev rm_X8_isLetterIndex : Room := { frames := 0, cells := 0, slots := 0, locals := 0 }
set_option maxHeartbeats 4000000 in
set_option maxRecDepth 100000 in
theorem c_X8_isLetterIndex (a : Nat) (B D : List Int32) (l : List Nt) (nx : Nat) (hs : List Pg) (s0 s1 : Option (Pg × Int)) (thr : Int) (z : Int) {w : PW} {n : Nat} (hX : xoE w a B D l nx hs s0 s1 thr) (hzb : -2147483648 ≤ z ∧ z < 2147483648) : CtR yX8_isLetterIndex cX8_isLetterIndex 2 (some .boolean) rm_X8_isLetterIndex [.ref a, .int (iI (z))] w n (.int (bI (letN D z))) := by
  obtain ⟨xc, xB, xP, xH, xS0, xS1, ⟨b0, b1, b2, eh, xF⟩, ⟨ri, xR⟩, ⟨pc0, oh0, ch0, xL, xLc⟩, xA⟩ := id hX
  have bc := xB.1
  have bl := xB.2.1
  obtain ⟨h, pa, xs, hG, hx⟩ := id xP
  obtain ⟨gc, gT, gcl, gnx, ⟨ga, gh⟩, ⟨gs1, gs2⟩, gN⟩ := id hG
  have gd := gT.1
  have gdl := gT.2.1
  obtain ⟨ph, qa, P, hO0, hhx⟩ := id xH
  have hc := hO0.1
  have hcl := hO0.2.2.2.2.2
  have fc := xF
  have lc := xL.1
  obtain ⟨p0, t0, s0c, s0p, s0e⟩ := id xS0
  obtain ⟨p1, t1, s1c, s1p, s1e⟩ := id xS1
  refine Ctr.of rfl (Nat.le_of_ble_eq_true rfl) fun S hS => ?_
  have hb : S.1.1 = cX8_isLetterIndex := by rw [hS]; rfl
  have ho : S.1.2.1 = RX8 := by rw [hS]; rfl
  have hnL : S.1.2.2.1 = 2 := by rw [hS]; rfl
  have hR0 : S.2.1 = rm_X8_isLetterIndex := by rw [hS]; rfl
  show Wp S 0 [(0, .ref a), (1, .int (iI (z)))] [] w n 0 0
  refine r_iload_n hb 1 dX8_isLetterIndex_0 rfl 1 rfl ?_
  refine r_if_lt hb 4 22 dX8_isLetterIndex_1 rfl (by decide) (by omega) (fun c1 => ?_) (fun c1 => ?_)
  · refine r_iconst hb 23 dX8_isLetterIndex_22 rfl ?_
    refine r_iret hS dX8_isLetterIndex_23 rfl rfl (Nat.zero_le _) (Nat.zero_le _) ?_
    exact ⟨_, rfl, congrArg Value.int (bI_F (decide_eq_false (by omega))), rfl, rfl⟩
  · refine r_iload_n hb 5 dX8_isLetterIndex_4 rfl 1 rfl ?_
    refine r_aload_n hb 6 dX8_isLetterIndex_5 rfl 0 rfl ?_
    refine r_get hb ho 9 dX8_isLetterIndex_6 rfl lk_X8_21 pf_X8_1 xc rfl ?_
    refine r_get hb ho 12 dX8_isLetterIndex_9 rfl lk_X8_73 pf_X4_0 gc rfl ?_
    refine r_get hb ho 15 dX8_isLetterIndex_12 rfl lk_X8_60 pf_X7_1 gd rfl ?_
    refine r_icmp_ge hb 18 22 dX8_isLetterIndex_15 rfl (by decide) (by omega) (by omega) (fun c15 => ?_) (fun c15 => ?_)
    · refine r_iconst hb 23 dX8_isLetterIndex_22 rfl ?_
      refine r_iret hS dX8_isLetterIndex_23 rfl rfl (Nat.zero_le _) (Nat.zero_le _) ?_
      exact ⟨_, rfl, congrArg Value.int (bI_F (decide_eq_false (by omega))), rfl, rfl⟩
    · refine r_iconst hb 19 dX8_isLetterIndex_18 rfl ?_
      refine r_goto hb 23 dX8_isLetterIndex_19 (by decide) ?_
      refine r_iret hS dX8_isLetterIndex_23 rfl rfl (Nat.zero_le _) (Nat.zero_le _) ?_
      exact ⟨_, rfl, congrArg Value.int (bI_T (decide_eq_true (by omega))), rfl, rfl⟩

abbrev rm_X8_isRange : Room := { frames := 0, cells := 0, slots := 0, locals := 0 }
set_option maxHeartbeats 4000000 in
set_option maxRecDepth 100000 in
theorem c_X8_isRange (a : Nat) (B D : List Int32) (l : List Nt) (nx : Nat) (hs : List Pg) (s0 s1 : Option (Pg × Int)) (thr : Int) (f t k : Int) {w : PW} {n : Nat} (hX : xoE w a B D l nx hs s0 s1 thr) (hf : 0 ≤ f ∧ f ≤ (D.length : Int)) (htb : -2147483648 ≤ t ∧ t < 2147483648) (hk : 0 ≤ k ∧ k ≤ 100) : CtR yX8_isRange cX8_isRange 4 (some .boolean) rm_X8_isRange [.ref a, .int (iI (f)), .int (iI (t)), .int (iI (k))] w n (.int (bI (rngN D f t k))) := by
  obtain ⟨xc, xB, xP, xH, xS0, xS1, ⟨b0, b1, b2, eh, xF⟩, ⟨ri, xR⟩, ⟨pc0, oh0, ch0, xL, xLc⟩, xA⟩ := id hX
  have bc := xB.1
  have bl := xB.2.1
  obtain ⟨h, pa, xs, hG, hx⟩ := id xP
  obtain ⟨gc, gT, gcl, gnx, ⟨ga, gh⟩, ⟨gs1, gs2⟩, gN⟩ := id hG
  have gd := gT.1
  have gdl := gT.2.1
  obtain ⟨ph, qa, P, hO0, hhx⟩ := id xH
  have hc := hO0.1
  have hcl := hO0.2.2.2.2.2
  have fc := xF
  have lc := xL.1
  obtain ⟨p0, t0, s0c, s0p, s0e⟩ := id xS0
  obtain ⟨p1, t1, s1c, s1p, s1e⟩ := id xS1
  refine Ctr.of rfl (Nat.le_of_ble_eq_true rfl) fun S hS => ?_
  have hb : S.1.1 = cX8_isRange := by rw [hS]; rfl
  have ho : S.1.2.1 = RX8 := by rw [hS]; rfl
  have hnL : S.1.2.2.1 = 4 := by rw [hS]; rfl
  have hR0 : S.2.1 = rm_X8_isRange := by rw [hS]; rfl
  show Wp S 0 [(0, .ref a), (1, .int (iI (f))), (2, .int (iI (t))), (3, .int (iI (k)))] [] w n 0 0
  refine r_iload_n hb 1 dX8_isRange_0 rfl 2 rfl ?_
  refine r_iload_n hb 2 dX8_isRange_1 rfl 1 rfl ?_
  refine r_icmp_le hb 5 30 dX8_isRange_2 rfl (by decide) (by omega) (by omega) (fun c2 => ?_) (fun c2 => ?_)
  · refine r_iconst hb 31 dX8_isRange_30 rfl ?_
    refine r_iret hS dX8_isRange_31 rfl rfl (Nat.zero_le _) (Nat.zero_le _) ?_
    exact ⟨_, rfl, congrArg Value.int (bI_F (decide_eq_false (by omega))), rfl, rfl⟩
  · refine r_iload_n hb 6 dX8_isRange_5 rfl 2 rfl ?_
    refine r_aload_n hb 7 dX8_isRange_6 rfl 0 rfl ?_
    refine r_get hb ho 10 dX8_isRange_7 rfl lk_X8_21 pf_X8_1 xc rfl ?_
    refine r_get hb ho 13 dX8_isRange_10 rfl lk_X8_73 pf_X4_0 gc rfl ?_
    refine r_get hb ho 16 dX8_isRange_13 rfl lk_X8_60 pf_X7_1 gd rfl ?_
    refine r_icmp_gt hb 19 30 dX8_isRange_16 rfl (by decide) (by omega) (by omega) (fun c16 => ?_) (fun c16 => ?_)
    · refine r_iconst hb 31 dX8_isRange_30 rfl ?_
      refine r_iret hS dX8_isRange_31 rfl rfl (Nat.zero_le _) (Nat.zero_le _) ?_
      exact ⟨_, rfl, congrArg Value.int (bI_F (decide_eq_false (by omega))), rfl, rfl⟩
    · refine r_iload_n hb 20 dX8_isRange_19 rfl 2 rfl ?_
      refine r_iload_n hb 21 dX8_isRange_20 rfl 1 rfl ?_
      refine r_isubZ hb 22 (t - f) dX8_isRange_21 rfl (by omega) ?_
      refine r_iload_n hb 23 dX8_isRange_22 rfl 3 rfl ?_
      refine r_icmp_gt hb 26 30 dX8_isRange_23 rfl (by decide) (by omega) (by omega) (fun c23 => ?_) (fun c23 => ?_)
      · refine r_iconst hb 31 dX8_isRange_30 rfl ?_
        refine r_iret hS dX8_isRange_31 rfl rfl (Nat.zero_le _) (Nat.zero_le _) ?_
        exact ⟨_, rfl, congrArg Value.int (bI_F (decide_eq_false (by omega))), rfl, rfl⟩
      · refine r_iconst hb 27 dX8_isRange_26 rfl ?_
        refine r_goto hb 31 dX8_isRange_27 (by decide) ?_
        refine r_iret hS dX8_isRange_31 rfl rfl (Nat.zero_le _) (Nat.zero_le _) ?_
        exact ⟨_, rfl, congrArg Value.int (bI_T (decide_eq_true (by omega))), rfl, rfl⟩

abbrev rm_X8_type : Room := { frames := 1, cells := 0, slots := 0, locals := 21 }
set_option maxHeartbeats 4000000 in
set_option maxRecDepth 100000 in
theorem c_X8_type (a : Nat) (B D : List Int32) (l : List Nt) (nx : Nat) (hs : List Pg) (s0 s1 : Option (Pg × Int)) (thr : Int) (z : Int) {w : PW} {n : Nat} (hX : xoE w a B D l nx hs s0 s1 thr) (hzb : -2147483648 ≤ z ∧ z < 2147483648) : Ct1 yX8_type cX8_type 2 (some .int) rm_X8_type [.ref a, .int (iI (z))] w n (fun v w1 n1 => v = .int (oType B D l nx hs s0 s1 thr z).1 ∧ n = n1 ∧ xo w1 a (oType B D l nx hs s0 s1 thr z).2 ∧ off w w1 a (a + 729)) := by
  obtain ⟨xc, xB, xP, xH, xS0, xS1, ⟨b0, b1, b2, eh, xF⟩, ⟨ri, xR⟩, ⟨pc0, oh0, ch0, xL, xLc⟩, xA⟩ := id hX
  have bc := xB.1
  have bl := xB.2.1
  obtain ⟨h, pa, xs, hG, hx⟩ := id xP
  obtain ⟨gc, gT, gcl, gnx, ⟨ga, gh⟩, ⟨gs1, gs2⟩, gN⟩ := id hG
  have gd := gT.1
  have gdl := gT.2.1
  obtain ⟨ph, qa, P, hO0, hhx⟩ := id xH
  have hc := hO0.1
  have hcl := hO0.2.2.2.2.2
  have fc := xF
  have lc := xL.1
  obtain ⟨p0, t0, s0c, s0p, s0e⟩ := id xS0
  obtain ⟨p1, t1, s1c, s1p, s1e⟩ := id xS1
  refine Ctr.of rfl (Nat.le_of_ble_eq_true rfl) fun S hS => ?_
  have hb : S.1.1 = cX8_type := by rw [hS]; rfl
  have ho : S.1.2.1 = RX8 := by rw [hS]; rfl
  have hnL : S.1.2.2.1 = 2 := by rw [hS]; rfl
  have hR0 : S.2.1 = rm_X8_type := by rw [hS]; rfl
  show Wp S 0 [(0, .ref a), (1, .int (iI (z)))] [] w n 0 0
  refine r_iload_n hb 1 dX8_type_0 rfl 1 rfl ?_
  refine r_bipush 32 hb 3 dX8_type_1 rfl rfl ?_
  refine r_icmp_lt hb 6 12 dX8_type_3 rfl (by decide) (by omega) (by omega) (fun c3 => ?_) (fun c3 => ?_)
  · refine r_sipush (-1002) hb 15 dX8_type_12 rfl rfl ?_
    refine r_iret hS dX8_type_15 rfl rfl (Nat.zero_le _) (Nat.zero_le _) ?_
    have e : oType B D l nx hs s0 s1 thr z = (iI (-1002), (B, (D, l, nx), hs, s0, s1, thr)) := by unfold oType; rw [if_pos (by omega)]
    rw [e]
    exact ⟨_, rfl, rfl, rfl, hX, off.rfl' _ _ _⟩
  · refine r_iload_n hb 7 dX8_type_6 rfl 1 rfl ?_
    refine r_bipush 126 hb 9 dX8_type_7 rfl rfl ?_
    refine r_icmp_le hb 12 16 dX8_type_9 rfl (by decide) (by omega) (by omega) (fun c9 => ?_) (fun c9 => ?_)
    · refine r_aload_n hb 17 dX8_type_16 rfl 0 rfl ?_
      refine r_get hb ho 20 dX8_type_17 rfl lk_X8_14 pf_X8_0 xc rfl ?_
      refine r_get hb ho 23 dX8_type_20 rfl lk_X8_60 pf_X7_1 bc rfl ?_
      refine r_bipush 40 hb 25 dX8_type_23 rfl rfl ?_
      refine r_icmp_lt hb 28 32 dX8_type_25 rfl (by decide) (by omega) (by omega) (fun c25 => ?_) (fun c25 => ?_)
      · refine r_aload_n hb 33 dX8_type_32 rfl 0 rfl ?_
        refine r_get hb ho 36 dX8_type_33 rfl lk_X8_14 pf_X8_0 xc rfl ?_
        refine r_iload_n hb 37 dX8_type_36 rfl 1 rfl ?_
        refine r_callV0 (st := []) hb ho 40 dX8_type_37 rfl ck_X8_63 (c_X7_append (a + 1) 40 B (iI z) xB (by omega) (by omega)) rfl rfl (bc) rfl rfl (by rw [hR0]; exact ⟨Nat.le_of_ble_eq_true rfl, Nat.le_of_ble_eq_true rfl⟩) (Nat.le_of_ble_eq_true rfl) ⟨rfl, rfl⟩ (by rw [hR0]; exact Nat.zero_le _) (by rw [hR0]; exact Nat.zero_le _) (fun w_37 nw_37 qw_37 => ?_)
        obtain ⟨rfl, xB, ow_37⟩ := qw_37
        have xc : w_37 a = some (eO 8 [.ref (a + 1), .ref (a + 3), .ref (a + 77), .ref (a + 523), .ref (a + 598), .ref (a + 673), .ref (a + 675), .int (iI (thr))]) := (ow_37 _ (by omega)).trans xc
        have gc : w_37 (a + 3) = some (eO 4 [.ref (a + 3 + 1), .ref (a + 3 + 3), .int (iI (((l.length : Nat) : Int))), .int (iI (((nx : Nat) : Int)))]) := (ow_37 _ (by omega)).trans gc
        have ga : w_37 (a + 3 + 3) = some (eQ 3 10 h) := (ow_37 _ (by omega)).trans ga
        have gT : tx w_37 (a + 3 + 1) 120 D := gT.off ow_37 (by omega)
        have gd : w_37 (a + 3 + 1) = some (eO 7 [.ref (a + 3 + 1 + 1), .int (iI (((D.length : Nat) : Int)))]) := (ow_37 _ (by omega)).trans gd
        have hc : w_37 (a + 77) = some (eO 2 [.ref (a + 77 + 1), .int (iI (((hs.length : Nat) : Int)))]) := (ow_37 _ (by omega)).trans hc
        have fc : w_37 (a + 673) = some (eO 1 [.ref (a + 673 + 1), .int (iI (b0)), .int (iI (b1)), .int (iI (b2)), .int (iI (eh))]) := (ow_37 _ (by omega)).trans fc
        have lc : w_37 (a + 675) = some (eO 5 [.ref (a + 675 + 1), .ref (a + 675 + 2), .int (iI (((pc0 : Nat) : Int)))]) := (ow_37 _ (by omega)).trans lc
        have s0c : w_37 (a + 523) = some (eO 6 [.ref (a + 523 + 1), .int (iI (t0)), .int (bI (s0.isSome))]) := (ow_37 _ (by omega)).trans s0c
        have s1c : w_37 (a + 598) = some (eO 6 [.ref (a + 598 + 1), .int (iI (t1)), .int (bI (s1.isSome))]) := (ow_37 _ (by omega)).trans s1c
        have xP : pg w_37 (a + 3) D l nx := xP.off ow_37 (by omega)
        have xH : hst w_37 (a + 77) hs := xH.off ow_37 (by omega)
        have xS0 : slt w_37 (a + 523) s0 := xS0.off ow_37 (by omega)
        have xS1 : slt w_37 (a + 598) s1 := xS1.off ow_37 (by omega)
        have xF : fd w_37 (a + 673) b0 b1 b2 eh := xF.off ow_37 (by omega)
        have xR : fr w_37 (a + 673) 0 ri := xR.off ow_37 (by omega)
        have xL : plo w_37 (a + 675) pc0 oh0 ch0 := xL.off ow_37 (by omega)
        have xA : chA w_37 (a + 675) := xA.off ow_37 (by omega)
        have hG : pgo w_37 (a + 3) D h pa xs l.length nx := hG.off ow_37 (by omega)
        have bc := xB.1
        rw [List.length_append] at bc
        refine r_aload_n hb 41 dX8_type_40 rfl 0 rfl ?_
        refine r_get hb ho 44 dX8_type_41 rfl lk_X8_14 pf_X8_0 xc rfl ?_
        refine r_get hb ho 47 dX8_type_44 rfl lk_X8_60 pf_X7_1 bc rfl ?_
        refine r_iret hS dX8_type_47 rfl rfl (Nat.zero_le _) (Nat.zero_le _) ?_
        have e : oType B D l nx hs s0 s1 thr z = (iI ((B.length + 1 : Nat) : Int), (B ++ [iI z], (D, l, nx), hs, s0, s1, thr)) := by unfold oType; rw [if_neg (by omega), if_neg (by omega)]
        rw [e]
        exact ⟨_, rfl, rfl, rfl, ⟨xc, xB, xP, xH, xS0, xS1, ⟨_, _, _, _, xF⟩, ⟨_, xR⟩, ⟨_, _, _, xL, xLc⟩, xA⟩, (ow_37.mono (by omega) (by omega))⟩
      · refine r_sipush (-1004) hb 31 dX8_type_28 rfl rfl ?_
        refine r_iret hS dX8_type_31 rfl rfl (Nat.zero_le _) (Nat.zero_le _) ?_
        have e : oType B D l nx hs s0 s1 thr z = (iI (-1004), (B, (D, l, nx), hs, s0, s1, thr)) := by unfold oType; rw [if_neg (by omega), if_pos (by omega)]
        rw [e]
        exact ⟨_, rfl, rfl, rfl, hX, off.rfl' _ _ _⟩
    · refine r_sipush (-1002) hb 15 dX8_type_12 rfl rfl ?_
      refine r_iret hS dX8_type_15 rfl rfl (Nat.zero_le _) (Nat.zero_le _) ?_
      have e : oType B D l nx hs s0 s1 thr z = (iI (-1002), (B, (D, l, nx), hs, s0, s1, thr)) := by unfold oType; rw [if_pos (by omega)]
      rw [e]
      exact ⟨_, rfl, rfl, rfl, hX, off.rfl' _ _ _⟩

abbrev rm_X8_clearBuffer : Room := { frames := 1, cells := 0, slots := 0, locals := 20 }
set_option maxHeartbeats 4000000 in
set_option maxRecDepth 100000 in
theorem c_X8_clearBuffer (a : Nat) (B D : List Int32) (l : List Nt) (nx : Nat) (hs : List Pg) (s0 s1 : Option (Pg × Int)) (thr : Int)  {w : PW} {n : Nat} (hX : xoE w a B D l nx hs s0 s1 thr) : Ct1 yX8_clearBuffer cX8_clearBuffer 2 (some .int) rm_X8_clearBuffer [.ref a] w n (fun v w1 n1 => v = .int (oClear B D l nx hs s0 s1 thr ).1 ∧ n = n1 ∧ xo w1 a (oClear B D l nx hs s0 s1 thr ).2 ∧ off w w1 a (a + 729)) := by
  obtain ⟨xc, xB, xP, xH, xS0, xS1, ⟨b0, b1, b2, eh, xF⟩, ⟨ri, xR⟩, ⟨pc0, oh0, ch0, xL, xLc⟩, xA⟩ := id hX
  have bc := xB.1
  have bl := xB.2.1
  obtain ⟨h, pa, xs, hG, hx⟩ := id xP
  obtain ⟨gc, gT, gcl, gnx, ⟨ga, gh⟩, ⟨gs1, gs2⟩, gN⟩ := id hG
  have gd := gT.1
  have gdl := gT.2.1
  obtain ⟨ph, qa, P, hO0, hhx⟩ := id xH
  have hc := hO0.1
  have hcl := hO0.2.2.2.2.2
  have fc := xF
  have lc := xL.1
  obtain ⟨p0, t0, s0c, s0p, s0e⟩ := id xS0
  obtain ⟨p1, t1, s1c, s1p, s1e⟩ := id xS1
  refine Ctr.of rfl (Nat.le_of_ble_eq_true rfl) fun S hS => ?_
  have hb : S.1.1 = cX8_clearBuffer := by rw [hS]; rfl
  have ho : S.1.2.1 = RX8 := by rw [hS]; rfl
  have hnL : S.1.2.2.1 = 2 := by rw [hS]; rfl
  have hR0 : S.2.1 = rm_X8_clearBuffer := by rw [hS]; rfl
  show Wp S 0 [(0, .ref a)] [] w n 0 0
  refine r_aload_n hb 1 dX8_clearBuffer_0 rfl 0 rfl ?_
  refine r_get hb ho 4 dX8_clearBuffer_1 rfl lk_X8_14 pf_X8_0 xc rfl ?_
  refine r_get hb ho 7 dX8_clearBuffer_4 rfl lk_X8_60 pf_X7_1 bc rfl ?_
  refine r_istore_n [(1, .int (iI (((B.length : Nat) : Int)))), (0, .ref a)] hb 8 2 dX8_clearBuffer_7 rfl rfl hnL (by decide) rfl ?_
  refine r_aload_n hb 9 dX8_clearBuffer_8 rfl 1 rfl ?_
  refine r_get hb ho 12 dX8_clearBuffer_9 rfl lk_X8_14 pf_X8_0 xc rfl ?_
  refine r_callV0 (st := []) hb ho 15 dX8_clearBuffer_12 rfl ck_X8_66 (c_X7_empty (a + 1) 40 B xB) rfl rfl (bc) rfl rfl (by rw [hR0]; exact ⟨Nat.le_of_ble_eq_true rfl, Nat.le_of_ble_eq_true rfl⟩) (Nat.le_of_ble_eq_true rfl) ⟨rfl, rfl⟩ (by rw [hR0]; exact Nat.zero_le _) (by rw [hR0]; exact Nat.zero_le _) (fun w_12 nw_12 qw_12 => ?_)
  obtain ⟨rfl, xB, ow_12⟩ := qw_12
  have xc : w_12 a = some (eO 8 [.ref (a + 1), .ref (a + 3), .ref (a + 77), .ref (a + 523), .ref (a + 598), .ref (a + 673), .ref (a + 675), .int (iI (thr))]) := (ow_12 _ (by omega)).trans xc
  have gc : w_12 (a + 3) = some (eO 4 [.ref (a + 3 + 1), .ref (a + 3 + 3), .int (iI (((l.length : Nat) : Int))), .int (iI (((nx : Nat) : Int)))]) := (ow_12 _ (by omega)).trans gc
  have ga : w_12 (a + 3 + 3) = some (eQ 3 10 h) := (ow_12 _ (by omega)).trans ga
  have gT : tx w_12 (a + 3 + 1) 120 D := gT.off ow_12 (by omega)
  have gd : w_12 (a + 3 + 1) = some (eO 7 [.ref (a + 3 + 1 + 1), .int (iI (((D.length : Nat) : Int)))]) := (ow_12 _ (by omega)).trans gd
  have hc : w_12 (a + 77) = some (eO 2 [.ref (a + 77 + 1), .int (iI (((hs.length : Nat) : Int)))]) := (ow_12 _ (by omega)).trans hc
  have fc : w_12 (a + 673) = some (eO 1 [.ref (a + 673 + 1), .int (iI (b0)), .int (iI (b1)), .int (iI (b2)), .int (iI (eh))]) := (ow_12 _ (by omega)).trans fc
  have lc : w_12 (a + 675) = some (eO 5 [.ref (a + 675 + 1), .ref (a + 675 + 2), .int (iI (((pc0 : Nat) : Int)))]) := (ow_12 _ (by omega)).trans lc
  have s0c : w_12 (a + 523) = some (eO 6 [.ref (a + 523 + 1), .int (iI (t0)), .int (bI (s0.isSome))]) := (ow_12 _ (by omega)).trans s0c
  have s1c : w_12 (a + 598) = some (eO 6 [.ref (a + 598 + 1), .int (iI (t1)), .int (bI (s1.isSome))]) := (ow_12 _ (by omega)).trans s1c
  have xP : pg w_12 (a + 3) D l nx := xP.off ow_12 (by omega)
  have xH : hst w_12 (a + 77) hs := xH.off ow_12 (by omega)
  have xS0 : slt w_12 (a + 523) s0 := xS0.off ow_12 (by omega)
  have xS1 : slt w_12 (a + 598) s1 := xS1.off ow_12 (by omega)
  have xF : fd w_12 (a + 673) b0 b1 b2 eh := xF.off ow_12 (by omega)
  have xR : fr w_12 (a + 673) 0 ri := xR.off ow_12 (by omega)
  have xL : plo w_12 (a + 675) pc0 oh0 ch0 := xL.off ow_12 (by omega)
  have xA : chA w_12 (a + 675) := xA.off ow_12 (by omega)
  have hG : pgo w_12 (a + 3) D h pa xs l.length nx := hG.off ow_12 (by omega)
  refine r_iload_n hb 16 dX8_clearBuffer_15 rfl 0 rfl ?_
  refine r_iret hS dX8_clearBuffer_16 rfl rfl (Nat.zero_le _) (Nat.zero_le _) ?_
  have e : oClear B D l nx hs s0 s1 thr  = (iI ((B.length : Nat) : Int), ([], (D, l, nx), hs, s0, s1, thr)) := by unfold oClear; rfl
  rw [e]
  exact ⟨_, rfl, rfl, rfl, ⟨xc, xB, xP, xH, xS0, xS1, ⟨_, _, _, _, xF⟩, ⟨_, xR⟩, ⟨_, _, _, xL, xLc⟩, xA⟩, (ow_12.mono (by omega) (by omega))⟩

abbrev rm_X8_load : Room := { frames := 6, cells := 0, slots := 0, locals := 130 }
set_option maxHeartbeats 4000000 in
set_option maxRecDepth 100000 in
theorem c_X8_load (a : Nat) (B D : List Int32) (l : List Nt) (nx : Nat) (hs : List Pg) (s0 s1 : Option (Pg × Int)) (thr : Int)  {w : PW} {n : Nat} (hX : xoE w a B D l nx hs s0 s1 thr) (hok : pOk (D, l, nx)) : Ct1 yX8_load cX8_load 2 (some .int) rm_X8_load [.ref a] w n (fun v w1 n1 => v = .int (oLoad B D l nx hs s0 s1 thr ).1 ∧ n = n1 ∧ xo w1 a (oLoad B D l nx hs s0 s1 thr ).2 ∧ off w w1 a (a + 729)) := by
  obtain ⟨xc, xB, xP, xH, xS0, xS1, ⟨b0, b1, b2, eh, xF⟩, ⟨ri, xR⟩, ⟨pc0, oh0, ch0, xL, xLc⟩, xA⟩ := id hX
  have bc := xB.1
  have bl := xB.2.1
  obtain ⟨h, pa, xs, hG, hx⟩ := id xP
  obtain ⟨gc, gT, gcl, gnx, ⟨ga, gh⟩, ⟨gs1, gs2⟩, gN⟩ := id hG
  have gd := gT.1
  have gdl := gT.2.1
  obtain ⟨ph, qa, P, hO0, hhx⟩ := id xH
  have hc := hO0.1
  have hcl := hO0.2.2.2.2.2
  have fc := xF
  have lc := xL.1
  obtain ⟨p0, t0, s0c, s0p, s0e⟩ := id xS0
  obtain ⟨p1, t1, s1c, s1p, s1e⟩ := id xS1
  refine Ctr.of rfl (Nat.le_of_ble_eq_true rfl) fun S hS => ?_
  have hb : S.1.1 = cX8_load := by rw [hS]; rfl
  have ho : S.1.2.1 = RX8 := by rw [hS]; rfl
  have hnL : S.1.2.2.1 = 2 := by rw [hS]; rfl
  have hR0 : S.2.1 = rm_X8_load := by rw [hS]; rfl
  show Wp S 0 [(0, .ref a)] [] w n 0 0
  refine r_aload_n hb 1 dX8_load_0 rfl 0 rfl ?_
  refine r_get hb ho 4 dX8_load_1 rfl lk_X8_28 pf_X8_2 xc rfl ?_
  refine r_aload_n hb 5 dX8_load_4 rfl 0 rfl ?_
  refine r_get hb ho 8 dX8_load_5 rfl lk_X8_21 pf_X8_1 xc rfl ?_
  refine r_callV0 (st := []) hb ho 11 dX8_load_8 rfl ck_X8_69 (c_X2_record (a + 77) (a + 3) nx D l hs xH xP (by omega)) rfl rfl (hc) rfl rfl (by rw [hR0]; exact ⟨Nat.le_of_ble_eq_true rfl, Nat.le_of_ble_eq_true rfl⟩) (Nat.le_of_ble_eq_true rfl) ⟨rfl, rfl⟩ (by rw [hR0]; exact Nat.zero_le _) (by rw [hR0]; exact Nat.zero_le _) (fun w_8 nw_8 qw_8 => ?_)
  obtain ⟨rfl, xH, ow_8⟩ := qw_8
  have xc : w_8 a = some (eO 8 [.ref (a + 1), .ref (a + 3), .ref (a + 77), .ref (a + 523), .ref (a + 598), .ref (a + 673), .ref (a + 675), .int (iI (thr))]) := (ow_8 _ (by omega)).trans xc
  have bc : w_8 (a + 1) = some (eO 7 [.ref (a + 1 + 1), .int (iI (((B.length : Nat) : Int)))]) := (ow_8 _ (by omega)).trans bc
  have gc : w_8 (a + 3) = some (eO 4 [.ref (a + 3 + 1), .ref (a + 3 + 3), .int (iI (((l.length : Nat) : Int))), .int (iI (((nx : Nat) : Int)))]) := (ow_8 _ (by omega)).trans gc
  have ga : w_8 (a + 3 + 3) = some (eQ 3 10 h) := (ow_8 _ (by omega)).trans ga
  have gT : tx w_8 (a + 3 + 1) 120 D := gT.off ow_8 (by omega)
  have gd : w_8 (a + 3 + 1) = some (eO 7 [.ref (a + 3 + 1 + 1), .int (iI (((D.length : Nat) : Int)))]) := (ow_8 _ (by omega)).trans gd
  have fc : w_8 (a + 673) = some (eO 1 [.ref (a + 673 + 1), .int (iI (b0)), .int (iI (b1)), .int (iI (b2)), .int (iI (eh))]) := (ow_8 _ (by omega)).trans fc
  have lc : w_8 (a + 675) = some (eO 5 [.ref (a + 675 + 1), .ref (a + 675 + 2), .int (iI (((pc0 : Nat) : Int)))]) := (ow_8 _ (by omega)).trans lc
  have s0c : w_8 (a + 523) = some (eO 6 [.ref (a + 523 + 1), .int (iI (t0)), .int (bI (s0.isSome))]) := (ow_8 _ (by omega)).trans s0c
  have s1c : w_8 (a + 598) = some (eO 6 [.ref (a + 598 + 1), .int (iI (t1)), .int (bI (s1.isSome))]) := (ow_8 _ (by omega)).trans s1c
  have xB : tx w_8 (a + 1) 40 B := xB.off ow_8 (by omega)
  have xP : pg w_8 (a + 3) D l nx := xP.off ow_8 (by omega)
  have xS0 : slt w_8 (a + 523) s0 := xS0.off ow_8 (by omega)
  have xS1 : slt w_8 (a + 598) s1 := xS1.off ow_8 (by omega)
  have xF : fd w_8 (a + 673) b0 b1 b2 eh := xF.off ow_8 (by omega)
  have xR : fr w_8 (a + 673) 0 ri := xR.off ow_8 (by omega)
  have xL : plo w_8 (a + 675) pc0 oh0 ch0 := xL.off ow_8 (by omega)
  have xA : chA w_8 (a + 675) := xA.off ow_8 (by omega)
  have hG : pgo w_8 (a + 3) D h pa xs l.length nx := hG.off ow_8 (by omega)
  obtain ⟨gc, gT, gcl, gnx, ⟨ga, gh⟩, ⟨gs1, gs2⟩, gN⟩ := id hG
  have gd := gT.1
  have gdl := gT.2.1
  refine r_aload_n hb 12 dX8_load_11 rfl 0 rfl ?_
  refine r_get hb ho 15 dX8_load_12 rfl lk_X8_21 pf_X8_1 xc rfl ?_
  refine r_get hb ho 18 dX8_load_15 rfl lk_X8_73 pf_X4_0 gc rfl ?_
  refine r_get hb ho 21 dX8_load_18 rfl lk_X8_60 pf_X7_1 gd rfl ?_
  refine r_istore_n [(1, .int (iI (((D.length : Nat) : Int)))), (0, .ref a)] hb 22 2 dX8_load_21 rfl rfl hnL (by decide) rfl ?_
  refine r_aload_n hb 23 dX8_load_22 rfl 1 rfl ?_
  refine r_get hb ho 26 dX8_load_23 rfl lk_X8_21 pf_X8_1 xc rfl ?_
  refine r_aload_n hb 27 dX8_load_26 rfl 1 rfl ?_
  refine r_get hb ho 30 dX8_load_27 rfl lk_X8_14 pf_X8_0 xc rfl ?_
  refine r_callV0 (st := []) hb ho 33 dX8_load_30 rfl ck_X8_76 (c_X4_replaceDocument (a + 3) nx (a + 1) 40 D B l xP xB (by omega) (by omega)) rfl rfl (gc) rfl rfl (by rw [hR0]; exact ⟨Nat.le_of_ble_eq_true rfl, Nat.le_of_ble_eq_true rfl⟩) (Nat.le_of_ble_eq_true rfl) ⟨rfl, rfl⟩ (by rw [hR0]; exact Nat.zero_le _) (by rw [hR0]; exact Nat.zero_le _) (fun w_30 nw_30 qw_30 => ?_)
  obtain ⟨rfl, xP, ow_30⟩ := qw_30
  have xH : hst w_30 (a + 77) (recH hs (D, l, nx)) := xH.off ow_30 (by omega)
  have xc : w_30 a = some (eO 8 [.ref (a + 1), .ref (a + 3), .ref (a + 77), .ref (a + 523), .ref (a + 598), .ref (a + 673), .ref (a + 675), .int (iI (thr))]) := (ow_30 _ (by omega)).trans xc
  have bc : w_30 (a + 1) = some (eO 7 [.ref (a + 1 + 1), .int (iI (((B.length : Nat) : Int)))]) := (ow_30 _ (by omega)).trans bc
  have fc : w_30 (a + 673) = some (eO 1 [.ref (a + 673 + 1), .int (iI (b0)), .int (iI (b1)), .int (iI (b2)), .int (iI (eh))]) := (ow_30 _ (by omega)).trans fc
  have lc : w_30 (a + 675) = some (eO 5 [.ref (a + 675 + 1), .ref (a + 675 + 2), .int (iI (((pc0 : Nat) : Int)))]) := (ow_30 _ (by omega)).trans lc
  have s0c : w_30 (a + 523) = some (eO 6 [.ref (a + 523 + 1), .int (iI (t0)), .int (bI (s0.isSome))]) := (ow_30 _ (by omega)).trans s0c
  have s1c : w_30 (a + 598) = some (eO 6 [.ref (a + 598 + 1), .int (iI (t1)), .int (bI (s1.isSome))]) := (ow_30 _ (by omega)).trans s1c
  have xB : tx w_30 (a + 1) 40 B := xB.off ow_30 (by omega)
  have xS0 : slt w_30 (a + 523) s0 := xS0.off ow_30 (by omega)
  have xS1 : slt w_30 (a + 598) s1 := xS1.off ow_30 (by omega)
  have xF : fd w_30 (a + 673) b0 b1 b2 eh := xF.off ow_30 (by omega)
  have xR : fr w_30 (a + 673) 0 ri := xR.off ow_30 (by omega)
  have xL : plo w_30 (a + 675) pc0 oh0 ch0 := xL.off ow_30 (by omega)
  have xA : chA w_30 (a + 675) := xA.off ow_30 (by omega)
  obtain ⟨h_2, pa_2, xs_2, hG2, hx2⟩ := id xP
  obtain ⟨kc, kT, kcl, knx, ⟨ka, kh⟩, ⟨ks1, ks2⟩, kN⟩ := id hG2
  have kd := kT.1
  have kdl := kT.2.1
  refine r_iload_n hb 34 dX8_load_33 rfl 0 rfl ?_
  refine r_iret hS dX8_load_34 rfl rfl (Nat.zero_le _) (Nat.zero_le _) ?_
  have e : oLoad B D l nx hs s0 s1 thr  = (iI ((D.length : Nat) : Int), stP B D l nx hs s0 s1 thr (B, l.map (mvRep B.length), nx)) := by unfold oLoad; rfl
  rw [e]
  exact ⟨_, rfl, rfl, rfl, ⟨xc, xB, xP, xH, xS0, xS1, ⟨_, _, _, _, xF⟩, ⟨_, xR⟩, ⟨_, _, _, xL, xLc⟩, xA⟩, ((ow_8.mono (by omega) (by omega)).trans (ow_30.mono (by omega) (by omega)))⟩

abbrev rm_X8_insert : Room := { frames := 6, cells := 0, slots := 0, locals := 130 }
set_option maxHeartbeats 4000000 in
set_option maxRecDepth 100000 in
theorem c_X8_insert (a : Nat) (B D : List Int32) (l : List Nt) (nx : Nat) (hs : List Pg) (s0 s1 : Option (Pg × Int)) (thr : Int) (z : Int) {w : PW} {n : Nat} (hX : xoE w a B D l nx hs s0 s1 thr) (hzb : -2147483648 ≤ z ∧ z < 2147483648) (hok : pOk (D, l, nx)) : Ct1 yX8_insert cX8_insert 2 (some .int) rm_X8_insert [.ref a, .int (iI (z))] w n (fun v w1 n1 => v = .int (oIns B D l nx hs s0 s1 thr z).1 ∧ n = n1 ∧ xo w1 a (oIns B D l nx hs s0 s1 thr z).2 ∧ off w w1 a (a + 729)) := by
  obtain ⟨xc, xB, xP, xH, xS0, xS1, ⟨b0, b1, b2, eh, xF⟩, ⟨ri, xR⟩, ⟨pc0, oh0, ch0, xL, xLc⟩, xA⟩ := id hX
  have bc := xB.1
  have bl := xB.2.1
  obtain ⟨h, pa, xs, hG, hx⟩ := id xP
  obtain ⟨gc, gT, gcl, gnx, ⟨ga, gh⟩, ⟨gs1, gs2⟩, gN⟩ := id hG
  have gd := gT.1
  have gdl := gT.2.1
  obtain ⟨ph, qa, P, hO0, hhx⟩ := id xH
  have hc := hO0.1
  have hcl := hO0.2.2.2.2.2
  have fc := xF
  have lc := xL.1
  obtain ⟨p0, t0, s0c, s0p, s0e⟩ := id xS0
  obtain ⟨p1, t1, s1c, s1p, s1e⟩ := id xS1
  refine Ctr.of rfl (Nat.le_of_ble_eq_true rfl) fun S hS => ?_
  have hb : S.1.1 = cX8_insert := by rw [hS]; rfl
  have ho : S.1.2.1 = RX8 := by rw [hS]; rfl
  have hnL : S.1.2.2.1 = 2 := by rw [hS]; rfl
  have hR0 : S.2.1 = rm_X8_insert := by rw [hS]; rfl
  show Wp S 0 [(0, .ref a), (1, .int (iI (z)))] [] w n 0 0
  refine r_aload_n hb 1 dX8_insert_0 rfl 0 rfl ?_
  refine r_iload_n hb 2 dX8_insert_1 rfl 1 rfl ?_
  refine r_callVR (st := []) hb ho 5 dX8_insert_2 rfl ck_X8_80 (c_X8_isPosition a B D l nx hs s0 s1 thr z hX hzb) rfl rfl (xc) rfl rfl (by rw [hR0]; exact ⟨Nat.le_of_ble_eq_true rfl, Nat.le_of_ble_eq_true rfl⟩) (Nat.le_of_ble_eq_true rfl) ⟨rfl, rfl⟩ (by rw [hR0]; exact Nat.zero_le _) (by rw [hR0]; exact Nat.zero_le _) ?_
  refine r_ifb_ne hb 8 12 dX8_insert_5 rfl (by decide) (fun c5 => ?_) (fun c5 => ?_)
  · refine r_aload_n hb 13 dX8_insert_12 rfl 0 rfl ?_
    refine r_get hb ho 16 dX8_insert_13 rfl lk_X8_21 pf_X8_1 xc rfl ?_
    refine r_get hb ho 19 dX8_insert_16 rfl lk_X8_73 pf_X4_0 gc rfl ?_
    refine r_get hb ho 22 dX8_insert_19 rfl lk_X8_60 pf_X7_1 gd rfl ?_
    refine r_aload_n hb 23 dX8_insert_22 rfl 0 rfl ?_
    refine r_get hb ho 26 dX8_insert_23 rfl lk_X8_14 pf_X8_0 xc rfl ?_
    refine r_get hb ho 29 dX8_insert_26 rfl lk_X8_60 pf_X7_1 bc rfl ?_
    refine r_iaddZ hb 30 (((D.length : Nat) : Int) + ((B.length : Nat) : Int)) dX8_insert_29 rfl (by omega) ?_
    refine r_bipush 120 hb 32 dX8_insert_30 rfl rfl ?_
    refine r_icmp_le hb 35 39 dX8_insert_32 rfl (by decide) (by omega) (by omega) (fun c32 => ?_) (fun c32 => ?_)
    · have hpos := of_decide_eq_true c5
      have hD9 := hok.1
      refine r_aload_n hb 40 dX8_insert_39 rfl 0 rfl ?_
      refine r_get hb ho 43 dX8_insert_40 rfl lk_X8_28 pf_X8_2 xc rfl ?_
      refine r_aload_n hb 44 dX8_insert_43 rfl 0 rfl ?_
      refine r_get hb ho 47 dX8_insert_44 rfl lk_X8_21 pf_X8_1 xc rfl ?_
      refine r_callV0 (st := []) hb ho 50 dX8_insert_47 rfl ck_X8_69 (c_X2_record (a + 77) (a + 3) nx D l hs xH xP (by omega)) rfl rfl (hc) rfl rfl (by rw [hR0]; exact ⟨Nat.le_of_ble_eq_true rfl, Nat.le_of_ble_eq_true rfl⟩) (Nat.le_of_ble_eq_true rfl) ⟨rfl, rfl⟩ (by rw [hR0]; exact Nat.zero_le _) (by rw [hR0]; exact Nat.zero_le _) (fun w_47 nw_47 qw_47 => ?_)
      obtain ⟨rfl, xH, ow_47⟩ := qw_47
      have xc : w_47 a = some (eO 8 [.ref (a + 1), .ref (a + 3), .ref (a + 77), .ref (a + 523), .ref (a + 598), .ref (a + 673), .ref (a + 675), .int (iI (thr))]) := (ow_47 _ (by omega)).trans xc
      have bc : w_47 (a + 1) = some (eO 7 [.ref (a + 1 + 1), .int (iI (((B.length : Nat) : Int)))]) := (ow_47 _ (by omega)).trans bc
      have gc : w_47 (a + 3) = some (eO 4 [.ref (a + 3 + 1), .ref (a + 3 + 3), .int (iI (((l.length : Nat) : Int))), .int (iI (((nx : Nat) : Int)))]) := (ow_47 _ (by omega)).trans gc
      have ga : w_47 (a + 3 + 3) = some (eQ 3 10 h) := (ow_47 _ (by omega)).trans ga
      have gT : tx w_47 (a + 3 + 1) 120 D := gT.off ow_47 (by omega)
      have gd : w_47 (a + 3 + 1) = some (eO 7 [.ref (a + 3 + 1 + 1), .int (iI (((D.length : Nat) : Int)))]) := (ow_47 _ (by omega)).trans gd
      have fc : w_47 (a + 673) = some (eO 1 [.ref (a + 673 + 1), .int (iI (b0)), .int (iI (b1)), .int (iI (b2)), .int (iI (eh))]) := (ow_47 _ (by omega)).trans fc
      have lc : w_47 (a + 675) = some (eO 5 [.ref (a + 675 + 1), .ref (a + 675 + 2), .int (iI (((pc0 : Nat) : Int)))]) := (ow_47 _ (by omega)).trans lc
      have s0c : w_47 (a + 523) = some (eO 6 [.ref (a + 523 + 1), .int (iI (t0)), .int (bI (s0.isSome))]) := (ow_47 _ (by omega)).trans s0c
      have s1c : w_47 (a + 598) = some (eO 6 [.ref (a + 598 + 1), .int (iI (t1)), .int (bI (s1.isSome))]) := (ow_47 _ (by omega)).trans s1c
      have xB : tx w_47 (a + 1) 40 B := xB.off ow_47 (by omega)
      have xP : pg w_47 (a + 3) D l nx := xP.off ow_47 (by omega)
      have xS0 : slt w_47 (a + 523) s0 := xS0.off ow_47 (by omega)
      have xS1 : slt w_47 (a + 598) s1 := xS1.off ow_47 (by omega)
      have xF : fd w_47 (a + 673) b0 b1 b2 eh := xF.off ow_47 (by omega)
      have xR : fr w_47 (a + 673) 0 ri := xR.off ow_47 (by omega)
      have xL : plo w_47 (a + 675) pc0 oh0 ch0 := xL.off ow_47 (by omega)
      have xA : chA w_47 (a + 675) := xA.off ow_47 (by omega)
      have hG : pgo w_47 (a + 3) D h pa xs l.length nx := hG.off ow_47 (by omega)
      obtain ⟨gc, gT, gcl, gnx, ⟨ga, gh⟩, ⟨gs1, gs2⟩, gN⟩ := id hG
      have gd := gT.1
      have gdl := gT.2.1
      refine r_aload_n hb 51 dX8_insert_50 rfl 0 rfl ?_
      refine r_get hb ho 54 dX8_insert_51 rfl lk_X8_21 pf_X8_1 xc rfl ?_
      refine r_iload_n hb 55 dX8_insert_54 rfl 1 rfl ?_
      refine r_topv (.int (iI (((z.toNat : Nat) : Int)))) (by rw [show ((z.toNat : Nat) : Int) = z by omega]) ?_
      refine r_aload_n hb 56 dX8_insert_55 rfl 0 rfl ?_
      refine r_get hb ho 59 dX8_insert_56 rfl lk_X8_14 pf_X8_0 xc rfl ?_
      refine r_callV0 (st := []) hb ho 62 dX8_insert_59 rfl ck_X8_84 (c_X4_putIn (a + 3) nx (a + 1) 40 z.toNat D B l xP xB (by omega) (by omega) (by omega) (by omega) (fun j hj => by have := hok.2.2.2.1 j hj; simp only at this; omega)) rfl rfl (gc) rfl rfl (by rw [hR0]; exact ⟨Nat.le_of_ble_eq_true rfl, Nat.le_of_ble_eq_true rfl⟩) (Nat.le_of_ble_eq_true rfl) ⟨rfl, rfl⟩ (by rw [hR0]; exact Nat.zero_le _) (by rw [hR0]; exact Nat.zero_le _) (fun w_59 nw_59 qw_59 => ?_)
      obtain ⟨rfl, xP, ow_59⟩ := qw_59
      have xH : hst w_59 (a + 77) (recH hs (D, l, nx)) := xH.off ow_59 (by omega)
      have xc : w_59 a = some (eO 8 [.ref (a + 1), .ref (a + 3), .ref (a + 77), .ref (a + 523), .ref (a + 598), .ref (a + 673), .ref (a + 675), .int (iI (thr))]) := (ow_59 _ (by omega)).trans xc
      have bc : w_59 (a + 1) = some (eO 7 [.ref (a + 1 + 1), .int (iI (((B.length : Nat) : Int)))]) := (ow_59 _ (by omega)).trans bc
      have fc : w_59 (a + 673) = some (eO 1 [.ref (a + 673 + 1), .int (iI (b0)), .int (iI (b1)), .int (iI (b2)), .int (iI (eh))]) := (ow_59 _ (by omega)).trans fc
      have lc : w_59 (a + 675) = some (eO 5 [.ref (a + 675 + 1), .ref (a + 675 + 2), .int (iI (((pc0 : Nat) : Int)))]) := (ow_59 _ (by omega)).trans lc
      have s0c : w_59 (a + 523) = some (eO 6 [.ref (a + 523 + 1), .int (iI (t0)), .int (bI (s0.isSome))]) := (ow_59 _ (by omega)).trans s0c
      have s1c : w_59 (a + 598) = some (eO 6 [.ref (a + 598 + 1), .int (iI (t1)), .int (bI (s1.isSome))]) := (ow_59 _ (by omega)).trans s1c
      have xB : tx w_59 (a + 1) 40 B := xB.off ow_59 (by omega)
      have xS0 : slt w_59 (a + 523) s0 := xS0.off ow_59 (by omega)
      have xS1 : slt w_59 (a + 598) s1 := xS1.off ow_59 (by omega)
      have xF : fd w_59 (a + 673) b0 b1 b2 eh := xF.off ow_59 (by omega)
      have xR : fr w_59 (a + 673) 0 ri := xR.off ow_59 (by omega)
      have xL : plo w_59 (a + 675) pc0 oh0 ch0 := xL.off ow_59 (by omega)
      have xA : chA w_59 (a + 675) := xA.off ow_59 (by omega)
      obtain ⟨h_2, pa_2, xs_2, hG2, hx2⟩ := id xP
      obtain ⟨kc, kT, kcl, knx, ⟨ka, kh⟩, ⟨ks1, ks2⟩, kN⟩ := id hG2
      have kd := kT.1
      have kdl := kT.2.1
      refine r_aload_n hb 63 dX8_insert_62 rfl 0 rfl ?_
      refine r_get hb ho 66 dX8_insert_63 rfl lk_X8_21 pf_X8_1 xc rfl ?_
      refine r_get hb ho 69 dX8_insert_66 rfl lk_X8_73 pf_X4_0 kc rfl ?_
      refine r_get hb ho 72 dX8_insert_69 rfl lk_X8_60 pf_X7_1 kd rfl ?_
      refine r_iret hS dX8_insert_72 rfl rfl (Nat.zero_le _) (Nat.zero_le _) ?_
      rw [putL_len (by omega)]
      have e : oIns B D l nx hs s0 s1 thr z = (iI ((D.length + B.length : Nat) : Int), stP B D l nx hs s0 s1 thr (putL D z.toNat B, l.map (mvIns z.toNat B.length), nx)) := by unfold oIns; rw [if_neg (by rw [c5]; decide), if_neg (by omega)]
      rw [e]
      exact ⟨_, rfl, rfl, rfl, ⟨xc, xB, xP, xH, xS0, xS1, ⟨_, _, _, _, xF⟩, ⟨_, xR⟩, ⟨_, _, _, xL, xLc⟩, xA⟩, ((ow_47.mono (by omega) (by omega)).trans (ow_59.mono (by omega) (by omega)))⟩
    · refine r_sipush (-1004) hb 38 dX8_insert_35 rfl rfl ?_
      refine r_iret hS dX8_insert_38 rfl rfl (Nat.zero_le _) (Nat.zero_le _) ?_
      have e : oIns B D l nx hs s0 s1 thr z = (iI (-1004), (B, (D, l, nx), hs, s0, s1, thr)) := by unfold oIns; rw [if_neg (by rw [c5]; decide), if_pos (by omega)]
      rw [e]
      exact ⟨_, rfl, rfl, rfl, hX, off.rfl' _ _ _⟩
  · refine r_sipush (-1001) hb 11 dX8_insert_8 rfl rfl ?_
    refine r_iret hS dX8_insert_11 rfl rfl (Nat.zero_le _) (Nat.zero_le _) ?_
    have e : oIns B D l nx hs s0 s1 thr z = (iI (-1001), (B, (D, l, nx), hs, s0, s1, thr)) := by unfold oIns; rw [if_pos c5]
    rw [e]
    exact ⟨_, rfl, rfl, rfl, hX, off.rfl' _ _ _⟩

abbrev rm_X8_delete : Room := { frames := 6, cells := 0, slots := 0, locals := 130 }
set_option maxHeartbeats 4000000 in
set_option maxRecDepth 100000 in
theorem c_X8_delete (a : Nat) (B D : List Int32) (l : List Nt) (nx : Nat) (hs : List Pg) (s0 s1 : Option (Pg × Int)) (thr : Int) (z m : Int) {w : PW} {n : Nat} (hX : xoE w a B D l nx hs s0 s1 thr) (hzb : -2147483648 ≤ z ∧ z < 2147483648) (hmb : -2147483648 ≤ m ∧ m < 2147483648) : Ct1 yX8_delete cX8_delete 3 (some .int) rm_X8_delete [.ref a, .int (iI (z)), .int (iI (m))] w n (fun v w1 n1 => v = .int (oDel B D l nx hs s0 s1 thr z m).1 ∧ n = n1 ∧ xo w1 a (oDel B D l nx hs s0 s1 thr z m).2 ∧ off w w1 a (a + 729)) := by
  obtain ⟨xc, xB, xP, xH, xS0, xS1, ⟨b0, b1, b2, eh, xF⟩, ⟨ri, xR⟩, ⟨pc0, oh0, ch0, xL, xLc⟩, xA⟩ := id hX
  have bc := xB.1
  have bl := xB.2.1
  obtain ⟨h, pa, xs, hG, hx⟩ := id xP
  obtain ⟨gc, gT, gcl, gnx, ⟨ga, gh⟩, ⟨gs1, gs2⟩, gN⟩ := id hG
  have gd := gT.1
  have gdl := gT.2.1
  obtain ⟨ph, qa, P, hO0, hhx⟩ := id xH
  have hc := hO0.1
  have hcl := hO0.2.2.2.2.2
  have fc := xF
  have lc := xL.1
  obtain ⟨p0, t0, s0c, s0p, s0e⟩ := id xS0
  obtain ⟨p1, t1, s1c, s1p, s1e⟩ := id xS1
  refine Ctr.of rfl (Nat.le_of_ble_eq_true rfl) fun S hS => ?_
  have hb : S.1.1 = cX8_delete := by rw [hS]; rfl
  have ho : S.1.2.1 = RX8 := by rw [hS]; rfl
  have hnL : S.1.2.2.1 = 3 := by rw [hS]; rfl
  have hR0 : S.2.1 = rm_X8_delete := by rw [hS]; rfl
  show Wp S 0 [(0, .ref a), (1, .int (iI (z))), (2, .int (iI (m)))] [] w n 0 0
  refine r_aload_n hb 1 dX8_delete_0 rfl 0 rfl ?_
  refine r_iload_n hb 2 dX8_delete_1 rfl 1 rfl ?_
  refine r_callVR (st := []) hb ho 5 dX8_delete_2 rfl ck_X8_80 (c_X8_isPosition a B D l nx hs s0 s1 thr z hX hzb) rfl rfl (xc) rfl rfl (by rw [hR0]; exact ⟨Nat.le_of_ble_eq_true rfl, Nat.le_of_ble_eq_true rfl⟩) (Nat.le_of_ble_eq_true rfl) ⟨rfl, rfl⟩ (by rw [hR0]; exact Nat.zero_le _) (by rw [hR0]; exact Nat.zero_le _) ?_
  refine r_ifb_ne hb 8 12 dX8_delete_5 rfl (by decide) (fun c5 => ?_) (fun c5 => ?_)
  · have hpos := of_decide_eq_true c5
    refine r_iload_n hb 13 dX8_delete_12 rfl 2 rfl ?_
    refine r_if_lt hb 16 32 dX8_delete_13 rfl (by decide) (by omega) (fun c13 => ?_) (fun c13 => ?_)
    · refine r_sipush (-1002) hb 35 dX8_delete_32 rfl rfl ?_
      refine r_iret hS dX8_delete_35 rfl rfl (Nat.zero_le _) (Nat.zero_le _) ?_
      have e : oDel B D l nx hs s0 s1 thr z m = (iI (-1002), (B, (D, l, nx), hs, s0, s1, thr)) := by unfold oDel; rw [if_neg (by rw [c5]; decide), if_pos (by omega)]
      rw [e]
      exact ⟨_, rfl, rfl, rfl, hX, off.rfl' _ _ _⟩
    · refine r_iload_n hb 17 dX8_delete_16 rfl 2 rfl ?_
      refine r_aload_n hb 18 dX8_delete_17 rfl 0 rfl ?_
      refine r_get hb ho 21 dX8_delete_18 rfl lk_X8_21 pf_X8_1 xc rfl ?_
      refine r_get hb ho 24 dX8_delete_21 rfl lk_X8_73 pf_X4_0 gc rfl ?_
      refine r_get hb ho 27 dX8_delete_24 rfl lk_X8_60 pf_X7_1 gd rfl ?_
      refine r_iload_n hb 28 dX8_delete_27 rfl 1 rfl ?_
      refine r_isubZ hb 29 (((D.length : Nat) : Int) - z) dX8_delete_28 rfl (by omega) ?_
      refine r_icmp_le hb 32 36 dX8_delete_29 rfl (by decide) (by omega) (by omega) (fun c29 => ?_) (fun c29 => ?_)
      · refine r_aload_n hb 37 dX8_delete_36 rfl 0 rfl ?_
        refine r_get hb ho 40 dX8_delete_37 rfl lk_X8_28 pf_X8_2 xc rfl ?_
        refine r_aload_n hb 41 dX8_delete_40 rfl 0 rfl ?_
        refine r_get hb ho 44 dX8_delete_41 rfl lk_X8_21 pf_X8_1 xc rfl ?_
        refine r_callV0 (st := []) hb ho 47 dX8_delete_44 rfl ck_X8_69 (c_X2_record (a + 77) (a + 3) nx D l hs xH xP (by omega)) rfl rfl (hc) rfl rfl (by rw [hR0]; exact ⟨Nat.le_of_ble_eq_true rfl, Nat.le_of_ble_eq_true rfl⟩) (Nat.le_of_ble_eq_true rfl) ⟨rfl, rfl⟩ (by rw [hR0]; exact Nat.zero_le _) (by rw [hR0]; exact Nat.zero_le _) (fun w_44 nw_44 qw_44 => ?_)
        obtain ⟨rfl, xH, ow_44⟩ := qw_44
        have xc : w_44 a = some (eO 8 [.ref (a + 1), .ref (a + 3), .ref (a + 77), .ref (a + 523), .ref (a + 598), .ref (a + 673), .ref (a + 675), .int (iI (thr))]) := (ow_44 _ (by omega)).trans xc
        have bc : w_44 (a + 1) = some (eO 7 [.ref (a + 1 + 1), .int (iI (((B.length : Nat) : Int)))]) := (ow_44 _ (by omega)).trans bc
        have gc : w_44 (a + 3) = some (eO 4 [.ref (a + 3 + 1), .ref (a + 3 + 3), .int (iI (((l.length : Nat) : Int))), .int (iI (((nx : Nat) : Int)))]) := (ow_44 _ (by omega)).trans gc
        have ga : w_44 (a + 3 + 3) = some (eQ 3 10 h) := (ow_44 _ (by omega)).trans ga
        have gT : tx w_44 (a + 3 + 1) 120 D := gT.off ow_44 (by omega)
        have gd : w_44 (a + 3 + 1) = some (eO 7 [.ref (a + 3 + 1 + 1), .int (iI (((D.length : Nat) : Int)))]) := (ow_44 _ (by omega)).trans gd
        have fc : w_44 (a + 673) = some (eO 1 [.ref (a + 673 + 1), .int (iI (b0)), .int (iI (b1)), .int (iI (b2)), .int (iI (eh))]) := (ow_44 _ (by omega)).trans fc
        have lc : w_44 (a + 675) = some (eO 5 [.ref (a + 675 + 1), .ref (a + 675 + 2), .int (iI (((pc0 : Nat) : Int)))]) := (ow_44 _ (by omega)).trans lc
        have s0c : w_44 (a + 523) = some (eO 6 [.ref (a + 523 + 1), .int (iI (t0)), .int (bI (s0.isSome))]) := (ow_44 _ (by omega)).trans s0c
        have s1c : w_44 (a + 598) = some (eO 6 [.ref (a + 598 + 1), .int (iI (t1)), .int (bI (s1.isSome))]) := (ow_44 _ (by omega)).trans s1c
        have xB : tx w_44 (a + 1) 40 B := xB.off ow_44 (by omega)
        have xP : pg w_44 (a + 3) D l nx := xP.off ow_44 (by omega)
        have xS0 : slt w_44 (a + 523) s0 := xS0.off ow_44 (by omega)
        have xS1 : slt w_44 (a + 598) s1 := xS1.off ow_44 (by omega)
        have xF : fd w_44 (a + 673) b0 b1 b2 eh := xF.off ow_44 (by omega)
        have xR : fr w_44 (a + 673) 0 ri := xR.off ow_44 (by omega)
        have xL : plo w_44 (a + 675) pc0 oh0 ch0 := xL.off ow_44 (by omega)
        have xA : chA w_44 (a + 675) := xA.off ow_44 (by omega)
        have hG : pgo w_44 (a + 3) D h pa xs l.length nx := hG.off ow_44 (by omega)
        obtain ⟨gc, gT, gcl, gnx, ⟨ga, gh⟩, ⟨gs1, gs2⟩, gN⟩ := id hG
        have gd := gT.1
        have gdl := gT.2.1
        refine r_aload_n hb 48 dX8_delete_47 rfl 0 rfl ?_
        refine r_get hb ho 51 dX8_delete_48 rfl lk_X8_21 pf_X8_1 xc rfl ?_
        refine r_iload_n hb 52 dX8_delete_51 rfl 1 rfl ?_
        refine r_topv (.int (iI (((z.toNat : Nat) : Int)))) (by rw [show ((z.toNat : Nat) : Int) = z by omega]) ?_
        refine r_iload_n hb 53 dX8_delete_52 rfl 2 rfl ?_
        refine r_topv (.int (iI (((m.toNat : Nat) : Int)))) (by rw [show ((m.toNat : Nat) : Int) = m by omega]) ?_
        refine r_callV1 (st := []) hb ho 56 dX8_delete_53 rfl ck_X8_88 (c_X4_cutOut (a + 3) nx z.toNat m.toNat D l xP (by omega)) rfl rfl (gc) rfl rfl (by rw [hR0]; exact ⟨Nat.le_of_ble_eq_true rfl, Nat.le_of_ble_eq_true rfl⟩) (Nat.le_of_ble_eq_true rfl) ⟨rfl, rfl⟩ (by rw [hR0]; exact Nat.zero_le _) (by rw [hR0]; exact Nat.zero_le _) (fun vw_53 w_53 nw_53 qw_53 => ?_)
        obtain ⟨rfl, rfl, xP, ow_53⟩ := qw_53
        have xH : hst w_53 (a + 77) (recH hs (D, l, nx)) := xH.off ow_53 (by omega)
        have xc : w_53 a = some (eO 8 [.ref (a + 1), .ref (a + 3), .ref (a + 77), .ref (a + 523), .ref (a + 598), .ref (a + 673), .ref (a + 675), .int (iI (thr))]) := (ow_53 _ (by omega)).trans xc
        have bc : w_53 (a + 1) = some (eO 7 [.ref (a + 1 + 1), .int (iI (((B.length : Nat) : Int)))]) := (ow_53 _ (by omega)).trans bc
        have fc : w_53 (a + 673) = some (eO 1 [.ref (a + 673 + 1), .int (iI (b0)), .int (iI (b1)), .int (iI (b2)), .int (iI (eh))]) := (ow_53 _ (by omega)).trans fc
        have lc : w_53 (a + 675) = some (eO 5 [.ref (a + 675 + 1), .ref (a + 675 + 2), .int (iI (((pc0 : Nat) : Int)))]) := (ow_53 _ (by omega)).trans lc
        have s0c : w_53 (a + 523) = some (eO 6 [.ref (a + 523 + 1), .int (iI (t0)), .int (bI (s0.isSome))]) := (ow_53 _ (by omega)).trans s0c
        have s1c : w_53 (a + 598) = some (eO 6 [.ref (a + 598 + 1), .int (iI (t1)), .int (bI (s1.isSome))]) := (ow_53 _ (by omega)).trans s1c
        have xB : tx w_53 (a + 1) 40 B := xB.off ow_53 (by omega)
        have xS0 : slt w_53 (a + 523) s0 := xS0.off ow_53 (by omega)
        have xS1 : slt w_53 (a + 598) s1 := xS1.off ow_53 (by omega)
        have xF : fd w_53 (a + 673) b0 b1 b2 eh := xF.off ow_53 (by omega)
        have xR : fr w_53 (a + 673) 0 ri := xR.off ow_53 (by omega)
        have xL : plo w_53 (a + 675) pc0 oh0 ch0 := xL.off ow_53 (by omega)
        have xA : chA w_53 (a + 675) := xA.off ow_53 (by omega)
        obtain ⟨h_2, pa_2, xs_2, hG2, hx2⟩ := id xP
        obtain ⟨kc, kT, kcl, knx, ⟨ka, kh⟩, ⟨ks1, ks2⟩, kN⟩ := id hG2
        have kd := kT.1
        have kdl := kT.2.1
        refine r_iret hS dX8_delete_56 rfl rfl (Nat.zero_le _) (Nat.zero_le _) ?_
        have e : oDel B D l nx hs s0 s1 thr z m = (iI ((orN z.toNat m.toNat l l.length : Nat) : Int), stP B D l nx hs s0 s1 thr (cutL D z.toNat m.toNat, l.map (mvDel z.toNat m.toNat), nx)) := by unfold oDel; rw [if_neg (by rw [c5]; decide), if_neg (by omega)]
        rw [e]
        exact ⟨_, rfl, rfl, rfl, ⟨xc, xB, xP, xH, xS0, xS1, ⟨_, _, _, _, xF⟩, ⟨_, xR⟩, ⟨_, _, _, xL, xLc⟩, xA⟩, ((ow_44.mono (by omega) (by omega)).trans (ow_53.mono (by omega) (by omega)))⟩
      · refine r_sipush (-1002) hb 35 dX8_delete_32 rfl rfl ?_
        refine r_iret hS dX8_delete_35 rfl rfl (Nat.zero_le _) (Nat.zero_le _) ?_
        have e : oDel B D l nx hs s0 s1 thr z m = (iI (-1002), (B, (D, l, nx), hs, s0, s1, thr)) := by unfold oDel; rw [if_neg (by rw [c5]; decide), if_pos (by omega)]
        rw [e]
        exact ⟨_, rfl, rfl, rfl, hX, off.rfl' _ _ _⟩
  · refine r_sipush (-1001) hb 11 dX8_delete_8 rfl rfl ?_
    refine r_iret hS dX8_delete_11 rfl rfl (Nat.zero_le _) (Nat.zero_le _) ?_
    have e : oDel B D l nx hs s0 s1 thr z m = (iI (-1001), (B, (D, l, nx), hs, s0, s1, thr)) := by unfold oDel; rw [if_pos c5]
    rw [e]
    exact ⟨_, rfl, rfl, rfl, hX, off.rfl' _ _ _⟩

abbrev rm_X8_comment : Room := { frames := 6, cells := 0, slots := 0, locals := 130 }
set_option maxHeartbeats 4000000 in
set_option maxRecDepth 100000 in
theorem c_X8_comment (a : Nat) (B D : List Int32) (l : List Nt) (nx : Nat) (hs : List Pg) (s0 s1 : Option (Pg × Int)) (thr : Int) (f t : Int) {w : PW} {n : Nat} (hX : xoE w a B D l nx hs s0 s1 thr) (hfb : -2147483648 ≤ f ∧ f < 2147483648) (htb : -2147483648 ≤ t ∧ t < 2147483648) (hcap : nx + 1 < 1000000) : Ct1 yX8_comment cX8_comment 3 (some .int) rm_X8_comment [.ref a, .int (iI (f)), .int (iI (t))] w n (fun v w1 n1 => v = .int (oCom B D l nx hs s0 s1 thr f t).1 ∧ n = n1 ∧ xo w1 a (oCom B D l nx hs s0 s1 thr f t).2 ∧ off w w1 a (a + 729)) := by
  obtain ⟨xc, xB, xP, xH, xS0, xS1, ⟨b0, b1, b2, eh, xF⟩, ⟨ri, xR⟩, ⟨pc0, oh0, ch0, xL, xLc⟩, xA⟩ := id hX
  have bc := xB.1
  have bl := xB.2.1
  obtain ⟨h, pa, xs, hG, hx⟩ := id xP
  obtain ⟨gc, gT, gcl, gnx, ⟨ga, gh⟩, ⟨gs1, gs2⟩, gN⟩ := id hG
  have gd := gT.1
  have gdl := gT.2.1
  obtain ⟨ph, qa, P, hO0, hhx⟩ := id xH
  have hc := hO0.1
  have hcl := hO0.2.2.2.2.2
  have fc := xF
  have lc := xL.1
  obtain ⟨p0, t0, s0c, s0p, s0e⟩ := id xS0
  obtain ⟨p1, t1, s1c, s1p, s1e⟩ := id xS1
  refine Ctr.of rfl (Nat.le_of_ble_eq_true rfl) fun S hS => ?_
  have hb : S.1.1 = cX8_comment := by rw [hS]; rfl
  have ho : S.1.2.1 = RX8 := by rw [hS]; rfl
  have hnL : S.1.2.2.1 = 3 := by rw [hS]; rfl
  have hR0 : S.2.1 = rm_X8_comment := by rw [hS]; rfl
  show Wp S 0 [(0, .ref a), (1, .int (iI (f))), (2, .int (iI (t)))] [] w n 0 0
  refine r_aload_n hb 1 dX8_comment_0 rfl 0 rfl ?_
  refine r_iload_n hb 2 dX8_comment_1 rfl 1 rfl ?_
  refine r_callVR (st := []) hb ho 5 dX8_comment_2 rfl ck_X8_80 (c_X8_isPosition a B D l nx hs s0 s1 thr f hX hfb) rfl rfl (xc) rfl rfl (by rw [hR0]; exact ⟨Nat.le_of_ble_eq_true rfl, Nat.le_of_ble_eq_true rfl⟩) (Nat.le_of_ble_eq_true rfl) ⟨rfl, rfl⟩ (by rw [hR0]; exact Nat.zero_le _) (by rw [hR0]; exact Nat.zero_le _) ?_
  refine r_ifb_ne hb 8 12 dX8_comment_5 rfl (by decide) (fun c5 => ?_) (fun c5 => ?_)
  · have hpos := c5
    refine r_aload_n hb 13 dX8_comment_12 rfl 0 rfl ?_
    refine r_iload_n hb 14 dX8_comment_13 rfl 1 rfl ?_
    refine r_iload_n hb 15 dX8_comment_14 rfl 2 rfl ?_
    refine r_bipush 16 hb 17 dX8_comment_15 rfl rfl ?_
    refine r_callVR (st := []) hb ho 20 dX8_comment_17 rfl ck_X8_92 (c_X8_isRange a B D l nx hs s0 s1 thr f t 16 hX (of_decide_eq_true hpos) htb (by omega)) rfl rfl (xc) rfl rfl (by rw [hR0]; exact ⟨Nat.le_of_ble_eq_true rfl, Nat.le_of_ble_eq_true rfl⟩) (Nat.le_of_ble_eq_true rfl) ⟨rfl, rfl⟩ (by rw [hR0]; exact Nat.zero_le _) (by rw [hR0]; exact Nat.zero_le _) ?_
    refine r_ifb_ne hb 23 27 dX8_comment_20 rfl (by decide) (fun c20 => ?_) (fun c20 => ?_)
    · have hpo := of_decide_eq_true c5
      have hrn := of_decide_eq_true c20
      refine r_aload_n hb 28 dX8_comment_27 rfl 0 rfl ?_
      refine r_get hb ho 31 dX8_comment_28 rfl lk_X8_21 pf_X8_1 xc rfl ?_
      refine r_get hb ho 34 dX8_comment_31 rfl lk_X8_96 pf_X4_2 gc rfl ?_
      refine r_bipush 10 hb 36 dX8_comment_34 rfl rfl ?_
      refine r_icmp_lt hb 39 43 dX8_comment_36 rfl (by decide) (by omega) (by omega) (fun c36 => ?_) (fun c36 => ?_)
      · refine r_aload_n hb 44 dX8_comment_43 rfl 0 rfl ?_
        refine r_get hb ho 47 dX8_comment_44 rfl lk_X8_28 pf_X8_2 xc rfl ?_
        refine r_aload_n hb 48 dX8_comment_47 rfl 0 rfl ?_
        refine r_get hb ho 51 dX8_comment_48 rfl lk_X8_21 pf_X8_1 xc rfl ?_
        refine r_callV0 (st := []) hb ho 54 dX8_comment_51 rfl ck_X8_69 (c_X2_record (a + 77) (a + 3) nx D l hs xH xP (by omega)) rfl rfl (hc) rfl rfl (by rw [hR0]; exact ⟨Nat.le_of_ble_eq_true rfl, Nat.le_of_ble_eq_true rfl⟩) (Nat.le_of_ble_eq_true rfl) ⟨rfl, rfl⟩ (by rw [hR0]; exact Nat.zero_le _) (by rw [hR0]; exact Nat.zero_le _) (fun w_51 nw_51 qw_51 => ?_)
        obtain ⟨rfl, xH, ow_51⟩ := qw_51
        have xc : w_51 a = some (eO 8 [.ref (a + 1), .ref (a + 3), .ref (a + 77), .ref (a + 523), .ref (a + 598), .ref (a + 673), .ref (a + 675), .int (iI (thr))]) := (ow_51 _ (by omega)).trans xc
        have bc : w_51 (a + 1) = some (eO 7 [.ref (a + 1 + 1), .int (iI (((B.length : Nat) : Int)))]) := (ow_51 _ (by omega)).trans bc
        have gc : w_51 (a + 3) = some (eO 4 [.ref (a + 3 + 1), .ref (a + 3 + 3), .int (iI (((l.length : Nat) : Int))), .int (iI (((nx : Nat) : Int)))]) := (ow_51 _ (by omega)).trans gc
        have ga : w_51 (a + 3 + 3) = some (eQ 3 10 h) := (ow_51 _ (by omega)).trans ga
        have gT : tx w_51 (a + 3 + 1) 120 D := gT.off ow_51 (by omega)
        have gd : w_51 (a + 3 + 1) = some (eO 7 [.ref (a + 3 + 1 + 1), .int (iI (((D.length : Nat) : Int)))]) := (ow_51 _ (by omega)).trans gd
        have fc : w_51 (a + 673) = some (eO 1 [.ref (a + 673 + 1), .int (iI (b0)), .int (iI (b1)), .int (iI (b2)), .int (iI (eh))]) := (ow_51 _ (by omega)).trans fc
        have lc : w_51 (a + 675) = some (eO 5 [.ref (a + 675 + 1), .ref (a + 675 + 2), .int (iI (((pc0 : Nat) : Int)))]) := (ow_51 _ (by omega)).trans lc
        have s0c : w_51 (a + 523) = some (eO 6 [.ref (a + 523 + 1), .int (iI (t0)), .int (bI (s0.isSome))]) := (ow_51 _ (by omega)).trans s0c
        have s1c : w_51 (a + 598) = some (eO 6 [.ref (a + 598 + 1), .int (iI (t1)), .int (bI (s1.isSome))]) := (ow_51 _ (by omega)).trans s1c
        have xB : tx w_51 (a + 1) 40 B := xB.off ow_51 (by omega)
        have xP : pg w_51 (a + 3) D l nx := xP.off ow_51 (by omega)
        have xS0 : slt w_51 (a + 523) s0 := xS0.off ow_51 (by omega)
        have xS1 : slt w_51 (a + 598) s1 := xS1.off ow_51 (by omega)
        have xF : fd w_51 (a + 673) b0 b1 b2 eh := xF.off ow_51 (by omega)
        have xR : fr w_51 (a + 673) 0 ri := xR.off ow_51 (by omega)
        have xL : plo w_51 (a + 675) pc0 oh0 ch0 := xL.off ow_51 (by omega)
        have xA : chA w_51 (a + 675) := xA.off ow_51 (by omega)
        have hG : pgo w_51 (a + 3) D h pa xs l.length nx := hG.off ow_51 (by omega)
        obtain ⟨gc, gT, gcl, gnx, ⟨ga, gh⟩, ⟨gs1, gs2⟩, gN⟩ := id hG
        have gd := gT.1
        have gdl := gT.2.1
        refine r_aload_n hb 55 dX8_comment_54 rfl 0 rfl ?_
        refine r_get hb ho 58 dX8_comment_55 rfl lk_X8_21 pf_X8_1 xc rfl ?_
        refine r_iload_n hb 59 dX8_comment_58 rfl 1 rfl ?_
        refine r_topv (.int (iI (((f.toNat : Nat) : Int)))) (by rw [show ((f.toNat : Nat) : Int) = f by omega]) ?_
        refine r_iload_n hb 60 dX8_comment_59 rfl 2 rfl ?_
        refine r_topv (.int (iI (((t.toNat : Nat) : Int)))) (by rw [show ((t.toNat : Nat) : Int) = t by omega]) ?_
        refine r_callV1 (st := []) hb ho 63 dX8_comment_60 rfl ck_X8_99 (c_X4_addNote (a + 3) nx f.toNat t.toNat D l xP (by omega) hcap (by omega) (by omega) (by omega)) rfl rfl (gc) rfl rfl (by rw [hR0]; exact ⟨Nat.le_of_ble_eq_true rfl, Nat.le_of_ble_eq_true rfl⟩) (Nat.le_of_ble_eq_true rfl) ⟨rfl, rfl⟩ (by rw [hR0]; exact Nat.zero_le _) (by rw [hR0]; exact Nat.zero_le _) (fun vw_60 w_60 nw_60 qw_60 => ?_)
        obtain ⟨rfl, rfl, xP, ow_60⟩ := qw_60
        have xH : hst w_60 (a + 77) (recH hs (D, l, nx)) := xH.off ow_60 (by omega)
        have xc : w_60 a = some (eO 8 [.ref (a + 1), .ref (a + 3), .ref (a + 77), .ref (a + 523), .ref (a + 598), .ref (a + 673), .ref (a + 675), .int (iI (thr))]) := (ow_60 _ (by omega)).trans xc
        have bc : w_60 (a + 1) = some (eO 7 [.ref (a + 1 + 1), .int (iI (((B.length : Nat) : Int)))]) := (ow_60 _ (by omega)).trans bc
        have fc : w_60 (a + 673) = some (eO 1 [.ref (a + 673 + 1), .int (iI (b0)), .int (iI (b1)), .int (iI (b2)), .int (iI (eh))]) := (ow_60 _ (by omega)).trans fc
        have lc : w_60 (a + 675) = some (eO 5 [.ref (a + 675 + 1), .ref (a + 675 + 2), .int (iI (((pc0 : Nat) : Int)))]) := (ow_60 _ (by omega)).trans lc
        have s0c : w_60 (a + 523) = some (eO 6 [.ref (a + 523 + 1), .int (iI (t0)), .int (bI (s0.isSome))]) := (ow_60 _ (by omega)).trans s0c
        have s1c : w_60 (a + 598) = some (eO 6 [.ref (a + 598 + 1), .int (iI (t1)), .int (bI (s1.isSome))]) := (ow_60 _ (by omega)).trans s1c
        have xB : tx w_60 (a + 1) 40 B := xB.off ow_60 (by omega)
        have xS0 : slt w_60 (a + 523) s0 := xS0.off ow_60 (by omega)
        have xS1 : slt w_60 (a + 598) s1 := xS1.off ow_60 (by omega)
        have xF : fd w_60 (a + 673) b0 b1 b2 eh := xF.off ow_60 (by omega)
        have xR : fr w_60 (a + 673) 0 ri := xR.off ow_60 (by omega)
        have xL : plo w_60 (a + 675) pc0 oh0 ch0 := xL.off ow_60 (by omega)
        have xA : chA w_60 (a + 675) := xA.off ow_60 (by omega)
        obtain ⟨h_2, pa_2, xs_2, hG2, hx2⟩ := id xP
        obtain ⟨kc, kT, kcl, knx, ⟨ka, kh⟩, ⟨ks1, ks2⟩, kN⟩ := id hG2
        have kd := kT.1
        have kdl := kT.2.1
        refine r_iret hS dX8_comment_63 rfl rfl (Nat.zero_le _) (Nat.zero_le _) ?_
        have e : oCom B D l nx hs s0 s1 thr f t = (iI ((nx : Nat) : Int), stP B D l nx hs s0 s1 thr (D, l ++ [mkN D nx f.toNat t.toNat], nx + 1)) := by unfold oCom; rw [if_neg (by rw [c5]; decide), if_neg (by rw [c20]; decide), if_neg (by omega)]
        rw [e]
        exact ⟨_, rfl, rfl, rfl, ⟨xc, xB, xP, xH, xS0, xS1, ⟨_, _, _, _, xF⟩, ⟨_, xR⟩, ⟨_, _, _, xL, xLc⟩, xA⟩, ((ow_51.mono (by omega) (by omega)).trans (ow_60.mono (by omega) (by omega)))⟩
      · refine r_sipush (-1004) hb 42 dX8_comment_39 rfl rfl ?_
        refine r_iret hS dX8_comment_42 rfl rfl (Nat.zero_le _) (Nat.zero_le _) ?_
        have e : oCom B D l nx hs s0 s1 thr f t = (iI (-1004), (B, (D, l, nx), hs, s0, s1, thr)) := by unfold oCom; rw [if_neg (by rw [c5]; decide), if_neg (by rw [c20]; decide), if_pos (by omega)]
        rw [e]
        exact ⟨_, rfl, rfl, rfl, hX, off.rfl' _ _ _⟩
    · refine r_sipush (-1002) hb 26 dX8_comment_23 rfl rfl ?_
      refine r_iret hS dX8_comment_26 rfl rfl (Nat.zero_le _) (Nat.zero_le _) ?_
      have e : oCom B D l nx hs s0 s1 thr f t = (iI (-1002), (B, (D, l, nx), hs, s0, s1, thr)) := by unfold oCom; rw [if_neg (by rw [c5]; decide), if_pos c20]
      rw [e]
      exact ⟨_, rfl, rfl, rfl, hX, off.rfl' _ _ _⟩
  · refine r_sipush (-1001) hb 11 dX8_comment_8 rfl rfl ?_
    refine r_iret hS dX8_comment_11 rfl rfl (Nat.zero_le _) (Nat.zero_le _) ?_
    have e : oCom B D l nx hs s0 s1 thr f t = (iI (-1001), (B, (D, l, nx), hs, s0, s1, thr)) := by unfold oCom; rw [if_pos c5]
    rw [e]
    exact ⟨_, rfl, rfl, rfl, hX, off.rfl' _ _ _⟩

abbrev rm_X8_remove : Room := { frames := 6, cells := 0, slots := 0, locals := 130 }
set_option maxHeartbeats 4000000 in
set_option maxRecDepth 100000 in
theorem c_X8_remove (a : Nat) (B D : List Int32) (l : List Nt) (nx : Nat) (hs : List Pg) (s0 s1 : Option (Pg × Int)) (thr : Int) (z : Int) {w : PW} {n : Nat} (hX : xoE w a B D l nx hs s0 s1 thr) (hzb : -2147483648 ≤ z ∧ z < 2147483648) : Ct1 yX8_remove cX8_remove 3 (some .int) rm_X8_remove [.ref a, .int (iI (z))] w n (fun v w1 n1 => v = .int (oRem B D l nx hs s0 s1 thr z).1 ∧ n = n1 ∧ xo w1 a (oRem B D l nx hs s0 s1 thr z).2 ∧ off w w1 a (a + 729)) := by
  obtain ⟨xc, xB, xP, xH, xS0, xS1, ⟨b0, b1, b2, eh, xF⟩, ⟨ri, xR⟩, ⟨pc0, oh0, ch0, xL, xLc⟩, xA⟩ := id hX
  have bc := xB.1
  have bl := xB.2.1
  obtain ⟨h, pa, xs, hG, hx⟩ := id xP
  obtain ⟨gc, gT, gcl, gnx, ⟨ga, gh⟩, ⟨gs1, gs2⟩, gN⟩ := id hG
  have gd := gT.1
  have gdl := gT.2.1
  obtain ⟨ph, qa, P, hO0, hhx⟩ := id xH
  have hc := hO0.1
  have hcl := hO0.2.2.2.2.2
  have fc := xF
  have lc := xL.1
  obtain ⟨p0, t0, s0c, s0p, s0e⟩ := id xS0
  obtain ⟨p1, t1, s1c, s1p, s1e⟩ := id xS1
  refine Ctr.of rfl (Nat.le_of_ble_eq_true rfl) fun S hS => ?_
  have hb : S.1.1 = cX8_remove := by rw [hS]; rfl
  have ho : S.1.2.1 = RX8 := by rw [hS]; rfl
  have hnL : S.1.2.2.1 = 3 := by rw [hS]; rfl
  have hR0 : S.2.1 = rm_X8_remove := by rw [hS]; rfl
  show Wp S 0 [(0, .ref a), (1, .int (iI (z)))] [] w n 0 0
  refine r_aload_n hb 1 dX8_remove_0 rfl 0 rfl ?_
  refine r_get hb ho 4 dX8_remove_1 rfl lk_X8_21 pf_X8_1 xc rfl ?_
  refine r_iload_n hb 5 dX8_remove_4 rfl 1 rfl ?_
  refine r_callVR (st := []) hb ho 8 dX8_remove_5 rfl ck_X8_102 (c_X4_indexOf (a + 3) nx D l z xP hzb) rfl rfl (gc) rfl rfl (by rw [hR0]; exact ⟨Nat.le_of_ble_eq_true rfl, Nat.le_of_ble_eq_true rfl⟩) (Nat.le_of_ble_eq_true rfl) ⟨rfl, rfl⟩ (by rw [hR0]; exact Nat.zero_le _) (by rw [hR0]; exact Nat.zero_le _) ?_
  by_cases hf : ixN l z < l.length
  · have hle := ixN_le l z
    refine r_topz ((ixN l z : Nat) : Int) (by unfold ixZ; rw [if_pos hf]) ?_
    refine r_istore_n [(2, .int (iI (((ixN l z : Nat) : Int)))), (0, .ref a), (1, .int (iI (z)))] hb 9 3 dX8_remove_8 rfl rfl hnL (by decide) rfl ?_
    refine r_iload_n hb 10 dX8_remove_9 rfl 0 rfl ?_
    refine r_if_ge hb 13 17 dX8_remove_10 rfl (by decide) (by omega) (fun c10 => ?_) (fun c10 => ?_)
    · refine r_aload_n hb 18 dX8_remove_17 rfl 1 rfl ?_
      refine r_get hb ho 21 dX8_remove_18 rfl lk_X8_28 pf_X8_2 xc rfl ?_
      refine r_aload_n hb 22 dX8_remove_21 rfl 1 rfl ?_
      refine r_get hb ho 25 dX8_remove_22 rfl lk_X8_21 pf_X8_1 xc rfl ?_
      refine r_callV0 (st := []) hb ho 28 dX8_remove_25 rfl ck_X8_69 (c_X2_record (a + 77) (a + 3) nx D l hs xH xP (by omega)) rfl rfl (hc) rfl rfl (by rw [hR0]; exact ⟨Nat.le_of_ble_eq_true rfl, Nat.le_of_ble_eq_true rfl⟩) (Nat.le_of_ble_eq_true rfl) ⟨rfl, rfl⟩ (by rw [hR0]; exact Nat.zero_le _) (by rw [hR0]; exact Nat.zero_le _) (fun w_25 nw_25 qw_25 => ?_)
      obtain ⟨rfl, xH, ow_25⟩ := qw_25
      have xc : w_25 a = some (eO 8 [.ref (a + 1), .ref (a + 3), .ref (a + 77), .ref (a + 523), .ref (a + 598), .ref (a + 673), .ref (a + 675), .int (iI (thr))]) := (ow_25 _ (by omega)).trans xc
      have bc : w_25 (a + 1) = some (eO 7 [.ref (a + 1 + 1), .int (iI (((B.length : Nat) : Int)))]) := (ow_25 _ (by omega)).trans bc
      have gc : w_25 (a + 3) = some (eO 4 [.ref (a + 3 + 1), .ref (a + 3 + 3), .int (iI (((l.length : Nat) : Int))), .int (iI (((nx : Nat) : Int)))]) := (ow_25 _ (by omega)).trans gc
      have ga : w_25 (a + 3 + 3) = some (eQ 3 10 h) := (ow_25 _ (by omega)).trans ga
      have gT : tx w_25 (a + 3 + 1) 120 D := gT.off ow_25 (by omega)
      have gd : w_25 (a + 3 + 1) = some (eO 7 [.ref (a + 3 + 1 + 1), .int (iI (((D.length : Nat) : Int)))]) := (ow_25 _ (by omega)).trans gd
      have fc : w_25 (a + 673) = some (eO 1 [.ref (a + 673 + 1), .int (iI (b0)), .int (iI (b1)), .int (iI (b2)), .int (iI (eh))]) := (ow_25 _ (by omega)).trans fc
      have lc : w_25 (a + 675) = some (eO 5 [.ref (a + 675 + 1), .ref (a + 675 + 2), .int (iI (((pc0 : Nat) : Int)))]) := (ow_25 _ (by omega)).trans lc
      have s0c : w_25 (a + 523) = some (eO 6 [.ref (a + 523 + 1), .int (iI (t0)), .int (bI (s0.isSome))]) := (ow_25 _ (by omega)).trans s0c
      have s1c : w_25 (a + 598) = some (eO 6 [.ref (a + 598 + 1), .int (iI (t1)), .int (bI (s1.isSome))]) := (ow_25 _ (by omega)).trans s1c
      have xB : tx w_25 (a + 1) 40 B := xB.off ow_25 (by omega)
      have xP : pg w_25 (a + 3) D l nx := xP.off ow_25 (by omega)
      have xS0 : slt w_25 (a + 523) s0 := xS0.off ow_25 (by omega)
      have xS1 : slt w_25 (a + 598) s1 := xS1.off ow_25 (by omega)
      have xF : fd w_25 (a + 673) b0 b1 b2 eh := xF.off ow_25 (by omega)
      have xR : fr w_25 (a + 673) 0 ri := xR.off ow_25 (by omega)
      have xL : plo w_25 (a + 675) pc0 oh0 ch0 := xL.off ow_25 (by omega)
      have xA : chA w_25 (a + 675) := xA.off ow_25 (by omega)
      have hG : pgo w_25 (a + 3) D h pa xs l.length nx := hG.off ow_25 (by omega)
      obtain ⟨gc, gT, gcl, gnx, ⟨ga, gh⟩, ⟨gs1, gs2⟩, gN⟩ := id hG
      have gd := gT.1
      have gdl := gT.2.1
      refine r_aload_n hb 29 dX8_remove_28 rfl 1 rfl ?_
      refine r_get hb ho 32 dX8_remove_29 rfl lk_X8_21 pf_X8_1 xc rfl ?_
      refine r_iload_n hb 33 dX8_remove_32 rfl 0 rfl ?_
      refine r_callV0 (st := []) hb ho 36 dX8_remove_33 rfl ck_X8_106 (c_X4_drop (a + 3) nx (ixN l z) D l xP hf) rfl rfl (gc) rfl rfl (by rw [hR0]; exact ⟨Nat.le_of_ble_eq_true rfl, Nat.le_of_ble_eq_true rfl⟩) (Nat.le_of_ble_eq_true rfl) ⟨rfl, rfl⟩ (by rw [hR0]; exact Nat.zero_le _) (by rw [hR0]; exact Nat.zero_le _) (fun w_33 nw_33 qw_33 => ?_)
      obtain ⟨rfl, xP, ow_33⟩ := qw_33
      have xH : hst w_33 (a + 77) (recH hs (D, l, nx)) := xH.off ow_33 (by omega)
      have xc : w_33 a = some (eO 8 [.ref (a + 1), .ref (a + 3), .ref (a + 77), .ref (a + 523), .ref (a + 598), .ref (a + 673), .ref (a + 675), .int (iI (thr))]) := (ow_33 _ (by omega)).trans xc
      have bc : w_33 (a + 1) = some (eO 7 [.ref (a + 1 + 1), .int (iI (((B.length : Nat) : Int)))]) := (ow_33 _ (by omega)).trans bc
      have fc : w_33 (a + 673) = some (eO 1 [.ref (a + 673 + 1), .int (iI (b0)), .int (iI (b1)), .int (iI (b2)), .int (iI (eh))]) := (ow_33 _ (by omega)).trans fc
      have lc : w_33 (a + 675) = some (eO 5 [.ref (a + 675 + 1), .ref (a + 675 + 2), .int (iI (((pc0 : Nat) : Int)))]) := (ow_33 _ (by omega)).trans lc
      have s0c : w_33 (a + 523) = some (eO 6 [.ref (a + 523 + 1), .int (iI (t0)), .int (bI (s0.isSome))]) := (ow_33 _ (by omega)).trans s0c
      have s1c : w_33 (a + 598) = some (eO 6 [.ref (a + 598 + 1), .int (iI (t1)), .int (bI (s1.isSome))]) := (ow_33 _ (by omega)).trans s1c
      have xB : tx w_33 (a + 1) 40 B := xB.off ow_33 (by omega)
      have xS0 : slt w_33 (a + 523) s0 := xS0.off ow_33 (by omega)
      have xS1 : slt w_33 (a + 598) s1 := xS1.off ow_33 (by omega)
      have xF : fd w_33 (a + 673) b0 b1 b2 eh := xF.off ow_33 (by omega)
      have xR : fr w_33 (a + 673) 0 ri := xR.off ow_33 (by omega)
      have xL : plo w_33 (a + 675) pc0 oh0 ch0 := xL.off ow_33 (by omega)
      have xA : chA w_33 (a + 675) := xA.off ow_33 (by omega)
      obtain ⟨h_2, pa_2, xs_2, hG2, hx2⟩ := id xP
      obtain ⟨kc, kT, kcl, knx, ⟨ka, kh⟩, ⟨ks1, ks2⟩, kN⟩ := id hG2
      have kd := kT.1
      have kdl := kT.2.1
      refine r_aload_n hb 37 dX8_remove_36 rfl 1 rfl ?_
      refine r_get hb ho 40 dX8_remove_37 rfl lk_X8_21 pf_X8_1 xc rfl ?_
      refine r_get hb ho 43 dX8_remove_40 rfl lk_X8_96 pf_X4_2 kc rfl ?_
      refine r_iret hS dX8_remove_43 rfl rfl (Nat.zero_le _) (Nat.zero_le _) ?_
      rw [show (l.eraseIdx (ixN l z)).length = l.length - 1 by rw [List.length_eraseIdx]; simp [hf]]
      have e : oRem B D l nx hs s0 s1 thr z = (iI ((l.length - 1 : Nat) : Int), stP B D l nx hs s0 s1 thr (D, l.eraseIdx (ixN l z), nx)) := by unfold oRem; rw [if_neg (by omega)]
      rw [e]
      exact ⟨_, rfl, rfl, rfl, ⟨xc, xB, xP, xH, xS0, xS1, ⟨_, _, _, _, xF⟩, ⟨_, xR⟩, ⟨_, _, _, xL, xLc⟩, xA⟩, ((ow_25.mono (by omega) (by omega)).trans (ow_33.mono (by omega) (by omega)))⟩
    · exfalso; omega
  · have hle := ixN_le l z
    refine r_topz (-1) (by unfold ixZ; rw [if_neg hf]) ?_
    refine r_istore_n [(2, .int (iI (-1))), (0, .ref a), (1, .int (iI (z)))] hb 9 3 dX8_remove_8 rfl rfl hnL (by decide) rfl ?_
    refine r_iload_n hb 10 dX8_remove_9 rfl 0 rfl ?_
    refine r_if_ge hb 13 17 dX8_remove_10 rfl (by decide) (by omega) (fun c10 => ?_) (fun c10 => ?_)
    · exfalso; omega
    · refine r_sipush (-1001) hb 16 dX8_remove_13 rfl rfl ?_
      refine r_iret hS dX8_remove_16 rfl rfl (Nat.zero_le _) (Nat.zero_le _) ?_
      have e : oRem B D l nx hs s0 s1 thr z = (iI (-1001), (B, (D, l, nx), hs, s0, s1, thr)) := by unfold oRem; rw [if_pos (by omega)]
      rw [e]
      exact ⟨_, rfl, rfl, rfl, hX, off.rfl' _ _ _⟩

abbrev rm_X8_quoteAnew : Room := { frames := 6, cells := 0, slots := 0, locals := 130 }
set_option maxHeartbeats 4000000 in
set_option maxRecDepth 100000 in
theorem c_X8_quoteAnew (a : Nat) (B D : List Int32) (l : List Nt) (nx : Nat) (hs : List Pg) (s0 s1 : Option (Pg × Int)) (thr : Int) (z : Int) {w : PW} {n : Nat} (hX : xoE w a B D l nx hs s0 s1 thr) (hzb : -2147483648 ≤ z ∧ z < 2147483648) : Ct1 yX8_quoteAnew cX8_quoteAnew 3 (some .int) rm_X8_quoteAnew [.ref a, .int (iI (z))] w n (fun v w1 n1 => v = .int (oQuo B D l nx hs s0 s1 thr z).1 ∧ n = n1 ∧ xo w1 a (oQuo B D l nx hs s0 s1 thr z).2 ∧ off w w1 a (a + 729)) := by
  obtain ⟨xc, xB, xP, xH, xS0, xS1, ⟨b0, b1, b2, eh, xF⟩, ⟨ri, xR⟩, ⟨pc0, oh0, ch0, xL, xLc⟩, xA⟩ := id hX
  have bc := xB.1
  have bl := xB.2.1
  obtain ⟨h, pa, xs, hG, hx⟩ := id xP
  obtain ⟨gc, gT, gcl, gnx, ⟨ga, gh⟩, ⟨gs1, gs2⟩, gN⟩ := id hG
  have gd := gT.1
  have gdl := gT.2.1
  obtain ⟨ph, qa, P, hO0, hhx⟩ := id xH
  have hc := hO0.1
  have hcl := hO0.2.2.2.2.2
  have fc := xF
  have lc := xL.1
  obtain ⟨p0, t0, s0c, s0p, s0e⟩ := id xS0
  obtain ⟨p1, t1, s1c, s1p, s1e⟩ := id xS1
  refine Ctr.of rfl (Nat.le_of_ble_eq_true rfl) fun S hS => ?_
  have hb : S.1.1 = cX8_quoteAnew := by rw [hS]; rfl
  have ho : S.1.2.1 = RX8 := by rw [hS]; rfl
  have hnL : S.1.2.2.1 = 3 := by rw [hS]; rfl
  have hR0 : S.2.1 = rm_X8_quoteAnew := by rw [hS]; rfl
  show Wp S 0 [(0, .ref a), (1, .int (iI (z)))] [] w n 0 0
  refine r_aload_n hb 1 dX8_quoteAnew_0 rfl 0 rfl ?_
  refine r_get hb ho 4 dX8_quoteAnew_1 rfl lk_X8_21 pf_X8_1 xc rfl ?_
  refine r_iload_n hb 5 dX8_quoteAnew_4 rfl 1 rfl ?_
  by_cases hf : ixN l z < l.length
  · have hle_z := ixN_le l z
    refine r_callVR (st := []) hb ho 8 dX8_quoteAnew_5 rfl ck_X8_109 (c_X4_find (a + 3) nx D h pa xs l z hG hx hzb hf) rfl rfl (gc) rfl rfl (by rw [hR0]; exact ⟨Nat.le_of_ble_eq_true rfl, Nat.le_of_ble_eq_true rfl⟩) (Nat.le_of_ble_eq_true rfl) ⟨rfl, rfl⟩ (by rw [hR0]; exact Nat.zero_le _) (by rw [hR0]; exact Nat.zero_le _) ?_
    have hN : nt w (pa (ixN l z)) (lg l (ixN l z)) := hx _ hf ▸ gN _ (by omega)
    obtain ⟨n0, nP0, nQ0, nS0, hnum, hnB, hnE⟩ := id hN
    have nq := nQ0.1
    have hsi := gs1 (ixN l z) (by omega)
    refine r_astore_n [(2, .ref (pa (ixN l z))), (0, .ref a), (1, .int (iI (z)))] hb 9 3 dX8_quoteAnew_8 rfl rfl hnL (by decide) rfl ?_
    refine r_aload_n hb 10 dX8_quoteAnew_9 rfl 0 rfl ?_
    refine r_ifnonnull hb 17 dX8_quoteAnew_10 (by decide) ?_
    refine r_aload_n hb 18 dX8_quoteAnew_17 rfl 0 rfl ?_
    refine r_get hb ho 21 dX8_quoteAnew_18 rfl lk_X8_113 pf_X3_4 n0 rfl ?_
    refine r_ifb_eq hb 24 38 dX8_quoteAnew_21 rfl (by decide) (fun c21 => ?_) (fun c21 => ?_)
    · refine r_sipush (-1003) hb 41 dX8_quoteAnew_38 rfl rfl ?_
      refine r_iret hS dX8_quoteAnew_41 rfl rfl (Nat.zero_le _) (Nat.zero_le _) ?_
      have e : oQuo B D l nx hs s0 s1 thr z = (iI (-1003), (B, (D, l, nx), hs, s0, s1, thr)) := by unfold oQuo; rw [if_neg (by omega), if_pos (by first | exact Or.inl c21 | (right; omega))]
      rw [e]
      exact ⟨_, rfl, rfl, rfl, hX, off.rfl' _ _ _⟩
    · refine r_aload_n hb 25 dX8_quoteAnew_24 rfl 0 rfl ?_
      refine r_get hb ho 28 dX8_quoteAnew_25 rfl lk_X8_118 pf_X3_6 n0 rfl ?_
      refine r_aload_n hb 29 dX8_quoteAnew_28 rfl 0 rfl ?_
      refine r_get hb ho 32 dX8_quoteAnew_29 rfl lk_X8_121 pf_X3_5 n0 rfl ?_
      refine r_isubZ hb 33 (((nE (lg l (ixN l z)) : Nat) : Int) - ((nB (lg l (ixN l z)) : Nat) : Int)) dX8_quoteAnew_32 rfl (by omega) ?_
      refine r_bipush 16 hb 35 dX8_quoteAnew_33 rfl rfl ?_
      refine r_icmp_le hb 38 42 dX8_quoteAnew_35 rfl (by decide) (by omega) (by omega) (fun c35 => ?_) (fun c35 => ?_)
      · refine r_aload_n hb 43 dX8_quoteAnew_42 rfl 1 rfl ?_
        refine r_get hb ho 46 dX8_quoteAnew_43 rfl lk_X8_28 pf_X8_2 xc rfl ?_
        refine r_aload_n hb 47 dX8_quoteAnew_46 rfl 1 rfl ?_
        refine r_get hb ho 50 dX8_quoteAnew_47 rfl lk_X8_21 pf_X8_1 xc rfl ?_
        refine r_callV0 (st := []) hb ho 53 dX8_quoteAnew_50 rfl ck_X8_69 (c_X2_record (a + 77) (a + 3) nx D l hs xH xP (by omega)) rfl rfl (hc) rfl rfl (by rw [hR0]; exact ⟨Nat.le_of_ble_eq_true rfl, Nat.le_of_ble_eq_true rfl⟩) (Nat.le_of_ble_eq_true rfl) ⟨rfl, rfl⟩ (by rw [hR0]; exact Nat.zero_le _) (by rw [hR0]; exact Nat.zero_le _) (fun w_50 nw_50 qw_50 => ?_)
        obtain ⟨rfl, xH, ow_50⟩ := qw_50
        have n0 : w_50 (pa (ixN l z)) = some (eO 3 [.ref (pa (ixN l z) + 1), .ref (pa (ixN l z) + 3), .ref (pa (ixN l z) + 5), .int (iI (((nNum (lg l (ixN l z)) : Nat) : Int))), .int (bI (nK (lg l (ixN l z)))), .int (iI (((nB (lg l (ixN l z)) : Nat) : Int))), .int (iI (((nE (lg l (ixN l z)) : Nat) : Int))), .int (nW (lg l (ixN l z)))]) := (ow_50 _ (by omega)).trans n0
        have hN : nt w_50 (pa (ixN l z)) (lg l (ixN l z)) := hN.off ow_50 (by omega)
        have nQ0 : tx w_50 (pa (ixN l z) + 3) 16 (nQ (lg l (ixN l z))) := nQ0.off ow_50 (by omega)
        have nP0 : tx w_50 (pa (ixN l z) + 1) 6 (nP (lg l (ixN l z))) := nP0.off ow_50 (by omega)
        have nS0 : tx w_50 (pa (ixN l z) + 5) 6 (nS (lg l (ixN l z))) := nS0.off ow_50 (by omega)
        have nq : w_50 (pa (ixN l z) + 3) = some (eO 7 [.ref (pa (ixN l z) + 3 + 1), .int (iI ((((nQ (lg l (ixN l z))).length : Nat) : Int)))]) := (ow_50 _ (by omega)).trans nq
        have xc : w_50 a = some (eO 8 [.ref (a + 1), .ref (a + 3), .ref (a + 77), .ref (a + 523), .ref (a + 598), .ref (a + 673), .ref (a + 675), .int (iI (thr))]) := (ow_50 _ (by omega)).trans xc
        have bc : w_50 (a + 1) = some (eO 7 [.ref (a + 1 + 1), .int (iI (((B.length : Nat) : Int)))]) := (ow_50 _ (by omega)).trans bc
        have gc : w_50 (a + 3) = some (eO 4 [.ref (a + 3 + 1), .ref (a + 3 + 3), .int (iI (((l.length : Nat) : Int))), .int (iI (((nx : Nat) : Int)))]) := (ow_50 _ (by omega)).trans gc
        have ga : w_50 (a + 3 + 3) = some (eQ 3 10 h) := (ow_50 _ (by omega)).trans ga
        have gT : tx w_50 (a + 3 + 1) 120 D := gT.off ow_50 (by omega)
        have gd : w_50 (a + 3 + 1) = some (eO 7 [.ref (a + 3 + 1 + 1), .int (iI (((D.length : Nat) : Int)))]) := (ow_50 _ (by omega)).trans gd
        have fc : w_50 (a + 673) = some (eO 1 [.ref (a + 673 + 1), .int (iI (b0)), .int (iI (b1)), .int (iI (b2)), .int (iI (eh))]) := (ow_50 _ (by omega)).trans fc
        have lc : w_50 (a + 675) = some (eO 5 [.ref (a + 675 + 1), .ref (a + 675 + 2), .int (iI (((pc0 : Nat) : Int)))]) := (ow_50 _ (by omega)).trans lc
        have s0c : w_50 (a + 523) = some (eO 6 [.ref (a + 523 + 1), .int (iI (t0)), .int (bI (s0.isSome))]) := (ow_50 _ (by omega)).trans s0c
        have s1c : w_50 (a + 598) = some (eO 6 [.ref (a + 598 + 1), .int (iI (t1)), .int (bI (s1.isSome))]) := (ow_50 _ (by omega)).trans s1c
        have xB : tx w_50 (a + 1) 40 B := xB.off ow_50 (by omega)
        have xP : pg w_50 (a + 3) D l nx := xP.off ow_50 (by omega)
        have xS0 : slt w_50 (a + 523) s0 := xS0.off ow_50 (by omega)
        have xS1 : slt w_50 (a + 598) s1 := xS1.off ow_50 (by omega)
        have xF : fd w_50 (a + 673) b0 b1 b2 eh := xF.off ow_50 (by omega)
        have xR : fr w_50 (a + 673) 0 ri := xR.off ow_50 (by omega)
        have xL : plo w_50 (a + 675) pc0 oh0 ch0 := xL.off ow_50 (by omega)
        have xA : chA w_50 (a + 675) := xA.off ow_50 (by omega)
        have hG : pgo w_50 (a + 3) D h pa xs l.length nx := hG.off ow_50 (by omega)
        obtain ⟨gc, gT, gcl, gnx, ⟨ga, gh⟩, ⟨gs1, gs2⟩, gN⟩ := id hG
        have gd := gT.1
        have gdl := gT.2.1
        refine r_aload_n hb 54 dX8_quoteAnew_53 rfl 0 rfl ?_
        refine r_aload_n hb 55 dX8_quoteAnew_54 rfl 1 rfl ?_
        refine r_get hb ho 58 dX8_quoteAnew_55 rfl lk_X8_21 pf_X8_1 xc rfl ?_
        refine r_get hb ho 61 dX8_quoteAnew_58 rfl lk_X8_73 pf_X4_0 gc rfl ?_
        refine r_callV0 (st := []) hb ho 64 dX8_quoteAnew_61 rfl ck_X8_124 (c_X3_quoteFrom (pa (ixN l z)) (a + 3 + 1) (lg l (ixN l z)) D hN gT (by omega) (by omega)) rfl rfl (n0) rfl rfl (by rw [hR0]; exact ⟨Nat.le_of_ble_eq_true rfl, Nat.le_of_ble_eq_true rfl⟩) (Nat.le_of_ble_eq_true rfl) ⟨rfl, rfl⟩ (by rw [hR0]; exact Nat.zero_le _) (by rw [hR0]; exact Nat.zero_le _) (fun w_61 nw_61 qw_61 => ?_)
        obtain ⟨rfl, hnew, ow_61⟩ := qw_61
        have xH : hst w_61 (a + 77) (recH hs (D, l, nx)) := xH.off ow_61 (by omega)
        have xc : w_61 a = some (eO 8 [.ref (a + 1), .ref (a + 3), .ref (a + 77), .ref (a + 523), .ref (a + 598), .ref (a + 673), .ref (a + 675), .int (iI (thr))]) := (ow_61 _ (by omega)).trans xc
        have bc : w_61 (a + 1) = some (eO 7 [.ref (a + 1 + 1), .int (iI (((B.length : Nat) : Int)))]) := (ow_61 _ (by omega)).trans bc
        have fc : w_61 (a + 673) = some (eO 1 [.ref (a + 673 + 1), .int (iI (b0)), .int (iI (b1)), .int (iI (b2)), .int (iI (eh))]) := (ow_61 _ (by omega)).trans fc
        have lc : w_61 (a + 675) = some (eO 5 [.ref (a + 675 + 1), .ref (a + 675 + 2), .int (iI (((pc0 : Nat) : Int)))]) := (ow_61 _ (by omega)).trans lc
        have s0c : w_61 (a + 523) = some (eO 6 [.ref (a + 523 + 1), .int (iI (t0)), .int (bI (s0.isSome))]) := (ow_61 _ (by omega)).trans s0c
        have s1c : w_61 (a + 598) = some (eO 6 [.ref (a + 598 + 1), .int (iI (t1)), .int (bI (s1.isSome))]) := (ow_61 _ (by omega)).trans s1c
        have xB : tx w_61 (a + 1) 40 B := xB.off ow_61 (by omega)
        have xS0 : slt w_61 (a + 523) s0 := xS0.off ow_61 (by omega)
        have xS1 : slt w_61 (a + 598) s1 := xS1.off ow_61 (by omega)
        have xF : fd w_61 (a + 673) b0 b1 b2 eh := xF.off ow_61 (by omega)
        have xR : fr w_61 (a + 673) 0 ri := xR.off ow_61 (by omega)
        have xL : plo w_61 (a + 675) pc0 oh0 ch0 := xL.off ow_61 (by omega)
        have xA : chA w_61 (a + 675) := xA.off ow_61 (by omega)
        have hG := pgo_note hG (by omega) hnew ow_61
        have xP : pg w_61 (a + 3) D (l.set (ixN l z) (qtN D (lg l (ixN l z)))) nx := by
          refine ⟨h, pa, _, by rw [List.length_set]; exact hG, fun j hj => ?_⟩
          rw [List.length_set] at hj
          by_cases e : j = ixN l z
          · subst e; rw [updX_s]; simp [lg, List.getD_eq_getElem?_getD, hj]
          · rw [updX_n _ _ e, hx j hj]; simp [lg, List.getD_eq_getElem?_getD, List.getElem?_set, Ne.symm e]
        have n0 := hnew.1
        have nq := hnew.2.2.1.1
        refine r_aload_n hb 65 dX8_quoteAnew_64 rfl 0 rfl ?_
        refine r_get hb ho 68 dX8_quoteAnew_65 rfl lk_X8_127 pf_X3_1 n0 rfl ?_
        refine r_get hb ho 71 dX8_quoteAnew_68 rfl lk_X8_60 pf_X7_1 nq rfl ?_
        refine r_iret hS dX8_quoteAnew_71 rfl rfl (Nat.zero_le _) (Nat.zero_le _) ?_
        have e : oQuo B D l nx hs s0 s1 thr z = (iI (((nQ (qtN D (lg l (ixN l z)))).length : Nat) : Int), stP B D l nx hs s0 s1 thr (D, l.set (ixN l z) (qtN D (lg l (ixN l z))), nx)) := by unfold oQuo; rw [if_neg (by omega), if_neg (fun hh => hh.elim (fun h1 => by rw [c21] at h1; cases h1) (fun h1 => by omega))]
        rw [e]
        exact ⟨_, rfl, rfl, rfl, ⟨xc, xB, xP, xH, xS0, xS1, ⟨_, _, _, _, xF⟩, ⟨_, xR⟩, ⟨_, _, _, xL, xLc⟩, xA⟩, ((ow_50.mono (by omega) (by omega)).trans (ow_61.mono (by omega) (by omega)))⟩
      · refine r_sipush (-1003) hb 41 dX8_quoteAnew_38 rfl rfl ?_
        refine r_iret hS dX8_quoteAnew_41 rfl rfl (Nat.zero_le _) (Nat.zero_le _) ?_
        have e : oQuo B D l nx hs s0 s1 thr z = (iI (-1003), (B, (D, l, nx), hs, s0, s1, thr)) := by unfold oQuo; rw [if_neg (by omega), if_pos (by first | exact Or.inl c21 | (right; omega))]
        rw [e]
        exact ⟨_, rfl, rfl, rfl, hX, off.rfl' _ _ _⟩
  · have hle_z := ixN_le l z
    refine r_callVR (st := []) hb ho 8 dX8_quoteAnew_5 rfl ck_X8_109 (c_X4_findN (a + 3) nx D h pa xs l z hG hx hzb hf) rfl rfl (gc) rfl rfl (by rw [hR0]; exact ⟨Nat.le_of_ble_eq_true rfl, Nat.le_of_ble_eq_true rfl⟩) (Nat.le_of_ble_eq_true rfl) ⟨rfl, rfl⟩ (by rw [hR0]; exact Nat.zero_le _) (by rw [hR0]; exact Nat.zero_le _) ?_
    skip
    refine r_astore_nN [(2, .null), (0, .ref a), (1, .int (iI (z)))] hb 9 3 dX8_quoteAnew_8 rfl rfl hnL (by decide) rfl ?_
    refine r_aload_nN hb 10 dX8_quoteAnew_9 rfl 0 rfl ?_
    refine r_ifnonnullN hb 13 dX8_quoteAnew_10 rfl ?_
    refine r_sipush (-1001) hb 16 dX8_quoteAnew_13 rfl rfl ?_
    refine r_iret hS dX8_quoteAnew_16 rfl rfl (Nat.zero_le _) (Nat.zero_le _) ?_
    have e : oQuo B D l nx hs s0 s1 thr z = (iI (-1001), (B, (D, l, nx), hs, s0, s1, thr)) := by unfold oQuo; rw [if_pos (by omega)]
    rw [e]
    exact ⟨_, rfl, rfl, rfl, hX, off.rfl' _ _ _⟩

abbrev rm_X8_attach : Room := { frames := 6, cells := 0, slots := 0, locals := 130 }
set_option maxHeartbeats 4000000 in
set_option maxRecDepth 100000 in
theorem c_X8_attach (a : Nat) (B D : List Int32) (l : List Nt) (nx : Nat) (hs : List Pg) (s0 s1 : Option (Pg × Int)) (thr : Int) (z : Int) {w : PW} {n : Nat} (hX : xoE w a B D l nx hs s0 s1 thr) (hzb : -2147483648 ≤ z ∧ z < 2147483648) (hok : pOk (D, l, nx)) (ht : 0 ≤ thr ∧ thr ≤ 108) : Ct1 yX8_attach cX8_attach 3 (some .int) rm_X8_attach [.ref a, .int (iI (z))] w n (fun v w1 n1 => v = .int (oAtt B D l nx hs s0 s1 thr z).1 ∧ n = n1 ∧ xo w1 a (oAtt B D l nx hs s0 s1 thr z).2 ∧ off w w1 a (a + 729)) := by
  obtain ⟨xc, xB, xP, xH, xS0, xS1, ⟨b0, b1, b2, eh, xF⟩, ⟨ri, xR⟩, ⟨pc0, oh0, ch0, xL, xLc⟩, xA⟩ := id hX
  have bc := xB.1
  have bl := xB.2.1
  obtain ⟨h, pa, xs, hG, hx⟩ := id xP
  obtain ⟨gc, gT, gcl, gnx, ⟨ga, gh⟩, ⟨gs1, gs2⟩, gN⟩ := id hG
  have gd := gT.1
  have gdl := gT.2.1
  obtain ⟨ph, qa, P, hO0, hhx⟩ := id xH
  have hc := hO0.1
  have hcl := hO0.2.2.2.2.2
  have fc := xF
  have lc := xL.1
  obtain ⟨p0, t0, s0c, s0p, s0e⟩ := id xS0
  obtain ⟨p1, t1, s1c, s1p, s1e⟩ := id xS1
  refine Ctr.of rfl (Nat.le_of_ble_eq_true rfl) fun S hS => ?_
  have hb : S.1.1 = cX8_attach := by rw [hS]; rfl
  have ho : S.1.2.1 = RX8 := by rw [hS]; rfl
  have hnL : S.1.2.2.1 = 3 := by rw [hS]; rfl
  have hR0 : S.2.1 = rm_X8_attach := by rw [hS]; rfl
  show Wp S 0 [(0, .ref a), (1, .int (iI (z)))] [] w n 0 0
  refine r_aload_n hb 1 dX8_attach_0 rfl 0 rfl ?_
  refine r_get hb ho 4 dX8_attach_1 rfl lk_X8_21 pf_X8_1 xc rfl ?_
  refine r_iload_n hb 5 dX8_attach_4 rfl 1 rfl ?_
  by_cases hf : ixN l z < l.length
  · have hle_z := ixN_le l z
    refine r_callVR (st := []) hb ho 8 dX8_attach_5 rfl ck_X8_109 (c_X4_find (a + 3) nx D h pa xs l z hG hx hzb hf) rfl rfl (gc) rfl rfl (by rw [hR0]; exact ⟨Nat.le_of_ble_eq_true rfl, Nat.le_of_ble_eq_true rfl⟩) (Nat.le_of_ble_eq_true rfl) ⟨rfl, rfl⟩ (by rw [hR0]; exact Nat.zero_le _) (by rw [hR0]; exact Nat.zero_le _) ?_
    have hN : nt w (pa (ixN l z)) (lg l (ixN l z)) := hx _ hf ▸ gN _ (by omega)
    obtain ⟨n0, nP0, nQ0, nS0, hnum, hnB, hnE⟩ := id hN
    have nq := nQ0.1
    have hsi := gs1 (ixN l z) (by omega)
    refine r_astore_n [(2, .ref (pa (ixN l z))), (0, .ref a), (1, .int (iI (z)))] hb 9 3 dX8_attach_8 rfl rfl hnL (by decide) rfl ?_
    refine r_aload_n hb 10 dX8_attach_9 rfl 0 rfl ?_
    refine r_ifnonnull hb 17 dX8_attach_10 (by decide) ?_
    refine r_aload_n hb 18 dX8_attach_17 rfl 0 rfl ?_
    refine r_get hb ho 21 dX8_attach_18 rfl lk_X8_113 pf_X3_4 n0 rfl ?_
    refine r_iconst hb 22 dX8_attach_21 rfl ?_
    refine r_icmpB_ne hb 25 29 dX8_attach_22 rfl (by decide) (fun c22 => ?_) (fun c22 => ?_)
    · refine r_aload_n hb 30 dX8_attach_29 rfl 1 rfl ?_
      refine r_get hb ho 33 dX8_attach_30 rfl lk_X8_45 pf_X8_5 xc rfl ?_
      refine r_aload_n hb 34 dX8_attach_33 rfl 0 rfl ?_
      refine r_aload_n hb 35 dX8_attach_34 rfl 1 rfl ?_
      refine r_get hb ho 38 dX8_attach_35 rfl lk_X8_21 pf_X8_1 xc rfl ?_
      refine r_get hb ho 41 dX8_attach_38 rfl lk_X8_73 pf_X4_0 gc rfl ?_
      refine r_callV0 (st := []) hb ho 44 dX8_attach_41 rfl ck_X8_130 (c_X1_search (pa (ixN l z)) (a + 3 + 1) (lg l (ixN l z)) D (a + 673) 0 ri b0 b1 b2 eh xF xR hN gT (by omega) (by omega) (hok.2.2.2.1 _ hf).1) rfl rfl (fc) rfl rfl (by rw [hR0]; exact ⟨Nat.le_of_ble_eq_true rfl, Nat.le_of_ble_eq_true rfl⟩) (Nat.le_of_ble_eq_true rfl) ⟨rfl, rfl⟩ (by rw [hR0]; exact Nat.zero_le _) (by rw [hR0]; exact Nat.zero_le _) (fun w_41 nw_41 qw_41 => ?_)
      obtain ⟨rfl, ⟨e2, xF⟩, ⟨r2, xR⟩, ow_41⟩ := qw_41
      have fc := xF
      have n0 : w_41 (pa (ixN l z)) = some (eO 3 [.ref (pa (ixN l z) + 1), .ref (pa (ixN l z) + 3), .ref (pa (ixN l z) + 5), .int (iI (((nNum (lg l (ixN l z)) : Nat) : Int))), .int (bI (nK (lg l (ixN l z)))), .int (iI (((nB (lg l (ixN l z)) : Nat) : Int))), .int (iI (((nE (lg l (ixN l z)) : Nat) : Int))), .int (nW (lg l (ixN l z)))]) := (ow_41 _ (by omega)).trans n0
      have hN : nt w_41 (pa (ixN l z)) (lg l (ixN l z)) := hN.off ow_41 (by omega)
      have nQ0 : tx w_41 (pa (ixN l z) + 3) 16 (nQ (lg l (ixN l z))) := nQ0.off ow_41 (by omega)
      have nP0 : tx w_41 (pa (ixN l z) + 1) 6 (nP (lg l (ixN l z))) := nP0.off ow_41 (by omega)
      have nS0 : tx w_41 (pa (ixN l z) + 5) 6 (nS (lg l (ixN l z))) := nS0.off ow_41 (by omega)
      have nq : w_41 (pa (ixN l z) + 3) = some (eO 7 [.ref (pa (ixN l z) + 3 + 1), .int (iI ((((nQ (lg l (ixN l z))).length : Nat) : Int)))]) := (ow_41 _ (by omega)).trans nq
      have xc : w_41 a = some (eO 8 [.ref (a + 1), .ref (a + 3), .ref (a + 77), .ref (a + 523), .ref (a + 598), .ref (a + 673), .ref (a + 675), .int (iI (thr))]) := (ow_41 _ (by omega)).trans xc
      have bc : w_41 (a + 1) = some (eO 7 [.ref (a + 1 + 1), .int (iI (((B.length : Nat) : Int)))]) := (ow_41 _ (by omega)).trans bc
      have gc : w_41 (a + 3) = some (eO 4 [.ref (a + 3 + 1), .ref (a + 3 + 3), .int (iI (((l.length : Nat) : Int))), .int (iI (((nx : Nat) : Int)))]) := (ow_41 _ (by omega)).trans gc
      have ga : w_41 (a + 3 + 3) = some (eQ 3 10 h) := (ow_41 _ (by omega)).trans ga
      have gT : tx w_41 (a + 3 + 1) 120 D := gT.off ow_41 (by omega)
      have gd : w_41 (a + 3 + 1) = some (eO 7 [.ref (a + 3 + 1 + 1), .int (iI (((D.length : Nat) : Int)))]) := (ow_41 _ (by omega)).trans gd
      have hc : w_41 (a + 77) = some (eO 2 [.ref (a + 77 + 1), .int (iI (((hs.length : Nat) : Int)))]) := (ow_41 _ (by omega)).trans hc
      have lc : w_41 (a + 675) = some (eO 5 [.ref (a + 675 + 1), .ref (a + 675 + 2), .int (iI (((pc0 : Nat) : Int)))]) := (ow_41 _ (by omega)).trans lc
      have s0c : w_41 (a + 523) = some (eO 6 [.ref (a + 523 + 1), .int (iI (t0)), .int (bI (s0.isSome))]) := (ow_41 _ (by omega)).trans s0c
      have s1c : w_41 (a + 598) = some (eO 6 [.ref (a + 598 + 1), .int (iI (t1)), .int (bI (s1.isSome))]) := (ow_41 _ (by omega)).trans s1c
      have xB : tx w_41 (a + 1) 40 B := xB.off ow_41 (by omega)
      have xP : pg w_41 (a + 3) D l nx := xP.off ow_41 (by omega)
      have xH : hst w_41 (a + 77) hs := xH.off ow_41 (by omega)
      have xS0 : slt w_41 (a + 523) s0 := xS0.off ow_41 (by omega)
      have xS1 : slt w_41 (a + 598) s1 := xS1.off ow_41 (by omega)
      have xL : plo w_41 (a + 675) pc0 oh0 ch0 := xL.off ow_41 (by omega)
      have xA : chA w_41 (a + 675) := xA.off ow_41 (by omega)
      have hG : pgo w_41 (a + 3) D h pa xs l.length nx := hG.off ow_41 (by omega)
      obtain ⟨gc, gT, gcl, gnx, ⟨ga, gh⟩, ⟨gs1, gs2⟩, gN⟩ := id hG
      have gd := gT.1
      have gdl := gT.2.1
      refine r_aload_n hb 45 dX8_attach_44 rfl 1 rfl ?_
      refine r_get hb ho 48 dX8_attach_45 rfl lk_X8_45 pf_X8_5 xc rfl ?_
      refine r_get hb ho 51 dX8_attach_48 rfl lk_X8_134 pf_X1_1 fc rfl ?_
      refine r_aload_n hb 52 dX8_attach_51 rfl 1 rfl ?_
      refine r_get hb ho 55 dX8_attach_52 rfl lk_X8_56 pf_X8_7 xc rfl ?_
      have hgb : -1005 ≤ gB0 (fB (lg l (ixN l z)) D) ∧ gB0 (fB (lg l (ixN l z)) D) ≤ 108 := gB0_bd (hok.2.2.2.1 _ hf).1 D (s := D.length) (by omega)
      refine r_icmp_ge hb 58 62 dX8_attach_55 rfl (by decide) (by omega) (by omega) (fun c55 => ?_) (fun c55 => ?_)
      · obtain ⟨r, hr⟩ : ∃ r, fB (lg l (ixN l z)) D = some r := by
          cases hq : fB (lg l (ixN l z)) D with
          | none => rw [hq] at c55; simp only [gB0] at c55; omega
          | some r => exact ⟨r, rfl⟩
        have hrb := fBt_bd (hok.2.2.2.1 _ hf).1 D D.length (by omega) r hr
        have e1 : gB1 (fB (lg l (ixN l z)) D) = ((r.2.1 : Nat) : Int) := by rw [hr]; rfl
        have e2' : gB2 (fB (lg l (ixN l z)) D) = ((r.2.1 + r.2.2 : Nat) : Int) := by rw [hr]; rfl
        refine r_aload_n hb 63 dX8_attach_62 rfl 1 rfl ?_
        refine r_get hb ho 66 dX8_attach_63 rfl lk_X8_28 pf_X8_2 xc rfl ?_
        refine r_aload_n hb 67 dX8_attach_66 rfl 1 rfl ?_
        refine r_get hb ho 70 dX8_attach_67 rfl lk_X8_21 pf_X8_1 xc rfl ?_
        refine r_callV0 (st := []) hb ho 73 dX8_attach_70 rfl ck_X8_69 (c_X2_record (a + 77) (a + 3) nx D l hs xH xP (by omega)) rfl rfl (hc) rfl rfl (by rw [hR0]; exact ⟨Nat.le_of_ble_eq_true rfl, Nat.le_of_ble_eq_true rfl⟩) (Nat.le_of_ble_eq_true rfl) ⟨rfl, rfl⟩ (by rw [hR0]; exact Nat.zero_le _) (by rw [hR0]; exact Nat.zero_le _) (fun w_70 nw_70 qw_70 => ?_)
        obtain ⟨rfl, xH, ow_70⟩ := qw_70
        have fc : w_70 (a + 673) = some (eO 1 [.ref (a + 673 + 1), .int (iI ((gB0 (fB (lg l (ixN l z)) D)))), .int (iI ((gB1 (fB (lg l (ixN l z)) D)))), .int (iI ((gB2 (fB (lg l (ixN l z)) D)))), .int (iI (e2))]) := (ow_70 _ (by omega)).trans fc
        have xF : fd w_70 (a + 673) (gB0 (fB (lg l (ixN l z)) D)) (gB1 (fB (lg l (ixN l z)) D)) (gB2 (fB (lg l (ixN l z)) D)) e2 := xF.off ow_70 (by omega)
        have xR : fr w_70 (a + 673) 0 r2 := xR.off ow_70 (by omega)
        have n0 : w_70 (pa (ixN l z)) = some (eO 3 [.ref (pa (ixN l z) + 1), .ref (pa (ixN l z) + 3), .ref (pa (ixN l z) + 5), .int (iI (((nNum (lg l (ixN l z)) : Nat) : Int))), .int (bI (nK (lg l (ixN l z)))), .int (iI (((nB (lg l (ixN l z)) : Nat) : Int))), .int (iI (((nE (lg l (ixN l z)) : Nat) : Int))), .int (nW (lg l (ixN l z)))]) := (ow_70 _ (by omega)).trans n0
        have hN : nt w_70 (pa (ixN l z)) (lg l (ixN l z)) := hN.off ow_70 (by omega)
        have nQ0 : tx w_70 (pa (ixN l z) + 3) 16 (nQ (lg l (ixN l z))) := nQ0.off ow_70 (by omega)
        have nP0 : tx w_70 (pa (ixN l z) + 1) 6 (nP (lg l (ixN l z))) := nP0.off ow_70 (by omega)
        have nS0 : tx w_70 (pa (ixN l z) + 5) 6 (nS (lg l (ixN l z))) := nS0.off ow_70 (by omega)
        have nq : w_70 (pa (ixN l z) + 3) = some (eO 7 [.ref (pa (ixN l z) + 3 + 1), .int (iI ((((nQ (lg l (ixN l z))).length : Nat) : Int)))]) := (ow_70 _ (by omega)).trans nq
        have xc : w_70 a = some (eO 8 [.ref (a + 1), .ref (a + 3), .ref (a + 77), .ref (a + 523), .ref (a + 598), .ref (a + 673), .ref (a + 675), .int (iI (thr))]) := (ow_70 _ (by omega)).trans xc
        have bc : w_70 (a + 1) = some (eO 7 [.ref (a + 1 + 1), .int (iI (((B.length : Nat) : Int)))]) := (ow_70 _ (by omega)).trans bc
        have gc : w_70 (a + 3) = some (eO 4 [.ref (a + 3 + 1), .ref (a + 3 + 3), .int (iI (((l.length : Nat) : Int))), .int (iI (((nx : Nat) : Int)))]) := (ow_70 _ (by omega)).trans gc
        have ga : w_70 (a + 3 + 3) = some (eQ 3 10 h) := (ow_70 _ (by omega)).trans ga
        have gT : tx w_70 (a + 3 + 1) 120 D := gT.off ow_70 (by omega)
        have gd : w_70 (a + 3 + 1) = some (eO 7 [.ref (a + 3 + 1 + 1), .int (iI (((D.length : Nat) : Int)))]) := (ow_70 _ (by omega)).trans gd
        have lc : w_70 (a + 675) = some (eO 5 [.ref (a + 675 + 1), .ref (a + 675 + 2), .int (iI (((pc0 : Nat) : Int)))]) := (ow_70 _ (by omega)).trans lc
        have s0c : w_70 (a + 523) = some (eO 6 [.ref (a + 523 + 1), .int (iI (t0)), .int (bI (s0.isSome))]) := (ow_70 _ (by omega)).trans s0c
        have s1c : w_70 (a + 598) = some (eO 6 [.ref (a + 598 + 1), .int (iI (t1)), .int (bI (s1.isSome))]) := (ow_70 _ (by omega)).trans s1c
        have xB : tx w_70 (a + 1) 40 B := xB.off ow_70 (by omega)
        have xP : pg w_70 (a + 3) D l nx := xP.off ow_70 (by omega)
        have xS0 : slt w_70 (a + 523) s0 := xS0.off ow_70 (by omega)
        have xS1 : slt w_70 (a + 598) s1 := xS1.off ow_70 (by omega)
        have xL : plo w_70 (a + 675) pc0 oh0 ch0 := xL.off ow_70 (by omega)
        have xA : chA w_70 (a + 675) := xA.off ow_70 (by omega)
        have hG : pgo w_70 (a + 3) D h pa xs l.length nx := hG.off ow_70 (by omega)
        obtain ⟨gc, gT, gcl, gnx, ⟨ga, gh⟩, ⟨gs1, gs2⟩, gN⟩ := id hG
        have gd := gT.1
        have gdl := gT.2.1
        refine r_aload_n hb 74 dX8_attach_73 rfl 0 rfl ?_
        refine r_aload_n hb 75 dX8_attach_74 rfl 1 rfl ?_
        refine r_get hb ho 78 dX8_attach_75 rfl lk_X8_45 pf_X8_5 xc rfl ?_
        refine r_get hb ho 81 dX8_attach_78 rfl lk_X8_137 pf_X1_2 fc rfl ?_
        refine r_topv (.int (iI (((r.2.1 : Nat) : Int)))) (by rw [e1]) ?_
        refine r_aload_n hb 82 dX8_attach_81 rfl 1 rfl ?_
        refine r_get hb ho 85 dX8_attach_82 rfl lk_X8_45 pf_X8_5 xc rfl ?_
        refine r_get hb ho 88 dX8_attach_85 rfl lk_X8_140 pf_X1_3 fc rfl ?_
        refine r_topv (.int (iI ((((r.2.1 + r.2.2 : Nat) : Nat) : Int)))) (by rw [e2']) ?_
        refine r_callV0 (st := []) hb ho 91 dX8_attach_88 rfl ck_X8_143 (c_X3_attachTo (pa (ixN l z)) (lg l (ixN l z)) r.2.1 (r.2.1 + r.2.2) hN (by omega) (by omega)) rfl rfl (n0) rfl rfl (by rw [hR0]; exact ⟨Nat.le_of_ble_eq_true rfl, Nat.le_of_ble_eq_true rfl⟩) (Nat.le_of_ble_eq_true rfl) ⟨rfl, rfl⟩ (by rw [hR0]; exact Nat.zero_le _) (by rw [hR0]; exact Nat.zero_le _) (fun w_88 nw_88 qw_88 => ?_)
        obtain ⟨rfl, hnew, ow_88⟩ := qw_88
        have xH : hst w_88 (a + 77) (recH hs (D, l, nx)) := xH.off ow_88 (by omega)
        have fc : w_88 (a + 673) = some (eO 1 [.ref (a + 673 + 1), .int (iI ((gB0 (fB (lg l (ixN l z)) D)))), .int (iI ((gB1 (fB (lg l (ixN l z)) D)))), .int (iI ((gB2 (fB (lg l (ixN l z)) D)))), .int (iI (e2))]) := (ow_88 _ (by omega)).trans fc
        have xF : fd w_88 (a + 673) (gB0 (fB (lg l (ixN l z)) D)) (gB1 (fB (lg l (ixN l z)) D)) (gB2 (fB (lg l (ixN l z)) D)) e2 := xF.off ow_88 (by omega)
        have xR : fr w_88 (a + 673) 0 r2 := xR.off ow_88 (by omega)
        have xc : w_88 a = some (eO 8 [.ref (a + 1), .ref (a + 3), .ref (a + 77), .ref (a + 523), .ref (a + 598), .ref (a + 673), .ref (a + 675), .int (iI (thr))]) := (ow_88 _ (by omega)).trans xc
        have bc : w_88 (a + 1) = some (eO 7 [.ref (a + 1 + 1), .int (iI (((B.length : Nat) : Int)))]) := (ow_88 _ (by omega)).trans bc
        have lc : w_88 (a + 675) = some (eO 5 [.ref (a + 675 + 1), .ref (a + 675 + 2), .int (iI (((pc0 : Nat) : Int)))]) := (ow_88 _ (by omega)).trans lc
        have s0c : w_88 (a + 523) = some (eO 6 [.ref (a + 523 + 1), .int (iI (t0)), .int (bI (s0.isSome))]) := (ow_88 _ (by omega)).trans s0c
        have s1c : w_88 (a + 598) = some (eO 6 [.ref (a + 598 + 1), .int (iI (t1)), .int (bI (s1.isSome))]) := (ow_88 _ (by omega)).trans s1c
        have xB : tx w_88 (a + 1) 40 B := xB.off ow_88 (by omega)
        have xS0 : slt w_88 (a + 523) s0 := xS0.off ow_88 (by omega)
        have xS1 : slt w_88 (a + 598) s1 := xS1.off ow_88 (by omega)
        have xL : plo w_88 (a + 675) pc0 oh0 ch0 := xL.off ow_88 (by omega)
        have xA : chA w_88 (a + 675) := xA.off ow_88 (by omega)
        have hG := pgo_note hG (by omega) hnew ow_88
        have xP : pg w_88 (a + 3) D (l.set (ixN l z) (atN r.2.1 (r.2.1 + r.2.2) (lg l (ixN l z)))) nx := by
          refine ⟨h, pa, _, by rw [List.length_set]; exact hG, fun j hj => ?_⟩
          rw [List.length_set] at hj
          by_cases e : j = ixN l z
          · subst e; rw [updX_s]; simp [lg, List.getD_eq_getElem?_getD, hj]
          · rw [updX_n _ _ e, hx j hj]; simp [lg, List.getD_eq_getElem?_getD, List.getElem?_set, Ne.symm e]
        have n0 := hnew.1
        have nq := hnew.2.2.1.1
        refine r_aload_n hb 92 dX8_attach_91 rfl 0 rfl ?_
        refine r_get hb ho 95 dX8_attach_92 rfl lk_X8_121 pf_X3_5 n0 rfl ?_
        refine r_iret hS dX8_attach_95 rfl rfl (Nat.zero_le _) (Nat.zero_le _) ?_
        have e : oAtt B D l nx hs s0 s1 thr z = (iI ((r.2.1 : Nat) : Int), stP B D l nx hs s0 s1 thr (D, l.set (ixN l z) (atN r.2.1 (r.2.1 + r.2.2) (lg l (ixN l z))), nx)) := by unfold oAtt; rw [if_neg (by omega), if_neg (by rw [c22]; decide), if_neg (by omega), e1, e2']; rfl
        rw [e]
        exact ⟨_, rfl, rfl, rfl, ⟨xc, xB, xP, xH, xS0, xS1, ⟨_, _, _, _, xF⟩, ⟨_, xR⟩, ⟨_, _, _, xL, xLc⟩, xA⟩, (((ow_41.mono (by omega) (by omega)).trans (ow_70.mono (by omega) (by omega))).trans (ow_88.mono (by omega) (by omega)))⟩
      · refine r_sipush (-1005) hb 61 dX8_attach_58 rfl rfl ?_
        refine r_iret hS dX8_attach_61 rfl rfl (Nat.zero_le _) (Nat.zero_le _) ?_
        have e : oAtt B D l nx hs s0 s1 thr z = (iI (-1005), (B, (D, l, nx), hs, s0, s1, thr)) := by unfold oAtt; rw [if_neg (by omega), if_neg (by rw [c22]; decide), if_pos (by omega)]
        rw [e]
        exact ⟨_, rfl, rfl, rfl, ⟨xc, xB, xP, xH, xS0, xS1, ⟨_, _, _, _, xF⟩, ⟨_, xR⟩, ⟨_, _, _, xL, xLc⟩, xA⟩, (ow_41.mono (by omega) (by omega))⟩
    · refine r_sipush (-1003) hb 28 dX8_attach_25 rfl rfl ?_
      refine r_iret hS dX8_attach_28 rfl rfl (Nat.zero_le _) (Nat.zero_le _) ?_
      have e : oAtt B D l nx hs s0 s1 thr z = (iI (-1003), (B, (D, l, nx), hs, s0, s1, thr)) := by unfold oAtt; rw [if_neg (by omega), if_pos c22]
      rw [e]
      exact ⟨_, rfl, rfl, rfl, hX, off.rfl' _ _ _⟩
  · have hle_z := ixN_le l z
    refine r_callVR (st := []) hb ho 8 dX8_attach_5 rfl ck_X8_109 (c_X4_findN (a + 3) nx D h pa xs l z hG hx hzb hf) rfl rfl (gc) rfl rfl (by rw [hR0]; exact ⟨Nat.le_of_ble_eq_true rfl, Nat.le_of_ble_eq_true rfl⟩) (Nat.le_of_ble_eq_true rfl) ⟨rfl, rfl⟩ (by rw [hR0]; exact Nat.zero_le _) (by rw [hR0]; exact Nat.zero_le _) ?_
    skip
    refine r_astore_nN [(2, .null), (0, .ref a), (1, .int (iI (z)))] hb 9 3 dX8_attach_8 rfl rfl hnL (by decide) rfl ?_
    refine r_aload_nN hb 10 dX8_attach_9 rfl 0 rfl ?_
    refine r_ifnonnullN hb 13 dX8_attach_10 rfl ?_
    refine r_sipush (-1001) hb 16 dX8_attach_13 rfl rfl ?_
    refine r_iret hS dX8_attach_16 rfl rfl (Nat.zero_le _) (Nat.zero_le _) ?_
    have e : oAtt B D l nx hs s0 s1 thr z = (iI (-1001), (B, (D, l, nx), hs, s0, s1, thr)) := by unfold oAtt; rw [if_pos (by omega)]
    rw [e]
    exact ⟨_, rfl, rfl, rfl, hX, off.rfl' _ _ _⟩

abbrev rm_X8_attachAll : Room := { frames := 6, cells := 0, slots := 0, locals := 149 }
set_option maxHeartbeats 4000000 in
set_option maxRecDepth 100000 in
theorem c_X8_attachAll (a : Nat) (B D : List Int32) (l : List Nt) (nx : Nat) (hs : List Pg) (s0 s1 : Option (Pg × Int)) (thr : Int)  {w : PW} {n : Nat} (hX : xoE w a B D l nx hs s0 s1 thr) (hok : pOk (D, l, nx)) (ht : 0 ≤ thr ∧ thr ≤ 108) : Ct1 yX8_attachAll cX8_attachAll 1 (some .int) rm_X8_attachAll [.ref a] w n (fun v w1 n1 => v = .int (oAll B D l nx hs s0 s1 thr ).1 ∧ n = n1 ∧ xo w1 a (oAll B D l nx hs s0 s1 thr ).2 ∧ off w w1 a (a + 729)) := by
  obtain ⟨xc, xB, xP, xH, xS0, xS1, ⟨b0, b1, b2, eh, xF⟩, ⟨ri, xR⟩, ⟨pc0, oh0, ch0, xL, xLc⟩, xA⟩ := id hX
  have bc := xB.1
  have bl := xB.2.1
  obtain ⟨h, pa, xs, hG, hx⟩ := id xP
  obtain ⟨gc, gT, gcl, gnx, ⟨ga, gh⟩, ⟨gs1, gs2⟩, gN⟩ := id hG
  have gd := gT.1
  have gdl := gT.2.1
  obtain ⟨ph, qa, P, hO0, hhx⟩ := id xH
  have hc := hO0.1
  have hcl := hO0.2.2.2.2.2
  have fc := xF
  have lc := xL.1
  obtain ⟨p0, t0, s0c, s0p, s0e⟩ := id xS0
  obtain ⟨p1, t1, s1c, s1p, s1e⟩ := id xS1
  refine Ctr.of rfl (Nat.le_of_ble_eq_true rfl) fun S hS => ?_
  have hb : S.1.1 = cX8_attachAll := by rw [hS]; rfl
  have ho : S.1.2.1 = RX8 := by rw [hS]; rfl
  have hnL : S.1.2.2.1 = 1 := by rw [hS]; rfl
  have hR0 : S.2.1 = rm_X8_attachAll := by rw [hS]; rfl
  show Wp S 0 [(0, .ref a)] [] w n 0 0
  refine r_aload_n hb 1 dX8_attachAll_0 rfl 0 rfl ?_
  refine r_get hb ho 4 dX8_attachAll_1 rfl lk_X8_52 pf_X8_6 xc rfl ?_
  refine r_aload_n hb 5 dX8_attachAll_4 rfl 0 rfl ?_
  refine r_get hb ho 8 dX8_attachAll_5 rfl lk_X8_21 pf_X8_1 xc rfl ?_
  refine r_callV1 (st := []) hb ho 11 dX8_attachAll_8 rfl ck_X8_147 (c_X5_gather (a + 675) pc0 oh0 ch0 (a + 3) nx D h pa xs l xL hG hx (by omega)) rfl rfl (lc) rfl rfl (by rw [hR0]; exact ⟨Nat.le_of_ble_eq_true rfl, Nat.le_of_ble_eq_true rfl⟩) (Nat.le_of_ble_eq_true rfl) ⟨rfl, rfl⟩ (by rw [hR0]; exact Nat.zero_le _) (by rw [hR0]; exact Nat.zero_le _) (fun vw_8 w_8 nw_8 qw_8 => ?_)
  obtain ⟨rfl, rfl, ⟨oh1, xL, hoh⟩, ow_8⟩ := qw_8
  have lc := xL.1
  have xLc : (gaN l l.length).2 ≤ 10 := by have := gaN_le l l.length; omega
  have xc : w_8 a = some (eO 8 [.ref (a + 1), .ref (a + 3), .ref (a + 77), .ref (a + 523), .ref (a + 598), .ref (a + 673), .ref (a + 675), .int (iI (thr))]) := (ow_8 _ (by omega)).trans xc
  have bc : w_8 (a + 1) = some (eO 7 [.ref (a + 1 + 1), .int (iI (((B.length : Nat) : Int)))]) := (ow_8 _ (by omega)).trans bc
  have gc : w_8 (a + 3) = some (eO 4 [.ref (a + 3 + 1), .ref (a + 3 + 3), .int (iI (((l.length : Nat) : Int))), .int (iI (((nx : Nat) : Int)))]) := (ow_8 _ (by omega)).trans gc
  have ga : w_8 (a + 3 + 3) = some (eQ 3 10 h) := (ow_8 _ (by omega)).trans ga
  have gT : tx w_8 (a + 3 + 1) 120 D := gT.off ow_8 (by omega)
  have gd : w_8 (a + 3 + 1) = some (eO 7 [.ref (a + 3 + 1 + 1), .int (iI (((D.length : Nat) : Int)))]) := (ow_8 _ (by omega)).trans gd
  have hc : w_8 (a + 77) = some (eO 2 [.ref (a + 77 + 1), .int (iI (((hs.length : Nat) : Int)))]) := (ow_8 _ (by omega)).trans hc
  have fc : w_8 (a + 673) = some (eO 1 [.ref (a + 673 + 1), .int (iI (b0)), .int (iI (b1)), .int (iI (b2)), .int (iI (eh))]) := (ow_8 _ (by omega)).trans fc
  have s0c : w_8 (a + 523) = some (eO 6 [.ref (a + 523 + 1), .int (iI (t0)), .int (bI (s0.isSome))]) := (ow_8 _ (by omega)).trans s0c
  have s1c : w_8 (a + 598) = some (eO 6 [.ref (a + 598 + 1), .int (iI (t1)), .int (bI (s1.isSome))]) := (ow_8 _ (by omega)).trans s1c
  have xB : tx w_8 (a + 1) 40 B := xB.off ow_8 (by omega)
  have xP : pg w_8 (a + 3) D l nx := xP.off ow_8 (by omega)
  have xH : hst w_8 (a + 77) hs := xH.off ow_8 (by omega)
  have xS0 : slt w_8 (a + 523) s0 := xS0.off ow_8 (by omega)
  have xS1 : slt w_8 (a + 598) s1 := xS1.off ow_8 (by omega)
  have xF : fd w_8 (a + 673) b0 b1 b2 eh := xF.off ow_8 (by omega)
  have xR : fr w_8 (a + 673) 0 ri := xR.off ow_8 (by omega)
  have xA : chA w_8 (a + 675) := xA.off ow_8 (by omega)
  have hG : pgo w_8 (a + 3) D h pa xs l.length nx := hG.off ow_8 (by omega)
  obtain ⟨gc, gT, gcl, gnx, ⟨ga, gh⟩, ⟨gs1, gs2⟩, gN⟩ := id hG
  have gd := gT.1
  have gdl := gT.2.1
  refine r_if_ne hb 14 18 dX8_attachAll_11 rfl (by decide) (by omega) (fun c11 => ?_) (fun c11 => ?_)
  · refine r_aload_n hb 19 dX8_attachAll_18 rfl 0 rfl ?_
    refine r_get hb ho 22 dX8_attachAll_19 rfl lk_X8_28 pf_X8_2 xc rfl ?_
    refine r_aload_n hb 23 dX8_attachAll_22 rfl 0 rfl ?_
    refine r_get hb ho 26 dX8_attachAll_23 rfl lk_X8_21 pf_X8_1 xc rfl ?_
    refine r_callV0 (st := []) hb ho 29 dX8_attachAll_26 rfl ck_X8_69 (c_X2_record (a + 77) (a + 3) nx D l hs xH xP (by omega)) rfl rfl (hc) rfl rfl (by rw [hR0]; exact ⟨Nat.le_of_ble_eq_true rfl, Nat.le_of_ble_eq_true rfl⟩) (Nat.le_of_ble_eq_true rfl) ⟨rfl, rfl⟩ (by rw [hR0]; exact Nat.zero_le _) (by rw [hR0]; exact Nat.zero_le _) (fun w_26 nw_26 qw_26 => ?_)
    obtain ⟨rfl, xH, ow_26⟩ := qw_26
    have lc : w_26 (a + 675) = some (eO 5 [.ref (a + 675 + 1), .ref (a + 675 + 2), .int (iI ((((gaN l l.length).2 : Nat) : Int)))]) := (ow_26 _ (by omega)).trans lc
    have xL : plo w_26 (a + 675) (gaN l l.length).2 oh1 ch0 := xL.off ow_26 (by omega)
    have xc : w_26 a = some (eO 8 [.ref (a + 1), .ref (a + 3), .ref (a + 77), .ref (a + 523), .ref (a + 598), .ref (a + 673), .ref (a + 675), .int (iI (thr))]) := (ow_26 _ (by omega)).trans xc
    have bc : w_26 (a + 1) = some (eO 7 [.ref (a + 1 + 1), .int (iI (((B.length : Nat) : Int)))]) := (ow_26 _ (by omega)).trans bc
    have gc : w_26 (a + 3) = some (eO 4 [.ref (a + 3 + 1), .ref (a + 3 + 3), .int (iI (((l.length : Nat) : Int))), .int (iI (((nx : Nat) : Int)))]) := (ow_26 _ (by omega)).trans gc
    have ga : w_26 (a + 3 + 3) = some (eQ 3 10 h) := (ow_26 _ (by omega)).trans ga
    have gT : tx w_26 (a + 3 + 1) 120 D := gT.off ow_26 (by omega)
    have gd : w_26 (a + 3 + 1) = some (eO 7 [.ref (a + 3 + 1 + 1), .int (iI (((D.length : Nat) : Int)))]) := (ow_26 _ (by omega)).trans gd
    have fc : w_26 (a + 673) = some (eO 1 [.ref (a + 673 + 1), .int (iI (b0)), .int (iI (b1)), .int (iI (b2)), .int (iI (eh))]) := (ow_26 _ (by omega)).trans fc
    have s0c : w_26 (a + 523) = some (eO 6 [.ref (a + 523 + 1), .int (iI (t0)), .int (bI (s0.isSome))]) := (ow_26 _ (by omega)).trans s0c
    have s1c : w_26 (a + 598) = some (eO 6 [.ref (a + 598 + 1), .int (iI (t1)), .int (bI (s1.isSome))]) := (ow_26 _ (by omega)).trans s1c
    have xB : tx w_26 (a + 1) 40 B := xB.off ow_26 (by omega)
    have xP : pg w_26 (a + 3) D l nx := xP.off ow_26 (by omega)
    have xS0 : slt w_26 (a + 523) s0 := xS0.off ow_26 (by omega)
    have xS1 : slt w_26 (a + 598) s1 := xS1.off ow_26 (by omega)
    have xF : fd w_26 (a + 673) b0 b1 b2 eh := xF.off ow_26 (by omega)
    have xR : fr w_26 (a + 673) 0 ri := xR.off ow_26 (by omega)
    have xA : chA w_26 (a + 675) := xA.off ow_26 (by omega)
    have hG : pgo w_26 (a + 3) D h pa xs l.length nx := hG.off ow_26 (by omega)
    obtain ⟨gc, gT, gcl, gnx, ⟨ga, gh⟩, ⟨gs1, gs2⟩, gN⟩ := id hG
    have gd := gT.1
    have gdl := gT.2.1
    refine r_aload_n hb 30 dX8_attachAll_29 rfl 0 rfl ?_
    refine r_get hb ho 33 dX8_attachAll_30 rfl lk_X8_52 pf_X8_6 xc rfl ?_
    refine r_aload_n hb 34 dX8_attachAll_33 rfl 0 rfl ?_
    refine r_get hb ho 37 dX8_attachAll_34 rfl lk_X8_21 pf_X8_1 xc rfl ?_
    refine r_get hb ho 40 dX8_attachAll_37 rfl lk_X8_73 pf_X4_0 gc rfl ?_
    refine r_aload_n hb 41 dX8_attachAll_40 rfl 0 rfl ?_
    refine r_get hb ho 44 dX8_attachAll_41 rfl lk_X8_56 pf_X8_7 xc rfl ?_
    refine r_aload_n hb 45 dX8_attachAll_44 rfl 0 rfl ?_
    refine r_get hb ho 48 dX8_attachAll_45 rfl lk_X8_45 pf_X8_5 xc rfl ?_
    refine r_callV0 (st := []) hb ho 51 dX8_attachAll_48 rfl ck_X8_151 (c_X5_plan (a + 675) (gaN l l.length).2 (a + 673) oh1 ch0 (gaN l l.length).1 thr b0 b1 b2 eh ri (a + 3) nx D h pa xs l xL hG hx xLc (fun j hj => ⟨hoh j hj, gaN_lt l _ j hj⟩) (by omega) (fun j hj => (hok.2.2.2.1 j hj).1) xA xF xR (by omega) (by omega) ht) rfl rfl (lc) rfl rfl (by rw [hR0]; exact ⟨Nat.le_of_ble_eq_true rfl, Nat.le_of_ble_eq_true rfl⟩) (Nat.le_of_ble_eq_true rfl) ⟨rfl, rfl⟩ (by rw [hR0]; exact Nat.zero_le _) (by rw [hR0]; exact Nat.zero_le _) (fun w_48 nw_48 qw_48 => ?_)
    obtain ⟨rfl, hCh, ⟨e3, xF⟩, ⟨r3, xR⟩, q2w_48⟩ := qw_48
    have ow_48 := q2w_48.cov (a := a + 673) (b := a + 729) (by omega) (by omega) (by omega) (by omega)
    have lc := (q2w_48 _ (by omega) (by omega)).trans lc
    have xL := xL.off2 q2w_48 (by omega) (by omega)
    have xH : hst w_48 (a + 77) (recH hs (D, l, nx)) := xH.off ow_48 (by omega)
    have xc : w_48 a = some (eO 8 [.ref (a + 1), .ref (a + 3), .ref (a + 77), .ref (a + 523), .ref (a + 598), .ref (a + 673), .ref (a + 675), .int (iI (thr))]) := (ow_48 _ (by omega)).trans xc
    have bc : w_48 (a + 1) = some (eO 7 [.ref (a + 1 + 1), .int (iI (((B.length : Nat) : Int)))]) := (ow_48 _ (by omega)).trans bc
    have gc : w_48 (a + 3) = some (eO 4 [.ref (a + 3 + 1), .ref (a + 3 + 3), .int (iI (((l.length : Nat) : Int))), .int (iI (((nx : Nat) : Int)))]) := (ow_48 _ (by omega)).trans gc
    have ga : w_48 (a + 3 + 3) = some (eQ 3 10 h) := (ow_48 _ (by omega)).trans ga
    have gT : tx w_48 (a + 3 + 1) 120 D := gT.off ow_48 (by omega)
    have gd : w_48 (a + 3 + 1) = some (eO 7 [.ref (a + 3 + 1 + 1), .int (iI (((D.length : Nat) : Int)))]) := (ow_48 _ (by omega)).trans gd
    have s0c : w_48 (a + 523) = some (eO 6 [.ref (a + 523 + 1), .int (iI (t0)), .int (bI (s0.isSome))]) := (ow_48 _ (by omega)).trans s0c
    have s1c : w_48 (a + 598) = some (eO 6 [.ref (a + 598 + 1), .int (iI (t1)), .int (bI (s1.isSome))]) := (ow_48 _ (by omega)).trans s1c
    have xB : tx w_48 (a + 1) 40 B := xB.off ow_48 (by omega)
    have xP : pg w_48 (a + 3) D l nx := xP.off ow_48 (by omega)
    have xS0 : slt w_48 (a + 523) s0 := xS0.off ow_48 (by omega)
    have xS1 : slt w_48 (a + 598) s1 := xS1.off ow_48 (by omega)
    have hG : pgo w_48 (a + 3) D h pa xs l.length nx := hG.off ow_48 (by omega)
    obtain ⟨gc, gT, gcl, gnx, ⟨ga, gh⟩, ⟨gs1, gs2⟩, gN⟩ := id hG
    have gd := gT.1
    have gdl := gT.2.1
    refine r_aload_n hb 52 dX8_attachAll_51 rfl 0 rfl ?_
    refine r_get hb ho 55 dX8_attachAll_52 rfl lk_X8_52 pf_X8_6 xc rfl ?_
    refine r_callV1 (st := []) hb ho 58 dX8_attachAll_55 rfl ck_X8_155 (c_X5_carryOut (a + 675) (gaN l l.length).2 oh1 ch0 (gaN l l.length).1 thr (a + 3) nx D h pa xs l xL hG hx xLc (fun j hj => ⟨hoh j hj, gaN_lt l _ j hj⟩) (by omega) (fun j hj => (hok.2.2.2.1 j hj).1) hCh ht (by omega)) rfl rfl (lc) rfl rfl (by rw [hR0]; exact ⟨Nat.le_of_ble_eq_true rfl, Nat.le_of_ble_eq_true rfl⟩) (Nat.le_of_ble_eq_true rfl) ⟨rfl, rfl⟩ (by rw [hR0]; exact Nat.zero_le _) (by rw [hR0]; exact Nat.zero_le _) (fun vw_55 w_55 nw_55 qw_55 => ?_)
    obtain ⟨rfl, rfl, ⟨xs1, hG1, hx1⟩, ow_55⟩ := qw_55
    have lc : w_55 (a + 675) = some (eO 5 [.ref (a + 675 + 1), .ref (a + 675 + 2), .int (iI ((((gaN l l.length).2 : Nat) : Int)))]) := (ow_55 _ (by omega)).trans lc
    have xL : plo w_55 (a + 675) (gaN l l.length).2 oh1 ch0 := xL.off ow_55 (by omega)
    have xF : fd w_55 (a + 673) b0 b1 b2 e3 := xF.off ow_55 (by omega)
    have xR : fr w_55 (a + 673) 0 r3 := xR.off ow_55 (by omega)
    have hCh : chG w_55 (a + 675) l D thr (gaN l l.length).1 (gaN l l.length).2 0 := hCh.off ow_55 (by omega)
    have xH : hst w_55 (a + 77) (recH hs (D, l, nx)) := xH.off ow_55 (by omega)
    have xc : w_55 a = some (eO 8 [.ref (a + 1), .ref (a + 3), .ref (a + 77), .ref (a + 523), .ref (a + 598), .ref (a + 673), .ref (a + 675), .int (iI (thr))]) := (ow_55 _ (by omega)).trans xc
    have bc : w_55 (a + 1) = some (eO 7 [.ref (a + 1 + 1), .int (iI (((B.length : Nat) : Int)))]) := (ow_55 _ (by omega)).trans bc
    have s0c : w_55 (a + 523) = some (eO 6 [.ref (a + 523 + 1), .int (iI (t0)), .int (bI (s0.isSome))]) := (ow_55 _ (by omega)).trans s0c
    have s1c : w_55 (a + 598) = some (eO 6 [.ref (a + 598 + 1), .int (iI (t1)), .int (bI (s1.isSome))]) := (ow_55 _ (by omega)).trans s1c
    have xB : tx w_55 (a + 1) 40 B := xB.off ow_55 (by omega)
    have xS0 : slt w_55 (a + 523) s0 := xS0.off ow_55 (by omega)
    have xS1 : slt w_55 (a + 598) s1 := xS1.off ow_55 (by omega)
    have xA := hCh.all
    have xP : pg w_55 (a + 3) D (coN l D thr (gaN l l.length).1 (gaN l l.length).2 (gaN l l.length).2).1 nx := ⟨h, pa, xs1, by rw [coN_len]; exact hG1, fun j hj => hx1 j (by rw [coN_len] at hj; exact hj)⟩
    refine r_iret hS dX8_attachAll_58 rfl rfl (Nat.zero_le _) (Nat.zero_le _) ?_
    have e : oAll B D l nx hs s0 s1 thr  = (iI (((coN l D thr (gaN l l.length).1 (gaN l l.length).2 (gaN l l.length).2).2.2 : Nat) : Int), stP B D l nx hs s0 s1 thr (D, (coN l D thr (gaN l l.length).1 (gaN l l.length).2 (gaN l l.length).2).1, nx)) := by unfold oAll; rw [if_neg (by omega)]
    rw [e]
    exact ⟨_, rfl, rfl, rfl, ⟨xc, xB, xP, xH, xS0, xS1, ⟨_, _, _, _, xF⟩, ⟨_, xR⟩, ⟨_, _, _, xL, xLc⟩, xA⟩, ((((ow_8.mono (by omega) (by omega)).trans (ow_26.mono (by omega) (by omega))).trans (ow_48.mono (by omega) (by omega))).trans (ow_55.mono (by omega) (by omega)))⟩
  · refine r_sipush (-1005) hb 17 dX8_attachAll_14 rfl rfl ?_
    refine r_iret hS dX8_attachAll_17 rfl rfl (Nat.zero_le _) (Nat.zero_le _) ?_
    have e : oAll B D l nx hs s0 s1 thr  = (iI (-1005), (B, (D, l, nx), hs, s0, s1, thr)) := by unfold oAll; rw [if_pos (by omega)]
    rw [e]
    exact ⟨_, rfl, rfl, rfl, ⟨xc, xB, xP, xH, xS0, xS1, ⟨_, _, _, _, xF⟩, ⟨_, xR⟩, ⟨_, _, _, xL, xLc⟩, xA⟩, (ow_8.mono (by omega) (by omega))⟩

abbrev rm_X8_merge : Room := { frames := 6, cells := 0, slots := 0, locals := 130 }
set_option maxHeartbeats 4000000 in
set_option maxRecDepth 100000 in
theorem c_X8_merge (a : Nat) (B D : List Int32) (l : List Nt) (nx : Nat) (hs : List Pg) (s0 s1 : Option (Pg × Int)) (thr : Int)  {w : PW} {n : Nat} (hX : xoE w a B D l nx hs s0 s1 thr) : Ct1 yX8_merge cX8_merge 1 (some .int) rm_X8_merge [.ref a] w n (fun v w1 n1 => v = .int (oMer B D l nx hs s0 s1 thr ).1 ∧ n = n1 ∧ xo w1 a (oMer B D l nx hs s0 s1 thr ).2 ∧ off w w1 a (a + 729)) := by
  obtain ⟨xc, xB, xP, xH, xS0, xS1, ⟨b0, b1, b2, eh, xF⟩, ⟨ri, xR⟩, ⟨pc0, oh0, ch0, xL, xLc⟩, xA⟩ := id hX
  have bc := xB.1
  have bl := xB.2.1
  obtain ⟨h, pa, xs, hG, hx⟩ := id xP
  obtain ⟨gc, gT, gcl, gnx, ⟨ga, gh⟩, ⟨gs1, gs2⟩, gN⟩ := id hG
  have gd := gT.1
  have gdl := gT.2.1
  obtain ⟨ph, qa, P, hO0, hhx⟩ := id xH
  have hc := hO0.1
  have hcl := hO0.2.2.2.2.2
  have fc := xF
  have lc := xL.1
  obtain ⟨p0, t0, s0c, s0p, s0e⟩ := id xS0
  obtain ⟨p1, t1, s1c, s1p, s1e⟩ := id xS1
  refine Ctr.of rfl (Nat.le_of_ble_eq_true rfl) fun S hS => ?_
  have hb : S.1.1 = cX8_merge := by rw [hS]; rfl
  have ho : S.1.2.1 = RX8 := by rw [hS]; rfl
  have hnL : S.1.2.2.1 = 1 := by rw [hS]; rfl
  have hR0 : S.2.1 = rm_X8_merge := by rw [hS]; rfl
  show Wp S 0 [(0, .ref a)] [] w n 0 0
  refine r_aload_n hb 1 dX8_merge_0 rfl 0 rfl ?_
  refine r_get hb ho 4 dX8_merge_1 rfl lk_X8_21 pf_X8_1 xc rfl ?_
  refine r_callVR (st := []) hb ho 7 dX8_merge_4 rfl ck_X8_159 (c_X4_hasTwins (a + 3) nx D l xP) rfl rfl (gc) rfl rfl (by rw [hR0]; exact ⟨Nat.le_of_ble_eq_true rfl, Nat.le_of_ble_eq_true rfl⟩) (Nat.le_of_ble_eq_true rfl) ⟨rfl, rfl⟩ (by rw [hR0]; exact Nat.zero_le _) (by rw [hR0]; exact Nat.zero_le _) ?_
  refine r_ifb_ne hb 10 14 dX8_merge_7 rfl (by decide) (fun c7 => ?_) (fun c7 => ?_)
  · refine r_aload_n hb 15 dX8_merge_14 rfl 0 rfl ?_
    refine r_get hb ho 18 dX8_merge_15 rfl lk_X8_28 pf_X8_2 xc rfl ?_
    refine r_aload_n hb 19 dX8_merge_18 rfl 0 rfl ?_
    refine r_get hb ho 22 dX8_merge_19 rfl lk_X8_21 pf_X8_1 xc rfl ?_
    refine r_callV0 (st := []) hb ho 25 dX8_merge_22 rfl ck_X8_69 (c_X2_record (a + 77) (a + 3) nx D l hs xH xP (by omega)) rfl rfl (hc) rfl rfl (by rw [hR0]; exact ⟨Nat.le_of_ble_eq_true rfl, Nat.le_of_ble_eq_true rfl⟩) (Nat.le_of_ble_eq_true rfl) ⟨rfl, rfl⟩ (by rw [hR0]; exact Nat.zero_le _) (by rw [hR0]; exact Nat.zero_le _) (fun w_22 nw_22 qw_22 => ?_)
    obtain ⟨rfl, xH, ow_22⟩ := qw_22
    have xc : w_22 a = some (eO 8 [.ref (a + 1), .ref (a + 3), .ref (a + 77), .ref (a + 523), .ref (a + 598), .ref (a + 673), .ref (a + 675), .int (iI (thr))]) := (ow_22 _ (by omega)).trans xc
    have bc : w_22 (a + 1) = some (eO 7 [.ref (a + 1 + 1), .int (iI (((B.length : Nat) : Int)))]) := (ow_22 _ (by omega)).trans bc
    have gc : w_22 (a + 3) = some (eO 4 [.ref (a + 3 + 1), .ref (a + 3 + 3), .int (iI (((l.length : Nat) : Int))), .int (iI (((nx : Nat) : Int)))]) := (ow_22 _ (by omega)).trans gc
    have ga : w_22 (a + 3 + 3) = some (eQ 3 10 h) := (ow_22 _ (by omega)).trans ga
    have gT : tx w_22 (a + 3 + 1) 120 D := gT.off ow_22 (by omega)
    have gd : w_22 (a + 3 + 1) = some (eO 7 [.ref (a + 3 + 1 + 1), .int (iI (((D.length : Nat) : Int)))]) := (ow_22 _ (by omega)).trans gd
    have fc : w_22 (a + 673) = some (eO 1 [.ref (a + 673 + 1), .int (iI (b0)), .int (iI (b1)), .int (iI (b2)), .int (iI (eh))]) := (ow_22 _ (by omega)).trans fc
    have lc : w_22 (a + 675) = some (eO 5 [.ref (a + 675 + 1), .ref (a + 675 + 2), .int (iI (((pc0 : Nat) : Int)))]) := (ow_22 _ (by omega)).trans lc
    have s0c : w_22 (a + 523) = some (eO 6 [.ref (a + 523 + 1), .int (iI (t0)), .int (bI (s0.isSome))]) := (ow_22 _ (by omega)).trans s0c
    have s1c : w_22 (a + 598) = some (eO 6 [.ref (a + 598 + 1), .int (iI (t1)), .int (bI (s1.isSome))]) := (ow_22 _ (by omega)).trans s1c
    have xB : tx w_22 (a + 1) 40 B := xB.off ow_22 (by omega)
    have xP : pg w_22 (a + 3) D l nx := xP.off ow_22 (by omega)
    have xS0 : slt w_22 (a + 523) s0 := xS0.off ow_22 (by omega)
    have xS1 : slt w_22 (a + 598) s1 := xS1.off ow_22 (by omega)
    have xF : fd w_22 (a + 673) b0 b1 b2 eh := xF.off ow_22 (by omega)
    have xR : fr w_22 (a + 673) 0 ri := xR.off ow_22 (by omega)
    have xL : plo w_22 (a + 675) pc0 oh0 ch0 := xL.off ow_22 (by omega)
    have xA : chA w_22 (a + 675) := xA.off ow_22 (by omega)
    have hG : pgo w_22 (a + 3) D h pa xs l.length nx := hG.off ow_22 (by omega)
    obtain ⟨gc, gT, gcl, gnx, ⟨ga, gh⟩, ⟨gs1, gs2⟩, gN⟩ := id hG
    have gd := gT.1
    have gdl := gT.2.1
    refine r_aload_n hb 26 dX8_merge_25 rfl 0 rfl ?_
    refine r_get hb ho 29 dX8_merge_26 rfl lk_X8_21 pf_X8_1 xc rfl ?_
    refine r_callV1 (st := []) hb ho 32 dX8_merge_29 rfl ck_X8_163 (c_X4_mergeTwins (a + 3) nx D l xP) rfl rfl (gc) rfl rfl (by rw [hR0]; exact ⟨Nat.le_of_ble_eq_true rfl, Nat.le_of_ble_eq_true rfl⟩) (Nat.le_of_ble_eq_true rfl) ⟨rfl, rfl⟩ (by rw [hR0]; exact Nat.zero_le _) (by rw [hR0]; exact Nat.zero_le _) (fun vw_29 w_29 nw_29 qw_29 => ?_)
    obtain ⟨rfl, rfl, xP, ow_29⟩ := qw_29
    have xH : hst w_29 (a + 77) (recH hs (D, l, nx)) := xH.off ow_29 (by omega)
    have xc : w_29 a = some (eO 8 [.ref (a + 1), .ref (a + 3), .ref (a + 77), .ref (a + 523), .ref (a + 598), .ref (a + 673), .ref (a + 675), .int (iI (thr))]) := (ow_29 _ (by omega)).trans xc
    have bc : w_29 (a + 1) = some (eO 7 [.ref (a + 1 + 1), .int (iI (((B.length : Nat) : Int)))]) := (ow_29 _ (by omega)).trans bc
    have fc : w_29 (a + 673) = some (eO 1 [.ref (a + 673 + 1), .int (iI (b0)), .int (iI (b1)), .int (iI (b2)), .int (iI (eh))]) := (ow_29 _ (by omega)).trans fc
    have lc : w_29 (a + 675) = some (eO 5 [.ref (a + 675 + 1), .ref (a + 675 + 2), .int (iI (((pc0 : Nat) : Int)))]) := (ow_29 _ (by omega)).trans lc
    have s0c : w_29 (a + 523) = some (eO 6 [.ref (a + 523 + 1), .int (iI (t0)), .int (bI (s0.isSome))]) := (ow_29 _ (by omega)).trans s0c
    have s1c : w_29 (a + 598) = some (eO 6 [.ref (a + 598 + 1), .int (iI (t1)), .int (bI (s1.isSome))]) := (ow_29 _ (by omega)).trans s1c
    have xB : tx w_29 (a + 1) 40 B := xB.off ow_29 (by omega)
    have xS0 : slt w_29 (a + 523) s0 := xS0.off ow_29 (by omega)
    have xS1 : slt w_29 (a + 598) s1 := xS1.off ow_29 (by omega)
    have xF : fd w_29 (a + 673) b0 b1 b2 eh := xF.off ow_29 (by omega)
    have xR : fr w_29 (a + 673) 0 ri := xR.off ow_29 (by omega)
    have xL : plo w_29 (a + 675) pc0 oh0 ch0 := xL.off ow_29 (by omega)
    have xA : chA w_29 (a + 675) := xA.off ow_29 (by omega)
    obtain ⟨h_2, pa_2, xs_2, hG2, hx2⟩ := id xP
    obtain ⟨kc, kT, kcl, knx, ⟨ka, kh⟩, ⟨ks1, ks2⟩, kN⟩ := id hG2
    have kd := kT.1
    have kdl := kT.2.1
    refine r_iret hS dX8_merge_32 rfl rfl (Nat.zero_le _) (Nat.zero_le _) ?_
    have e : oMer B D l nx hs s0 s1 thr  = (iI (((mgN l.length l 0).2 : Nat) : Int), stP B D l nx hs s0 s1 thr (D, (mgN l.length l 0).1, nx)) := by unfold oMer; rw [if_neg (by rw [c7]; decide)]
    rw [e]
    exact ⟨_, rfl, rfl, rfl, ⟨xc, xB, xP, xH, xS0, xS1, ⟨_, _, _, _, xF⟩, ⟨_, xR⟩, ⟨_, _, _, xL, xLc⟩, xA⟩, ((ow_22.mono (by omega) (by omega)).trans (ow_29.mono (by omega) (by omega)))⟩
  · refine r_sipush (-1005) hb 13 dX8_merge_10 rfl rfl ?_
    refine r_iret hS dX8_merge_13 rfl rfl (Nat.zero_le _) (Nat.zero_le _) ?_
    have e : oMer B D l nx hs s0 s1 thr  = (iI (-1005), (B, (D, l, nx), hs, s0, s1, thr)) := by unfold oMer; rw [if_pos c7]
    rw [e]
    exact ⟨_, rfl, rfl, rfl, hX, off.rfl' _ _ _⟩

abbrev rm_X8_undo : Room := { frames := 6, cells := 0, slots := 0, locals := 130 }
set_option maxHeartbeats 4000000 in
set_option maxRecDepth 100000 in
theorem c_X8_undo (a : Nat) (B D : List Int32) (l : List Nt) (nx : Nat) (hs : List Pg) (s0 s1 : Option (Pg × Int)) (thr : Int)  {w : PW} {n : Nat} (hX : xoE w a B D l nx hs s0 s1 thr) : Ct1 yX8_undo cX8_undo 1 (some .int) rm_X8_undo [.ref a] w n (fun v w1 n1 => v = .int (oUndo B D l nx hs s0 s1 thr ).1 ∧ n = n1 ∧ xo w1 a (oUndo B D l nx hs s0 s1 thr ).2 ∧ off w w1 a (a + 729)) := by
  obtain ⟨xc, xB, xP, xH, xS0, xS1, ⟨b0, b1, b2, eh, xF⟩, ⟨ri, xR⟩, ⟨pc0, oh0, ch0, xL, xLc⟩, xA⟩ := id hX
  have bc := xB.1
  have bl := xB.2.1
  obtain ⟨h, pa, xs, hG, hx⟩ := id xP
  obtain ⟨gc, gT, gcl, gnx, ⟨ga, gh⟩, ⟨gs1, gs2⟩, gN⟩ := id hG
  have gd := gT.1
  have gdl := gT.2.1
  obtain ⟨ph, qa, P, hO0, hhx⟩ := id xH
  have hc := hO0.1
  have hcl := hO0.2.2.2.2.2
  have fc := xF
  have lc := xL.1
  obtain ⟨p0, t0, s0c, s0p, s0e⟩ := id xS0
  obtain ⟨p1, t1, s1c, s1p, s1e⟩ := id xS1
  refine Ctr.of rfl (Nat.le_of_ble_eq_true rfl) fun S hS => ?_
  have hb : S.1.1 = cX8_undo := by rw [hS]; rfl
  have ho : S.1.2.1 = RX8 := by rw [hS]; rfl
  have hnL : S.1.2.2.1 = 1 := by rw [hS]; rfl
  have hR0 : S.2.1 = rm_X8_undo := by rw [hS]; rfl
  show Wp S 0 [(0, .ref a)] [] w n 0 0
  refine r_aload_n hb 1 dX8_undo_0 rfl 0 rfl ?_
  refine r_get hb ho 4 dX8_undo_1 rfl lk_X8_28 pf_X8_2 xc rfl ?_
  refine r_get hb ho 7 dX8_undo_4 rfl lk_X8_166 pf_X2_1 hc rfl ?_
  refine r_if_ne hb 10 14 dX8_undo_7 rfl (by decide) (by omega) (fun c7 => ?_) (fun c7 => ?_)
  · refine r_aload_n hb 15 dX8_undo_14 rfl 0 rfl ?_
    refine r_get hb ho 18 dX8_undo_15 rfl lk_X8_28 pf_X8_2 xc rfl ?_
    refine r_aload_n hb 19 dX8_undo_18 rfl 0 rfl ?_
    refine r_get hb ho 22 dX8_undo_19 rfl lk_X8_21 pf_X8_1 xc rfl ?_
    refine r_callV0 (st := []) hb ho 25 dX8_undo_22 rfl ck_X8_167 (c_X2_stepBack (a + 77) (a + 3) nx D l hs xH xP (by omega) (by omega)) rfl rfl (hc) rfl rfl (by rw [hR0]; exact ⟨Nat.le_of_ble_eq_true rfl, Nat.le_of_ble_eq_true rfl⟩) (Nat.le_of_ble_eq_true rfl) ⟨rfl, rfl⟩ (by rw [hR0]; exact Nat.zero_le _) (by rw [hR0]; exact Nat.zero_le _) (fun w_22 nw_22 qw_22 => ?_)
    obtain ⟨rfl, xH, xP, q2w_22⟩ := qw_22
    have ow_22 := q2w_22.cov (a := a + 3) (b := a + 523) (by omega) (by omega) (by omega) (by omega)
    have xc : w_22 a = some (eO 8 [.ref (a + 1), .ref (a + 3), .ref (a + 77), .ref (a + 523), .ref (a + 598), .ref (a + 673), .ref (a + 675), .int (iI (thr))]) := (ow_22 _ (by omega)).trans xc
    have bc : w_22 (a + 1) = some (eO 7 [.ref (a + 1 + 1), .int (iI (((B.length : Nat) : Int)))]) := (ow_22 _ (by omega)).trans bc
    have fc : w_22 (a + 673) = some (eO 1 [.ref (a + 673 + 1), .int (iI (b0)), .int (iI (b1)), .int (iI (b2)), .int (iI (eh))]) := (ow_22 _ (by omega)).trans fc
    have lc : w_22 (a + 675) = some (eO 5 [.ref (a + 675 + 1), .ref (a + 675 + 2), .int (iI (((pc0 : Nat) : Int)))]) := (ow_22 _ (by omega)).trans lc
    have s0c : w_22 (a + 523) = some (eO 6 [.ref (a + 523 + 1), .int (iI (t0)), .int (bI (s0.isSome))]) := (ow_22 _ (by omega)).trans s0c
    have s1c : w_22 (a + 598) = some (eO 6 [.ref (a + 598 + 1), .int (iI (t1)), .int (bI (s1.isSome))]) := (ow_22 _ (by omega)).trans s1c
    have xB : tx w_22 (a + 1) 40 B := xB.off ow_22 (by omega)
    have xS0 : slt w_22 (a + 523) s0 := xS0.off ow_22 (by omega)
    have xS1 : slt w_22 (a + 598) s1 := xS1.off ow_22 (by omega)
    have xF : fd w_22 (a + 673) b0 b1 b2 eh := xF.off ow_22 (by omega)
    have xR : fr w_22 (a + 673) 0 ri := xR.off ow_22 (by omega)
    have xL : plo w_22 (a + 675) pc0 oh0 ch0 := xL.off ow_22 (by omega)
    have xA : chA w_22 (a + 675) := xA.off ow_22 (by omega)
    obtain ⟨ph, qa, P, hO0, hhx⟩ := id xH
    have hc := hO0.1
    rw [List.length_take] at hc
    refine r_aload_n hb 26 dX8_undo_25 rfl 0 rfl ?_
    refine r_get hb ho 29 dX8_undo_26 rfl lk_X8_28 pf_X8_2 xc rfl ?_
    refine r_get hb ho 32 dX8_undo_29 rfl lk_X8_166 pf_X2_1 hc rfl ?_
    refine r_iret hS dX8_undo_32 rfl rfl (Nat.zero_le _) (Nat.zero_le _) ?_
    rw [Nat.min_eq_left (by omega)]
    have e : oUndo B D l nx hs s0 s1 thr  = (iI ((hs.length - 1 : Nat) : Int), (B, hg hs (hs.length - 1), hs.take (hs.length - 1), s0, s1, thr)) := by unfold oUndo; rw [if_neg (by omega)]
    rw [e]
    exact ⟨_, rfl, rfl, rfl, ⟨xc, xB, xP, xH, xS0, xS1, ⟨_, _, _, _, xF⟩, ⟨_, xR⟩, ⟨_, _, _, xL, xLc⟩, xA⟩, (ow_22.mono (by omega) (by omega))⟩
  · refine r_sipush (-1003) hb 13 dX8_undo_10 rfl rfl ?_
    refine r_iret hS dX8_undo_13 rfl rfl (Nat.zero_le _) (Nat.zero_le _) ?_
    have e : oUndo B D l nx hs s0 s1 thr  = (iI (-1003), (B, (D, l, nx), hs, s0, s1, thr)) := by unfold oUndo; rw [if_pos (by omega)]
    rw [e]
    exact ⟨_, rfl, rfl, rfl, hX, off.rfl' _ _ _⟩

abbrev rm_X8_length : Room := { frames := 0, cells := 0, slots := 0, locals := 0 }
set_option maxHeartbeats 4000000 in
set_option maxRecDepth 100000 in
theorem c_X8_length (a : Nat) (B D : List Int32) (l : List Nt) (nx : Nat) (hs : List Pg) (s0 s1 : Option (Pg × Int)) (thr : Int)  {w : PW} {n : Nat} (hX : xoE w a B D l nx hs s0 s1 thr) : Ct1 yX8_length cX8_length 1 (some .int) rm_X8_length [.ref a] w n (fun v w1 n1 => v = .int (oLen B D l nx hs s0 s1 thr ).1 ∧ n = n1 ∧ xo w1 a (oLen B D l nx hs s0 s1 thr ).2 ∧ off w w1 a (a + 729)) := by
  obtain ⟨xc, xB, xP, xH, xS0, xS1, ⟨b0, b1, b2, eh, xF⟩, ⟨ri, xR⟩, ⟨pc0, oh0, ch0, xL, xLc⟩, xA⟩ := id hX
  have bc := xB.1
  have bl := xB.2.1
  obtain ⟨h, pa, xs, hG, hx⟩ := id xP
  obtain ⟨gc, gT, gcl, gnx, ⟨ga, gh⟩, ⟨gs1, gs2⟩, gN⟩ := id hG
  have gd := gT.1
  have gdl := gT.2.1
  obtain ⟨ph, qa, P, hO0, hhx⟩ := id xH
  have hc := hO0.1
  have hcl := hO0.2.2.2.2.2
  have fc := xF
  have lc := xL.1
  obtain ⟨p0, t0, s0c, s0p, s0e⟩ := id xS0
  obtain ⟨p1, t1, s1c, s1p, s1e⟩ := id xS1
  refine Ctr.of rfl (Nat.le_of_ble_eq_true rfl) fun S hS => ?_
  have hb : S.1.1 = cX8_length := by rw [hS]; rfl
  have ho : S.1.2.1 = RX8 := by rw [hS]; rfl
  have hnL : S.1.2.2.1 = 1 := by rw [hS]; rfl
  have hR0 : S.2.1 = rm_X8_length := by rw [hS]; rfl
  show Wp S 0 [(0, .ref a)] [] w n 0 0
  refine r_aload_n hb 1 dX8_length_0 rfl 0 rfl ?_
  refine r_get hb ho 4 dX8_length_1 rfl lk_X8_21 pf_X8_1 xc rfl ?_
  refine r_get hb ho 7 dX8_length_4 rfl lk_X8_73 pf_X4_0 gc rfl ?_
  refine r_get hb ho 10 dX8_length_7 rfl lk_X8_60 pf_X7_1 gd rfl ?_
  refine r_iret hS dX8_length_10 rfl rfl (Nat.zero_le _) (Nat.zero_le _) ?_
  have e : oLen B D l nx hs s0 s1 thr  = (iI ((D.length : Nat) : Int), (B, (D, l, nx), hs, s0, s1, thr)) := by unfold oLen; rfl
  rw [e]
  exact ⟨_, rfl, rfl, rfl, hX, off.rfl' _ _ _⟩

abbrev rm_X8_letter : Room := { frames := 1, cells := 0, slots := 0, locals := 21 }
set_option maxHeartbeats 4000000 in
set_option maxRecDepth 100000 in
theorem c_X8_letter (a : Nat) (B D : List Int32) (l : List Nt) (nx : Nat) (hs : List Pg) (s0 s1 : Option (Pg × Int)) (thr : Int) (z : Int) {w : PW} {n : Nat} (hX : xoE w a B D l nx hs s0 s1 thr) (hzb : -2147483648 ≤ z ∧ z < 2147483648) : Ct1 yX8_letter cX8_letter 2 (some .int) rm_X8_letter [.ref a, .int (iI (z))] w n (fun v w1 n1 => v = .int (oLet B D l nx hs s0 s1 thr z).1 ∧ n = n1 ∧ xo w1 a (oLet B D l nx hs s0 s1 thr z).2 ∧ off w w1 a (a + 729)) := by
  obtain ⟨xc, xB, xP, xH, xS0, xS1, ⟨b0, b1, b2, eh, xF⟩, ⟨ri, xR⟩, ⟨pc0, oh0, ch0, xL, xLc⟩, xA⟩ := id hX
  have bc := xB.1
  have bl := xB.2.1
  obtain ⟨h, pa, xs, hG, hx⟩ := id xP
  obtain ⟨gc, gT, gcl, gnx, ⟨ga, gh⟩, ⟨gs1, gs2⟩, gN⟩ := id hG
  have gd := gT.1
  have gdl := gT.2.1
  obtain ⟨ph, qa, P, hO0, hhx⟩ := id xH
  have hc := hO0.1
  have hcl := hO0.2.2.2.2.2
  have fc := xF
  have lc := xL.1
  obtain ⟨p0, t0, s0c, s0p, s0e⟩ := id xS0
  obtain ⟨p1, t1, s1c, s1p, s1e⟩ := id xS1
  refine Ctr.of rfl (Nat.le_of_ble_eq_true rfl) fun S hS => ?_
  have hb : S.1.1 = cX8_letter := by rw [hS]; rfl
  have ho : S.1.2.1 = RX8 := by rw [hS]; rfl
  have hnL : S.1.2.2.1 = 2 := by rw [hS]; rfl
  have hR0 : S.2.1 = rm_X8_letter := by rw [hS]; rfl
  show Wp S 0 [(0, .ref a), (1, .int (iI (z)))] [] w n 0 0
  refine r_aload_n hb 1 dX8_letter_0 rfl 0 rfl ?_
  refine r_iload_n hb 2 dX8_letter_1 rfl 1 rfl ?_
  refine r_callVR (st := []) hb ho 5 dX8_letter_2 rfl ck_X8_170 (c_X8_isLetterIndex a B D l nx hs s0 s1 thr z hX hzb) rfl rfl (xc) rfl rfl (by rw [hR0]; exact ⟨Nat.le_of_ble_eq_true rfl, Nat.le_of_ble_eq_true rfl⟩) (Nat.le_of_ble_eq_true rfl) ⟨rfl, rfl⟩ (by rw [hR0]; exact Nat.zero_le _) (by rw [hR0]; exact Nat.zero_le _) ?_
  refine r_ifb_ne hb 8 12 dX8_letter_5 rfl (by decide) (fun c5 => ?_) (fun c5 => ?_)
  · refine r_aload_n hb 13 dX8_letter_12 rfl 0 rfl ?_
    refine r_get hb ho 16 dX8_letter_13 rfl lk_X8_21 pf_X8_1 xc rfl ?_
    refine r_get hb ho 19 dX8_letter_16 rfl lk_X8_73 pf_X4_0 gc rfl ?_
    refine r_iload_n hb 20 dX8_letter_19 rfl 1 rfl ?_
    refine r_callVR (st := []) hb ho 23 dX8_letter_20 rfl ck_X8_173 (c_X7_at (a + 3 + 1) 120 D z gT (by omega) hzb) rfl rfl (gd) rfl rfl (by rw [hR0]; exact ⟨Nat.le_of_ble_eq_true rfl, Nat.le_of_ble_eq_true rfl⟩) (Nat.le_of_ble_eq_true rfl) ⟨rfl, rfl⟩ (by rw [hR0]; exact Nat.zero_le _) (by rw [hR0]; exact Nat.zero_le _) ?_
    refine r_iret hS dX8_letter_23 rfl rfl (Nat.zero_le _) (Nat.zero_le _) ?_
    have hl := of_decide_eq_true c5
    have e : oLet B D l nx hs s0 s1 thr z = (textAt D z, (B, (D, l, nx), hs, s0, s1, thr)) := by unfold oLet; rw [if_neg (by rw [c5]; decide), textAt_in hl.1 hl.2]
    rw [e]
    exact ⟨_, rfl, rfl, rfl, hX, off.rfl' _ _ _⟩
  · refine r_sipush (-1001) hb 11 dX8_letter_8 rfl rfl ?_
    refine r_iret hS dX8_letter_11 rfl rfl (Nat.zero_le _) (Nat.zero_le _) ?_
    have e : oLet B D l nx hs s0 s1 thr z = (iI (-1001), (B, (D, l, nx), hs, s0, s1, thr)) := by unfold oLet; rw [if_pos c5]
    rw [e]
    exact ⟨_, rfl, rfl, rfl, hX, off.rfl' _ _ _⟩

abbrev rm_X8_comments : Room := { frames := 0, cells := 0, slots := 0, locals := 0 }
set_option maxHeartbeats 4000000 in
set_option maxRecDepth 100000 in
theorem c_X8_comments (a : Nat) (B D : List Int32) (l : List Nt) (nx : Nat) (hs : List Pg) (s0 s1 : Option (Pg × Int)) (thr : Int)  {w : PW} {n : Nat} (hX : xoE w a B D l nx hs s0 s1 thr) : Ct1 yX8_comments cX8_comments 1 (some .int) rm_X8_comments [.ref a] w n (fun v w1 n1 => v = .int (oCnt B D l nx hs s0 s1 thr ).1 ∧ n = n1 ∧ xo w1 a (oCnt B D l nx hs s0 s1 thr ).2 ∧ off w w1 a (a + 729)) := by
  obtain ⟨xc, xB, xP, xH, xS0, xS1, ⟨b0, b1, b2, eh, xF⟩, ⟨ri, xR⟩, ⟨pc0, oh0, ch0, xL, xLc⟩, xA⟩ := id hX
  have bc := xB.1
  have bl := xB.2.1
  obtain ⟨h, pa, xs, hG, hx⟩ := id xP
  obtain ⟨gc, gT, gcl, gnx, ⟨ga, gh⟩, ⟨gs1, gs2⟩, gN⟩ := id hG
  have gd := gT.1
  have gdl := gT.2.1
  obtain ⟨ph, qa, P, hO0, hhx⟩ := id xH
  have hc := hO0.1
  have hcl := hO0.2.2.2.2.2
  have fc := xF
  have lc := xL.1
  obtain ⟨p0, t0, s0c, s0p, s0e⟩ := id xS0
  obtain ⟨p1, t1, s1c, s1p, s1e⟩ := id xS1
  refine Ctr.of rfl (Nat.le_of_ble_eq_true rfl) fun S hS => ?_
  have hb : S.1.1 = cX8_comments := by rw [hS]; rfl
  have ho : S.1.2.1 = RX8 := by rw [hS]; rfl
  have hnL : S.1.2.2.1 = 1 := by rw [hS]; rfl
  have hR0 : S.2.1 = rm_X8_comments := by rw [hS]; rfl
  show Wp S 0 [(0, .ref a)] [] w n 0 0
  refine r_aload_n hb 1 dX8_comments_0 rfl 0 rfl ?_
  refine r_get hb ho 4 dX8_comments_1 rfl lk_X8_21 pf_X8_1 xc rfl ?_
  refine r_get hb ho 7 dX8_comments_4 rfl lk_X8_96 pf_X4_2 gc rfl ?_
  refine r_iret hS dX8_comments_7 rfl rfl (Nat.zero_le _) (Nat.zero_le _) ?_
  have e : oCnt B D l nx hs s0 s1 thr  = (iI ((l.length : Nat) : Int), (B, (D, l, nx), hs, s0, s1, thr)) := by unfold oCnt; rfl
  rw [e]
  exact ⟨_, rfl, rfl, rfl, hX, off.rfl' _ _ _⟩

abbrev rm_X8_commentAt : Room := { frames := 0, cells := 0, slots := 0, locals := 0 }
set_option maxHeartbeats 4000000 in
set_option maxRecDepth 100000 in
theorem c_X8_commentAt (a : Nat) (B D : List Int32) (l : List Nt) (nx : Nat) (hs : List Pg) (s0 s1 : Option (Pg × Int)) (thr : Int) (z : Int) {w : PW} {n : Nat} (hX : xoE w a B D l nx hs s0 s1 thr) (hzb : -2147483648 ≤ z ∧ z < 2147483648) : Ct1 yX8_commentAt cX8_commentAt 2 (some .int) rm_X8_commentAt [.ref a, .int (iI (z))] w n (fun v w1 n1 => v = .int (oAt B D l nx hs s0 s1 thr z).1 ∧ n = n1 ∧ xo w1 a (oAt B D l nx hs s0 s1 thr z).2 ∧ off w w1 a (a + 729)) := by
  obtain ⟨xc, xB, xP, xH, xS0, xS1, ⟨b0, b1, b2, eh, xF⟩, ⟨ri, xR⟩, ⟨pc0, oh0, ch0, xL, xLc⟩, xA⟩ := id hX
  have bc := xB.1
  have bl := xB.2.1
  obtain ⟨h, pa, xs, hG, hx⟩ := id xP
  obtain ⟨gc, gT, gcl, gnx, ⟨ga, gh⟩, ⟨gs1, gs2⟩, gN⟩ := id hG
  have gd := gT.1
  have gdl := gT.2.1
  obtain ⟨ph, qa, P, hO0, hhx⟩ := id xH
  have hc := hO0.1
  have hcl := hO0.2.2.2.2.2
  have fc := xF
  have lc := xL.1
  obtain ⟨p0, t0, s0c, s0p, s0e⟩ := id xS0
  obtain ⟨p1, t1, s1c, s1p, s1e⟩ := id xS1
  refine Ctr.of rfl (Nat.le_of_ble_eq_true rfl) fun S hS => ?_
  have hb : S.1.1 = cX8_commentAt := by rw [hS]; rfl
  have ho : S.1.2.1 = RX8 := by rw [hS]; rfl
  have hnL : S.1.2.2.1 = 2 := by rw [hS]; rfl
  have hR0 : S.2.1 = rm_X8_commentAt := by rw [hS]; rfl
  show Wp S 0 [(0, .ref a), (1, .int (iI (z)))] [] w n 0 0
  refine r_iload_n hb 1 dX8_commentAt_0 rfl 1 rfl ?_
  refine r_if_lt hb 4 27 dX8_commentAt_1 rfl (by decide) (by omega) (fun c1 => ?_) (fun c1 => ?_)
  · refine r_sipush (-1001) hb 30 dX8_commentAt_27 rfl rfl ?_
    refine r_iret hS dX8_commentAt_30 rfl rfl (Nat.zero_le _) (Nat.zero_le _) ?_
    have e : oAt B D l nx hs s0 s1 thr z = (iI (-1001), (B, (D, l, nx), hs, s0, s1, thr)) := by unfold oAt; rw [if_pos (by omega)]
    rw [e]
    exact ⟨_, rfl, rfl, rfl, hX, off.rfl' _ _ _⟩
  · refine r_iload_n hb 5 dX8_commentAt_4 rfl 1 rfl ?_
    refine r_aload_n hb 6 dX8_commentAt_5 rfl 0 rfl ?_
    refine r_get hb ho 9 dX8_commentAt_6 rfl lk_X8_21 pf_X8_1 xc rfl ?_
    refine r_get hb ho 12 dX8_commentAt_9 rfl lk_X8_96 pf_X4_2 gc rfl ?_
    refine r_icmp_ge hb 15 27 dX8_commentAt_12 rfl (by decide) (by omega) (by omega) (fun c12 => ?_) (fun c12 => ?_)
    · refine r_sipush (-1001) hb 30 dX8_commentAt_27 rfl rfl ?_
      refine r_iret hS dX8_commentAt_30 rfl rfl (Nat.zero_le _) (Nat.zero_le _) ?_
      have e : oAt B D l nx hs s0 s1 thr z = (iI (-1001), (B, (D, l, nx), hs, s0, s1, thr)) := by unfold oAt; rw [if_pos (by omega)]
      rw [e]
      exact ⟨_, rfl, rfl, rfl, hX, off.rfl' _ _ _⟩
    · refine r_iload_n hb 16 dX8_commentAt_15 rfl 1 rfl ?_
      refine r_aload_n hb 17 dX8_commentAt_16 rfl 0 rfl ?_
      refine r_get hb ho 20 dX8_commentAt_17 rfl lk_X8_21 pf_X8_1 xc rfl ?_
      refine r_get hb ho 23 dX8_commentAt_20 rfl lk_X8_176 pf_X4_1 gc rfl ?_
      refine r_alen hb 24 dX8_commentAt_23 rfl ga (by decide) 10 rfl ?_
      refine r_icmp_lt hb 27 31 dX8_commentAt_24 rfl (by decide) (by omega) (by omega) (fun c24 => ?_) (fun c24 => ?_)
      · refine r_aload_n hb 32 dX8_commentAt_31 rfl 0 rfl ?_
        refine r_get hb ho 35 dX8_commentAt_32 rfl lk_X8_21 pf_X8_1 xc rfl ?_
        refine r_get hb ho 38 dX8_commentAt_35 rfl lk_X8_176 pf_X4_1 gc rfl ?_
        refine r_iload_n hb 39 dX8_commentAt_38 rfl 1 rfl ?_
        refine r_aald hb 40 dX8_commentAt_39 rfl ga (by decide) z.toNat (by omega) (⟨by omega, by omega⟩) (pa z.toNat) (gh _ (by omega)) ?_
        have n0 := ((hx z.toNat (by omega) ▸ gN z.toNat (by omega) : nt w (pa z.toNat) (lg l z.toNat))).1
        refine r_get hb ho 43 dX8_commentAt_40 rfl lk_X8_180 pf_X3_3 n0 rfl ?_
        refine r_iret hS dX8_commentAt_43 rfl rfl (Nat.zero_le _) (Nat.zero_le _) ?_
        have e : oAt B D l nx hs s0 s1 thr z = (iI ((nNum (lg l z.toNat) : Nat) : Int), (B, (D, l, nx), hs, s0, s1, thr)) := by unfold oAt; rw [if_neg (by omega)]
        rw [e]
        exact ⟨_, rfl, rfl, rfl, hX, off.rfl' _ _ _⟩
      · exfalso; omega

abbrev rm_X8_state : Room := { frames := 2, cells := 0, slots := 0, locals := 44 }
set_option maxHeartbeats 4000000 in
set_option maxRecDepth 100000 in
theorem c_X8_state (a : Nat) (B D : List Int32) (l : List Nt) (nx : Nat) (hs : List Pg) (s0 s1 : Option (Pg × Int)) (thr : Int) (z : Int) {w : PW} {n : Nat} (hX : xoE w a B D l nx hs s0 s1 thr) (hzb : -2147483648 ≤ z ∧ z < 2147483648) : Ct1 yX8_state cX8_state 3 (some .int) rm_X8_state [.ref a, .int (iI (z))] w n (fun v w1 n1 => v = .int (oSta B D l nx hs s0 s1 thr z).1 ∧ n = n1 ∧ xo w1 a (oSta B D l nx hs s0 s1 thr z).2 ∧ off w w1 a (a + 729)) := by
  obtain ⟨xc, xB, xP, xH, xS0, xS1, ⟨b0, b1, b2, eh, xF⟩, ⟨ri, xR⟩, ⟨pc0, oh0, ch0, xL, xLc⟩, xA⟩ := id hX
  have bc := xB.1
  have bl := xB.2.1
  obtain ⟨h, pa, xs, hG, hx⟩ := id xP
  obtain ⟨gc, gT, gcl, gnx, ⟨ga, gh⟩, ⟨gs1, gs2⟩, gN⟩ := id hG
  have gd := gT.1
  have gdl := gT.2.1
  obtain ⟨ph, qa, P, hO0, hhx⟩ := id xH
  have hc := hO0.1
  have hcl := hO0.2.2.2.2.2
  have fc := xF
  have lc := xL.1
  obtain ⟨p0, t0, s0c, s0p, s0e⟩ := id xS0
  obtain ⟨p1, t1, s1c, s1p, s1e⟩ := id xS1
  refine Ctr.of rfl (Nat.le_of_ble_eq_true rfl) fun S hS => ?_
  have hb : S.1.1 = cX8_state := by rw [hS]; rfl
  have ho : S.1.2.1 = RX8 := by rw [hS]; rfl
  have hnL : S.1.2.2.1 = 3 := by rw [hS]; rfl
  have hR0 : S.2.1 = rm_X8_state := by rw [hS]; rfl
  show Wp S 0 [(0, .ref a), (1, .int (iI (z)))] [] w n 0 0
  refine r_aload_n hb 1 dX8_state_0 rfl 0 rfl ?_
  refine r_get hb ho 4 dX8_state_1 rfl lk_X8_21 pf_X8_1 xc rfl ?_
  refine r_iload_n hb 5 dX8_state_4 rfl 1 rfl ?_
  by_cases hf : ixN l z < l.length
  · have hle_z := ixN_le l z
    refine r_callVR (st := []) hb ho 8 dX8_state_5 rfl ck_X8_109 (c_X4_find (a + 3) nx D h pa xs l z hG hx hzb hf) rfl rfl (gc) rfl rfl (by rw [hR0]; exact ⟨Nat.le_of_ble_eq_true rfl, Nat.le_of_ble_eq_true rfl⟩) (Nat.le_of_ble_eq_true rfl) ⟨rfl, rfl⟩ (by rw [hR0]; exact Nat.zero_le _) (by rw [hR0]; exact Nat.zero_le _) ?_
    have hN : nt w (pa (ixN l z)) (lg l (ixN l z)) := hx _ hf ▸ gN _ (by omega)
    obtain ⟨n0, nP0, nQ0, nS0, hnum, hnB, hnE⟩ := id hN
    have nq := nQ0.1
    have hsi := gs1 (ixN l z) (by omega)
    refine r_astore_n [(2, .ref (pa (ixN l z))), (0, .ref a), (1, .int (iI (z)))] hb 9 3 dX8_state_8 rfl rfl hnL (by decide) rfl ?_
    refine r_aload_n hb 10 dX8_state_9 rfl 0 rfl ?_
    refine r_ifnonnull hb 19 dX8_state_10 (by decide) ?_
    refine r_aload_n hb 20 dX8_state_19 rfl 0 rfl ?_
    refine r_get hb ho 23 dX8_state_20 rfl lk_X8_113 pf_X3_4 n0 rfl ?_
    refine r_iret hS dX8_state_23 rfl rfl (Nat.zero_le _) (Nat.zero_le _) ?_
    have e : oSta B D l nx hs s0 s1 thr z = (bI (nK (lg l (ixN l z))), (B, (D, l, nx), hs, s0, s1, thr)) := by unfold oSta; rw [if_neg (by omega)]
    rw [e]
    exact ⟨_, rfl, rfl, rfl, hX, off.rfl' _ _ _⟩
  · have hle_z := ixN_le l z
    refine r_callVR (st := []) hb ho 8 dX8_state_5 rfl ck_X8_109 (c_X4_findN (a + 3) nx D h pa xs l z hG hx hzb hf) rfl rfl (gc) rfl rfl (by rw [hR0]; exact ⟨Nat.le_of_ble_eq_true rfl, Nat.le_of_ble_eq_true rfl⟩) (Nat.le_of_ble_eq_true rfl) ⟨rfl, rfl⟩ (by rw [hR0]; exact Nat.zero_le _) (by rw [hR0]; exact Nat.zero_le _) ?_
    skip
    refine r_astore_nN [(2, .null), (0, .ref a), (1, .int (iI (z)))] hb 9 3 dX8_state_8 rfl rfl hnL (by decide) rfl ?_
    refine r_aload_nN hb 10 dX8_state_9 rfl 0 rfl ?_
    refine r_ifnonnullN hb 13 dX8_state_10 rfl ?_
    refine r_sipush (-1001) hb 16 dX8_state_13 rfl rfl ?_
    refine r_goto hb 23 dX8_state_16 (by decide) ?_
    refine r_iret hS dX8_state_23 rfl rfl (Nat.zero_le _) (Nat.zero_le _) ?_
    have e : oSta B D l nx hs s0 s1 thr z = (iI (-1001), (B, (D, l, nx), hs, s0, s1, thr)) := by unfold oSta; rw [if_pos (by omega)]
    rw [e]
    exact ⟨_, rfl, rfl, rfl, hX, off.rfl' _ _ _⟩

abbrev rm_X8_weight : Room := { frames := 2, cells := 0, slots := 0, locals := 44 }
set_option maxHeartbeats 4000000 in
set_option maxRecDepth 100000 in
theorem c_X8_weight (a : Nat) (B D : List Int32) (l : List Nt) (nx : Nat) (hs : List Pg) (s0 s1 : Option (Pg × Int)) (thr : Int) (z : Int) {w : PW} {n : Nat} (hX : xoE w a B D l nx hs s0 s1 thr) (hzb : -2147483648 ≤ z ∧ z < 2147483648) : Ct1 yX8_weight cX8_weight 3 (some .int) rm_X8_weight [.ref a, .int (iI (z))] w n (fun v w1 n1 => v = .int (oWei B D l nx hs s0 s1 thr z).1 ∧ n = n1 ∧ xo w1 a (oWei B D l nx hs s0 s1 thr z).2 ∧ off w w1 a (a + 729)) := by
  obtain ⟨xc, xB, xP, xH, xS0, xS1, ⟨b0, b1, b2, eh, xF⟩, ⟨ri, xR⟩, ⟨pc0, oh0, ch0, xL, xLc⟩, xA⟩ := id hX
  have bc := xB.1
  have bl := xB.2.1
  obtain ⟨h, pa, xs, hG, hx⟩ := id xP
  obtain ⟨gc, gT, gcl, gnx, ⟨ga, gh⟩, ⟨gs1, gs2⟩, gN⟩ := id hG
  have gd := gT.1
  have gdl := gT.2.1
  obtain ⟨ph, qa, P, hO0, hhx⟩ := id xH
  have hc := hO0.1
  have hcl := hO0.2.2.2.2.2
  have fc := xF
  have lc := xL.1
  obtain ⟨p0, t0, s0c, s0p, s0e⟩ := id xS0
  obtain ⟨p1, t1, s1c, s1p, s1e⟩ := id xS1
  refine Ctr.of rfl (Nat.le_of_ble_eq_true rfl) fun S hS => ?_
  have hb : S.1.1 = cX8_weight := by rw [hS]; rfl
  have ho : S.1.2.1 = RX8 := by rw [hS]; rfl
  have hnL : S.1.2.2.1 = 3 := by rw [hS]; rfl
  have hR0 : S.2.1 = rm_X8_weight := by rw [hS]; rfl
  show Wp S 0 [(0, .ref a), (1, .int (iI (z)))] [] w n 0 0
  refine r_aload_n hb 1 dX8_weight_0 rfl 0 rfl ?_
  refine r_get hb ho 4 dX8_weight_1 rfl lk_X8_21 pf_X8_1 xc rfl ?_
  refine r_iload_n hb 5 dX8_weight_4 rfl 1 rfl ?_
  by_cases hf : ixN l z < l.length
  · have hle_z := ixN_le l z
    refine r_callVR (st := []) hb ho 8 dX8_weight_5 rfl ck_X8_109 (c_X4_find (a + 3) nx D h pa xs l z hG hx hzb hf) rfl rfl (gc) rfl rfl (by rw [hR0]; exact ⟨Nat.le_of_ble_eq_true rfl, Nat.le_of_ble_eq_true rfl⟩) (Nat.le_of_ble_eq_true rfl) ⟨rfl, rfl⟩ (by rw [hR0]; exact Nat.zero_le _) (by rw [hR0]; exact Nat.zero_le _) ?_
    have hN : nt w (pa (ixN l z)) (lg l (ixN l z)) := hx _ hf ▸ gN _ (by omega)
    obtain ⟨n0, nP0, nQ0, nS0, hnum, hnB, hnE⟩ := id hN
    have nq := nQ0.1
    have hsi := gs1 (ixN l z) (by omega)
    refine r_astore_n [(2, .ref (pa (ixN l z))), (0, .ref a), (1, .int (iI (z)))] hb 9 3 dX8_weight_8 rfl rfl hnL (by decide) rfl ?_
    refine r_aload_n hb 10 dX8_weight_9 rfl 0 rfl ?_
    refine r_ifnonnull hb 19 dX8_weight_10 (by decide) ?_
    refine r_aload_n hb 20 dX8_weight_19 rfl 0 rfl ?_
    refine r_get hb ho 23 dX8_weight_20 rfl lk_X8_183 pf_X3_7 n0 rfl ?_
    refine r_iret hS dX8_weight_23 rfl rfl (Nat.zero_le _) (Nat.zero_le _) ?_
    have e : oWei B D l nx hs s0 s1 thr z = (nW (lg l (ixN l z)), (B, (D, l, nx), hs, s0, s1, thr)) := by unfold oWei; rw [if_neg (by omega)]
    rw [e]
    exact ⟨_, rfl, rfl, rfl, hX, off.rfl' _ _ _⟩
  · have hle_z := ixN_le l z
    refine r_callVR (st := []) hb ho 8 dX8_weight_5 rfl ck_X8_109 (c_X4_findN (a + 3) nx D h pa xs l z hG hx hzb hf) rfl rfl (gc) rfl rfl (by rw [hR0]; exact ⟨Nat.le_of_ble_eq_true rfl, Nat.le_of_ble_eq_true rfl⟩) (Nat.le_of_ble_eq_true rfl) ⟨rfl, rfl⟩ (by rw [hR0]; exact Nat.zero_le _) (by rw [hR0]; exact Nat.zero_le _) ?_
    skip
    refine r_astore_nN [(2, .null), (0, .ref a), (1, .int (iI (z)))] hb 9 3 dX8_weight_8 rfl rfl hnL (by decide) rfl ?_
    refine r_aload_nN hb 10 dX8_weight_9 rfl 0 rfl ?_
    refine r_ifnonnullN hb 13 dX8_weight_10 rfl ?_
    refine r_sipush (-1001) hb 16 dX8_weight_13 rfl rfl ?_
    refine r_goto hb 23 dX8_weight_16 (by decide) ?_
    refine r_iret hS dX8_weight_23 rfl rfl (Nat.zero_le _) (Nat.zero_le _) ?_
    have e : oWei B D l nx hs s0 s1 thr z = (iI (-1001), (B, (D, l, nx), hs, s0, s1, thr)) := by unfold oWei; rw [if_pos (by omega)]
    rw [e]
    exact ⟨_, rfl, rfl, rfl, hX, off.rfl' _ _ _⟩

abbrev rm_X8_range : Room := { frames := 2, cells := 0, slots := 0, locals := 44 }
set_option maxHeartbeats 4000000 in
set_option maxRecDepth 100000 in
theorem c_X8_range (a : Nat) (B D : List Int32) (l : List Nt) (nx : Nat) (hs : List Pg) (s0 s1 : Option (Pg × Int)) (thr : Int) (z : Int) (b : Bool) {w : PW} {n : Nat} (hX : xoE w a B D l nx hs s0 s1 thr) (hzb : -2147483648 ≤ z ∧ z < 2147483648) : Ct1 yX8_range cX8_range 4 (some .int) rm_X8_range [.ref a, .int (iI (z)), .int (bI (b))] w n (fun v w1 n1 => v = .int (oRan B D l nx hs s0 s1 thr z b).1 ∧ n = n1 ∧ xo w1 a (oRan B D l nx hs s0 s1 thr z b).2 ∧ off w w1 a (a + 729)) := by
  obtain ⟨xc, xB, xP, xH, xS0, xS1, ⟨b0, b1, b2, eh, xF⟩, ⟨ri, xR⟩, ⟨pc0, oh0, ch0, xL, xLc⟩, xA⟩ := id hX
  have bc := xB.1
  have bl := xB.2.1
  obtain ⟨h, pa, xs, hG, hx⟩ := id xP
  obtain ⟨gc, gT, gcl, gnx, ⟨ga, gh⟩, ⟨gs1, gs2⟩, gN⟩ := id hG
  have gd := gT.1
  have gdl := gT.2.1
  obtain ⟨ph, qa, P, hO0, hhx⟩ := id xH
  have hc := hO0.1
  have hcl := hO0.2.2.2.2.2
  have fc := xF
  have lc := xL.1
  obtain ⟨p0, t0, s0c, s0p, s0e⟩ := id xS0
  obtain ⟨p1, t1, s1c, s1p, s1e⟩ := id xS1
  refine Ctr.of rfl (Nat.le_of_ble_eq_true rfl) fun S hS => ?_
  have hb : S.1.1 = cX8_range := by rw [hS]; rfl
  have ho : S.1.2.1 = RX8 := by rw [hS]; rfl
  have hnL : S.1.2.2.1 = 4 := by rw [hS]; rfl
  have hR0 : S.2.1 = rm_X8_range := by rw [hS]; rfl
  show Wp S 0 [(0, .ref a), (1, .int (iI (z))), (2, .int (bI (b)))] [] w n 0 0
  refine r_aload_n hb 1 dX8_range_0 rfl 0 rfl ?_
  refine r_get hb ho 4 dX8_range_1 rfl lk_X8_21 pf_X8_1 xc rfl ?_
  refine r_iload_n hb 5 dX8_range_4 rfl 1 rfl ?_
  by_cases hf : ixN l z < l.length
  · have hle_z := ixN_le l z
    refine r_callVR (st := []) hb ho 8 dX8_range_5 rfl ck_X8_109 (c_X4_find (a + 3) nx D h pa xs l z hG hx hzb hf) rfl rfl (gc) rfl rfl (by rw [hR0]; exact ⟨Nat.le_of_ble_eq_true rfl, Nat.le_of_ble_eq_true rfl⟩) (Nat.le_of_ble_eq_true rfl) ⟨rfl, rfl⟩ (by rw [hR0]; exact Nat.zero_le _) (by rw [hR0]; exact Nat.zero_le _) ?_
    have hN : nt w (pa (ixN l z)) (lg l (ixN l z)) := hx _ hf ▸ gN _ (by omega)
    obtain ⟨n0, nP0, nQ0, nS0, hnum, hnB, hnE⟩ := id hN
    have nq := nQ0.1
    have hsi := gs1 (ixN l z) (by omega)
    refine r_astore_n [(3, .ref (pa (ixN l z))), (0, .ref a), (1, .int (iI (z))), (2, .int (bI (b)))] hb 9 4 dX8_range_8 rfl rfl hnL (by decide) rfl ?_
    refine r_aload_n hb 10 dX8_range_9 rfl 0 rfl ?_
    refine r_ifnonnull hb 17 dX8_range_10 (by decide) ?_
    refine r_iload_n hb 18 dX8_range_17 rfl 3 rfl ?_
    refine r_ifb_eq hb 21 28 dX8_range_18 rfl (by decide) (fun c18 => ?_) (fun c18 => ?_)
    · refine r_aload_n hb 29 dX8_range_28 rfl 0 rfl ?_
      refine r_get hb ho 32 dX8_range_29 rfl lk_X8_121 pf_X3_5 n0 rfl ?_
      refine r_iret hS dX8_range_32 rfl rfl (Nat.zero_le _) (Nat.zero_le _) ?_
      subst c18
      have e : oRan B D l nx hs s0 s1 thr z false = (iI ((nB (lg l (ixN l z)) : Nat) : Int), (B, (D, l, nx), hs, s0, s1, thr)) := by unfold oRan; rw [if_neg (by omega)]; rfl
      rw [e]
      exact ⟨_, rfl, rfl, rfl, hX, off.rfl' _ _ _⟩
    · refine r_aload_n hb 22 dX8_range_21 rfl 0 rfl ?_
      refine r_get hb ho 25 dX8_range_22 rfl lk_X8_118 pf_X3_6 n0 rfl ?_
      refine r_goto hb 32 dX8_range_25 (by decide) ?_
      refine r_iret hS dX8_range_32 rfl rfl (Nat.zero_le _) (Nat.zero_le _) ?_
      subst c18
      have e : oRan B D l nx hs s0 s1 thr z true = (iI ((nE (lg l (ixN l z)) : Nat) : Int), (B, (D, l, nx), hs, s0, s1, thr)) := by unfold oRan; rw [if_neg (by omega)]; rfl
      rw [e]
      exact ⟨_, rfl, rfl, rfl, hX, off.rfl' _ _ _⟩
  · have hle_z := ixN_le l z
    refine r_callVR (st := []) hb ho 8 dX8_range_5 rfl ck_X8_109 (c_X4_findN (a + 3) nx D h pa xs l z hG hx hzb hf) rfl rfl (gc) rfl rfl (by rw [hR0]; exact ⟨Nat.le_of_ble_eq_true rfl, Nat.le_of_ble_eq_true rfl⟩) (Nat.le_of_ble_eq_true rfl) ⟨rfl, rfl⟩ (by rw [hR0]; exact Nat.zero_le _) (by rw [hR0]; exact Nat.zero_le _) ?_
    skip
    refine r_astore_nN [(3, .null), (0, .ref a), (1, .int (iI (z))), (2, .int (bI (b)))] hb 9 4 dX8_range_8 rfl rfl hnL (by decide) rfl ?_
    refine r_aload_nN hb 10 dX8_range_9 rfl 0 rfl ?_
    refine r_ifnonnullN hb 13 dX8_range_10 rfl ?_
    refine r_sipush (-1001) hb 16 dX8_range_13 rfl rfl ?_
    refine r_iret hS dX8_range_16 rfl rfl (Nat.zero_le _) (Nat.zero_le _) ?_
    have e : oRan B D l nx hs s0 s1 thr z b = (iI (-1001), (B, (D, l, nx), hs, s0, s1, thr)) := by unfold oRan; rw [if_pos (by omega)]
    rw [e]
    exact ⟨_, rfl, rfl, rfl, hX, off.rfl' _ _ _⟩

abbrev rm_X8_quoted : Room := { frames := 2, cells := 0, slots := 0, locals := 44 }
set_option maxHeartbeats 4000000 in
set_option maxRecDepth 100000 in
theorem c_X8_quoted (a : Nat) (B D : List Int32) (l : List Nt) (nx : Nat) (hs : List Pg) (s0 s1 : Option (Pg × Int)) (thr : Int) (z p i : Int) {w : PW} {n : Nat} (hX : xoE w a B D l nx hs s0 s1 thr) (hzb : -2147483648 ≤ z ∧ z < 2147483648) (hpb : -2147483648 ≤ p ∧ p < 2147483648) (hib : -2147483648 ≤ i ∧ i < 2147483648) : Ct1 yX8_quoted cX8_quoted 6 (some .int) rm_X8_quoted [.ref a, .int (iI (z)), .int (iI (p)), .int (iI (i))] w n (fun v w1 n1 => v = .int (oQtd B D l nx hs s0 s1 thr z p i).1 ∧ n = n1 ∧ xo w1 a (oQtd B D l nx hs s0 s1 thr z p i).2 ∧ off w w1 a (a + 729)) := by
  obtain ⟨xc, xB, xP, xH, xS0, xS1, ⟨b0, b1, b2, eh, xF⟩, ⟨ri, xR⟩, ⟨pc0, oh0, ch0, xL, xLc⟩, xA⟩ := id hX
  have bc := xB.1
  have bl := xB.2.1
  obtain ⟨h, pa, xs, hG, hx⟩ := id xP
  obtain ⟨gc, gT, gcl, gnx, ⟨ga, gh⟩, ⟨gs1, gs2⟩, gN⟩ := id hG
  have gd := gT.1
  have gdl := gT.2.1
  obtain ⟨ph, qa, P, hO0, hhx⟩ := id xH
  have hc := hO0.1
  have hcl := hO0.2.2.2.2.2
  have fc := xF
  have lc := xL.1
  obtain ⟨p0, t0, s0c, s0p, s0e⟩ := id xS0
  obtain ⟨p1, t1, s1c, s1p, s1e⟩ := id xS1
  refine Ctr.of rfl (Nat.le_of_ble_eq_true rfl) fun S hS => ?_
  have hb : S.1.1 = cX8_quoted := by rw [hS]; rfl
  have ho : S.1.2.1 = RX8 := by rw [hS]; rfl
  have hnL : S.1.2.2.1 = 6 := by rw [hS]; rfl
  have hR0 : S.2.1 = rm_X8_quoted := by rw [hS]; rfl
  show Wp S 0 [(0, .ref a), (1, .int (iI (z))), (2, .int (iI (p))), (3, .int (iI (i)))] [] w n 0 0
  refine r_aload_n hb 1 dX8_quoted_0 rfl 0 rfl ?_
  refine r_get hb ho 4 dX8_quoted_1 rfl lk_X8_21 pf_X8_1 xc rfl ?_
  refine r_iload_n hb 5 dX8_quoted_4 rfl 1 rfl ?_
  by_cases hf : ixN l z < l.length
  · have hle_z := ixN_le l z
    refine r_callVR (st := []) hb ho 8 dX8_quoted_5 rfl ck_X8_109 (c_X4_find (a + 3) nx D h pa xs l z hG hx hzb hf) rfl rfl (gc) rfl rfl (by rw [hR0]; exact ⟨Nat.le_of_ble_eq_true rfl, Nat.le_of_ble_eq_true rfl⟩) (Nat.le_of_ble_eq_true rfl) ⟨rfl, rfl⟩ (by rw [hR0]; exact Nat.zero_le _) (by rw [hR0]; exact Nat.zero_le _) ?_
    have hN : nt w (pa (ixN l z)) (lg l (ixN l z)) := hx _ hf ▸ gN _ (by omega)
    obtain ⟨n0, nP0, nQ0, nS0, hnum, hnB, hnE⟩ := id hN
    have nq := nQ0.1
    have hsi := gs1 (ixN l z) (by omega)
    refine r_astore [(4, .ref (pa (ixN l z))), (0, .ref a), (1, .int (iI (z))), (2, .int (iI (p))), (3, .int (iI (i)))] hb 10 6 dX8_quoted_8 rfl hnL (by decide) rfl ?_
    refine r_aload hb 12 dX8_quoted_10 rfl 0 rfl ?_
    refine r_ifnonnull hb 19 dX8_quoted_12 (by decide) ?_
    refine r_iload_n hb 20 dX8_quoted_19 rfl 3 rfl ?_
    refine r_if_lt hb 23 28 dX8_quoted_20 rfl (by decide) (by omega) (fun c20 => ?_) (fun c20 => ?_)
    · refine r_sipush (-1002) hb 31 dX8_quoted_28 rfl rfl ?_
      refine r_iret hS dX8_quoted_31 rfl rfl (Nat.zero_le _) (Nat.zero_le _) ?_
      have e : oQtd B D l nx hs s0 s1 thr z p i = (iI (-1002), (B, (D, l, nx), hs, s0, s1, thr)) := by unfold oQtd; rw [if_neg (by omega), if_pos (by omega)]
      rw [e]
      exact ⟨_, rfl, rfl, rfl, hX, off.rfl' _ _ _⟩
    · refine r_iload_n hb 24 dX8_quoted_23 rfl 3 rfl ?_
      refine r_iconst hb 25 dX8_quoted_24 rfl ?_
      refine r_icmp_le hb 28 32 dX8_quoted_25 rfl (by decide) (by omega) (by omega) (fun c25 => ?_) (fun c25 => ?_)
      · have nt1 := nP0.1
        have nt3 := nQ0.1
        have nt5 := nS0.1
        have nl1 := nP0.2.1
        have nl3 := nQ0.2.1
        have nl5 := nS0.2.1
        refine r_iload_n hb 33 dX8_quoted_32 rfl 3 rfl ?_
        refine r_if_ne hb 36 44 dX8_quoted_33 rfl (by decide) (by omega) (fun c33 => ?_) (fun c33 => ?_)
        · refine r_iload_n hb 45 dX8_quoted_44 rfl 3 rfl ?_
          refine r_iconst hb 46 dX8_quoted_45 rfl ?_
          refine r_icmp_ne hb 49 57 dX8_quoted_46 rfl (by decide) (by omega) (by omega) (fun c46 => ?_) (fun c46 => ?_)
          · refine r_aload hb 59 dX8_quoted_57 rfl 0 rfl ?_
            refine r_get hb ho 62 dX8_quoted_59 rfl lk_X8_189 pf_X3_2 n0 rfl ?_
            refine r_astore [(5, .ref (pa (ixN l z) + 5)), (4, .ref (pa (ixN l z))), (0, .ref a), (1, .int (iI (z))), (2, .int (iI (p))), (3, .int (iI (i)))] hb 64 6 dX8_quoted_62 rfl hnL (by decide) rfl ?_
            refine r_iload_n hb 65 dX8_quoted_64 rfl 5 rfl ?_
            refine r_if_lt hb 68 77 dX8_quoted_65 rfl (by decide) (by omega) (fun c65 => ?_) (fun c65 => ?_)
            · refine r_sipush (-1005) hb 80 dX8_quoted_77 rfl rfl ?_
              refine r_goto hb 89 dX8_quoted_80 (by decide) ?_
              refine r_iret hS dX8_quoted_89 rfl rfl (Nat.zero_le _) (Nat.zero_le _) ?_
              have ep : prtN (lg l (ixN l z)) p = nS (lg l (ixN l z)) := by unfold prtN; rw [if_neg (by omega), if_neg (by omega)]
              have e : oQtd B D l nx hs s0 s1 thr z p i = (iI (-1005), (B, (D, l, nx), hs, s0, s1, thr)) := by unfold oQtd; rw [if_neg (by omega), if_neg (by omega), ep, if_pos (by omega)]
              rw [e]
              exact ⟨_, rfl, rfl, rfl, hX, off.rfl' _ _ _⟩
            · refine r_iload_n hb 69 dX8_quoted_68 rfl 5 rfl ?_
              refine r_aload hb 71 dX8_quoted_69 rfl 0 rfl ?_
              refine r_get hb ho 74 dX8_quoted_71 rfl lk_X8_60 pf_X7_1 nt5 rfl ?_
              refine r_icmp_lt hb 77 83 dX8_quoted_74 rfl (by decide) (by omega) (by omega) (fun c74 => ?_) (fun c74 => ?_)
              · refine r_aload hb 85 dX8_quoted_83 rfl 0 rfl ?_
                refine r_iload_n hb 86 dX8_quoted_85 rfl 5 rfl ?_
                refine r_callVR (st := []) hb ho 89 dX8_quoted_86 rfl ck_X8_173 (c_X7_at (pa (ixN l z) + 5) 6 (nS (lg l (ixN l z))) i nS0 (by omega) hib) rfl rfl (nS0.1) rfl rfl (by rw [hR0]; exact ⟨Nat.le_of_ble_eq_true rfl, Nat.le_of_ble_eq_true rfl⟩) (Nat.le_of_ble_eq_true rfl) ⟨rfl, rfl⟩ (by rw [hR0]; exact Nat.zero_le _) (by rw [hR0]; exact Nat.zero_le _) ?_
                refine r_iret hS dX8_quoted_89 rfl rfl (Nat.zero_le _) (Nat.zero_le _) ?_
                have ep : prtN (lg l (ixN l z)) p = nS (lg l (ixN l z)) := by unfold prtN; rw [if_neg (by omega), if_neg (by omega)]
                have e : oQtd B D l nx hs s0 s1 thr z p i = (textAt (nS (lg l (ixN l z))) i, (B, (D, l, nx), hs, s0, s1, thr)) := by unfold oQtd; rw [if_neg (by omega), if_neg (by omega), ep, if_neg (by omega), textAt_in (by omega) (by omega)]
                rw [e]
                exact ⟨_, rfl, rfl, rfl, hX, off.rfl' _ _ _⟩
              · refine r_sipush (-1005) hb 80 dX8_quoted_77 rfl rfl ?_
                refine r_goto hb 89 dX8_quoted_80 (by decide) ?_
                refine r_iret hS dX8_quoted_89 rfl rfl (Nat.zero_le _) (Nat.zero_le _) ?_
                have ep : prtN (lg l (ixN l z)) p = nS (lg l (ixN l z)) := by unfold prtN; rw [if_neg (by omega), if_neg (by omega)]
                have e : oQtd B D l nx hs s0 s1 thr z p i = (iI (-1005), (B, (D, l, nx), hs, s0, s1, thr)) := by unfold oQtd; rw [if_neg (by omega), if_neg (by omega), ep, if_pos (by omega)]
                rw [e]
                exact ⟨_, rfl, rfl, rfl, hX, off.rfl' _ _ _⟩
          · refine r_aload hb 51 dX8_quoted_49 rfl 0 rfl ?_
            refine r_get hb ho 54 dX8_quoted_51 rfl lk_X8_127 pf_X3_1 n0 rfl ?_
            refine r_goto hb 62 dX8_quoted_54 (by decide) ?_
            refine r_astore [(5, .ref (pa (ixN l z) + 3)), (4, .ref (pa (ixN l z))), (0, .ref a), (1, .int (iI (z))), (2, .int (iI (p))), (3, .int (iI (i)))] hb 64 6 dX8_quoted_62 rfl hnL (by decide) rfl ?_
            refine r_iload_n hb 65 dX8_quoted_64 rfl 5 rfl ?_
            refine r_if_lt hb 68 77 dX8_quoted_65 rfl (by decide) (by omega) (fun c65 => ?_) (fun c65 => ?_)
            · refine r_sipush (-1005) hb 80 dX8_quoted_77 rfl rfl ?_
              refine r_goto hb 89 dX8_quoted_80 (by decide) ?_
              refine r_iret hS dX8_quoted_89 rfl rfl (Nat.zero_le _) (Nat.zero_le _) ?_
              have ep : prtN (lg l (ixN l z)) p = nQ (lg l (ixN l z)) := by unfold prtN; rw [if_neg (by omega), if_pos (by omega)]
              have e : oQtd B D l nx hs s0 s1 thr z p i = (iI (-1005), (B, (D, l, nx), hs, s0, s1, thr)) := by unfold oQtd; rw [if_neg (by omega), if_neg (by omega), ep, if_pos (by omega)]
              rw [e]
              exact ⟨_, rfl, rfl, rfl, hX, off.rfl' _ _ _⟩
            · refine r_iload_n hb 69 dX8_quoted_68 rfl 5 rfl ?_
              refine r_aload hb 71 dX8_quoted_69 rfl 0 rfl ?_
              refine r_get hb ho 74 dX8_quoted_71 rfl lk_X8_60 pf_X7_1 nt3 rfl ?_
              refine r_icmp_lt hb 77 83 dX8_quoted_74 rfl (by decide) (by omega) (by omega) (fun c74 => ?_) (fun c74 => ?_)
              · refine r_aload hb 85 dX8_quoted_83 rfl 0 rfl ?_
                refine r_iload_n hb 86 dX8_quoted_85 rfl 5 rfl ?_
                refine r_callVR (st := []) hb ho 89 dX8_quoted_86 rfl ck_X8_173 (c_X7_at (pa (ixN l z) + 3) 16 (nQ (lg l (ixN l z))) i nQ0 (by omega) hib) rfl rfl (nQ0.1) rfl rfl (by rw [hR0]; exact ⟨Nat.le_of_ble_eq_true rfl, Nat.le_of_ble_eq_true rfl⟩) (Nat.le_of_ble_eq_true rfl) ⟨rfl, rfl⟩ (by rw [hR0]; exact Nat.zero_le _) (by rw [hR0]; exact Nat.zero_le _) ?_
                refine r_iret hS dX8_quoted_89 rfl rfl (Nat.zero_le _) (Nat.zero_le _) ?_
                have ep : prtN (lg l (ixN l z)) p = nQ (lg l (ixN l z)) := by unfold prtN; rw [if_neg (by omega), if_pos (by omega)]
                have e : oQtd B D l nx hs s0 s1 thr z p i = (textAt (nQ (lg l (ixN l z))) i, (B, (D, l, nx), hs, s0, s1, thr)) := by unfold oQtd; rw [if_neg (by omega), if_neg (by omega), ep, if_neg (by omega), textAt_in (by omega) (by omega)]
                rw [e]
                exact ⟨_, rfl, rfl, rfl, hX, off.rfl' _ _ _⟩
              · refine r_sipush (-1005) hb 80 dX8_quoted_77 rfl rfl ?_
                refine r_goto hb 89 dX8_quoted_80 (by decide) ?_
                refine r_iret hS dX8_quoted_89 rfl rfl (Nat.zero_le _) (Nat.zero_le _) ?_
                have ep : prtN (lg l (ixN l z)) p = nQ (lg l (ixN l z)) := by unfold prtN; rw [if_neg (by omega), if_pos (by omega)]
                have e : oQtd B D l nx hs s0 s1 thr z p i = (iI (-1005), (B, (D, l, nx), hs, s0, s1, thr)) := by unfold oQtd; rw [if_neg (by omega), if_neg (by omega), ep, if_pos (by omega)]
                rw [e]
                exact ⟨_, rfl, rfl, rfl, hX, off.rfl' _ _ _⟩
        · refine r_aload hb 38 dX8_quoted_36 rfl 0 rfl ?_
          refine r_get hb ho 41 dX8_quoted_38 rfl lk_X8_186 pf_X3_0 n0 rfl ?_
          refine r_goto hb 62 dX8_quoted_41 (by decide) ?_
          refine r_astore [(5, .ref (pa (ixN l z) + 1)), (4, .ref (pa (ixN l z))), (0, .ref a), (1, .int (iI (z))), (2, .int (iI (p))), (3, .int (iI (i)))] hb 64 6 dX8_quoted_62 rfl hnL (by decide) rfl ?_
          refine r_iload_n hb 65 dX8_quoted_64 rfl 5 rfl ?_
          refine r_if_lt hb 68 77 dX8_quoted_65 rfl (by decide) (by omega) (fun c65 => ?_) (fun c65 => ?_)
          · refine r_sipush (-1005) hb 80 dX8_quoted_77 rfl rfl ?_
            refine r_goto hb 89 dX8_quoted_80 (by decide) ?_
            refine r_iret hS dX8_quoted_89 rfl rfl (Nat.zero_le _) (Nat.zero_le _) ?_
            have ep : prtN (lg l (ixN l z)) p = nP (lg l (ixN l z)) := by unfold prtN; rw [if_pos (by omega)]
            have e : oQtd B D l nx hs s0 s1 thr z p i = (iI (-1005), (B, (D, l, nx), hs, s0, s1, thr)) := by unfold oQtd; rw [if_neg (by omega), if_neg (by omega), ep, if_pos (by omega)]
            rw [e]
            exact ⟨_, rfl, rfl, rfl, hX, off.rfl' _ _ _⟩
          · refine r_iload_n hb 69 dX8_quoted_68 rfl 5 rfl ?_
            refine r_aload hb 71 dX8_quoted_69 rfl 0 rfl ?_
            refine r_get hb ho 74 dX8_quoted_71 rfl lk_X8_60 pf_X7_1 nt1 rfl ?_
            refine r_icmp_lt hb 77 83 dX8_quoted_74 rfl (by decide) (by omega) (by omega) (fun c74 => ?_) (fun c74 => ?_)
            · refine r_aload hb 85 dX8_quoted_83 rfl 0 rfl ?_
              refine r_iload_n hb 86 dX8_quoted_85 rfl 5 rfl ?_
              refine r_callVR (st := []) hb ho 89 dX8_quoted_86 rfl ck_X8_173 (c_X7_at (pa (ixN l z) + 1) 6 (nP (lg l (ixN l z))) i nP0 (by omega) hib) rfl rfl (nP0.1) rfl rfl (by rw [hR0]; exact ⟨Nat.le_of_ble_eq_true rfl, Nat.le_of_ble_eq_true rfl⟩) (Nat.le_of_ble_eq_true rfl) ⟨rfl, rfl⟩ (by rw [hR0]; exact Nat.zero_le _) (by rw [hR0]; exact Nat.zero_le _) ?_
              refine r_iret hS dX8_quoted_89 rfl rfl (Nat.zero_le _) (Nat.zero_le _) ?_
              have ep : prtN (lg l (ixN l z)) p = nP (lg l (ixN l z)) := by unfold prtN; rw [if_pos (by omega)]
              have e : oQtd B D l nx hs s0 s1 thr z p i = (textAt (nP (lg l (ixN l z))) i, (B, (D, l, nx), hs, s0, s1, thr)) := by unfold oQtd; rw [if_neg (by omega), if_neg (by omega), ep, if_neg (by omega), textAt_in (by omega) (by omega)]
              rw [e]
              exact ⟨_, rfl, rfl, rfl, hX, off.rfl' _ _ _⟩
            · refine r_sipush (-1005) hb 80 dX8_quoted_77 rfl rfl ?_
              refine r_goto hb 89 dX8_quoted_80 (by decide) ?_
              refine r_iret hS dX8_quoted_89 rfl rfl (Nat.zero_le _) (Nat.zero_le _) ?_
              have ep : prtN (lg l (ixN l z)) p = nP (lg l (ixN l z)) := by unfold prtN; rw [if_pos (by omega)]
              have e : oQtd B D l nx hs s0 s1 thr z p i = (iI (-1005), (B, (D, l, nx), hs, s0, s1, thr)) := by unfold oQtd; rw [if_neg (by omega), if_neg (by omega), ep, if_pos (by omega)]
              rw [e]
              exact ⟨_, rfl, rfl, rfl, hX, off.rfl' _ _ _⟩
      · refine r_sipush (-1002) hb 31 dX8_quoted_28 rfl rfl ?_
        refine r_iret hS dX8_quoted_31 rfl rfl (Nat.zero_le _) (Nat.zero_le _) ?_
        have e : oQtd B D l nx hs s0 s1 thr z p i = (iI (-1002), (B, (D, l, nx), hs, s0, s1, thr)) := by unfold oQtd; rw [if_neg (by omega), if_pos (by omega)]
        rw [e]
        exact ⟨_, rfl, rfl, rfl, hX, off.rfl' _ _ _⟩
  · have hle_z := ixN_le l z
    refine r_callVR (st := []) hb ho 8 dX8_quoted_5 rfl ck_X8_109 (c_X4_findN (a + 3) nx D h pa xs l z hG hx hzb hf) rfl rfl (gc) rfl rfl (by rw [hR0]; exact ⟨Nat.le_of_ble_eq_true rfl, Nat.le_of_ble_eq_true rfl⟩) (Nat.le_of_ble_eq_true rfl) ⟨rfl, rfl⟩ (by rw [hR0]; exact Nat.zero_le _) (by rw [hR0]; exact Nat.zero_le _) ?_
    skip
    refine r_astoreN [(4, .null), (0, .ref a), (1, .int (iI (z))), (2, .int (iI (p))), (3, .int (iI (i)))] hb 10 6 dX8_quoted_8 rfl hnL (by decide) rfl ?_
    refine r_aloadN hb 12 dX8_quoted_10 rfl 0 rfl ?_
    refine r_ifnonnullN hb 15 dX8_quoted_12 rfl ?_
    refine r_sipush (-1001) hb 18 dX8_quoted_15 rfl rfl ?_
    refine r_iret hS dX8_quoted_18 rfl rfl (Nat.zero_le _) (Nat.zero_le _) ?_
    have e : oQtd B D l nx hs s0 s1 thr z p i = (iI (-1001), (B, (D, l, nx), hs, s0, s1, thr)) := by unfold oQtd; rw [if_pos (by omega)]
    rw [e]
    exact ⟨_, rfl, rfl, rfl, hX, off.rfl' _ _ _⟩

abbrev rm_X8_distance : Room := { frames := 3, cells := 0, slots := 0, locals := 75 }
set_option maxHeartbeats 4000000 in
set_option maxRecDepth 100000 in
theorem c_X8_distance (a : Nat) (B D : List Int32) (l : List Nt) (nx : Nat) (hs : List Pg) (s0 s1 : Option (Pg × Int)) (thr : Int) (z : Int) {w : PW} {n : Nat} (hX : xoE w a B D l nx hs s0 s1 thr) (hzb : -2147483648 ≤ z ∧ z < 2147483648) (hok : pOk (D, l, nx)) : Ct1 yX8_distance cX8_distance 3 (some .int) rm_X8_distance [.ref a, .int (iI (z))] w n (fun v w1 n1 => v = .int (oDis B D l nx hs s0 s1 thr z).1 ∧ n = n1 ∧ xo w1 a (oDis B D l nx hs s0 s1 thr z).2 ∧ off w w1 a (a + 729)) := by
  obtain ⟨xc, xB, xP, xH, xS0, xS1, ⟨b0, b1, b2, eh, xF⟩, ⟨ri, xR⟩, ⟨pc0, oh0, ch0, xL, xLc⟩, xA⟩ := id hX
  have bc := xB.1
  have bl := xB.2.1
  obtain ⟨h, pa, xs, hG, hx⟩ := id xP
  obtain ⟨gc, gT, gcl, gnx, ⟨ga, gh⟩, ⟨gs1, gs2⟩, gN⟩ := id hG
  have gd := gT.1
  have gdl := gT.2.1
  obtain ⟨ph, qa, P, hO0, hhx⟩ := id xH
  have hc := hO0.1
  have hcl := hO0.2.2.2.2.2
  have fc := xF
  have lc := xL.1
  obtain ⟨p0, t0, s0c, s0p, s0e⟩ := id xS0
  obtain ⟨p1, t1, s1c, s1p, s1e⟩ := id xS1
  refine Ctr.of rfl (Nat.le_of_ble_eq_true rfl) fun S hS => ?_
  have hb : S.1.1 = cX8_distance := by rw [hS]; rfl
  have ho : S.1.2.1 = RX8 := by rw [hS]; rfl
  have hnL : S.1.2.2.1 = 3 := by rw [hS]; rfl
  have hR0 : S.2.1 = rm_X8_distance := by rw [hS]; rfl
  show Wp S 0 [(0, .ref a), (1, .int (iI (z)))] [] w n 0 0
  refine r_aload_n hb 1 dX8_distance_0 rfl 0 rfl ?_
  refine r_get hb ho 4 dX8_distance_1 rfl lk_X8_21 pf_X8_1 xc rfl ?_
  refine r_iload_n hb 5 dX8_distance_4 rfl 1 rfl ?_
  by_cases hf : ixN l z < l.length
  · have hle_z := ixN_le l z
    refine r_callVR (st := []) hb ho 8 dX8_distance_5 rfl ck_X8_109 (c_X4_find (a + 3) nx D h pa xs l z hG hx hzb hf) rfl rfl (gc) rfl rfl (by rw [hR0]; exact ⟨Nat.le_of_ble_eq_true rfl, Nat.le_of_ble_eq_true rfl⟩) (Nat.le_of_ble_eq_true rfl) ⟨rfl, rfl⟩ (by rw [hR0]; exact Nat.zero_le _) (by rw [hR0]; exact Nat.zero_le _) ?_
    have hN : nt w (pa (ixN l z)) (lg l (ixN l z)) := hx _ hf ▸ gN _ (by omega)
    obtain ⟨n0, nP0, nQ0, nS0, hnum, hnB, hnE⟩ := id hN
    have nq := nQ0.1
    have hsi := gs1 (ixN l z) (by omega)
    refine r_astore_n [(2, .ref (pa (ixN l z))), (0, .ref a), (1, .int (iI (z)))] hb 9 3 dX8_distance_8 rfl rfl hnL (by decide) rfl ?_
    refine r_aload_n hb 10 dX8_distance_9 rfl 0 rfl ?_
    refine r_ifnonnull hb 17 dX8_distance_10 (by decide) ?_
    refine r_aload_n hb 18 dX8_distance_17 rfl 0 rfl ?_
    refine r_get hb ho 21 dX8_distance_18 rfl lk_X8_113 pf_X3_4 n0 rfl ?_
    refine r_ifb_ne hb 24 28 dX8_distance_21 rfl (by decide) (fun c21 => ?_) (fun c21 => ?_)
    · refine r_aload_n hb 29 dX8_distance_28 rfl 1 rfl ?_
      refine r_get hb ho 32 dX8_distance_29 rfl lk_X8_45 pf_X8_5 xc rfl ?_
      refine r_aload_n hb 33 dX8_distance_32 rfl 0 rfl ?_
      refine r_aload_n hb 34 dX8_distance_33 rfl 1 rfl ?_
      refine r_get hb ho 37 dX8_distance_34 rfl lk_X8_21 pf_X8_1 xc rfl ?_
      refine r_get hb ho 40 dX8_distance_37 rfl lk_X8_73 pf_X4_0 gc rfl ?_
      refine r_aload_n hb 41 dX8_distance_40 rfl 0 rfl ?_
      refine r_get hb ho 44 dX8_distance_41 rfl lk_X8_121 pf_X3_5 n0 rfl ?_
      refine r_aload_n hb 45 dX8_distance_44 rfl 0 rfl ?_
      refine r_get hb ho 48 dX8_distance_45 rfl lk_X8_118 pf_X3_6 n0 rfl ?_
      refine r_callV1 (st := []) hb ho 51 dX8_distance_48 rfl ck_X8_192 (c_X1_distanceTo (pa (ixN l z)) (a + 3 + 1) (nB (lg l (ixN l z))) (nE (lg l (ixN l z))) (lg l (ixN l z)) D (a + 673) 0 ri b0 b1 b2 eh xF xR hN gT (by omega) (by omega) (by have := hok.2.2.2.1 _ hf; simp only at this; omega) (by omega)) rfl rfl (fc) rfl rfl (by rw [hR0]; exact ⟨Nat.le_of_ble_eq_true rfl, Nat.le_of_ble_eq_true rfl⟩) (Nat.le_of_ble_eq_true rfl) ⟨rfl, rfl⟩ (by rw [hR0]; exact Nat.zero_le _) (by rw [hR0]; exact Nat.zero_le _) (fun vw_48 w_48 nw_48 qw_48 => ?_)
      obtain ⟨rfl, rfl, ⟨r2, xR⟩, ow_48⟩ := qw_48
      have n0 : w_48 (pa (ixN l z)) = some (eO 3 [.ref (pa (ixN l z) + 1), .ref (pa (ixN l z) + 3), .ref (pa (ixN l z) + 5), .int (iI (((nNum (lg l (ixN l z)) : Nat) : Int))), .int (bI (nK (lg l (ixN l z)))), .int (iI (((nB (lg l (ixN l z)) : Nat) : Int))), .int (iI (((nE (lg l (ixN l z)) : Nat) : Int))), .int (nW (lg l (ixN l z)))]) := (ow_48 _ (by omega)).trans n0
      have hN : nt w_48 (pa (ixN l z)) (lg l (ixN l z)) := hN.off ow_48 (by omega)
      have nQ0 : tx w_48 (pa (ixN l z) + 3) 16 (nQ (lg l (ixN l z))) := nQ0.off ow_48 (by omega)
      have nP0 : tx w_48 (pa (ixN l z) + 1) 6 (nP (lg l (ixN l z))) := nP0.off ow_48 (by omega)
      have nS0 : tx w_48 (pa (ixN l z) + 5) 6 (nS (lg l (ixN l z))) := nS0.off ow_48 (by omega)
      have nq : w_48 (pa (ixN l z) + 3) = some (eO 7 [.ref (pa (ixN l z) + 3 + 1), .int (iI ((((nQ (lg l (ixN l z))).length : Nat) : Int)))]) := (ow_48 _ (by omega)).trans nq
      have xc : w_48 a = some (eO 8 [.ref (a + 1), .ref (a + 3), .ref (a + 77), .ref (a + 523), .ref (a + 598), .ref (a + 673), .ref (a + 675), .int (iI (thr))]) := (ow_48 _ (by omega)).trans xc
      have bc : w_48 (a + 1) = some (eO 7 [.ref (a + 1 + 1), .int (iI (((B.length : Nat) : Int)))]) := (ow_48 _ (by omega)).trans bc
      have gc : w_48 (a + 3) = some (eO 4 [.ref (a + 3 + 1), .ref (a + 3 + 3), .int (iI (((l.length : Nat) : Int))), .int (iI (((nx : Nat) : Int)))]) := (ow_48 _ (by omega)).trans gc
      have ga : w_48 (a + 3 + 3) = some (eQ 3 10 h) := (ow_48 _ (by omega)).trans ga
      have gT : tx w_48 (a + 3 + 1) 120 D := gT.off ow_48 (by omega)
      have gd : w_48 (a + 3 + 1) = some (eO 7 [.ref (a + 3 + 1 + 1), .int (iI (((D.length : Nat) : Int)))]) := (ow_48 _ (by omega)).trans gd
      have hc : w_48 (a + 77) = some (eO 2 [.ref (a + 77 + 1), .int (iI (((hs.length : Nat) : Int)))]) := (ow_48 _ (by omega)).trans hc
      have fc : w_48 (a + 673) = some (eO 1 [.ref (a + 673 + 1), .int (iI (b0)), .int (iI (b1)), .int (iI (b2)), .int (iI (eh))]) := (ow_48 _ (by omega)).trans fc
      have lc : w_48 (a + 675) = some (eO 5 [.ref (a + 675 + 1), .ref (a + 675 + 2), .int (iI (((pc0 : Nat) : Int)))]) := (ow_48 _ (by omega)).trans lc
      have s0c : w_48 (a + 523) = some (eO 6 [.ref (a + 523 + 1), .int (iI (t0)), .int (bI (s0.isSome))]) := (ow_48 _ (by omega)).trans s0c
      have s1c : w_48 (a + 598) = some (eO 6 [.ref (a + 598 + 1), .int (iI (t1)), .int (bI (s1.isSome))]) := (ow_48 _ (by omega)).trans s1c
      have xB : tx w_48 (a + 1) 40 B := xB.off ow_48 (by omega)
      have xP : pg w_48 (a + 3) D l nx := xP.off ow_48 (by omega)
      have xH : hst w_48 (a + 77) hs := xH.off ow_48 (by omega)
      have xS0 : slt w_48 (a + 523) s0 := xS0.off ow_48 (by omega)
      have xS1 : slt w_48 (a + 598) s1 := xS1.off ow_48 (by omega)
      have xF : fd w_48 (a + 673) b0 b1 b2 eh := xF.off ow_48 (by omega)
      have xL : plo w_48 (a + 675) pc0 oh0 ch0 := xL.off ow_48 (by omega)
      have xA : chA w_48 (a + 675) := xA.off ow_48 (by omega)
      have hG : pgo w_48 (a + 3) D h pa xs l.length nx := hG.off ow_48 (by omega)
      obtain ⟨gc, gT, gcl, gnx, ⟨ga, gh⟩, ⟨gs1, gs2⟩, gN⟩ := id hG
      have gd := gT.1
      have gdl := gT.2.1
      refine r_iret hS dX8_distance_51 rfl rfl (Nat.zero_le _) (Nat.zero_le _) ?_
      have e : oDis B D l nx hs s0 s1 thr z = (iI ((edD (nQ (lg l (ixN l z))) D (nB (lg l (ixN l z))) (nE (lg l (ixN l z))) : Nat) : Int), (B, (D, l, nx), hs, s0, s1, thr)) := by unfold oDis; rw [if_neg (by omega), if_neg (by rw [c21]; decide)]
      rw [e]
      exact ⟨_, rfl, rfl, rfl, ⟨xc, xB, xP, xH, xS0, xS1, ⟨_, _, _, _, xF⟩, ⟨_, xR⟩, ⟨_, _, _, xL, xLc⟩, xA⟩, (ow_48.mono (by omega) (by omega))⟩
    · refine r_sipush (-1003) hb 27 dX8_distance_24 rfl rfl ?_
      refine r_iret hS dX8_distance_27 rfl rfl (Nat.zero_le _) (Nat.zero_le _) ?_
      have e : oDis B D l nx hs s0 s1 thr z = (iI (-1003), (B, (D, l, nx), hs, s0, s1, thr)) := by unfold oDis; rw [if_neg (by omega), if_pos c21]
      rw [e]
      exact ⟨_, rfl, rfl, rfl, hX, off.rfl' _ _ _⟩
  · have hle_z := ixN_le l z
    refine r_callVR (st := []) hb ho 8 dX8_distance_5 rfl ck_X8_109 (c_X4_findN (a + 3) nx D h pa xs l z hG hx hzb hf) rfl rfl (gc) rfl rfl (by rw [hR0]; exact ⟨Nat.le_of_ble_eq_true rfl, Nat.le_of_ble_eq_true rfl⟩) (Nat.le_of_ble_eq_true rfl) ⟨rfl, rfl⟩ (by rw [hR0]; exact Nat.zero_le _) (by rw [hR0]; exact Nat.zero_le _) ?_
    skip
    refine r_astore_nN [(2, .null), (0, .ref a), (1, .int (iI (z)))] hb 9 3 dX8_distance_8 rfl rfl hnL (by decide) rfl ?_
    refine r_aload_nN hb 10 dX8_distance_9 rfl 0 rfl ?_
    refine r_ifnonnullN hb 13 dX8_distance_10 rfl ?_
    refine r_sipush (-1001) hb 16 dX8_distance_13 rfl rfl ?_
    refine r_iret hS dX8_distance_16 rfl rfl (Nat.zero_le _) (Nat.zero_le _) ?_
    have e : oDis B D l nx hs s0 s1 thr z = (iI (-1001), (B, (D, l, nx), hs, s0, s1, thr)) := by unfold oDis; rw [if_pos (by omega)]
    rw [e]
    exact ⟨_, rfl, rfl, rfl, hX, off.rfl' _ _ _⟩

abbrev rm_X8_score : Room := { frames := 3, cells := 0, slots := 0, locals := 75 }
set_option maxHeartbeats 4000000 in
set_option maxRecDepth 100000 in
theorem c_X8_score (a : Nat) (B D : List Int32) (l : List Nt) (nx : Nat) (hs : List Pg) (s0 s1 : Option (Pg × Int)) (thr : Int) (z f t : Int) {w : PW} {n : Nat} (hX : xoE w a B D l nx hs s0 s1 thr) (hzb : -2147483648 ≤ z ∧ z < 2147483648) (hfb : -2147483648 ≤ f ∧ f < 2147483648) (htb : -2147483648 ≤ t ∧ t < 2147483648) (hok : pOk (D, l, nx)) : Ct1 yX8_score cX8_score 6 (some .int) rm_X8_score [.ref a, .int (iI (z)), .int (iI (f)), .int (iI (t))] w n (fun v w1 n1 => v = .int (oSco B D l nx hs s0 s1 thr z f t).1 ∧ n = n1 ∧ xo w1 a (oSco B D l nx hs s0 s1 thr z f t).2 ∧ off w w1 a (a + 729)) := by
  obtain ⟨xc, xB, xP, xH, xS0, xS1, ⟨b0, b1, b2, eh, xF⟩, ⟨ri, xR⟩, ⟨pc0, oh0, ch0, xL, xLc⟩, xA⟩ := id hX
  have bc := xB.1
  have bl := xB.2.1
  obtain ⟨h, pa, xs, hG, hx⟩ := id xP
  obtain ⟨gc, gT, gcl, gnx, ⟨ga, gh⟩, ⟨gs1, gs2⟩, gN⟩ := id hG
  have gd := gT.1
  have gdl := gT.2.1
  obtain ⟨ph, qa, P, hO0, hhx⟩ := id xH
  have hc := hO0.1
  have hcl := hO0.2.2.2.2.2
  have fc := xF
  have lc := xL.1
  obtain ⟨p0, t0, s0c, s0p, s0e⟩ := id xS0
  obtain ⟨p1, t1, s1c, s1p, s1e⟩ := id xS1
  refine Ctr.of rfl (Nat.le_of_ble_eq_true rfl) fun S hS => ?_
  have hb : S.1.1 = cX8_score := by rw [hS]; rfl
  have ho : S.1.2.1 = RX8 := by rw [hS]; rfl
  have hnL : S.1.2.2.1 = 6 := by rw [hS]; rfl
  have hR0 : S.2.1 = rm_X8_score := by rw [hS]; rfl
  show Wp S 0 [(0, .ref a), (1, .int (iI (z))), (2, .int (iI (f))), (3, .int (iI (t)))] [] w n 0 0
  refine r_aload_n hb 1 dX8_score_0 rfl 0 rfl ?_
  refine r_get hb ho 4 dX8_score_1 rfl lk_X8_21 pf_X8_1 xc rfl ?_
  refine r_iload_n hb 5 dX8_score_4 rfl 1 rfl ?_
  by_cases hf : ixN l z < l.length
  · have hle_z := ixN_le l z
    refine r_callVR (st := []) hb ho 8 dX8_score_5 rfl ck_X8_109 (c_X4_find (a + 3) nx D h pa xs l z hG hx hzb hf) rfl rfl (gc) rfl rfl (by rw [hR0]; exact ⟨Nat.le_of_ble_eq_true rfl, Nat.le_of_ble_eq_true rfl⟩) (Nat.le_of_ble_eq_true rfl) ⟨rfl, rfl⟩ (by rw [hR0]; exact Nat.zero_le _) (by rw [hR0]; exact Nat.zero_le _) ?_
    have hN : nt w (pa (ixN l z)) (lg l (ixN l z)) := hx _ hf ▸ gN _ (by omega)
    obtain ⟨n0, nP0, nQ0, nS0, hnum, hnB, hnE⟩ := id hN
    have nq := nQ0.1
    have hsi := gs1 (ixN l z) (by omega)
    refine r_astore [(4, .ref (pa (ixN l z))), (0, .ref a), (1, .int (iI (z))), (2, .int (iI (f))), (3, .int (iI (t)))] hb 10 6 dX8_score_8 rfl hnL (by decide) rfl ?_
    refine r_aload hb 12 dX8_score_10 rfl 0 rfl ?_
    refine r_ifnull hb 15 dX8_score_12 rfl ?_
    refine r_aload_n hb 16 dX8_score_15 rfl 1 rfl ?_
    refine r_iload_n hb 17 dX8_score_16 rfl 3 rfl ?_
    refine r_callVR (st := []) hb ho 20 dX8_score_17 rfl ck_X8_80 (c_X8_isPosition a B D l nx hs s0 s1 thr f hX hfb) rfl rfl (xc) rfl rfl (by rw [hR0]; exact ⟨Nat.le_of_ble_eq_true rfl, Nat.le_of_ble_eq_true rfl⟩) (Nat.le_of_ble_eq_true rfl) ⟨rfl, rfl⟩ (by rw [hR0]; exact Nat.zero_le _) (by rw [hR0]; exact Nat.zero_le _) ?_
    refine r_ifb_ne hb 23 27 dX8_score_20 rfl (by decide) (fun c20 => ?_) (fun c20 => ?_)
    · have hpos := c20
      refine r_aload_n hb 28 dX8_score_27 rfl 1 rfl ?_
      refine r_iload_n hb 29 dX8_score_28 rfl 3 rfl ?_
      refine r_iload_n hb 30 dX8_score_29 rfl 4 rfl ?_
      refine r_bipush 30 hb 32 dX8_score_30 rfl rfl ?_
      refine r_callVR (st := []) hb ho 35 dX8_score_32 rfl ck_X8_92 (c_X8_isRange a B D l nx hs s0 s1 thr f t 30 hX (of_decide_eq_true hpos) htb (by omega)) rfl rfl (xc) rfl rfl (by rw [hR0]; exact ⟨Nat.le_of_ble_eq_true rfl, Nat.le_of_ble_eq_true rfl⟩) (Nat.le_of_ble_eq_true rfl) ⟨rfl, rfl⟩ (by rw [hR0]; exact Nat.zero_le _) (by rw [hR0]; exact Nat.zero_le _) ?_
      refine r_ifb_ne hb 38 42 dX8_score_35 rfl (by decide) (fun c35 => ?_) (fun c35 => ?_)
      · have hpo := of_decide_eq_true c20
        have hrn := of_decide_eq_true c35
        refine r_aload_n hb 43 dX8_score_42 rfl 1 rfl ?_
        refine r_get hb ho 46 dX8_score_43 rfl lk_X8_45 pf_X8_5 xc rfl ?_
        refine r_aload hb 48 dX8_score_46 rfl 0 rfl ?_
        refine r_aload_n hb 49 dX8_score_48 rfl 1 rfl ?_
        refine r_get hb ho 52 dX8_score_49 rfl lk_X8_21 pf_X8_1 xc rfl ?_
        refine r_get hb ho 55 dX8_score_52 rfl lk_X8_73 pf_X4_0 gc rfl ?_
        refine r_iload_n hb 56 dX8_score_55 rfl 3 rfl ?_
        refine r_topv (.int (iI (((f.toNat : Nat) : Int)))) (by rw [show ((f.toNat : Nat) : Int) = f by omega]) ?_
        refine r_iload_n hb 57 dX8_score_56 rfl 4 rfl ?_
        refine r_topv (.int (iI (((t.toNat : Nat) : Int)))) (by rw [show ((t.toNat : Nat) : Int) = t by omega]) ?_
        refine r_callV1 (st := []) hb ho 60 dX8_score_57 rfl ck_X8_192 (c_X1_distanceTo (pa (ixN l z)) (a + 3 + 1) f.toNat t.toNat (lg l (ixN l z)) D (a + 673) 0 ri b0 b1 b2 eh xF xR hN gT (by omega) (by omega) (by omega) (by omega)) rfl rfl (fc) rfl rfl (by rw [hR0]; exact ⟨Nat.le_of_ble_eq_true rfl, Nat.le_of_ble_eq_true rfl⟩) (Nat.le_of_ble_eq_true rfl) ⟨rfl, rfl⟩ (by rw [hR0]; exact Nat.zero_le _) (by rw [hR0]; exact Nat.zero_le _) (fun vw_57 w_57 nw_57 qw_57 => ?_)
        obtain ⟨rfl, rfl, ⟨r2, xR⟩, ow_57⟩ := qw_57
        have n0 : w_57 (pa (ixN l z)) = some (eO 3 [.ref (pa (ixN l z) + 1), .ref (pa (ixN l z) + 3), .ref (pa (ixN l z) + 5), .int (iI (((nNum (lg l (ixN l z)) : Nat) : Int))), .int (bI (nK (lg l (ixN l z)))), .int (iI (((nB (lg l (ixN l z)) : Nat) : Int))), .int (iI (((nE (lg l (ixN l z)) : Nat) : Int))), .int (nW (lg l (ixN l z)))]) := (ow_57 _ (by omega)).trans n0
        have hN : nt w_57 (pa (ixN l z)) (lg l (ixN l z)) := hN.off ow_57 (by omega)
        have nQ0 : tx w_57 (pa (ixN l z) + 3) 16 (nQ (lg l (ixN l z))) := nQ0.off ow_57 (by omega)
        have nP0 : tx w_57 (pa (ixN l z) + 1) 6 (nP (lg l (ixN l z))) := nP0.off ow_57 (by omega)
        have nS0 : tx w_57 (pa (ixN l z) + 5) 6 (nS (lg l (ixN l z))) := nS0.off ow_57 (by omega)
        have nq : w_57 (pa (ixN l z) + 3) = some (eO 7 [.ref (pa (ixN l z) + 3 + 1), .int (iI ((((nQ (lg l (ixN l z))).length : Nat) : Int)))]) := (ow_57 _ (by omega)).trans nq
        have xc : w_57 a = some (eO 8 [.ref (a + 1), .ref (a + 3), .ref (a + 77), .ref (a + 523), .ref (a + 598), .ref (a + 673), .ref (a + 675), .int (iI (thr))]) := (ow_57 _ (by omega)).trans xc
        have bc : w_57 (a + 1) = some (eO 7 [.ref (a + 1 + 1), .int (iI (((B.length : Nat) : Int)))]) := (ow_57 _ (by omega)).trans bc
        have gc : w_57 (a + 3) = some (eO 4 [.ref (a + 3 + 1), .ref (a + 3 + 3), .int (iI (((l.length : Nat) : Int))), .int (iI (((nx : Nat) : Int)))]) := (ow_57 _ (by omega)).trans gc
        have ga : w_57 (a + 3 + 3) = some (eQ 3 10 h) := (ow_57 _ (by omega)).trans ga
        have gT : tx w_57 (a + 3 + 1) 120 D := gT.off ow_57 (by omega)
        have gd : w_57 (a + 3 + 1) = some (eO 7 [.ref (a + 3 + 1 + 1), .int (iI (((D.length : Nat) : Int)))]) := (ow_57 _ (by omega)).trans gd
        have hc : w_57 (a + 77) = some (eO 2 [.ref (a + 77 + 1), .int (iI (((hs.length : Nat) : Int)))]) := (ow_57 _ (by omega)).trans hc
        have fc : w_57 (a + 673) = some (eO 1 [.ref (a + 673 + 1), .int (iI (b0)), .int (iI (b1)), .int (iI (b2)), .int (iI (eh))]) := (ow_57 _ (by omega)).trans fc
        have lc : w_57 (a + 675) = some (eO 5 [.ref (a + 675 + 1), .ref (a + 675 + 2), .int (iI (((pc0 : Nat) : Int)))]) := (ow_57 _ (by omega)).trans lc
        have s0c : w_57 (a + 523) = some (eO 6 [.ref (a + 523 + 1), .int (iI (t0)), .int (bI (s0.isSome))]) := (ow_57 _ (by omega)).trans s0c
        have s1c : w_57 (a + 598) = some (eO 6 [.ref (a + 598 + 1), .int (iI (t1)), .int (bI (s1.isSome))]) := (ow_57 _ (by omega)).trans s1c
        have xB : tx w_57 (a + 1) 40 B := xB.off ow_57 (by omega)
        have xP : pg w_57 (a + 3) D l nx := xP.off ow_57 (by omega)
        have xH : hst w_57 (a + 77) hs := xH.off ow_57 (by omega)
        have xS0 : slt w_57 (a + 523) s0 := xS0.off ow_57 (by omega)
        have xS1 : slt w_57 (a + 598) s1 := xS1.off ow_57 (by omega)
        have xF : fd w_57 (a + 673) b0 b1 b2 eh := xF.off ow_57 (by omega)
        have xL : plo w_57 (a + 675) pc0 oh0 ch0 := xL.off ow_57 (by omega)
        have xA : chA w_57 (a + 675) := xA.off ow_57 (by omega)
        have hG : pgo w_57 (a + 3) D h pa xs l.length nx := hG.off ow_57 (by omega)
        obtain ⟨gc, gT, gcl, gnx, ⟨ga, gh⟩, ⟨gs1, gs2⟩, gN⟩ := id hG
        have gd := gT.1
        have gdl := gT.2.1
        refine r_istore [(5, .int (iI (((edD (nQ (lg l (ixN l z))) D f.toNat t.toNat : Nat) : Int)))), (4, .ref (pa (ixN l z))), (0, .ref a), (1, .int (iI (z))), (2, .int (iI (f))), (3, .int (iI (t)))] hb 62 6 dX8_score_60 rfl hnL (by decide) rfl ?_
        refine r_aload hb 64 dX8_score_62 rfl 1 rfl ?_
        refine r_iload hb 66 dX8_score_64 rfl 0 rfl ?_
        refine r_aload_n hb 67 dX8_score_66 rfl 2 rfl ?_
        refine r_get hb ho 70 dX8_score_67 rfl lk_X8_21 pf_X8_1 xc rfl ?_
        refine r_get hb ho 73 dX8_score_70 rfl lk_X8_73 pf_X4_0 gc rfl ?_
        refine r_iload_n hb 74 dX8_score_73 rfl 4 rfl ?_
        refine r_topv (.int (iI (((f.toNat : Nat) : Int)))) (by rw [show ((f.toNat : Nat) : Int) = f by omega]) ?_
        refine r_iload_n hb 75 dX8_score_74 rfl 5 rfl ?_
        refine r_topv (.int (iI (((t.toNat : Nat) : Int)))) (by rw [show ((t.toNat : Nat) : Int) = t by omega]) ?_
        have hed := edK_le (nQ (lg l (ixN l z))) D f.toNat (t.toNat - f.toNat) (nQ (lg l (ixN l z))).length
        have hq16 := nQ0.2.1
        have hed2 : edD (nQ (lg l (ixN l z))) D f.toNat t.toNat ≤ 1000 := by unfold edD; omega
        have hnk := (hok.2.2.2.1 _ hf).1
        refine r_callVR (st := []) hb ho 78 dX8_score_75 rfl ck_X8_196 (c_X3_scoreOf (pa (ixN l z)) (a + 3 + 1) (edD (nQ (lg l (ixN l z))) D f.toNat t.toNat) f.toNat t.toNat (lg l (ixN l z)) D hN gT (by omega) (by omega) hed2 hnk.2.2.2.2.1 hnk.2.2.2.2.2) rfl rfl (n0) rfl rfl (by rw [hR0]; exact ⟨Nat.le_of_ble_eq_true rfl, Nat.le_of_ble_eq_true rfl⟩) (Nat.le_of_ble_eq_true rfl) ⟨rfl, rfl⟩ (by rw [hR0]; exact Nat.zero_le _) (by rw [hR0]; exact Nat.zero_le _) ?_
        refine r_iret hS dX8_score_78 rfl rfl (Nat.zero_le _) (Nat.zero_le _) ?_
        have e : oSco B D l nx hs s0 s1 thr z f t = (iI (scN (lg l (ixN l z)) D f.toNat t.toNat (edD (nQ (lg l (ixN l z))) D f.toNat t.toNat)), (B, (D, l, nx), hs, s0, s1, thr)) := by unfold oSco; rw [if_neg (fun hh => hh.elim (fun h1 => by omega) (fun h1 => by rw [c20] at h1; cases h1)), if_neg (by rw [c35]; decide)]
        rw [e]
        exact ⟨_, rfl, rfl, rfl, ⟨xc, xB, xP, xH, xS0, xS1, ⟨_, _, _, _, xF⟩, ⟨_, xR⟩, ⟨_, _, _, xL, xLc⟩, xA⟩, (ow_57.mono (by omega) (by omega))⟩
      · refine r_sipush (-1002) hb 41 dX8_score_38 rfl rfl ?_
        refine r_iret hS dX8_score_41 rfl rfl (Nat.zero_le _) (Nat.zero_le _) ?_
        have e : oSco B D l nx hs s0 s1 thr z f t = (iI (-1002), (B, (D, l, nx), hs, s0, s1, thr)) := by unfold oSco; rw [if_neg (fun hh => hh.elim (fun h1 => by omega) (fun h1 => by rw [c20] at h1; cases h1)), if_pos c35]
        rw [e]
        exact ⟨_, rfl, rfl, rfl, hX, off.rfl' _ _ _⟩
    · refine r_sipush (-1001) hb 26 dX8_score_23 rfl rfl ?_
      refine r_iret hS dX8_score_26 rfl rfl (Nat.zero_le _) (Nat.zero_le _) ?_
      have e : oSco B D l nx hs s0 s1 thr z f t = (iI (-1001), (B, (D, l, nx), hs, s0, s1, thr)) := by unfold oSco; rw [if_pos (Or.inr c20)]
      rw [e]
      exact ⟨_, rfl, rfl, rfl, hX, off.rfl' _ _ _⟩
  · have hle_z := ixN_le l z
    refine r_callVR (st := []) hb ho 8 dX8_score_5 rfl ck_X8_109 (c_X4_findN (a + 3) nx D h pa xs l z hG hx hzb hf) rfl rfl (gc) rfl rfl (by rw [hR0]; exact ⟨Nat.le_of_ble_eq_true rfl, Nat.le_of_ble_eq_true rfl⟩) (Nat.le_of_ble_eq_true rfl) ⟨rfl, rfl⟩ (by rw [hR0]; exact Nat.zero_le _) (by rw [hR0]; exact Nat.zero_le _) ?_
    skip
    refine r_astoreN [(4, .null), (0, .ref a), (1, .int (iI (z))), (2, .int (iI (f))), (3, .int (iI (t)))] hb 10 6 dX8_score_8 rfl hnL (by decide) rfl ?_
    refine r_aloadN hb 12 dX8_score_10 rfl 0 rfl ?_
    refine r_ifnullN hb 23 dX8_score_12 (by decide) ?_
    refine r_sipush (-1001) hb 26 dX8_score_23 rfl rfl ?_
    refine r_iret hS dX8_score_26 rfl rfl (Nat.zero_le _) (Nat.zero_le _) ?_
    have e : oSco B D l nx hs s0 s1 thr z f t = (iI (-1001), (B, (D, l, nx), hs, s0, s1, thr)) := by unfold oSco; rw [if_pos (Or.inl (by omega))]
    rw [e]
    exact ⟨_, rfl, rfl, rfl, hX, off.rfl' _ _ _⟩

abbrev rm_X8_best : Room := { frames := 5, cells := 0, slots := 0, locals := 123 }
set_option maxHeartbeats 4000000 in
set_option maxRecDepth 100000 in
theorem c_X8_best (a : Nat) (B D : List Int32) (l : List Nt) (nx : Nat) (hs : List Pg) (s0 s1 : Option (Pg × Int)) (thr : Int) (z k : Int) {w : PW} {n : Nat} (hX : xoE w a B D l nx hs s0 s1 thr) (hzb : -2147483648 ≤ z ∧ z < 2147483648) (hkb : -2147483648 ≤ k ∧ k < 2147483648) (hok : pOk (D, l, nx)) : Ct1 yX8_best cX8_best 4 (some .int) rm_X8_best [.ref a, .int (iI (z)), .int (iI (k))] w n (fun v w1 n1 => v = .int (oBes B D l nx hs s0 s1 thr z k).1 ∧ n = n1 ∧ xo w1 a (oBes B D l nx hs s0 s1 thr z k).2 ∧ off w w1 a (a + 729)) := by
  obtain ⟨xc, xB, xP, xH, xS0, xS1, ⟨b0, b1, b2, eh, xF⟩, ⟨ri, xR⟩, ⟨pc0, oh0, ch0, xL, xLc⟩, xA⟩ := id hX
  have bc := xB.1
  have bl := xB.2.1
  obtain ⟨h, pa, xs, hG, hx⟩ := id xP
  obtain ⟨gc, gT, gcl, gnx, ⟨ga, gh⟩, ⟨gs1, gs2⟩, gN⟩ := id hG
  have gd := gT.1
  have gdl := gT.2.1
  obtain ⟨ph, qa, P, hO0, hhx⟩ := id xH
  have hc := hO0.1
  have hcl := hO0.2.2.2.2.2
  have fc := xF
  have lc := xL.1
  obtain ⟨p0, t0, s0c, s0p, s0e⟩ := id xS0
  obtain ⟨p1, t1, s1c, s1p, s1e⟩ := id xS1
  refine Ctr.of rfl (Nat.le_of_ble_eq_true rfl) fun S hS => ?_
  have hb : S.1.1 = cX8_best := by rw [hS]; rfl
  have ho : S.1.2.1 = RX8 := by rw [hS]; rfl
  have hnL : S.1.2.2.1 = 4 := by rw [hS]; rfl
  have hR0 : S.2.1 = rm_X8_best := by rw [hS]; rfl
  show Wp S 0 [(0, .ref a), (1, .int (iI (z))), (2, .int (iI (k)))] [] w n 0 0
  refine r_aload_n hb 1 dX8_best_0 rfl 0 rfl ?_
  refine r_get hb ho 4 dX8_best_1 rfl lk_X8_21 pf_X8_1 xc rfl ?_
  refine r_iload_n hb 5 dX8_best_4 rfl 1 rfl ?_
  by_cases hf : ixN l z < l.length
  · have hle_z := ixN_le l z
    refine r_callVR (st := []) hb ho 8 dX8_best_5 rfl ck_X8_109 (c_X4_find (a + 3) nx D h pa xs l z hG hx hzb hf) rfl rfl (gc) rfl rfl (by rw [hR0]; exact ⟨Nat.le_of_ble_eq_true rfl, Nat.le_of_ble_eq_true rfl⟩) (Nat.le_of_ble_eq_true rfl) ⟨rfl, rfl⟩ (by rw [hR0]; exact Nat.zero_le _) (by rw [hR0]; exact Nat.zero_le _) ?_
    have hN : nt w (pa (ixN l z)) (lg l (ixN l z)) := hx _ hf ▸ gN _ (by omega)
    obtain ⟨n0, nP0, nQ0, nS0, hnum, hnB, hnE⟩ := id hN
    have nq := nQ0.1
    have hsi := gs1 (ixN l z) (by omega)
    refine r_astore_n [(3, .ref (pa (ixN l z))), (0, .ref a), (1, .int (iI (z))), (2, .int (iI (k)))] hb 9 4 dX8_best_8 rfl rfl hnL (by decide) rfl ?_
    refine r_aload_n hb 10 dX8_best_9 rfl 0 rfl ?_
    refine r_ifnonnull hb 17 dX8_best_10 (by decide) ?_
    refine r_iload_n hb 18 dX8_best_17 rfl 3 rfl ?_
    refine r_if_lt hb 21 26 dX8_best_18 rfl (by decide) (by omega) (fun c18 => ?_) (fun c18 => ?_)
    · refine r_sipush (-1002) hb 29 dX8_best_26 rfl rfl ?_
      refine r_iret hS dX8_best_29 rfl rfl (Nat.zero_le _) (Nat.zero_le _) ?_
      have e : oBes B D l nx hs s0 s1 thr z k = (iI (-1002), (B, (D, l, nx), hs, s0, s1, thr)) := by unfold oBes; rw [if_neg (by omega), if_pos (by omega)]
      rw [e]
      exact ⟨_, rfl, rfl, rfl, hX, off.rfl' _ _ _⟩
    · refine r_iload_n hb 22 dX8_best_21 rfl 3 rfl ?_
      refine r_iconst hb 23 dX8_best_22 rfl ?_
      refine r_icmp_le hb 26 30 dX8_best_23 rfl (by decide) (by omega) (by omega) (fun c23 => ?_) (fun c23 => ?_)
      · refine r_aload_n hb 31 dX8_best_30 rfl 1 rfl ?_
        refine r_get hb ho 34 dX8_best_31 rfl lk_X8_45 pf_X8_5 xc rfl ?_
        refine r_aload_n hb 35 dX8_best_34 rfl 0 rfl ?_
        refine r_aload_n hb 36 dX8_best_35 rfl 1 rfl ?_
        refine r_get hb ho 39 dX8_best_36 rfl lk_X8_21 pf_X8_1 xc rfl ?_
        refine r_get hb ho 42 dX8_best_39 rfl lk_X8_73 pf_X4_0 gc rfl ?_
        refine r_callV0 (st := []) hb ho 45 dX8_best_42 rfl ck_X8_130 (c_X1_search (pa (ixN l z)) (a + 3 + 1) (lg l (ixN l z)) D (a + 673) 0 ri b0 b1 b2 eh xF xR hN gT (by omega) (by omega) (hok.2.2.2.1 _ hf).1) rfl rfl (fc) rfl rfl (by rw [hR0]; exact ⟨Nat.le_of_ble_eq_true rfl, Nat.le_of_ble_eq_true rfl⟩) (Nat.le_of_ble_eq_true rfl) ⟨rfl, rfl⟩ (by rw [hR0]; exact Nat.zero_le _) (by rw [hR0]; exact Nat.zero_le _) (fun w_42 nw_42 qw_42 => ?_)
        obtain ⟨rfl, ⟨e2, xF⟩, ⟨r2, xR⟩, ow_42⟩ := qw_42
        have fc := xF
        have n0 : w_42 (pa (ixN l z)) = some (eO 3 [.ref (pa (ixN l z) + 1), .ref (pa (ixN l z) + 3), .ref (pa (ixN l z) + 5), .int (iI (((nNum (lg l (ixN l z)) : Nat) : Int))), .int (bI (nK (lg l (ixN l z)))), .int (iI (((nB (lg l (ixN l z)) : Nat) : Int))), .int (iI (((nE (lg l (ixN l z)) : Nat) : Int))), .int (nW (lg l (ixN l z)))]) := (ow_42 _ (by omega)).trans n0
        have hN : nt w_42 (pa (ixN l z)) (lg l (ixN l z)) := hN.off ow_42 (by omega)
        have nQ0 : tx w_42 (pa (ixN l z) + 3) 16 (nQ (lg l (ixN l z))) := nQ0.off ow_42 (by omega)
        have nP0 : tx w_42 (pa (ixN l z) + 1) 6 (nP (lg l (ixN l z))) := nP0.off ow_42 (by omega)
        have nS0 : tx w_42 (pa (ixN l z) + 5) 6 (nS (lg l (ixN l z))) := nS0.off ow_42 (by omega)
        have nq : w_42 (pa (ixN l z) + 3) = some (eO 7 [.ref (pa (ixN l z) + 3 + 1), .int (iI ((((nQ (lg l (ixN l z))).length : Nat) : Int)))]) := (ow_42 _ (by omega)).trans nq
        have xc : w_42 a = some (eO 8 [.ref (a + 1), .ref (a + 3), .ref (a + 77), .ref (a + 523), .ref (a + 598), .ref (a + 673), .ref (a + 675), .int (iI (thr))]) := (ow_42 _ (by omega)).trans xc
        have bc : w_42 (a + 1) = some (eO 7 [.ref (a + 1 + 1), .int (iI (((B.length : Nat) : Int)))]) := (ow_42 _ (by omega)).trans bc
        have gc : w_42 (a + 3) = some (eO 4 [.ref (a + 3 + 1), .ref (a + 3 + 3), .int (iI (((l.length : Nat) : Int))), .int (iI (((nx : Nat) : Int)))]) := (ow_42 _ (by omega)).trans gc
        have ga : w_42 (a + 3 + 3) = some (eQ 3 10 h) := (ow_42 _ (by omega)).trans ga
        have gT : tx w_42 (a + 3 + 1) 120 D := gT.off ow_42 (by omega)
        have gd : w_42 (a + 3 + 1) = some (eO 7 [.ref (a + 3 + 1 + 1), .int (iI (((D.length : Nat) : Int)))]) := (ow_42 _ (by omega)).trans gd
        have hc : w_42 (a + 77) = some (eO 2 [.ref (a + 77 + 1), .int (iI (((hs.length : Nat) : Int)))]) := (ow_42 _ (by omega)).trans hc
        have lc : w_42 (a + 675) = some (eO 5 [.ref (a + 675 + 1), .ref (a + 675 + 2), .int (iI (((pc0 : Nat) : Int)))]) := (ow_42 _ (by omega)).trans lc
        have s0c : w_42 (a + 523) = some (eO 6 [.ref (a + 523 + 1), .int (iI (t0)), .int (bI (s0.isSome))]) := (ow_42 _ (by omega)).trans s0c
        have s1c : w_42 (a + 598) = some (eO 6 [.ref (a + 598 + 1), .int (iI (t1)), .int (bI (s1.isSome))]) := (ow_42 _ (by omega)).trans s1c
        have xB : tx w_42 (a + 1) 40 B := xB.off ow_42 (by omega)
        have xP : pg w_42 (a + 3) D l nx := xP.off ow_42 (by omega)
        have xH : hst w_42 (a + 77) hs := xH.off ow_42 (by omega)
        have xS0 : slt w_42 (a + 523) s0 := xS0.off ow_42 (by omega)
        have xS1 : slt w_42 (a + 598) s1 := xS1.off ow_42 (by omega)
        have xL : plo w_42 (a + 675) pc0 oh0 ch0 := xL.off ow_42 (by omega)
        have xA : chA w_42 (a + 675) := xA.off ow_42 (by omega)
        have hG : pgo w_42 (a + 3) D h pa xs l.length nx := hG.off ow_42 (by omega)
        obtain ⟨gc, gT, gcl, gnx, ⟨ga, gh⟩, ⟨gs1, gs2⟩, gN⟩ := id hG
        have gd := gT.1
        have gdl := gT.2.1
        refine r_iload_n hb 46 dX8_best_45 rfl 3 rfl ?_
        refine r_if_ne hb 49 59 dX8_best_46 rfl (by decide) (by omega) (fun c46 => ?_) (fun c46 => ?_)
        · refine r_iload_n hb 60 dX8_best_59 rfl 3 rfl ?_
          refine r_iconst hb 61 dX8_best_60 rfl ?_
          refine r_icmp_ne hb 64 74 dX8_best_61 rfl (by decide) (by omega) (by omega) (fun c61 => ?_) (fun c61 => ?_)
          · refine r_aload_n hb 75 dX8_best_74 rfl 1 rfl ?_
            refine r_get hb ho 78 dX8_best_75 rfl lk_X8_45 pf_X8_5 xc rfl ?_
            refine r_get hb ho 81 dX8_best_78 rfl lk_X8_140 pf_X1_3 fc rfl ?_
            refine r_iret hS dX8_best_81 rfl rfl (Nat.zero_le _) (Nat.zero_le _) ?_
            have e : oBes B D l nx hs s0 s1 thr z k = (iI (gB2 (fB (lg l (ixN l z)) D)), (B, (D, l, nx), hs, s0, s1, thr)) := by unfold oBes; rw [if_neg (by omega), if_neg (by omega), if_neg (by omega), if_neg (by omega)]
            rw [e]
            exact ⟨_, rfl, rfl, rfl, ⟨xc, xB, xP, xH, xS0, xS1, ⟨_, _, _, _, xF⟩, ⟨_, xR⟩, ⟨_, _, _, xL, xLc⟩, xA⟩, (ow_42.mono (by omega) (by omega))⟩
          · refine r_aload_n hb 65 dX8_best_64 rfl 1 rfl ?_
            refine r_get hb ho 68 dX8_best_65 rfl lk_X8_45 pf_X8_5 xc rfl ?_
            refine r_get hb ho 71 dX8_best_68 rfl lk_X8_137 pf_X1_2 fc rfl ?_
            refine r_goto hb 81 dX8_best_71 (by decide) ?_
            refine r_iret hS dX8_best_81 rfl rfl (Nat.zero_le _) (Nat.zero_le _) ?_
            have e : oBes B D l nx hs s0 s1 thr z k = (iI (gB1 (fB (lg l (ixN l z)) D)), (B, (D, l, nx), hs, s0, s1, thr)) := by unfold oBes; rw [if_neg (by omega), if_neg (by omega), if_neg (by omega), if_pos (by omega)]
            rw [e]
            exact ⟨_, rfl, rfl, rfl, ⟨xc, xB, xP, xH, xS0, xS1, ⟨_, _, _, _, xF⟩, ⟨_, xR⟩, ⟨_, _, _, xL, xLc⟩, xA⟩, (ow_42.mono (by omega) (by omega))⟩
        · refine r_aload_n hb 50 dX8_best_49 rfl 1 rfl ?_
          refine r_get hb ho 53 dX8_best_50 rfl lk_X8_45 pf_X8_5 xc rfl ?_
          refine r_get hb ho 56 dX8_best_53 rfl lk_X8_134 pf_X1_1 fc rfl ?_
          refine r_goto hb 81 dX8_best_56 (by decide) ?_
          refine r_iret hS dX8_best_81 rfl rfl (Nat.zero_le _) (Nat.zero_le _) ?_
          have e : oBes B D l nx hs s0 s1 thr z k = (iI (gB0 (fB (lg l (ixN l z)) D)), (B, (D, l, nx), hs, s0, s1, thr)) := by unfold oBes; rw [if_neg (by omega), if_neg (by omega), if_pos (by omega)]
          rw [e]
          exact ⟨_, rfl, rfl, rfl, ⟨xc, xB, xP, xH, xS0, xS1, ⟨_, _, _, _, xF⟩, ⟨_, xR⟩, ⟨_, _, _, xL, xLc⟩, xA⟩, (ow_42.mono (by omega) (by omega))⟩
      · refine r_sipush (-1002) hb 29 dX8_best_26 rfl rfl ?_
        refine r_iret hS dX8_best_29 rfl rfl (Nat.zero_le _) (Nat.zero_le _) ?_
        have e : oBes B D l nx hs s0 s1 thr z k = (iI (-1002), (B, (D, l, nx), hs, s0, s1, thr)) := by unfold oBes; rw [if_neg (by omega), if_pos (by omega)]
        rw [e]
        exact ⟨_, rfl, rfl, rfl, hX, off.rfl' _ _ _⟩
  · have hle_z := ixN_le l z
    refine r_callVR (st := []) hb ho 8 dX8_best_5 rfl ck_X8_109 (c_X4_findN (a + 3) nx D h pa xs l z hG hx hzb hf) rfl rfl (gc) rfl rfl (by rw [hR0]; exact ⟨Nat.le_of_ble_eq_true rfl, Nat.le_of_ble_eq_true rfl⟩) (Nat.le_of_ble_eq_true rfl) ⟨rfl, rfl⟩ (by rw [hR0]; exact Nat.zero_le _) (by rw [hR0]; exact Nat.zero_le _) ?_
    skip
    refine r_astore_nN [(3, .null), (0, .ref a), (1, .int (iI (z))), (2, .int (iI (k)))] hb 9 4 dX8_best_8 rfl rfl hnL (by decide) rfl ?_
    refine r_aload_nN hb 10 dX8_best_9 rfl 0 rfl ?_
    refine r_ifnonnullN hb 13 dX8_best_10 rfl ?_
    refine r_sipush (-1001) hb 16 dX8_best_13 rfl rfl ?_
    refine r_iret hS dX8_best_16 rfl rfl (Nat.zero_le _) (Nat.zero_le _) ?_
    have e : oBes B D l nx hs s0 s1 thr z k = (iI (-1001), (B, (D, l, nx), hs, s0, s1, thr)) := by unfold oBes; rw [if_pos (by omega)]
    rw [e]
    exact ⟨_, rfl, rfl, rfl, hX, off.rfl' _ _ _⟩

abbrev rm_X8_overlap : Room := { frames := 2, cells := 0, slots := 0, locals := 44 }
set_option maxHeartbeats 4000000 in
set_option maxRecDepth 100000 in
theorem c_X8_overlap (a : Nat) (B D : List Int32) (l : List Nt) (nx : Nat) (hs : List Pg) (s0 s1 : Option (Pg × Int)) (thr : Int) (z y : Int) {w : PW} {n : Nat} (hX : xoE w a B D l nx hs s0 s1 thr) (hzb : -2147483648 ≤ z ∧ z < 2147483648) (hyb : -2147483648 ≤ y ∧ y < 2147483648) : Ct1 yX8_overlap cX8_overlap 5 (some .int) rm_X8_overlap [.ref a, .int (iI (z)), .int (iI (y))] w n (fun v w1 n1 => v = .int (oOve B D l nx hs s0 s1 thr z y).1 ∧ n = n1 ∧ xo w1 a (oOve B D l nx hs s0 s1 thr z y).2 ∧ off w w1 a (a + 729)) := by
  obtain ⟨xc, xB, xP, xH, xS0, xS1, ⟨b0, b1, b2, eh, xF⟩, ⟨ri, xR⟩, ⟨pc0, oh0, ch0, xL, xLc⟩, xA⟩ := id hX
  have bc := xB.1
  have bl := xB.2.1
  obtain ⟨h, pa, xs, hG, hx⟩ := id xP
  obtain ⟨gc, gT, gcl, gnx, ⟨ga, gh⟩, ⟨gs1, gs2⟩, gN⟩ := id hG
  have gd := gT.1
  have gdl := gT.2.1
  obtain ⟨ph, qa, P, hO0, hhx⟩ := id xH
  have hc := hO0.1
  have hcl := hO0.2.2.2.2.2
  have fc := xF
  have lc := xL.1
  obtain ⟨p0, t0, s0c, s0p, s0e⟩ := id xS0
  obtain ⟨p1, t1, s1c, s1p, s1e⟩ := id xS1
  refine Ctr.of rfl (Nat.le_of_ble_eq_true rfl) fun S hS => ?_
  have hb : S.1.1 = cX8_overlap := by rw [hS]; rfl
  have ho : S.1.2.1 = RX8 := by rw [hS]; rfl
  have hnL : S.1.2.2.1 = 5 := by rw [hS]; rfl
  have hR0 : S.2.1 = rm_X8_overlap := by rw [hS]; rfl
  show Wp S 0 [(0, .ref a), (1, .int (iI (z))), (2, .int (iI (y)))] [] w n 0 0
  refine r_aload_n hb 1 dX8_overlap_0 rfl 0 rfl ?_
  refine r_get hb ho 4 dX8_overlap_1 rfl lk_X8_21 pf_X8_1 xc rfl ?_
  refine r_iload_n hb 5 dX8_overlap_4 rfl 1 rfl ?_
  by_cases hf : ixN l z < l.length
  · have hle_z := ixN_le l z
    refine r_callVR (st := []) hb ho 8 dX8_overlap_5 rfl ck_X8_109 (c_X4_find (a + 3) nx D h pa xs l z hG hx hzb hf) rfl rfl (gc) rfl rfl (by rw [hR0]; exact ⟨Nat.le_of_ble_eq_true rfl, Nat.le_of_ble_eq_true rfl⟩) (Nat.le_of_ble_eq_true rfl) ⟨rfl, rfl⟩ (by rw [hR0]; exact Nat.zero_le _) (by rw [hR0]; exact Nat.zero_le _) ?_
    have hN : nt w (pa (ixN l z)) (lg l (ixN l z)) := hx _ hf ▸ gN _ (by omega)
    obtain ⟨n0, nP0, nQ0, nS0, hnum, hnB, hnE⟩ := id hN
    have nq := nQ0.1
    have hsi := gs1 (ixN l z) (by omega)
    refine r_astore_n [(3, .ref (pa (ixN l z))), (0, .ref a), (1, .int (iI (z))), (2, .int (iI (y)))] hb 9 5 dX8_overlap_8 rfl rfl hnL (by decide) rfl ?_
    refine r_aload_n hb 10 dX8_overlap_9 rfl 1 rfl ?_
    refine r_get hb ho 13 dX8_overlap_10 rfl lk_X8_21 pf_X8_1 xc rfl ?_
    refine r_iload_n hb 14 dX8_overlap_13 rfl 3 rfl ?_
    by_cases hf2 : ixN l y < l.length
    · have hle_y := ixN_le l y
      refine r_callVR (st := []) hb ho 17 dX8_overlap_14 rfl ck_X8_109 (c_X4_find (a + 3) nx D h pa xs l y hG hx hyb hf2) rfl rfl (gc) rfl rfl (by rw [hR0]; exact ⟨Nat.le_of_ble_eq_true rfl, Nat.le_of_ble_eq_true rfl⟩) (Nat.le_of_ble_eq_true rfl) ⟨rfl, rfl⟩ (by rw [hR0]; exact Nat.zero_le _) (by rw [hR0]; exact Nat.zero_le _) ?_
      have m0 := ((hx _ hf2 ▸ gN _ (by omega) : nt w (pa (ixN l y)) (lg l (ixN l y)))).1
      have hmb := ((hx _ hf2 ▸ gN _ (by omega) : nt w (pa (ixN l y)) (lg l (ixN l y)))).2.2.2.2
      refine r_astore [(4, .ref (pa (ixN l y))), (3, .ref (pa (ixN l z))), (0, .ref a), (1, .int (iI (z))), (2, .int (iI (y)))] hb 19 5 dX8_overlap_17 rfl hnL (by decide) rfl ?_
      refine r_aload_n hb 20 dX8_overlap_19 rfl 1 rfl ?_
      refine r_ifnull hb 23 dX8_overlap_20 rfl ?_
      refine r_aload hb 25 dX8_overlap_23 rfl 0 rfl ?_
      refine r_ifnonnull hb 32 dX8_overlap_25 (by decide) ?_
      refine r_iconst hb 33 dX8_overlap_32 rfl ?_
      refine r_aload_n hb 34 dX8_overlap_33 rfl 1 rfl ?_
      refine r_get hb ho 37 dX8_overlap_34 rfl lk_X8_118 pf_X3_6 n0 rfl ?_
      refine r_aload hb 39 dX8_overlap_37 rfl 0 rfl ?_
      refine r_get hb ho 42 dX8_overlap_39 rfl lk_X8_118 pf_X3_6 m0 rfl ?_
      refine r_min hb ho 45 dX8_overlap_42 rfl ck_X8_200 (by rw [hR0]; exact Nat.le_of_ble_eq_true rfl) (by rw [hR0]; exact Nat.le_of_ble_eq_true rfl) (by rw [hR0]; exact Nat.zero_le _) (by rw [hR0]; exact Nat.zero_le _) (by omega) (by omega) ((min (nE (lg l (ixN l z)) : Int) (nE (lg l (ixN l y))))) (by omega) ?_
      refine r_aload_n hb 46 dX8_overlap_45 rfl 1 rfl ?_
      refine r_get hb ho 49 dX8_overlap_46 rfl lk_X8_121 pf_X3_5 n0 rfl ?_
      refine r_aload hb 51 dX8_overlap_49 rfl 0 rfl ?_
      refine r_get hb ho 54 dX8_overlap_51 rfl lk_X8_121 pf_X3_5 m0 rfl ?_
      refine r_max hb ho 57 dX8_overlap_54 rfl ck_X8_205 (by rw [hR0]; exact Nat.le_of_ble_eq_true rfl) (by rw [hR0]; exact Nat.le_of_ble_eq_true rfl) (by rw [hR0]; exact Nat.zero_le _) (by rw [hR0]; exact Nat.zero_le _) (by omega) (by omega) ((max (nB (lg l (ixN l z)) : Int) (nB (lg l (ixN l y))))) (by omega) ?_
      refine r_isubZ hb 58 ((min (nE (lg l (ixN l z)) : Int) (nE (lg l (ixN l y)))) - (max (nB (lg l (ixN l z)) : Int) (nB (lg l (ixN l y))))) dX8_overlap_57 rfl (by omega) ?_
      refine r_max hb ho 61 dX8_overlap_58 rfl ck_X8_205 (by rw [hR0]; exact Nat.le_of_ble_eq_true rfl) (by rw [hR0]; exact Nat.le_of_ble_eq_true rfl) (by rw [hR0]; exact Nat.zero_le _) (by rw [hR0]; exact Nat.zero_le _) (by omega) (by omega) ((ovN (lg l (ixN l z)) (lg l (ixN l y)))) (by unfold ovN; omega) ?_
      refine r_iret hS dX8_overlap_61 rfl rfl (Nat.zero_le _) (Nat.zero_le _) ?_
      have e : oOve B D l nx hs s0 s1 thr z y = (iI (ovN (lg l (ixN l z)) (lg l (ixN l y))), (B, (D, l, nx), hs, s0, s1, thr)) := by unfold oOve; rw [if_neg (by omega)]
      rw [e]
      exact ⟨_, rfl, rfl, rfl, hX, off.rfl' _ _ _⟩
    · have hle_y := ixN_le l y
      refine r_callVR (st := []) hb ho 17 dX8_overlap_14 rfl ck_X8_109 (c_X4_findN (a + 3) nx D h pa xs l y hG hx hyb hf2) rfl rfl (gc) rfl rfl (by rw [hR0]; exact ⟨Nat.le_of_ble_eq_true rfl, Nat.le_of_ble_eq_true rfl⟩) (Nat.le_of_ble_eq_true rfl) ⟨rfl, rfl⟩ (by rw [hR0]; exact Nat.zero_le _) (by rw [hR0]; exact Nat.zero_le _) ?_
      skip
      refine r_astoreN [(4, .null), (3, .ref (pa (ixN l z))), (0, .ref a), (1, .int (iI (z))), (2, .int (iI (y)))] hb 19 5 dX8_overlap_17 rfl hnL (by decide) rfl ?_
      refine r_aload_n hb 20 dX8_overlap_19 rfl 1 rfl ?_
      refine r_ifnull hb 23 dX8_overlap_20 rfl ?_
      refine r_aloadN hb 25 dX8_overlap_23 rfl 0 rfl ?_
      refine r_ifnonnullN hb 28 dX8_overlap_25 rfl ?_
      refine r_sipush (-1001) hb 31 dX8_overlap_28 rfl rfl ?_
      refine r_iret hS dX8_overlap_31 rfl rfl (Nat.zero_le _) (Nat.zero_le _) ?_
      have e : oOve B D l nx hs s0 s1 thr z y = (iI (-1001), (B, (D, l, nx), hs, s0, s1, thr)) := by unfold oOve; rw [if_pos (Or.inr (by omega))]
      rw [e]
      exact ⟨_, rfl, rfl, rfl, hX, off.rfl' _ _ _⟩
  · have hle_z := ixN_le l z
    refine r_callVR (st := []) hb ho 8 dX8_overlap_5 rfl ck_X8_109 (c_X4_findN (a + 3) nx D h pa xs l z hG hx hzb hf) rfl rfl (gc) rfl rfl (by rw [hR0]; exact ⟨Nat.le_of_ble_eq_true rfl, Nat.le_of_ble_eq_true rfl⟩) (Nat.le_of_ble_eq_true rfl) ⟨rfl, rfl⟩ (by rw [hR0]; exact Nat.zero_le _) (by rw [hR0]; exact Nat.zero_le _) ?_
    skip
    refine r_astore_nN [(3, .null), (0, .ref a), (1, .int (iI (z))), (2, .int (iI (y)))] hb 9 5 dX8_overlap_8 rfl rfl hnL (by decide) rfl ?_
    refine r_aload_n hb 10 dX8_overlap_9 rfl 1 rfl ?_
    refine r_get hb ho 13 dX8_overlap_10 rfl lk_X8_21 pf_X8_1 xc rfl ?_
    refine r_iload_n hb 14 dX8_overlap_13 rfl 3 rfl ?_
    by_cases hf2 : ixN l y < l.length
    · have hle_y := ixN_le l y
      refine r_callVR (st := []) hb ho 17 dX8_overlap_14 rfl ck_X8_109 (c_X4_find (a + 3) nx D h pa xs l y hG hx hyb hf2) rfl rfl (gc) rfl rfl (by rw [hR0]; exact ⟨Nat.le_of_ble_eq_true rfl, Nat.le_of_ble_eq_true rfl⟩) (Nat.le_of_ble_eq_true rfl) ⟨rfl, rfl⟩ (by rw [hR0]; exact Nat.zero_le _) (by rw [hR0]; exact Nat.zero_le _) ?_
      have m0 := ((hx _ hf2 ▸ gN _ (by omega) : nt w (pa (ixN l y)) (lg l (ixN l y)))).1
      have hmb := ((hx _ hf2 ▸ gN _ (by omega) : nt w (pa (ixN l y)) (lg l (ixN l y)))).2.2.2.2
      refine r_astore [(4, .ref (pa (ixN l y))), (3, .null), (0, .ref a), (1, .int (iI (z))), (2, .int (iI (y)))] hb 19 5 dX8_overlap_17 rfl hnL (by decide) rfl ?_
      refine r_aload_nN hb 20 dX8_overlap_19 rfl 1 rfl ?_
      refine r_ifnullN hb 28 dX8_overlap_20 (by decide) ?_
      refine r_sipush (-1001) hb 31 dX8_overlap_28 rfl rfl ?_
      refine r_iret hS dX8_overlap_31 rfl rfl (Nat.zero_le _) (Nat.zero_le _) ?_
      have e : oOve B D l nx hs s0 s1 thr z y = (iI (-1001), (B, (D, l, nx), hs, s0, s1, thr)) := by unfold oOve; rw [if_pos (Or.inl (by omega))]
      rw [e]
      exact ⟨_, rfl, rfl, rfl, hX, off.rfl' _ _ _⟩
    · have hle_y := ixN_le l y
      refine r_callVR (st := []) hb ho 17 dX8_overlap_14 rfl ck_X8_109 (c_X4_findN (a + 3) nx D h pa xs l y hG hx hyb hf2) rfl rfl (gc) rfl rfl (by rw [hR0]; exact ⟨Nat.le_of_ble_eq_true rfl, Nat.le_of_ble_eq_true rfl⟩) (Nat.le_of_ble_eq_true rfl) ⟨rfl, rfl⟩ (by rw [hR0]; exact Nat.zero_le _) (by rw [hR0]; exact Nat.zero_le _) ?_
      skip
      refine r_astoreN [(4, .null), (3, .null), (0, .ref a), (1, .int (iI (z))), (2, .int (iI (y)))] hb 19 5 dX8_overlap_17 rfl hnL (by decide) rfl ?_
      refine r_aload_nN hb 20 dX8_overlap_19 rfl 1 rfl ?_
      refine r_ifnullN hb 28 dX8_overlap_20 (by decide) ?_
      refine r_sipush (-1001) hb 31 dX8_overlap_28 rfl rfl ?_
      refine r_iret hS dX8_overlap_31 rfl rfl (Nat.zero_le _) (Nat.zero_le _) ?_
      have e : oOve B D l nx hs s0 s1 thr z y = (iI (-1001), (B, (D, l, nx), hs, s0, s1, thr)) := by unfold oOve; rw [if_pos (Or.inl (by omega))]
      rw [e]
      exact ⟨_, rfl, rfl, rfl, hX, off.rfl' _ _ _⟩

abbrev rm_X8_covering : Room := { frames := 3, cells := 0, slots := 0, locals := 68 }
set_option maxHeartbeats 4000000 in
set_option maxRecDepth 100000 in
theorem c_X8_covering (a : Nat) (B D : List Int32) (l : List Nt) (nx : Nat) (hs : List Pg) (s0 s1 : Option (Pg × Int)) (thr : Int) (z r : Int) {w : PW} {n : Nat} (hX : xoE w a B D l nx hs s0 s1 thr) (hzb : -2147483648 ≤ z ∧ z < 2147483648) (hrb : -2147483648 ≤ r ∧ r < 2147483648) : Ct1 yX8_covering cX8_covering 3 (some .int) rm_X8_covering [.ref a, .int (iI (z)), .int (iI (r))] w n (fun v w1 n1 => v = .int (oCov B D l nx hs s0 s1 thr z r).1 ∧ n = n1 ∧ xo w1 a (oCov B D l nx hs s0 s1 thr z r).2 ∧ off w w1 a (a + 729)) := by
  obtain ⟨xc, xB, xP, xH, xS0, xS1, ⟨b0, b1, b2, eh, xF⟩, ⟨ri, xR⟩, ⟨pc0, oh0, ch0, xL, xLc⟩, xA⟩ := id hX
  have bc := xB.1
  have bl := xB.2.1
  obtain ⟨h, pa, xs, hG, hx⟩ := id xP
  obtain ⟨gc, gT, gcl, gnx, ⟨ga, gh⟩, ⟨gs1, gs2⟩, gN⟩ := id hG
  have gd := gT.1
  have gdl := gT.2.1
  obtain ⟨ph, qa, P, hO0, hhx⟩ := id xH
  have hc := hO0.1
  have hcl := hO0.2.2.2.2.2
  have fc := xF
  have lc := xL.1
  obtain ⟨p0, t0, s0c, s0p, s0e⟩ := id xS0
  obtain ⟨p1, t1, s1c, s1p, s1e⟩ := id xS1
  refine Ctr.of rfl (Nat.le_of_ble_eq_true rfl) fun S hS => ?_
  have hb : S.1.1 = cX8_covering := by rw [hS]; rfl
  have ho : S.1.2.1 = RX8 := by rw [hS]; rfl
  have hnL : S.1.2.2.1 = 3 := by rw [hS]; rfl
  have hR0 : S.2.1 = rm_X8_covering := by rw [hS]; rfl
  show Wp S 0 [(0, .ref a), (1, .int (iI (z))), (2, .int (iI (r)))] [] w n 0 0
  refine r_aload_n hb 1 dX8_covering_0 rfl 0 rfl ?_
  refine r_iload_n hb 2 dX8_covering_1 rfl 1 rfl ?_
  refine r_callVR (st := []) hb ho 5 dX8_covering_2 rfl ck_X8_170 (c_X8_isLetterIndex a B D l nx hs s0 s1 thr z hX hzb) rfl rfl (xc) rfl rfl (by rw [hR0]; exact ⟨Nat.le_of_ble_eq_true rfl, Nat.le_of_ble_eq_true rfl⟩) (Nat.le_of_ble_eq_true rfl) ⟨rfl, rfl⟩ (by rw [hR0]; exact Nat.zero_le _) (by rw [hR0]; exact Nat.zero_le _) ?_
  refine r_ifb_eq hb 8 12 dX8_covering_5 rfl (by decide) (fun c5 => ?_) (fun c5 => ?_)
  · refine r_sipush (-1001) hb 15 dX8_covering_12 rfl rfl ?_
    refine r_iret hS dX8_covering_15 rfl rfl (Nat.zero_le _) (Nat.zero_le _) ?_
    have e : oCov B D l nx hs s0 s1 thr z r = (iI (-1001), (B, (D, l, nx), hs, s0, s1, thr)) := by unfold oCov; rw [if_pos (Or.inl c5)]
    rw [e]
    exact ⟨_, rfl, rfl, rfl, hX, off.rfl' _ _ _⟩
  · refine r_iload_n hb 9 dX8_covering_8 rfl 2 rfl ?_
    refine r_if_ge hb 12 16 dX8_covering_9 rfl (by decide) (by omega) (fun c9 => ?_) (fun c9 => ?_)
    · refine r_aload_n hb 17 dX8_covering_16 rfl 0 rfl ?_
      refine r_get hb ho 20 dX8_covering_17 rfl lk_X8_21 pf_X8_1 xc rfl ?_
      refine r_iload_n hb 21 dX8_covering_20 rfl 1 rfl ?_
      refine r_iload_n hb 22 dX8_covering_21 rfl 2 rfl ?_
      refine r_callVR (st := []) hb ho 25 dX8_covering_22 rfl ck_X8_208 (c_X4_numberCovering (a + 3) nx D l z r xP hzb hrb) rfl rfl (gc) rfl rfl (by rw [hR0]; exact ⟨Nat.le_of_ble_eq_true rfl, Nat.le_of_ble_eq_true rfl⟩) (Nat.le_of_ble_eq_true rfl) ⟨rfl, rfl⟩ (by rw [hR0]; exact Nat.zero_le _) (by rw [hR0]; exact Nat.zero_le _) ?_
      refine r_iret hS dX8_covering_25 rfl rfl (Nat.zero_le _) (Nat.zero_le _) ?_
      have e : oCov B D l nx hs s0 s1 thr z r = (iI (ncZ l z r), (B, (D, l, nx), hs, s0, s1, thr)) := by unfold oCov; rw [if_neg (fun hh => hh.elim (fun h1 => by rw [c5] at h1; cases h1) (fun h1 => by omega))]
      rw [e]
      exact ⟨_, rfl, rfl, rfl, hX, off.rfl' _ _ _⟩
    · refine r_sipush (-1001) hb 15 dX8_covering_12 rfl rfl ?_
      refine r_iret hS dX8_covering_15 rfl rfl (Nat.zero_le _) (Nat.zero_le _) ?_
      have e : oCov B D l nx hs s0 s1 thr z r = (iI (-1001), (B, (D, l, nx), hs, s0, s1, thr)) := by unfold oCov; rw [if_pos (Or.inr (by omega))]
      rw [e]
      exact ⟨_, rfl, rfl, rfl, hX, off.rfl' _ _ _⟩

abbrev rm_X8_setThreshold : Room := { frames := 0, cells := 0, slots := 0, locals := 0 }
set_option maxHeartbeats 4000000 in
set_option maxRecDepth 100000 in
theorem c_X8_setThreshold (a : Nat) (B D : List Int32) (l : List Nt) (nx : Nat) (hs : List Pg) (s0 s1 : Option (Pg × Int)) (thr : Int) (z : Int) {w : PW} {n : Nat} (hX : xoE w a B D l nx hs s0 s1 thr) (hzb : -2147483648 ≤ z ∧ z < 2147483648) : Ct1 yX8_setThreshold cX8_setThreshold 3 (some .int) rm_X8_setThreshold [.ref a, .int (iI (z))] w n (fun v w1 n1 => v = .int (oThr B D l nx hs s0 s1 thr z).1 ∧ n = n1 ∧ xo w1 a (oThr B D l nx hs s0 s1 thr z).2 ∧ off w w1 a (a + 729)) := by
  obtain ⟨xc, xB, xP, xH, xS0, xS1, ⟨b0, b1, b2, eh, xF⟩, ⟨ri, xR⟩, ⟨pc0, oh0, ch0, xL, xLc⟩, xA⟩ := id hX
  have bc := xB.1
  have bl := xB.2.1
  obtain ⟨h, pa, xs, hG, hx⟩ := id xP
  obtain ⟨gc, gT, gcl, gnx, ⟨ga, gh⟩, ⟨gs1, gs2⟩, gN⟩ := id hG
  have gd := gT.1
  have gdl := gT.2.1
  obtain ⟨ph, qa, P, hO0, hhx⟩ := id xH
  have hc := hO0.1
  have hcl := hO0.2.2.2.2.2
  have fc := xF
  have lc := xL.1
  obtain ⟨p0, t0, s0c, s0p, s0e⟩ := id xS0
  obtain ⟨p1, t1, s1c, s1p, s1e⟩ := id xS1
  refine Ctr.of rfl (Nat.le_of_ble_eq_true rfl) fun S hS => ?_
  have hb : S.1.1 = cX8_setThreshold := by rw [hS]; rfl
  have ho : S.1.2.1 = RX8 := by rw [hS]; rfl
  have hnL : S.1.2.2.1 = 3 := by rw [hS]; rfl
  have hR0 : S.2.1 = rm_X8_setThreshold := by rw [hS]; rfl
  show Wp S 0 [(0, .ref a), (1, .int (iI (z)))] [] w n 0 0
  refine r_iload_n hb 1 dX8_setThreshold_0 rfl 1 rfl ?_
  refine r_if_lt hb 4 10 dX8_setThreshold_1 rfl (by decide) (by omega) (fun c1 => ?_) (fun c1 => ?_)
  · refine r_sipush (-1002) hb 13 dX8_setThreshold_10 rfl rfl ?_
    refine r_iret hS dX8_setThreshold_13 rfl rfl (Nat.zero_le _) (Nat.zero_le _) ?_
    have e : oThr B D l nx hs s0 s1 thr z = (iI (-1002), (B, (D, l, nx), hs, s0, s1, thr)) := by unfold oThr; rw [if_pos (by omega)]
    rw [e]
    exact ⟨_, rfl, rfl, rfl, hX, off.rfl' _ _ _⟩
  · refine r_iload_n hb 5 dX8_setThreshold_4 rfl 1 rfl ?_
    refine r_bipush 108 hb 7 dX8_setThreshold_5 rfl rfl ?_
    refine r_icmp_le hb 10 14 dX8_setThreshold_7 rfl (by decide) (by omega) (by omega) (fun c7 => ?_) (fun c7 => ?_)
    · refine r_aload_n hb 15 dX8_setThreshold_14 rfl 0 rfl ?_
      refine r_get hb ho 18 dX8_setThreshold_15 rfl lk_X8_56 pf_X8_7 xc rfl ?_
      refine r_istore_n [(2, .int (iI (thr))), (0, .ref a), (1, .int (iI (z)))] hb 19 3 dX8_setThreshold_18 rfl rfl hnL (by decide) rfl ?_
      refine r_aload_n hb 20 dX8_setThreshold_19 rfl 1 rfl ?_
      refine r_iload_n hb 21 dX8_setThreshold_20 rfl 2 rfl ?_
      refine r_put hb ho 24 dX8_setThreshold_21 rfl lk_X8_56 pf_X8_7 xc (Nat.le_of_ble_eq_true rfl) ⟨rfl, rfl⟩ (fun w_21 hw_21 => ?_)
      have ow_21 := pset_off hw_21
      have xw_21 : w_21 a = some (eO 8 [.ref (a + 1), .ref (a + 3), .ref (a + 77), .ref (a + 523), .ref (a + 598), .ref (a + 673), .ref (a + 675), .int (iI (z))]) := by rw [hw_21]; exact pset_eq _ _ _
      have bc : w_21 (a + 1) = some (eO 7 [.ref (a + 1 + 1), .int (iI (((B.length : Nat) : Int)))]) := (ow_21 _ (by omega)).trans bc
      have gc : w_21 (a + 3) = some (eO 4 [.ref (a + 3 + 1), .ref (a + 3 + 3), .int (iI (((l.length : Nat) : Int))), .int (iI (((nx : Nat) : Int)))]) := (ow_21 _ (by omega)).trans gc
      have ga : w_21 (a + 3 + 3) = some (eQ 3 10 h) := (ow_21 _ (by omega)).trans ga
      have gT : tx w_21 (a + 3 + 1) 120 D := gT.off ow_21 (by omega)
      have gd : w_21 (a + 3 + 1) = some (eO 7 [.ref (a + 3 + 1 + 1), .int (iI (((D.length : Nat) : Int)))]) := (ow_21 _ (by omega)).trans gd
      have hc : w_21 (a + 77) = some (eO 2 [.ref (a + 77 + 1), .int (iI (((hs.length : Nat) : Int)))]) := (ow_21 _ (by omega)).trans hc
      have fc : w_21 (a + 673) = some (eO 1 [.ref (a + 673 + 1), .int (iI (b0)), .int (iI (b1)), .int (iI (b2)), .int (iI (eh))]) := (ow_21 _ (by omega)).trans fc
      have lc : w_21 (a + 675) = some (eO 5 [.ref (a + 675 + 1), .ref (a + 675 + 2), .int (iI (((pc0 : Nat) : Int)))]) := (ow_21 _ (by omega)).trans lc
      have s0c : w_21 (a + 523) = some (eO 6 [.ref (a + 523 + 1), .int (iI (t0)), .int (bI (s0.isSome))]) := (ow_21 _ (by omega)).trans s0c
      have s1c : w_21 (a + 598) = some (eO 6 [.ref (a + 598 + 1), .int (iI (t1)), .int (bI (s1.isSome))]) := (ow_21 _ (by omega)).trans s1c
      have xB : tx w_21 (a + 1) 40 B := xB.off ow_21 (by omega)
      have xP : pg w_21 (a + 3) D l nx := xP.off ow_21 (by omega)
      have xH : hst w_21 (a + 77) hs := xH.off ow_21 (by omega)
      have xS0 : slt w_21 (a + 523) s0 := xS0.off ow_21 (by omega)
      have xS1 : slt w_21 (a + 598) s1 := xS1.off ow_21 (by omega)
      have xF : fd w_21 (a + 673) b0 b1 b2 eh := xF.off ow_21 (by omega)
      have xR : fr w_21 (a + 673) 0 ri := xR.off ow_21 (by omega)
      have xL : plo w_21 (a + 675) pc0 oh0 ch0 := xL.off ow_21 (by omega)
      have xA : chA w_21 (a + 675) := xA.off ow_21 (by omega)
      have hG : pgo w_21 (a + 3) D h pa xs l.length nx := hG.off ow_21 (by omega)
      refine r_iload_n hb 25 dX8_setThreshold_24 rfl 0 rfl ?_
      refine r_iret hS dX8_setThreshold_25 rfl rfl (Nat.zero_le _) (Nat.zero_le _) ?_
      have xc := xw_21
      have e : oThr B D l nx hs s0 s1 thr z = (iI thr, (B, (D, l, nx), hs, s0, s1, z)) := by unfold oThr; rw [if_neg (by omega)]
      rw [e]
      exact ⟨_, rfl, rfl, rfl, ⟨xc, xB, xP, xH, xS0, xS1, ⟨_, _, _, _, xF⟩, ⟨_, xR⟩, ⟨_, _, _, xL, xLc⟩, xA⟩, (ow_21.mono (by omega) (by omega))⟩
    · refine r_sipush (-1002) hb 13 dX8_setThreshold_10 rfl rfl ?_
      refine r_iret hS dX8_setThreshold_13 rfl rfl (Nat.zero_le _) (Nat.zero_le _) ?_
      have e : oThr B D l nx hs s0 s1 thr z = (iI (-1002), (B, (D, l, nx), hs, s0, s1, thr)) := by unfold oThr; rw [if_pos (by omega)]
      rw [e]
      exact ⟨_, rfl, rfl, rfl, hX, off.rfl' _ _ _⟩

abbrev rm_X8_save : Room := { frames := 5, cells := 0, slots := 0, locals := 109 }
set_option maxHeartbeats 4000000 in
set_option maxRecDepth 100000 in
theorem c_X8_save (a : Nat) (B D : List Int32) (l : List Nt) (nx : Nat) (hs : List Pg) (s0 s1 : Option (Pg × Int)) (thr : Int) (z : Int) {w : PW} {n : Nat} (hX : xoE w a B D l nx hs s0 s1 thr) (hzb : -2147483648 ≤ z ∧ z < 2147483648) : Ct1 yX8_save cX8_save 3 (some .int) rm_X8_save [.ref a, .int (iI (z))] w n (fun v w1 n1 => v = .int (oSav B D l nx hs s0 s1 thr z).1 ∧ n = n1 ∧ xo w1 a (oSav B D l nx hs s0 s1 thr z).2 ∧ off w w1 a (a + 729)) := by
  obtain ⟨xc, xB, xP, xH, xS0, xS1, ⟨b0, b1, b2, eh, xF⟩, ⟨ri, xR⟩, ⟨pc0, oh0, ch0, xL, xLc⟩, xA⟩ := id hX
  have bc := xB.1
  have bl := xB.2.1
  obtain ⟨h, pa, xs, hG, hx⟩ := id xP
  obtain ⟨gc, gT, gcl, gnx, ⟨ga, gh⟩, ⟨gs1, gs2⟩, gN⟩ := id hG
  have gd := gT.1
  have gdl := gT.2.1
  obtain ⟨ph, qa, P, hO0, hhx⟩ := id xH
  have hc := hO0.1
  have hcl := hO0.2.2.2.2.2
  have fc := xF
  have lc := xL.1
  obtain ⟨p0, t0, s0c, s0p, s0e⟩ := id xS0
  obtain ⟨p1, t1, s1c, s1p, s1e⟩ := id xS1
  refine Ctr.of rfl (Nat.le_of_ble_eq_true rfl) fun S hS => ?_
  have hb : S.1.1 = cX8_save := by rw [hS]; rfl
  have ho : S.1.2.1 = RX8 := by rw [hS]; rfl
  have hnL : S.1.2.2.1 = 3 := by rw [hS]; rfl
  have hR0 : S.2.1 = rm_X8_save := by rw [hS]; rfl
  show Wp S 0 [(0, .ref a), (1, .int (iI (z)))] [] w n 0 0
  refine r_iload_n hb 1 dX8_save_0 rfl 1 rfl ?_
  refine r_if_lt hb 4 9 dX8_save_1 rfl (by decide) (by omega) (fun c1 => ?_) (fun c1 => ?_)
  · refine r_sipush (-1001) hb 12 dX8_save_9 rfl rfl ?_
    refine r_iret hS dX8_save_12 rfl rfl (Nat.zero_le _) (Nat.zero_le _) ?_
    have e : oSav B D l nx hs s0 s1 thr z = (iI (-1001), (B, (D, l, nx), hs, s0, s1, thr)) := by unfold oSav; rw [if_pos (by omega)]
    rw [e]
    exact ⟨_, rfl, rfl, rfl, hX, off.rfl' _ _ _⟩
  · refine r_iload_n hb 5 dX8_save_4 rfl 1 rfl ?_
    refine r_iconst hb 6 dX8_save_5 rfl ?_
    refine r_icmp_le hb 9 13 dX8_save_6 rfl (by decide) (by omega) (by omega) (fun c6 => ?_) (fun c6 => ?_)
    · refine r_iload_n hb 14 dX8_save_13 rfl 1 rfl ?_
      refine r_if_ne hb 17 24 dX8_save_14 rfl (by decide) (by omega) (fun c14 => ?_) (fun c14 => ?_)
      · refine r_aload_n hb 25 dX8_save_24 rfl 0 rfl ?_
        refine r_get hb ho 28 dX8_save_25 rfl lk_X8_39 pf_X8_4 xc rfl ?_
        refine r_astore_n [(2, .ref (a + 598)), (0, .ref a), (1, .int (iI (z)))] hb 29 3 dX8_save_28 rfl rfl hnL (by decide) rfl ?_
        have s1p : pg w (a + 598 + 1) p1.1 p1.2.1 p1.2.2 := s1p
        obtain ⟨h_5, pa_5, xs_5, hG5, -⟩ := id s1p
        have spc := hG5.1
        refine r_aload_n hb 30 dX8_save_29 rfl 0 rfl ?_
        refine r_iconst hb 31 dX8_save_30 rfl ?_
        refine r_topv (.int (bI true)) rfl ?_
        refine r_put hb ho 34 dX8_save_31 rfl lk_X8_211 pf_X6_2 s1c (Nat.le_of_ble_eq_true rfl) ⟨rfl, rfl⟩ (fun w_31 hw_31 => ?_)
        have ow_31 := pset_off hw_31
        have xw_31 : w_31 (a + 598) = some (eO 6 [.ref (a + 598 + 1), .int (iI (t1)), .int (bI (true))]) := by rw [hw_31]; exact pset_eq _ _ _
        have spc : w_31 (a + 598 + 1) = some (eO 4 [.ref (a + 598 + 1 + 1), .ref (a + 598 + 1 + 3), .int (iI (((p1.2.1.length : Nat) : Int))), .int (iI (((p1.2.2 : Nat) : Int)))]) := (ow_31 _ (by omega)).trans spc
        have xc : w_31 a = some (eO 8 [.ref (a + 1), .ref (a + 3), .ref (a + 77), .ref (a + 523), .ref (a + 598), .ref (a + 673), .ref (a + 675), .int (iI (thr))]) := (ow_31 _ (by omega)).trans xc
        have bc : w_31 (a + 1) = some (eO 7 [.ref (a + 1 + 1), .int (iI (((B.length : Nat) : Int)))]) := (ow_31 _ (by omega)).trans bc
        have gc : w_31 (a + 3) = some (eO 4 [.ref (a + 3 + 1), .ref (a + 3 + 3), .int (iI (((l.length : Nat) : Int))), .int (iI (((nx : Nat) : Int)))]) := (ow_31 _ (by omega)).trans gc
        have ga : w_31 (a + 3 + 3) = some (eQ 3 10 h) := (ow_31 _ (by omega)).trans ga
        have gT : tx w_31 (a + 3 + 1) 120 D := gT.off ow_31 (by omega)
        have gd : w_31 (a + 3 + 1) = some (eO 7 [.ref (a + 3 + 1 + 1), .int (iI (((D.length : Nat) : Int)))]) := (ow_31 _ (by omega)).trans gd
        have hc : w_31 (a + 77) = some (eO 2 [.ref (a + 77 + 1), .int (iI (((hs.length : Nat) : Int)))]) := (ow_31 _ (by omega)).trans hc
        have fc : w_31 (a + 673) = some (eO 1 [.ref (a + 673 + 1), .int (iI (b0)), .int (iI (b1)), .int (iI (b2)), .int (iI (eh))]) := (ow_31 _ (by omega)).trans fc
        have lc : w_31 (a + 675) = some (eO 5 [.ref (a + 675 + 1), .ref (a + 675 + 2), .int (iI (((pc0 : Nat) : Int)))]) := (ow_31 _ (by omega)).trans lc
        have s0c : w_31 (a + 523) = some (eO 6 [.ref (a + 523 + 1), .int (iI (t0)), .int (bI (s0.isSome))]) := (ow_31 _ (by omega)).trans s0c
        have xB : tx w_31 (a + 1) 40 B := xB.off ow_31 (by omega)
        have xP : pg w_31 (a + 3) D l nx := xP.off ow_31 (by omega)
        have xH : hst w_31 (a + 77) hs := xH.off ow_31 (by omega)
        have xS0 : slt w_31 (a + 523) s0 := xS0.off ow_31 (by omega)
        have xF : fd w_31 (a + 673) b0 b1 b2 eh := xF.off ow_31 (by omega)
        have xR : fr w_31 (a + 673) 0 ri := xR.off ow_31 (by omega)
        have xL : plo w_31 (a + 675) pc0 oh0 ch0 := xL.off ow_31 (by omega)
        have xA : chA w_31 (a + 675) := xA.off ow_31 (by omega)
        have hG : pgo w_31 (a + 3) D h pa xs l.length nx := hG.off ow_31 (by omega)
        have s1p : pg w_31 (a + 598 + 1) p1.1 p1.2.1 p1.2.2 := s1p.off ow_31 (by omega)
        refine r_aload_n hb 35 dX8_save_34 rfl 0 rfl ?_
        refine r_aload_n hb 36 dX8_save_35 rfl 1 rfl ?_
        refine r_get hb ho 39 dX8_save_36 rfl lk_X8_56 pf_X8_7 xc rfl ?_
        refine r_put hb ho 42 dX8_save_39 rfl lk_X8_215 pf_X6_1 xw_31 (Nat.le_of_ble_eq_true rfl) ⟨rfl, rfl⟩ (fun w_39 hw_39 => ?_)
        have ow_39 := pset_off hw_39
        have xw_39 : w_39 (a + 598) = some (eO 6 [.ref (a + 598 + 1), .int (iI (thr)), .int (bI (true))]) := by rw [hw_39]; exact pset_eq _ _ _
        have spc : w_39 (a + 598 + 1) = some (eO 4 [.ref (a + 598 + 1 + 1), .ref (a + 598 + 1 + 3), .int (iI (((p1.2.1.length : Nat) : Int))), .int (iI (((p1.2.2 : Nat) : Int)))]) := (ow_39 _ (by omega)).trans spc
        have xc : w_39 a = some (eO 8 [.ref (a + 1), .ref (a + 3), .ref (a + 77), .ref (a + 523), .ref (a + 598), .ref (a + 673), .ref (a + 675), .int (iI (thr))]) := (ow_39 _ (by omega)).trans xc
        have bc : w_39 (a + 1) = some (eO 7 [.ref (a + 1 + 1), .int (iI (((B.length : Nat) : Int)))]) := (ow_39 _ (by omega)).trans bc
        have gc : w_39 (a + 3) = some (eO 4 [.ref (a + 3 + 1), .ref (a + 3 + 3), .int (iI (((l.length : Nat) : Int))), .int (iI (((nx : Nat) : Int)))]) := (ow_39 _ (by omega)).trans gc
        have ga : w_39 (a + 3 + 3) = some (eQ 3 10 h) := (ow_39 _ (by omega)).trans ga
        have gT : tx w_39 (a + 3 + 1) 120 D := gT.off ow_39 (by omega)
        have gd : w_39 (a + 3 + 1) = some (eO 7 [.ref (a + 3 + 1 + 1), .int (iI (((D.length : Nat) : Int)))]) := (ow_39 _ (by omega)).trans gd
        have hc : w_39 (a + 77) = some (eO 2 [.ref (a + 77 + 1), .int (iI (((hs.length : Nat) : Int)))]) := (ow_39 _ (by omega)).trans hc
        have fc : w_39 (a + 673) = some (eO 1 [.ref (a + 673 + 1), .int (iI (b0)), .int (iI (b1)), .int (iI (b2)), .int (iI (eh))]) := (ow_39 _ (by omega)).trans fc
        have lc : w_39 (a + 675) = some (eO 5 [.ref (a + 675 + 1), .ref (a + 675 + 2), .int (iI (((pc0 : Nat) : Int)))]) := (ow_39 _ (by omega)).trans lc
        have s0c : w_39 (a + 523) = some (eO 6 [.ref (a + 523 + 1), .int (iI (t0)), .int (bI (s0.isSome))]) := (ow_39 _ (by omega)).trans s0c
        have xB : tx w_39 (a + 1) 40 B := xB.off ow_39 (by omega)
        have xP : pg w_39 (a + 3) D l nx := xP.off ow_39 (by omega)
        have xH : hst w_39 (a + 77) hs := xH.off ow_39 (by omega)
        have xS0 : slt w_39 (a + 523) s0 := xS0.off ow_39 (by omega)
        have xF : fd w_39 (a + 673) b0 b1 b2 eh := xF.off ow_39 (by omega)
        have xR : fr w_39 (a + 673) 0 ri := xR.off ow_39 (by omega)
        have xL : plo w_39 (a + 675) pc0 oh0 ch0 := xL.off ow_39 (by omega)
        have xA : chA w_39 (a + 675) := xA.off ow_39 (by omega)
        have hG : pgo w_39 (a + 3) D h pa xs l.length nx := hG.off ow_39 (by omega)
        have s1p : pg w_39 (a + 598 + 1) p1.1 p1.2.1 p1.2.2 := s1p.off ow_39 (by omega)
        refine r_aload_n hb 43 dX8_save_42 rfl 0 rfl ?_
        refine r_get hb ho 46 dX8_save_43 rfl lk_X8_216 pf_X6_0 xw_39 rfl ?_
        refine r_aload_n hb 47 dX8_save_46 rfl 1 rfl ?_
        refine r_get hb ho 50 dX8_save_47 rfl lk_X8_21 pf_X8_1 xc rfl ?_
        refine r_callV0 (st := []) hb ho 53 dX8_save_50 rfl ck_X8_217 (c_X4_become (a + 598 + 1) p1.2.2 (a + 3) nx p1.1 D p1.2.1 l s1p xP (by omega)) rfl rfl (spc) rfl rfl (by rw [hR0]; exact ⟨Nat.le_of_ble_eq_true rfl, Nat.le_of_ble_eq_true rfl⟩) (Nat.le_of_ble_eq_true rfl) ⟨rfl, rfl⟩ (by rw [hR0]; exact Nat.zero_le _) (by rw [hR0]; exact Nat.zero_le _) (fun w_50 nw_50 qw_50 => ?_)
        obtain ⟨rfl, hnew, ow_50⟩ := qw_50
        have xw_39 : w_50 (a + 598) = some (eO 6 [.ref (a + 598 + 1), .int (iI (thr)), .int (bI (true))]) := (ow_50 _ (by omega)).trans xw_39
        have xc : w_50 a = some (eO 8 [.ref (a + 1), .ref (a + 3), .ref (a + 77), .ref (a + 523), .ref (a + 598), .ref (a + 673), .ref (a + 675), .int (iI (thr))]) := (ow_50 _ (by omega)).trans xc
        have bc : w_50 (a + 1) = some (eO 7 [.ref (a + 1 + 1), .int (iI (((B.length : Nat) : Int)))]) := (ow_50 _ (by omega)).trans bc
        have gc : w_50 (a + 3) = some (eO 4 [.ref (a + 3 + 1), .ref (a + 3 + 3), .int (iI (((l.length : Nat) : Int))), .int (iI (((nx : Nat) : Int)))]) := (ow_50 _ (by omega)).trans gc
        have ga : w_50 (a + 3 + 3) = some (eQ 3 10 h) := (ow_50 _ (by omega)).trans ga
        have gT : tx w_50 (a + 3 + 1) 120 D := gT.off ow_50 (by omega)
        have gd : w_50 (a + 3 + 1) = some (eO 7 [.ref (a + 3 + 1 + 1), .int (iI (((D.length : Nat) : Int)))]) := (ow_50 _ (by omega)).trans gd
        have hc : w_50 (a + 77) = some (eO 2 [.ref (a + 77 + 1), .int (iI (((hs.length : Nat) : Int)))]) := (ow_50 _ (by omega)).trans hc
        have fc : w_50 (a + 673) = some (eO 1 [.ref (a + 673 + 1), .int (iI (b0)), .int (iI (b1)), .int (iI (b2)), .int (iI (eh))]) := (ow_50 _ (by omega)).trans fc
        have lc : w_50 (a + 675) = some (eO 5 [.ref (a + 675 + 1), .ref (a + 675 + 2), .int (iI (((pc0 : Nat) : Int)))]) := (ow_50 _ (by omega)).trans lc
        have s0c : w_50 (a + 523) = some (eO 6 [.ref (a + 523 + 1), .int (iI (t0)), .int (bI (s0.isSome))]) := (ow_50 _ (by omega)).trans s0c
        have xB : tx w_50 (a + 1) 40 B := xB.off ow_50 (by omega)
        have xP : pg w_50 (a + 3) D l nx := xP.off ow_50 (by omega)
        have xH : hst w_50 (a + 77) hs := xH.off ow_50 (by omega)
        have xS0 : slt w_50 (a + 523) s0 := xS0.off ow_50 (by omega)
        have xF : fd w_50 (a + 673) b0 b1 b2 eh := xF.off ow_50 (by omega)
        have xR : fr w_50 (a + 673) 0 ri := xR.off ow_50 (by omega)
        have xL : plo w_50 (a + 675) pc0 oh0 ch0 := xL.off ow_50 (by omega)
        have xA : chA w_50 (a + 675) := xA.off ow_50 (by omega)
        have hG : pgo w_50 (a + 3) D h pa xs l.length nx := hG.off ow_50 (by omega)
        refine r_aload_n hb 54 dX8_save_53 rfl 1 rfl ?_
        refine r_get hb ho 57 dX8_save_54 rfl lk_X8_21 pf_X8_1 xc rfl ?_
        refine r_get hb ho 60 dX8_save_57 rfl lk_X8_96 pf_X4_2 gc rfl ?_
        refine r_iret hS dX8_save_60 rfl rfl (Nat.zero_le _) (Nat.zero_le _) ?_
        have e : oSav B D l nx hs s0 s1 thr z = (iI ((l.length : Nat) : Int), (B, (D, l, nx), hs, s0, some ((D, l, nx), thr), thr)) := by unfold oSav; rw [if_neg (by omega), if_neg (by omega), if_neg (by omega)]
        rw [e]
        exact ⟨_, rfl, rfl, rfl, ⟨xc, xB, xP, xH, xS0, ⟨(D, l, nx), thr, xw_39, hnew, fun v hv => (Option.some.inj hv).symm⟩, ⟨_, _, _, _, xF⟩, ⟨_, xR⟩, ⟨_, _, _, xL, xLc⟩, xA⟩, (((ow_31.mono (by omega) (by omega)).trans (ow_39.mono (by omega) (by omega))).trans (ow_50.mono (by omega) (by omega)))⟩
      · refine r_aload_n hb 18 dX8_save_17 rfl 0 rfl ?_
        refine r_get hb ho 21 dX8_save_18 rfl lk_X8_35 pf_X8_3 xc rfl ?_
        refine r_goto hb 28 dX8_save_21 (by decide) ?_
        refine r_astore_n [(2, .ref (a + 523)), (0, .ref a), (1, .int (iI (z)))] hb 29 3 dX8_save_28 rfl rfl hnL (by decide) rfl ?_
        have s0p : pg w (a + 523 + 1) p0.1 p0.2.1 p0.2.2 := s0p
        obtain ⟨h_5, pa_5, xs_5, hG5, -⟩ := id s0p
        have spc := hG5.1
        refine r_aload_n hb 30 dX8_save_29 rfl 0 rfl ?_
        refine r_iconst hb 31 dX8_save_30 rfl ?_
        refine r_topv (.int (bI true)) rfl ?_
        refine r_put hb ho 34 dX8_save_31 rfl lk_X8_211 pf_X6_2 s0c (Nat.le_of_ble_eq_true rfl) ⟨rfl, rfl⟩ (fun w_31 hw_31 => ?_)
        have ow_31 := pset_off hw_31
        have xw_31 : w_31 (a + 523) = some (eO 6 [.ref (a + 523 + 1), .int (iI (t0)), .int (bI (true))]) := by rw [hw_31]; exact pset_eq _ _ _
        have spc : w_31 (a + 523 + 1) = some (eO 4 [.ref (a + 523 + 1 + 1), .ref (a + 523 + 1 + 3), .int (iI (((p0.2.1.length : Nat) : Int))), .int (iI (((p0.2.2 : Nat) : Int)))]) := (ow_31 _ (by omega)).trans spc
        have xc : w_31 a = some (eO 8 [.ref (a + 1), .ref (a + 3), .ref (a + 77), .ref (a + 523), .ref (a + 598), .ref (a + 673), .ref (a + 675), .int (iI (thr))]) := (ow_31 _ (by omega)).trans xc
        have bc : w_31 (a + 1) = some (eO 7 [.ref (a + 1 + 1), .int (iI (((B.length : Nat) : Int)))]) := (ow_31 _ (by omega)).trans bc
        have gc : w_31 (a + 3) = some (eO 4 [.ref (a + 3 + 1), .ref (a + 3 + 3), .int (iI (((l.length : Nat) : Int))), .int (iI (((nx : Nat) : Int)))]) := (ow_31 _ (by omega)).trans gc
        have ga : w_31 (a + 3 + 3) = some (eQ 3 10 h) := (ow_31 _ (by omega)).trans ga
        have gT : tx w_31 (a + 3 + 1) 120 D := gT.off ow_31 (by omega)
        have gd : w_31 (a + 3 + 1) = some (eO 7 [.ref (a + 3 + 1 + 1), .int (iI (((D.length : Nat) : Int)))]) := (ow_31 _ (by omega)).trans gd
        have hc : w_31 (a + 77) = some (eO 2 [.ref (a + 77 + 1), .int (iI (((hs.length : Nat) : Int)))]) := (ow_31 _ (by omega)).trans hc
        have fc : w_31 (a + 673) = some (eO 1 [.ref (a + 673 + 1), .int (iI (b0)), .int (iI (b1)), .int (iI (b2)), .int (iI (eh))]) := (ow_31 _ (by omega)).trans fc
        have lc : w_31 (a + 675) = some (eO 5 [.ref (a + 675 + 1), .ref (a + 675 + 2), .int (iI (((pc0 : Nat) : Int)))]) := (ow_31 _ (by omega)).trans lc
        have s1c : w_31 (a + 598) = some (eO 6 [.ref (a + 598 + 1), .int (iI (t1)), .int (bI (s1.isSome))]) := (ow_31 _ (by omega)).trans s1c
        have xB : tx w_31 (a + 1) 40 B := xB.off ow_31 (by omega)
        have xP : pg w_31 (a + 3) D l nx := xP.off ow_31 (by omega)
        have xH : hst w_31 (a + 77) hs := xH.off ow_31 (by omega)
        have xS1 : slt w_31 (a + 598) s1 := xS1.off ow_31 (by omega)
        have xF : fd w_31 (a + 673) b0 b1 b2 eh := xF.off ow_31 (by omega)
        have xR : fr w_31 (a + 673) 0 ri := xR.off ow_31 (by omega)
        have xL : plo w_31 (a + 675) pc0 oh0 ch0 := xL.off ow_31 (by omega)
        have xA : chA w_31 (a + 675) := xA.off ow_31 (by omega)
        have hG : pgo w_31 (a + 3) D h pa xs l.length nx := hG.off ow_31 (by omega)
        have s0p : pg w_31 (a + 523 + 1) p0.1 p0.2.1 p0.2.2 := s0p.off ow_31 (by omega)
        refine r_aload_n hb 35 dX8_save_34 rfl 0 rfl ?_
        refine r_aload_n hb 36 dX8_save_35 rfl 1 rfl ?_
        refine r_get hb ho 39 dX8_save_36 rfl lk_X8_56 pf_X8_7 xc rfl ?_
        refine r_put hb ho 42 dX8_save_39 rfl lk_X8_215 pf_X6_1 xw_31 (Nat.le_of_ble_eq_true rfl) ⟨rfl, rfl⟩ (fun w_39 hw_39 => ?_)
        have ow_39 := pset_off hw_39
        have xw_39 : w_39 (a + 523) = some (eO 6 [.ref (a + 523 + 1), .int (iI (thr)), .int (bI (true))]) := by rw [hw_39]; exact pset_eq _ _ _
        have spc : w_39 (a + 523 + 1) = some (eO 4 [.ref (a + 523 + 1 + 1), .ref (a + 523 + 1 + 3), .int (iI (((p0.2.1.length : Nat) : Int))), .int (iI (((p0.2.2 : Nat) : Int)))]) := (ow_39 _ (by omega)).trans spc
        have xc : w_39 a = some (eO 8 [.ref (a + 1), .ref (a + 3), .ref (a + 77), .ref (a + 523), .ref (a + 598), .ref (a + 673), .ref (a + 675), .int (iI (thr))]) := (ow_39 _ (by omega)).trans xc
        have bc : w_39 (a + 1) = some (eO 7 [.ref (a + 1 + 1), .int (iI (((B.length : Nat) : Int)))]) := (ow_39 _ (by omega)).trans bc
        have gc : w_39 (a + 3) = some (eO 4 [.ref (a + 3 + 1), .ref (a + 3 + 3), .int (iI (((l.length : Nat) : Int))), .int (iI (((nx : Nat) : Int)))]) := (ow_39 _ (by omega)).trans gc
        have ga : w_39 (a + 3 + 3) = some (eQ 3 10 h) := (ow_39 _ (by omega)).trans ga
        have gT : tx w_39 (a + 3 + 1) 120 D := gT.off ow_39 (by omega)
        have gd : w_39 (a + 3 + 1) = some (eO 7 [.ref (a + 3 + 1 + 1), .int (iI (((D.length : Nat) : Int)))]) := (ow_39 _ (by omega)).trans gd
        have hc : w_39 (a + 77) = some (eO 2 [.ref (a + 77 + 1), .int (iI (((hs.length : Nat) : Int)))]) := (ow_39 _ (by omega)).trans hc
        have fc : w_39 (a + 673) = some (eO 1 [.ref (a + 673 + 1), .int (iI (b0)), .int (iI (b1)), .int (iI (b2)), .int (iI (eh))]) := (ow_39 _ (by omega)).trans fc
        have lc : w_39 (a + 675) = some (eO 5 [.ref (a + 675 + 1), .ref (a + 675 + 2), .int (iI (((pc0 : Nat) : Int)))]) := (ow_39 _ (by omega)).trans lc
        have s1c : w_39 (a + 598) = some (eO 6 [.ref (a + 598 + 1), .int (iI (t1)), .int (bI (s1.isSome))]) := (ow_39 _ (by omega)).trans s1c
        have xB : tx w_39 (a + 1) 40 B := xB.off ow_39 (by omega)
        have xP : pg w_39 (a + 3) D l nx := xP.off ow_39 (by omega)
        have xH : hst w_39 (a + 77) hs := xH.off ow_39 (by omega)
        have xS1 : slt w_39 (a + 598) s1 := xS1.off ow_39 (by omega)
        have xF : fd w_39 (a + 673) b0 b1 b2 eh := xF.off ow_39 (by omega)
        have xR : fr w_39 (a + 673) 0 ri := xR.off ow_39 (by omega)
        have xL : plo w_39 (a + 675) pc0 oh0 ch0 := xL.off ow_39 (by omega)
        have xA : chA w_39 (a + 675) := xA.off ow_39 (by omega)
        have hG : pgo w_39 (a + 3) D h pa xs l.length nx := hG.off ow_39 (by omega)
        have s0p : pg w_39 (a + 523 + 1) p0.1 p0.2.1 p0.2.2 := s0p.off ow_39 (by omega)
        refine r_aload_n hb 43 dX8_save_42 rfl 0 rfl ?_
        refine r_get hb ho 46 dX8_save_43 rfl lk_X8_216 pf_X6_0 xw_39 rfl ?_
        refine r_aload_n hb 47 dX8_save_46 rfl 1 rfl ?_
        refine r_get hb ho 50 dX8_save_47 rfl lk_X8_21 pf_X8_1 xc rfl ?_
        refine r_callV0 (st := []) hb ho 53 dX8_save_50 rfl ck_X8_217 (c_X4_become (a + 523 + 1) p0.2.2 (a + 3) nx p0.1 D p0.2.1 l s0p xP (by omega)) rfl rfl (spc) rfl rfl (by rw [hR0]; exact ⟨Nat.le_of_ble_eq_true rfl, Nat.le_of_ble_eq_true rfl⟩) (Nat.le_of_ble_eq_true rfl) ⟨rfl, rfl⟩ (by rw [hR0]; exact Nat.zero_le _) (by rw [hR0]; exact Nat.zero_le _) (fun w_50 nw_50 qw_50 => ?_)
        obtain ⟨rfl, hnew, ow_50⟩ := qw_50
        have xw_39 : w_50 (a + 523) = some (eO 6 [.ref (a + 523 + 1), .int (iI (thr)), .int (bI (true))]) := (ow_50 _ (by omega)).trans xw_39
        have xc : w_50 a = some (eO 8 [.ref (a + 1), .ref (a + 3), .ref (a + 77), .ref (a + 523), .ref (a + 598), .ref (a + 673), .ref (a + 675), .int (iI (thr))]) := (ow_50 _ (by omega)).trans xc
        have bc : w_50 (a + 1) = some (eO 7 [.ref (a + 1 + 1), .int (iI (((B.length : Nat) : Int)))]) := (ow_50 _ (by omega)).trans bc
        have gc : w_50 (a + 3) = some (eO 4 [.ref (a + 3 + 1), .ref (a + 3 + 3), .int (iI (((l.length : Nat) : Int))), .int (iI (((nx : Nat) : Int)))]) := (ow_50 _ (by omega)).trans gc
        have ga : w_50 (a + 3 + 3) = some (eQ 3 10 h) := (ow_50 _ (by omega)).trans ga
        have gT : tx w_50 (a + 3 + 1) 120 D := gT.off ow_50 (by omega)
        have gd : w_50 (a + 3 + 1) = some (eO 7 [.ref (a + 3 + 1 + 1), .int (iI (((D.length : Nat) : Int)))]) := (ow_50 _ (by omega)).trans gd
        have hc : w_50 (a + 77) = some (eO 2 [.ref (a + 77 + 1), .int (iI (((hs.length : Nat) : Int)))]) := (ow_50 _ (by omega)).trans hc
        have fc : w_50 (a + 673) = some (eO 1 [.ref (a + 673 + 1), .int (iI (b0)), .int (iI (b1)), .int (iI (b2)), .int (iI (eh))]) := (ow_50 _ (by omega)).trans fc
        have lc : w_50 (a + 675) = some (eO 5 [.ref (a + 675 + 1), .ref (a + 675 + 2), .int (iI (((pc0 : Nat) : Int)))]) := (ow_50 _ (by omega)).trans lc
        have s1c : w_50 (a + 598) = some (eO 6 [.ref (a + 598 + 1), .int (iI (t1)), .int (bI (s1.isSome))]) := (ow_50 _ (by omega)).trans s1c
        have xB : tx w_50 (a + 1) 40 B := xB.off ow_50 (by omega)
        have xP : pg w_50 (a + 3) D l nx := xP.off ow_50 (by omega)
        have xH : hst w_50 (a + 77) hs := xH.off ow_50 (by omega)
        have xS1 : slt w_50 (a + 598) s1 := xS1.off ow_50 (by omega)
        have xF : fd w_50 (a + 673) b0 b1 b2 eh := xF.off ow_50 (by omega)
        have xR : fr w_50 (a + 673) 0 ri := xR.off ow_50 (by omega)
        have xL : plo w_50 (a + 675) pc0 oh0 ch0 := xL.off ow_50 (by omega)
        have xA : chA w_50 (a + 675) := xA.off ow_50 (by omega)
        have hG : pgo w_50 (a + 3) D h pa xs l.length nx := hG.off ow_50 (by omega)
        refine r_aload_n hb 54 dX8_save_53 rfl 1 rfl ?_
        refine r_get hb ho 57 dX8_save_54 rfl lk_X8_21 pf_X8_1 xc rfl ?_
        refine r_get hb ho 60 dX8_save_57 rfl lk_X8_96 pf_X4_2 gc rfl ?_
        refine r_iret hS dX8_save_60 rfl rfl (Nat.zero_le _) (Nat.zero_le _) ?_
        have e : oSav B D l nx hs s0 s1 thr z = (iI ((l.length : Nat) : Int), (B, (D, l, nx), hs, some ((D, l, nx), thr), s1, thr)) := by unfold oSav; rw [if_neg (by omega), if_pos (by omega), if_pos (by omega)]
        rw [e]
        exact ⟨_, rfl, rfl, rfl, ⟨xc, xB, xP, xH, ⟨(D, l, nx), thr, xw_39, hnew, fun v hv => (Option.some.inj hv).symm⟩, xS1, ⟨_, _, _, _, xF⟩, ⟨_, xR⟩, ⟨_, _, _, xL, xLc⟩, xA⟩, (((ow_31.mono (by omega) (by omega)).trans (ow_39.mono (by omega) (by omega))).trans (ow_50.mono (by omega) (by omega)))⟩
    · refine r_sipush (-1001) hb 12 dX8_save_9 rfl rfl ?_
      refine r_iret hS dX8_save_12 rfl rfl (Nat.zero_le _) (Nat.zero_le _) ?_
      have e : oSav B D l nx hs s0 s1 thr z = (iI (-1001), (B, (D, l, nx), hs, s0, s1, thr)) := by unfold oSav; rw [if_pos (by omega)]
      rw [e]
      exact ⟨_, rfl, rfl, rfl, hX, off.rfl' _ _ _⟩

abbrev rm_X8_restore : Room := { frames := 5, cells := 0, slots := 0, locals := 109 }
set_option maxHeartbeats 4000000 in
set_option maxRecDepth 100000 in
theorem c_X8_restore (a : Nat) (B D : List Int32) (l : List Nt) (nx : Nat) (hs : List Pg) (s0 s1 : Option (Pg × Int)) (thr : Int) (z : Int) {w : PW} {n : Nat} (hX : xoE w a B D l nx hs s0 s1 thr) (hzb : -2147483648 ≤ z ∧ z < 2147483648) : Ct1 yX8_restore cX8_restore 3 (some .int) rm_X8_restore [.ref a, .int (iI (z))] w n (fun v w1 n1 => v = .int (oRes B D l nx hs s0 s1 thr z).1 ∧ n = n1 ∧ xo w1 a (oRes B D l nx hs s0 s1 thr z).2 ∧ off w w1 a (a + 729)) := by
  obtain ⟨xc, xB, xP, xH, xS0, xS1, ⟨b0, b1, b2, eh, xF⟩, ⟨ri, xR⟩, ⟨pc0, oh0, ch0, xL, xLc⟩, xA⟩ := id hX
  have bc := xB.1
  have bl := xB.2.1
  obtain ⟨h, pa, xs, hG, hx⟩ := id xP
  obtain ⟨gc, gT, gcl, gnx, ⟨ga, gh⟩, ⟨gs1, gs2⟩, gN⟩ := id hG
  have gd := gT.1
  have gdl := gT.2.1
  obtain ⟨ph, qa, P, hO0, hhx⟩ := id xH
  have hc := hO0.1
  have hcl := hO0.2.2.2.2.2
  have fc := xF
  have lc := xL.1
  obtain ⟨p0, t0, s0c, s0p, s0e⟩ := id xS0
  obtain ⟨p1, t1, s1c, s1p, s1e⟩ := id xS1
  refine Ctr.of rfl (Nat.le_of_ble_eq_true rfl) fun S hS => ?_
  have hb : S.1.1 = cX8_restore := by rw [hS]; rfl
  have ho : S.1.2.1 = RX8 := by rw [hS]; rfl
  have hnL : S.1.2.2.1 = 3 := by rw [hS]; rfl
  have hR0 : S.2.1 = rm_X8_restore := by rw [hS]; rfl
  show Wp S 0 [(0, .ref a), (1, .int (iI (z)))] [] w n 0 0
  refine r_iload_n hb 1 dX8_restore_0 rfl 1 rfl ?_
  refine r_if_lt hb 4 9 dX8_restore_1 rfl (by decide) (by omega) (fun c1 => ?_) (fun c1 => ?_)
  · refine r_sipush (-1001) hb 12 dX8_restore_9 rfl rfl ?_
    refine r_iret hS dX8_restore_12 rfl rfl (Nat.zero_le _) (Nat.zero_le _) ?_
    have e : oRes B D l nx hs s0 s1 thr z = (iI (-1001), (B, (D, l, nx), hs, s0, s1, thr)) := by unfold oRes; rw [if_pos (by omega)]
    rw [e]
    exact ⟨_, rfl, rfl, rfl, hX, off.rfl' _ _ _⟩
  · refine r_iload_n hb 5 dX8_restore_4 rfl 1 rfl ?_
    refine r_iconst hb 6 dX8_restore_5 rfl ?_
    refine r_icmp_le hb 9 13 dX8_restore_6 rfl (by decide) (by omega) (by omega) (fun c6 => ?_) (fun c6 => ?_)
    · refine r_iload_n hb 14 dX8_restore_13 rfl 1 rfl ?_
      refine r_if_ne hb 17 24 dX8_restore_14 rfl (by decide) (by omega) (fun c14 => ?_) (fun c14 => ?_)
      · refine r_aload_n hb 25 dX8_restore_24 rfl 0 rfl ?_
        refine r_get hb ho 28 dX8_restore_25 rfl lk_X8_39 pf_X8_4 xc rfl ?_
        refine r_astore_n [(2, .ref (a + 598)), (0, .ref a), (1, .int (iI (z)))] hb 29 3 dX8_restore_28 rfl rfl hnL (by decide) rfl ?_
        have s1p : pg w (a + 598 + 1) p1.1 p1.2.1 p1.2.2 := s1p
        refine r_aload_n hb 30 dX8_restore_29 rfl 0 rfl ?_
        refine r_get hb ho 33 dX8_restore_30 rfl lk_X8_211 pf_X6_2 s1c rfl ?_
        refine r_ifb_ne hb 36 40 dX8_restore_33 rfl (by decide) (fun c33 => ?_) (fun c33 => ?_)
        · refine r_aload_n hb 41 dX8_restore_40 rfl 1 rfl ?_
          refine r_aload_n hb 42 dX8_restore_41 rfl 0 rfl ?_
          refine r_get hb ho 45 dX8_restore_42 rfl lk_X8_215 pf_X6_1 s1c rfl ?_
          refine r_put hb ho 48 dX8_restore_45 rfl lk_X8_56 pf_X8_7 xc (Nat.le_of_ble_eq_true rfl) ⟨rfl, rfl⟩ (fun w_45 hw_45 => ?_)
          have ow_45 := pset_off hw_45
          have xw_45 : w_45 a = some (eO 8 [.ref (a + 1), .ref (a + 3), .ref (a + 77), .ref (a + 523), .ref (a + 598), .ref (a + 673), .ref (a + 675), .int (iI (t1))]) := by rw [hw_45]; exact pset_eq _ _ _
          have bc : w_45 (a + 1) = some (eO 7 [.ref (a + 1 + 1), .int (iI (((B.length : Nat) : Int)))]) := (ow_45 _ (by omega)).trans bc
          have gc : w_45 (a + 3) = some (eO 4 [.ref (a + 3 + 1), .ref (a + 3 + 3), .int (iI (((l.length : Nat) : Int))), .int (iI (((nx : Nat) : Int)))]) := (ow_45 _ (by omega)).trans gc
          have ga : w_45 (a + 3 + 3) = some (eQ 3 10 h) := (ow_45 _ (by omega)).trans ga
          have gT : tx w_45 (a + 3 + 1) 120 D := gT.off ow_45 (by omega)
          have gd : w_45 (a + 3 + 1) = some (eO 7 [.ref (a + 3 + 1 + 1), .int (iI (((D.length : Nat) : Int)))]) := (ow_45 _ (by omega)).trans gd
          have hc : w_45 (a + 77) = some (eO 2 [.ref (a + 77 + 1), .int (iI (((hs.length : Nat) : Int)))]) := (ow_45 _ (by omega)).trans hc
          have fc : w_45 (a + 673) = some (eO 1 [.ref (a + 673 + 1), .int (iI (b0)), .int (iI (b1)), .int (iI (b2)), .int (iI (eh))]) := (ow_45 _ (by omega)).trans fc
          have lc : w_45 (a + 675) = some (eO 5 [.ref (a + 675 + 1), .ref (a + 675 + 2), .int (iI (((pc0 : Nat) : Int)))]) := (ow_45 _ (by omega)).trans lc
          have s0c : w_45 (a + 523) = some (eO 6 [.ref (a + 523 + 1), .int (iI (t0)), .int (bI (s0.isSome))]) := (ow_45 _ (by omega)).trans s0c
          have s1c : w_45 (a + 598) = some (eO 6 [.ref (a + 598 + 1), .int (iI (t1)), .int (bI (s1.isSome))]) := (ow_45 _ (by omega)).trans s1c
          have xB : tx w_45 (a + 1) 40 B := xB.off ow_45 (by omega)
          have xP : pg w_45 (a + 3) D l nx := xP.off ow_45 (by omega)
          have xH : hst w_45 (a + 77) hs := xH.off ow_45 (by omega)
          have xS0 : slt w_45 (a + 523) s0 := xS0.off ow_45 (by omega)
          have xS1 : slt w_45 (a + 598) s1 := xS1.off ow_45 (by omega)
          have xF : fd w_45 (a + 673) b0 b1 b2 eh := xF.off ow_45 (by omega)
          have xR : fr w_45 (a + 673) 0 ri := xR.off ow_45 (by omega)
          have xL : plo w_45 (a + 675) pc0 oh0 ch0 := xL.off ow_45 (by omega)
          have xA : chA w_45 (a + 675) := xA.off ow_45 (by omega)
          have hG : pgo w_45 (a + 3) D h pa xs l.length nx := hG.off ow_45 (by omega)
          have s1p : pg w_45 (a + 598 + 1) p1.1 p1.2.1 p1.2.2 := s1p.off ow_45 (by omega)
          refine r_aload_n hb 49 dX8_restore_48 rfl 1 rfl ?_
          refine r_get hb ho 52 dX8_restore_49 rfl lk_X8_21 pf_X8_1 xw_45 rfl ?_
          refine r_aload_n hb 53 dX8_restore_52 rfl 0 rfl ?_
          refine r_get hb ho 56 dX8_restore_53 rfl lk_X8_216 pf_X6_0 s1c rfl ?_
          refine r_callV0 (st := []) hb ho 59 dX8_restore_56 rfl ck_X8_217 (c_X4_become (a + 3) nx (a + 598 + 1) p1.2.2 D p1.1 l p1.2.1 xP s1p (by omega)) rfl rfl (gc) rfl rfl (by rw [hR0]; exact ⟨Nat.le_of_ble_eq_true rfl, Nat.le_of_ble_eq_true rfl⟩) (Nat.le_of_ble_eq_true rfl) ⟨rfl, rfl⟩ (by rw [hR0]; exact Nat.zero_le _) (by rw [hR0]; exact Nat.zero_le _) (fun w_56 nw_56 qw_56 => ?_)
          obtain ⟨rfl, xP, ow_56⟩ := qw_56
          have xw_45 : w_56 a = some (eO 8 [.ref (a + 1), .ref (a + 3), .ref (a + 77), .ref (a + 523), .ref (a + 598), .ref (a + 673), .ref (a + 675), .int (iI (t1))]) := (ow_56 _ (by omega)).trans xw_45
          have bc : w_56 (a + 1) = some (eO 7 [.ref (a + 1 + 1), .int (iI (((B.length : Nat) : Int)))]) := (ow_56 _ (by omega)).trans bc
          have hc : w_56 (a + 77) = some (eO 2 [.ref (a + 77 + 1), .int (iI (((hs.length : Nat) : Int)))]) := (ow_56 _ (by omega)).trans hc
          have fc : w_56 (a + 673) = some (eO 1 [.ref (a + 673 + 1), .int (iI (b0)), .int (iI (b1)), .int (iI (b2)), .int (iI (eh))]) := (ow_56 _ (by omega)).trans fc
          have lc : w_56 (a + 675) = some (eO 5 [.ref (a + 675 + 1), .ref (a + 675 + 2), .int (iI (((pc0 : Nat) : Int)))]) := (ow_56 _ (by omega)).trans lc
          have s0c : w_56 (a + 523) = some (eO 6 [.ref (a + 523 + 1), .int (iI (t0)), .int (bI (s0.isSome))]) := (ow_56 _ (by omega)).trans s0c
          have s1c : w_56 (a + 598) = some (eO 6 [.ref (a + 598 + 1), .int (iI (t1)), .int (bI (s1.isSome))]) := (ow_56 _ (by omega)).trans s1c
          have xB : tx w_56 (a + 1) 40 B := xB.off ow_56 (by omega)
          have xH : hst w_56 (a + 77) hs := xH.off ow_56 (by omega)
          have xS0 : slt w_56 (a + 523) s0 := xS0.off ow_56 (by omega)
          have xS1 : slt w_56 (a + 598) s1 := xS1.off ow_56 (by omega)
          have xF : fd w_56 (a + 673) b0 b1 b2 eh := xF.off ow_56 (by omega)
          have xR : fr w_56 (a + 673) 0 ri := xR.off ow_56 (by omega)
          have xL : plo w_56 (a + 675) pc0 oh0 ch0 := xL.off ow_56 (by omega)
          have xA : chA w_56 (a + 675) := xA.off ow_56 (by omega)
          have s1p : pg w_56 (a + 598 + 1) p1.1 p1.2.1 p1.2.2 := s1p.off ow_56 (by omega)
          obtain ⟨h_2, pa_2, xs_2, hG2, hx2⟩ := id xP
          obtain ⟨kc, kT, kcl, knx, ⟨ka, kh⟩, ⟨ks1, ks2⟩, kN⟩ := id hG2
          have kd := kT.1
          have kdl := kT.2.1
          refine r_aload_n hb 60 dX8_restore_59 rfl 1 rfl ?_
          refine r_get hb ho 63 dX8_restore_60 rfl lk_X8_28 pf_X8_2 xw_45 rfl ?_
          refine r_iconst hb 64 dX8_restore_63 rfl ?_
          refine r_topz ((0 : Nat) : Int) rfl ?_
          refine r_put hb ho 67 dX8_restore_64 rfl lk_X8_166 pf_X2_1 hc (Nat.le_of_ble_eq_true rfl) ⟨rfl, rfl⟩ (fun w_64 hw_64 => ?_)
          have ow_64 := pset_off hw_64
          have xw_64 : w_64 (a + 77) = some (eO 2 [.ref (a + 77 + 1), .int (iI (((0 : Nat) : Int)))]) := by rw [hw_64]; exact pset_eq _ _ _
          have xP : pg w_64 (a + 3) p1.1 p1.2.1 p1.2.2 := xP.off ow_64 (by omega)
          have kc : w_64 (a + 3) = some (eO 4 [.ref (a + 3 + 1), .ref (a + 3 + 3), .int (iI (((p1.2.1.length : Nat) : Int))), .int (iI (((p1.2.2 : Nat) : Int)))]) := (ow_64 _ (by omega)).trans kc
          have ka : w_64 (a + 3 + 3) = some (eQ 3 10 h_2) := (ow_64 _ (by omega)).trans ka
          have kT : tx w_64 (a + 3 + 1) 120 p1.1 := kT.off ow_64 (by omega)
          have kd : w_64 (a + 3 + 1) = some (eO 7 [.ref (a + 3 + 1 + 1), .int (iI (((p1.1.length : Nat) : Int)))]) := (ow_64 _ (by omega)).trans kd
          have xw_45 : w_64 a = some (eO 8 [.ref (a + 1), .ref (a + 3), .ref (a + 77), .ref (a + 523), .ref (a + 598), .ref (a + 673), .ref (a + 675), .int (iI (t1))]) := (ow_64 _ (by omega)).trans xw_45
          have bc : w_64 (a + 1) = some (eO 7 [.ref (a + 1 + 1), .int (iI (((B.length : Nat) : Int)))]) := (ow_64 _ (by omega)).trans bc
          have fc : w_64 (a + 673) = some (eO 1 [.ref (a + 673 + 1), .int (iI (b0)), .int (iI (b1)), .int (iI (b2)), .int (iI (eh))]) := (ow_64 _ (by omega)).trans fc
          have lc : w_64 (a + 675) = some (eO 5 [.ref (a + 675 + 1), .ref (a + 675 + 2), .int (iI (((pc0 : Nat) : Int)))]) := (ow_64 _ (by omega)).trans lc
          have s0c : w_64 (a + 523) = some (eO 6 [.ref (a + 523 + 1), .int (iI (t0)), .int (bI (s0.isSome))]) := (ow_64 _ (by omega)).trans s0c
          have s1c : w_64 (a + 598) = some (eO 6 [.ref (a + 598 + 1), .int (iI (t1)), .int (bI (s1.isSome))]) := (ow_64 _ (by omega)).trans s1c
          have xB : tx w_64 (a + 1) 40 B := xB.off ow_64 (by omega)
          have xS0 : slt w_64 (a + 523) s0 := xS0.off ow_64 (by omega)
          have xS1 : slt w_64 (a + 598) s1 := xS1.off ow_64 (by omega)
          have xF : fd w_64 (a + 673) b0 b1 b2 eh := xF.off ow_64 (by omega)
          have xR : fr w_64 (a + 673) 0 ri := xR.off ow_64 (by omega)
          have xL : plo w_64 (a + 675) pc0 oh0 ch0 := xL.off ow_64 (by omega)
          have xA : chA w_64 (a + 675) := xA.off ow_64 (by omega)
          have s1p : pg w_64 (a + 598 + 1) p1.1 p1.2.1 p1.2.2 := s1p.off ow_64 (by omega)
          refine r_aload_n hb 68 dX8_restore_67 rfl 1 rfl ?_
          refine r_get hb ho 71 dX8_restore_68 rfl lk_X8_21 pf_X8_1 xw_45 rfl ?_
          refine r_get hb ho 74 dX8_restore_71 rfl lk_X8_96 pf_X4_2 kc rfl ?_
          refine r_iret hS dX8_restore_74 rfl rfl (Nat.zero_le _) (Nat.zero_le _) ?_
          have es : (if z = 0 then s0 else s1) = some (p1, t1) := by rw [if_neg (by omega)]; cases hq : s1 with
            | none => rw [hq] at c33; cases c33
            | some v => rw [s1e v hq]
          have xH : hst w_64 (a + 77) [] := by
            obtain ⟨g1, g2, g3, g4, g5, g6⟩ := hO0
            have o9 : off w w_56 a (a + 77) := (ow_45.mono (by omega) (by omega)).trans (ow_56.mono (by omega) (by omega))
            exact ⟨ph, qa, P, ⟨xw_64, (ow_64 _ (by omega)).trans ((o9 _ (by omega)).trans g2), g3, g4, fun j hj => (((g5 j hj).off o9 (by have := g4.1 j hj; omega)).off ow_64 (by have := g4.1 j hj; omega)), Nat.zero_le _⟩, fun j hj => absurd hj (Nat.not_lt_zero _)⟩
          have e : oRes B D l nx hs s0 s1 thr z = (iI ((p1.2.1.length : Nat) : Int), (B, p1, [], s0, s1, t1)) := by unfold oRes; rw [if_neg (by omega), es]
          rw [e]
          exact ⟨_, rfl, rfl, rfl, ⟨xw_45, xB, xP, xH, xS0, xS1, ⟨_, _, _, _, xF⟩, ⟨_, xR⟩, ⟨_, _, _, xL, xLc⟩, xA⟩, (((ow_45.mono (by omega) (by omega)).trans (ow_56.mono (by omega) (by omega))).trans (ow_64.mono (by omega) (by omega)))⟩
        · refine r_sipush (-1003) hb 39 dX8_restore_36 rfl rfl ?_
          refine r_iret hS dX8_restore_39 rfl rfl (Nat.zero_le _) (Nat.zero_le _) ?_
          have es : (if z = 0 then s0 else s1) = none := by rw [if_neg (by omega)]; cases hq : s1 with
            | none => rfl
            | some v => rw [hq] at c33; cases c33
          have e : oRes B D l nx hs s0 s1 thr z = (iI (-1003), (B, (D, l, nx), hs, s0, s1, thr)) := by unfold oRes; rw [if_neg (by omega), es]
          rw [e]
          exact ⟨_, rfl, rfl, rfl, hX, off.rfl' _ _ _⟩
      · refine r_aload_n hb 18 dX8_restore_17 rfl 0 rfl ?_
        refine r_get hb ho 21 dX8_restore_18 rfl lk_X8_35 pf_X8_3 xc rfl ?_
        refine r_goto hb 28 dX8_restore_21 (by decide) ?_
        refine r_astore_n [(2, .ref (a + 523)), (0, .ref a), (1, .int (iI (z)))] hb 29 3 dX8_restore_28 rfl rfl hnL (by decide) rfl ?_
        have s0p : pg w (a + 523 + 1) p0.1 p0.2.1 p0.2.2 := s0p
        refine r_aload_n hb 30 dX8_restore_29 rfl 0 rfl ?_
        refine r_get hb ho 33 dX8_restore_30 rfl lk_X8_211 pf_X6_2 s0c rfl ?_
        refine r_ifb_ne hb 36 40 dX8_restore_33 rfl (by decide) (fun c33 => ?_) (fun c33 => ?_)
        · refine r_aload_n hb 41 dX8_restore_40 rfl 1 rfl ?_
          refine r_aload_n hb 42 dX8_restore_41 rfl 0 rfl ?_
          refine r_get hb ho 45 dX8_restore_42 rfl lk_X8_215 pf_X6_1 s0c rfl ?_
          refine r_put hb ho 48 dX8_restore_45 rfl lk_X8_56 pf_X8_7 xc (Nat.le_of_ble_eq_true rfl) ⟨rfl, rfl⟩ (fun w_45 hw_45 => ?_)
          have ow_45 := pset_off hw_45
          have xw_45 : w_45 a = some (eO 8 [.ref (a + 1), .ref (a + 3), .ref (a + 77), .ref (a + 523), .ref (a + 598), .ref (a + 673), .ref (a + 675), .int (iI (t0))]) := by rw [hw_45]; exact pset_eq _ _ _
          have bc : w_45 (a + 1) = some (eO 7 [.ref (a + 1 + 1), .int (iI (((B.length : Nat) : Int)))]) := (ow_45 _ (by omega)).trans bc
          have gc : w_45 (a + 3) = some (eO 4 [.ref (a + 3 + 1), .ref (a + 3 + 3), .int (iI (((l.length : Nat) : Int))), .int (iI (((nx : Nat) : Int)))]) := (ow_45 _ (by omega)).trans gc
          have ga : w_45 (a + 3 + 3) = some (eQ 3 10 h) := (ow_45 _ (by omega)).trans ga
          have gT : tx w_45 (a + 3 + 1) 120 D := gT.off ow_45 (by omega)
          have gd : w_45 (a + 3 + 1) = some (eO 7 [.ref (a + 3 + 1 + 1), .int (iI (((D.length : Nat) : Int)))]) := (ow_45 _ (by omega)).trans gd
          have hc : w_45 (a + 77) = some (eO 2 [.ref (a + 77 + 1), .int (iI (((hs.length : Nat) : Int)))]) := (ow_45 _ (by omega)).trans hc
          have fc : w_45 (a + 673) = some (eO 1 [.ref (a + 673 + 1), .int (iI (b0)), .int (iI (b1)), .int (iI (b2)), .int (iI (eh))]) := (ow_45 _ (by omega)).trans fc
          have lc : w_45 (a + 675) = some (eO 5 [.ref (a + 675 + 1), .ref (a + 675 + 2), .int (iI (((pc0 : Nat) : Int)))]) := (ow_45 _ (by omega)).trans lc
          have s0c : w_45 (a + 523) = some (eO 6 [.ref (a + 523 + 1), .int (iI (t0)), .int (bI (s0.isSome))]) := (ow_45 _ (by omega)).trans s0c
          have s1c : w_45 (a + 598) = some (eO 6 [.ref (a + 598 + 1), .int (iI (t1)), .int (bI (s1.isSome))]) := (ow_45 _ (by omega)).trans s1c
          have xB : tx w_45 (a + 1) 40 B := xB.off ow_45 (by omega)
          have xP : pg w_45 (a + 3) D l nx := xP.off ow_45 (by omega)
          have xH : hst w_45 (a + 77) hs := xH.off ow_45 (by omega)
          have xS0 : slt w_45 (a + 523) s0 := xS0.off ow_45 (by omega)
          have xS1 : slt w_45 (a + 598) s1 := xS1.off ow_45 (by omega)
          have xF : fd w_45 (a + 673) b0 b1 b2 eh := xF.off ow_45 (by omega)
          have xR : fr w_45 (a + 673) 0 ri := xR.off ow_45 (by omega)
          have xL : plo w_45 (a + 675) pc0 oh0 ch0 := xL.off ow_45 (by omega)
          have xA : chA w_45 (a + 675) := xA.off ow_45 (by omega)
          have hG : pgo w_45 (a + 3) D h pa xs l.length nx := hG.off ow_45 (by omega)
          have s0p : pg w_45 (a + 523 + 1) p0.1 p0.2.1 p0.2.2 := s0p.off ow_45 (by omega)
          refine r_aload_n hb 49 dX8_restore_48 rfl 1 rfl ?_
          refine r_get hb ho 52 dX8_restore_49 rfl lk_X8_21 pf_X8_1 xw_45 rfl ?_
          refine r_aload_n hb 53 dX8_restore_52 rfl 0 rfl ?_
          refine r_get hb ho 56 dX8_restore_53 rfl lk_X8_216 pf_X6_0 s0c rfl ?_
          refine r_callV0 (st := []) hb ho 59 dX8_restore_56 rfl ck_X8_217 (c_X4_become (a + 3) nx (a + 523 + 1) p0.2.2 D p0.1 l p0.2.1 xP s0p (by omega)) rfl rfl (gc) rfl rfl (by rw [hR0]; exact ⟨Nat.le_of_ble_eq_true rfl, Nat.le_of_ble_eq_true rfl⟩) (Nat.le_of_ble_eq_true rfl) ⟨rfl, rfl⟩ (by rw [hR0]; exact Nat.zero_le _) (by rw [hR0]; exact Nat.zero_le _) (fun w_56 nw_56 qw_56 => ?_)
          obtain ⟨rfl, xP, ow_56⟩ := qw_56
          have xw_45 : w_56 a = some (eO 8 [.ref (a + 1), .ref (a + 3), .ref (a + 77), .ref (a + 523), .ref (a + 598), .ref (a + 673), .ref (a + 675), .int (iI (t0))]) := (ow_56 _ (by omega)).trans xw_45
          have bc : w_56 (a + 1) = some (eO 7 [.ref (a + 1 + 1), .int (iI (((B.length : Nat) : Int)))]) := (ow_56 _ (by omega)).trans bc
          have hc : w_56 (a + 77) = some (eO 2 [.ref (a + 77 + 1), .int (iI (((hs.length : Nat) : Int)))]) := (ow_56 _ (by omega)).trans hc
          have fc : w_56 (a + 673) = some (eO 1 [.ref (a + 673 + 1), .int (iI (b0)), .int (iI (b1)), .int (iI (b2)), .int (iI (eh))]) := (ow_56 _ (by omega)).trans fc
          have lc : w_56 (a + 675) = some (eO 5 [.ref (a + 675 + 1), .ref (a + 675 + 2), .int (iI (((pc0 : Nat) : Int)))]) := (ow_56 _ (by omega)).trans lc
          have s0c : w_56 (a + 523) = some (eO 6 [.ref (a + 523 + 1), .int (iI (t0)), .int (bI (s0.isSome))]) := (ow_56 _ (by omega)).trans s0c
          have s1c : w_56 (a + 598) = some (eO 6 [.ref (a + 598 + 1), .int (iI (t1)), .int (bI (s1.isSome))]) := (ow_56 _ (by omega)).trans s1c
          have xB : tx w_56 (a + 1) 40 B := xB.off ow_56 (by omega)
          have xH : hst w_56 (a + 77) hs := xH.off ow_56 (by omega)
          have xS0 : slt w_56 (a + 523) s0 := xS0.off ow_56 (by omega)
          have xS1 : slt w_56 (a + 598) s1 := xS1.off ow_56 (by omega)
          have xF : fd w_56 (a + 673) b0 b1 b2 eh := xF.off ow_56 (by omega)
          have xR : fr w_56 (a + 673) 0 ri := xR.off ow_56 (by omega)
          have xL : plo w_56 (a + 675) pc0 oh0 ch0 := xL.off ow_56 (by omega)
          have xA : chA w_56 (a + 675) := xA.off ow_56 (by omega)
          have s0p : pg w_56 (a + 523 + 1) p0.1 p0.2.1 p0.2.2 := s0p.off ow_56 (by omega)
          obtain ⟨h_2, pa_2, xs_2, hG2, hx2⟩ := id xP
          obtain ⟨kc, kT, kcl, knx, ⟨ka, kh⟩, ⟨ks1, ks2⟩, kN⟩ := id hG2
          have kd := kT.1
          have kdl := kT.2.1
          refine r_aload_n hb 60 dX8_restore_59 rfl 1 rfl ?_
          refine r_get hb ho 63 dX8_restore_60 rfl lk_X8_28 pf_X8_2 xw_45 rfl ?_
          refine r_iconst hb 64 dX8_restore_63 rfl ?_
          refine r_topz ((0 : Nat) : Int) rfl ?_
          refine r_put hb ho 67 dX8_restore_64 rfl lk_X8_166 pf_X2_1 hc (Nat.le_of_ble_eq_true rfl) ⟨rfl, rfl⟩ (fun w_64 hw_64 => ?_)
          have ow_64 := pset_off hw_64
          have xw_64 : w_64 (a + 77) = some (eO 2 [.ref (a + 77 + 1), .int (iI (((0 : Nat) : Int)))]) := by rw [hw_64]; exact pset_eq _ _ _
          have xP : pg w_64 (a + 3) p0.1 p0.2.1 p0.2.2 := xP.off ow_64 (by omega)
          have kc : w_64 (a + 3) = some (eO 4 [.ref (a + 3 + 1), .ref (a + 3 + 3), .int (iI (((p0.2.1.length : Nat) : Int))), .int (iI (((p0.2.2 : Nat) : Int)))]) := (ow_64 _ (by omega)).trans kc
          have ka : w_64 (a + 3 + 3) = some (eQ 3 10 h_2) := (ow_64 _ (by omega)).trans ka
          have kT : tx w_64 (a + 3 + 1) 120 p0.1 := kT.off ow_64 (by omega)
          have kd : w_64 (a + 3 + 1) = some (eO 7 [.ref (a + 3 + 1 + 1), .int (iI (((p0.1.length : Nat) : Int)))]) := (ow_64 _ (by omega)).trans kd
          have xw_45 : w_64 a = some (eO 8 [.ref (a + 1), .ref (a + 3), .ref (a + 77), .ref (a + 523), .ref (a + 598), .ref (a + 673), .ref (a + 675), .int (iI (t0))]) := (ow_64 _ (by omega)).trans xw_45
          have bc : w_64 (a + 1) = some (eO 7 [.ref (a + 1 + 1), .int (iI (((B.length : Nat) : Int)))]) := (ow_64 _ (by omega)).trans bc
          have fc : w_64 (a + 673) = some (eO 1 [.ref (a + 673 + 1), .int (iI (b0)), .int (iI (b1)), .int (iI (b2)), .int (iI (eh))]) := (ow_64 _ (by omega)).trans fc
          have lc : w_64 (a + 675) = some (eO 5 [.ref (a + 675 + 1), .ref (a + 675 + 2), .int (iI (((pc0 : Nat) : Int)))]) := (ow_64 _ (by omega)).trans lc
          have s0c : w_64 (a + 523) = some (eO 6 [.ref (a + 523 + 1), .int (iI (t0)), .int (bI (s0.isSome))]) := (ow_64 _ (by omega)).trans s0c
          have s1c : w_64 (a + 598) = some (eO 6 [.ref (a + 598 + 1), .int (iI (t1)), .int (bI (s1.isSome))]) := (ow_64 _ (by omega)).trans s1c
          have xB : tx w_64 (a + 1) 40 B := xB.off ow_64 (by omega)
          have xS0 : slt w_64 (a + 523) s0 := xS0.off ow_64 (by omega)
          have xS1 : slt w_64 (a + 598) s1 := xS1.off ow_64 (by omega)
          have xF : fd w_64 (a + 673) b0 b1 b2 eh := xF.off ow_64 (by omega)
          have xR : fr w_64 (a + 673) 0 ri := xR.off ow_64 (by omega)
          have xL : plo w_64 (a + 675) pc0 oh0 ch0 := xL.off ow_64 (by omega)
          have xA : chA w_64 (a + 675) := xA.off ow_64 (by omega)
          have s0p : pg w_64 (a + 523 + 1) p0.1 p0.2.1 p0.2.2 := s0p.off ow_64 (by omega)
          refine r_aload_n hb 68 dX8_restore_67 rfl 1 rfl ?_
          refine r_get hb ho 71 dX8_restore_68 rfl lk_X8_21 pf_X8_1 xw_45 rfl ?_
          refine r_get hb ho 74 dX8_restore_71 rfl lk_X8_96 pf_X4_2 kc rfl ?_
          refine r_iret hS dX8_restore_74 rfl rfl (Nat.zero_le _) (Nat.zero_le _) ?_
          have es : (if z = 0 then s0 else s1) = some (p0, t0) := by rw [if_pos (by omega)]; cases hq : s0 with
            | none => rw [hq] at c33; cases c33
            | some v => rw [s0e v hq]
          have xH : hst w_64 (a + 77) [] := by
            obtain ⟨g1, g2, g3, g4, g5, g6⟩ := hO0
            have o9 : off w w_56 a (a + 77) := (ow_45.mono (by omega) (by omega)).trans (ow_56.mono (by omega) (by omega))
            exact ⟨ph, qa, P, ⟨xw_64, (ow_64 _ (by omega)).trans ((o9 _ (by omega)).trans g2), g3, g4, fun j hj => (((g5 j hj).off o9 (by have := g4.1 j hj; omega)).off ow_64 (by have := g4.1 j hj; omega)), Nat.zero_le _⟩, fun j hj => absurd hj (Nat.not_lt_zero _)⟩
          have e : oRes B D l nx hs s0 s1 thr z = (iI ((p0.2.1.length : Nat) : Int), (B, p0, [], s0, s1, t0)) := by unfold oRes; rw [if_neg (by omega), es]
          rw [e]
          exact ⟨_, rfl, rfl, rfl, ⟨xw_45, xB, xP, xH, xS0, xS1, ⟨_, _, _, _, xF⟩, ⟨_, xR⟩, ⟨_, _, _, xL, xLc⟩, xA⟩, (((ow_45.mono (by omega) (by omega)).trans (ow_56.mono (by omega) (by omega))).trans (ow_64.mono (by omega) (by omega)))⟩
        · refine r_sipush (-1003) hb 39 dX8_restore_36 rfl rfl ?_
          refine r_iret hS dX8_restore_39 rfl rfl (Nat.zero_le _) (Nat.zero_le _) ?_
          have es : (if z = 0 then s0 else s1) = none := by rw [if_pos (by omega)]; cases hq : s0 with
            | none => rfl
            | some v => rw [hq] at c33; cases c33
          have e : oRes B D l nx hs s0 s1 thr z = (iI (-1003), (B, (D, l, nx), hs, s0, s1, thr)) := by unfold oRes; rw [if_neg (by omega), es]
          rw [e]
          exact ⟨_, rfl, rfl, rfl, hX, off.rfl' _ _ _⟩
    · refine r_sipush (-1001) hb 12 dX8_restore_9 rfl rfl ?_
      refine r_iret hS dX8_restore_12 rfl rfl (Nat.zero_le _) (Nat.zero_le _) ?_
      have e : oRes B D l nx hs s0 s1 thr z = (iI (-1001), (B, (D, l, nx), hs, s0, s1, thr)) := by unfold oRes; rw [if_pos (by omega)]
      rw [e]
      exact ⟨_, rfl, rfl, rfl, hX, off.rfl' _ _ _⟩
