abbrev rm_X9_undo : Room := { frames := 1, cells := 0, slots := 0, locals := 24 }
set_option maxHeartbeats 4000000 in
set_option maxRecDepth 100000 in
theorem c_X9_undo (mo : Nat) (B D : List Int32) (l : List Nt) (nx : Nat) (hs : List Pg) (s0 s1 : Option (Pg × Int)) (thr : Int)  {w : PW} {n : Nat} (hM : moE w mo B D l nx hs s0 s1 thr) : Ct1 yX9_undo cX9_undo 1 (some .int) rm_X9_undo [.ref mo] w n (fun v w1 n1 => v = .int (oUndo B D l nx hs s0 s1 thr ).1 ∧ n = n1 ∧ mo_ w1 mo (oUndo B D l nx hs s0 s1 thr ).2 ∧ off w w1 mo (mo + 12)) := by
  obtain ⟨rg, g, sp, pa, kp, ik, bg, ln, od, sco, leo, smo, mc, vc, sc, pc, kc, ic, bc, lc, oc, xc, ec, uc, hV, h3, hH, h6, h8, hB, hS0, hS1⟩ := id hM
  have hD : vdp g D := hV.1
  have hP : vnp g l nx := hV.2
  have hDl := hD.2.2
  have hPl := hP.2.2.1
  have hnx := hP.2.2.2.1
  have hBl := hB.1
  have hHl := hH.1
  refine Ctr.of rfl (Nat.le_of_ble_eq_true rfl) fun S hS => ?_
  have hb : S.1.1 = cX9_undo := by rw [hS]; rfl
  have ho : S.1.2.1 = RX9 := by rw [hS]; rfl
  have hnL : S.1.2.2.1 = 1 := by rw [hS]; rfl
  have hR0 : S.2.1 = rm_X9_undo := by rw [hS]; rfl
  show Wp S 0 [(0, .ref mo)] [] w n 0 0
  refine r_aload_n hb 1 dX9_undo_0 rfl 0 rfl ?_
  refine r_get hb ho 4 dX9_undo_1 rfl lk_X9_60 pf_X9_3 mc rfl ?_
  refine r_if_ne hb 7 11 dX9_undo_4 rfl (by decide) (by omega) (fun c4 => ?_) (fun c4 => ?_)
  · refine r_aload_n hb 12 dX9_undo_11 rfl 0 rfl ?_
    refine r_dup hb 13 dX9_undo_12 rfl rfl ?_
    refine r_get hb ho 16 dX9_undo_13 rfl lk_X9_60 pf_X9_3 mc rfl ?_
    refine r_iconst hb 17 dX9_undo_16 rfl ?_
    refine r_isubZ hb 18 ((rg 3) - 1) dX9_undo_17 rfl (by omega) ?_
    refine r_put hb ho 21 dX9_undo_18 rfl lk_X9_60 pf_X9_3 mc (Nat.le_of_ble_eq_true rfl) ⟨rfl, rfl⟩ (fun w_18 hw_18 => ?_)
    have ow_18 := pset_off hw_18
    have xw_18 : w_18 mo = some (eO 9 [.ref (mo + 1), .ref (mo + 2), .ref (mo + 3), .int (iI ((rg 3) - 1)), .ref (mo + 4), .ref (mo + 5), .int (iI ((rg 6))), .ref (mo + 6), .int (iI ((rg 8))), .ref (mo + 7), .int (iI ((rg 10))), .int (iI ((rg 11))), .int (iI ((rg 12))), .int (iI ((rg 13))), .int (iI ((rg 14))), .ref (mo + 8), .int (iI ((rg 16))), .ref (mo + 9), .ref (mo + 10), .ref (mo + 11)]) := by rw [hw_18]; exact pset_eq _ _ _
    have vc : w_18 (mo + 1) = some (eI 483 g) := (ow_18 _ (by omega)).trans vc
    have sc : w_18 (mo + 2) = some (eI 483 sp) := (ow_18 _ (by omega)).trans sc
    have pc : w_18 (mo + 3) = some (eI 2898 pa) := (ow_18 _ (by omega)).trans pc
    have kc : w_18 (mo + 4) = some (eI 968 kp) := (ow_18 _ (by omega)).trans kc
    have ic : w_18 (mo + 5) = some (eZ 2 ik) := (ow_18 _ (by omega)).trans ic
    have bc : w_18 (mo + 6) = some (eI 40 bg) := (ow_18 _ (by omega)).trans bc
    have lc : w_18 (mo + 7) = some (eI 17 (fun ii => iI ((ln ii : Nat) : Int))) := (ow_18 _ (by omega)).trans lc
    have oc : w_18 (mo + 8) = some (eI 10 (fun ii => iI ((od ii : Nat) : Int))) := (ow_18 _ (by omega)).trans oc
    have xc : w_18 (mo + 9) = some (eI 1210 (fun ii => iI (sco ii))) := (ow_18 _ (by omega)).trans xc
    have ec : w_18 (mo + 10) = some (eI 1210 (fun ii => iI (leo ii))) := (ow_18 _ (by omega)).trans ec
    have uc : w_18 (mo + 11) = some (eI 1331 (fun ii => iI (smo ii))) := (ow_18 _ (by omega)).trans uc
    refine r_aload_n hb 22 dX9_undo_21 rfl 0 rfl ?_
    refine r_get hb ho 25 dX9_undo_22 rfl lk_X9_16 pf_X9_2 xw_18 rfl ?_
    refine r_sipush 483 hb 28 dX9_undo_25 rfl rfl ?_
    refine r_aload_n hb 29 dX9_undo_28 rfl 0 rfl ?_
    refine r_get hb ho 32 dX9_undo_29 rfl lk_X9_60 pf_X9_3 xw_18 rfl ?_
    refine r_imulZ hb 33 ((((483 * (hs.length - 1) : Nat) : Nat) : Int)) dX9_undo_32 rfl (by omega) ?_
    refine r_aload_n hb 34 dX9_undo_33 rfl 0 rfl ?_
    refine r_get hb ho 37 dX9_undo_34 rfl lk_X9_7 pf_X9_0 xw_18 rfl ?_
    refine r_iconst hb 38 dX9_undo_37 rfl ?_
    refine r_callS0 (st := []) hb ho 41 dX9_undo_38 rfl ck_X9_56 (c_X9_copies (mo + 3) (mo + 1) (483 * (hs.length - 1)) 0 2898 483 pa g pc vc (by omega) (by omega) (by omega)) rfl rfl (by rw [hR0]; exact ⟨Nat.le_of_ble_eq_true rfl, Nat.le_of_ble_eq_true rfl⟩) (Nat.le_of_ble_eq_true rfl) ⟨rfl, rfl⟩ (by rw [hR0]; exact Nat.zero_le _) (by rw [hR0]; exact Nat.zero_le _) (fun w_38 nw_38 qw_38 => ?_)
    obtain ⟨rfl, ⟨g1, vc, g_i, g_o⟩, ow_38⟩ := qw_38
    have xw_18 : w_38 mo = some (eO 9 [.ref (mo + 1), .ref (mo + 2), .ref (mo + 3), .int (iI ((rg 3) - 1)), .ref (mo + 4), .ref (mo + 5), .int (iI ((rg 6))), .ref (mo + 6), .int (iI ((rg 8))), .ref (mo + 7), .int (iI ((rg 10))), .int (iI ((rg 11))), .int (iI ((rg 12))), .int (iI ((rg 13))), .int (iI ((rg 14))), .ref (mo + 8), .int (iI ((rg 16))), .ref (mo + 9), .ref (mo + 10), .ref (mo + 11)]) := (ow_38 _ (by omega)).trans xw_18
    have sc : w_38 (mo + 2) = some (eI 483 sp) := (ow_38 _ (by omega)).trans sc
    have pc : w_38 (mo + 3) = some (eI 2898 pa) := (ow_38 _ (by omega)).trans pc
    have kc : w_38 (mo + 4) = some (eI 968 kp) := (ow_38 _ (by omega)).trans kc
    have ic : w_38 (mo + 5) = some (eZ 2 ik) := (ow_38 _ (by omega)).trans ic
    have bc : w_38 (mo + 6) = some (eI 40 bg) := (ow_38 _ (by omega)).trans bc
    have lc : w_38 (mo + 7) = some (eI 17 (fun ii => iI ((ln ii : Nat) : Int))) := (ow_38 _ (by omega)).trans lc
    have oc : w_38 (mo + 8) = some (eI 10 (fun ii => iI ((od ii : Nat) : Int))) := (ow_38 _ (by omega)).trans oc
    have xc : w_38 (mo + 9) = some (eI 1210 (fun ii => iI (sco ii))) := (ow_38 _ (by omega)).trans xc
    have ec : w_38 (mo + 10) = some (eI 1210 (fun ii => iI (leo ii))) := (ow_38 _ (by omega)).trans ec
    have uc : w_38 (mo + 11) = some (eI 1331 (fun ii => iI (smo ii))) := (ow_38 _ (by omega)).trans uc
    refine r_aload_n hb 42 dX9_undo_41 rfl 0 rfl ?_
    refine r_get hb ho 45 dX9_undo_42 rfl lk_X9_60 pf_X9_3 xw_18 rfl ?_
    refine r_topv (.int (iI ((((hs.length - 1 : Nat) : Nat) : Int)))) (congrArg (fun z => Value.int (iI z)) (by omega)) ?_
    refine r_iret hS dX9_undo_45 rfl rfl (Nat.zero_le _) (Nat.zero_le _) ?_
    have hn : hs.length - 1 < hs.length := by omega
    have hV1 : vpg g1 (hg hs (hs.length - 1)) := vpg.congr (hH.2 (hs.length - 1) hn) (fun i hi => by have e := g_i i hi; rw [Nat.zero_add] at e; exact e)
    have hH1 : vph pa (hs.take (hs.length - 1)) := by
      refine ⟨by rw [List.length_take]; omega, fun j hj => ?_⟩
      rw [List.length_take] at hj
      rw [show hg (hs.take (hs.length - 1)) j = hg hs j by simp only [hg, List.getD_eq_getElem?_getD, List.getElem?_take]; rw [if_pos (by omega)]]
      exact hH.2 j (by omega)
    have e : oUndo B D l nx hs s0 s1 thr  = (iI ((hs.length - 1 : Nat) : Int), (B, hg hs (hs.length - 1), hs.take (hs.length - 1), s0, s1, thr)) := by unfold oUndo; rw [if_neg (by omega)]
    rw [e]
    exact ⟨_, rfl, rfl, rfl, ⟨(updZ rg 3 (rg 3 - 1)), g1, sp, pa, kp, ik, bg, ln, od, sco, leo, smo, xw_18, vc, sc, pc, kc, ic, bc, lc, oc, xc, ec, uc, hV1, (by show rg 3 - 1 = (((hs.take (hs.length - 1)).length : Nat) : Int); rw [List.length_take]; omega), hH1, h6, h8, hB, hS0, hS1⟩, ((ow_18.mono (by omega) (by omega)).trans (ow_38.mono (by omega) (by omega)))⟩
  · refine r_sipush (-1003) hb 10 dX9_undo_7 rfl rfl ?_
    refine r_iret hS dX9_undo_10 rfl rfl (Nat.zero_le _) (Nat.zero_le _) ?_
    have e : oUndo B D l nx hs s0 s1 thr  = (iI (-1003), (B, (D, l, nx), hs, s0, s1, thr)) := by unfold oUndo; rw [if_pos (by omega)]
    rw [e]
    exact ⟨_, rfl, rfl, rfl, hM, off.rfl' _ _ _⟩

abbrev rm_X9_setThreshold : Room := { frames := 1, cells := 0, slots := 0, locals := 22 }
set_option maxHeartbeats 4000000 in
set_option maxRecDepth 100000 in
theorem c_X9_setThreshold (mo : Nat) (B D : List Int32) (l : List Nt) (nx : Nat) (hs : List Pg) (s0 s1 : Option (Pg × Int)) (thr : Int) (z : Int) {w : PW} {n : Nat} (hM : moE w mo B D l nx hs s0 s1 thr) (hzb : -2147483648 ≤ z ∧ z < 2147483648) : Ct1 yX9_setThreshold cX9_setThreshold 3 (some .int) rm_X9_setThreshold [.ref mo, .int (iI (z))] w n (fun v w1 n1 => v = .int (oThr B D l nx hs s0 s1 thr z).1 ∧ n = n1 ∧ mo_ w1 mo (oThr B D l nx hs s0 s1 thr z).2 ∧ off w w1 mo (mo + 12)) := by
  obtain ⟨rg, g, sp, pa, kp, ik, bg, ln, od, sco, leo, smo, mc, vc, sc, pc, kc, ic, bc, lc, oc, xc, ec, uc, hV, h3, hH, h6, h8, hB, hS0, hS1⟩ := id hM
  have hD : vdp g D := hV.1
  have hP : vnp g l nx := hV.2
  have hDl := hD.2.2
  have hPl := hP.2.2.1
  have hnx := hP.2.2.2.1
  have hBl := hB.1
  have hHl := hH.1
  refine Ctr.of rfl (Nat.le_of_ble_eq_true rfl) fun S hS => ?_
  have hb : S.1.1 = cX9_setThreshold := by rw [hS]; rfl
  have ho : S.1.2.1 = RX9 := by rw [hS]; rfl
  have hnL : S.1.2.2.1 = 3 := by rw [hS]; rfl
  have hR0 : S.2.1 = rm_X9_setThreshold := by rw [hS]; rfl
  show Wp S 0 [(0, .ref mo), (1, .int (iI (z)))] [] w n 0 0
  refine r_iload_n hb 1 dX9_setThreshold_0 rfl 1 rfl ?_
  refine r_iconst hb 2 dX9_setThreshold_1 rfl ?_
  refine r_bipush 108 hb 4 dX9_setThreshold_2 rfl rfl ?_
  refine r_callSR (st := []) hb ho 7 dX9_setThreshold_4 rfl ck_X9_52 (c_X9_in (z) 0 108 (by omega)) rfl rfl (by rw [hR0]; exact ⟨Nat.le_of_ble_eq_true rfl, Nat.le_of_ble_eq_true rfl⟩) (Nat.le_of_ble_eq_true rfl) ⟨rfl, rfl⟩ (by rw [hR0]; exact Nat.zero_le _) (by rw [hR0]; exact Nat.zero_le _) ?_
  refine r_ifb_ne hb 10 14 dX9_setThreshold_7 rfl (by decide) (fun c7 => ?_) (fun c7 => ?_)
  · have c7 := of_decide_eq_true c7
    refine r_aload_n hb 15 dX9_setThreshold_14 rfl 0 rfl ?_
    refine r_get hb ho 18 dX9_setThreshold_15 rfl lk_X9_26 pf_X9_6 mc rfl ?_
    refine r_topv (.int (iI (thr))) (congrArg (fun z => Value.int (iI z)) (by omega)) ?_
    refine r_istore_n [(2, .int (iI (thr))), (0, .ref mo), (1, .int (iI (z)))] hb 19 3 dX9_setThreshold_18 rfl rfl hnL (by decide) rfl ?_
    refine r_aload_n hb 20 dX9_setThreshold_19 rfl 1 rfl ?_
    refine r_iload_n hb 21 dX9_setThreshold_20 rfl 2 rfl ?_
    refine r_put hb ho 24 dX9_setThreshold_21 rfl lk_X9_26 pf_X9_6 mc (Nat.le_of_ble_eq_true rfl) ⟨rfl, rfl⟩ (fun w_21 hw_21 => ?_)
    have ow_21 := pset_off hw_21
    have xw_21 : w_21 mo = some (eO 9 [.ref (mo + 1), .ref (mo + 2), .ref (mo + 3), .int (iI ((rg 3))), .ref (mo + 4), .ref (mo + 5), .int (iI (z)), .ref (mo + 6), .int (iI ((rg 8))), .ref (mo + 7), .int (iI ((rg 10))), .int (iI ((rg 11))), .int (iI ((rg 12))), .int (iI ((rg 13))), .int (iI ((rg 14))), .ref (mo + 8), .int (iI ((rg 16))), .ref (mo + 9), .ref (mo + 10), .ref (mo + 11)]) := by rw [hw_21]; exact pset_eq _ _ _
    have vc : w_21 (mo + 1) = some (eI 483 g) := (ow_21 _ (by omega)).trans vc
    have sc : w_21 (mo + 2) = some (eI 483 sp) := (ow_21 _ (by omega)).trans sc
    have pc : w_21 (mo + 3) = some (eI 2898 pa) := (ow_21 _ (by omega)).trans pc
    have kc : w_21 (mo + 4) = some (eI 968 kp) := (ow_21 _ (by omega)).trans kc
    have ic : w_21 (mo + 5) = some (eZ 2 ik) := (ow_21 _ (by omega)).trans ic
    have bc : w_21 (mo + 6) = some (eI 40 bg) := (ow_21 _ (by omega)).trans bc
    have lc : w_21 (mo + 7) = some (eI 17 (fun ii => iI ((ln ii : Nat) : Int))) := (ow_21 _ (by omega)).trans lc
    have oc : w_21 (mo + 8) = some (eI 10 (fun ii => iI ((od ii : Nat) : Int))) := (ow_21 _ (by omega)).trans oc
    have xc : w_21 (mo + 9) = some (eI 1210 (fun ii => iI (sco ii))) := (ow_21 _ (by omega)).trans xc
    have ec : w_21 (mo + 10) = some (eI 1210 (fun ii => iI (leo ii))) := (ow_21 _ (by omega)).trans ec
    have uc : w_21 (mo + 11) = some (eI 1331 (fun ii => iI (smo ii))) := (ow_21 _ (by omega)).trans uc
    refine r_iload_n hb 25 dX9_setThreshold_24 rfl 0 rfl ?_
    refine r_iret hS dX9_setThreshold_25 rfl rfl (Nat.zero_le _) (Nat.zero_le _) ?_
    have e : oThr B D l nx hs s0 s1 thr z = (iI thr, (B, (D, l, nx), hs, s0, s1, z)) := by unfold oThr; rw [if_neg (by omega)]
    rw [e]
    exact ⟨_, rfl, rfl, rfl, ⟨(updZ rg 6 z), g, sp, pa, kp, ik, bg, ln, od, sco, leo, smo, xw_21, vc, sc, pc, kc, ic, bc, lc, oc, xc, ec, uc, hV, h3, hH, rfl, h8, hB, hS0, hS1⟩, (ow_21.mono (by omega) (by omega))⟩
  · have c7 := of_decide_eq_false c7
    refine r_sipush (-1002) hb 13 dX9_setThreshold_10 rfl rfl ?_
    refine r_iret hS dX9_setThreshold_13 rfl rfl (Nat.zero_le _) (Nat.zero_le _) ?_
    have e : oThr B D l nx hs s0 s1 thr z = (iI (-1002), (B, (D, l, nx), hs, s0, s1, thr)) := by unfold oThr; rw [if_pos (by omega)]
    rw [e]
    exact ⟨_, rfl, rfl, rfl, hM, off.rfl' _ _ _⟩

abbrev rm_X9_save : Room := { frames := 1, cells := 0, slots := 0, locals := 24 }
set_option maxHeartbeats 4000000 in
set_option maxRecDepth 100000 in
theorem c_X9_save (mo : Nat) (B D : List Int32) (l : List Nt) (nx : Nat) (hs : List Pg) (s0 s1 : Option (Pg × Int)) (thr : Int) (z : Int) {w : PW} {n : Nat} (hM : moE w mo B D l nx hs s0 s1 thr) (hzb : -2147483648 ≤ z ∧ z < 2147483648) : Ct1 yX9_save cX9_save 2 (some .int) rm_X9_save [.ref mo, .int (iI (z))] w n (fun v w1 n1 => v = .int (oSav B D l nx hs s0 s1 thr z).1 ∧ n = n1 ∧ mo_ w1 mo (oSav B D l nx hs s0 s1 thr z).2 ∧ off w w1 mo (mo + 12)) := by
  obtain ⟨rg, g, sp, pa, kp, ik, bg, ln, od, sco, leo, smo, mc, vc, sc, pc, kc, ic, bc, lc, oc, xc, ec, uc, hV, h3, hH, h6, h8, hB, hS0, hS1⟩ := id hM
  have hD : vdp g D := hV.1
  have hP : vnp g l nx := hV.2
  have hDl := hD.2.2
  have hPl := hP.2.2.1
  have hnx := hP.2.2.2.1
  have hBl := hB.1
  have hHl := hH.1
  refine Ctr.of rfl (Nat.le_of_ble_eq_true rfl) fun S hS => ?_
  have hb : S.1.1 = cX9_save := by rw [hS]; rfl
  have ho : S.1.2.1 = RX9 := by rw [hS]; rfl
  have hnL : S.1.2.2.1 = 2 := by rw [hS]; rfl
  have hR0 : S.2.1 = rm_X9_save := by rw [hS]; rfl
  show Wp S 0 [(0, .ref mo), (1, .int (iI (z)))] [] w n 0 0
  refine r_iload_n hb 1 dX9_save_0 rfl 1 rfl ?_
  refine r_iconst hb 2 dX9_save_1 rfl ?_
  refine r_iconst hb 3 dX9_save_2 rfl ?_
  refine r_callSR (st := []) hb ho 6 dX9_save_3 rfl ck_X9_52 (c_X9_in (z) 0 1 (by omega)) rfl rfl (by rw [hR0]; exact ⟨Nat.le_of_ble_eq_true rfl, Nat.le_of_ble_eq_true rfl⟩) (Nat.le_of_ble_eq_true rfl) ⟨rfl, rfl⟩ (by rw [hR0]; exact Nat.zero_le _) (by rw [hR0]; exact Nat.zero_le _) ?_
  refine r_ifb_ne hb 9 13 dX9_save_6 rfl (by decide) (fun c6 => ?_) (fun c6 => ?_)
  · have c6 := of_decide_eq_true c6
    by_cases h0 : z = 0
    · subst h0
      refine r_aload_n hb 14 dX9_save_13 rfl 0 rfl ?_
      refine r_get hb ho 17 dX9_save_14 rfl lk_X9_7 pf_X9_0 mc rfl ?_
      refine r_iconst hb 18 dX9_save_17 rfl ?_
      refine r_aload_n hb 19 dX9_save_18 rfl 0 rfl ?_
      refine r_get hb ho 22 dX9_save_19 rfl lk_X9_19 pf_X9_4 mc rfl ?_
      refine r_sipush 484 hb 25 dX9_save_22 rfl rfl ?_
      refine r_iload_n hb 26 dX9_save_25 rfl 1 rfl ?_
      refine r_imulZ hb 27 (((0 : Nat) : Int)) dX9_save_26 rfl (by omega) ?_
      refine r_callS0 (st := []) hb ho 30 dX9_save_27 rfl ck_X9_56 (c_X9_copies (mo + 1) (mo + 4) 0 (0) 483 968 g kp vc kc (by omega) (by omega) (by omega)) rfl rfl (by rw [hR0]; exact ⟨Nat.le_of_ble_eq_true rfl, Nat.le_of_ble_eq_true rfl⟩) (Nat.le_of_ble_eq_true rfl) ⟨rfl, rfl⟩ (by rw [hR0]; exact Nat.zero_le _) (by rw [hR0]; exact Nat.zero_le _) (fun w_27 nw_27 qw_27 => ?_)
      obtain ⟨rfl, ⟨kp1, kc, kp_i, kp_o⟩, ow_27⟩ := qw_27
      have mc : w_27 mo = some (eO 9 [.ref (mo + 1), .ref (mo + 2), .ref (mo + 3), .int (iI ((rg 3))), .ref (mo + 4), .ref (mo + 5), .int (iI ((rg 6))), .ref (mo + 6), .int (iI ((rg 8))), .ref (mo + 7), .int (iI ((rg 10))), .int (iI ((rg 11))), .int (iI ((rg 12))), .int (iI ((rg 13))), .int (iI ((rg 14))), .ref (mo + 8), .int (iI ((rg 16))), .ref (mo + 9), .ref (mo + 10), .ref (mo + 11)]) := (ow_27 _ (by omega)).trans mc
      have vc : w_27 (mo + 1) = some (eI 483 g) := (ow_27 _ (by omega)).trans vc
      have sc : w_27 (mo + 2) = some (eI 483 sp) := (ow_27 _ (by omega)).trans sc
      have pc : w_27 (mo + 3) = some (eI 2898 pa) := (ow_27 _ (by omega)).trans pc
      have ic : w_27 (mo + 5) = some (eZ 2 ik) := (ow_27 _ (by omega)).trans ic
      have bc : w_27 (mo + 6) = some (eI 40 bg) := (ow_27 _ (by omega)).trans bc
      have lc : w_27 (mo + 7) = some (eI 17 (fun ii => iI ((ln ii : Nat) : Int))) := (ow_27 _ (by omega)).trans lc
      have oc : w_27 (mo + 8) = some (eI 10 (fun ii => iI ((od ii : Nat) : Int))) := (ow_27 _ (by omega)).trans oc
      have xc : w_27 (mo + 9) = some (eI 1210 (fun ii => iI (sco ii))) := (ow_27 _ (by omega)).trans xc
      have ec : w_27 (mo + 10) = some (eI 1210 (fun ii => iI (leo ii))) := (ow_27 _ (by omega)).trans ec
      have uc : w_27 (mo + 11) = some (eI 1331 (fun ii => iI (smo ii))) := (ow_27 _ (by omega)).trans uc
      refine r_aload_n hb 31 dX9_save_30 rfl 0 rfl ?_
      refine r_get hb ho 34 dX9_save_31 rfl lk_X9_19 pf_X9_4 mc rfl ?_
      refine r_sipush 484 hb 37 dX9_save_34 rfl rfl ?_
      refine r_iload_n hb 38 dX9_save_37 rfl 1 rfl ?_
      refine r_imulZ hb 39 0 dX9_save_38 rfl (by omega) ?_
      refine r_sipush 483 hb 42 dX9_save_39 rfl rfl ?_
      refine r_iaddZ hb 43 483 dX9_save_42 rfl (by omega) ?_
      refine r_aload_n hb 44 dX9_save_43 rfl 0 rfl ?_
      refine r_get hb ho 47 dX9_save_44 rfl lk_X9_26 pf_X9_6 mc rfl ?_
      refine r_iast hb 48 dX9_save_47 rfl kc (0 + 483) (by omega) (⟨by omega, by omega⟩) (fun w_47 hw_47 => ?_)
      have ow_47 := pset_off hw_47
      have xw_47 : w_47 (mo + 4) = some (eI 968 (upd kp1 (0 + 483) ((iI ((rg 6)))))) := by rw [hw_47]; exact pset_eq _ _ _
      have mc : w_47 mo = some (eO 9 [.ref (mo + 1), .ref (mo + 2), .ref (mo + 3), .int (iI ((rg 3))), .ref (mo + 4), .ref (mo + 5), .int (iI ((rg 6))), .ref (mo + 6), .int (iI ((rg 8))), .ref (mo + 7), .int (iI ((rg 10))), .int (iI ((rg 11))), .int (iI ((rg 12))), .int (iI ((rg 13))), .int (iI ((rg 14))), .ref (mo + 8), .int (iI ((rg 16))), .ref (mo + 9), .ref (mo + 10), .ref (mo + 11)]) := (ow_47 _ (by omega)).trans mc
      have vc : w_47 (mo + 1) = some (eI 483 g) := (ow_47 _ (by omega)).trans vc
      have sc : w_47 (mo + 2) = some (eI 483 sp) := (ow_47 _ (by omega)).trans sc
      have pc : w_47 (mo + 3) = some (eI 2898 pa) := (ow_47 _ (by omega)).trans pc
      have ic : w_47 (mo + 5) = some (eZ 2 ik) := (ow_47 _ (by omega)).trans ic
      have bc : w_47 (mo + 6) = some (eI 40 bg) := (ow_47 _ (by omega)).trans bc
      have lc : w_47 (mo + 7) = some (eI 17 (fun ii => iI ((ln ii : Nat) : Int))) := (ow_47 _ (by omega)).trans lc
      have oc : w_47 (mo + 8) = some (eI 10 (fun ii => iI ((od ii : Nat) : Int))) := (ow_47 _ (by omega)).trans oc
      have xc : w_47 (mo + 9) = some (eI 1210 (fun ii => iI (sco ii))) := (ow_47 _ (by omega)).trans xc
      have ec : w_47 (mo + 10) = some (eI 1210 (fun ii => iI (leo ii))) := (ow_47 _ (by omega)).trans ec
      have uc : w_47 (mo + 11) = some (eI 1331 (fun ii => iI (smo ii))) := (ow_47 _ (by omega)).trans uc
      refine r_aload_n hb 49 dX9_save_48 rfl 0 rfl ?_
      refine r_get hb ho 52 dX9_save_49 rfl lk_X9_22 pf_X9_5 mc rfl ?_
      refine r_iload_n hb 53 dX9_save_52 rfl 1 rfl ?_
      refine r_iconst hb 54 dX9_save_53 rfl ?_
      refine r_zast rfl hb 55 dX9_save_54 rfl ic 0 (by omega) (⟨by omega, by omega⟩) (fun w_54 hw_54 => ?_)
      have ow_54 := pset_off hw_54
      have xw_54 : w_54 (mo + 5) = some (eZ 2 (upd ik 0 ((iI 1)))) := by rw [hw_54]; exact pset_eq _ _ _
      have xw_47 : w_54 (mo + 4) = some (eI 968 (upd kp1 (0 + 483) ((iI ((rg 6)))))) := (ow_54 _ (by omega)).trans xw_47
      have mc : w_54 mo = some (eO 9 [.ref (mo + 1), .ref (mo + 2), .ref (mo + 3), .int (iI ((rg 3))), .ref (mo + 4), .ref (mo + 5), .int (iI ((rg 6))), .ref (mo + 6), .int (iI ((rg 8))), .ref (mo + 7), .int (iI ((rg 10))), .int (iI ((rg 11))), .int (iI ((rg 12))), .int (iI ((rg 13))), .int (iI ((rg 14))), .ref (mo + 8), .int (iI ((rg 16))), .ref (mo + 9), .ref (mo + 10), .ref (mo + 11)]) := (ow_54 _ (by omega)).trans mc
      have vc : w_54 (mo + 1) = some (eI 483 g) := (ow_54 _ (by omega)).trans vc
      have sc : w_54 (mo + 2) = some (eI 483 sp) := (ow_54 _ (by omega)).trans sc
      have pc : w_54 (mo + 3) = some (eI 2898 pa) := (ow_54 _ (by omega)).trans pc
      have bc : w_54 (mo + 6) = some (eI 40 bg) := (ow_54 _ (by omega)).trans bc
      have lc : w_54 (mo + 7) = some (eI 17 (fun ii => iI ((ln ii : Nat) : Int))) := (ow_54 _ (by omega)).trans lc
      have oc : w_54 (mo + 8) = some (eI 10 (fun ii => iI ((od ii : Nat) : Int))) := (ow_54 _ (by omega)).trans oc
      have xc : w_54 (mo + 9) = some (eI 1210 (fun ii => iI (sco ii))) := (ow_54 _ (by omega)).trans xc
      have ec : w_54 (mo + 10) = some (eI 1210 (fun ii => iI (leo ii))) := (ow_54 _ (by omega)).trans ec
      have uc : w_54 (mo + 11) = some (eI 1331 (fun ii => iI (smo ii))) := (ow_54 _ (by omega)).trans uc
      refine r_aload_n hb 56 dX9_save_55 rfl 0 rfl ?_
      refine r_get hb ho 59 dX9_save_56 rfl lk_X9_7 pf_X9_0 mc rfl ?_
      refine r_bipush 122 hb 61 dX9_save_59 rfl rfl ?_
      refine r_iald hb 62 dX9_save_61 rfl vc 122 (by omega) (⟨by omega, by omega⟩) ?_
      refine r_topz ((((l).length : Nat) : Int)) (hP.2.1) ?_
      refine r_iret hS dX9_save_62 rfl rfl (Nat.zero_le _) (Nat.zero_le _) ?_
      have hS : vsl (upd ik 0 (iI 1)) (upd kp1 (0 + 483) (iI (rg 6))) 0 0 (some ((D, l, nx), thr)) := by
        refine ⟨pk_us, fun v hv => ?_⟩
        cases hv
        exact ⟨vpo.congr (vpg_o hV) (fun i hi => (pk_un (by omega)).trans (kp_i i hi)), by rw [pk_us, h6]⟩
      have hT : vsl (upd ik 0 (iI 1)) (upd kp1 (0 + 483) (iI (rg 6))) 1 484 s1 := by
        refine ⟨(pk_un (by decide)).trans hS1.1, fun v hv => ?_⟩
        obtain ⟨a1, a2⟩ := hS1.2 v hv
        exact ⟨vpo.congr a1 (fun i hi => (pk_un (by omega)).trans (kp_o _ (by omega))), (pk_un (by omega)).trans ((kp_o _ (by omega)).trans a2)⟩
      have e : oSav B D l nx hs s0 s1 thr 0 = (iI ((l.length : Nat) : Int), (B, (D, l, nx), hs, some ((D, l, nx), thr), s1, thr)) := by unfold oSav; rw [if_neg (by omega)]; rfl
      rw [e]
      exact ⟨_, rfl, rfl, rfl, ⟨rg, g, sp, pa, _, _, bg, ln, od, sco, leo, smo, mc, vc, sc, pc, xw_47, xw_54, bc, lc, oc, xc, ec, uc, hV, h3, hH, h6, h8, hB, hS, hT⟩, (((ow_27.mono (by omega) (by omega)).trans (ow_47.mono (by omega) (by omega))).trans (ow_54.mono (by omega) (by omega)))⟩
    · have h1 : z = 1 := by omega
      subst h1
      refine r_aload_n hb 14 dX9_save_13 rfl 0 rfl ?_
      refine r_get hb ho 17 dX9_save_14 rfl lk_X9_7 pf_X9_0 mc rfl ?_
      refine r_iconst hb 18 dX9_save_17 rfl ?_
      refine r_aload_n hb 19 dX9_save_18 rfl 0 rfl ?_
      refine r_get hb ho 22 dX9_save_19 rfl lk_X9_19 pf_X9_4 mc rfl ?_
      refine r_sipush 484 hb 25 dX9_save_22 rfl rfl ?_
      refine r_iload_n hb 26 dX9_save_25 rfl 1 rfl ?_
      refine r_imulZ hb 27 (((484 : Nat) : Int)) dX9_save_26 rfl (by omega) ?_
      refine r_callS0 (st := []) hb ho 30 dX9_save_27 rfl ck_X9_56 (c_X9_copies (mo + 1) (mo + 4) 0 (484) 483 968 g kp vc kc (by omega) (by omega) (by omega)) rfl rfl (by rw [hR0]; exact ⟨Nat.le_of_ble_eq_true rfl, Nat.le_of_ble_eq_true rfl⟩) (Nat.le_of_ble_eq_true rfl) ⟨rfl, rfl⟩ (by rw [hR0]; exact Nat.zero_le _) (by rw [hR0]; exact Nat.zero_le _) (fun w_27 nw_27 qw_27 => ?_)
      obtain ⟨rfl, ⟨kp1, kc, kp_i, kp_o⟩, ow_27⟩ := qw_27
      have mc : w_27 mo = some (eO 9 [.ref (mo + 1), .ref (mo + 2), .ref (mo + 3), .int (iI ((rg 3))), .ref (mo + 4), .ref (mo + 5), .int (iI ((rg 6))), .ref (mo + 6), .int (iI ((rg 8))), .ref (mo + 7), .int (iI ((rg 10))), .int (iI ((rg 11))), .int (iI ((rg 12))), .int (iI ((rg 13))), .int (iI ((rg 14))), .ref (mo + 8), .int (iI ((rg 16))), .ref (mo + 9), .ref (mo + 10), .ref (mo + 11)]) := (ow_27 _ (by omega)).trans mc
      have vc : w_27 (mo + 1) = some (eI 483 g) := (ow_27 _ (by omega)).trans vc
      have sc : w_27 (mo + 2) = some (eI 483 sp) := (ow_27 _ (by omega)).trans sc
      have pc : w_27 (mo + 3) = some (eI 2898 pa) := (ow_27 _ (by omega)).trans pc
      have ic : w_27 (mo + 5) = some (eZ 2 ik) := (ow_27 _ (by omega)).trans ic
      have bc : w_27 (mo + 6) = some (eI 40 bg) := (ow_27 _ (by omega)).trans bc
      have lc : w_27 (mo + 7) = some (eI 17 (fun ii => iI ((ln ii : Nat) : Int))) := (ow_27 _ (by omega)).trans lc
      have oc : w_27 (mo + 8) = some (eI 10 (fun ii => iI ((od ii : Nat) : Int))) := (ow_27 _ (by omega)).trans oc
      have xc : w_27 (mo + 9) = some (eI 1210 (fun ii => iI (sco ii))) := (ow_27 _ (by omega)).trans xc
      have ec : w_27 (mo + 10) = some (eI 1210 (fun ii => iI (leo ii))) := (ow_27 _ (by omega)).trans ec
      have uc : w_27 (mo + 11) = some (eI 1331 (fun ii => iI (smo ii))) := (ow_27 _ (by omega)).trans uc
      refine r_aload_n hb 31 dX9_save_30 rfl 0 rfl ?_
      refine r_get hb ho 34 dX9_save_31 rfl lk_X9_19 pf_X9_4 mc rfl ?_
      refine r_sipush 484 hb 37 dX9_save_34 rfl rfl ?_
      refine r_iload_n hb 38 dX9_save_37 rfl 1 rfl ?_
      refine r_imulZ hb 39 484 dX9_save_38 rfl (by omega) ?_
      refine r_sipush 483 hb 42 dX9_save_39 rfl rfl ?_
      refine r_iaddZ hb 43 967 dX9_save_42 rfl (by omega) ?_
      refine r_aload_n hb 44 dX9_save_43 rfl 0 rfl ?_
      refine r_get hb ho 47 dX9_save_44 rfl lk_X9_26 pf_X9_6 mc rfl ?_
      refine r_iast hb 48 dX9_save_47 rfl kc (484 + 483) (by omega) (⟨by omega, by omega⟩) (fun w_47 hw_47 => ?_)
      have ow_47 := pset_off hw_47
      have xw_47 : w_47 (mo + 4) = some (eI 968 (upd kp1 (484 + 483) ((iI ((rg 6)))))) := by rw [hw_47]; exact pset_eq _ _ _
      have mc : w_47 mo = some (eO 9 [.ref (mo + 1), .ref (mo + 2), .ref (mo + 3), .int (iI ((rg 3))), .ref (mo + 4), .ref (mo + 5), .int (iI ((rg 6))), .ref (mo + 6), .int (iI ((rg 8))), .ref (mo + 7), .int (iI ((rg 10))), .int (iI ((rg 11))), .int (iI ((rg 12))), .int (iI ((rg 13))), .int (iI ((rg 14))), .ref (mo + 8), .int (iI ((rg 16))), .ref (mo + 9), .ref (mo + 10), .ref (mo + 11)]) := (ow_47 _ (by omega)).trans mc
      have vc : w_47 (mo + 1) = some (eI 483 g) := (ow_47 _ (by omega)).trans vc
      have sc : w_47 (mo + 2) = some (eI 483 sp) := (ow_47 _ (by omega)).trans sc
      have pc : w_47 (mo + 3) = some (eI 2898 pa) := (ow_47 _ (by omega)).trans pc
      have ic : w_47 (mo + 5) = some (eZ 2 ik) := (ow_47 _ (by omega)).trans ic
      have bc : w_47 (mo + 6) = some (eI 40 bg) := (ow_47 _ (by omega)).trans bc
      have lc : w_47 (mo + 7) = some (eI 17 (fun ii => iI ((ln ii : Nat) : Int))) := (ow_47 _ (by omega)).trans lc
      have oc : w_47 (mo + 8) = some (eI 10 (fun ii => iI ((od ii : Nat) : Int))) := (ow_47 _ (by omega)).trans oc
      have xc : w_47 (mo + 9) = some (eI 1210 (fun ii => iI (sco ii))) := (ow_47 _ (by omega)).trans xc
      have ec : w_47 (mo + 10) = some (eI 1210 (fun ii => iI (leo ii))) := (ow_47 _ (by omega)).trans ec
      have uc : w_47 (mo + 11) = some (eI 1331 (fun ii => iI (smo ii))) := (ow_47 _ (by omega)).trans uc
      refine r_aload_n hb 49 dX9_save_48 rfl 0 rfl ?_
      refine r_get hb ho 52 dX9_save_49 rfl lk_X9_22 pf_X9_5 mc rfl ?_
      refine r_iload_n hb 53 dX9_save_52 rfl 1 rfl ?_
      refine r_iconst hb 54 dX9_save_53 rfl ?_
      refine r_zast rfl hb 55 dX9_save_54 rfl ic 1 (by omega) (⟨by omega, by omega⟩) (fun w_54 hw_54 => ?_)
      have ow_54 := pset_off hw_54
      have xw_54 : w_54 (mo + 5) = some (eZ 2 (upd ik 1 ((iI 1)))) := by rw [hw_54]; exact pset_eq _ _ _
      have xw_47 : w_54 (mo + 4) = some (eI 968 (upd kp1 (484 + 483) ((iI ((rg 6)))))) := (ow_54 _ (by omega)).trans xw_47
      have mc : w_54 mo = some (eO 9 [.ref (mo + 1), .ref (mo + 2), .ref (mo + 3), .int (iI ((rg 3))), .ref (mo + 4), .ref (mo + 5), .int (iI ((rg 6))), .ref (mo + 6), .int (iI ((rg 8))), .ref (mo + 7), .int (iI ((rg 10))), .int (iI ((rg 11))), .int (iI ((rg 12))), .int (iI ((rg 13))), .int (iI ((rg 14))), .ref (mo + 8), .int (iI ((rg 16))), .ref (mo + 9), .ref (mo + 10), .ref (mo + 11)]) := (ow_54 _ (by omega)).trans mc
      have vc : w_54 (mo + 1) = some (eI 483 g) := (ow_54 _ (by omega)).trans vc
      have sc : w_54 (mo + 2) = some (eI 483 sp) := (ow_54 _ (by omega)).trans sc
      have pc : w_54 (mo + 3) = some (eI 2898 pa) := (ow_54 _ (by omega)).trans pc
      have bc : w_54 (mo + 6) = some (eI 40 bg) := (ow_54 _ (by omega)).trans bc
      have lc : w_54 (mo + 7) = some (eI 17 (fun ii => iI ((ln ii : Nat) : Int))) := (ow_54 _ (by omega)).trans lc
      have oc : w_54 (mo + 8) = some (eI 10 (fun ii => iI ((od ii : Nat) : Int))) := (ow_54 _ (by omega)).trans oc
      have xc : w_54 (mo + 9) = some (eI 1210 (fun ii => iI (sco ii))) := (ow_54 _ (by omega)).trans xc
      have ec : w_54 (mo + 10) = some (eI 1210 (fun ii => iI (leo ii))) := (ow_54 _ (by omega)).trans ec
      have uc : w_54 (mo + 11) = some (eI 1331 (fun ii => iI (smo ii))) := (ow_54 _ (by omega)).trans uc
      refine r_aload_n hb 56 dX9_save_55 rfl 0 rfl ?_
      refine r_get hb ho 59 dX9_save_56 rfl lk_X9_7 pf_X9_0 mc rfl ?_
      refine r_bipush 122 hb 61 dX9_save_59 rfl rfl ?_
      refine r_iald hb 62 dX9_save_61 rfl vc 122 (by omega) (⟨by omega, by omega⟩) ?_
      refine r_topz ((((l).length : Nat) : Int)) (hP.2.1) ?_
      refine r_iret hS dX9_save_62 rfl rfl (Nat.zero_le _) (Nat.zero_le _) ?_
      have hS : vsl (upd ik 1 (iI 1)) (upd kp1 (484 + 483) (iI (rg 6))) 1 484 (some ((D, l, nx), thr)) := by
        refine ⟨pk_us, fun v hv => ?_⟩
        cases hv
        exact ⟨vpo.congr (vpg_o hV) (fun i hi => (pk_un (by omega)).trans (kp_i i hi)), by rw [pk_us, h6]⟩
      have hT : vsl (upd ik 1 (iI 1)) (upd kp1 (484 + 483) (iI (rg 6))) 0 0 s0 := by
        refine ⟨(pk_un (by decide)).trans hS0.1, fun v hv => ?_⟩
        obtain ⟨a1, a2⟩ := hS0.2 v hv
        exact ⟨vpo.congr a1 (fun i hi => (pk_un (by omega)).trans (kp_o _ (by omega))), (pk_un (by omega)).trans ((kp_o _ (by omega)).trans a2)⟩
      have e : oSav B D l nx hs s0 s1 thr 1 = (iI ((l.length : Nat) : Int), (B, (D, l, nx), hs, s0, some ((D, l, nx), thr), thr)) := by unfold oSav; rw [if_neg (by omega)]; rfl
      rw [e]
      exact ⟨_, rfl, rfl, rfl, ⟨rg, g, sp, pa, _, _, bg, ln, od, sco, leo, smo, mc, vc, sc, pc, xw_47, xw_54, bc, lc, oc, xc, ec, uc, hV, h3, hH, h6, h8, hB, hT, hS⟩, (((ow_27.mono (by omega) (by omega)).trans (ow_47.mono (by omega) (by omega))).trans (ow_54.mono (by omega) (by omega)))⟩
  · have c6 := of_decide_eq_false c6
    refine r_sipush (-1001) hb 12 dX9_save_9 rfl rfl ?_
    refine r_iret hS dX9_save_12 rfl rfl (Nat.zero_le _) (Nat.zero_le _) ?_
    have e : oSav B D l nx hs s0 s1 thr z = (iI (-1001), (B, (D, l, nx), hs, s0, s1, thr)) := by unfold oSav; rw [if_pos (by omega)]
    rw [e]
    exact ⟨_, rfl, rfl, rfl, hM, off.rfl' _ _ _⟩

abbrev rm_X9_restore : Room := { frames := 1, cells := 0, slots := 0, locals := 24 }
set_option maxHeartbeats 4000000 in
set_option maxRecDepth 100000 in
theorem c_X9_restore (mo : Nat) (B D : List Int32) (l : List Nt) (nx : Nat) (hs : List Pg) (s0 s1 : Option (Pg × Int)) (thr : Int) (z : Int) {w : PW} {n : Nat} (hM : moE w mo B D l nx hs s0 s1 thr) (hzb : -2147483648 ≤ z ∧ z < 2147483648) : Ct1 yX9_restore cX9_restore 2 (some .int) rm_X9_restore [.ref mo, .int (iI (z))] w n (fun v w1 n1 => v = .int (oRes B D l nx hs s0 s1 thr z).1 ∧ n = n1 ∧ mo_ w1 mo (oRes B D l nx hs s0 s1 thr z).2 ∧ off w w1 mo (mo + 12)) := by
  obtain ⟨rg, g, sp, pa, kp, ik, bg, ln, od, sco, leo, smo, mc, vc, sc, pc, kc, ic, bc, lc, oc, xc, ec, uc, hV, h3, hH, h6, h8, hB, hS0, hS1⟩ := id hM
  have hD : vdp g D := hV.1
  have hP : vnp g l nx := hV.2
  have hDl := hD.2.2
  have hPl := hP.2.2.1
  have hnx := hP.2.2.2.1
  have hBl := hB.1
  have hHl := hH.1
  refine Ctr.of rfl (Nat.le_of_ble_eq_true rfl) fun S hS => ?_
  have hb : S.1.1 = cX9_restore := by rw [hS]; rfl
  have ho : S.1.2.1 = RX9 := by rw [hS]; rfl
  have hnL : S.1.2.2.1 = 2 := by rw [hS]; rfl
  have hR0 : S.2.1 = rm_X9_restore := by rw [hS]; rfl
  show Wp S 0 [(0, .ref mo), (1, .int (iI (z)))] [] w n 0 0
  refine r_iload_n hb 1 dX9_restore_0 rfl 1 rfl ?_
  refine r_iconst hb 2 dX9_restore_1 rfl ?_
  refine r_iconst hb 3 dX9_restore_2 rfl ?_
  refine r_callSR (st := []) hb ho 6 dX9_restore_3 rfl ck_X9_52 (c_X9_in (z) 0 1 (by omega)) rfl rfl (by rw [hR0]; exact ⟨Nat.le_of_ble_eq_true rfl, Nat.le_of_ble_eq_true rfl⟩) (Nat.le_of_ble_eq_true rfl) ⟨rfl, rfl⟩ (by rw [hR0]; exact Nat.zero_le _) (by rw [hR0]; exact Nat.zero_le _) ?_
  refine r_ifb_ne hb 9 13 dX9_restore_6 rfl (by decide) (fun c6 => ?_) (fun c6 => ?_)
  · have c6 := of_decide_eq_true c6
    by_cases h0 : z = 0
    · subst h0
      refine r_aload_n hb 14 dX9_restore_13 rfl 0 rfl ?_
      refine r_get hb ho 17 dX9_restore_14 rfl lk_X9_22 pf_X9_5 mc rfl ?_
      refine r_iload_n hb 18 dX9_restore_17 rfl 1 rfl ?_
      refine r_zald hb 19 dX9_restore_18 rfl ic 0 (by omega) (⟨by omega, by omega⟩) ?_
      refine r_topv (.int (bI (s0.isSome))) (congrArg Value.int hS0.1) ?_
      refine r_ifb_ne hb 22 26 dX9_restore_19 rfl (by decide) (fun c19 => ?_) (fun c19 => ?_)
      · obtain ⟨v, hs1⟩ := Option.isSome_iff_exists.mp c19
        obtain ⟨hv1, hv2⟩ := hS0.2 v hs1
        refine r_aload_n hb 27 dX9_restore_26 rfl 0 rfl ?_
        refine r_get hb ho 30 dX9_restore_27 rfl lk_X9_19 pf_X9_4 mc rfl ?_
        refine r_sipush 484 hb 33 dX9_restore_30 rfl rfl ?_
        refine r_iload_n hb 34 dX9_restore_33 rfl 1 rfl ?_
        refine r_imulZ hb 35 (((0 : Nat) : Int)) dX9_restore_34 rfl (by omega) ?_
        refine r_aload_n hb 36 dX9_restore_35 rfl 0 rfl ?_
        refine r_get hb ho 39 dX9_restore_36 rfl lk_X9_7 pf_X9_0 mc rfl ?_
        refine r_iconst hb 40 dX9_restore_39 rfl ?_
        refine r_callS0 (st := []) hb ho 43 dX9_restore_40 rfl ck_X9_56 (c_X9_copies (mo + 4) (mo + 1) (0) 0 968 483 kp g kc vc (by omega) (by omega) (by omega)) rfl rfl (by rw [hR0]; exact ⟨Nat.le_of_ble_eq_true rfl, Nat.le_of_ble_eq_true rfl⟩) (Nat.le_of_ble_eq_true rfl) ⟨rfl, rfl⟩ (by rw [hR0]; exact Nat.zero_le _) (by rw [hR0]; exact Nat.zero_le _) (fun w_40 nw_40 qw_40 => ?_)
        obtain ⟨rfl, ⟨g1, vc, g_i, g_o⟩, ow_40⟩ := qw_40
        have mc : w_40 mo = some (eO 9 [.ref (mo + 1), .ref (mo + 2), .ref (mo + 3), .int (iI ((rg 3))), .ref (mo + 4), .ref (mo + 5), .int (iI ((rg 6))), .ref (mo + 6), .int (iI ((rg 8))), .ref (mo + 7), .int (iI ((rg 10))), .int (iI ((rg 11))), .int (iI ((rg 12))), .int (iI ((rg 13))), .int (iI ((rg 14))), .ref (mo + 8), .int (iI ((rg 16))), .ref (mo + 9), .ref (mo + 10), .ref (mo + 11)]) := (ow_40 _ (by omega)).trans mc
        have sc : w_40 (mo + 2) = some (eI 483 sp) := (ow_40 _ (by omega)).trans sc
        have pc : w_40 (mo + 3) = some (eI 2898 pa) := (ow_40 _ (by omega)).trans pc
        have kc : w_40 (mo + 4) = some (eI 968 kp) := (ow_40 _ (by omega)).trans kc
        have ic : w_40 (mo + 5) = some (eZ 2 ik) := (ow_40 _ (by omega)).trans ic
        have bc : w_40 (mo + 6) = some (eI 40 bg) := (ow_40 _ (by omega)).trans bc
        have lc : w_40 (mo + 7) = some (eI 17 (fun ii => iI ((ln ii : Nat) : Int))) := (ow_40 _ (by omega)).trans lc
        have oc : w_40 (mo + 8) = some (eI 10 (fun ii => iI ((od ii : Nat) : Int))) := (ow_40 _ (by omega)).trans oc
        have xc : w_40 (mo + 9) = some (eI 1210 (fun ii => iI (sco ii))) := (ow_40 _ (by omega)).trans xc
        have ec : w_40 (mo + 10) = some (eI 1210 (fun ii => iI (leo ii))) := (ow_40 _ (by omega)).trans ec
        have uc : w_40 (mo + 11) = some (eI 1331 (fun ii => iI (smo ii))) := (ow_40 _ (by omega)).trans uc
        refine r_aload_n hb 44 dX9_restore_43 rfl 0 rfl ?_
        refine r_aload_n hb 45 dX9_restore_44 rfl 0 rfl ?_
        refine r_get hb ho 48 dX9_restore_45 rfl lk_X9_19 pf_X9_4 mc rfl ?_
        refine r_sipush 484 hb 51 dX9_restore_48 rfl rfl ?_
        refine r_iload_n hb 52 dX9_restore_51 rfl 1 rfl ?_
        refine r_imulZ hb 53 0 dX9_restore_52 rfl (by omega) ?_
        refine r_sipush 483 hb 56 dX9_restore_53 rfl rfl ?_
        refine r_iaddZ hb 57 483 dX9_restore_56 rfl (by omega) ?_
        refine r_iald hb 58 dX9_restore_57 rfl kc (0 + 483) (by omega) (⟨by omega, by omega⟩) ?_
        refine r_topz ((v.2)) (hv2) ?_
        refine r_put hb ho 61 dX9_restore_58 rfl lk_X9_26 pf_X9_6 mc (Nat.le_of_ble_eq_true rfl) ⟨rfl, rfl⟩ (fun w_58 hw_58 => ?_)
        have ow_58 := pset_off hw_58
        have xw_58 : w_58 mo = some (eO 9 [.ref (mo + 1), .ref (mo + 2), .ref (mo + 3), .int (iI ((rg 3))), .ref (mo + 4), .ref (mo + 5), .int (iI ((v.2))), .ref (mo + 6), .int (iI ((rg 8))), .ref (mo + 7), .int (iI ((rg 10))), .int (iI ((rg 11))), .int (iI ((rg 12))), .int (iI ((rg 13))), .int (iI ((rg 14))), .ref (mo + 8), .int (iI ((rg 16))), .ref (mo + 9), .ref (mo + 10), .ref (mo + 11)]) := by rw [hw_58]; exact pset_eq _ _ _
        have vc : w_58 (mo + 1) = some (eI 483 g1) := (ow_58 _ (by omega)).trans vc
        have sc : w_58 (mo + 2) = some (eI 483 sp) := (ow_58 _ (by omega)).trans sc
        have pc : w_58 (mo + 3) = some (eI 2898 pa) := (ow_58 _ (by omega)).trans pc
        have kc : w_58 (mo + 4) = some (eI 968 kp) := (ow_58 _ (by omega)).trans kc
        have ic : w_58 (mo + 5) = some (eZ 2 ik) := (ow_58 _ (by omega)).trans ic
        have bc : w_58 (mo + 6) = some (eI 40 bg) := (ow_58 _ (by omega)).trans bc
        have lc : w_58 (mo + 7) = some (eI 17 (fun ii => iI ((ln ii : Nat) : Int))) := (ow_58 _ (by omega)).trans lc
        have oc : w_58 (mo + 8) = some (eI 10 (fun ii => iI ((od ii : Nat) : Int))) := (ow_58 _ (by omega)).trans oc
        have xc : w_58 (mo + 9) = some (eI 1210 (fun ii => iI (sco ii))) := (ow_58 _ (by omega)).trans xc
        have ec : w_58 (mo + 10) = some (eI 1210 (fun ii => iI (leo ii))) := (ow_58 _ (by omega)).trans ec
        have uc : w_58 (mo + 11) = some (eI 1331 (fun ii => iI (smo ii))) := (ow_58 _ (by omega)).trans uc
        refine r_aload_n hb 62 dX9_restore_61 rfl 0 rfl ?_
        refine r_iconst hb 63 dX9_restore_62 rfl ?_
        refine r_put hb ho 66 dX9_restore_63 rfl lk_X9_60 pf_X9_3 xw_58 (Nat.le_of_ble_eq_true rfl) ⟨rfl, rfl⟩ (fun w_63 hw_63 => ?_)
        have ow_63 := pset_off hw_63
        have xw_63 : w_63 mo = some (eO 9 [.ref (mo + 1), .ref (mo + 2), .ref (mo + 3), .int (iI 0), .ref (mo + 4), .ref (mo + 5), .int (iI ((v.2))), .ref (mo + 6), .int (iI ((rg 8))), .ref (mo + 7), .int (iI ((rg 10))), .int (iI ((rg 11))), .int (iI ((rg 12))), .int (iI ((rg 13))), .int (iI ((rg 14))), .ref (mo + 8), .int (iI ((rg 16))), .ref (mo + 9), .ref (mo + 10), .ref (mo + 11)]) := by rw [hw_63]; exact pset_eq _ _ _
        have vc : w_63 (mo + 1) = some (eI 483 g1) := (ow_63 _ (by omega)).trans vc
        have sc : w_63 (mo + 2) = some (eI 483 sp) := (ow_63 _ (by omega)).trans sc
        have pc : w_63 (mo + 3) = some (eI 2898 pa) := (ow_63 _ (by omega)).trans pc
        have kc : w_63 (mo + 4) = some (eI 968 kp) := (ow_63 _ (by omega)).trans kc
        have ic : w_63 (mo + 5) = some (eZ 2 ik) := (ow_63 _ (by omega)).trans ic
        have bc : w_63 (mo + 6) = some (eI 40 bg) := (ow_63 _ (by omega)).trans bc
        have lc : w_63 (mo + 7) = some (eI 17 (fun ii => iI ((ln ii : Nat) : Int))) := (ow_63 _ (by omega)).trans lc
        have oc : w_63 (mo + 8) = some (eI 10 (fun ii => iI ((od ii : Nat) : Int))) := (ow_63 _ (by omega)).trans oc
        have xc : w_63 (mo + 9) = some (eI 1210 (fun ii => iI (sco ii))) := (ow_63 _ (by omega)).trans xc
        have ec : w_63 (mo + 10) = some (eI 1210 (fun ii => iI (leo ii))) := (ow_63 _ (by omega)).trans ec
        have uc : w_63 (mo + 11) = some (eI 1331 (fun ii => iI (smo ii))) := (ow_63 _ (by omega)).trans uc
        refine r_aload_n hb 67 dX9_restore_66 rfl 0 rfl ?_
        refine r_get hb ho 70 dX9_restore_67 rfl lk_X9_7 pf_X9_0 xw_63 rfl ?_
        refine r_bipush 122 hb 72 dX9_restore_70 rfl rfl ?_
        refine r_iald hb 73 dX9_restore_72 rfl vc 122 (by omega) (⟨by omega, by omega⟩) ?_
        have hq9 : g1 122 = iI ((v.1.2.1.length : Nat) : Int) := (by have e := g_i 122 (by omega); rw [Nat.zero_add] at e; exact e.trans (hv1.2.2.1))
        refine r_topz ((v.1.2.1.length : Nat) : Int) hq9 ?_
        refine r_iret hS dX9_restore_73 rfl rfl (Nat.zero_le _) (Nat.zero_le _) ?_
        have hV1 : vpg g1 v.1 := vpg.congr hv1 (fun i hi => (congrArg g1 (Nat.zero_add i)).symm.trans (g_i i hi))
        have hV2 : g1 122 = iI ((v.1.2.1.length : Nat) : Int) := hV1.2.2.1
        have e : oRes B D l nx hs s0 s1 thr 0 = (iI ((v.1.2.1.length : Nat) : Int), (B, v.1, [], s0, s1, v.2)) := by unfold oRes; rw [if_neg (by omega), hs1]; rfl
        rw [e]
        exact ⟨_, rfl, rfl, rfl, ⟨(updZ (updZ rg 6 v.2) 3 0), g1, sp, pa, kp, ik, bg, ln, od, sco, leo, smo, xw_63, vc, sc, pc, kc, ic, bc, lc, oc, xc, ec, uc, hV1, rfl, ⟨Nat.zero_le _, fun j hj => absurd hj (Nat.not_lt_zero _)⟩, rfl, h8, hB, hS0, hS1⟩, (((ow_40.mono (by omega) (by omega)).trans (ow_58.mono (by omega) (by omega))).trans (ow_63.mono (by omega) (by omega)))⟩
      · refine r_sipush (-1003) hb 25 dX9_restore_22 rfl rfl ?_
        refine r_iret hS dX9_restore_25 rfl rfl (Nat.zero_le _) (Nat.zero_le _) ?_
        have hs1 : s0 = none := by cases h : s0 with
          | none => rfl
          | some p => rw [h] at c19; simp at c19
        have e : oRes B D l nx hs s0 s1 thr 0 = (iI (-1003), (B, (D, l, nx), hs, s0, s1, thr)) := by unfold oRes; rw [if_neg (by omega), hs1]; rfl
        rw [e]
        exact ⟨_, rfl, rfl, rfl, hM, off.rfl' _ _ _⟩
    · have h1 : z = 1 := by omega
      subst h1
      refine r_aload_n hb 14 dX9_restore_13 rfl 0 rfl ?_
      refine r_get hb ho 17 dX9_restore_14 rfl lk_X9_22 pf_X9_5 mc rfl ?_
      refine r_iload_n hb 18 dX9_restore_17 rfl 1 rfl ?_
      refine r_zald hb 19 dX9_restore_18 rfl ic 1 (by omega) (⟨by omega, by omega⟩) ?_
      refine r_topv (.int (bI (s1.isSome))) (congrArg Value.int hS1.1) ?_
      refine r_ifb_ne hb 22 26 dX9_restore_19 rfl (by decide) (fun c19 => ?_) (fun c19 => ?_)
      · obtain ⟨v, hs1⟩ := Option.isSome_iff_exists.mp c19
        obtain ⟨hv1, hv2⟩ := hS1.2 v hs1
        refine r_aload_n hb 27 dX9_restore_26 rfl 0 rfl ?_
        refine r_get hb ho 30 dX9_restore_27 rfl lk_X9_19 pf_X9_4 mc rfl ?_
        refine r_sipush 484 hb 33 dX9_restore_30 rfl rfl ?_
        refine r_iload_n hb 34 dX9_restore_33 rfl 1 rfl ?_
        refine r_imulZ hb 35 (((484 : Nat) : Int)) dX9_restore_34 rfl (by omega) ?_
        refine r_aload_n hb 36 dX9_restore_35 rfl 0 rfl ?_
        refine r_get hb ho 39 dX9_restore_36 rfl lk_X9_7 pf_X9_0 mc rfl ?_
        refine r_iconst hb 40 dX9_restore_39 rfl ?_
        refine r_callS0 (st := []) hb ho 43 dX9_restore_40 rfl ck_X9_56 (c_X9_copies (mo + 4) (mo + 1) (484) 0 968 483 kp g kc vc (by omega) (by omega) (by omega)) rfl rfl (by rw [hR0]; exact ⟨Nat.le_of_ble_eq_true rfl, Nat.le_of_ble_eq_true rfl⟩) (Nat.le_of_ble_eq_true rfl) ⟨rfl, rfl⟩ (by rw [hR0]; exact Nat.zero_le _) (by rw [hR0]; exact Nat.zero_le _) (fun w_40 nw_40 qw_40 => ?_)
        obtain ⟨rfl, ⟨g1, vc, g_i, g_o⟩, ow_40⟩ := qw_40
        have mc : w_40 mo = some (eO 9 [.ref (mo + 1), .ref (mo + 2), .ref (mo + 3), .int (iI ((rg 3))), .ref (mo + 4), .ref (mo + 5), .int (iI ((rg 6))), .ref (mo + 6), .int (iI ((rg 8))), .ref (mo + 7), .int (iI ((rg 10))), .int (iI ((rg 11))), .int (iI ((rg 12))), .int (iI ((rg 13))), .int (iI ((rg 14))), .ref (mo + 8), .int (iI ((rg 16))), .ref (mo + 9), .ref (mo + 10), .ref (mo + 11)]) := (ow_40 _ (by omega)).trans mc
        have sc : w_40 (mo + 2) = some (eI 483 sp) := (ow_40 _ (by omega)).trans sc
        have pc : w_40 (mo + 3) = some (eI 2898 pa) := (ow_40 _ (by omega)).trans pc
        have kc : w_40 (mo + 4) = some (eI 968 kp) := (ow_40 _ (by omega)).trans kc
        have ic : w_40 (mo + 5) = some (eZ 2 ik) := (ow_40 _ (by omega)).trans ic
        have bc : w_40 (mo + 6) = some (eI 40 bg) := (ow_40 _ (by omega)).trans bc
        have lc : w_40 (mo + 7) = some (eI 17 (fun ii => iI ((ln ii : Nat) : Int))) := (ow_40 _ (by omega)).trans lc
        have oc : w_40 (mo + 8) = some (eI 10 (fun ii => iI ((od ii : Nat) : Int))) := (ow_40 _ (by omega)).trans oc
        have xc : w_40 (mo + 9) = some (eI 1210 (fun ii => iI (sco ii))) := (ow_40 _ (by omega)).trans xc
        have ec : w_40 (mo + 10) = some (eI 1210 (fun ii => iI (leo ii))) := (ow_40 _ (by omega)).trans ec
        have uc : w_40 (mo + 11) = some (eI 1331 (fun ii => iI (smo ii))) := (ow_40 _ (by omega)).trans uc
        refine r_aload_n hb 44 dX9_restore_43 rfl 0 rfl ?_
        refine r_aload_n hb 45 dX9_restore_44 rfl 0 rfl ?_
        refine r_get hb ho 48 dX9_restore_45 rfl lk_X9_19 pf_X9_4 mc rfl ?_
        refine r_sipush 484 hb 51 dX9_restore_48 rfl rfl ?_
        refine r_iload_n hb 52 dX9_restore_51 rfl 1 rfl ?_
        refine r_imulZ hb 53 484 dX9_restore_52 rfl (by omega) ?_
        refine r_sipush 483 hb 56 dX9_restore_53 rfl rfl ?_
        refine r_iaddZ hb 57 967 dX9_restore_56 rfl (by omega) ?_
        refine r_iald hb 58 dX9_restore_57 rfl kc (484 + 483) (by omega) (⟨by omega, by omega⟩) ?_
        refine r_topz ((v.2)) (hv2) ?_
        refine r_put hb ho 61 dX9_restore_58 rfl lk_X9_26 pf_X9_6 mc (Nat.le_of_ble_eq_true rfl) ⟨rfl, rfl⟩ (fun w_58 hw_58 => ?_)
        have ow_58 := pset_off hw_58
        have xw_58 : w_58 mo = some (eO 9 [.ref (mo + 1), .ref (mo + 2), .ref (mo + 3), .int (iI ((rg 3))), .ref (mo + 4), .ref (mo + 5), .int (iI ((v.2))), .ref (mo + 6), .int (iI ((rg 8))), .ref (mo + 7), .int (iI ((rg 10))), .int (iI ((rg 11))), .int (iI ((rg 12))), .int (iI ((rg 13))), .int (iI ((rg 14))), .ref (mo + 8), .int (iI ((rg 16))), .ref (mo + 9), .ref (mo + 10), .ref (mo + 11)]) := by rw [hw_58]; exact pset_eq _ _ _
        have vc : w_58 (mo + 1) = some (eI 483 g1) := (ow_58 _ (by omega)).trans vc
        have sc : w_58 (mo + 2) = some (eI 483 sp) := (ow_58 _ (by omega)).trans sc
        have pc : w_58 (mo + 3) = some (eI 2898 pa) := (ow_58 _ (by omega)).trans pc
        have kc : w_58 (mo + 4) = some (eI 968 kp) := (ow_58 _ (by omega)).trans kc
        have ic : w_58 (mo + 5) = some (eZ 2 ik) := (ow_58 _ (by omega)).trans ic
        have bc : w_58 (mo + 6) = some (eI 40 bg) := (ow_58 _ (by omega)).trans bc
        have lc : w_58 (mo + 7) = some (eI 17 (fun ii => iI ((ln ii : Nat) : Int))) := (ow_58 _ (by omega)).trans lc
        have oc : w_58 (mo + 8) = some (eI 10 (fun ii => iI ((od ii : Nat) : Int))) := (ow_58 _ (by omega)).trans oc
        have xc : w_58 (mo + 9) = some (eI 1210 (fun ii => iI (sco ii))) := (ow_58 _ (by omega)).trans xc
        have ec : w_58 (mo + 10) = some (eI 1210 (fun ii => iI (leo ii))) := (ow_58 _ (by omega)).trans ec
        have uc : w_58 (mo + 11) = some (eI 1331 (fun ii => iI (smo ii))) := (ow_58 _ (by omega)).trans uc
        refine r_aload_n hb 62 dX9_restore_61 rfl 0 rfl ?_
        refine r_iconst hb 63 dX9_restore_62 rfl ?_
        refine r_put hb ho 66 dX9_restore_63 rfl lk_X9_60 pf_X9_3 xw_58 (Nat.le_of_ble_eq_true rfl) ⟨rfl, rfl⟩ (fun w_63 hw_63 => ?_)
        have ow_63 := pset_off hw_63
        have xw_63 : w_63 mo = some (eO 9 [.ref (mo + 1), .ref (mo + 2), .ref (mo + 3), .int (iI 0), .ref (mo + 4), .ref (mo + 5), .int (iI ((v.2))), .ref (mo + 6), .int (iI ((rg 8))), .ref (mo + 7), .int (iI ((rg 10))), .int (iI ((rg 11))), .int (iI ((rg 12))), .int (iI ((rg 13))), .int (iI ((rg 14))), .ref (mo + 8), .int (iI ((rg 16))), .ref (mo + 9), .ref (mo + 10), .ref (mo + 11)]) := by rw [hw_63]; exact pset_eq _ _ _
        have vc : w_63 (mo + 1) = some (eI 483 g1) := (ow_63 _ (by omega)).trans vc
        have sc : w_63 (mo + 2) = some (eI 483 sp) := (ow_63 _ (by omega)).trans sc
        have pc : w_63 (mo + 3) = some (eI 2898 pa) := (ow_63 _ (by omega)).trans pc
        have kc : w_63 (mo + 4) = some (eI 968 kp) := (ow_63 _ (by omega)).trans kc
        have ic : w_63 (mo + 5) = some (eZ 2 ik) := (ow_63 _ (by omega)).trans ic
        have bc : w_63 (mo + 6) = some (eI 40 bg) := (ow_63 _ (by omega)).trans bc
        have lc : w_63 (mo + 7) = some (eI 17 (fun ii => iI ((ln ii : Nat) : Int))) := (ow_63 _ (by omega)).trans lc
        have oc : w_63 (mo + 8) = some (eI 10 (fun ii => iI ((od ii : Nat) : Int))) := (ow_63 _ (by omega)).trans oc
        have xc : w_63 (mo + 9) = some (eI 1210 (fun ii => iI (sco ii))) := (ow_63 _ (by omega)).trans xc
        have ec : w_63 (mo + 10) = some (eI 1210 (fun ii => iI (leo ii))) := (ow_63 _ (by omega)).trans ec
        have uc : w_63 (mo + 11) = some (eI 1331 (fun ii => iI (smo ii))) := (ow_63 _ (by omega)).trans uc
        refine r_aload_n hb 67 dX9_restore_66 rfl 0 rfl ?_
        refine r_get hb ho 70 dX9_restore_67 rfl lk_X9_7 pf_X9_0 xw_63 rfl ?_
        refine r_bipush 122 hb 72 dX9_restore_70 rfl rfl ?_
        refine r_iald hb 73 dX9_restore_72 rfl vc 122 (by omega) (⟨by omega, by omega⟩) ?_
        have hq9 : g1 122 = iI ((v.1.2.1.length : Nat) : Int) := (by have e := g_i 122 (by omega); rw [Nat.zero_add] at e; exact e.trans (hv1.2.2.1))
        refine r_topz ((v.1.2.1.length : Nat) : Int) hq9 ?_
        refine r_iret hS dX9_restore_73 rfl rfl (Nat.zero_le _) (Nat.zero_le _) ?_
        have hV1 : vpg g1 v.1 := vpg.congr hv1 (fun i hi => (congrArg g1 (Nat.zero_add i)).symm.trans (g_i i hi))
        have hV2 : g1 122 = iI ((v.1.2.1.length : Nat) : Int) := hV1.2.2.1
        have e : oRes B D l nx hs s0 s1 thr 1 = (iI ((v.1.2.1.length : Nat) : Int), (B, v.1, [], s0, s1, v.2)) := by unfold oRes; rw [if_neg (by omega), hs1]; rfl
        rw [e]
        exact ⟨_, rfl, rfl, rfl, ⟨(updZ (updZ rg 6 v.2) 3 0), g1, sp, pa, kp, ik, bg, ln, od, sco, leo, smo, xw_63, vc, sc, pc, kc, ic, bc, lc, oc, xc, ec, uc, hV1, rfl, ⟨Nat.zero_le _, fun j hj => absurd hj (Nat.not_lt_zero _)⟩, rfl, h8, hB, hS0, hS1⟩, (((ow_40.mono (by omega) (by omega)).trans (ow_58.mono (by omega) (by omega))).trans (ow_63.mono (by omega) (by omega)))⟩
      · refine r_sipush (-1003) hb 25 dX9_restore_22 rfl rfl ?_
        refine r_iret hS dX9_restore_25 rfl rfl (Nat.zero_le _) (Nat.zero_le _) ?_
        have hs1 : s1 = none := by cases h : s1 with
          | none => rfl
          | some p => rw [h] at c19; simp at c19
        have e : oRes B D l nx hs s0 s1 thr 1 = (iI (-1003), (B, (D, l, nx), hs, s0, s1, thr)) := by unfold oRes; rw [if_neg (by omega), hs1]; rfl
        rw [e]
        exact ⟨_, rfl, rfl, rfl, hM, off.rfl' _ _ _⟩
  · have c6 := of_decide_eq_false c6
    refine r_sipush (-1001) hb 12 dX9_restore_9 rfl rfl ?_
    refine r_iret hS dX9_restore_12 rfl rfl (Nat.zero_le _) (Nat.zero_le _) ?_
    have e : oRes B D l nx hs s0 s1 thr z = (iI (-1001), (B, (D, l, nx), hs, s0, s1, thr)) := by unfold oRes; rw [if_pos (by omega)]
    rw [e]
    exact ⟨_, rfl, rfl, rfl, hM, off.rfl' _ _ _⟩
