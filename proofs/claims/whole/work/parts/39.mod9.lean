abbrev rm_X9_best : Room := { frames := 5, cells := 0, slots := 0, locals := 119 }
set_option maxHeartbeats 4000000 in
set_option maxRecDepth 100000 in
theorem c_X9_best (mo : Nat) (B D : List Int32) (l : List Nt) (nx : Nat) (hs : List Pg) (s0 s1 : Option (Pg × Int)) (thr : Int) (z k : Int) {w : PW} {n : Nat} (hM : moE w mo B D l nx hs s0 s1 thr) (hzb : -2147483648 ≤ z ∧ z < 2147483648) (hkb : -2147483648 ≤ k ∧ k < 2147483648) (hok : pOk (D, l, nx)) : Ct1 yX9_best cX9_best 4 (some .int) rm_X9_best [.ref mo, .int (iI (z)), .int (iI (k))] w n (fun v w1 n1 => v = .int (oBes B D l nx hs s0 s1 thr z k).1 ∧ n = n1 ∧ mo_ w1 mo (oBes B D l nx hs s0 s1 thr z k).2 ∧ off w w1 mo (mo + 12)) := by
  obtain ⟨rg, g, sp, pa, kp, ik, bg, ln, od, sco, leo, smo, mc, vc, sc, pc, kc, ic, bc, lc, oc, xc, ec, uc, hV, h3, hH, h6, h8, hB, hS0, hS1⟩ := id hM
  have hD : vdp g D := hV.1
  have hP : vnp g l nx := hV.2
  have hDl := hD.2.2
  have hPl := hP.2.2.1
  have hnx := hP.2.2.2.1
  have hBl := hB.1
  have hHl := hH.1
  refine Ctr.of rfl (Nat.le_of_ble_eq_true rfl) fun S hS => ?_
  have hb : S.1.1 = cX9_best := by rw [hS]; rfl
  have ho : S.1.2.1 = RX9 := by rw [hS]; rfl
  have hnL : S.1.2.2.1 = 4 := by rw [hS]; rfl
  have hR0 : S.2.1 = rm_X9_best := by rw [hS]; rfl
  show Wp S 0 [(0, .ref mo), (1, .int (iI (z))), (2, .int (iI (k)))] [] w n 0 0
  refine r_aload_n hb 1 dX9_best_0 rfl 0 rfl ?_
  refine r_iload_n hb 2 dX9_best_1 rfl 1 rfl ?_
  refine r_callVR (st := []) hb ho 5 dX9_best_2 rfl ck_X9_92 (c_X9_find mo rg g l nx (z) mc vc hP (by omega)) rfl rfl (mc) rfl rfl (by rw [hR0]; exact ⟨Nat.le_of_ble_eq_true rfl, Nat.le_of_ble_eq_true rfl⟩) (Nat.le_of_ble_eq_true rfl) ⟨rfl, rfl⟩ (by rw [hR0]; exact Nat.zero_le _) (by rw [hR0]; exact Nat.zero_le _) ?_
  by_cases hf : ixN l z < l.length
  · have hle := ixN_le l z
    refine r_topz ((ixN l z : Nat) : Int) (by unfold ixZ; rw [if_pos hf]) ?_
    refine r_istore_n [(3, .int (iI (((ixN l z : Nat) : Int)))), (0, .ref mo), (1, .int (iI (z))), (2, .int (iI (k)))] hb 6 4 dX9_best_5 rfl rfl hnL (by decide) rfl ?_
    refine r_iload_n hb 7 dX9_best_6 rfl 0 rfl ?_
    refine r_if_ge hb 10 14 dX9_best_7 rfl (by decide) (by omega) (fun c7 => ?_) (fun c7 => ?_)
    · have hN : vnt g (123 + 36 * ixN l z) (lg l (ixN l z)) := hP.2.2.2.2 _ hf
      obtain ⟨n0, n1, n2, n3, n4, n5, n6, n7, n8, n9, n10, n11, n12, n13⟩ := id (hN)
      refine r_iload_n hb 15 dX9_best_14 rfl 3 rfl ?_
      refine r_iconst hb 16 dX9_best_15 rfl ?_
      refine r_iconst hb 17 dX9_best_16 rfl ?_
      refine r_callSR (st := []) hb ho 20 dX9_best_17 rfl ck_X9_52 (c_X9_in (k) 0 2 (by omega)) rfl rfl (by rw [hR0]; exact ⟨Nat.le_of_ble_eq_true rfl, Nat.le_of_ble_eq_true rfl⟩) (Nat.le_of_ble_eq_true rfl) ⟨rfl, rfl⟩ (by rw [hR0]; exact Nat.zero_le _) (by rw [hR0]; exact Nat.zero_le _) ?_
      refine r_ifb_ne hb 23 27 dX9_best_20 rfl (by decide) (fun c20 => ?_) (fun c20 => ?_)
      · have c20 := of_decide_eq_true c20
        refine r_aload_n hb 28 dX9_best_27 rfl 1 rfl ?_
        refine r_iload_n hb 29 dX9_best_28 rfl 0 rfl ?_
        have hx : nOk (lg l (ixN l z)) := (hok.2.2.2.1 (ixN l z) hf).1
        refine r_callV1 (st := []) hb ho 32 dX9_best_29 rfl ck_X9_134 (c_X9_findBest mo rg g ln D (ixN l z) (lg l (ixN l z)) mc vc lc hD hN (by omega) hx) rfl rfl (mc) rfl rfl (by rw [hR0]; exact ⟨Nat.le_of_ble_eq_true rfl, Nat.le_of_ble_eq_true rfl⟩) (Nat.le_of_ble_eq_true rfl) ⟨rfl, rfl⟩ (by rw [hR0]; exact Nat.zero_le _) (by rw [hR0]; exact Nat.zero_le _) (fun vw_29 w_29 nw_29 qw_29 => ?_)
        obtain ⟨rfl, rfl, ⟨rg4, mc, hF4, hB4⟩, ⟨ln4, lc⟩, ow_29⟩ := qw_29
        have h3 := (hF4 3 (by omega)).trans h3
        have h6 := (hF4 6 (by omega)).trans h6
        have h8 := (hF4 8 (by omega)).trans h8
        have vc : w_29 (mo + 1) = some (eI 483 g) := (ow_29 _ (by omega) (by omega)).trans vc
        have sc : w_29 (mo + 2) = some (eI 483 sp) := (ow_29 _ (by omega) (by omega)).trans sc
        have pc : w_29 (mo + 3) = some (eI 2898 pa) := (ow_29 _ (by omega) (by omega)).trans pc
        have kc : w_29 (mo + 4) = some (eI 968 kp) := (ow_29 _ (by omega) (by omega)).trans kc
        have ic : w_29 (mo + 5) = some (eZ 2 ik) := (ow_29 _ (by omega) (by omega)).trans ic
        have bc : w_29 (mo + 6) = some (eI 40 bg) := (ow_29 _ (by omega) (by omega)).trans bc
        have oc : w_29 (mo + 8) = some (eI 10 (fun ii => iI ((od ii : Nat) : Int))) := (ow_29 _ (by omega) (by omega)).trans oc
        have xc : w_29 (mo + 9) = some (eI 1210 (fun ii => iI (sco ii))) := (ow_29 _ (by omega) (by omega)).trans xc
        have ec : w_29 (mo + 10) = some (eI 1210 (fun ii => iI (leo ii))) := (ow_29 _ (by omega) (by omega)).trans ec
        have uc : w_29 (mo + 11) = some (eI 1331 (fun ii => iI (smo ii))) := (ow_29 _ (by omega) (by omega)).trans uc
        refine r_ifb_ne hb 35 39 dX9_best_32 rfl (by decide) (fun c32 => ?_) (fun c32 => ?_)
        · obtain ⟨r, hr⟩ := Option.isSome_iff_exists.mp c32
          obtain ⟨b0, b1, b2⟩ := hB4 r hr
          have hfb := fBt_bd hx D D.length (by omega) r hr
          refine r_iload_n hb 40 dX9_best_39 rfl 3 rfl ?_
          refine r_if_ne hb 43 50 dX9_best_40 rfl (by decide) (by omega) (fun c40 => ?_) (fun c40 => ?_)
          · refine r_iload_n hb 51 dX9_best_50 rfl 3 rfl ?_
            refine r_iconst hb 52 dX9_best_51 rfl ?_
            refine r_icmp_ne hb 55 62 dX9_best_52 rfl (by decide) (by omega) (by omega) (fun c52 => ?_) (fun c52 => ?_)
            · refine r_aload_n hb 63 dX9_best_62 rfl 1 rfl ?_
              refine r_get hb ho 66 dX9_best_63 rfl lk_X9_128 pf_X9_13 mc rfl ?_
              refine r_aload_n hb 67 dX9_best_66 rfl 1 rfl ?_
              refine r_get hb ho 70 dX9_best_67 rfl lk_X9_131 pf_X9_14 mc rfl ?_
              refine r_iaddZ hb 71 ((rg4 13) + (rg4 14)) dX9_best_70 rfl (by omega) ?_
              refine r_iret hS dX9_best_71 rfl rfl (Nat.zero_le _) (Nat.zero_le _) ?_
              refine ?_
              have hv : gB2 (fB (lg l (ixN l z)) D) = ((rg4 13) + (rg4 14)) := by rw [hr]; show ((r.2.1 + r.2.2 : Nat) : Int) = _; omega
              rw [← hv]
              have e : oBes B D l nx hs s0 s1 thr z k = (iI (gB2 (fB (lg l (ixN l z)) D)), (B, (D, l, nx), hs, s0, s1, thr)) := by unfold oBes; rw [if_neg (by omega), if_neg (by omega), if_neg (by omega), if_neg (by omega)]
              rw [e]
              exact ⟨_, rfl, rfl, rfl, ⟨rg4, g, sp, pa, kp, ik, bg, ln4, od, sco, leo, smo, mc, vc, sc, pc, kc, ic, bc, lc, oc, xc, ec, uc, hV, h3, hH, h6, h8, hB, hS0, hS1⟩, (ow_29.cov (by omega) (by omega) (by omega) (by omega))⟩
            · refine r_aload_n hb 56 dX9_best_55 rfl 1 rfl ?_
              refine r_get hb ho 59 dX9_best_56 rfl lk_X9_128 pf_X9_13 mc rfl ?_
              refine r_goto hb 71 dX9_best_59 (by decide) ?_
              refine r_iret hS dX9_best_71 rfl rfl (Nat.zero_le _) (Nat.zero_le _) ?_
              refine ?_
              have hv : gB1 (fB (lg l (ixN l z)) D) = ((rg4 13)) := by rw [hr]; exact b1.symm
              rw [← hv]
              have e : oBes B D l nx hs s0 s1 thr z k = (iI (gB1 (fB (lg l (ixN l z)) D)), (B, (D, l, nx), hs, s0, s1, thr)) := by unfold oBes; rw [if_neg (by omega), if_neg (by omega), if_neg (by omega), if_pos (by omega)]
              rw [e]
              exact ⟨_, rfl, rfl, rfl, ⟨rg4, g, sp, pa, kp, ik, bg, ln4, od, sco, leo, smo, mc, vc, sc, pc, kc, ic, bc, lc, oc, xc, ec, uc, hV, h3, hH, h6, h8, hB, hS0, hS1⟩, (ow_29.cov (by omega) (by omega) (by omega) (by omega))⟩
          · refine r_aload_n hb 44 dX9_best_43 rfl 1 rfl ?_
            refine r_get hb ho 47 dX9_best_44 rfl lk_X9_125 pf_X9_12 mc rfl ?_
            refine r_goto hb 71 dX9_best_47 (by decide) ?_
            refine r_iret hS dX9_best_71 rfl rfl (Nat.zero_le _) (Nat.zero_le _) ?_
            refine ?_
            have hv : gB0 (fB (lg l (ixN l z)) D) = ((rg4 12)) := by rw [hr]; exact b0.symm
            rw [← hv]
            have e : oBes B D l nx hs s0 s1 thr z k = (iI (gB0 (fB (lg l (ixN l z)) D)), (B, (D, l, nx), hs, s0, s1, thr)) := by unfold oBes; rw [if_neg (by omega), if_neg (by omega), if_pos (by omega)]
            rw [e]
            exact ⟨_, rfl, rfl, rfl, ⟨rg4, g, sp, pa, kp, ik, bg, ln4, od, sco, leo, smo, mc, vc, sc, pc, kc, ic, bc, lc, oc, xc, ec, uc, hV, h3, hH, h6, h8, hB, hS0, hS1⟩, (ow_29.cov (by omega) (by omega) (by omega) (by omega))⟩
        · have hno : (fB (lg l (ixN l z)) D) = none := by cases h : (fB (lg l (ixN l z)) D) with
            | none => rfl
            | some p => rw [h] at c32; simp at c32
          refine r_sipush (-1005) hb 38 dX9_best_35 rfl rfl ?_
          refine r_iret hS dX9_best_38 rfl rfl (Nat.zero_le _) (Nat.zero_le _) ?_
          have e : oBes B D l nx hs s0 s1 thr z k = (iI (-1005), (B, (D, l, nx), hs, s0, s1, thr)) := by unfold oBes; rw [if_neg (by omega), if_neg (by omega), show (if k = 0 then gB0 (fB (lg l (ixN l z)) D) else if k = 1 then gB1 (fB (lg l (ixN l z)) D) else gB2 (fB (lg l (ixN l z)) D)) = -1005 from (by rw [hno]; simp [gB0, gB1, gB2])]
          rw [e]
          exact ⟨_, rfl, rfl, rfl, ⟨rg4, g, sp, pa, kp, ik, bg, ln4, od, sco, leo, smo, mc, vc, sc, pc, kc, ic, bc, lc, oc, xc, ec, uc, hV, h3, hH, h6, h8, hB, hS0, hS1⟩, (ow_29.cov (by omega) (by omega) (by omega) (by omega))⟩
      · have c20 := of_decide_eq_false c20
        refine r_sipush (-1002) hb 26 dX9_best_23 rfl rfl ?_
        refine r_iret hS dX9_best_26 rfl rfl (Nat.zero_le _) (Nat.zero_le _) ?_
        have e : oBes B D l nx hs s0 s1 thr z k = (iI (-1002), (B, (D, l, nx), hs, s0, s1, thr)) := by unfold oBes; rw [if_neg (by omega), if_pos (by omega)]
        rw [e]
        exact ⟨_, rfl, rfl, rfl, hM, off.rfl' _ _ _⟩
    · exfalso; omega
  · have hle := ixN_le l z
    refine r_topz (-1) (by unfold ixZ; rw [if_neg hf]) ?_
    refine r_istore_n [(3, .int (iI (-1))), (0, .ref mo), (1, .int (iI (z))), (2, .int (iI (k)))] hb 6 4 dX9_best_5 rfl rfl hnL (by decide) rfl ?_
    refine r_iload_n hb 7 dX9_best_6 rfl 0 rfl ?_
    refine r_if_ge hb 10 14 dX9_best_7 rfl (by decide) (by omega) (fun c7 => ?_) (fun c7 => ?_)
    · exfalso; omega
    · refine r_sipush (-1001) hb 13 dX9_best_10 rfl rfl ?_
      refine r_iret hS dX9_best_13 rfl rfl (Nat.zero_le _) (Nat.zero_le _) ?_
      have e : oBes B D l nx hs s0 s1 thr z k = (iI (-1001), (B, (D, l, nx), hs, s0, s1, thr)) := by unfold oBes; rw [if_pos (by omega)]
      rw [e]
      exact ⟨_, rfl, rfl, rfl, hM, off.rfl' _ _ _⟩

abbrev rm_X9_overlap : Room := { frames := 2, cells := 0, slots := 0, locals := 43 }
set_option maxHeartbeats 4000000 in
set_option maxRecDepth 100000 in
theorem c_X9_overlap (mo : Nat) (B D : List Int32) (l : List Nt) (nx : Nat) (hs : List Pg) (s0 s1 : Option (Pg × Int)) (thr : Int) (z y : Int) {w : PW} {n : Nat} (hM : moE w mo B D l nx hs s0 s1 thr) (hzb : -2147483648 ≤ z ∧ z < 2147483648) (hyb : -2147483648 ≤ y ∧ y < 2147483648) : Ct1 yX9_overlap cX9_overlap 7 (some .int) rm_X9_overlap [.ref mo, .int (iI (z)), .int (iI (y))] w n (fun v w1 n1 => v = .int (oOve B D l nx hs s0 s1 thr z y).1 ∧ n = n1 ∧ mo_ w1 mo (oOve B D l nx hs s0 s1 thr z y).2 ∧ off w w1 mo (mo + 12)) := by
  obtain ⟨rg, g, sp, pa, kp, ik, bg, ln, od, sco, leo, smo, mc, vc, sc, pc, kc, ic, bc, lc, oc, xc, ec, uc, hV, h3, hH, h6, h8, hB, hS0, hS1⟩ := id hM
  have hD : vdp g D := hV.1
  have hP : vnp g l nx := hV.2
  have hDl := hD.2.2
  have hPl := hP.2.2.1
  have hnx := hP.2.2.2.1
  have hBl := hB.1
  have hHl := hH.1
  refine Ctr.of rfl (Nat.le_of_ble_eq_true rfl) fun S hS => ?_
  have hb : S.1.1 = cX9_overlap := by rw [hS]; rfl
  have ho : S.1.2.1 = RX9 := by rw [hS]; rfl
  have hnL : S.1.2.2.1 = 7 := by rw [hS]; rfl
  have hR0 : S.2.1 = rm_X9_overlap := by rw [hS]; rfl
  show Wp S 0 [(0, .ref mo), (1, .int (iI (z))), (2, .int (iI (y)))] [] w n 0 0
  refine r_aload_n hb 1 dX9_overlap_0 rfl 0 rfl ?_
  refine r_iload_n hb 2 dX9_overlap_1 rfl 1 rfl ?_
  refine r_callVR (st := []) hb ho 5 dX9_overlap_2 rfl ck_X9_92 (c_X9_find mo rg g l nx (z) mc vc hP (by omega)) rfl rfl (mc) rfl rfl (by rw [hR0]; exact ⟨Nat.le_of_ble_eq_true rfl, Nat.le_of_ble_eq_true rfl⟩) (Nat.le_of_ble_eq_true rfl) ⟨rfl, rfl⟩ (by rw [hR0]; exact Nat.zero_le _) (by rw [hR0]; exact Nat.zero_le _) ?_
  by_cases hf : ixN l z < l.length
  · have hle := ixN_le l z
    refine r_topz ((ixN l z : Nat) : Int) (by unfold ixZ; rw [if_pos hf]) ?_
    refine r_istore_n [(3, .int (iI (((ixN l z : Nat) : Int)))), (0, .ref mo), (1, .int (iI (z))), (2, .int (iI (y)))] hb 6 7 dX9_overlap_5 rfl rfl hnL (by decide) rfl ?_
    refine r_aload_n hb 7 dX9_overlap_6 rfl 1 rfl ?_
    refine r_iload_n hb 8 dX9_overlap_7 rfl 3 rfl ?_
    refine r_callVR (st := []) hb ho 11 dX9_overlap_8 rfl ck_X9_92 (c_X9_find mo rg g l nx (y) mc vc hP (by omega)) rfl rfl (mc) rfl rfl (by rw [hR0]; exact ⟨Nat.le_of_ble_eq_true rfl, Nat.le_of_ble_eq_true rfl⟩) (Nat.le_of_ble_eq_true rfl) ⟨rfl, rfl⟩ (by rw [hR0]; exact Nat.zero_le _) (by rw [hR0]; exact Nat.zero_le _) ?_
    by_cases hf2 : ixN l y < l.length
    · have hle := ixN_le l y
      refine r_topz ((ixN l y : Nat) : Int) (by unfold ixZ; rw [if_pos hf2]) ?_
      refine r_istore [(4, .int (iI (((ixN l y : Nat) : Int)))), (3, .int (iI (((ixN l z : Nat) : Int)))), (0, .ref mo), (1, .int (iI (z))), (2, .int (iI (y)))] hb 13 7 dX9_overlap_11 rfl hnL (by decide) rfl ?_
      refine r_iload_n hb 14 dX9_overlap_13 rfl 1 rfl ?_
      refine r_if_lt hb 17 22 dX9_overlap_14 rfl (by decide) (by omega) (fun c14 => ?_) (fun c14 => ?_)
      · exfalso; omega
      · refine r_iload hb 19 dX9_overlap_17 rfl 0 rfl ?_
        refine r_if_ge hb 22 26 dX9_overlap_19 rfl (by decide) (by omega) (fun c19 => ?_) (fun c19 => ?_)
        · have hN : vnt g (123 + 36 * ixN l z) (lg l (ixN l z)) := hP.2.2.2.2 _ hf
          obtain ⟨n0, n1, n2, n3, n4, n5, n6, n7, n8, n9, n10, n11, n12, n13⟩ := id (hN)
          have hN2 : vnt g (123 + 36 * ixN l y) (lg l (ixN l y)) := hP.2.2.2.2 _ hf2
          obtain ⟨m0, m1, m2, m3, m4, m5, m6, m7, m8, m9, m10, m11, m12, m13⟩ := id (hN2)
          refine r_aload_n hb 27 dX9_overlap_26 rfl 2 rfl ?_
          refine r_get hb ho 30 dX9_overlap_27 rfl lk_X9_7 pf_X9_0 mc rfl ?_
          refine r_iload_n hb 31 dX9_overlap_30 rfl 1 rfl ?_
          refine r_iconst hb 32 dX9_overlap_31 rfl ?_
          refine r_callSR (st := [.ref (mo + 1)]) hb ho 35 dX9_overlap_32 rfl ck_X9_48 (c_X9_at (((ixN l z : Nat) : Int)) 2 (36 * ((ixN l z : Nat) : Int) + 125) (by omega)) rfl rfl (by rw [hR0]; exact ⟨Nat.le_of_ble_eq_true rfl, Nat.le_of_ble_eq_true rfl⟩) (Nat.le_of_ble_eq_true rfl) ⟨rfl, rfl⟩ (by rw [hR0]; exact Nat.zero_le _) (by rw [hR0]; exact Nat.zero_le _) ?_
          refine r_iald hb 36 dX9_overlap_35 rfl vc (123 + 36 * (ixN l z) + 2) (by omega) (⟨by omega, by omega⟩) ?_
          refine r_topz (((nB (lg l (ixN l z)) : Nat) : Int)) (n2) ?_
          refine r_ineg hb 37 dX9_overlap_36 rfl ?_
          refine r_topz (-((nB (lg l (ixN l z)) : Nat) : Int)) ((iI_neg _).trans (congrArg iI (by omega))) ?_
          refine r_aload_n hb 38 dX9_overlap_37 rfl 2 rfl ?_
          refine r_get hb ho 41 dX9_overlap_38 rfl lk_X9_7 pf_X9_0 mc rfl ?_
          refine r_iload hb 43 dX9_overlap_41 rfl 0 rfl ?_
          refine r_iconst hb 44 dX9_overlap_43 rfl ?_
          refine r_callSR (st := [.ref (mo + 1), .int (iI (-((nB (lg l (ixN l z)) : Nat) : Int)))]) hb ho 47 dX9_overlap_44 rfl ck_X9_48 (c_X9_at (((ixN l y : Nat) : Int)) 2 (36 * ((ixN l y : Nat) : Int) + 125) (by omega)) rfl rfl (by rw [hR0]; exact ⟨Nat.le_of_ble_eq_true rfl, Nat.le_of_ble_eq_true rfl⟩) (Nat.le_of_ble_eq_true rfl) ⟨rfl, rfl⟩ (by rw [hR0]; exact Nat.zero_le _) (by rw [hR0]; exact Nat.zero_le _) ?_
          refine r_iald hb 48 dX9_overlap_47 rfl vc (123 + 36 * (ixN l y) + 2) (by omega) (⟨by omega, by omega⟩) ?_
          refine r_topz (((nB (lg l (ixN l y)) : Nat) : Int)) (m2) ?_
          refine r_ineg hb 49 dX9_overlap_48 rfl ?_
          refine r_topz (-((nB (lg l (ixN l y)) : Nat) : Int)) ((iI_neg _).trans (congrArg iI (by omega))) ?_
          refine r_callSR (st := []) hb ho 52 dX9_overlap_49 rfl ck_X9_69 (c_X9_least (-((nB (lg l (ixN l z)) : Nat) : Int)) (-((nB (lg l (ixN l y)) : Nat) : Int)) (-((max (nB (lg l (ixN l z))) (nB (lg l (ixN l y))) : Nat) : Int)) (by omega)) rfl rfl (by rw [hR0]; exact ⟨Nat.le_of_ble_eq_true rfl, Nat.le_of_ble_eq_true rfl⟩) (Nat.le_of_ble_eq_true rfl) ⟨rfl, rfl⟩ (by rw [hR0]; exact Nat.zero_le _) (by rw [hR0]; exact Nat.zero_le _) ?_
          refine r_ineg hb 53 dX9_overlap_52 rfl ?_
          refine r_topz (((max (nB (lg l (ixN l z))) (nB (lg l (ixN l y))) : Nat) : Int)) ((iI_neg _).trans (congrArg iI (by omega))) ?_
          refine r_istore [(5, .int (iI (((max (nB (lg l (ixN l z))) (nB (lg l (ixN l y))) : Nat) : Int)))), (4, .int (iI (((ixN l y : Nat) : Int)))), (3, .int (iI (((ixN l z : Nat) : Int)))), (0, .ref mo), (1, .int (iI (z))), (2, .int (iI (y)))] hb 55 7 dX9_overlap_53 rfl hnL (by decide) rfl ?_
          refine r_aload_n hb 56 dX9_overlap_55 rfl 3 rfl ?_
          refine r_get hb ho 59 dX9_overlap_56 rfl lk_X9_7 pf_X9_0 mc rfl ?_
          refine r_iload_n hb 60 dX9_overlap_59 rfl 2 rfl ?_
          refine r_iconst hb 61 dX9_overlap_60 rfl ?_
          refine r_callSR (st := [.ref (mo + 1)]) hb ho 64 dX9_overlap_61 rfl ck_X9_48 (c_X9_at (((ixN l z : Nat) : Int)) 3 (36 * ((ixN l z : Nat) : Int) + 126) (by omega)) rfl rfl (by rw [hR0]; exact ⟨Nat.le_of_ble_eq_true rfl, Nat.le_of_ble_eq_true rfl⟩) (Nat.le_of_ble_eq_true rfl) ⟨rfl, rfl⟩ (by rw [hR0]; exact Nat.zero_le _) (by rw [hR0]; exact Nat.zero_le _) ?_
          refine r_iald hb 65 dX9_overlap_64 rfl vc (123 + 36 * (ixN l z) + 3) (by omega) (⟨by omega, by omega⟩) ?_
          refine r_topz (((nE (lg l (ixN l z)) : Nat) : Int)) (n3) ?_
          refine r_aload_n hb 66 dX9_overlap_65 rfl 3 rfl ?_
          refine r_get hb ho 69 dX9_overlap_66 rfl lk_X9_7 pf_X9_0 mc rfl ?_
          refine r_iload hb 71 dX9_overlap_69 rfl 1 rfl ?_
          refine r_iconst hb 72 dX9_overlap_71 rfl ?_
          refine r_callSR (st := [.ref (mo + 1), .int (iI (((nE (lg l (ixN l z)) : Nat) : Int)))]) hb ho 75 dX9_overlap_72 rfl ck_X9_48 (c_X9_at (((ixN l y : Nat) : Int)) 3 (36 * ((ixN l y : Nat) : Int) + 126) (by omega)) rfl rfl (by rw [hR0]; exact ⟨Nat.le_of_ble_eq_true rfl, Nat.le_of_ble_eq_true rfl⟩) (Nat.le_of_ble_eq_true rfl) ⟨rfl, rfl⟩ (by rw [hR0]; exact Nat.zero_le _) (by rw [hR0]; exact Nat.zero_le _) ?_
          refine r_iald hb 76 dX9_overlap_75 rfl vc (123 + 36 * (ixN l y) + 3) (by omega) (⟨by omega, by omega⟩) ?_
          refine r_topz (((nE (lg l (ixN l y)) : Nat) : Int)) (m3) ?_
          refine r_callSR (st := []) hb ho 79 dX9_overlap_76 rfl ck_X9_69 (c_X9_least (((nE (lg l (ixN l z)) : Nat) : Int)) (((nE (lg l (ixN l y)) : Nat) : Int)) (((min ((nE (lg l (ixN l z)))) ((nE (lg l (ixN l y)))) : Nat) : Int)) (by omega)) rfl rfl (by rw [hR0]; exact ⟨Nat.le_of_ble_eq_true rfl, Nat.le_of_ble_eq_true rfl⟩) (Nat.le_of_ble_eq_true rfl) ⟨rfl, rfl⟩ (by rw [hR0]; exact Nat.zero_le _) (by rw [hR0]; exact Nat.zero_le _) ?_
          refine r_istore [(6, .int (iI (((min ((nE (lg l (ixN l z)))) ((nE (lg l (ixN l y)))) : Nat) : Int)))), (5, .int (iI (((max (nB (lg l (ixN l z))) (nB (lg l (ixN l y))) : Nat) : Int)))), (4, .int (iI (((ixN l y : Nat) : Int)))), (3, .int (iI (((ixN l z : Nat) : Int)))), (0, .ref mo), (1, .int (iI (z))), (2, .int (iI (y)))] hb 81 7 dX9_overlap_79 rfl hnL (by decide) rfl ?_
          refine r_iload hb 83 dX9_overlap_81 rfl 0 rfl ?_
          refine r_iload hb 85 dX9_overlap_83 rfl 1 rfl ?_
          refine r_icmp_le hb 88 96 dX9_overlap_85 rfl (by decide) (by omega) (by omega) (fun c85 => ?_) (fun c85 => ?_)
          · refine r_iconst hb 97 dX9_overlap_96 rfl ?_
            refine r_topv (.int (iI (ovN (lg l (ixN l z)) (lg l (ixN l y))))) (congrArg (fun z => Value.int (iI z)) (by unfold ovN; omega)) ?_
            refine r_iret hS dX9_overlap_97 rfl rfl (Nat.zero_le _) (Nat.zero_le _) ?_
            have e : oOve B D l nx hs s0 s1 thr z y = (iI (ovN (lg l (ixN l z)) (lg l (ixN l y))), (B, (D, l, nx), hs, s0, s1, thr)) := by unfold oOve; rw [if_neg (by omega)]
            rw [e]
            exact ⟨_, rfl, rfl, rfl, hM, off.rfl' _ _ _⟩
          · refine r_iload hb 90 dX9_overlap_88 rfl 0 rfl ?_
            refine r_iload hb 92 dX9_overlap_90 rfl 1 rfl ?_
            refine r_isubZ hb 93 (((min ((nE (lg l (ixN l z)))) ((nE (lg l (ixN l y)))) : Nat) : Int) - ((max (nB (lg l (ixN l z))) (nB (lg l (ixN l y))) : Nat) : Int)) dX9_overlap_92 rfl (by omega) ?_
            refine r_goto hb 97 dX9_overlap_93 (by decide) ?_
            refine r_topv (.int (iI (ovN (lg l (ixN l z)) (lg l (ixN l y))))) (congrArg (fun z => Value.int (iI z)) (by unfold ovN; omega)) ?_
            refine r_iret hS dX9_overlap_97 rfl rfl (Nat.zero_le _) (Nat.zero_le _) ?_
            have e : oOve B D l nx hs s0 s1 thr z y = (iI (ovN (lg l (ixN l z)) (lg l (ixN l y))), (B, (D, l, nx), hs, s0, s1, thr)) := by unfold oOve; rw [if_neg (by omega)]
            rw [e]
            exact ⟨_, rfl, rfl, rfl, hM, off.rfl' _ _ _⟩
        · exfalso; omega
    · have hle := ixN_le l y
      refine r_topz (-1) (by unfold ixZ; rw [if_neg hf2]) ?_
      refine r_istore [(4, .int (iI (-1))), (3, .int (iI (((ixN l z : Nat) : Int)))), (0, .ref mo), (1, .int (iI (z))), (2, .int (iI (y)))] hb 13 7 dX9_overlap_11 rfl hnL (by decide) rfl ?_
      refine r_iload_n hb 14 dX9_overlap_13 rfl 1 rfl ?_
      refine r_if_lt hb 17 22 dX9_overlap_14 rfl (by decide) (by omega) (fun c14 => ?_) (fun c14 => ?_)
      · exfalso; omega
      · refine r_iload hb 19 dX9_overlap_17 rfl 0 rfl ?_
        refine r_if_ge hb 22 26 dX9_overlap_19 rfl (by decide) (by omega) (fun c19 => ?_) (fun c19 => ?_)
        · exfalso; omega
        · refine r_sipush (-1001) hb 25 dX9_overlap_22 rfl rfl ?_
          refine r_iret hS dX9_overlap_25 rfl rfl (Nat.zero_le _) (Nat.zero_le _) ?_
          have e : oOve B D l nx hs s0 s1 thr z y = (iI (-1001), (B, (D, l, nx), hs, s0, s1, thr)) := by unfold oOve; rw [if_pos (by omega)]
          rw [e]
          exact ⟨_, rfl, rfl, rfl, hM, off.rfl' _ _ _⟩
  · have hle := ixN_le l z
    refine r_topz (-1) (by unfold ixZ; rw [if_neg hf]) ?_
    refine r_istore_n [(3, .int (iI (-1))), (0, .ref mo), (1, .int (iI (z))), (2, .int (iI (y)))] hb 6 7 dX9_overlap_5 rfl rfl hnL (by decide) rfl ?_
    refine r_aload_n hb 7 dX9_overlap_6 rfl 1 rfl ?_
    refine r_iload_n hb 8 dX9_overlap_7 rfl 3 rfl ?_
    refine r_callVR (st := []) hb ho 11 dX9_overlap_8 rfl ck_X9_92 (c_X9_find mo rg g l nx (y) mc vc hP (by omega)) rfl rfl (mc) rfl rfl (by rw [hR0]; exact ⟨Nat.le_of_ble_eq_true rfl, Nat.le_of_ble_eq_true rfl⟩) (Nat.le_of_ble_eq_true rfl) ⟨rfl, rfl⟩ (by rw [hR0]; exact Nat.zero_le _) (by rw [hR0]; exact Nat.zero_le _) ?_
    by_cases hf2 : ixN l y < l.length
    · have hle := ixN_le l y
      refine r_topz ((ixN l y : Nat) : Int) (by unfold ixZ; rw [if_pos hf2]) ?_
      refine r_istore [(4, .int (iI (((ixN l y : Nat) : Int)))), (3, .int (iI (-1))), (0, .ref mo), (1, .int (iI (z))), (2, .int (iI (y)))] hb 13 7 dX9_overlap_11 rfl hnL (by decide) rfl ?_
      refine r_iload_n hb 14 dX9_overlap_13 rfl 1 rfl ?_
      refine r_if_lt hb 17 22 dX9_overlap_14 rfl (by decide) (by omega) (fun c14 => ?_) (fun c14 => ?_)
      · refine r_sipush (-1001) hb 25 dX9_overlap_22 rfl rfl ?_
        refine r_iret hS dX9_overlap_25 rfl rfl (Nat.zero_le _) (Nat.zero_le _) ?_
        have e : oOve B D l nx hs s0 s1 thr z y = (iI (-1001), (B, (D, l, nx), hs, s0, s1, thr)) := by unfold oOve; rw [if_pos (by omega)]
        rw [e]
        exact ⟨_, rfl, rfl, rfl, hM, off.rfl' _ _ _⟩
      · exfalso; omega
    · have hle := ixN_le l y
      refine r_topz (-1) (by unfold ixZ; rw [if_neg hf2]) ?_
      refine r_istore [(4, .int (iI (-1))), (3, .int (iI (-1))), (0, .ref mo), (1, .int (iI (z))), (2, .int (iI (y)))] hb 13 7 dX9_overlap_11 rfl hnL (by decide) rfl ?_
      refine r_iload_n hb 14 dX9_overlap_13 rfl 1 rfl ?_
      refine r_if_lt hb 17 22 dX9_overlap_14 rfl (by decide) (by omega) (fun c14 => ?_) (fun c14 => ?_)
      · refine r_sipush (-1001) hb 25 dX9_overlap_22 rfl rfl ?_
        refine r_iret hS dX9_overlap_25 rfl rfl (Nat.zero_le _) (Nat.zero_le _) ?_
        have e : oOve B D l nx hs s0 s1 thr z y = (iI (-1001), (B, (D, l, nx), hs, s0, s1, thr)) := by unfold oOve; rw [if_pos (by omega)]
        rw [e]
        exact ⟨_, rfl, rfl, rfl, hM, off.rfl' _ _ _⟩
      · exfalso; omega

abbrev rm_X9_covers : Room := { frames := 1, cells := 0, slots := 0, locals := 21 }
set_option maxHeartbeats 4000000 in
set_option maxRecDepth 100000 in
theorem c_X9_covers (mo : Nat) (rg : Nat → Int) (g : Nat → Int32) (k : Nat) (x : Nt) (i : Int) {w : PW} {n : Nat} (mc : w mo = some (mE mo rg)) (vc : w (mo + 1) = some (eI 483 g)) (hN : vnt g (123 + 36 * k) x) (hk : k < 10) (hi : -2147483648 ≤ i ∧ i < 2147483648) : CtR yX9_covers cX9_covers 3 (some .boolean) rm_X9_covers [.ref mo, .int (iI (((k : Nat) : Int))), .int (iI (i))] w n (.int (bI (cvN x i))) := by
  obtain ⟨n0, n1, n2, n3, n4, n5, n6, n7, n8, n9, n10, n11, n12, n13⟩ := id (hN)
  refine Ctr.of rfl (Nat.le_of_ble_eq_true rfl) fun S hS => ?_
  have hb : S.1.1 = cX9_covers := by rw [hS]; rfl
  have ho : S.1.2.1 = RX9 := by rw [hS]; rfl
  have hnL : S.1.2.2.1 = 3 := by rw [hS]; rfl
  have hR0 : S.2.1 = rm_X9_covers := by rw [hS]; rfl
  show Wp S 0 [(0, .ref mo), (1, .int (iI (((k : Nat) : Int)))), (2, .int (iI (i)))] [] w n 0 0
  refine r_aload_n hb 1 dX9_covers_0 rfl 0 rfl ?_
  refine r_get hb ho 4 dX9_covers_1 rfl lk_X9_7 pf_X9_0 mc rfl ?_
  refine r_iload_n hb 5 dX9_covers_4 rfl 1 rfl ?_
  refine r_iconst hb 6 dX9_covers_5 rfl ?_
  refine r_callSR (st := [.ref (mo + 1)]) hb ho 9 dX9_covers_6 rfl ck_X9_48 (c_X9_at (((k : Nat) : Int)) 1 (36 * ((k : Nat) : Int) + 124) (by omega)) rfl rfl (by rw [hR0]; exact ⟨Nat.le_of_ble_eq_true rfl, Nat.le_of_ble_eq_true rfl⟩) (Nat.le_of_ble_eq_true rfl) ⟨rfl, rfl⟩ (by rw [hR0]; exact Nat.zero_le _) (by rw [hR0]; exact Nat.zero_le _) ?_
  refine r_iald hb 10 dX9_covers_9 rfl vc (123 + 36 * k + 1) (by omega) (⟨by omega, by omega⟩) ?_
  refine r_topv (.int (bI (nK (x)))) (congrArg Value.int (n1)) ?_
  refine r_iconst hb 11 dX9_covers_10 rfl ?_
  refine r_icmpB_ne hb 14 46 dX9_covers_11 rfl (by decide) (fun c11 => ?_) (fun c11 => ?_)
  · refine r_iconst hb 47 dX9_covers_46 rfl ?_
    refine r_iret hS dX9_covers_47 rfl rfl (Nat.zero_le _) (Nat.zero_le _) ?_
    exact ⟨_, rfl, congrArg Value.int (bI_F (decide_eq_false (fun hh => by rw [c11] at hh; cases hh.1))), rfl, rfl⟩
  · refine r_aload_n hb 15 dX9_covers_14 rfl 0 rfl ?_
    refine r_get hb ho 18 dX9_covers_15 rfl lk_X9_7 pf_X9_0 mc rfl ?_
    refine r_iload_n hb 19 dX9_covers_18 rfl 1 rfl ?_
    refine r_iconst hb 20 dX9_covers_19 rfl ?_
    refine r_callSR (st := [.ref (mo + 1)]) hb ho 23 dX9_covers_20 rfl ck_X9_48 (c_X9_at (((k : Nat) : Int)) 2 (36 * ((k : Nat) : Int) + 125) (by omega)) rfl rfl (by rw [hR0]; exact ⟨Nat.le_of_ble_eq_true rfl, Nat.le_of_ble_eq_true rfl⟩) (Nat.le_of_ble_eq_true rfl) ⟨rfl, rfl⟩ (by rw [hR0]; exact Nat.zero_le _) (by rw [hR0]; exact Nat.zero_le _) ?_
    refine r_iald hb 24 dX9_covers_23 rfl vc (123 + 36 * k + 2) (by omega) (⟨by omega, by omega⟩) ?_
    refine r_topz (((nB (x) : Nat) : Int)) (n2) ?_
    refine r_iload_n hb 25 dX9_covers_24 rfl 2 rfl ?_
    refine r_icmp_gt hb 28 46 dX9_covers_25 rfl (by decide) (by omega) (by omega) (fun c25 => ?_) (fun c25 => ?_)
    · refine r_iconst hb 47 dX9_covers_46 rfl ?_
      refine r_iret hS dX9_covers_47 rfl rfl (Nat.zero_le _) (Nat.zero_le _) ?_
      exact ⟨_, rfl, congrArg Value.int (bI_F (decide_eq_false (by omega))), rfl, rfl⟩
    · refine r_iload_n hb 29 dX9_covers_28 rfl 2 rfl ?_
      refine r_aload_n hb 30 dX9_covers_29 rfl 0 rfl ?_
      refine r_get hb ho 33 dX9_covers_30 rfl lk_X9_7 pf_X9_0 mc rfl ?_
      refine r_iload_n hb 34 dX9_covers_33 rfl 1 rfl ?_
      refine r_iconst hb 35 dX9_covers_34 rfl ?_
      refine r_callSR (st := [.ref (mo + 1), .int (iI (i))]) hb ho 38 dX9_covers_35 rfl ck_X9_48 (c_X9_at (((k : Nat) : Int)) 3 (36 * ((k : Nat) : Int) + 126) (by omega)) rfl rfl (by rw [hR0]; exact ⟨Nat.le_of_ble_eq_true rfl, Nat.le_of_ble_eq_true rfl⟩) (Nat.le_of_ble_eq_true rfl) ⟨rfl, rfl⟩ (by rw [hR0]; exact Nat.zero_le _) (by rw [hR0]; exact Nat.zero_le _) ?_
      refine r_iald hb 39 dX9_covers_38 rfl vc (123 + 36 * k + 3) (by omega) (⟨by omega, by omega⟩) ?_
      refine r_topz (((nE (x) : Nat) : Int)) (n3) ?_
      refine r_icmp_ge hb 42 46 dX9_covers_39 rfl (by decide) (by omega) (by omega) (fun c39 => ?_) (fun c39 => ?_)
      · refine r_iconst hb 47 dX9_covers_46 rfl ?_
        refine r_iret hS dX9_covers_47 rfl rfl (Nat.zero_le _) (Nat.zero_le _) ?_
        exact ⟨_, rfl, congrArg Value.int (bI_F (decide_eq_false (by omega))), rfl, rfl⟩
      · refine r_iconst hb 43 dX9_covers_42 rfl ?_
        refine r_goto hb 47 dX9_covers_43 (by decide) ?_
        refine r_iret hS dX9_covers_47 rfl rfl (Nat.zero_le _) (Nat.zero_le _) ?_
        exact ⟨_, rfl, congrArg Value.int (bI_T (decide_eq_true ⟨c11, by omega, by omega⟩)), rfl, rfl⟩

abbrev rm_X9_isBefore : Room := { frames := 1, cells := 0, slots := 0, locals := 21 }
set_option maxHeartbeats 4000000 in
set_option maxRecDepth 100000 in
theorem c_X9_isBefore (mo : Nat) (rg : Nat → Int) (g : Nat → Int32) (k i : Nat) (x y : Nt) {w : PW} {n : Nat} (mc : w mo = some (mE mo rg)) (vc : w (mo + 1) = some (eI 483 g)) (hN : vnt g (123 + 36 * k) x) (hM2 : vnt g (123 + 36 * i) y) (hk : k < 10 ∧ i < 10) (hnum : k < i ↔ nNum x < nNum y) (hnum2 : k = i ↔ nNum x = nNum y) : CtR yX9_isBefore cX9_isBefore 3 (some .boolean) rm_X9_isBefore [.ref mo, .int (iI (((k : Nat) : Int))), .int (iI (((i : Nat) : Int)))] w n (.int (bI (sbN x y))) := by
  obtain ⟨n0, n1, n2, n3, n4, n5, n6, n7, n8, n9, n10, n11, n12, n13⟩ := id (hN)
  obtain ⟨m0, m1, m2, m3, m4, m5, m6, m7, m8, m9, m10, m11, m12, m13⟩ := id (hM2)
  refine Ctr.of rfl (Nat.le_of_ble_eq_true rfl) fun S hS => ?_
  have hb : S.1.1 = cX9_isBefore := by rw [hS]; rfl
  have ho : S.1.2.1 = RX9 := by rw [hS]; rfl
  have hnL : S.1.2.2.1 = 3 := by rw [hS]; rfl
  have hR0 : S.2.1 = rm_X9_isBefore := by rw [hS]; rfl
  show Wp S 0 [(0, .ref mo), (1, .int (iI (((k : Nat) : Int)))), (2, .int (iI (((i : Nat) : Int))))] [] w n 0 0
  refine r_aload_n hb 1 dX9_isBefore_0 rfl 0 rfl ?_
  refine r_get hb ho 4 dX9_isBefore_1 rfl lk_X9_7 pf_X9_0 mc rfl ?_
  refine r_iload_n hb 5 dX9_isBefore_4 rfl 1 rfl ?_
  refine r_iconst hb 6 dX9_isBefore_5 rfl ?_
  refine r_callSR (st := [.ref (mo + 1)]) hb ho 9 dX9_isBefore_6 rfl ck_X9_48 (c_X9_at (((k : Nat) : Int)) 2 (36 * ((k : Nat) : Int) + 125) (by omega)) rfl rfl (by rw [hR0]; exact ⟨Nat.le_of_ble_eq_true rfl, Nat.le_of_ble_eq_true rfl⟩) (Nat.le_of_ble_eq_true rfl) ⟨rfl, rfl⟩ (by rw [hR0]; exact Nat.zero_le _) (by rw [hR0]; exact Nat.zero_le _) ?_
  refine r_iald hb 10 dX9_isBefore_9 rfl vc (123 + 36 * k + 2) (by omega) (⟨by omega, by omega⟩) ?_
  refine r_topz (((nB (x) : Nat) : Int)) (n2) ?_
  refine r_aload_n hb 11 dX9_isBefore_10 rfl 0 rfl ?_
  refine r_get hb ho 14 dX9_isBefore_11 rfl lk_X9_7 pf_X9_0 mc rfl ?_
  refine r_iload_n hb 15 dX9_isBefore_14 rfl 2 rfl ?_
  refine r_iconst hb 16 dX9_isBefore_15 rfl ?_
  refine r_callSR (st := [.ref (mo + 1), .int (iI (((nB (x) : Nat) : Int)))]) hb ho 19 dX9_isBefore_16 rfl ck_X9_48 (c_X9_at (((i : Nat) : Int)) 2 (36 * ((i : Nat) : Int) + 125) (by omega)) rfl rfl (by rw [hR0]; exact ⟨Nat.le_of_ble_eq_true rfl, Nat.le_of_ble_eq_true rfl⟩) (Nat.le_of_ble_eq_true rfl) ⟨rfl, rfl⟩ (by rw [hR0]; exact Nat.zero_le _) (by rw [hR0]; exact Nat.zero_le _) ?_
  refine r_iald hb 20 dX9_isBefore_19 rfl vc (123 + 36 * i + 2) (by omega) (⟨by omega, by omega⟩) ?_
  refine r_topz (((nB (y) : Nat) : Int)) (m2) ?_
  refine r_icmp_eq hb 23 52 dX9_isBefore_20 rfl (by decide) (by omega) (by omega) (fun c20 => ?_) (fun c20 => ?_)
  · refine r_aload_n hb 53 dX9_isBefore_52 rfl 0 rfl ?_
    refine r_get hb ho 56 dX9_isBefore_53 rfl lk_X9_7 pf_X9_0 mc rfl ?_
    refine r_iload_n hb 57 dX9_isBefore_56 rfl 1 rfl ?_
    refine r_iconst hb 58 dX9_isBefore_57 rfl ?_
    refine r_callSR (st := [.ref (mo + 1)]) hb ho 61 dX9_isBefore_58 rfl ck_X9_48 (c_X9_at (((k : Nat) : Int)) 3 (36 * ((k : Nat) : Int) + 126) (by omega)) rfl rfl (by rw [hR0]; exact ⟨Nat.le_of_ble_eq_true rfl, Nat.le_of_ble_eq_true rfl⟩) (Nat.le_of_ble_eq_true rfl) ⟨rfl, rfl⟩ (by rw [hR0]; exact Nat.zero_le _) (by rw [hR0]; exact Nat.zero_le _) ?_
    refine r_iald hb 62 dX9_isBefore_61 rfl vc (123 + 36 * k + 3) (by omega) (⟨by omega, by omega⟩) ?_
    refine r_topz (((nE (x) : Nat) : Int)) (n3) ?_
    refine r_aload_n hb 63 dX9_isBefore_62 rfl 0 rfl ?_
    refine r_get hb ho 66 dX9_isBefore_63 rfl lk_X9_7 pf_X9_0 mc rfl ?_
    refine r_iload_n hb 67 dX9_isBefore_66 rfl 2 rfl ?_
    refine r_iconst hb 68 dX9_isBefore_67 rfl ?_
    refine r_callSR (st := [.ref (mo + 1), .int (iI (((nE (x) : Nat) : Int)))]) hb ho 71 dX9_isBefore_68 rfl ck_X9_48 (c_X9_at (((i : Nat) : Int)) 3 (36 * ((i : Nat) : Int) + 126) (by omega)) rfl rfl (by rw [hR0]; exact ⟨Nat.le_of_ble_eq_true rfl, Nat.le_of_ble_eq_true rfl⟩) (Nat.le_of_ble_eq_true rfl) ⟨rfl, rfl⟩ (by rw [hR0]; exact Nat.zero_le _) (by rw [hR0]; exact Nat.zero_le _) ?_
    refine r_iald hb 72 dX9_isBefore_71 rfl vc (123 + 36 * i + 3) (by omega) (⟨by omega, by omega⟩) ?_
    refine r_topz (((nE (y) : Nat) : Int)) (m3) ?_
    refine r_icmp_gt hb 75 103 dX9_isBefore_72 rfl (by decide) (by omega) (by omega) (fun c72 => ?_) (fun c72 => ?_)
    · refine r_iconst hb 104 dX9_isBefore_103 rfl ?_
      refine r_goto hb 108 dX9_isBefore_104 (by decide) ?_
      refine r_iret hS dX9_isBefore_108 rfl rfl (Nat.zero_le _) (Nat.zero_le _) ?_
      exact ⟨_, rfl, congrArg Value.int (bI_T (decide_eq_true (by omega))), rfl, rfl⟩
    · refine r_aload_n hb 76 dX9_isBefore_75 rfl 0 rfl ?_
      refine r_get hb ho 79 dX9_isBefore_76 rfl lk_X9_7 pf_X9_0 mc rfl ?_
      refine r_iload_n hb 80 dX9_isBefore_79 rfl 1 rfl ?_
      refine r_iconst hb 81 dX9_isBefore_80 rfl ?_
      refine r_callSR (st := [.ref (mo + 1)]) hb ho 84 dX9_isBefore_81 rfl ck_X9_48 (c_X9_at (((k : Nat) : Int)) 3 (36 * ((k : Nat) : Int) + 126) (by omega)) rfl rfl (by rw [hR0]; exact ⟨Nat.le_of_ble_eq_true rfl, Nat.le_of_ble_eq_true rfl⟩) (Nat.le_of_ble_eq_true rfl) ⟨rfl, rfl⟩ (by rw [hR0]; exact Nat.zero_le _) (by rw [hR0]; exact Nat.zero_le _) ?_
      refine r_iald hb 85 dX9_isBefore_84 rfl vc (123 + 36 * k + 3) (by omega) (⟨by omega, by omega⟩) ?_
      refine r_topz (((nE (x) : Nat) : Int)) (n3) ?_
      refine r_aload_n hb 86 dX9_isBefore_85 rfl 0 rfl ?_
      refine r_get hb ho 89 dX9_isBefore_86 rfl lk_X9_7 pf_X9_0 mc rfl ?_
      refine r_iload_n hb 90 dX9_isBefore_89 rfl 2 rfl ?_
      refine r_iconst hb 91 dX9_isBefore_90 rfl ?_
      refine r_callSR (st := [.ref (mo + 1), .int (iI (((nE (x) : Nat) : Int)))]) hb ho 94 dX9_isBefore_91 rfl ck_X9_48 (c_X9_at (((i : Nat) : Int)) 3 (36 * ((i : Nat) : Int) + 126) (by omega)) rfl rfl (by rw [hR0]; exact ⟨Nat.le_of_ble_eq_true rfl, Nat.le_of_ble_eq_true rfl⟩) (Nat.le_of_ble_eq_true rfl) ⟨rfl, rfl⟩ (by rw [hR0]; exact Nat.zero_le _) (by rw [hR0]; exact Nat.zero_le _) ?_
      refine r_iald hb 95 dX9_isBefore_94 rfl vc (123 + 36 * i + 3) (by omega) (⟨by omega, by omega⟩) ?_
      refine r_topz (((nE (y) : Nat) : Int)) (m3) ?_
      refine r_icmp_ne hb 98 107 dX9_isBefore_95 rfl (by decide) (by omega) (by omega) (fun c95 => ?_) (fun c95 => ?_)
      · refine r_iconst hb 108 dX9_isBefore_107 rfl ?_
        refine r_iret hS dX9_isBefore_108 rfl rfl (Nat.zero_le _) (Nat.zero_le _) ?_
        exact ⟨_, rfl, congrArg Value.int (bI_F (decide_eq_false (by omega))), rfl, rfl⟩
      · refine r_iload_n hb 99 dX9_isBefore_98 rfl 1 rfl ?_
        refine r_iload_n hb 100 dX9_isBefore_99 rfl 2 rfl ?_
        refine r_icmp_ge hb 103 107 dX9_isBefore_100 rfl (by decide) (by omega) (by omega) (fun c100 => ?_) (fun c100 => ?_)
        · refine r_iconst hb 108 dX9_isBefore_107 rfl ?_
          refine r_iret hS dX9_isBefore_108 rfl rfl (Nat.zero_le _) (Nat.zero_le _) ?_
          exact ⟨_, rfl, congrArg Value.int (bI_F (decide_eq_false (by omega))), rfl, rfl⟩
        · refine r_iconst hb 104 dX9_isBefore_103 rfl ?_
          refine r_goto hb 108 dX9_isBefore_104 (by decide) ?_
          refine r_iret hS dX9_isBefore_108 rfl rfl (Nat.zero_le _) (Nat.zero_le _) ?_
          exact ⟨_, rfl, congrArg Value.int (bI_T (decide_eq_true (by omega))), rfl, rfl⟩
  · refine r_aload_n hb 24 dX9_isBefore_23 rfl 0 rfl ?_
    refine r_get hb ho 27 dX9_isBefore_24 rfl lk_X9_7 pf_X9_0 mc rfl ?_
    refine r_iload_n hb 28 dX9_isBefore_27 rfl 1 rfl ?_
    refine r_iconst hb 29 dX9_isBefore_28 rfl ?_
    refine r_callSR (st := [.ref (mo + 1)]) hb ho 32 dX9_isBefore_29 rfl ck_X9_48 (c_X9_at (((k : Nat) : Int)) 2 (36 * ((k : Nat) : Int) + 125) (by omega)) rfl rfl (by rw [hR0]; exact ⟨Nat.le_of_ble_eq_true rfl, Nat.le_of_ble_eq_true rfl⟩) (Nat.le_of_ble_eq_true rfl) ⟨rfl, rfl⟩ (by rw [hR0]; exact Nat.zero_le _) (by rw [hR0]; exact Nat.zero_le _) ?_
    refine r_iald hb 33 dX9_isBefore_32 rfl vc (123 + 36 * k + 2) (by omega) (⟨by omega, by omega⟩) ?_
    refine r_topz (((nB (x) : Nat) : Int)) (n2) ?_
    refine r_aload_n hb 34 dX9_isBefore_33 rfl 0 rfl ?_
    refine r_get hb ho 37 dX9_isBefore_34 rfl lk_X9_7 pf_X9_0 mc rfl ?_
    refine r_iload_n hb 38 dX9_isBefore_37 rfl 2 rfl ?_
    refine r_iconst hb 39 dX9_isBefore_38 rfl ?_
    refine r_callSR (st := [.ref (mo + 1), .int (iI (((nB (x) : Nat) : Int)))]) hb ho 42 dX9_isBefore_39 rfl ck_X9_48 (c_X9_at (((i : Nat) : Int)) 2 (36 * ((i : Nat) : Int) + 125) (by omega)) rfl rfl (by rw [hR0]; exact ⟨Nat.le_of_ble_eq_true rfl, Nat.le_of_ble_eq_true rfl⟩) (Nat.le_of_ble_eq_true rfl) ⟨rfl, rfl⟩ (by rw [hR0]; exact Nat.zero_le _) (by rw [hR0]; exact Nat.zero_le _) ?_
    refine r_iald hb 43 dX9_isBefore_42 rfl vc (123 + 36 * i + 2) (by omega) (⟨by omega, by omega⟩) ?_
    refine r_topz (((nB (y) : Nat) : Int)) (m2) ?_
    refine r_icmp_ge hb 46 50 dX9_isBefore_43 rfl (by decide) (by omega) (by omega) (fun c43 => ?_) (fun c43 => ?_)
    · refine r_iconst hb 51 dX9_isBefore_50 rfl ?_
      refine r_iret hS dX9_isBefore_51 rfl rfl (Nat.zero_le _) (Nat.zero_le _) ?_
      exact ⟨_, rfl, congrArg Value.int (bI_F (decide_eq_false (by omega))), rfl, rfl⟩
    · refine r_iconst hb 47 dX9_isBefore_46 rfl ?_
      refine r_goto hb 51 dX9_isBefore_47 (by decide) ?_
      refine r_iret hS dX9_isBefore_51 rfl rfl (Nat.zero_le _) (Nat.zero_le _) ?_
      exact ⟨_, rfl, congrArg Value.int (bI_T (decide_eq_true (by omega))), rfl, rfl⟩

abbrev rm_X9_covering : Room := { frames := 2, cells := 0, slots := 0, locals := 43 }
set_option maxHeartbeats 4000000 in
set_option maxRecDepth 100000 in
theorem c_X9_covering (mo : Nat) (B D : List Int32) (l : List Nt) (nx : Nat) (hs : List Pg) (s0 s1 : Option (Pg × Int)) (thr : Int) (z r : Int) {w : PW} {n : Nat} (hM : moE w mo B D l nx hs s0 s1 thr) (hzb : -2147483648 ≤ z ∧ z < 2147483648) (hrb : -2147483648 ≤ r ∧ r < 2147483648) (hok : pOk (D, l, nx)) : Ct1 yX9_covering cX9_covering 6 (some .int) rm_X9_covering [.ref mo, .int (iI (z)), .int (iI (r))] w n (fun v w1 n1 => v = .int (oCov B D l nx hs s0 s1 thr z r).1 ∧ n = n1 ∧ mo_ w1 mo (oCov B D l nx hs s0 s1 thr z r).2 ∧ off w w1 mo (mo + 12)) := by
  obtain ⟨rg, g, sp, pa, kp, ik, bg, ln, od, sco, leo, smo, mc, vc, sc, pc, kc, ic, bc, lc, oc, xc, ec, uc, hV, h3, hH, h6, h8, hB, hS0, hS1⟩ := id hM
  have hD : vdp g D := hV.1
  have hP : vnp g l nx := hV.2
  have hDl := hD.2.2
  have hPl := hP.2.2.1
  have hnx := hP.2.2.2.1
  have hBl := hB.1
  have hHl := hH.1
  refine Ctr.of rfl (Nat.le_of_ble_eq_true rfl) fun S hS => ?_
  have hb : S.1.1 = cX9_covering := by rw [hS]; rfl
  have ho : S.1.2.1 = RX9 := by rw [hS]; rfl
  have hnL : S.1.2.2.1 = 6 := by rw [hS]; rfl
  have hR0 : S.2.1 = rm_X9_covering := by rw [hS]; rfl
  show Wp S 0 [(0, .ref mo), (1, .int (iI (z))), (2, .int (iI (r)))] [] w n 0 0
  refine r_aload_n hb 1 dX9_covering_0 rfl 0 rfl ?_
  refine r_iload_n hb 2 dX9_covering_1 rfl 1 rfl ?_
  refine r_callVR (st := []) hb ho 5 dX9_covering_2 rfl ck_X9_162 (c_X9_isLetter mo rg g D (z) mc vc hD (by omega)) rfl rfl (mc) rfl rfl (by rw [hR0]; exact ⟨Nat.le_of_ble_eq_true rfl, Nat.le_of_ble_eq_true rfl⟩) (Nat.le_of_ble_eq_true rfl) ⟨rfl, rfl⟩ (by rw [hR0]; exact Nat.zero_le _) (by rw [hR0]; exact Nat.zero_le _) ?_
  refine r_ifb_eq hb 8 12 dX9_covering_5 rfl (by decide) (fun c5 => ?_) (fun c5 => ?_)
  · refine r_sipush (-1001) hb 15 dX9_covering_12 rfl rfl ?_
    refine r_iret hS dX9_covering_15 rfl rfl (Nat.zero_le _) (Nat.zero_le _) ?_
    have e : oCov B D l nx hs s0 s1 thr z r = (iI (-1001), (B, (D, l, nx), hs, s0, s1, thr)) := by unfold oCov; rw [if_pos (Or.inl c5)]
    rw [e]
    exact ⟨_, rfl, rfl, rfl, hM, off.rfl' _ _ _⟩
  · refine r_iload_n hb 9 dX9_covering_8 rfl 2 rfl ?_
    refine r_if_ge hb 12 16 dX9_covering_9 rfl (by decide) (by omega) (fun c9 => ?_) (fun c9 => ?_)
    · have hpp := of_decide_eq_true c5
      have hnn : ¬ (letN D z = false ∨ r < 0) := fun hh => hh.elim (fun h => by rw [c5] at h; cases h) (fun h => by omega)
      refine r_iconst hb 17 dX9_covering_16 rfl ?_
      refine r_istore_n [(3, .int (iI 0)), (0, .ref mo), (1, .int (iI (z))), (2, .int (iI (r)))] hb 18 6 dX9_covering_17 rfl rfl hnL (by decide) rfl ?_
      have lp : ∀ (d : Nat) (k : Nat), l.length - k = d → (k ≤ l.length) → (runL (fun k => !(cvN (lg l k) z && decide (((rkN l (lg l k) z l.length : Nat) : Int) = r))) (l.length - k) k = ncN l z r) → Wp S 18 [(3, .int (iI (((k : Nat) : Int)))), (0, .ref mo), (1, .int (iI (z))), (2, .int (iI (r)))] [] w n 0 0 := by
        intro d
        induction d using Nat.strongRecOn with
        | _ d ih_lp =>
          intro k hd_lp hk hr
          refine r_iload_n hb 19 dX9_covering_18 rfl 0 rfl ?_
          refine r_aload_n hb 20 dX9_covering_19 rfl 1 rfl ?_
          refine r_get hb ho 23 dX9_covering_20 rfl lk_X9_7 pf_X9_0 mc rfl ?_
          refine r_bipush 122 hb 25 dX9_covering_23 rfl rfl ?_
          refine r_iald hb 26 dX9_covering_25 rfl vc 122 (by omega) (⟨by omega, by omega⟩) ?_
          refine r_topz ((((l).length : Nat) : Int)) (hP.2.1) ?_
          refine r_icmp_ge hb 29 115 dX9_covering_26 rfl (by decide) (by omega) (by omega) (fun c26 => ?_) (fun c26 => ?_)
          · refine r_sipush (-1005) hb 118 dX9_covering_115 rfl rfl ?_
            refine r_iret hS dX9_covering_118 rfl rfl (Nat.zero_le _) (Nat.zero_le _) ?_
            have e9 := runL_f (c := fun k => !(cvN (lg l k) z && decide (((rkN l (lg l k) z l.length : Nat) : Int) = r))) (N := l.length) (a := k) (Or.inl (by omega))
            have e8 : ncZ l z r = -1005 := by unfold ncZ; rw [← hr, e9, if_neg (by omega)]
            rw [← e8]
            have e : oCov B D l nx hs s0 s1 thr z r = (iI (ncZ l z r), (B, (D, l, nx), hs, s0, s1, thr)) := by unfold oCov; rw [if_neg hnn]
            rw [e]
            exact ⟨_, rfl, rfl, rfl, hM, off.rfl' _ _ _⟩
          · refine r_iconst hb 30 dX9_covering_29 rfl ?_
            refine r_istore [(4, .int (iI 0)), (3, .int (iI (((k : Nat) : Int)))), (0, .ref mo), (1, .int (iI (z))), (2, .int (iI (r)))] hb 32 6 dX9_covering_30 rfl hnL (by decide) rfl ?_
            refine r_iconst hb 33 dX9_covering_32 rfl ?_
            refine r_istore [(5, .int (iI 0)), (4, .int (iI 0)), (3, .int (iI (((k : Nat) : Int)))), (0, .ref mo), (1, .int (iI (z))), (2, .int (iI (r)))] hb 35 6 dX9_covering_33 rfl hnL (by decide) rfl ?_
            have li : ∀ (d : Nat) (i : Nat), l.length - i = d → (i ≤ l.length) → Wp S 35 [(5, .int (iI (((i : Nat) : Int)))), (4, .int (iI (((rkN l (lg l k) z i : Nat) : Int)))), (3, .int (iI (((k : Nat) : Int)))), (0, .ref mo), (1, .int (iI (z))), (2, .int (iI (r)))] [] w n 0 0 := by
              intro d
              induction d using Nat.strongRecOn with
              | _ d ih_li =>
                intro i hd_li hi
                have hrk := rkN_le l (lg l k) z i
                refine r_iload hb 37 dX9_covering_35 rfl 0 rfl ?_
                refine r_aload_n hb 38 dX9_covering_37 rfl 3 rfl ?_
                refine r_get hb ho 41 dX9_covering_38 rfl lk_X9_7 pf_X9_0 mc rfl ?_
                refine r_bipush 122 hb 43 dX9_covering_41 rfl rfl ?_
                refine r_iald hb 44 dX9_covering_43 rfl vc 122 (by omega) (⟨by omega, by omega⟩) ?_
                refine r_topz ((((l).length : Nat) : Int)) (hP.2.1) ?_
                refine r_icmp_ge hb 47 83 dX9_covering_44 rfl (by decide) (by omega) (by omega) (fun c44 => ?_) (fun c44 => ?_)
                · have hrk2 := rkN_le l (lg l k) z l.length
                  have ei : i = l.length := by omega
                  rw [ei]
                  refine r_aload_n hb 84 dX9_covering_83 rfl 3 rfl ?_
                  refine r_iload_n hb 85 dX9_covering_84 rfl 2 rfl ?_
                  refine r_iload_n hb 86 dX9_covering_85 rfl 4 rfl ?_
                  refine r_callVR (st := []) hb ho 89 dX9_covering_86 rfl ck_X9_171 (c_X9_covers mo rg g k (lg l k) z mc vc (hP.2.2.2.2 k (by omega)) (by omega) hzb) rfl rfl (mc) rfl rfl (by rw [hR0]; exact ⟨Nat.le_of_ble_eq_true rfl, Nat.le_of_ble_eq_true rfl⟩) (Nat.le_of_ble_eq_true rfl) ⟨rfl, rfl⟩ (by rw [hR0]; exact Nat.zero_le _) (by rw [hR0]; exact Nat.zero_le _) ?_
                  refine r_ifb_eq hb 92 109 dX9_covering_89 rfl (by decide) (fun c89 => ?_) (fun c89 => ?_)
                  · refine r_iinc [(3, .int (iI (((k : Nat) : Int) + 1))), (5, .int (iI (((l.length : Nat) : Int)))), (4, .int (iI (((rkN l (lg l k) z l.length : Nat) : Int)))), (0, .ref mo), (1, .int (iI (z))), (2, .int (iI (r)))] hb 112 6 2 dX9_covering_109 rfl rfl hnL (by decide) (((k : Nat) : Int) + 1) (by omega) rfl ?_
                    refine r_goto hb 18 dX9_covering_112 (by decide) ?_
                    refine r_lv [(3, .int (iI (((k + 1 : Nat) : Int)))), (0, .ref mo), (1, .int (iI (z))), (2, .int (iI (r)))] [0, 3, 4, 5] rfl ?_
                    exact ih_lp (l.length - (k + 1)) (by omega) (k + 1) rfl (by omega) (by rw [← runL_t (by omega) (by show (!(cvN (lg l k) z && _)) = true; rw [c89]; rfl)]; exact hr)
                  · refine r_iload hb 94 dX9_covering_92 rfl 1 rfl ?_
                    refine r_iload_n hb 95 dX9_covering_94 rfl 5 rfl ?_
                    refine r_icmp_ne hb 98 109 dX9_covering_95 rfl (by decide) (by omega) (by omega) (fun c95 => ?_) (fun c95 => ?_)
                    · refine r_iinc [(3, .int (iI (((k : Nat) : Int) + 1))), (5, .int (iI (((l.length : Nat) : Int)))), (4, .int (iI (((rkN l (lg l k) z l.length : Nat) : Int)))), (0, .ref mo), (1, .int (iI (z))), (2, .int (iI (r)))] hb 112 6 2 dX9_covering_109 rfl rfl hnL (by decide) (((k : Nat) : Int) + 1) (by omega) rfl ?_
                      refine r_goto hb 18 dX9_covering_112 (by decide) ?_
                      refine r_lv [(3, .int (iI (((k + 1 : Nat) : Int)))), (0, .ref mo), (1, .int (iI (z))), (2, .int (iI (r)))] [0, 3, 4, 5] rfl ?_
                      exact ih_lp (l.length - (k + 1)) (by omega) (k + 1) rfl (by omega) (by rw [← runL_t (by omega) (by show (!(cvN (lg l k) z && decide _)) = true; rw [c89, decide_eq_false (by omega)]; rfl)]; exact hr)
                    · obtain ⟨n0, n1, n2, n3, n4, n5, n6, n7, n8, n9, n10, n11, n12, n13⟩ := id (hP.2.2.2.2 k (by omega))
                      refine r_aload_n hb 99 dX9_covering_98 rfl 3 rfl ?_
                      refine r_get hb ho 102 dX9_covering_99 rfl lk_X9_7 pf_X9_0 mc rfl ?_
                      refine r_iload_n hb 103 dX9_covering_102 rfl 2 rfl ?_
                      refine r_iconst hb 104 dX9_covering_103 rfl ?_
                      refine r_callSR (st := [.ref (mo + 1)]) hb ho 107 dX9_covering_104 rfl ck_X9_48 (c_X9_at (((k : Nat) : Int)) 0 (36 * ((k : Nat) : Int) + 123) (by omega)) rfl rfl (by rw [hR0]; exact ⟨Nat.le_of_ble_eq_true rfl, Nat.le_of_ble_eq_true rfl⟩) (Nat.le_of_ble_eq_true rfl) ⟨rfl, rfl⟩ (by rw [hR0]; exact Nat.zero_le _) (by rw [hR0]; exact Nat.zero_le _) ?_
                      refine r_iald hb 108 dX9_covering_107 rfl vc (123 + 36 * k) (by omega) (⟨by omega, by omega⟩) ?_
                      refine r_topz (((nNum (lg l k) : Nat) : Int)) (n0) ?_
                      refine r_iret hS dX9_covering_108 rfl rfl (Nat.zero_le _) (Nat.zero_le _) ?_
                      have e9 := runL_f (c := fun k => !(cvN (lg l k) z && decide (((rkN l (lg l k) z l.length : Nat) : Int) = r))) (N := l.length) (a := k) (Or.inr (by show (!(cvN (lg l k) z && decide _)) = false; rw [c89, decide_eq_true (by omega)]; rfl))
                      have e8 : ncZ l z r = ((nNum (lg l k) : Nat) : Int) := by unfold ncZ; rw [← hr, e9, if_pos (by omega)]
                      rw [← e8]
                      have e : oCov B D l nx hs s0 s1 thr z r = (iI (ncZ l z r), (B, (D, l, nx), hs, s0, s1, thr)) := by unfold oCov; rw [if_neg hnn]
                      rw [e]
                      exact ⟨_, rfl, rfl, rfl, hM, off.rfl' _ _ _⟩
                · refine r_iload hb 49 dX9_covering_47 rfl 1 rfl ?_
                  refine r_aload_n hb 50 dX9_covering_49 rfl 3 rfl ?_
                  refine r_iload hb 52 dX9_covering_50 rfl 0 rfl ?_
                  refine r_iload_n hb 53 dX9_covering_52 rfl 4 rfl ?_
                  refine r_callVR (st := [.int (iI (((rkN l (lg l k) z i : Nat) : Int)))]) hb ho 56 dX9_covering_53 rfl ck_X9_171 (c_X9_covers mo rg g i (lg l i) z mc vc (hP.2.2.2.2 i (by omega)) (by omega) hzb) rfl rfl (mc) rfl rfl (by rw [hR0]; exact ⟨Nat.le_of_ble_eq_true rfl, Nat.le_of_ble_eq_true rfl⟩) (Nat.le_of_ble_eq_true rfl) ⟨rfl, rfl⟩ (by rw [hR0]; exact Nat.zero_le _) (by rw [hR0]; exact Nat.zero_le _) ?_
                  refine r_ifb_eq hb 59 73 dX9_covering_56 rfl (by decide) (fun c56 => ?_) (fun c56 => ?_)
                  · refine r_iconst hb 74 dX9_covering_73 rfl ?_
                    refine r_iaddZ hb 75 (((rkN l (lg l k) z i : Nat) : Int)) dX9_covering_74 rfl (by omega) ?_
                    refine r_istore [(4, .int (iI (((rkN l (lg l k) z i : Nat) : Int)))), (5, .int (iI (((i : Nat) : Int)))), (3, .int (iI (((k : Nat) : Int)))), (0, .ref mo), (1, .int (iI (z))), (2, .int (iI (r)))] hb 77 6 dX9_covering_75 rfl hnL (by decide) rfl ?_
                    refine r_iinc [(5, .int (iI (((i : Nat) : Int) + 1))), (4, .int (iI (((rkN l (lg l k) z i : Nat) : Int)))), (3, .int (iI (((k : Nat) : Int)))), (0, .ref mo), (1, .int (iI (z))), (2, .int (iI (r)))] hb 80 6 1 dX9_covering_77 rfl rfl hnL (by decide) (((i : Nat) : Int) + 1) (by omega) rfl ?_
                    refine r_goto hb 35 dX9_covering_80 (by decide) ?_
                    have e : rkN l (lg l k) z (i + 1) = rkN l (lg l k) z i + 0 := by simp only [rkN]; rw [c56]; rfl
                    refine r_lv [(5, .int (iI (((i + 1 : Nat) : Int)))), (4, .int (iI (((rkN l (lg l k) z (i + 1) : Nat) : Int)))), (3, .int (iI (((k : Nat) : Int)))), (0, .ref mo), (1, .int (iI (z))), (2, .int (iI (r)))] [0, 1, 2, 3, 4, 5] (by rw [e]; rfl) ?_
                    exact ih_li (l.length - (i + 1)) (by omega) (i + 1) rfl (by omega)
                  · refine r_aload_n hb 60 dX9_covering_59 rfl 3 rfl ?_
                    refine r_iload hb 62 dX9_covering_60 rfl 0 rfl ?_
                    refine r_iload_n hb 63 dX9_covering_62 rfl 2 rfl ?_
                    have hni : k < i → nNum (lg l k) < nNum (lg l i) := fun h => hok.2.2.2.2 k i h (show i < l.length by omega)
                    have hni2 : i < k → nNum (lg l i) < nNum (lg l k) := fun h => hok.2.2.2.2 i k h (show k < l.length by omega)
                    have hni3 : i = k → nNum (lg l i) = nNum (lg l k) := fun h => by rw [h]
                    refine r_callVR (st := [.int (iI (((rkN l (lg l k) z i : Nat) : Int)))]) hb ho 66 dX9_covering_63 rfl ck_X9_174 (c_X9_isBefore mo rg g i k (lg l i) (lg l k) mc vc (hP.2.2.2.2 i (by omega)) (hP.2.2.2.2 k (by omega)) (by omega) (by omega) (by omega)) rfl rfl (mc) rfl rfl (by rw [hR0]; exact ⟨Nat.le_of_ble_eq_true rfl, Nat.le_of_ble_eq_true rfl⟩) (Nat.le_of_ble_eq_true rfl) ⟨rfl, rfl⟩ (by rw [hR0]; exact Nat.zero_le _) (by rw [hR0]; exact Nat.zero_le _) ?_
                    refine r_ifb_eq hb 69 73 dX9_covering_66 rfl (by decide) (fun c66 => ?_) (fun c66 => ?_)
                    · refine r_iconst hb 74 dX9_covering_73 rfl ?_
                      refine r_iaddZ hb 75 (((rkN l (lg l k) z i : Nat) : Int)) dX9_covering_74 rfl (by omega) ?_
                      refine r_istore [(4, .int (iI (((rkN l (lg l k) z i : Nat) : Int)))), (5, .int (iI (((i : Nat) : Int)))), (3, .int (iI (((k : Nat) : Int)))), (0, .ref mo), (1, .int (iI (z))), (2, .int (iI (r)))] hb 77 6 dX9_covering_75 rfl hnL (by decide) rfl ?_
                      refine r_iinc [(5, .int (iI (((i : Nat) : Int) + 1))), (4, .int (iI (((rkN l (lg l k) z i : Nat) : Int)))), (3, .int (iI (((k : Nat) : Int)))), (0, .ref mo), (1, .int (iI (z))), (2, .int (iI (r)))] hb 80 6 1 dX9_covering_77 rfl rfl hnL (by decide) (((i : Nat) : Int) + 1) (by omega) rfl ?_
                      refine r_goto hb 35 dX9_covering_80 (by decide) ?_
                      have e : rkN l (lg l k) z (i + 1) = rkN l (lg l k) z i + 0 := by simp only [rkN]; rw [c56, c66]; rfl
                      refine r_lv [(5, .int (iI (((i + 1 : Nat) : Int)))), (4, .int (iI (((rkN l (lg l k) z (i + 1) : Nat) : Int)))), (3, .int (iI (((k : Nat) : Int)))), (0, .ref mo), (1, .int (iI (z))), (2, .int (iI (r)))] [0, 1, 2, 3, 4, 5] (by rw [e]; rfl) ?_
                      exact ih_li (l.length - (i + 1)) (by omega) (i + 1) rfl (by omega)
                    · refine r_iconst hb 70 dX9_covering_69 rfl ?_
                      refine r_goto hb 74 dX9_covering_70 (by decide) ?_
                      refine r_iaddZ hb 75 (((rkN l (lg l k) z i : Nat) : Int) + 1) dX9_covering_74 rfl (by omega) ?_
                      refine r_istore [(4, .int (iI (((rkN l (lg l k) z i : Nat) : Int) + 1))), (5, .int (iI (((i : Nat) : Int)))), (3, .int (iI (((k : Nat) : Int)))), (0, .ref mo), (1, .int (iI (z))), (2, .int (iI (r)))] hb 77 6 dX9_covering_75 rfl hnL (by decide) rfl ?_
                      refine r_iinc [(5, .int (iI (((i : Nat) : Int) + 1))), (4, .int (iI (((rkN l (lg l k) z i : Nat) : Int) + 1))), (3, .int (iI (((k : Nat) : Int)))), (0, .ref mo), (1, .int (iI (z))), (2, .int (iI (r)))] hb 80 6 1 dX9_covering_77 rfl rfl hnL (by decide) (((i : Nat) : Int) + 1) (by omega) rfl ?_
                      refine r_goto hb 35 dX9_covering_80 (by decide) ?_
                      have e : rkN l (lg l k) z (i + 1) = rkN l (lg l k) z i + 1 := by simp only [rkN]; rw [c56, c66]; rfl
                      refine r_lv [(5, .int (iI (((i + 1 : Nat) : Int)))), (4, .int (iI (((rkN l (lg l k) z (i + 1) : Nat) : Int)))), (3, .int (iI (((k : Nat) : Int)))), (0, .ref mo), (1, .int (iI (z))), (2, .int (iI (r)))] [0, 1, 2, 3, 4, 5] (by rw [e]; rfl) ?_
                      exact ih_li (l.length - (i + 1)) (by omega) (i + 1) rfl (by omega)
            have hNk := hP.2.2.2.2 k (by omega)
            refine r_lv [(5, .int (iI (((0 : Nat) : Int)))), (4, .int (iI (((rkN l (lg l k) z 0 : Nat) : Int)))), (3, .int (iI (((k : Nat) : Int)))), (0, .ref mo), (1, .int (iI (z))), (2, .int (iI (r)))] [0, 1, 2, 3, 4, 5] rfl ?_
            exact li _ 0 rfl (Nat.zero_le _)
      refine r_lv [(3, .int (iI (((0 : Nat) : Int)))), (0, .ref mo), (1, .int (iI (z))), (2, .int (iI (r)))] [0, 1, 2, 3] rfl ?_
      exact lp _ 0 rfl (Nat.zero_le _) rfl
    · refine r_sipush (-1001) hb 15 dX9_covering_12 rfl rfl ?_
      refine r_iret hS dX9_covering_15 rfl rfl (Nat.zero_le _) (Nat.zero_le _) ?_
      have e : oCov B D l nx hs s0 s1 thr z r = (iI (-1001), (B, (D, l, nx), hs, s0, s1, thr)) := by unfold oCov; rw [if_pos (Or.inr (by omega))]
      rw [e]
      exact ⟨_, rfl, rfl, rfl, hM, off.rfl' _ _ _⟩

abbrev rm_X9_attach : Room := { frames := 5, cells := 0, slots := 0, locals := 119 }
set_option maxHeartbeats 4000000 in
set_option maxRecDepth 100000 in
theorem c_X9_attach (mo : Nat) (B D : List Int32) (l : List Nt) (nx : Nat) (hs : List Pg) (s0 s1 : Option (Pg × Int)) (thr : Int) (z : Int) {w : PW} {n : Nat} (hM : moE w mo B D l nx hs s0 s1 thr) (hzb : -2147483648 ≤ z ∧ z < 2147483648) (hok : pOk (D, l, nx)) (ht : 0 ≤ thr ∧ thr ≤ 108) : Ct1 yX9_attach cX9_attach 3 (some .int) rm_X9_attach [.ref mo, .int (iI (z))] w n (fun v w1 n1 => v = .int (oAtt B D l nx hs s0 s1 thr z).1 ∧ n = n1 ∧ mo_ w1 mo (oAtt B D l nx hs s0 s1 thr z).2 ∧ off w w1 mo (mo + 12)) := by
  obtain ⟨rg, g, sp, pa, kp, ik, bg, ln, od, sco, leo, smo, mc, vc, sc, pc, kc, ic, bc, lc, oc, xc, ec, uc, hV, h3, hH, h6, h8, hB, hS0, hS1⟩ := id hM
  have hD : vdp g D := hV.1
  have hP : vnp g l nx := hV.2
  have hDl := hD.2.2
  have hPl := hP.2.2.1
  have hnx := hP.2.2.2.1
  have hBl := hB.1
  have hHl := hH.1
  refine Ctr.of rfl (Nat.le_of_ble_eq_true rfl) fun S hS => ?_
  have hb : S.1.1 = cX9_attach := by rw [hS]; rfl
  have ho : S.1.2.1 = RX9 := by rw [hS]; rfl
  have hnL : S.1.2.2.1 = 3 := by rw [hS]; rfl
  have hR0 : S.2.1 = rm_X9_attach := by rw [hS]; rfl
  show Wp S 0 [(0, .ref mo), (1, .int (iI (z)))] [] w n 0 0
  refine r_aload_n hb 1 dX9_attach_0 rfl 0 rfl ?_
  refine r_iload_n hb 2 dX9_attach_1 rfl 1 rfl ?_
  refine r_callVR (st := []) hb ho 5 dX9_attach_2 rfl ck_X9_92 (c_X9_find mo rg g l nx (z) mc vc hP (by omega)) rfl rfl (mc) rfl rfl (by rw [hR0]; exact ⟨Nat.le_of_ble_eq_true rfl, Nat.le_of_ble_eq_true rfl⟩) (Nat.le_of_ble_eq_true rfl) ⟨rfl, rfl⟩ (by rw [hR0]; exact Nat.zero_le _) (by rw [hR0]; exact Nat.zero_le _) ?_
  by_cases hf : ixN l z < l.length
  · have hle := ixN_le l z
    refine r_topz ((ixN l z : Nat) : Int) (by unfold ixZ; rw [if_pos hf]) ?_
    refine r_istore_n [(2, .int (iI (((ixN l z : Nat) : Int)))), (0, .ref mo), (1, .int (iI (z)))] hb 6 3 dX9_attach_5 rfl rfl hnL (by decide) rfl ?_
    refine r_iload_n hb 7 dX9_attach_6 rfl 0 rfl ?_
    refine r_if_ge hb 10 14 dX9_attach_7 rfl (by decide) (by omega) (fun c7 => ?_) (fun c7 => ?_)
    · have hN : vnt g (123 + 36 * ixN l z) (lg l (ixN l z)) := hP.2.2.2.2 _ hf
      obtain ⟨n0, n1, n2, n3, n4, n5, n6, n7, n8, n9, n10, n11, n12, n13⟩ := id (hN)
      refine r_aload_n hb 15 dX9_attach_14 rfl 1 rfl ?_
      refine r_get hb ho 18 dX9_attach_15 rfl lk_X9_7 pf_X9_0 mc rfl ?_
      refine r_iload_n hb 19 dX9_attach_18 rfl 0 rfl ?_
      refine r_iconst hb 20 dX9_attach_19 rfl ?_
      refine r_callSR (st := [.ref (mo + 1)]) hb ho 23 dX9_attach_20 rfl ck_X9_48 (c_X9_at (((ixN l z : Nat) : Int)) 1 (36 * ((ixN l z : Nat) : Int) + 124) (by omega)) rfl rfl (by rw [hR0]; exact ⟨Nat.le_of_ble_eq_true rfl, Nat.le_of_ble_eq_true rfl⟩) (Nat.le_of_ble_eq_true rfl) ⟨rfl, rfl⟩ (by rw [hR0]; exact Nat.zero_le _) (by rw [hR0]; exact Nat.zero_le _) ?_
      refine r_iald hb 24 dX9_attach_23 rfl vc (123 + 36 * (ixN l z) + 1) (by omega) (⟨by omega, by omega⟩) ?_
      refine r_topv (.int (bI (nK (lg l (ixN l z))))) (congrArg Value.int (n1)) ?_
      refine r_iconst hb 25 dX9_attach_24 rfl ?_
      refine r_icmpB_ne hb 28 32 dX9_attach_25 rfl (by decide) (fun c25 => ?_) (fun c25 => ?_)
      · refine r_aload_n hb 33 dX9_attach_32 rfl 1 rfl ?_
        refine r_iload_n hb 34 dX9_attach_33 rfl 0 rfl ?_
        have hx : nOk (lg l (ixN l z)) := (hok.2.2.2.1 (ixN l z) hf).1
        refine r_callV1 (st := []) hb ho 37 dX9_attach_34 rfl ck_X9_134 (c_X9_findBest mo rg g ln D (ixN l z) (lg l (ixN l z)) mc vc lc hD hN (by omega) hx) rfl rfl (mc) rfl rfl (by rw [hR0]; exact ⟨Nat.le_of_ble_eq_true rfl, Nat.le_of_ble_eq_true rfl⟩) (Nat.le_of_ble_eq_true rfl) ⟨rfl, rfl⟩ (by rw [hR0]; exact Nat.zero_le _) (by rw [hR0]; exact Nat.zero_le _) (fun vw_34 w_34 nw_34 qw_34 => ?_)
        obtain ⟨rfl, rfl, ⟨rg4, mc, hF4, hB4⟩, ⟨ln4, lc⟩, ow_34⟩ := qw_34
        have h3 := (hF4 3 (by omega)).trans h3
        have h6 := (hF4 6 (by omega)).trans h6
        have h8 := (hF4 8 (by omega)).trans h8
        have vc : w_34 (mo + 1) = some (eI 483 g) := (ow_34 _ (by omega) (by omega)).trans vc
        have sc : w_34 (mo + 2) = some (eI 483 sp) := (ow_34 _ (by omega) (by omega)).trans sc
        have pc : w_34 (mo + 3) = some (eI 2898 pa) := (ow_34 _ (by omega) (by omega)).trans pc
        have kc : w_34 (mo + 4) = some (eI 968 kp) := (ow_34 _ (by omega) (by omega)).trans kc
        have ic : w_34 (mo + 5) = some (eZ 2 ik) := (ow_34 _ (by omega) (by omega)).trans ic
        have bc : w_34 (mo + 6) = some (eI 40 bg) := (ow_34 _ (by omega) (by omega)).trans bc
        have oc : w_34 (mo + 8) = some (eI 10 (fun ii => iI ((od ii : Nat) : Int))) := (ow_34 _ (by omega) (by omega)).trans oc
        have xc : w_34 (mo + 9) = some (eI 1210 (fun ii => iI (sco ii))) := (ow_34 _ (by omega) (by omega)).trans xc
        have ec : w_34 (mo + 10) = some (eI 1210 (fun ii => iI (leo ii))) := (ow_34 _ (by omega) (by omega)).trans ec
        have uc : w_34 (mo + 11) = some (eI 1331 (fun ii => iI (smo ii))) := (ow_34 _ (by omega) (by omega)).trans uc
        refine r_ifb_eq hb 40 51 dX9_attach_37 rfl (by decide) (fun c37 => ?_) (fun c37 => ?_)
        · have hno : (fB (lg l (ixN l z)) D) = none := by cases h : (fB (lg l (ixN l z)) D) with
            | none => rfl
            | some p => rw [h] at c37; simp at c37
          have hg0 : gB0 (fB (lg l (ixN l z)) D) = -1005 := by rw [hno]; rfl
          refine r_sipush (-1005) hb 54 dX9_attach_51 rfl rfl ?_
          refine r_iret hS dX9_attach_54 rfl rfl (Nat.zero_le _) (Nat.zero_le _) ?_
          have e : oAtt B D l nx hs s0 s1 thr z = (iI (-1005), (B, (D, l, nx), hs, s0, s1, thr)) := by unfold oAtt; rw [if_neg (by omega), if_neg (by rw [c25]; decide), if_pos (by omega)]
          rw [e]
          exact ⟨_, rfl, rfl, rfl, ⟨rg4, g, sp, pa, kp, ik, bg, ln4, od, sco, leo, smo, mc, vc, sc, pc, kc, ic, bc, lc, oc, xc, ec, uc, hV, h3, hH, h6, h8, hB, hS0, hS1⟩, (ow_34.cov (by omega) (by omega) (by omega) (by omega))⟩
        · obtain ⟨r, hr⟩ := Option.isSome_iff_exists.mp c37
          obtain ⟨b0, b1, b2⟩ := hB4 r hr
          have hfb := fBt_bd hx D D.length (by omega) r hr
          have hg0 : gB0 (fB (lg l (ixN l z)) D) = r.1 := by rw [hr]; rfl
          refine r_aload_n hb 41 dX9_attach_40 rfl 1 rfl ?_
          refine r_get hb ho 44 dX9_attach_41 rfl lk_X9_125 pf_X9_12 mc rfl ?_
          refine r_aload_n hb 45 dX9_attach_44 rfl 1 rfl ?_
          refine r_get hb ho 48 dX9_attach_45 rfl lk_X9_26 pf_X9_6 mc rfl ?_
          refine r_icmp_ge hb 51 55 dX9_attach_48 rfl (by decide) (by omega) (by omega) (fun c48 => ?_) (fun c48 => ?_)
          · refine r_aload_n hb 56 dX9_attach_55 rfl 1 rfl ?_
            refine r_callV0 (st := []) hb ho 59 dX9_attach_56 rfl ck_X9_66 (c_X9_begins mo rg4 g sp mc vc sc) rfl rfl (mc) rfl rfl (by rw [hR0]; exact ⟨Nat.le_of_ble_eq_true rfl, Nat.le_of_ble_eq_true rfl⟩) (Nat.le_of_ble_eq_true rfl) ⟨rfl, rfl⟩ (by rw [hR0]; exact Nat.zero_le _) (by rw [hR0]; exact Nat.zero_le _) (fun w_56 nw_56 qw_56 => ?_)
            obtain ⟨rfl, ⟨sp1, sc, spi⟩, ow_56⟩ := qw_56
            have hsp : vpo sp1 0 (D, l, nx) := vpg_o (hV.congr (fun i hi => spi i hi))
            have mc : w_56 mo = some (eO 9 [.ref (mo + 1), .ref (mo + 2), .ref (mo + 3), .int (iI ((rg4 3))), .ref (mo + 4), .ref (mo + 5), .int (iI ((rg4 6))), .ref (mo + 6), .int (iI ((rg4 8))), .ref (mo + 7), .int (iI ((rg4 10))), .int (iI ((rg4 11))), .int (iI ((rg4 12))), .int (iI ((rg4 13))), .int (iI ((rg4 14))), .ref (mo + 8), .int (iI ((rg4 16))), .ref (mo + 9), .ref (mo + 10), .ref (mo + 11)]) := (ow_56 _ (by omega)).trans mc
            have lc : w_56 (mo + 7) = some (eI 17 (fun ii => iI ((ln4 ii : Nat) : Int))) := (ow_56 _ (by omega)).trans lc
            have vc : w_56 (mo + 1) = some (eI 483 g) := (ow_56 _ (by omega)).trans vc
            have pc : w_56 (mo + 3) = some (eI 2898 pa) := (ow_56 _ (by omega)).trans pc
            have kc : w_56 (mo + 4) = some (eI 968 kp) := (ow_56 _ (by omega)).trans kc
            have ic : w_56 (mo + 5) = some (eZ 2 ik) := (ow_56 _ (by omega)).trans ic
            have bc : w_56 (mo + 6) = some (eI 40 bg) := (ow_56 _ (by omega)).trans bc
            have oc : w_56 (mo + 8) = some (eI 10 (fun ii => iI ((od ii : Nat) : Int))) := (ow_56 _ (by omega)).trans oc
            have xc : w_56 (mo + 9) = some (eI 1210 (fun ii => iI (sco ii))) := (ow_56 _ (by omega)).trans xc
            have ec : w_56 (mo + 10) = some (eI 1210 (fun ii => iI (leo ii))) := (ow_56 _ (by omega)).trans ec
            have uc : w_56 (mo + 11) = some (eI 1331 (fun ii => iI (smo ii))) := (ow_56 _ (by omega)).trans uc
            refine r_aload_n hb 60 dX9_attach_59 rfl 1 rfl ?_
            refine r_iload_n hb 61 dX9_attach_60 rfl 0 rfl ?_
            refine r_aload_n hb 62 dX9_attach_61 rfl 1 rfl ?_
            refine r_get hb ho 65 dX9_attach_62 rfl lk_X9_128 pf_X9_13 mc rfl ?_
            refine r_topv (.int (iI (((r.2.1 : Nat) : Int)))) (congrArg (fun z => Value.int (iI z)) (by omega)) ?_
            refine r_aload_n hb 66 dX9_attach_65 rfl 1 rfl ?_
            refine r_get hb ho 69 dX9_attach_66 rfl lk_X9_131 pf_X9_14 mc rfl ?_
            refine r_topv (.int (iI (((r.2.2 : Nat) : Int)))) (congrArg (fun z => Value.int (iI z)) (by omega)) ?_
            refine r_callV0 (st := []) hb ho 72 dX9_attach_69 rfl ck_X9_137 (c_X9_attaches mo rg4 g (ixN l z) (lg l (ixN l z)) r.2.1 r.2.2 mc vc hN (by omega) (by omega)) rfl rfl (mc) rfl rfl (by rw [hR0]; exact ⟨Nat.le_of_ble_eq_true rfl, Nat.le_of_ble_eq_true rfl⟩) (Nat.le_of_ble_eq_true rfl) ⟨rfl, rfl⟩ (by rw [hR0]; exact Nat.zero_le _) (by rw [hR0]; exact Nat.zero_le _) (fun w_69 nw_69 qw_69 => ?_)
            obtain ⟨rfl, ⟨g1, vc, ⟨hN1, e1⟩⟩, ow_69⟩ := qw_69
            have sc : w_69 (mo + 2) = some (eI 483 sp1) := (ow_69 _ (by omega)).trans sc
            have mc : w_69 mo = some (eO 9 [.ref (mo + 1), .ref (mo + 2), .ref (mo + 3), .int (iI ((rg4 3))), .ref (mo + 4), .ref (mo + 5), .int (iI ((rg4 6))), .ref (mo + 6), .int (iI ((rg4 8))), .ref (mo + 7), .int (iI ((rg4 10))), .int (iI ((rg4 11))), .int (iI ((rg4 12))), .int (iI ((rg4 13))), .int (iI ((rg4 14))), .ref (mo + 8), .int (iI ((rg4 16))), .ref (mo + 9), .ref (mo + 10), .ref (mo + 11)]) := (ow_69 _ (by omega)).trans mc
            have lc : w_69 (mo + 7) = some (eI 17 (fun ii => iI ((ln4 ii : Nat) : Int))) := (ow_69 _ (by omega)).trans lc
            have pc : w_69 (mo + 3) = some (eI 2898 pa) := (ow_69 _ (by omega)).trans pc
            have kc : w_69 (mo + 4) = some (eI 968 kp) := (ow_69 _ (by omega)).trans kc
            have ic : w_69 (mo + 5) = some (eZ 2 ik) := (ow_69 _ (by omega)).trans ic
            have bc : w_69 (mo + 6) = some (eI 40 bg) := (ow_69 _ (by omega)).trans bc
            have oc : w_69 (mo + 8) = some (eI 10 (fun ii => iI ((od ii : Nat) : Int))) := (ow_69 _ (by omega)).trans oc
            have xc : w_69 (mo + 9) = some (eI 1210 (fun ii => iI (sco ii))) := (ow_69 _ (by omega)).trans xc
            have ec : w_69 (mo + 10) = some (eI 1210 (fun ii => iI (leo ii))) := (ow_69 _ (by omega)).trans ec
            have uc : w_69 (mo + 11) = some (eI 1331 (fun ii => iI (smo ii))) := (ow_69 _ (by omega)).trans uc
            refine r_aload_n hb 73 dX9_attach_72 rfl 1 rfl ?_
            refine r_aload_n hb 74 dX9_attach_73 rfl 1 rfl ?_
            refine r_get hb ho 77 dX9_attach_74 rfl lk_X9_128 pf_X9_13 mc rfl ?_
            refine r_topv (.int (iI (((r.2.1 : Nat) : Int)))) (congrArg (fun z => Value.int (iI z)) (by omega)) ?_
            refine r_callV1 (st := []) hb ho 80 dX9_attach_77 rfl ck_X9_72 (c_X9_made mo rg4 sp1 pa hs (D, l, nx) (iI (((r.2.1 : Nat) : Int))) mc sc pc h3 hH hsp) rfl rfl (mc) rfl rfl (by rw [hR0]; exact ⟨Nat.le_of_ble_eq_true rfl, Nat.le_of_ble_eq_true rfl⟩) (Nat.le_of_ble_eq_true rfl) ⟨rfl, rfl⟩ (by rw [hR0]; exact Nat.zero_le _) (by rw [hR0]; exact Nat.zero_le _) (fun vw_77 w_77 nw_77 qw_77 => ?_)
            obtain ⟨rfl, rfl, ⟨rg3, pa1, mc, hF3, h3, pc, hH⟩, ow_77⟩ := qw_77
            have h6 := (hF3 6 (by decide)).trans h6
            have h8 := (hF3 8 (by decide)).trans h8
            have vc : w_77 (mo + 1) = some (eI 483 g1) := (ow_77 _ (by omega) (by omega)).trans vc
            have sc : w_77 (mo + 2) = some (eI 483 sp1) := (ow_77 _ (by omega) (by omega)).trans sc
            have lc : w_77 (mo + 7) = some (eI 17 (fun ii => iI ((ln4 ii : Nat) : Int))) := (ow_77 _ (by omega) (by omega)).trans lc
            have kc : w_77 (mo + 4) = some (eI 968 kp) := (ow_77 _ (by omega) (by omega)).trans kc
            have ic : w_77 (mo + 5) = some (eZ 2 ik) := (ow_77 _ (by omega) (by omega)).trans ic
            have bc : w_77 (mo + 6) = some (eI 40 bg) := (ow_77 _ (by omega) (by omega)).trans bc
            have oc : w_77 (mo + 8) = some (eI 10 (fun ii => iI ((od ii : Nat) : Int))) := (ow_77 _ (by omega) (by omega)).trans oc
            have xc : w_77 (mo + 9) = some (eI 1210 (fun ii => iI (sco ii))) := (ow_77 _ (by omega) (by omega)).trans xc
            have ec : w_77 (mo + 10) = some (eI 1210 (fun ii => iI (leo ii))) := (ow_77 _ (by omega) (by omega)).trans ec
            have uc : w_77 (mo + 11) = some (eI 1331 (fun ii => iI (smo ii))) := (ow_77 _ (by omega) (by omega)).trans uc
            refine r_iret hS dX9_attach_80 rfl rfl (Nat.zero_le _) (Nat.zero_le _) ?_
            have hV1 : vpg g1 (D, l.set (ixN l z) (atN r.2.1 (r.2.1 + r.2.2) (lg l (ixN l z))), nx) := ⟨hD.congr (fun q hq => e1 q (by omega)), vnp_set hP hN1 (fun q hq => e1 q hq)⟩
            have e : oAtt B D l nx hs s0 s1 thr z = (iI ((r.2.1 : Nat) : Int), stP B D l nx hs s0 s1 thr (D, l.set (ixN l z) (atN r.2.1 (r.2.1 + r.2.2) (lg l (ixN l z))), nx)) := by unfold oAtt; rw [if_neg (by omega), if_neg (by rw [c25]; decide), if_neg (by omega), hr]; rfl
            rw [e]
            exact ⟨_, rfl, rfl, rfl, ⟨rg3, g1, sp1, pa1, kp, ik, bg, ln4, od, sco, leo, smo, mc, vc, sc, pc, kc, ic, bc, lc, oc, xc, ec, uc, hV1, h3, hH, h6, h8, hB, hS0, hS1⟩, ((((ow_34.cov (by omega) (by omega) (by omega) (by omega)).trans (ow_56.mono (by omega) (by omega))).trans (ow_69.mono (by omega) (by omega))).trans (ow_77.cov (by omega) (by omega) (by omega) (by omega)))⟩
          · skip
            refine r_sipush (-1005) hb 54 dX9_attach_51 rfl rfl ?_
            refine r_iret hS dX9_attach_54 rfl rfl (Nat.zero_le _) (Nat.zero_le _) ?_
            have e : oAtt B D l nx hs s0 s1 thr z = (iI (-1005), (B, (D, l, nx), hs, s0, s1, thr)) := by unfold oAtt; rw [if_neg (by omega), if_neg (by rw [c25]; decide), if_pos (by omega)]
            rw [e]
            exact ⟨_, rfl, rfl, rfl, ⟨rg4, g, sp, pa, kp, ik, bg, ln4, od, sco, leo, smo, mc, vc, sc, pc, kc, ic, bc, lc, oc, xc, ec, uc, hV, h3, hH, h6, h8, hB, hS0, hS1⟩, (ow_34.cov (by omega) (by omega) (by omega) (by omega))⟩
      · refine r_sipush (-1003) hb 31 dX9_attach_28 rfl rfl ?_
        refine r_iret hS dX9_attach_31 rfl rfl (Nat.zero_le _) (Nat.zero_le _) ?_
        have e : oAtt B D l nx hs s0 s1 thr z = (iI (-1003), (B, (D, l, nx), hs, s0, s1, thr)) := by unfold oAtt; rw [if_neg (by omega), if_pos c25]
        rw [e]
        exact ⟨_, rfl, rfl, rfl, hM, off.rfl' _ _ _⟩
    · exfalso; omega
  · have hle := ixN_le l z
    refine r_topz (-1) (by unfold ixZ; rw [if_neg hf]) ?_
    refine r_istore_n [(2, .int (iI (-1))), (0, .ref mo), (1, .int (iI (z)))] hb 6 3 dX9_attach_5 rfl rfl hnL (by decide) rfl ?_
    refine r_iload_n hb 7 dX9_attach_6 rfl 0 rfl ?_
    refine r_if_ge hb 10 14 dX9_attach_7 rfl (by decide) (by omega) (fun c7 => ?_) (fun c7 => ?_)
    · exfalso; omega
    · refine r_sipush (-1001) hb 13 dX9_attach_10 rfl rfl ?_
      refine r_iret hS dX9_attach_13 rfl rfl (Nat.zero_le _) (Nat.zero_le _) ?_
      have e : oAtt B D l nx hs s0 s1 thr z = (iI (-1001), (B, (D, l, nx), hs, s0, s1, thr)) := by unfold oAtt; rw [if_pos (by omega)]
      rw [e]
      exact ⟨_, rfl, rfl, rfl, hM, off.rfl' _ _ _⟩
