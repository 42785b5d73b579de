abbrev rm_X9_length : Room := { frames := 0, cells := 0, slots := 0, locals := 0 }
set_option maxHeartbeats 4000000 in
set_option maxRecDepth 100000 in
theorem c_X9_length (mo : Nat) (B D : List Int32) (l : List Nt) (nx : Nat) (hs : List Pg) (s0 s1 : Option (Pg × Int)) (thr : Int)  {w : PW} {n : Nat} (hM : moE w mo B D l nx hs s0 s1 thr) : Ct1 yX9_length cX9_length 1 (some .int) rm_X9_length [.ref mo] w n (fun v w1 n1 => v = .int (oLen B D l nx hs s0 s1 thr ).1 ∧ n = n1 ∧ mo_ w1 mo (oLen B D l nx hs s0 s1 thr ).2 ∧ off w w1 mo (mo + 12)) := by
  obtain ⟨rg, g, sp, pa, kp, ik, bg, ln, od, sco, leo, smo, mc, vc, sc, pc, kc, ic, bc, lc, oc, xc, ec, uc, hV, h3, hH, h6, h8, hB, hS0, hS1⟩ := id hM
  have hD : vdp g D := hV.1
  have hP : vnp g l nx := hV.2
  have hDl := hD.2.2
  have hPl := hP.2.2.1
  have hnx := hP.2.2.2.1
  have hBl := hB.1
  have hHl := hH.1
  refine Ctr.of rfl (Nat.le_of_ble_eq_true rfl) fun S hS => ?_
  have hb : S.1.1 = cX9_length := by rw [hS]; rfl
  have ho : S.1.2.1 = RX9 := by rw [hS]; rfl
  have hnL : S.1.2.2.1 = 1 := by rw [hS]; rfl
  have hR0 : S.2.1 = rm_X9_length := by rw [hS]; rfl
  show Wp S 0 [(0, .ref mo)] [] w n 0 0
  refine r_aload_n hb 1 dX9_length_0 rfl 0 rfl ?_
  refine r_get hb ho 4 dX9_length_1 rfl lk_X9_7 pf_X9_0 mc rfl ?_
  refine r_iconst hb 5 dX9_length_4 rfl ?_
  refine r_iald hb 6 dX9_length_5 rfl vc 0 (by omega) (⟨by omega, by omega⟩) ?_
  refine r_topz ((((D).length : Nat) : Int)) (hD.1) ?_
  refine r_iret hS dX9_length_6 rfl rfl (Nat.zero_le _) (Nat.zero_le _) ?_
  have e : oLen B D l nx hs s0 s1 thr  = (iI ((D.length : Nat) : Int), (B, (D, l, nx), hs, s0, s1, thr)) := by unfold oLen; rfl
  rw [e]
  exact ⟨_, rfl, rfl, rfl, hM, off.rfl' _ _ _⟩

abbrev rm_X9_comments : Room := { frames := 0, cells := 0, slots := 0, locals := 0 }
set_option maxHeartbeats 4000000 in
set_option maxRecDepth 100000 in
theorem c_X9_comments (mo : Nat) (B D : List Int32) (l : List Nt) (nx : Nat) (hs : List Pg) (s0 s1 : Option (Pg × Int)) (thr : Int)  {w : PW} {n : Nat} (hM : moE w mo B D l nx hs s0 s1 thr) : Ct1 yX9_comments cX9_comments 1 (some .int) rm_X9_comments [.ref mo] w n (fun v w1 n1 => v = .int (oCnt B D l nx hs s0 s1 thr ).1 ∧ n = n1 ∧ mo_ w1 mo (oCnt B D l nx hs s0 s1 thr ).2 ∧ off w w1 mo (mo + 12)) := by
  obtain ⟨rg, g, sp, pa, kp, ik, bg, ln, od, sco, leo, smo, mc, vc, sc, pc, kc, ic, bc, lc, oc, xc, ec, uc, hV, h3, hH, h6, h8, hB, hS0, hS1⟩ := id hM
  have hD : vdp g D := hV.1
  have hP : vnp g l nx := hV.2
  have hDl := hD.2.2
  have hPl := hP.2.2.1
  have hnx := hP.2.2.2.1
  have hBl := hB.1
  have hHl := hH.1
  refine Ctr.of rfl (Nat.le_of_ble_eq_true rfl) fun S hS => ?_
  have hb : S.1.1 = cX9_comments := by rw [hS]; rfl
  have ho : S.1.2.1 = RX9 := by rw [hS]; rfl
  have hnL : S.1.2.2.1 = 1 := by rw [hS]; rfl
  have hR0 : S.2.1 = rm_X9_comments := by rw [hS]; rfl
  show Wp S 0 [(0, .ref mo)] [] w n 0 0
  refine r_aload_n hb 1 dX9_comments_0 rfl 0 rfl ?_
  refine r_get hb ho 4 dX9_comments_1 rfl lk_X9_7 pf_X9_0 mc rfl ?_
  refine r_bipush 122 hb 6 dX9_comments_4 rfl rfl ?_
  refine r_iald hb 7 dX9_comments_6 rfl vc 122 (by omega) (⟨by omega, by omega⟩) ?_
  refine r_topz ((((l).length : Nat) : Int)) (hP.2.1) ?_
  refine r_iret hS dX9_comments_7 rfl rfl (Nat.zero_le _) (Nat.zero_le _) ?_
  have e : oCnt B D l nx hs s0 s1 thr  = (iI ((l.length : Nat) : Int), (B, (D, l, nx), hs, s0, s1, thr)) := by unfold oCnt; rfl
  rw [e]
  exact ⟨_, rfl, rfl, rfl, hM, off.rfl' _ _ _⟩

abbrev rm_X9_letter : Room := { frames := 2, cells := 0, slots := 0, locals := 43 }
set_option maxHeartbeats 4000000 in
set_option maxRecDepth 100000 in
theorem c_X9_letter (mo : Nat) (B D : List Int32) (l : List Nt) (nx : Nat) (hs : List Pg) (s0 s1 : Option (Pg × Int)) (thr : Int) (z : Int) {w : PW} {n : Nat} (hM : moE w mo B D l nx hs s0 s1 thr) (hzb : -2147483648 ≤ z ∧ z < 2147483648) : Ct1 yX9_letter cX9_letter 2 (some .int) rm_X9_letter [.ref mo, .int (iI (z))] w n (fun v w1 n1 => v = .int (oLet B D l nx hs s0 s1 thr z).1 ∧ n = n1 ∧ mo_ w1 mo (oLet B D l nx hs s0 s1 thr z).2 ∧ off w w1 mo (mo + 12)) := by
  obtain ⟨rg, g, sp, pa, kp, ik, bg, ln, od, sco, leo, smo, mc, vc, sc, pc, kc, ic, bc, lc, oc, xc, ec, uc, hV, h3, hH, h6, h8, hB, hS0, hS1⟩ := id hM
  have hD : vdp g D := hV.1
  have hP : vnp g l nx := hV.2
  have hDl := hD.2.2
  have hPl := hP.2.2.1
  have hnx := hP.2.2.2.1
  have hBl := hB.1
  have hHl := hH.1
  refine Ctr.of rfl (Nat.le_of_ble_eq_true rfl) fun S hS => ?_
  have hb : S.1.1 = cX9_letter := by rw [hS]; rfl
  have ho : S.1.2.1 = RX9 := by rw [hS]; rfl
  have hnL : S.1.2.2.1 = 2 := by rw [hS]; rfl
  have hR0 : S.2.1 = rm_X9_letter := by rw [hS]; rfl
  show Wp S 0 [(0, .ref mo), (1, .int (iI (z)))] [] w n 0 0
  refine r_aload_n hb 1 dX9_letter_0 rfl 0 rfl ?_
  refine r_iload_n hb 2 dX9_letter_1 rfl 1 rfl ?_
  refine r_callVR (st := []) hb ho 5 dX9_letter_2 rfl ck_X9_162 (c_X9_isLetter mo rg g D (z) mc vc hD (by omega)) rfl rfl (mc) rfl rfl (by rw [hR0]; exact ⟨Nat.le_of_ble_eq_true rfl, Nat.le_of_ble_eq_true rfl⟩) (Nat.le_of_ble_eq_true rfl) ⟨rfl, rfl⟩ (by rw [hR0]; exact Nat.zero_le _) (by rw [hR0]; exact Nat.zero_le _) ?_
  refine r_ifb_eq hb 8 19 dX9_letter_5 rfl (by decide) (fun c5 => ?_) (fun c5 => ?_)
  · refine r_sipush (-1001) hb 22 dX9_letter_19 rfl rfl ?_
    refine r_iret hS dX9_letter_22 rfl rfl (Nat.zero_le _) (Nat.zero_le _) ?_
    have e : oLet B D l nx hs s0 s1 thr z = (iI (-1001), (B, (D, l, nx), hs, s0, s1, thr)) := by unfold oLet; rw [if_pos c5]
    rw [e]
    exact ⟨_, rfl, rfl, rfl, hM, off.rfl' _ _ _⟩
  · have hpp := of_decide_eq_true c5
    obtain ⟨p, rfl⟩ : ∃ p : Nat, z = (p : Int) := ⟨z.toNat, by omega⟩
    refine r_aload_n hb 9 dX9_letter_8 rfl 0 rfl ?_
    refine r_get hb ho 12 dX9_letter_9 rfl lk_X9_7 pf_X9_0 mc rfl ?_
    refine r_iconst hb 13 dX9_letter_12 rfl ?_
    refine r_iload_n hb 14 dX9_letter_13 rfl 1 rfl ?_
    refine r_iaddZ hb 15 (((p : Nat) : Int) + 1) dX9_letter_14 rfl (by omega) ?_
    refine r_iald hb 16 dX9_letter_15 rfl vc (1 + p) (by omega) (⟨by omega, by omega⟩) ?_
    refine r_topv (.int ((D).getD p 0)) (congrArg Value.int (hD.2.1 p (by omega))) ?_
    refine r_goto hb 22 dX9_letter_16 (by decide) ?_
    refine r_iret hS dX9_letter_22 rfl rfl (Nat.zero_le _) (Nat.zero_le _) ?_
    have e : oLet B D l nx hs s0 s1 thr ((p : Nat) : Int) = (D.getD p 0, (B, (D, l, nx), hs, s0, s1, thr)) := by unfold oLet; rw [if_neg (by rw [c5]; decide)]; rfl
    rw [e]
    exact ⟨_, rfl, rfl, rfl, hM, off.rfl' _ _ _⟩

abbrev rm_X9_commentAt : Room := { frames := 1, cells := 0, slots := 0, locals := 22 }
set_option maxHeartbeats 4000000 in
set_option maxRecDepth 100000 in
theorem c_X9_commentAt (mo : Nat) (B D : List Int32) (l : List Nt) (nx : Nat) (hs : List Pg) (s0 s1 : Option (Pg × Int)) (thr : Int) (z : Int) {w : PW} {n : Nat} (hM : moE w mo B D l nx hs s0 s1 thr) (hzb : -2147483648 ≤ z ∧ z < 2147483648) : Ct1 yX9_commentAt cX9_commentAt 2 (some .int) rm_X9_commentAt [.ref mo, .int (iI (z))] w n (fun v w1 n1 => v = .int (oAt B D l nx hs s0 s1 thr z).1 ∧ n = n1 ∧ mo_ w1 mo (oAt B D l nx hs s0 s1 thr z).2 ∧ off w w1 mo (mo + 12)) := by
  obtain ⟨rg, g, sp, pa, kp, ik, bg, ln, od, sco, leo, smo, mc, vc, sc, pc, kc, ic, bc, lc, oc, xc, ec, uc, hV, h3, hH, h6, h8, hB, hS0, hS1⟩ := id hM
  have hD : vdp g D := hV.1
  have hP : vnp g l nx := hV.2
  have hDl := hD.2.2
  have hPl := hP.2.2.1
  have hnx := hP.2.2.2.1
  have hBl := hB.1
  have hHl := hH.1
  refine Ctr.of rfl (Nat.le_of_ble_eq_true rfl) fun S hS => ?_
  have hb : S.1.1 = cX9_commentAt := by rw [hS]; rfl
  have ho : S.1.2.1 = RX9 := by rw [hS]; rfl
  have hnL : S.1.2.2.1 = 2 := by rw [hS]; rfl
  have hR0 : S.2.1 = rm_X9_commentAt := by rw [hS]; rfl
  show Wp S 0 [(0, .ref mo), (1, .int (iI (z)))] [] w n 0 0
  refine r_iload_n hb 1 dX9_commentAt_0 rfl 1 rfl ?_
  refine r_iconst hb 2 dX9_commentAt_1 rfl ?_
  refine r_aload_n hb 3 dX9_commentAt_2 rfl 0 rfl ?_
  refine r_get hb ho 6 dX9_commentAt_3 rfl lk_X9_7 pf_X9_0 mc rfl ?_
  refine r_bipush 122 hb 8 dX9_commentAt_6 rfl rfl ?_
  refine r_iald hb 9 dX9_commentAt_8 rfl vc 122 (by omega) (⟨by omega, by omega⟩) ?_
  refine r_topz ((((l).length : Nat) : Int)) (hP.2.1) ?_
  refine r_iconst hb 10 dX9_commentAt_9 rfl ?_
  refine r_isubZ hb 11 ((((l).length : Nat) : Int) - 1) dX9_commentAt_10 rfl (by omega) ?_
  refine r_callSR (st := []) hb ho 14 dX9_commentAt_11 rfl ck_X9_52 (c_X9_in (z) 0 ((((l).length : Nat) : Int) - 1) (by omega)) rfl rfl (by rw [hR0]; exact ⟨Nat.le_of_ble_eq_true rfl, Nat.le_of_ble_eq_true rfl⟩) (Nat.le_of_ble_eq_true rfl) ⟨rfl, rfl⟩ (by rw [hR0]; exact Nat.zero_le _) (by rw [hR0]; exact Nat.zero_le _) ?_
  refine r_ifb_eq hb 17 30 dX9_commentAt_14 rfl (by decide) (fun c14 => ?_) (fun c14 => ?_)
  · have c14 := of_decide_eq_false c14
    refine r_sipush (-1001) hb 33 dX9_commentAt_30 rfl rfl ?_
    refine r_iret hS dX9_commentAt_33 rfl rfl (Nat.zero_le _) (Nat.zero_le _) ?_
    have e : oAt B D l nx hs s0 s1 thr z = (iI (-1001), (B, (D, l, nx), hs, s0, s1, thr)) := by unfold oAt; rw [if_pos (by omega)]
    rw [e]
    exact ⟨_, rfl, rfl, rfl, hM, off.rfl' _ _ _⟩
  · have c14 := of_decide_eq_true c14
    skip
    obtain ⟨p, rfl⟩ : ∃ p : Nat, z = (p : Int) := ⟨z.toNat, by omega⟩
    refine r_aload_n hb 18 dX9_commentAt_17 rfl 0 rfl ?_
    refine r_get hb ho 21 dX9_commentAt_18 rfl lk_X9_7 pf_X9_0 mc rfl ?_
    have hN := hP.2.2.2.2 p (by omega)
    obtain ⟨n0, n1, n2, n3, n4, n5, n6, n7, n8, n9, n10, n11, n12, n13⟩ := id (hN)
    refine r_iload_n hb 22 dX9_commentAt_21 rfl 1 rfl ?_
    refine r_iconst hb 23 dX9_commentAt_22 rfl ?_
    refine r_callSR (st := [.ref (mo + 1)]) hb ho 26 dX9_commentAt_23 rfl ck_X9_48 (c_X9_at (((p : Nat) : Int)) 0 (36 * ((p : Nat) : Int) + 123) (by omega)) rfl rfl (by rw [hR0]; exact ⟨Nat.le_of_ble_eq_true rfl, Nat.le_of_ble_eq_true rfl⟩) (Nat.le_of_ble_eq_true rfl) ⟨rfl, rfl⟩ (by rw [hR0]; exact Nat.zero_le _) (by rw [hR0]; exact Nat.zero_le _) ?_
    refine r_iald hb 27 dX9_commentAt_26 rfl vc (123 + 36 * p) (by omega) (⟨by omega, by omega⟩) ?_
    refine r_topz (((nNum (lg l p) : Nat) : Int)) (n0) ?_
    refine r_goto hb 33 dX9_commentAt_27 (by decide) ?_
    refine r_iret hS dX9_commentAt_33 rfl rfl (Nat.zero_le _) (Nat.zero_le _) ?_
    have e : oAt B D l nx hs s0 s1 thr ((p : Nat) : Int) = (iI ((nNum (lg l p) : Nat) : Int), (B, (D, l, nx), hs, s0, s1, thr)) := by unfold oAt; rw [if_neg (by omega)]; rfl
    rw [e]
    exact ⟨_, rfl, rfl, rfl, hM, off.rfl' _ _ _⟩

def ofR (l : List Nt) (z : Int) (t : Nat) : Int32 := if l.length ≤ ixN l z then iI (-1001) else if t = 1 then bI (nK (lg l (ixN l z))) else if t = 2 then iI ((nB (lg l (ixN l z)) : Nat) : Int) else if t = 3 then iI ((nE (lg l (ixN l z)) : Nat) : Int) else nW (lg l (ixN l z))
abbrev rm_X9_of : Room := { frames := 2, cells := 0, slots := 0, locals := 43 }
set_option maxHeartbeats 4000000 in
set_option maxRecDepth 100000 in
theorem c_X9_of (mo : Nat) (rg : Nat → Int) (g : Nat → Int32) (l : List Nt) (nx : Nat) (z : Int) (t : Nat) {w : PW} {n : Nat} (mc : w mo = some (mE mo rg)) (vc : w (mo + 1) = some (eI 483 g)) (hP : vnp g l nx) (hz : -2147483648 ≤ z ∧ z < 2147483648) (h1 : 1 ≤ t ∧ t ≤ 4) : CtR yX9_of cX9_of 4 (some .int) rm_X9_of [.ref mo, .int (iI (z)), .int (iI (((t : Nat) : Int)))] w n (.int (ofR l z t)) := by
  have hPl := hP.2.2.1
  refine Ctr.of rfl (Nat.le_of_ble_eq_true rfl) fun S hS => ?_
  have hb : S.1.1 = cX9_of := by rw [hS]; rfl
  have ho : S.1.2.1 = RX9 := by rw [hS]; rfl
  have hnL : S.1.2.2.1 = 4 := by rw [hS]; rfl
  have hR0 : S.2.1 = rm_X9_of := by rw [hS]; rfl
  show Wp S 0 [(0, .ref mo), (1, .int (iI (z))), (2, .int (iI (((t : Nat) : Int))))] [] w n 0 0
  refine r_aload_n hb 1 dX9_of_0 rfl 0 rfl ?_
  refine r_iload_n hb 2 dX9_of_1 rfl 1 rfl ?_
  refine r_callVR (st := []) hb ho 5 dX9_of_2 rfl ck_X9_92 (c_X9_find mo rg g l nx (z) mc vc hP (by omega)) rfl rfl (mc) rfl rfl (by rw [hR0]; exact ⟨Nat.le_of_ble_eq_true rfl, Nat.le_of_ble_eq_true rfl⟩) (Nat.le_of_ble_eq_true rfl) ⟨rfl, rfl⟩ (by rw [hR0]; exact Nat.zero_le _) (by rw [hR0]; exact Nat.zero_le _) ?_
  by_cases hf : ixN l z < l.length
  · have hle := ixN_le l z
    refine r_topz ((ixN l z : Nat) : Int) (by unfold ixZ; rw [if_pos hf]) ?_
    refine r_istore_n [(3, .int (iI (((ixN l z : Nat) : Int)))), (0, .ref mo), (1, .int (iI (z))), (2, .int (iI (((t : Nat) : Int))))] hb 6 4 dX9_of_5 rfl rfl hnL (by decide) rfl ?_
    refine r_iload_n hb 7 dX9_of_6 rfl 0 rfl ?_
    refine r_if_ge hb 10 16 dX9_of_7 rfl (by decide) (by omega) (fun c7 => ?_) (fun c7 => ?_)
    · have hN : vnt g (123 + 36 * ixN l z) (lg l (ixN l z)) := hP.2.2.2.2 _ hf
      obtain ⟨n0, n1, n2, n3, n4, n5, n6, n7, n8, n9, n10, n11, n12, n13⟩ := id (hN)
      refine r_aload_n hb 17 dX9_of_16 rfl 1 rfl ?_
      refine r_get hb ho 20 dX9_of_17 rfl lk_X9_7 pf_X9_0 mc rfl ?_
      refine r_iload_n hb 21 dX9_of_20 rfl 0 rfl ?_
      refine r_iload_n hb 22 dX9_of_21 rfl 3 rfl ?_
      refine r_callSR (st := [.ref (mo + 1)]) hb ho 25 dX9_of_22 rfl ck_X9_48 (c_X9_at (((ixN l z : Nat) : Int)) (((t : Nat) : Int)) (36 * ((ixN l z : Nat) : Int) + ((t : Nat) : Int) + 123) (by omega)) rfl rfl (by rw [hR0]; exact ⟨Nat.le_of_ble_eq_true rfl, Nat.le_of_ble_eq_true rfl⟩) (Nat.le_of_ble_eq_true rfl) ⟨rfl, rfl⟩ (by rw [hR0]; exact Nat.zero_le _) (by rw [hR0]; exact Nat.zero_le _) ?_
      refine r_iald hb 26 dX9_of_25 rfl vc (123 + 36 * ixN l z + t) (by omega) (⟨by omega, by omega⟩) ?_
      refine r_iret hS dX9_of_26 rfl rfl (Nat.zero_le _) (Nat.zero_le _) ?_
      have hq : g (123 + 36 * ixN l z + t) = ofR l z t := by
        unfold ofR; rw [if_neg (by omega)]
        rcases (show t = 1 ∨ t = 2 ∨ t = 3 ∨ t = 4 by omega) with h | h | h | h
        · subst h; exact n1
        · subst h; exact n2
        · subst h; exact n3
        · subst h; exact n4
      exact ⟨_, rfl, congrArg Value.int hq, rfl, rfl⟩
    · exfalso; omega
  · have hle := ixN_le l z
    refine r_topz (-1) (by unfold ixZ; rw [if_neg hf]) ?_
    refine r_istore_n [(3, .int (iI (-1))), (0, .ref mo), (1, .int (iI (z))), (2, .int (iI (((t : Nat) : Int))))] hb 6 4 dX9_of_5 rfl rfl hnL (by decide) rfl ?_
    refine r_iload_n hb 7 dX9_of_6 rfl 0 rfl ?_
    refine r_if_ge hb 10 16 dX9_of_7 rfl (by decide) (by omega) (fun c7 => ?_) (fun c7 => ?_)
    · exfalso; omega
    · refine r_sipush (-1001) hb 13 dX9_of_10 rfl rfl ?_
      refine r_goto hb 26 dX9_of_13 (by decide) ?_
      refine r_iret hS dX9_of_26 rfl rfl (Nat.zero_le _) (Nat.zero_le _) ?_
      exact ⟨_, rfl, congrArg Value.int (by unfold ofR; rw [if_pos (by omega)]), rfl, rfl⟩

abbrev rm_X9_state : Room := { frames := 3, cells := 0, slots := 0, locals := 66 }
set_option maxHeartbeats 4000000 in
set_option maxRecDepth 100000 in
theorem c_X9_state (mo : Nat) (B D : List Int32) (l : List Nt) (nx : Nat) (hs : List Pg) (s0 s1 : Option (Pg × Int)) (thr : Int) (z : Int) {w : PW} {n : Nat} (hM : moE w mo B D l nx hs s0 s1 thr) (hzb : -2147483648 ≤ z ∧ z < 2147483648) : Ct1 yX9_state cX9_state 2 (some .int) rm_X9_state [.ref mo, .int (iI (z))] w n (fun v w1 n1 => v = .int (oSta B D l nx hs s0 s1 thr z).1 ∧ n = n1 ∧ mo_ w1 mo (oSta B D l nx hs s0 s1 thr z).2 ∧ off w w1 mo (mo + 12)) := by
  obtain ⟨rg, g, sp, pa, kp, ik, bg, ln, od, sco, leo, smo, mc, vc, sc, pc, kc, ic, bc, lc, oc, xc, ec, uc, hV, h3, hH, h6, h8, hB, hS0, hS1⟩ := id hM
  have hD : vdp g D := hV.1
  have hP : vnp g l nx := hV.2
  have hDl := hD.2.2
  have hPl := hP.2.2.1
  have hnx := hP.2.2.2.1
  have hBl := hB.1
  have hHl := hH.1
  refine Ctr.of rfl (Nat.le_of_ble_eq_true rfl) fun S hS => ?_
  have hb : S.1.1 = cX9_state := by rw [hS]; rfl
  have ho : S.1.2.1 = RX9 := by rw [hS]; rfl
  have hnL : S.1.2.2.1 = 2 := by rw [hS]; rfl
  have hR0 : S.2.1 = rm_X9_state := by rw [hS]; rfl
  show Wp S 0 [(0, .ref mo), (1, .int (iI (z)))] [] w n 0 0
  refine r_aload_n hb 1 dX9_state_0 rfl 0 rfl ?_
  refine r_iload_n hb 2 dX9_state_1 rfl 1 rfl ?_
  refine r_iconst hb 3 dX9_state_2 rfl ?_
  refine r_callVR (st := []) hb ho 6 dX9_state_3 rfl ck_X9_165 (c_X9_of mo rg g l nx z 1 mc vc hP hzb (by omega)) rfl rfl (mc) rfl rfl (by rw [hR0]; exact ⟨Nat.le_of_ble_eq_true rfl, Nat.le_of_ble_eq_true rfl⟩) (Nat.le_of_ble_eq_true rfl) ⟨rfl, rfl⟩ (by rw [hR0]; exact Nat.zero_le _) (by rw [hR0]; exact Nat.zero_le _) ?_
  refine r_iret hS dX9_state_6 rfl rfl (Nat.zero_le _) (Nat.zero_le _) ?_
  by_cases hf : ixN l z < l.length
  · have e0 : ofR l z 1 = bI (nK (lg l (ixN l z))) := by unfold ofR; rw [if_neg (by omega)]; rfl
    rw [e0]
    have e : oSta B D l nx hs s0 s1 thr z = (bI (nK (lg l (ixN l z))), (B, (D, l, nx), hs, s0, s1, thr)) := by unfold oSta; rw [if_neg (by omega)]
    rw [e]
    exact ⟨_, rfl, rfl, rfl, hM, off.rfl' _ _ _⟩
  · have e0 : ofR l z 1 = iI (-1001) := by unfold ofR; rw [if_pos (by omega)]
    rw [e0]
    have e : oSta B D l nx hs s0 s1 thr z = (iI (-1001), (B, (D, l, nx), hs, s0, s1, thr)) := by unfold oSta; rw [if_pos (by omega)]
    rw [e]
    exact ⟨_, rfl, rfl, rfl, hM, off.rfl' _ _ _⟩

abbrev rm_X9_weight : Room := { frames := 3, cells := 0, slots := 0, locals := 66 }
set_option maxHeartbeats 4000000 in
set_option maxRecDepth 100000 in
theorem c_X9_weight (mo : Nat) (B D : List Int32) (l : List Nt) (nx : Nat) (hs : List Pg) (s0 s1 : Option (Pg × Int)) (thr : Int) (z : Int) {w : PW} {n : Nat} (hM : moE w mo B D l nx hs s0 s1 thr) (hzb : -2147483648 ≤ z ∧ z < 2147483648) : Ct1 yX9_weight cX9_weight 2 (some .int) rm_X9_weight [.ref mo, .int (iI (z))] w n (fun v w1 n1 => v = .int (oWei B D l nx hs s0 s1 thr z).1 ∧ n = n1 ∧ mo_ w1 mo (oWei B D l nx hs s0 s1 thr z).2 ∧ off w w1 mo (mo + 12)) := by
  obtain ⟨rg, g, sp, pa, kp, ik, bg, ln, od, sco, leo, smo, mc, vc, sc, pc, kc, ic, bc, lc, oc, xc, ec, uc, hV, h3, hH, h6, h8, hB, hS0, hS1⟩ := id hM
  have hD : vdp g D := hV.1
  have hP : vnp g l nx := hV.2
  have hDl := hD.2.2
  have hPl := hP.2.2.1
  have hnx := hP.2.2.2.1
  have hBl := hB.1
  have hHl := hH.1
  refine Ctr.of rfl (Nat.le_of_ble_eq_true rfl) fun S hS => ?_
  have hb : S.1.1 = cX9_weight := by rw [hS]; rfl
  have ho : S.1.2.1 = RX9 := by rw [hS]; rfl
  have hnL : S.1.2.2.1 = 2 := by rw [hS]; rfl
  have hR0 : S.2.1 = rm_X9_weight := by rw [hS]; rfl
  show Wp S 0 [(0, .ref mo), (1, .int (iI (z)))] [] w n 0 0
  refine r_aload_n hb 1 dX9_weight_0 rfl 0 rfl ?_
  refine r_iload_n hb 2 dX9_weight_1 rfl 1 rfl ?_
  refine r_iconst hb 3 dX9_weight_2 rfl ?_
  refine r_callVR (st := []) hb ho 6 dX9_weight_3 rfl ck_X9_165 (c_X9_of mo rg g l nx z 4 mc vc hP hzb (by omega)) rfl rfl (mc) rfl rfl (by rw [hR0]; exact ⟨Nat.le_of_ble_eq_true rfl, Nat.le_of_ble_eq_true rfl⟩) (Nat.le_of_ble_eq_true rfl) ⟨rfl, rfl⟩ (by rw [hR0]; exact Nat.zero_le _) (by rw [hR0]; exact Nat.zero_le _) ?_
  refine r_iret hS dX9_weight_6 rfl rfl (Nat.zero_le _) (Nat.zero_le _) ?_
  by_cases hf : ixN l z < l.length
  · have e0 : ofR l z 4 = nW (lg l (ixN l z)) := by unfold ofR; rw [if_neg (by omega)]; rfl
    rw [e0]
    have e : oWei B D l nx hs s0 s1 thr z = (nW (lg l (ixN l z)), (B, (D, l, nx), hs, s0, s1, thr)) := by unfold oWei; rw [if_neg (by omega)]
    rw [e]
    exact ⟨_, rfl, rfl, rfl, hM, off.rfl' _ _ _⟩
  · have e0 : ofR l z 4 = iI (-1001) := by unfold ofR; rw [if_pos (by omega)]
    rw [e0]
    have e : oWei B D l nx hs s0 s1 thr z = (iI (-1001), (B, (D, l, nx), hs, s0, s1, thr)) := by unfold oWei; rw [if_pos (by omega)]
    rw [e]
    exact ⟨_, rfl, rfl, rfl, hM, off.rfl' _ _ _⟩

abbrev rm_X9_range : Room := { frames := 3, cells := 0, slots := 0, locals := 66 }
set_option maxHeartbeats 4000000 in
set_option maxRecDepth 100000 in
theorem c_X9_range (mo : Nat) (B D : List Int32) (l : List Nt) (nx : Nat) (hs : List Pg) (s0 s1 : Option (Pg × Int)) (thr : Int) (z : Int) (b : Bool) {w : PW} {n : Nat} (hM : moE w mo B D l nx hs s0 s1 thr) (hzb : -2147483648 ≤ z ∧ z < 2147483648) : Ct1 yX9_range cX9_range 3 (some .int) rm_X9_range [.ref mo, .int (iI (z)), .int (bI (b))] w n (fun v w1 n1 => v = .int (oRan B D l nx hs s0 s1 thr z b).1 ∧ n = n1 ∧ mo_ w1 mo (oRan B D l nx hs s0 s1 thr z b).2 ∧ off w w1 mo (mo + 12)) := by
  obtain ⟨rg, g, sp, pa, kp, ik, bg, ln, od, sco, leo, smo, mc, vc, sc, pc, kc, ic, bc, lc, oc, xc, ec, uc, hV, h3, hH, h6, h8, hB, hS0, hS1⟩ := id hM
  have hD : vdp g D := hV.1
  have hP : vnp g l nx := hV.2
  have hDl := hD.2.2
  have hPl := hP.2.2.1
  have hnx := hP.2.2.2.1
  have hBl := hB.1
  have hHl := hH.1
  refine Ctr.of rfl (Nat.le_of_ble_eq_true rfl) fun S hS => ?_
  have hb : S.1.1 = cX9_range := by rw [hS]; rfl
  have ho : S.1.2.1 = RX9 := by rw [hS]; rfl
  have hnL : S.1.2.2.1 = 3 := by rw [hS]; rfl
  have hR0 : S.2.1 = rm_X9_range := by rw [hS]; rfl
  show Wp S 0 [(0, .ref mo), (1, .int (iI (z))), (2, .int (bI (b)))] [] w n 0 0
  refine r_aload_n hb 1 dX9_range_0 rfl 0 rfl ?_
  refine r_iload_n hb 2 dX9_range_1 rfl 1 rfl ?_
  refine r_iload_n hb 3 dX9_range_2 rfl 2 rfl ?_
  refine r_ifb_eq hb 6 10 dX9_range_3 rfl (by decide) (fun c3 => ?_) (fun c3 => ?_)
  · refine r_iconst hb 11 dX9_range_10 rfl ?_
    refine r_callVR (st := []) hb ho 14 dX9_range_11 rfl ck_X9_165 (c_X9_of mo rg g l nx z 2 mc vc hP hzb (by omega)) rfl rfl (mc) rfl rfl (by rw [hR0]; exact ⟨Nat.le_of_ble_eq_true rfl, Nat.le_of_ble_eq_true rfl⟩) (Nat.le_of_ble_eq_true rfl) ⟨rfl, rfl⟩ (by rw [hR0]; exact Nat.zero_le _) (by rw [hR0]; exact Nat.zero_le _) ?_
    refine r_iret hS dX9_range_14 rfl rfl (Nat.zero_le _) (Nat.zero_le _) ?_
    by_cases hf : ixN l z < l.length
    · have e0 : ofR l z 2 = iI ((nB (lg l (ixN l z)) : Nat) : Int) := by unfold ofR; rw [if_neg (by omega)]; rfl
      rw [e0]
      have e : oRan B D l nx hs s0 s1 thr z b = (iI ((nB (lg l (ixN l z)) : Nat) : Int), (B, (D, l, nx), hs, s0, s1, thr)) := by unfold oRan; rw [if_neg (by omega), if_neg (by rw [c3]; decide)]
      rw [e]
      exact ⟨_, rfl, rfl, rfl, hM, off.rfl' _ _ _⟩
    · have e0 : ofR l z 2 = iI (-1001) := by unfold ofR; rw [if_pos (by omega)]
      rw [e0]
      have e : oRan B D l nx hs s0 s1 thr z b = (iI (-1001), (B, (D, l, nx), hs, s0, s1, thr)) := by unfold oRan; rw [if_pos (by omega)]
      rw [e]
      exact ⟨_, rfl, rfl, rfl, hM, off.rfl' _ _ _⟩
  · refine r_iconst hb 7 dX9_range_6 rfl ?_
    refine r_goto hb 11 dX9_range_7 (by decide) ?_
    refine r_callVR (st := []) hb ho 14 dX9_range_11 rfl ck_X9_165 (c_X9_of mo rg g l nx z 3 mc vc hP hzb (by omega)) rfl rfl (mc) rfl rfl (by rw [hR0]; exact ⟨Nat.le_of_ble_eq_true rfl, Nat.le_of_ble_eq_true rfl⟩) (Nat.le_of_ble_eq_true rfl) ⟨rfl, rfl⟩ (by rw [hR0]; exact Nat.zero_le _) (by rw [hR0]; exact Nat.zero_le _) ?_
    refine r_iret hS dX9_range_14 rfl rfl (Nat.zero_le _) (Nat.zero_le _) ?_
    by_cases hf : ixN l z < l.length
    · have e0 : ofR l z 3 = iI ((nE (lg l (ixN l z)) : Nat) : Int) := by unfold ofR; rw [if_neg (by omega)]; rfl
      rw [e0]
      have e : oRan B D l nx hs s0 s1 thr z b = (iI ((nE (lg l (ixN l z)) : Nat) : Int), (B, (D, l, nx), hs, s0, s1, thr)) := by unfold oRan; rw [if_neg (by omega), if_pos c3]
      rw [e]
      exact ⟨_, rfl, rfl, rfl, hM, off.rfl' _ _ _⟩
    · have e0 : ofR l z 3 = iI (-1001) := by unfold ofR; rw [if_pos (by omega)]
      rw [e0]
      have e : oRan B D l nx hs s0 s1 thr z b = (iI (-1001), (B, (D, l, nx), hs, s0, s1, thr)) := by unfold oRan; rw [if_pos (by omega)]
      rw [e]
      exact ⟨_, rfl, rfl, rfl, hM, off.rfl' _ _ _⟩

abbrev rm_X9_quoted : Room := { frames := 2, cells := 0, slots := 0, locals := 43 }
set_option maxHeartbeats 4000000 in
set_option maxRecDepth 100000 in
theorem c_X9_quoted (mo : Nat) (B D : List Int32) (l : List Nt) (nx : Nat) (hs : List Pg) (s0 s1 : Option (Pg × Int)) (thr : Int) (z p i : Int) {w : PW} {n : Nat} (hM : moE w mo B D l nx hs s0 s1 thr) (hzb : -2147483648 ≤ z ∧ z < 2147483648) (hpb : -2147483648 ≤ p ∧ p < 2147483648) (hib : -2147483648 ≤ i ∧ i < 2147483648) : Ct1 yX9_quoted cX9_quoted 6 (some .int) rm_X9_quoted [.ref mo, .int (iI (z)), .int (iI (p)), .int (iI (i))] w n (fun v w1 n1 => v = .int (oQtd B D l nx hs s0 s1 thr z p i).1 ∧ n = n1 ∧ mo_ w1 mo (oQtd B D l nx hs s0 s1 thr z p i).2 ∧ off w w1 mo (mo + 12)) := by
  obtain ⟨rg, g, sp, pa, kp, ik, bg, ln, od, sco, leo, smo, mc, vc, sc, pc, kc, ic, bc, lc, oc, xc, ec, uc, hV, h3, hH, h6, h8, hB, hS0, hS1⟩ := id hM
  have hD : vdp g D := hV.1
  have hP : vnp g l nx := hV.2
  have hDl := hD.2.2
  have hPl := hP.2.2.1
  have hnx := hP.2.2.2.1
  have hBl := hB.1
  have hHl := hH.1
  refine Ctr.of rfl (Nat.le_of_ble_eq_true rfl) fun S hS => ?_
  have hb : S.1.1 = cX9_quoted := by rw [hS]; rfl
  have ho : S.1.2.1 = RX9 := by rw [hS]; rfl
  have hnL : S.1.2.2.1 = 6 := by rw [hS]; rfl
  have hR0 : S.2.1 = rm_X9_quoted := by rw [hS]; rfl
  show Wp S 0 [(0, .ref mo), (1, .int (iI (z))), (2, .int (iI (p))), (3, .int (iI (i)))] [] w n 0 0
  refine r_aload_n hb 1 dX9_quoted_0 rfl 0 rfl ?_
  refine r_iload_n hb 2 dX9_quoted_1 rfl 1 rfl ?_
  refine r_callVR (st := []) hb ho 5 dX9_quoted_2 rfl ck_X9_92 (c_X9_find mo rg g l nx (z) mc vc hP (by omega)) rfl rfl (mc) rfl rfl (by rw [hR0]; exact ⟨Nat.le_of_ble_eq_true rfl, Nat.le_of_ble_eq_true rfl⟩) (Nat.le_of_ble_eq_true rfl) ⟨rfl, rfl⟩ (by rw [hR0]; exact Nat.zero_le _) (by rw [hR0]; exact Nat.zero_le _) ?_
  by_cases hf : ixN l z < l.length
  · have hle := ixN_le l z
    refine r_topz ((ixN l z : Nat) : Int) (by unfold ixZ; rw [if_pos hf]) ?_
    refine r_istore [(4, .int (iI (((ixN l z : Nat) : Int)))), (0, .ref mo), (1, .int (iI (z))), (2, .int (iI (p))), (3, .int (iI (i)))] hb 7 6 dX9_quoted_5 rfl hnL (by decide) rfl ?_
    refine r_iload hb 9 dX9_quoted_7 rfl 0 rfl ?_
    refine r_if_ge hb 12 16 dX9_quoted_9 rfl (by decide) (by omega) (fun c9 => ?_) (fun c9 => ?_)
    · have hN : vnt g (123 + 36 * ixN l z) (lg l (ixN l z)) := hP.2.2.2.2 _ hf
      obtain ⟨n0, n1, n2, n3, n4, n5, n6, n7, n8, n9, n10, n11, n12, n13⟩ := id (hN)
      refine r_iload_n hb 17 dX9_quoted_16 rfl 3 rfl ?_
      refine r_iconst hb 18 dX9_quoted_17 rfl ?_
      refine r_iconst hb 19 dX9_quoted_18 rfl ?_
      refine r_callSR (st := []) hb ho 22 dX9_quoted_19 rfl ck_X9_52 (c_X9_in (p) 0 2 (by omega)) rfl rfl (by rw [hR0]; exact ⟨Nat.le_of_ble_eq_true rfl, Nat.le_of_ble_eq_true rfl⟩) (Nat.le_of_ble_eq_true rfl) ⟨rfl, rfl⟩ (by rw [hR0]; exact Nat.zero_le _) (by rw [hR0]; exact Nat.zero_le _) ?_
      refine r_ifb_ne hb 25 29 dX9_quoted_22 rfl (by decide) (fun c22 => ?_) (fun c22 => ?_)
      · have c22 := of_decide_eq_true c22
        refine r_iload_n hb 30 dX9_quoted_29 rfl 3 rfl ?_
        refine r_if_ne hb 33 37 dX9_quoted_30 rfl (by decide) (by omega) (fun c30 => ?_) (fun c30 => ?_)
        · refine r_iload_n hb 38 dX9_quoted_37 rfl 3 rfl ?_
          refine r_iconst hb 39 dX9_quoted_38 rfl ?_
          refine r_icmp_ne hb 42 47 dX9_quoted_39 rfl (by decide) (by omega) (by omega) (fun c39 => ?_) (fun c39 => ?_)
          · refine r_bipush 29 hb 49 dX9_quoted_47 rfl rfl ?_
            refine r_istore [(5, .int (iI 29)), (4, .int (iI (((ixN l z : Nat) : Int)))), (0, .ref mo), (1, .int (iI (z))), (2, .int (iI (p))), (3, .int (iI (i)))] hb 51 6 dX9_quoted_49 rfl hnL (by decide) rfl ?_
            refine r_iload_n hb 52 dX9_quoted_51 rfl 5 rfl ?_
            refine r_iconst hb 53 dX9_quoted_52 rfl ?_
            refine r_aload_n hb 54 dX9_quoted_53 rfl 2 rfl ?_
            refine r_get hb ho 57 dX9_quoted_54 rfl lk_X9_7 pf_X9_0 mc rfl ?_
            refine r_iload hb 59 dX9_quoted_57 rfl 1 rfl ?_
            refine r_iload hb 61 dX9_quoted_59 rfl 0 rfl ?_
            refine r_callSR (st := [.ref (mo + 1), .int (iI 0), .int (iI (i))]) hb ho 64 dX9_quoted_61 rfl ck_X9_48 (c_X9_at (((ixN l z : Nat) : Int)) 29 (36 * ((ixN l z : Nat) : Int) + 152) (by omega)) rfl rfl (by rw [hR0]; exact ⟨Nat.le_of_ble_eq_true rfl, Nat.le_of_ble_eq_true rfl⟩) (Nat.le_of_ble_eq_true rfl) ⟨rfl, rfl⟩ (by rw [hR0]; exact Nat.zero_le _) (by rw [hR0]; exact Nat.zero_le _) ?_
            refine r_iald hb 65 dX9_quoted_64 rfl vc (123 + 36 * (ixN l z) + 29) (by omega) (⟨by omega, by omega⟩) ?_
            refine r_topz ((((nS (lg l (ixN l z))).length : Nat) : Int)) (n7.1) ?_
            refine r_iconst hb 66 dX9_quoted_65 rfl ?_
            refine r_isubZ hb 67 ((((nS (lg l (ixN l z))).length : Nat) : Int) - 1) dX9_quoted_66 rfl (by omega) ?_
            refine r_callSR (st := []) hb ho 70 dX9_quoted_67 rfl ck_X9_52 (c_X9_in (i) 0 ((((nS (lg l (ixN l z))).length : Nat) : Int) - 1) (by omega)) rfl rfl (by rw [hR0]; exact ⟨Nat.le_of_ble_eq_true rfl, Nat.le_of_ble_eq_true rfl⟩) (Nat.le_of_ble_eq_true rfl) ⟨rfl, rfl⟩ (by rw [hR0]; exact Nat.zero_le _) (by rw [hR0]; exact Nat.zero_le _) ?_
            refine r_ifb_eq hb 73 92 dX9_quoted_70 rfl (by decide) (fun c70 => ?_) (fun c70 => ?_)
            · have c70 := of_decide_eq_false c70
              refine r_sipush (-1005) hb 95 dX9_quoted_92 rfl rfl ?_
              refine r_iret hS dX9_quoted_95 rfl rfl (Nat.zero_le _) (Nat.zero_le _) ?_
              have e : oQtd B D l nx hs s0 s1 thr z p i = (iI (-1005), (B, (D, l, nx), hs, s0, s1, thr)) := by unfold oQtd; rw [if_neg (by omega), if_neg (by omega), show prtN (lg l (ixN l z)) p = nS (lg l (ixN l z)) from (by unfold prtN; rw [if_neg (by omega), if_neg (by omega)]), if_pos (by omega)]
              rw [e]
              exact ⟨_, rfl, rfl, rfl, hM, off.rfl' _ _ _⟩
            · have c70 := of_decide_eq_true c70
              obtain ⟨j, rfl⟩ : ∃ j : Nat, i = (j : Int) := ⟨i.toNat, by omega⟩
              refine r_aload_n hb 74 dX9_quoted_73 rfl 2 rfl ?_
              refine r_get hb ho 77 dX9_quoted_74 rfl lk_X9_7 pf_X9_0 mc rfl ?_
              refine r_iload hb 79 dX9_quoted_77 rfl 1 rfl ?_
              refine r_iload hb 81 dX9_quoted_79 rfl 0 rfl ?_
              refine r_iconst hb 82 dX9_quoted_81 rfl ?_
              refine r_iaddZ hb 83 30 dX9_quoted_82 rfl (by omega) ?_
              refine r_iload_n hb 84 dX9_quoted_83 rfl 5 rfl ?_
              refine r_iaddZ hb 85 (((j : Nat) : Int) + 30) dX9_quoted_84 rfl (by omega) ?_
              refine r_callSR (st := [.ref (mo + 1)]) hb ho 88 dX9_quoted_85 rfl ck_X9_48 (c_X9_at (((ixN l z : Nat) : Int)) (((j : Nat) : Int) + 30) (36 * ((ixN l z : Nat) : Int) + ((j : Nat) : Int) + 153) (by omega)) rfl rfl (by rw [hR0]; exact ⟨Nat.le_of_ble_eq_true rfl, Nat.le_of_ble_eq_true rfl⟩) (Nat.le_of_ble_eq_true rfl) ⟨rfl, rfl⟩ (by rw [hR0]; exact Nat.zero_le _) (by rw [hR0]; exact Nat.zero_le _) ?_
              refine r_iald hb 89 dX9_quoted_88 rfl vc (123 + 36 * (ixN l z) + 29 + 1 + j) (by omega) (⟨by omega, by omega⟩) ?_
              refine r_topv (.int ((nS (lg l (ixN l z))).getD j 0)) (congrArg Value.int (n7.2 j (by omega))) ?_
              refine r_goto hb 95 dX9_quoted_89 (by decide) ?_
              refine r_iret hS dX9_quoted_95 rfl rfl (Nat.zero_le _) (Nat.zero_le _) ?_
              have e : oQtd B D l nx hs s0 s1 thr z p ((j : Nat) : Int) = ((nS (lg l (ixN l z))).getD j 0, (B, (D, l, nx), hs, s0, s1, thr)) := by unfold oQtd; rw [if_neg (by omega), if_neg (by omega), show prtN (lg l (ixN l z)) p = nS (lg l (ixN l z)) from (by unfold prtN; rw [if_neg (by omega), if_neg (by omega)]), if_neg (by omega)]; rfl
              rw [e]
              exact ⟨_, rfl, rfl, rfl, hM, off.rfl' _ _ _⟩
          · refine r_bipush 12 hb 44 dX9_quoted_42 rfl rfl ?_
            refine r_goto hb 49 dX9_quoted_44 (by decide) ?_
            refine r_istore [(5, .int (iI 12)), (4, .int (iI (((ixN l z : Nat) : Int)))), (0, .ref mo), (1, .int (iI (z))), (2, .int (iI (p))), (3, .int (iI (i)))] hb 51 6 dX9_quoted_49 rfl hnL (by decide) rfl ?_
            refine r_iload_n hb 52 dX9_quoted_51 rfl 5 rfl ?_
            refine r_iconst hb 53 dX9_quoted_52 rfl ?_
            refine r_aload_n hb 54 dX9_quoted_53 rfl 2 rfl ?_
            refine r_get hb ho 57 dX9_quoted_54 rfl lk_X9_7 pf_X9_0 mc rfl ?_
            refine r_iload hb 59 dX9_quoted_57 rfl 1 rfl ?_
            refine r_iload hb 61 dX9_quoted_59 rfl 0 rfl ?_
            refine r_callSR (st := [.ref (mo + 1), .int (iI 0), .int (iI (i))]) hb ho 64 dX9_quoted_61 rfl ck_X9_48 (c_X9_at (((ixN l z : Nat) : Int)) 12 (36 * ((ixN l z : Nat) : Int) + 135) (by omega)) rfl rfl (by rw [hR0]; exact ⟨Nat.le_of_ble_eq_true rfl, Nat.le_of_ble_eq_true rfl⟩) (Nat.le_of_ble_eq_true rfl) ⟨rfl, rfl⟩ (by rw [hR0]; exact Nat.zero_le _) (by rw [hR0]; exact Nat.zero_le _) ?_
            refine r_iald hb 65 dX9_quoted_64 rfl vc (123 + 36 * (ixN l z) + 12) (by omega) (⟨by omega, by omega⟩) ?_
            refine r_topz ((((nQ (lg l (ixN l z))).length : Nat) : Int)) (n6.1) ?_
            refine r_iconst hb 66 dX9_quoted_65 rfl ?_
            refine r_isubZ hb 67 ((((nQ (lg l (ixN l z))).length : Nat) : Int) - 1) dX9_quoted_66 rfl (by omega) ?_
            refine r_callSR (st := []) hb ho 70 dX9_quoted_67 rfl ck_X9_52 (c_X9_in (i) 0 ((((nQ (lg l (ixN l z))).length : Nat) : Int) - 1) (by omega)) rfl rfl (by rw [hR0]; exact ⟨Nat.le_of_ble_eq_true rfl, Nat.le_of_ble_eq_true rfl⟩) (Nat.le_of_ble_eq_true rfl) ⟨rfl, rfl⟩ (by rw [hR0]; exact Nat.zero_le _) (by rw [hR0]; exact Nat.zero_le _) ?_
            refine r_ifb_eq hb 73 92 dX9_quoted_70 rfl (by decide) (fun c70 => ?_) (fun c70 => ?_)
            · have c70 := of_decide_eq_false c70
              refine r_sipush (-1005) hb 95 dX9_quoted_92 rfl rfl ?_
              refine r_iret hS dX9_quoted_95 rfl rfl (Nat.zero_le _) (Nat.zero_le _) ?_
              have e : oQtd B D l nx hs s0 s1 thr z p i = (iI (-1005), (B, (D, l, nx), hs, s0, s1, thr)) := by unfold oQtd; rw [if_neg (by omega), if_neg (by omega), show prtN (lg l (ixN l z)) p = nQ (lg l (ixN l z)) from (by unfold prtN; rw [if_neg (by omega), if_pos (by omega)]), if_pos (by omega)]
              rw [e]
              exact ⟨_, rfl, rfl, rfl, hM, off.rfl' _ _ _⟩
            · have c70 := of_decide_eq_true c70
              obtain ⟨j, rfl⟩ : ∃ j : Nat, i = (j : Int) := ⟨i.toNat, by omega⟩
              refine r_aload_n hb 74 dX9_quoted_73 rfl 2 rfl ?_
              refine r_get hb ho 77 dX9_quoted_74 rfl lk_X9_7 pf_X9_0 mc rfl ?_
              refine r_iload hb 79 dX9_quoted_77 rfl 1 rfl ?_
              refine r_iload hb 81 dX9_quoted_79 rfl 0 rfl ?_
              refine r_iconst hb 82 dX9_quoted_81 rfl ?_
              refine r_iaddZ hb 83 13 dX9_quoted_82 rfl (by omega) ?_
              refine r_iload_n hb 84 dX9_quoted_83 rfl 5 rfl ?_
              refine r_iaddZ hb 85 (((j : Nat) : Int) + 13) dX9_quoted_84 rfl (by omega) ?_
              refine r_callSR (st := [.ref (mo + 1)]) hb ho 88 dX9_quoted_85 rfl ck_X9_48 (c_X9_at (((ixN l z : Nat) : Int)) (((j : Nat) : Int) + 13) (36 * ((ixN l z : Nat) : Int) + ((j : Nat) : Int) + 136) (by omega)) rfl rfl (by rw [hR0]; exact ⟨Nat.le_of_ble_eq_true rfl, Nat.le_of_ble_eq_true rfl⟩) (Nat.le_of_ble_eq_true rfl) ⟨rfl, rfl⟩ (by rw [hR0]; exact Nat.zero_le _) (by rw [hR0]; exact Nat.zero_le _) ?_
              refine r_iald hb 89 dX9_quoted_88 rfl vc (123 + 36 * (ixN l z) + 12 + 1 + j) (by omega) (⟨by omega, by omega⟩) ?_
              refine r_topv (.int ((nQ (lg l (ixN l z))).getD j 0)) (congrArg Value.int (n6.2 j (by omega))) ?_
              refine r_goto hb 95 dX9_quoted_89 (by decide) ?_
              refine r_iret hS dX9_quoted_95 rfl rfl (Nat.zero_le _) (Nat.zero_le _) ?_
              have e : oQtd B D l nx hs s0 s1 thr z p ((j : Nat) : Int) = ((nQ (lg l (ixN l z))).getD j 0, (B, (D, l, nx), hs, s0, s1, thr)) := by unfold oQtd; rw [if_neg (by omega), if_neg (by omega), show prtN (lg l (ixN l z)) p = nQ (lg l (ixN l z)) from (by unfold prtN; rw [if_neg (by omega), if_pos (by omega)]), if_neg (by omega)]; rfl
              rw [e]
              exact ⟨_, rfl, rfl, rfl, hM, off.rfl' _ _ _⟩
        · refine r_iconst hb 34 dX9_quoted_33 rfl ?_
          refine r_goto hb 49 dX9_quoted_34 (by decide) ?_
          refine r_istore [(5, .int (iI 5)), (4, .int (iI (((ixN l z : Nat) : Int)))), (0, .ref mo), (1, .int (iI (z))), (2, .int (iI (p))), (3, .int (iI (i)))] hb 51 6 dX9_quoted_49 rfl hnL (by decide) rfl ?_
          refine r_iload_n hb 52 dX9_quoted_51 rfl 5 rfl ?_
          refine r_iconst hb 53 dX9_quoted_52 rfl ?_
          refine r_aload_n hb 54 dX9_quoted_53 rfl 2 rfl ?_
          refine r_get hb ho 57 dX9_quoted_54 rfl lk_X9_7 pf_X9_0 mc rfl ?_
          refine r_iload hb 59 dX9_quoted_57 rfl 1 rfl ?_
          refine r_iload hb 61 dX9_quoted_59 rfl 0 rfl ?_
          refine r_callSR (st := [.ref (mo + 1), .int (iI 0), .int (iI (i))]) hb ho 64 dX9_quoted_61 rfl ck_X9_48 (c_X9_at (((ixN l z : Nat) : Int)) 5 (36 * ((ixN l z : Nat) : Int) + 128) (by omega)) rfl rfl (by rw [hR0]; exact ⟨Nat.le_of_ble_eq_true rfl, Nat.le_of_ble_eq_true rfl⟩) (Nat.le_of_ble_eq_true rfl) ⟨rfl, rfl⟩ (by rw [hR0]; exact Nat.zero_le _) (by rw [hR0]; exact Nat.zero_le _) ?_
          refine r_iald hb 65 dX9_quoted_64 rfl vc (123 + 36 * (ixN l z) + 5) (by omega) (⟨by omega, by omega⟩) ?_
          refine r_topz ((((nP (lg l (ixN l z))).length : Nat) : Int)) (n5.1) ?_
          refine r_iconst hb 66 dX9_quoted_65 rfl ?_
          refine r_isubZ hb 67 ((((nP (lg l (ixN l z))).length : Nat) : Int) - 1) dX9_quoted_66 rfl (by omega) ?_
          refine r_callSR (st := []) hb ho 70 dX9_quoted_67 rfl ck_X9_52 (c_X9_in (i) 0 ((((nP (lg l (ixN l z))).length : Nat) : Int) - 1) (by omega)) rfl rfl (by rw [hR0]; exact ⟨Nat.le_of_ble_eq_true rfl, Nat.le_of_ble_eq_true rfl⟩) (Nat.le_of_ble_eq_true rfl) ⟨rfl, rfl⟩ (by rw [hR0]; exact Nat.zero_le _) (by rw [hR0]; exact Nat.zero_le _) ?_
          refine r_ifb_eq hb 73 92 dX9_quoted_70 rfl (by decide) (fun c70 => ?_) (fun c70 => ?_)
          · have c70 := of_decide_eq_false c70
            refine r_sipush (-1005) hb 95 dX9_quoted_92 rfl rfl ?_
            refine r_iret hS dX9_quoted_95 rfl rfl (Nat.zero_le _) (Nat.zero_le _) ?_
            have e : oQtd B D l nx hs s0 s1 thr z p i = (iI (-1005), (B, (D, l, nx), hs, s0, s1, thr)) := by unfold oQtd; rw [if_neg (by omega), if_neg (by omega), show prtN (lg l (ixN l z)) p = nP (lg l (ixN l z)) from (by unfold prtN; rw [if_pos (by omega)]), if_pos (by omega)]
            rw [e]
            exact ⟨_, rfl, rfl, rfl, hM, off.rfl' _ _ _⟩
          · have c70 := of_decide_eq_true c70
            obtain ⟨j, rfl⟩ : ∃ j : Nat, i = (j : Int) := ⟨i.toNat, by omega⟩
            refine r_aload_n hb 74 dX9_quoted_73 rfl 2 rfl ?_
            refine r_get hb ho 77 dX9_quoted_74 rfl lk_X9_7 pf_X9_0 mc rfl ?_
            refine r_iload hb 79 dX9_quoted_77 rfl 1 rfl ?_
            refine r_iload hb 81 dX9_quoted_79 rfl 0 rfl ?_
            refine r_iconst hb 82 dX9_quoted_81 rfl ?_
            refine r_iaddZ hb 83 6 dX9_quoted_82 rfl (by omega) ?_
            refine r_iload_n hb 84 dX9_quoted_83 rfl 5 rfl ?_
            refine r_iaddZ hb 85 (((j : Nat) : Int) + 6) dX9_quoted_84 rfl (by omega) ?_
            refine r_callSR (st := [.ref (mo + 1)]) hb ho 88 dX9_quoted_85 rfl ck_X9_48 (c_X9_at (((ixN l z : Nat) : Int)) (((j : Nat) : Int) + 6) (36 * ((ixN l z : Nat) : Int) + ((j : Nat) : Int) + 129) (by omega)) rfl rfl (by rw [hR0]; exact ⟨Nat.le_of_ble_eq_true rfl, Nat.le_of_ble_eq_true rfl⟩) (Nat.le_of_ble_eq_true rfl) ⟨rfl, rfl⟩ (by rw [hR0]; exact Nat.zero_le _) (by rw [hR0]; exact Nat.zero_le _) ?_
            refine r_iald hb 89 dX9_quoted_88 rfl vc (123 + 36 * (ixN l z) + 5 + 1 + j) (by omega) (⟨by omega, by omega⟩) ?_
            refine r_topv (.int ((nP (lg l (ixN l z))).getD j 0)) (congrArg Value.int (n5.2 j (by omega))) ?_
            refine r_goto hb 95 dX9_quoted_89 (by decide) ?_
            refine r_iret hS dX9_quoted_95 rfl rfl (Nat.zero_le _) (Nat.zero_le _) ?_
            have e : oQtd B D l nx hs s0 s1 thr z p ((j : Nat) : Int) = ((nP (lg l (ixN l z))).getD j 0, (B, (D, l, nx), hs, s0, s1, thr)) := by unfold oQtd; rw [if_neg (by omega), if_neg (by omega), show prtN (lg l (ixN l z)) p = nP (lg l (ixN l z)) from (by unfold prtN; rw [if_pos (by omega)]), if_neg (by omega)]; rfl
            rw [e]
            exact ⟨_, rfl, rfl, rfl, hM, off.rfl' _ _ _⟩
      · have c22 := of_decide_eq_false c22
        refine r_sipush (-1002) hb 28 dX9_quoted_25 rfl rfl ?_
        refine r_iret hS dX9_quoted_28 rfl rfl (Nat.zero_le _) (Nat.zero_le _) ?_
        have e : oQtd B D l nx hs s0 s1 thr z p i = (iI (-1002), (B, (D, l, nx), hs, s0, s1, thr)) := by unfold oQtd; rw [if_neg (by omega), if_pos (by omega)]
        rw [e]
        exact ⟨_, rfl, rfl, rfl, hM, off.rfl' _ _ _⟩
    · exfalso; omega
  · have hle := ixN_le l z
    refine r_topz (-1) (by unfold ixZ; rw [if_neg hf]) ?_
    refine r_istore [(4, .int (iI (-1))), (0, .ref mo), (1, .int (iI (z))), (2, .int (iI (p))), (3, .int (iI (i)))] hb 7 6 dX9_quoted_5 rfl hnL (by decide) rfl ?_
    refine r_iload hb 9 dX9_quoted_7 rfl 0 rfl ?_
    refine r_if_ge hb 12 16 dX9_quoted_9 rfl (by decide) (by omega) (fun c9 => ?_) (fun c9 => ?_)
    · exfalso; omega
    · refine r_sipush (-1001) hb 15 dX9_quoted_12 rfl rfl ?_
      refine r_iret hS dX9_quoted_15 rfl rfl (Nat.zero_le _) (Nat.zero_le _) ?_
      have e : oQtd B D l nx hs s0 s1 thr z p i = (iI (-1001), (B, (D, l, nx), hs, s0, s1, thr)) := by unfold oQtd; rw [if_pos (by omega)]
      rw [e]
      exact ⟨_, rfl, rfl, rfl, hM, off.rfl' _ _ _⟩

abbrev rm_X9_distance : Room := { frames := 3, cells := 0, slots := 0, locals := 70 }
set_option maxHeartbeats 4000000 in
set_option maxRecDepth 100000 in
theorem c_X9_distance (mo : Nat) (B D : List Int32) (l : List Nt) (nx : Nat) (hs : List Pg) (s0 s1 : Option (Pg × Int)) (thr : Int) (z : Int) {w : PW} {n : Nat} (hM : moE w mo B D l nx hs s0 s1 thr) (hzb : -2147483648 ≤ z ∧ z < 2147483648) (hok : pOk (D, l, nx)) : Ct1 yX9_distance cX9_distance 3 (some .int) rm_X9_distance [.ref mo, .int (iI (z))] w n (fun v w1 n1 => v = .int (oDis B D l nx hs s0 s1 thr z).1 ∧ n = n1 ∧ mo_ w1 mo (oDis B D l nx hs s0 s1 thr z).2 ∧ off w w1 mo (mo + 12)) := by
  obtain ⟨rg, g, sp, pa, kp, ik, bg, ln, od, sco, leo, smo, mc, vc, sc, pc, kc, ic, bc, lc, oc, xc, ec, uc, hV, h3, hH, h6, h8, hB, hS0, hS1⟩ := id hM
  have hD : vdp g D := hV.1
  have hP : vnp g l nx := hV.2
  have hDl := hD.2.2
  have hPl := hP.2.2.1
  have hnx := hP.2.2.2.1
  have hBl := hB.1
  have hHl := hH.1
  refine Ctr.of rfl (Nat.le_of_ble_eq_true rfl) fun S hS => ?_
  have hb : S.1.1 = cX9_distance := by rw [hS]; rfl
  have ho : S.1.2.1 = RX9 := by rw [hS]; rfl
  have hnL : S.1.2.2.1 = 3 := by rw [hS]; rfl
  have hR0 : S.2.1 = rm_X9_distance := by rw [hS]; rfl
  show Wp S 0 [(0, .ref mo), (1, .int (iI (z)))] [] w n 0 0
  refine r_aload_n hb 1 dX9_distance_0 rfl 0 rfl ?_
  refine r_iload_n hb 2 dX9_distance_1 rfl 1 rfl ?_
  refine r_callVR (st := []) hb ho 5 dX9_distance_2 rfl ck_X9_92 (c_X9_find mo rg g l nx (z) mc vc hP (by omega)) rfl rfl (mc) rfl rfl (by rw [hR0]; exact ⟨Nat.le_of_ble_eq_true rfl, Nat.le_of_ble_eq_true rfl⟩) (Nat.le_of_ble_eq_true rfl) ⟨rfl, rfl⟩ (by rw [hR0]; exact Nat.zero_le _) (by rw [hR0]; exact Nat.zero_le _) ?_
  by_cases hf : ixN l z < l.length
  · have hle := ixN_le l z
    refine r_topz ((ixN l z : Nat) : Int) (by unfold ixZ; rw [if_pos hf]) ?_
    refine r_istore_n [(2, .int (iI (((ixN l z : Nat) : Int)))), (0, .ref mo), (1, .int (iI (z)))] hb 6 3 dX9_distance_5 rfl rfl hnL (by decide) rfl ?_
    refine r_iload_n hb 7 dX9_distance_6 rfl 0 rfl ?_
    refine r_if_ge hb 10 14 dX9_distance_7 rfl (by decide) (by omega) (fun c7 => ?_) (fun c7 => ?_)
    · have hN : vnt g (123 + 36 * ixN l z) (lg l (ixN l z)) := hP.2.2.2.2 _ hf
      obtain ⟨n0, n1, n2, n3, n4, n5, n6, n7, n8, n9, n10, n11, n12, n13⟩ := id (hN)
      refine r_aload_n hb 15 dX9_distance_14 rfl 1 rfl ?_
      refine r_get hb ho 18 dX9_distance_15 rfl lk_X9_7 pf_X9_0 mc rfl ?_
      refine r_iload_n hb 19 dX9_distance_18 rfl 0 rfl ?_
      refine r_iconst hb 20 dX9_distance_19 rfl ?_
      refine r_callSR (st := [.ref (mo + 1)]) hb ho 23 dX9_distance_20 rfl ck_X9_48 (c_X9_at (((ixN l z : Nat) : Int)) 1 (36 * ((ixN l z : Nat) : Int) + 124) (by omega)) rfl rfl (by rw [hR0]; exact ⟨Nat.le_of_ble_eq_true rfl, Nat.le_of_ble_eq_true rfl⟩) (Nat.le_of_ble_eq_true rfl) ⟨rfl, rfl⟩ (by rw [hR0]; exact Nat.zero_le _) (by rw [hR0]; exact Nat.zero_le _) ?_
      refine r_iald hb 24 dX9_distance_23 rfl vc (123 + 36 * (ixN l z) + 1) (by omega) (⟨by omega, by omega⟩) ?_
      refine r_topv (.int (bI (nK (lg l (ixN l z))))) (congrArg Value.int (n1)) ?_
      refine r_ifb_ne hb 27 33 dX9_distance_24 rfl (by decide) (fun c24 => ?_) (fun c24 => ?_)
      · refine r_aload_n hb 34 dX9_distance_33 rfl 1 rfl ?_
        refine r_iload_n hb 35 dX9_distance_34 rfl 0 rfl ?_
        refine r_aload_n hb 36 dX9_distance_35 rfl 1 rfl ?_
        refine r_get hb ho 39 dX9_distance_36 rfl lk_X9_7 pf_X9_0 mc rfl ?_
        refine r_iload_n hb 40 dX9_distance_39 rfl 0 rfl ?_
        refine r_iconst hb 41 dX9_distance_40 rfl ?_
        refine r_callSR (st := [.ref (mo + 1), .int (iI (((ixN l z : Nat) : Int))), .ref mo]) hb ho 44 dX9_distance_41 rfl ck_X9_48 (c_X9_at (((ixN l z : Nat) : Int)) 2 (36 * ((ixN l z : Nat) : Int) + 125) (by omega)) rfl rfl (by rw [hR0]; exact ⟨Nat.le_of_ble_eq_true rfl, Nat.le_of_ble_eq_true rfl⟩) (Nat.le_of_ble_eq_true rfl) ⟨rfl, rfl⟩ (by rw [hR0]; exact Nat.zero_le _) (by rw [hR0]; exact Nat.zero_le _) ?_
        refine r_iald hb 45 dX9_distance_44 rfl vc (123 + 36 * (ixN l z) + 2) (by omega) (⟨by omega, by omega⟩) ?_
        refine r_topz (((nB (lg l (ixN l z)) : Nat) : Int)) (n2) ?_
        refine r_aload_n hb 46 dX9_distance_45 rfl 1 rfl ?_
        refine r_get hb ho 49 dX9_distance_46 rfl lk_X9_7 pf_X9_0 mc rfl ?_
        refine r_iload_n hb 50 dX9_distance_49 rfl 0 rfl ?_
        refine r_iconst hb 51 dX9_distance_50 rfl ?_
        refine r_callSR (st := [.ref (mo + 1), .int (iI (((nB (lg l (ixN l z)) : Nat) : Int))), .int (iI (((ixN l z : Nat) : Int))), .ref mo]) hb ho 54 dX9_distance_51 rfl ck_X9_48 (c_X9_at (((ixN l z : Nat) : Int)) 3 (36 * ((ixN l z : Nat) : Int) + 126) (by omega)) rfl rfl (by rw [hR0]; exact ⟨Nat.le_of_ble_eq_true rfl, Nat.le_of_ble_eq_true rfl⟩) (Nat.le_of_ble_eq_true rfl) ⟨rfl, rfl⟩ (by rw [hR0]; exact Nat.zero_le _) (by rw [hR0]; exact Nat.zero_le _) ?_
        refine r_iald hb 55 dX9_distance_54 rfl vc (123 + 36 * (ixN l z) + 3) (by omega) (⟨by omega, by omega⟩) ?_
        refine r_topz (((nE (lg l (ixN l z)) : Nat) : Int)) (n3) ?_
        have hnk : nB (lg l (ixN l z)) ≤ nE (lg l (ixN l z)) ∧ nE (lg l (ixN l z)) ≤ D.length ∧ nNum (lg l (ixN l z)) < nx := (hok.2.2.2.1 (ixN l z) hf).2
        refine r_callV1 (st := []) hb ho 58 dX9_distance_55 rfl ck_X9_168 (c_X9_distanceOf mo rg g ln D (ixN l z) (lg l (ixN l z)) (nB (lg l (ixN l z))) (nE (lg l (ixN l z))) mc vc lc hD hN (by omega) (by omega) (by omega)) rfl rfl (mc) rfl rfl (by rw [hR0]; exact ⟨Nat.le_of_ble_eq_true rfl, Nat.le_of_ble_eq_true rfl⟩) (Nat.le_of_ble_eq_true rfl) ⟨rfl, rfl⟩ (by rw [hR0]; exact Nat.zero_le _) (by rw [hR0]; exact Nat.zero_le _) (fun vw_55 w_55 nw_55 qw_55 => ?_)
        obtain ⟨rfl, rfl, ⟨ln1, lc⟩, ow_55⟩ := qw_55
        have mc : w_55 mo = some (eO 9 [.ref (mo + 1), .ref (mo + 2), .ref (mo + 3), .int (iI ((rg 3))), .ref (mo + 4), .ref (mo + 5), .int (iI ((rg 6))), .ref (mo + 6), .int (iI ((rg 8))), .ref (mo + 7), .int (iI ((rg 10))), .int (iI ((rg 11))), .int (iI ((rg 12))), .int (iI ((rg 13))), .int (iI ((rg 14))), .ref (mo + 8), .int (iI ((rg 16))), .ref (mo + 9), .ref (mo + 10), .ref (mo + 11)]) := (ow_55 _ (by omega)).trans mc
        have vc : w_55 (mo + 1) = some (eI 483 g) := (ow_55 _ (by omega)).trans vc
        have sc : w_55 (mo + 2) = some (eI 483 sp) := (ow_55 _ (by omega)).trans sc
        have pc : w_55 (mo + 3) = some (eI 2898 pa) := (ow_55 _ (by omega)).trans pc
        have kc : w_55 (mo + 4) = some (eI 968 kp) := (ow_55 _ (by omega)).trans kc
        have ic : w_55 (mo + 5) = some (eZ 2 ik) := (ow_55 _ (by omega)).trans ic
        have bc : w_55 (mo + 6) = some (eI 40 bg) := (ow_55 _ (by omega)).trans bc
        have oc : w_55 (mo + 8) = some (eI 10 (fun ii => iI ((od ii : Nat) : Int))) := (ow_55 _ (by omega)).trans oc
        have xc : w_55 (mo + 9) = some (eI 1210 (fun ii => iI (sco ii))) := (ow_55 _ (by omega)).trans xc
        have ec : w_55 (mo + 10) = some (eI 1210 (fun ii => iI (leo ii))) := (ow_55 _ (by omega)).trans ec
        have uc : w_55 (mo + 11) = some (eI 1331 (fun ii => iI (smo ii))) := (ow_55 _ (by omega)).trans uc
        refine r_iret hS dX9_distance_58 rfl rfl (Nat.zero_le _) (Nat.zero_le _) ?_
        have e : oDis B D l nx hs s0 s1 thr z = (iI ((edD (nQ (lg l (ixN l z))) D (nB (lg l (ixN l z))) (nE (lg l (ixN l z))) : Nat) : Int), (B, (D, l, nx), hs, s0, s1, thr)) := by unfold oDis; rw [if_neg (by omega), if_neg (by rw [c24]; decide)]
        rw [e]
        exact ⟨_, rfl, rfl, rfl, ⟨rg, g, sp, pa, kp, ik, bg, ln1, od, sco, leo, smo, mc, vc, sc, pc, kc, ic, bc, lc, oc, xc, ec, uc, hV, h3, hH, h6, h8, hB, hS0, hS1⟩, (ow_55.mono (by omega) (by omega))⟩
      · refine r_sipush (-1003) hb 30 dX9_distance_27 rfl rfl ?_
        refine r_goto hb 58 dX9_distance_30 (by decide) ?_
        refine r_iret hS dX9_distance_58 rfl rfl (Nat.zero_le _) (Nat.zero_le _) ?_
        have e : oDis B D l nx hs s0 s1 thr z = (iI (-1003), (B, (D, l, nx), hs, s0, s1, thr)) := by unfold oDis; rw [if_neg (by omega), if_pos c24]
        rw [e]
        exact ⟨_, rfl, rfl, rfl, hM, off.rfl' _ _ _⟩
    · exfalso; omega
  · have hle := ixN_le l z
    refine r_topz (-1) (by unfold ixZ; rw [if_neg hf]) ?_
    refine r_istore_n [(2, .int (iI (-1))), (0, .ref mo), (1, .int (iI (z)))] hb 6 3 dX9_distance_5 rfl rfl hnL (by decide) rfl ?_
    refine r_iload_n hb 7 dX9_distance_6 rfl 0 rfl ?_
    refine r_if_ge hb 10 14 dX9_distance_7 rfl (by decide) (by omega) (fun c7 => ?_) (fun c7 => ?_)
    · exfalso; omega
    · refine r_sipush (-1001) hb 13 dX9_distance_10 rfl rfl ?_
      refine r_iret hS dX9_distance_13 rfl rfl (Nat.zero_le _) (Nat.zero_le _) ?_
      have e : oDis B D l nx hs s0 s1 thr z = (iI (-1001), (B, (D, l, nx), hs, s0, s1, thr)) := by unfold oDis; rw [if_pos (by omega)]
      rw [e]
      exact ⟨_, rfl, rfl, rfl, hM, off.rfl' _ _ _⟩

abbrev rm_X9_score : Room := { frames := 3, cells := 0, slots := 0, locals := 70 }
set_option maxHeartbeats 4000000 in
set_option maxRecDepth 100000 in
theorem c_X9_score (mo : Nat) (B D : List Int32) (l : List Nt) (nx : Nat) (hs : List Pg) (s0 s1 : Option (Pg × Int)) (thr : Int) (z f t : Int) {w : PW} {n : Nat} (hM : moE w mo B D l nx hs s0 s1 thr) (hzb : -2147483648 ≤ z ∧ z < 2147483648) (hfb : -2147483648 ≤ f ∧ f < 2147483648) (htb : -2147483648 ≤ t ∧ t < 2147483648) : Ct1 yX9_score cX9_score 5 (some .int) rm_X9_score [.ref mo, .int (iI (z)), .int (iI (f)), .int (iI (t))] w n (fun v w1 n1 => v = .int (oSco B D l nx hs s0 s1 thr z f t).1 ∧ n = n1 ∧ mo_ w1 mo (oSco B D l nx hs s0 s1 thr z f t).2 ∧ off w w1 mo (mo + 12)) := by
  obtain ⟨rg, g, sp, pa, kp, ik, bg, ln, od, sco, leo, smo, mc, vc, sc, pc, kc, ic, bc, lc, oc, xc, ec, uc, hV, h3, hH, h6, h8, hB, hS0, hS1⟩ := id hM
  have hD : vdp g D := hV.1
  have hP : vnp g l nx := hV.2
  have hDl := hD.2.2
  have hPl := hP.2.2.1
  have hnx := hP.2.2.2.1
  have hBl := hB.1
  have hHl := hH.1
  refine Ctr.of rfl (Nat.le_of_ble_eq_true rfl) fun S hS => ?_
  have hb : S.1.1 = cX9_score := by rw [hS]; rfl
  have ho : S.1.2.1 = RX9 := by rw [hS]; rfl
  have hnL : S.1.2.2.1 = 5 := by rw [hS]; rfl
  have hR0 : S.2.1 = rm_X9_score := by rw [hS]; rfl
  show Wp S 0 [(0, .ref mo), (1, .int (iI (z))), (2, .int (iI (f))), (3, .int (iI (t)))] [] w n 0 0
  refine r_aload_n hb 1 dX9_score_0 rfl 0 rfl ?_
  refine r_iload_n hb 2 dX9_score_1 rfl 1 rfl ?_
  refine r_callVR (st := []) hb ho 5 dX9_score_2 rfl ck_X9_92 (c_X9_find mo rg g l nx (z) mc vc hP (by omega)) rfl rfl (mc) rfl rfl (by rw [hR0]; exact ⟨Nat.le_of_ble_eq_true rfl, Nat.le_of_ble_eq_true rfl⟩) (Nat.le_of_ble_eq_true rfl) ⟨rfl, rfl⟩ (by rw [hR0]; exact Nat.zero_le _) (by rw [hR0]; exact Nat.zero_le _) ?_
  by_cases hf : ixN l z < l.length
  · have hle := ixN_le l z
    refine r_topz ((ixN l z : Nat) : Int) (by unfold ixZ; rw [if_pos hf]) ?_
    refine r_istore [(4, .int (iI (((ixN l z : Nat) : Int)))), (0, .ref mo), (1, .int (iI (z))), (2, .int (iI (f))), (3, .int (iI (t)))] hb 7 5 dX9_score_5 rfl hnL (by decide) rfl ?_
    refine r_iload hb 9 dX9_score_7 rfl 0 rfl ?_
    refine r_if_lt hb 12 20 dX9_score_9 rfl (by decide) (by omega) (fun c9 => ?_) (fun c9 => ?_)
    · exfalso; omega
    · refine r_aload_n hb 13 dX9_score_12 rfl 1 rfl ?_
      refine r_iload_n hb 14 dX9_score_13 rfl 3 rfl ?_
      refine r_callVR (st := []) hb ho 17 dX9_score_14 rfl ck_X9_76 (c_X9_isPosition mo rg g D (f) mc vc hD (by omega)) rfl rfl (mc) rfl rfl (by rw [hR0]; exact ⟨Nat.le_of_ble_eq_true rfl, Nat.le_of_ble_eq_true rfl⟩) (Nat.le_of_ble_eq_true rfl) ⟨rfl, rfl⟩ (by rw [hR0]; exact Nat.zero_le _) (by rw [hR0]; exact Nat.zero_le _) ?_
      refine r_ifb_ne hb 20 24 dX9_score_17 rfl (by decide) (fun c17 => ?_) (fun c17 => ?_)
      · have hpos := of_decide_eq_true c17
        have hno : ¬ (l.length ≤ ixN l z ∨ posN D f = false) := fun hh => hh.elim (fun h => by omega) (fun h => by rw [c17] at h; cases h)
        have hN : vnt g (123 + 36 * ixN l z) (lg l (ixN l z)) := hP.2.2.2.2 _ hf
        obtain ⟨n0, n1, n2, n3, n4, n5, n6, n7, n8, n9, n10, n11, n12, n13⟩ := id (hN)
        refine r_iload_n hb 25 dX9_score_24 rfl 4 rfl ?_
        refine r_iload_n hb 26 dX9_score_25 rfl 3 rfl ?_
        refine r_iconst hb 27 dX9_score_26 rfl ?_
        refine r_iaddZ hb 28 (f + 1) dX9_score_27 rfl (by omega) ?_
        refine r_iload_n hb 29 dX9_score_28 rfl 3 rfl ?_
        refine r_bipush 30 hb 31 dX9_score_29 rfl rfl ?_
        refine r_iaddZ hb 32 (f + 30) dX9_score_31 rfl (by omega) ?_
        refine r_callSR (st := []) hb ho 35 dX9_score_32 rfl ck_X9_52 (c_X9_in (t) (f + 1) (f + 30) (by omega)) rfl rfl (by rw [hR0]; exact ⟨Nat.le_of_ble_eq_true rfl, Nat.le_of_ble_eq_true rfl⟩) (Nat.le_of_ble_eq_true rfl) ⟨rfl, rfl⟩ (by rw [hR0]; exact Nat.zero_le _) (by rw [hR0]; exact Nat.zero_le _) ?_
        refine r_ifb_eq hb 38 46 dX9_score_35 rfl (by decide) (fun c35 => ?_) (fun c35 => ?_)
        · have c35 := of_decide_eq_false c35
          refine r_sipush (-1002) hb 49 dX9_score_46 rfl rfl ?_
          refine r_iret hS dX9_score_49 rfl rfl (Nat.zero_le _) (Nat.zero_le _) ?_
          have e : oSco B D l nx hs s0 s1 thr z f t = (iI (-1002), (B, (D, l, nx), hs, s0, s1, thr)) := by unfold oSco; rw [if_neg hno, if_pos (show rngN D f t 30 = false from decide_eq_false (by omega))]
          rw [e]
          exact ⟨_, rfl, rfl, rfl, hM, off.rfl' _ _ _⟩
        · have c35 := of_decide_eq_true c35
          refine r_aload_n hb 39 dX9_score_38 rfl 1 rfl ?_
          refine r_iload_n hb 40 dX9_score_39 rfl 4 rfl ?_
          refine r_callVR (st := []) hb ho 43 dX9_score_40 rfl ck_X9_76 (c_X9_isPosition mo rg g D (t) mc vc hD (by omega)) rfl rfl (mc) rfl rfl (by rw [hR0]; exact ⟨Nat.le_of_ble_eq_true rfl, Nat.le_of_ble_eq_true rfl⟩) (Nat.le_of_ble_eq_true rfl) ⟨rfl, rfl⟩ (by rw [hR0]; exact Nat.zero_le _) (by rw [hR0]; exact Nat.zero_le _) ?_
          refine r_ifb_ne hb 46 50 dX9_score_43 rfl (by decide) (fun c43 => ?_) (fun c43 => ?_)
          · have hrn : f < t ∧ t ≤ (D.length : Int) ∧ t - f ≤ 30 := by have := of_decide_eq_true c43; omega
            obtain ⟨p, rfl⟩ : ∃ p : Nat, f = (p : Int) := ⟨f.toNat, by omega⟩
            obtain ⟨e, rfl⟩ : ∃ e : Nat, t = (e : Int) := ⟨t.toNat, by omega⟩
            refine r_aload_n hb 51 dX9_score_50 rfl 1 rfl ?_
            refine r_iload hb 53 dX9_score_51 rfl 0 rfl ?_
            refine r_iload_n hb 54 dX9_score_53 rfl 3 rfl ?_
            refine r_iload_n hb 55 dX9_score_54 rfl 4 rfl ?_
            refine r_aload_n hb 56 dX9_score_55 rfl 1 rfl ?_
            refine r_iload hb 58 dX9_score_56 rfl 0 rfl ?_
            refine r_iload_n hb 59 dX9_score_58 rfl 3 rfl ?_
            refine r_iload_n hb 60 dX9_score_59 rfl 4 rfl ?_
            refine r_callV1 (st := [.int (iI (((e : Nat) : Int))), .int (iI (((p : Nat) : Int))), .int (iI (((ixN l z : Nat) : Int))), .ref mo]) hb ho 63 dX9_score_60 rfl ck_X9_168 (c_X9_distanceOf mo rg g ln D (ixN l z) (lg l (ixN l z)) p e mc vc lc hD hN (by omega) (by omega) (by omega)) rfl rfl (mc) rfl rfl (by rw [hR0]; exact ⟨Nat.le_of_ble_eq_true rfl, Nat.le_of_ble_eq_true rfl⟩) (Nat.le_of_ble_eq_true rfl) ⟨rfl, rfl⟩ (by rw [hR0]; exact Nat.zero_le _) (by rw [hR0]; exact Nat.zero_le _) (fun vw_60 w_60 nw_60 qw_60 => ?_)
            obtain ⟨rfl, rfl, ⟨ln1, lc⟩, ow_60⟩ := qw_60
            have mc : w_60 mo = some (eO 9 [.ref (mo + 1), .ref (mo + 2), .ref (mo + 3), .int (iI ((rg 3))), .ref (mo + 4), .ref (mo + 5), .int (iI ((rg 6))), .ref (mo + 6), .int (iI ((rg 8))), .ref (mo + 7), .int (iI ((rg 10))), .int (iI ((rg 11))), .int (iI ((rg 12))), .int (iI ((rg 13))), .int (iI ((rg 14))), .ref (mo + 8), .int (iI ((rg 16))), .ref (mo + 9), .ref (mo + 10), .ref (mo + 11)]) := (ow_60 _ (by omega)).trans mc
            have vc : w_60 (mo + 1) = some (eI 483 g) := (ow_60 _ (by omega)).trans vc
            have sc : w_60 (mo + 2) = some (eI 483 sp) := (ow_60 _ (by omega)).trans sc
            have pc : w_60 (mo + 3) = some (eI 2898 pa) := (ow_60 _ (by omega)).trans pc
            have kc : w_60 (mo + 4) = some (eI 968 kp) := (ow_60 _ (by omega)).trans kc
            have ic : w_60 (mo + 5) = some (eZ 2 ik) := (ow_60 _ (by omega)).trans ic
            have bc : w_60 (mo + 6) = some (eI 40 bg) := (ow_60 _ (by omega)).trans bc
            have oc : w_60 (mo + 8) = some (eI 10 (fun ii => iI ((od ii : Nat) : Int))) := (ow_60 _ (by omega)).trans oc
            have xc : w_60 (mo + 9) = some (eI 1210 (fun ii => iI (sco ii))) := (ow_60 _ (by omega)).trans xc
            have ec : w_60 (mo + 10) = some (eI 1210 (fun ii => iI (leo ii))) := (ow_60 _ (by omega)).trans ec
            have uc : w_60 (mo + 11) = some (eI 1331 (fun ii => iI (smo ii))) := (ow_60 _ (by omega)).trans uc
            have hed := edK_le (nQ (lg l (ixN l z))) D p (e - p) (nQ (lg l (ixN l z))).length
            refine r_callVR (st := []) hb ho 66 dX9_score_63 rfl ck_X9_111 (c_X9_scored mo rg g D (ixN l z) (lg l (ixN l z)) p e (edD (nQ (lg l (ixN l z))) D p e) mc vc hD hN (by omega) (by omega) (by omega) (by unfold edD; omega)) rfl rfl (mc) rfl rfl (by rw [hR0]; exact ⟨Nat.le_of_ble_eq_true rfl, Nat.le_of_ble_eq_true rfl⟩) (Nat.le_of_ble_eq_true rfl) ⟨rfl, rfl⟩ (by rw [hR0]; exact Nat.zero_le _) (by rw [hR0]; exact Nat.zero_le _) ?_
            refine r_iret hS dX9_score_66 rfl rfl (Nat.zero_le _) (Nat.zero_le _) ?_
            have e9 : oSco B D l nx hs s0 s1 thr z ((p : Nat) : Int) ((e : Nat) : Int) = (iI (scN (lg l (ixN l z)) D p e (edD (nQ (lg l (ixN l z))) D p e)), (B, (D, l, nx), hs, s0, s1, thr)) := by unfold oSco; rw [if_neg hno, if_neg (by rw [show rngN D ((p : Nat) : Int) ((e : Nat) : Int) 30 = true from decide_eq_true hrn]; decide)]; rfl
            rw [e9]
            exact ⟨_, rfl, rfl, rfl, ⟨rg, g, sp, pa, kp, ik, bg, ln1, od, sco, leo, smo, mc, vc, sc, pc, kc, ic, bc, lc, oc, xc, ec, uc, hV, h3, hH, h6, h8, hB, hS0, hS1⟩, (ow_60.mono (by omega) (by omega))⟩
          · refine r_sipush (-1002) hb 49 dX9_score_46 rfl rfl ?_
            refine r_iret hS dX9_score_49 rfl rfl (Nat.zero_le _) (Nat.zero_le _) ?_
            have e : oSco B D l nx hs s0 s1 thr z f t = (iI (-1002), (B, (D, l, nx), hs, s0, s1, thr)) := by unfold oSco; rw [if_neg hno, if_pos (show rngN D f t 30 = false from decide_eq_false (by have := of_decide_eq_false c43; omega))]
            rw [e]
            exact ⟨_, rfl, rfl, rfl, hM, off.rfl' _ _ _⟩
      · refine r_sipush (-1001) hb 23 dX9_score_20 rfl rfl ?_
        refine r_iret hS dX9_score_23 rfl rfl (Nat.zero_le _) (Nat.zero_le _) ?_
        have e : oSco B D l nx hs s0 s1 thr z f t = (iI (-1001), (B, (D, l, nx), hs, s0, s1, thr)) := by unfold oSco; rw [if_pos (Or.inr c17)]
        rw [e]
        exact ⟨_, rfl, rfl, rfl, hM, off.rfl' _ _ _⟩
  · have hle := ixN_le l z
    refine r_topz (-1) (by unfold ixZ; rw [if_neg hf]) ?_
    refine r_istore [(4, .int (iI (-1))), (0, .ref mo), (1, .int (iI (z))), (2, .int (iI (f))), (3, .int (iI (t)))] hb 7 5 dX9_score_5 rfl hnL (by decide) rfl ?_
    refine r_iload hb 9 dX9_score_7 rfl 0 rfl ?_
    refine r_if_lt hb 12 20 dX9_score_9 rfl (by decide) (by omega) (fun c9 => ?_) (fun c9 => ?_)
    · refine r_sipush (-1001) hb 23 dX9_score_20 rfl rfl ?_
      refine r_iret hS dX9_score_23 rfl rfl (Nat.zero_le _) (Nat.zero_le _) ?_
      have e : oSco B D l nx hs s0 s1 thr z f t = (iI (-1001), (B, (D, l, nx), hs, s0, s1, thr)) := by unfold oSco; rw [if_pos (Or.inl (by omega))]
      rw [e]
      exact ⟨_, rfl, rfl, rfl, hM, off.rfl' _ _ _⟩
    · exfalso; omega
