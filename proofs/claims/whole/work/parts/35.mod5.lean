abbrev rm_X9_insert : Room := { frames := 2, cells := 0, slots := 0, locals := 46 }
set_option maxHeartbeats 4000000 in
set_option maxRecDepth 100000 in
theorem c_X9_insert (mo : Nat) (B D : List Int32) (l : List Nt) (nx : Nat) (hs : List Pg) (s0 s1 : Option (Pg × Int)) (thr : Int) (z : Int) {w : PW} {n : Nat} (hM : moE w mo B D l nx hs s0 s1 thr) (hzb : -2147483648 ≤ z ∧ z < 2147483648) (hok : pOk (D, l, nx)) : Ct1 yX9_insert cX9_insert 4 (some .int) rm_X9_insert [.ref mo, .int (iI (z))] w n (fun v w1 n1 => v = .int (oIns B D l nx hs s0 s1 thr z).1 ∧ n = n1 ∧ mo_ w1 mo (oIns B D l nx hs s0 s1 thr z).2 ∧ off w w1 mo (mo + 12)) := by
  obtain ⟨rg, g, sp, pa, kp, ik, bg, ln, od, sco, leo, smo, mc, vc, sc, pc, kc, ic, bc, lc, oc, xc, ec, uc, hV, h3, hH, h6, h8, hB, hS0, hS1⟩ := id hM
  have hD : vdp g D := hV.1
  have hP : vnp g l nx := hV.2
  have hDl := hD.2.2
  have hPl := hP.2.2.1
  have hnx := hP.2.2.2.1
  have hBl := hB.1
  have hHl := hH.1
  refine Ctr.of rfl (Nat.le_of_ble_eq_true rfl) fun S hS => ?_
  have hb : S.1.1 = cX9_insert := by rw [hS]; rfl
  have ho : S.1.2.1 = RX9 := by rw [hS]; rfl
  have hnL : S.1.2.2.1 = 4 := by rw [hS]; rfl
  have hR0 : S.2.1 = rm_X9_insert := by rw [hS]; rfl
  show Wp S 0 [(0, .ref mo), (1, .int (iI (z)))] [] w n 0 0
  refine r_aload_n hb 1 dX9_insert_0 rfl 0 rfl ?_
  refine r_iload_n hb 2 dX9_insert_1 rfl 1 rfl ?_
  refine r_callVR (st := []) hb ho 5 dX9_insert_2 rfl ck_X9_76 (c_X9_isPosition mo rg g D (z) mc vc hD (by omega)) rfl rfl (mc) rfl rfl (by rw [hR0]; exact ⟨Nat.le_of_ble_eq_true rfl, Nat.le_of_ble_eq_true rfl⟩) (Nat.le_of_ble_eq_true rfl) ⟨rfl, rfl⟩ (by rw [hR0]; exact Nat.zero_le _) (by rw [hR0]; exact Nat.zero_le _) ?_
  refine r_ifb_ne hb 8 12 dX9_insert_5 rfl (by decide) (fun c5 => ?_) (fun c5 => ?_)
  · refine r_aload_n hb 13 dX9_insert_12 rfl 0 rfl ?_
    refine r_get hb ho 16 dX9_insert_13 rfl lk_X9_7 pf_X9_0 mc rfl ?_
    refine r_iconst hb 17 dX9_insert_16 rfl ?_
    refine r_iald hb 18 dX9_insert_17 rfl vc 0 (by omega) (⟨by omega, by omega⟩) ?_
    refine r_topz ((((D).length : Nat) : Int)) (hD.1) ?_
    refine r_aload_n hb 19 dX9_insert_18 rfl 0 rfl ?_
    refine r_get hb ho 22 dX9_insert_19 rfl lk_X9_63 pf_X9_8 mc rfl ?_
    refine r_topv (.int (iI (((B.length : Nat) : Int)))) (congrArg (fun z => Value.int (iI z)) (by omega)) ?_
    refine r_iaddZ hb 23 ((((D).length : Nat) : Int) + ((B.length : Nat) : Int)) dX9_insert_22 rfl (by omega) ?_
    refine r_bipush 120 hb 25 dX9_insert_23 rfl rfl ?_
    refine r_icmp_le hb 28 32 dX9_insert_25 rfl (by decide) (by omega) (by omega) (fun c25 => ?_) (fun c25 => ?_)
    · refine r_aload_n hb 33 dX9_insert_32 rfl 0 rfl ?_
      obtain ⟨p, rfl⟩ : ∃ p : Nat, z = (p : Int) := ⟨z.toNat, by have := of_decide_eq_true c5; omega⟩
      have hpp := of_decide_eq_true c5
      refine r_callV0 (st := []) hb ho 36 dX9_insert_33 rfl ck_X9_66 (c_X9_begins mo rg g sp mc vc sc) rfl rfl (mc) rfl rfl (by rw [hR0]; exact ⟨Nat.le_of_ble_eq_true rfl, Nat.le_of_ble_eq_true rfl⟩) (Nat.le_of_ble_eq_true rfl) ⟨rfl, rfl⟩ (by rw [hR0]; exact Nat.zero_le _) (by rw [hR0]; exact Nat.zero_le _) (fun w_33 nw_33 qw_33 => ?_)
      obtain ⟨rfl, ⟨sp1, sc, spi⟩, ow_33⟩ := qw_33
      have hsp : vpo sp1 0 (D, l, nx) := vpg_o (hV.congr (fun i hi => spi i hi))
      have mc : w_33 mo = some (eO 9 [.ref (mo + 1), .ref (mo + 2), .ref (mo + 3), .int (iI ((rg 3))), .ref (mo + 4), .ref (mo + 5), .int (iI ((rg 6))), .ref (mo + 6), .int (iI ((rg 8))), .ref (mo + 7), .int (iI ((rg 10))), .int (iI ((rg 11))), .int (iI ((rg 12))), .int (iI ((rg 13))), .int (iI ((rg 14))), .ref (mo + 8), .int (iI ((rg 16))), .ref (mo + 9), .ref (mo + 10), .ref (mo + 11)]) := (ow_33 _ (by omega)).trans mc
      have vc : w_33 (mo + 1) = some (eI 483 g) := (ow_33 _ (by omega)).trans vc
      have pc : w_33 (mo + 3) = some (eI 2898 pa) := (ow_33 _ (by omega)).trans pc
      have kc : w_33 (mo + 4) = some (eI 968 kp) := (ow_33 _ (by omega)).trans kc
      have ic : w_33 (mo + 5) = some (eZ 2 ik) := (ow_33 _ (by omega)).trans ic
      have bc : w_33 (mo + 6) = some (eI 40 bg) := (ow_33 _ (by omega)).trans bc
      have lc : w_33 (mo + 7) = some (eI 17 (fun ii => iI ((ln ii : Nat) : Int))) := (ow_33 _ (by omega)).trans lc
      have oc : w_33 (mo + 8) = some (eI 10 (fun ii => iI ((od ii : Nat) : Int))) := (ow_33 _ (by omega)).trans oc
      have xc : w_33 (mo + 9) = some (eI 1210 (fun ii => iI (sco ii))) := (ow_33 _ (by omega)).trans xc
      have ec : w_33 (mo + 10) = some (eI 1210 (fun ii => iI (leo ii))) := (ow_33 _ (by omega)).trans ec
      have uc : w_33 (mo + 11) = some (eI 1331 (fun ii => iI (smo ii))) := (ow_33 _ (by omega)).trans uc
      refine r_aload_n hb 37 dX9_insert_36 rfl 0 rfl ?_
      refine r_get hb ho 40 dX9_insert_37 rfl lk_X9_7 pf_X9_0 mc rfl ?_
      refine r_iconst hb 41 dX9_insert_40 rfl ?_
      refine r_iald hb 42 dX9_insert_41 rfl vc 0 (by omega) (⟨by omega, by omega⟩) ?_
      refine r_topz ((((D).length : Nat) : Int)) (hD.1) ?_
      refine r_iconst hb 43 dX9_insert_42 rfl ?_
      refine r_isubZ hb 44 ((((D).length : Nat) : Int) - 1) dX9_insert_43 rfl (by omega) ?_
      refine r_istore_n [(2, .int (iI ((((D).length : Nat) : Int) - 1))), (0, .ref mo), (1, .int (iI (((p : Nat) : Int))))] hb 45 4 dX9_insert_44 rfl rfl hnL (by decide) rfl ?_
      have lp : ∀ (d : Nat) (i : Nat) (wi : PW) (gi : Nat → Int32), i = d → (p ≤ i ∧ i ≤ D.length) → (wi (mo + 1) = some (eI 483 gi)) → (wi mo = some (eO 9 [.ref (mo + 1), .ref (mo + 2), .ref (mo + 3), .int (iI ((rg 3))), .ref (mo + 4), .ref (mo + 5), .int (iI ((rg 6))), .ref (mo + 6), .int (iI ((rg 8))), .ref (mo + 7), .int (iI ((rg 10))), .int (iI ((rg 11))), .int (iI ((rg 12))), .int (iI ((rg 13))), .int (iI ((rg 14))), .ref (mo + 8), .int (iI ((rg 16))), .ref (mo + 9), .ref (mo + 10), .ref (mo + 11)])) → (wi (mo + 2) = some (eI 483 sp1)) → (wi (mo + 3) = some (eI 2898 pa)) → (wi (mo + 4) = some (eI 968 kp)) → (wi (mo + 5) = some (eZ 2 ik)) → (wi (mo + 6) = some (eI 40 bg)) → (wi (mo + 7) = some (eI 17 (fun ii => iI ((ln ii : Nat) : Int)))) → (wi (mo + 8) = some (eI 10 (fun ii => iI ((od ii : Nat) : Int)))) → (wi (mo + 9) = some (eI 1210 (fun ii => iI (sco ii)))) → (wi (mo + 10) = some (eI 1210 (fun ii => iI (leo ii)))) → (wi (mo + 11) = some (eI 1331 (fun ii => iI (smo ii)))) → (∀ q, i ≤ q → q < D.length → gi (1 + q + B.length) = D.getD q 0) → (∀ q, q < 1 + i + B.length ∨ 121 ≤ q → gi q = g q) → (off w wi mo (mo + 12)) → Wp S 45 [(2, .int (iI (((i : Nat) : Int) - 1))), (0, .ref mo), (1, .int (iI (((p : Nat) : Int))))] [] wi n 0 0 := by
        intro d
        induction d using Nat.strongRecOn with
        | _ d ih_lp =>
          intro i wi gi hd_lp hi vc mc sc pc kc ic bc lc oc xc ec uc qA qB hO
          refine r_iload_n hb 46 dX9_insert_45 rfl 0 rfl ?_
          refine r_iload_n hb 47 dX9_insert_46 rfl 2 rfl ?_
          refine r_icmp_lt hb 50 77 dX9_insert_47 rfl (by decide) (by omega) (by omega) (fun c47 => ?_) (fun c47 => ?_)
          · refine r_iconst hb 78 dX9_insert_77 rfl ?_
            refine r_istore_n [(2, .int (iI 0)), (0, .ref mo), (1, .int (iI (((p : Nat) : Int))))] hb 79 4 dX9_insert_78 rfl rfl hnL (by decide) rfl ?_
            have lj : ∀ (d : Nat) (j : Nat) (wi : PW) (gi : Nat → Int32), B.length - j = d → (j ≤ B.length) → (wi (mo + 1) = some (eI 483 gi)) → (wi mo = some (eO 9 [.ref (mo + 1), .ref (mo + 2), .ref (mo + 3), .int (iI ((rg 3))), .ref (mo + 4), .ref (mo + 5), .int (iI ((rg 6))), .ref (mo + 6), .int (iI ((rg 8))), .ref (mo + 7), .int (iI ((rg 10))), .int (iI ((rg 11))), .int (iI ((rg 12))), .int (iI ((rg 13))), .int (iI ((rg 14))), .ref (mo + 8), .int (iI ((rg 16))), .ref (mo + 9), .ref (mo + 10), .ref (mo + 11)])) → (wi (mo + 2) = some (eI 483 sp1)) → (wi (mo + 3) = some (eI 2898 pa)) → (wi (mo + 4) = some (eI 968 kp)) → (wi (mo + 5) = some (eZ 2 ik)) → (wi (mo + 6) = some (eI 40 bg)) → (wi (mo + 7) = some (eI 17 (fun ii => iI ((ln ii : Nat) : Int)))) → (wi (mo + 8) = some (eI 10 (fun ii => iI ((od ii : Nat) : Int)))) → (wi (mo + 9) = some (eI 1210 (fun ii => iI (sco ii)))) → (wi (mo + 10) = some (eI 1210 (fun ii => iI (leo ii)))) → (wi (mo + 11) = some (eI 1331 (fun ii => iI (smo ii)))) → (∀ q, q < j → gi (1 + p + q) = B.getD q 0) → (∀ q, p ≤ q → q < D.length → gi (1 + q + B.length) = D.getD q 0) → (∀ q, q < 1 + p ∨ 121 ≤ q → gi q = g q) → (off w wi mo (mo + 12)) → Wp S 79 [(2, .int (iI (((j : Nat) : Int)))), (0, .ref mo), (1, .int (iI (((p : Nat) : Int))))] [] wi n 0 0 := by
              intro d
              induction d using Nat.strongRecOn with
              | _ d ih_lj =>
                intro j wi gi hd_lj hj vc mc sc pc kc ic bc lc oc xc ec uc qJ qA qB hO
                refine r_iload_n hb 80 dX9_insert_79 rfl 0 rfl ?_
                refine r_aload_n hb 81 dX9_insert_80 rfl 1 rfl ?_
                refine r_get hb ho 84 dX9_insert_81 rfl lk_X9_63 pf_X9_8 mc rfl ?_
                refine r_topv (.int (iI (((B.length : Nat) : Int)))) (congrArg (fun z => Value.int (iI z)) (by omega)) ?_
                refine r_icmp_ge hb 87 109 dX9_insert_84 rfl (by decide) (by omega) (by omega) (fun c84 => ?_) (fun c84 => ?_)
                · refine r_aload_n hb 110 dX9_insert_109 rfl 1 rfl ?_
                  refine r_get hb ho 113 dX9_insert_110 rfl lk_X9_7 pf_X9_0 mc rfl ?_
                  refine r_iconst hb 114 dX9_insert_113 rfl ?_
                  refine r_dup2 hb 115 dX9_insert_114 rfl rfl rfl ?_
                  refine r_iald hb 116 dX9_insert_115 rfl vc 0 (by omega) (⟨by omega, by omega⟩) ?_
                  refine r_topz (((D.length : Nat) : Int)) ((qB 0 (by omega)).trans hD.1) ?_
                  refine r_aload_n hb 117 dX9_insert_116 rfl 1 rfl ?_
                  refine r_get hb ho 120 dX9_insert_117 rfl lk_X9_63 pf_X9_8 mc rfl ?_
                  refine r_topv (.int (iI (((B.length : Nat) : Int)))) (congrArg (fun z => Value.int (iI z)) (by omega)) ?_
                  refine r_iaddZ hb 121 (((D.length : Nat) : Int) + ((B.length : Nat) : Int)) dX9_insert_120 rfl (by omega) ?_
                  refine r_iast hb 122 dX9_insert_121 rfl vc 0 (by omega) (⟨by omega, by omega⟩) (fun w_121 hw_121 => ?_)
                  have ow_121 := pset_off hw_121
                  have xw_121 : w_121 (mo + 1) = some (eI 483 (upd gi 0 ((iI (((D.length : Nat) : Int) + ((B.length : Nat) : Int)))))) := by rw [hw_121]; exact pset_eq _ _ _
                  have mc : w_121 mo = some (eO 9 [.ref (mo + 1), .ref (mo + 2), .ref (mo + 3), .int (iI ((rg 3))), .ref (mo + 4), .ref (mo + 5), .int (iI ((rg 6))), .ref (mo + 6), .int (iI ((rg 8))), .ref (mo + 7), .int (iI ((rg 10))), .int (iI ((rg 11))), .int (iI ((rg 12))), .int (iI ((rg 13))), .int (iI ((rg 14))), .ref (mo + 8), .int (iI ((rg 16))), .ref (mo + 9), .ref (mo + 10), .ref (mo + 11)]) := (ow_121 _ (by omega)).trans mc
                  have sc : w_121 (mo + 2) = some (eI 483 sp1) := (ow_121 _ (by omega)).trans sc
                  have pc : w_121 (mo + 3) = some (eI 2898 pa) := (ow_121 _ (by omega)).trans pc
                  have kc : w_121 (mo + 4) = some (eI 968 kp) := (ow_121 _ (by omega)).trans kc
                  have ic : w_121 (mo + 5) = some (eZ 2 ik) := (ow_121 _ (by omega)).trans ic
                  have bc : w_121 (mo + 6) = some (eI 40 bg) := (ow_121 _ (by omega)).trans bc
                  have lc : w_121 (mo + 7) = some (eI 17 (fun ii => iI ((ln ii : Nat) : Int))) := (ow_121 _ (by omega)).trans lc
                  have oc : w_121 (mo + 8) = some (eI 10 (fun ii => iI ((od ii : Nat) : Int))) := (ow_121 _ (by omega)).trans oc
                  have xc : w_121 (mo + 9) = some (eI 1210 (fun ii => iI (sco ii))) := (ow_121 _ (by omega)).trans xc
                  have ec : w_121 (mo + 10) = some (eI 1210 (fun ii => iI (leo ii))) := (ow_121 _ (by omega)).trans ec
                  have uc : w_121 (mo + 11) = some (eI 1331 (fun ii => iI (smo ii))) := (ow_121 _ (by omega)).trans uc
                  refine r_iconst hb 123 dX9_insert_122 rfl ?_
                  refine r_istore_n [(2, .int (iI 0)), (0, .ref mo), (1, .int (iI (((p : Nat) : Int))))] hb 124 4 dX9_insert_123 rfl rfl hnL (by decide) rfl ?_
                  have lk : ∀ (d : Nat) (k : Nat) (wi : PW) (gi : Nat → Int32), l.length - k = d → (k ≤ l.length) → (wi (mo + 1) = some (eI 483 gi)) → (wi mo = some (eO 9 [.ref (mo + 1), .ref (mo + 2), .ref (mo + 3), .int (iI ((rg 3))), .ref (mo + 4), .ref (mo + 5), .int (iI ((rg 6))), .ref (mo + 6), .int (iI ((rg 8))), .ref (mo + 7), .int (iI ((rg 10))), .int (iI ((rg 11))), .int (iI ((rg 12))), .int (iI ((rg 13))), .int (iI ((rg 14))), .ref (mo + 8), .int (iI ((rg 16))), .ref (mo + 9), .ref (mo + 10), .ref (mo + 11)])) → (wi (mo + 2) = some (eI 483 sp1)) → (wi (mo + 3) = some (eI 2898 pa)) → (wi (mo + 4) = some (eI 968 kp)) → (wi (mo + 5) = some (eZ 2 ik)) → (wi (mo + 6) = some (eI 40 bg)) → (wi (mo + 7) = some (eI 17 (fun ii => iI ((ln ii : Nat) : Int)))) → (wi (mo + 8) = some (eI 10 (fun ii => iI ((od ii : Nat) : Int)))) → (wi (mo + 9) = some (eI 1210 (fun ii => iI (sco ii)))) → (wi (mo + 10) = some (eI 1210 (fun ii => iI (leo ii)))) → (wi (mo + 11) = some (eI 1331 (fun ii => iI (smo ii)))) → (vdp gi (putL D p B)) → (gi 121 = iI ((nx : Nat) : Int)) → (gi 122 = iI ((l.length : Nat) : Int)) → (vnx gi (fun m => if m < k then mvIns p B.length (lg l m) else lg l m) l.length) → (off w wi mo (mo + 12)) → Wp S 124 [(2, .int (iI (((k : Nat) : Int)))), (0, .ref mo), (1, .int (iI (((p : Nat) : Int))))] [] wi n 0 0 := by
                    intro d
                    induction d using Nat.strongRecOn with
                    | _ d ih_lk =>
                      intro k wi gi hd_lk hk vc mc sc pc kc ic bc lc oc xc ec uc hDi q1 q2 hXi hO
                      refine r_iload_n hb 125 dX9_insert_124 rfl 0 rfl ?_
                      refine r_aload_n hb 126 dX9_insert_125 rfl 1 rfl ?_
                      refine r_get hb ho 129 dX9_insert_126 rfl lk_X9_7 pf_X9_0 mc rfl ?_
                      refine r_bipush 122 hb 131 dX9_insert_129 rfl rfl ?_
                      refine r_iald hb 132 dX9_insert_131 rfl vc 122 (by omega) (⟨by omega, by omega⟩) ?_
                      refine r_topz (((l.length : Nat) : Int)) (q2) ?_
                      refine r_icmp_ge hb 135 225 dX9_insert_132 rfl (by decide) (by omega) (by omega) (fun c132 => ?_) (fun c132 => ?_)
                      · refine r_aload_n hb 226 dX9_insert_225 rfl 1 rfl ?_
                        refine r_aload_n hb 227 dX9_insert_226 rfl 1 rfl ?_
                        refine r_get hb ho 230 dX9_insert_227 rfl lk_X9_7 pf_X9_0 mc rfl ?_
                        refine r_iconst hb 231 dX9_insert_230 rfl ?_
                        refine r_iald hb 232 dX9_insert_231 rfl vc 0 (by omega) (⟨by omega, by omega⟩) ?_
                        refine r_topz ((((D.length + B.length : Nat) : Nat) : Int)) (hDi.1.trans (by rw [putL_len (by omega)])) ?_
                        refine r_callV1 (st := []) hb ho 235 dX9_insert_232 rfl ck_X9_72 (c_X9_made mo rg sp1 pa hs (D, l, nx) (iI ((((D.length + B.length : Nat) : Nat) : Int))) mc sc pc h3 hH hsp) rfl rfl (mc) rfl rfl (by rw [hR0]; exact ⟨Nat.le_of_ble_eq_true rfl, Nat.le_of_ble_eq_true rfl⟩) (Nat.le_of_ble_eq_true rfl) ⟨rfl, rfl⟩ (by rw [hR0]; exact Nat.zero_le _) (by rw [hR0]; exact Nat.zero_le _) (fun vw_232 w_232 nw_232 qw_232 => ?_)
                        obtain ⟨rfl, rfl, ⟨rg3, pa1, mc, hF3, h3, pc, hH⟩, ow_232⟩ := qw_232
                        have h6 := (hF3 6 (by decide)).trans h6
                        have h8 := (hF3 8 (by decide)).trans h8
                        have vc : w_232 (mo + 1) = some (eI 483 gi) := (ow_232 _ (by omega) (by omega)).trans vc
                        have sc : w_232 (mo + 2) = some (eI 483 sp1) := (ow_232 _ (by omega) (by omega)).trans sc
                        have kc : w_232 (mo + 4) = some (eI 968 kp) := (ow_232 _ (by omega) (by omega)).trans kc
                        have ic : w_232 (mo + 5) = some (eZ 2 ik) := (ow_232 _ (by omega) (by omega)).trans ic
                        have bc : w_232 (mo + 6) = some (eI 40 bg) := (ow_232 _ (by omega) (by omega)).trans bc
                        have lc : w_232 (mo + 7) = some (eI 17 (fun ii => iI ((ln ii : Nat) : Int))) := (ow_232 _ (by omega) (by omega)).trans lc
                        have oc : w_232 (mo + 8) = some (eI 10 (fun ii => iI ((od ii : Nat) : Int))) := (ow_232 _ (by omega) (by omega)).trans oc
                        have xc : w_232 (mo + 9) = some (eI 1210 (fun ii => iI (sco ii))) := (ow_232 _ (by omega) (by omega)).trans xc
                        have ec : w_232 (mo + 10) = some (eI 1210 (fun ii => iI (leo ii))) := (ow_232 _ (by omega) (by omega)).trans ec
                        have uc : w_232 (mo + 11) = some (eI 1331 (fun ii => iI (smo ii))) := (ow_232 _ (by omega) (by omega)).trans uc
                        refine r_iret hS dX9_insert_235 rfl rfl (Nat.zero_le _) (Nat.zero_le _) ?_
                        have ek : k = l.length := by omega
                        subst ek
                        have hV1 : vpg gi (putL D p B, l.map (mvIns p B.length), nx) := ⟨hDi, q1, by rw [List.length_map]; exact q2, by rw [List.length_map]; exact hPl, hnx, vnx_map hXi⟩
                        have e : oIns B D l nx hs s0 s1 thr ((p : Nat) : Int) = (iI ((D.length + B.length : Nat) : Int), stP B D l nx hs s0 s1 thr (putL D p B, l.map (mvIns p B.length), nx)) := by unfold oIns; rw [if_neg (by rw [c5]; decide), if_neg (by omega)]; rfl
                        rw [e]
                        exact ⟨_, rfl, rfl, rfl, ⟨rg3, gi, sp1, pa1, kp, ik, bg, ln, od, sco, leo, smo, mc, vc, sc, pc, kc, ic, bc, lc, oc, xc, ec, uc, hV1, h3, hH, h6, h8, hB, hS0, hS1⟩, (hO.trans (ow_232.cov (by omega) (by omega) (by omega) (by omega)))⟩
                      · have hN := vnx_at hXi (by omega : k < l.length)
                        obtain ⟨n0, n1, n2, n3, n4, n5, n6, n7, n8, n9, n10, n11, n12, n13⟩ := id (hN)
                        have hnk : nB (lg l k) ≤ nE (lg l k) ∧ nE (lg l k) ≤ D.length ∧ nNum (lg l k) < nx := (hok.2.2.2.1 k (show k < l.length by omega)).2
                        refine r_aload_n hb 136 dX9_insert_135 rfl 1 rfl ?_
                        refine r_get hb ho 139 dX9_insert_136 rfl lk_X9_7 pf_X9_0 mc rfl ?_
                        refine r_iload_n hb 140 dX9_insert_139 rfl 0 rfl ?_
                        refine r_iconst hb 141 dX9_insert_140 rfl ?_
                        refine r_callSR (st := [.ref (mo + 1)]) hb ho 144 dX9_insert_141 rfl ck_X9_48 (c_X9_at (((k : Nat) : Int)) 2 (36 * ((k : Nat) : Int) + 125) (by omega)) rfl rfl (by rw [hR0]; exact ⟨Nat.le_of_ble_eq_true rfl, Nat.le_of_ble_eq_true rfl⟩) (Nat.le_of_ble_eq_true rfl) ⟨rfl, rfl⟩ (by rw [hR0]; exact Nat.zero_le _) (by rw [hR0]; exact Nat.zero_le _) ?_
                        refine r_iald hb 145 dX9_insert_144 rfl vc (123 + 36 * k + 2) (by omega) (⟨by omega, by omega⟩) ?_
                        refine r_topz (((nB (lg l k) : Nat) : Int)) (n2) ?_
                        refine r_iload_n hb 146 dX9_insert_145 rfl 2 rfl ?_
                        refine r_icmp_lt hb 149 153 dX9_insert_146 rfl (by decide) (by omega) (by omega) (fun c146 => ?_) (fun c146 => ?_)
                        · refine r_iconst hb 154 dX9_insert_153 rfl ?_
                          refine r_istore_n [(3, .int (iI 0)), (2, .int (iI (((k : Nat) : Int)))), (0, .ref mo), (1, .int (iI (((p : Nat) : Int))))] hb 155 4 dX9_insert_154 rfl rfl hnL (by decide) rfl ?_
                          refine r_aload_n hb 156 dX9_insert_155 rfl 2 rfl ?_
                          refine r_get hb ho 159 dX9_insert_156 rfl lk_X9_7 pf_X9_0 mc rfl ?_
                          refine r_iload_n hb 160 dX9_insert_159 rfl 1 rfl ?_
                          refine r_iconst hb 161 dX9_insert_160 rfl ?_
                          refine r_callSR (st := [.ref (mo + 1)]) hb ho 164 dX9_insert_161 rfl ck_X9_48 (c_X9_at (((k : Nat) : Int)) 3 (36 * ((k : Nat) : Int) + 126) (by omega)) rfl rfl (by rw [hR0]; exact ⟨Nat.le_of_ble_eq_true rfl, Nat.le_of_ble_eq_true rfl⟩) (Nat.le_of_ble_eq_true rfl) ⟨rfl, rfl⟩ (by rw [hR0]; exact Nat.zero_le _) (by rw [hR0]; exact Nat.zero_le _) ?_
                          refine r_dup2 hb 165 dX9_insert_164 rfl rfl rfl ?_
                          refine r_iald hb 166 dX9_insert_165 rfl vc (123 + 36 * k + 3) (by omega) (⟨by omega, by omega⟩) ?_
                          refine r_topz (((nE (lg l k) : Nat) : Int)) (n3) ?_
                          refine r_iload_n hb 167 dX9_insert_166 rfl 0 rfl ?_
                          refine r_if_ne hb 170 184 dX9_insert_167 rfl (by decide) (by omega) (fun c167 => ?_) (fun c167 => ?_)
                          · exfalso; omega
                          · refine r_aload_n hb 171 dX9_insert_170 rfl 2 rfl ?_
                            refine r_get hb ho 174 dX9_insert_171 rfl lk_X9_7 pf_X9_0 mc rfl ?_
                            refine r_iload_n hb 175 dX9_insert_174 rfl 1 rfl ?_
                            refine r_iconst hb 176 dX9_insert_175 rfl ?_
                            refine r_callSR (st := [.ref (mo + 1), .int (iI (((nE (lg l k) : Nat) : Int))), .int (iI (36 * ((k : Nat) : Int) + 126)), .ref (mo + 1)]) hb ho 179 dX9_insert_176 rfl ck_X9_48 (c_X9_at (((k : Nat) : Int)) 3 (36 * ((k : Nat) : Int) + 126) (by omega)) rfl rfl (by rw [hR0]; exact ⟨Nat.le_of_ble_eq_true rfl, Nat.le_of_ble_eq_true rfl⟩) (Nat.le_of_ble_eq_true rfl) ⟨rfl, rfl⟩ (by rw [hR0]; exact Nat.zero_le _) (by rw [hR0]; exact Nat.zero_le _) ?_
                            refine r_iald hb 180 dX9_insert_179 rfl vc (123 + 36 * k + 3) (by omega) (⟨by omega, by omega⟩) ?_
                            refine r_topz (((nE (lg l k) : Nat) : Int)) (n3) ?_
                            refine r_iload_n hb 181 dX9_insert_180 rfl 3 rfl ?_
                            refine r_icmp_le hb 184 191 dX9_insert_181 rfl (by decide) (by omega) (by omega) (fun c181 => ?_) (fun c181 => ?_)
                            · refine r_iconst hb 192 dX9_insert_191 rfl ?_
                              refine r_iaddZ hb 193 (((nE (lg l k) : Nat) : Int)) dX9_insert_192 rfl (by omega) ?_
                              refine r_iast hb 194 dX9_insert_193 rfl vc (123 + 36 * k + 3) (by omega) (⟨by omega, by omega⟩) (fun w_193 hw_193 => ?_)
                              have ow_193 := pset_off hw_193
                              have xw_193 : w_193 (mo + 1) = some (eI 483 (upd gi (123 + 36 * k + 3) ((iI (((nE (lg l k) : Nat) : Int)))))) := by rw [hw_193]; exact pset_eq _ _ _
                              have mc : w_193 mo = some (eO 9 [.ref (mo + 1), .ref (mo + 2), .ref (mo + 3), .int (iI ((rg 3))), .ref (mo + 4), .ref (mo + 5), .int (iI ((rg 6))), .ref (mo + 6), .int (iI ((rg 8))), .ref (mo + 7), .int (iI ((rg 10))), .int (iI ((rg 11))), .int (iI ((rg 12))), .int (iI ((rg 13))), .int (iI ((rg 14))), .ref (mo + 8), .int (iI ((rg 16))), .ref (mo + 9), .ref (mo + 10), .ref (mo + 11)]) := (ow_193 _ (by omega)).trans mc
                              have sc : w_193 (mo + 2) = some (eI 483 sp1) := (ow_193 _ (by omega)).trans sc
                              have pc : w_193 (mo + 3) = some (eI 2898 pa) := (ow_193 _ (by omega)).trans pc
                              have kc : w_193 (mo + 4) = some (eI 968 kp) := (ow_193 _ (by omega)).trans kc
                              have ic : w_193 (mo + 5) = some (eZ 2 ik) := (ow_193 _ (by omega)).trans ic
                              have bc : w_193 (mo + 6) = some (eI 40 bg) := (ow_193 _ (by omega)).trans bc
                              have lc : w_193 (mo + 7) = some (eI 17 (fun ii => iI ((ln ii : Nat) : Int))) := (ow_193 _ (by omega)).trans lc
                              have oc : w_193 (mo + 8) = some (eI 10 (fun ii => iI ((od ii : Nat) : Int))) := (ow_193 _ (by omega)).trans oc
                              have xc : w_193 (mo + 9) = some (eI 1210 (fun ii => iI (sco ii))) := (ow_193 _ (by omega)).trans xc
                              have ec : w_193 (mo + 10) = some (eI 1210 (fun ii => iI (leo ii))) := (ow_193 _ (by omega)).trans ec
                              have uc : w_193 (mo + 11) = some (eI 1331 (fun ii => iI (smo ii))) := (ow_193 _ (by omega)).trans uc
                              refine r_aload_n hb 195 dX9_insert_194 rfl 2 rfl ?_
                              refine r_get hb ho 198 dX9_insert_195 rfl lk_X9_7 pf_X9_0 mc rfl ?_
                              refine r_iload_n hb 199 dX9_insert_198 rfl 1 rfl ?_
                              refine r_iconst hb 200 dX9_insert_199 rfl ?_
                              refine r_callSR (st := [.ref (mo + 1)]) hb ho 203 dX9_insert_200 rfl ck_X9_48 (c_X9_at (((k : Nat) : Int)) 2 (36 * ((k : Nat) : Int) + 125) (by omega)) rfl rfl (by rw [hR0]; exact ⟨Nat.le_of_ble_eq_true rfl, Nat.le_of_ble_eq_true rfl⟩) (Nat.le_of_ble_eq_true rfl) ⟨rfl, rfl⟩ (by rw [hR0]; exact Nat.zero_le _) (by rw [hR0]; exact Nat.zero_le _) ?_
                              refine r_dup2 hb 204 dX9_insert_203 rfl rfl rfl ?_
                              refine r_iald hb 205 dX9_insert_204 rfl xw_193 (123 + 36 * k + 2) (by omega) (⟨by omega, by omega⟩) ?_
                              refine r_topz (((nB (lg l k) : Nat) : Int)) ((pk_un (by omega)).trans n2) ?_
                              refine r_iload_n hb 206 dX9_insert_205 rfl 0 rfl ?_
                              refine r_if_eq hb 209 216 dX9_insert_206 rfl (by decide) (by omega) (fun c206 => ?_) (fun c206 => ?_)
                              · refine r_iconst hb 217 dX9_insert_216 rfl ?_
                                refine r_iaddZ hb 218 (((nB (lg l k) : Nat) : Int)) dX9_insert_217 rfl (by omega) ?_
                                refine r_iast hb 219 dX9_insert_218 rfl xw_193 (123 + 36 * k + 2) (by omega) (⟨by omega, by omega⟩) (fun w_218 hw_218 => ?_)
                                have ow_218 := pset_off hw_218
                                have xw_218 : w_218 (mo + 1) = some (eI 483 (upd (upd gi (123 + 36 * k + 3) ((iI (((nE (lg l k) : Nat) : Int))))) (123 + 36 * k + 2) ((iI (((nB (lg l k) : Nat) : Int)))))) := by rw [hw_218]; exact pset_eq _ _ _
                                have mc : w_218 mo = some (eO 9 [.ref (mo + 1), .ref (mo + 2), .ref (mo + 3), .int (iI ((rg 3))), .ref (mo + 4), .ref (mo + 5), .int (iI ((rg 6))), .ref (mo + 6), .int (iI ((rg 8))), .ref (mo + 7), .int (iI ((rg 10))), .int (iI ((rg 11))), .int (iI ((rg 12))), .int (iI ((rg 13))), .int (iI ((rg 14))), .ref (mo + 8), .int (iI ((rg 16))), .ref (mo + 9), .ref (mo + 10), .ref (mo + 11)]) := (ow_218 _ (by omega)).trans mc
                                have sc : w_218 (mo + 2) = some (eI 483 sp1) := (ow_218 _ (by omega)).trans sc
                                have pc : w_218 (mo + 3) = some (eI 2898 pa) := (ow_218 _ (by omega)).trans pc
                                have kc : w_218 (mo + 4) = some (eI 968 kp) := (ow_218 _ (by omega)).trans kc
                                have ic : w_218 (mo + 5) = some (eZ 2 ik) := (ow_218 _ (by omega)).trans ic
                                have bc : w_218 (mo + 6) = some (eI 40 bg) := (ow_218 _ (by omega)).trans bc
                                have lc : w_218 (mo + 7) = some (eI 17 (fun ii => iI ((ln ii : Nat) : Int))) := (ow_218 _ (by omega)).trans lc
                                have oc : w_218 (mo + 8) = some (eI 10 (fun ii => iI ((od ii : Nat) : Int))) := (ow_218 _ (by omega)).trans oc
                                have xc : w_218 (mo + 9) = some (eI 1210 (fun ii => iI (sco ii))) := (ow_218 _ (by omega)).trans xc
                                have ec : w_218 (mo + 10) = some (eI 1210 (fun ii => iI (leo ii))) := (ow_218 _ (by omega)).trans ec
                                have uc : w_218 (mo + 11) = some (eI 1331 (fun ii => iI (smo ii))) := (ow_218 _ (by omega)).trans uc
                                refine r_iinc [(2, .int (iI (((k : Nat) : Int) + 1))), (3, .int (iI 0)), (0, .ref mo), (1, .int (iI (((p : Nat) : Int))))] hb 222 4 1 dX9_insert_219 rfl rfl hnL (by decide) (((k : Nat) : Int) + 1) (by omega) rfl ?_
                                refine r_goto hb 124 dX9_insert_222 (by decide) ?_
                                refine r_lv [(2, .int (iI (((k + 1 : Nat) : Int)))), (0, .ref mo), (1, .int (iI (((p : Nat) : Int))))] [0, 2, 3] rfl ?_
                                refine ih_lk (l.length - (k + 1)) (by omega) (k + 1) _ _ rfl (by omega) xw_218 mc sc pc kc ic bc lc oc xc ec uc ?_ ?_ ?_ ?_ (hO.trans ((ow_193.mono (by omega) (by omega)).trans (ow_218.mono (by omega) (by omega))))
                                · exact hDi.congr (fun q hq => by rw [pk_un (by omega), pk_un (by omega)])
                                · rw [pk_un (by omega), pk_un (by omega)]; exact q1
                                · rw [pk_un (by omega), pk_un (by omega)]; exact q2
                                · have e1 : nB (mvIns p B.length (lg l k)) = nB (lg l k) := if_neg (by omega)
                                  have e2 : nE (mvIns p B.length (lg l k)) = nE (lg l k) := if_neg (by omega)
                                  refine vnx_step (ys := fun m => mvIns p B.length (lg l m)) hXi (vnt_head hN (fun q h1 h2 => ?_) ?_ ?_ ?_ ?_ ?_ rfl ⟨n11, ?_, ?_⟩) (fun q hq => ?_)
                                  · rw [pk_un (by omega), pk_un (by omega)]
                                  · rw [pk_un (by omega), pk_un (by omega)]; exact n0
                                  · rw [pk_un (by omega), pk_un (by omega)]; exact n1
                                  · exact pk_us.trans (congrArg iI (by omega))
                                  · exact (pk_un (by omega)).trans (pk_us.trans (congrArg iI (by omega)))
                                  · rw [pk_un (by omega), pk_un (by omega)]; exact n4
                                  · rw [e1]; omega
                                  · rw [e2]; omega
                                  · rw [pk_un (by omega), pk_un (by omega)]
                              · exfalso; omega
                            · refine r_aload_n hb 185 dX9_insert_184 rfl 2 rfl ?_
                              refine r_get hb ho 188 dX9_insert_185 rfl lk_X9_63 pf_X9_8 mc rfl ?_
                              refine r_topv (.int (iI (((B.length : Nat) : Int)))) (congrArg (fun z => Value.int (iI z)) (by omega)) ?_
                              refine r_goto hb 192 dX9_insert_188 (by decide) ?_
                              refine r_iaddZ hb 193 (((nE (lg l k) : Nat) : Int) + ((B.length : Nat) : Int)) dX9_insert_192 rfl (by omega) ?_
                              refine r_iast hb 194 dX9_insert_193 rfl vc (123 + 36 * k + 3) (by omega) (⟨by omega, by omega⟩) (fun w_193 hw_193 => ?_)
                              have ow_193 := pset_off hw_193
                              have xw_193 : w_193 (mo + 1) = some (eI 483 (upd gi (123 + 36 * k + 3) ((iI (((nE (lg l k) : Nat) : Int) + ((B.length : Nat) : Int)))))) := by rw [hw_193]; exact pset_eq _ _ _
                              have mc : w_193 mo = some (eO 9 [.ref (mo + 1), .ref (mo + 2), .ref (mo + 3), .int (iI ((rg 3))), .ref (mo + 4), .ref (mo + 5), .int (iI ((rg 6))), .ref (mo + 6), .int (iI ((rg 8))), .ref (mo + 7), .int (iI ((rg 10))), .int (iI ((rg 11))), .int (iI ((rg 12))), .int (iI ((rg 13))), .int (iI ((rg 14))), .ref (mo + 8), .int (iI ((rg 16))), .ref (mo + 9), .ref (mo + 10), .ref (mo + 11)]) := (ow_193 _ (by omega)).trans mc
                              have sc : w_193 (mo + 2) = some (eI 483 sp1) := (ow_193 _ (by omega)).trans sc
                              have pc : w_193 (mo + 3) = some (eI 2898 pa) := (ow_193 _ (by omega)).trans pc
                              have kc : w_193 (mo + 4) = some (eI 968 kp) := (ow_193 _ (by omega)).trans kc
                              have ic : w_193 (mo + 5) = some (eZ 2 ik) := (ow_193 _ (by omega)).trans ic
                              have bc : w_193 (mo + 6) = some (eI 40 bg) := (ow_193 _ (by omega)).trans bc
                              have lc : w_193 (mo + 7) = some (eI 17 (fun ii => iI ((ln ii : Nat) : Int))) := (ow_193 _ (by omega)).trans lc
                              have oc : w_193 (mo + 8) = some (eI 10 (fun ii => iI ((od ii : Nat) : Int))) := (ow_193 _ (by omega)).trans oc
                              have xc : w_193 (mo + 9) = some (eI 1210 (fun ii => iI (sco ii))) := (ow_193 _ (by omega)).trans xc
                              have ec : w_193 (mo + 10) = some (eI 1210 (fun ii => iI (leo ii))) := (ow_193 _ (by omega)).trans ec
                              have uc : w_193 (mo + 11) = some (eI 1331 (fun ii => iI (smo ii))) := (ow_193 _ (by omega)).trans uc
                              refine r_aload_n hb 195 dX9_insert_194 rfl 2 rfl ?_
                              refine r_get hb ho 198 dX9_insert_195 rfl lk_X9_7 pf_X9_0 mc rfl ?_
                              refine r_iload_n hb 199 dX9_insert_198 rfl 1 rfl ?_
                              refine r_iconst hb 200 dX9_insert_199 rfl ?_
                              refine r_callSR (st := [.ref (mo + 1)]) hb ho 203 dX9_insert_200 rfl ck_X9_48 (c_X9_at (((k : Nat) : Int)) 2 (36 * ((k : Nat) : Int) + 125) (by omega)) rfl rfl (by rw [hR0]; exact ⟨Nat.le_of_ble_eq_true rfl, Nat.le_of_ble_eq_true rfl⟩) (Nat.le_of_ble_eq_true rfl) ⟨rfl, rfl⟩ (by rw [hR0]; exact Nat.zero_le _) (by rw [hR0]; exact Nat.zero_le _) ?_
                              refine r_dup2 hb 204 dX9_insert_203 rfl rfl rfl ?_
                              refine r_iald hb 205 dX9_insert_204 rfl xw_193 (123 + 36 * k + 2) (by omega) (⟨by omega, by omega⟩) ?_
                              refine r_topz (((nB (lg l k) : Nat) : Int)) ((pk_un (by omega)).trans n2) ?_
                              refine r_iload_n hb 206 dX9_insert_205 rfl 0 rfl ?_
                              refine r_if_eq hb 209 216 dX9_insert_206 rfl (by decide) (by omega) (fun c206 => ?_) (fun c206 => ?_)
                              · refine r_iconst hb 217 dX9_insert_216 rfl ?_
                                refine r_iaddZ hb 218 (((nB (lg l k) : Nat) : Int)) dX9_insert_217 rfl (by omega) ?_
                                refine r_iast hb 219 dX9_insert_218 rfl xw_193 (123 + 36 * k + 2) (by omega) (⟨by omega, by omega⟩) (fun w_218 hw_218 => ?_)
                                have ow_218 := pset_off hw_218
                                have xw_218 : w_218 (mo + 1) = some (eI 483 (upd (upd gi (123 + 36 * k + 3) ((iI (((nE (lg l k) : Nat) : Int) + ((B.length : Nat) : Int))))) (123 + 36 * k + 2) ((iI (((nB (lg l k) : Nat) : Int)))))) := by rw [hw_218]; exact pset_eq _ _ _
                                have mc : w_218 mo = some (eO 9 [.ref (mo + 1), .ref (mo + 2), .ref (mo + 3), .int (iI ((rg 3))), .ref (mo + 4), .ref (mo + 5), .int (iI ((rg 6))), .ref (mo + 6), .int (iI ((rg 8))), .ref (mo + 7), .int (iI ((rg 10))), .int (iI ((rg 11))), .int (iI ((rg 12))), .int (iI ((rg 13))), .int (iI ((rg 14))), .ref (mo + 8), .int (iI ((rg 16))), .ref (mo + 9), .ref (mo + 10), .ref (mo + 11)]) := (ow_218 _ (by omega)).trans mc
                                have sc : w_218 (mo + 2) = some (eI 483 sp1) := (ow_218 _ (by omega)).trans sc
                                have pc : w_218 (mo + 3) = some (eI 2898 pa) := (ow_218 _ (by omega)).trans pc
                                have kc : w_218 (mo + 4) = some (eI 968 kp) := (ow_218 _ (by omega)).trans kc
                                have ic : w_218 (mo + 5) = some (eZ 2 ik) := (ow_218 _ (by omega)).trans ic
                                have bc : w_218 (mo + 6) = some (eI 40 bg) := (ow_218 _ (by omega)).trans bc
                                have lc : w_218 (mo + 7) = some (eI 17 (fun ii => iI ((ln ii : Nat) : Int))) := (ow_218 _ (by omega)).trans lc
                                have oc : w_218 (mo + 8) = some (eI 10 (fun ii => iI ((od ii : Nat) : Int))) := (ow_218 _ (by omega)).trans oc
                                have xc : w_218 (mo + 9) = some (eI 1210 (fun ii => iI (sco ii))) := (ow_218 _ (by omega)).trans xc
                                have ec : w_218 (mo + 10) = some (eI 1210 (fun ii => iI (leo ii))) := (ow_218 _ (by omega)).trans ec
                                have uc : w_218 (mo + 11) = some (eI 1331 (fun ii => iI (smo ii))) := (ow_218 _ (by omega)).trans uc
                                refine r_iinc [(2, .int (iI (((k : Nat) : Int) + 1))), (3, .int (iI 0)), (0, .ref mo), (1, .int (iI (((p : Nat) : Int))))] hb 222 4 1 dX9_insert_219 rfl rfl hnL (by decide) (((k : Nat) : Int) + 1) (by omega) rfl ?_
                                refine r_goto hb 124 dX9_insert_222 (by decide) ?_
                                refine r_lv [(2, .int (iI (((k + 1 : Nat) : Int)))), (0, .ref mo), (1, .int (iI (((p : Nat) : Int))))] [0, 2, 3] rfl ?_
                                refine ih_lk (l.length - (k + 1)) (by omega) (k + 1) _ _ rfl (by omega) xw_218 mc sc pc kc ic bc lc oc xc ec uc ?_ ?_ ?_ ?_ (hO.trans ((ow_193.mono (by omega) (by omega)).trans (ow_218.mono (by omega) (by omega))))
                                · exact hDi.congr (fun q hq => by rw [pk_un (by omega), pk_un (by omega)])
                                · rw [pk_un (by omega), pk_un (by omega)]; exact q1
                                · rw [pk_un (by omega), pk_un (by omega)]; exact q2
                                · have e1 : nB (mvIns p B.length (lg l k)) = nB (lg l k) := if_neg (by omega)
                                  have e2 : nE (mvIns p B.length (lg l k)) = nE (lg l k) + B.length := if_pos (by omega)
                                  refine vnx_step (ys := fun m => mvIns p B.length (lg l m)) hXi (vnt_head hN (fun q h1 h2 => ?_) ?_ ?_ ?_ ?_ ?_ rfl ⟨n11, ?_, ?_⟩) (fun q hq => ?_)
                                  · rw [pk_un (by omega), pk_un (by omega)]
                                  · rw [pk_un (by omega), pk_un (by omega)]; exact n0
                                  · rw [pk_un (by omega), pk_un (by omega)]; exact n1
                                  · exact pk_us.trans (congrArg iI (by omega))
                                  · exact (pk_un (by omega)).trans (pk_us.trans (congrArg iI (by omega)))
                                  · rw [pk_un (by omega), pk_un (by omega)]; exact n4
                                  · rw [e1]; omega
                                  · rw [e2]; omega
                                  · rw [pk_un (by omega), pk_un (by omega)]
                              · exfalso; omega
                        · refine r_iconst hb 150 dX9_insert_149 rfl ?_
                          refine r_goto hb 154 dX9_insert_150 (by decide) ?_
                          refine r_istore_n [(3, .int (iI 1)), (2, .int (iI (((k : Nat) : Int)))), (0, .ref mo), (1, .int (iI (((p : Nat) : Int))))] hb 155 4 dX9_insert_154 rfl rfl hnL (by decide) rfl ?_
                          refine r_aload_n hb 156 dX9_insert_155 rfl 2 rfl ?_
                          refine r_get hb ho 159 dX9_insert_156 rfl lk_X9_7 pf_X9_0 mc rfl ?_
                          refine r_iload_n hb 160 dX9_insert_159 rfl 1 rfl ?_
                          refine r_iconst hb 161 dX9_insert_160 rfl ?_
                          refine r_callSR (st := [.ref (mo + 1)]) hb ho 164 dX9_insert_161 rfl ck_X9_48 (c_X9_at (((k : Nat) : Int)) 3 (36 * ((k : Nat) : Int) + 126) (by omega)) rfl rfl (by rw [hR0]; exact ⟨Nat.le_of_ble_eq_true rfl, Nat.le_of_ble_eq_true rfl⟩) (Nat.le_of_ble_eq_true rfl) ⟨rfl, rfl⟩ (by rw [hR0]; exact Nat.zero_le _) (by rw [hR0]; exact Nat.zero_le _) ?_
                          refine r_dup2 hb 165 dX9_insert_164 rfl rfl rfl ?_
                          refine r_iald hb 166 dX9_insert_165 rfl vc (123 + 36 * k + 3) (by omega) (⟨by omega, by omega⟩) ?_
                          refine r_topz (((nE (lg l k) : Nat) : Int)) (n3) ?_
                          refine r_iload_n hb 167 dX9_insert_166 rfl 0 rfl ?_
                          refine r_if_ne hb 170 184 dX9_insert_167 rfl (by decide) (by omega) (fun c167 => ?_) (fun c167 => ?_)
                          · refine r_aload_n hb 185 dX9_insert_184 rfl 2 rfl ?_
                            refine r_get hb ho 188 dX9_insert_185 rfl lk_X9_63 pf_X9_8 mc rfl ?_
                            refine r_topv (.int (iI (((B.length : Nat) : Int)))) (congrArg (fun z => Value.int (iI z)) (by omega)) ?_
                            refine r_goto hb 192 dX9_insert_188 (by decide) ?_
                            refine r_iaddZ hb 193 (((nE (lg l k) : Nat) : Int) + ((B.length : Nat) : Int)) dX9_insert_192 rfl (by omega) ?_
                            refine r_iast hb 194 dX9_insert_193 rfl vc (123 + 36 * k + 3) (by omega) (⟨by omega, by omega⟩) (fun w_193 hw_193 => ?_)
                            have ow_193 := pset_off hw_193
                            have xw_193 : w_193 (mo + 1) = some (eI 483 (upd gi (123 + 36 * k + 3) ((iI (((nE (lg l k) : Nat) : Int) + ((B.length : Nat) : Int)))))) := by rw [hw_193]; exact pset_eq _ _ _
                            have mc : w_193 mo = some (eO 9 [.ref (mo + 1), .ref (mo + 2), .ref (mo + 3), .int (iI ((rg 3))), .ref (mo + 4), .ref (mo + 5), .int (iI ((rg 6))), .ref (mo + 6), .int (iI ((rg 8))), .ref (mo + 7), .int (iI ((rg 10))), .int (iI ((rg 11))), .int (iI ((rg 12))), .int (iI ((rg 13))), .int (iI ((rg 14))), .ref (mo + 8), .int (iI ((rg 16))), .ref (mo + 9), .ref (mo + 10), .ref (mo + 11)]) := (ow_193 _ (by omega)).trans mc
                            have sc : w_193 (mo + 2) = some (eI 483 sp1) := (ow_193 _ (by omega)).trans sc
                            have pc : w_193 (mo + 3) = some (eI 2898 pa) := (ow_193 _ (by omega)).trans pc
                            have kc : w_193 (mo + 4) = some (eI 968 kp) := (ow_193 _ (by omega)).trans kc
                            have ic : w_193 (mo + 5) = some (eZ 2 ik) := (ow_193 _ (by omega)).trans ic
                            have bc : w_193 (mo + 6) = some (eI 40 bg) := (ow_193 _ (by omega)).trans bc
                            have lc : w_193 (mo + 7) = some (eI 17 (fun ii => iI ((ln ii : Nat) : Int))) := (ow_193 _ (by omega)).trans lc
                            have oc : w_193 (mo + 8) = some (eI 10 (fun ii => iI ((od ii : Nat) : Int))) := (ow_193 _ (by omega)).trans oc
                            have xc : w_193 (mo + 9) = some (eI 1210 (fun ii => iI (sco ii))) := (ow_193 _ (by omega)).trans xc
                            have ec : w_193 (mo + 10) = some (eI 1210 (fun ii => iI (leo ii))) := (ow_193 _ (by omega)).trans ec
                            have uc : w_193 (mo + 11) = some (eI 1331 (fun ii => iI (smo ii))) := (ow_193 _ (by omega)).trans uc
                            refine r_aload_n hb 195 dX9_insert_194 rfl 2 rfl ?_
                            refine r_get hb ho 198 dX9_insert_195 rfl lk_X9_7 pf_X9_0 mc rfl ?_
                            refine r_iload_n hb 199 dX9_insert_198 rfl 1 rfl ?_
                            refine r_iconst hb 200 dX9_insert_199 rfl ?_
                            refine r_callSR (st := [.ref (mo + 1)]) hb ho 203 dX9_insert_200 rfl ck_X9_48 (c_X9_at (((k : Nat) : Int)) 2 (36 * ((k : Nat) : Int) + 125) (by omega)) rfl rfl (by rw [hR0]; exact ⟨Nat.le_of_ble_eq_true rfl, Nat.le_of_ble_eq_true rfl⟩) (Nat.le_of_ble_eq_true rfl) ⟨rfl, rfl⟩ (by rw [hR0]; exact Nat.zero_le _) (by rw [hR0]; exact Nat.zero_le _) ?_
                            refine r_dup2 hb 204 dX9_insert_203 rfl rfl rfl ?_
                            refine r_iald hb 205 dX9_insert_204 rfl xw_193 (123 + 36 * k + 2) (by omega) (⟨by omega, by omega⟩) ?_
                            refine r_topz (((nB (lg l k) : Nat) : Int)) ((pk_un (by omega)).trans n2) ?_
                            refine r_iload_n hb 206 dX9_insert_205 rfl 0 rfl ?_
                            refine r_if_eq hb 209 216 dX9_insert_206 rfl (by decide) (by omega) (fun c206 => ?_) (fun c206 => ?_)
                            · exfalso; omega
                            · refine r_aload_n hb 210 dX9_insert_209 rfl 2 rfl ?_
                              refine r_get hb ho 213 dX9_insert_210 rfl lk_X9_63 pf_X9_8 mc rfl ?_
                              refine r_topv (.int (iI (((B.length : Nat) : Int)))) (congrArg (fun z => Value.int (iI z)) (by omega)) ?_
                              refine r_goto hb 217 dX9_insert_213 (by decide) ?_
                              refine r_iaddZ hb 218 (((nB (lg l k) : Nat) : Int) + ((B.length : Nat) : Int)) dX9_insert_217 rfl (by omega) ?_
                              refine r_iast hb 219 dX9_insert_218 rfl xw_193 (123 + 36 * k + 2) (by omega) (⟨by omega, by omega⟩) (fun w_218 hw_218 => ?_)
                              have ow_218 := pset_off hw_218
                              have xw_218 : w_218 (mo + 1) = some (eI 483 (upd (upd gi (123 + 36 * k + 3) ((iI (((nE (lg l k) : Nat) : Int) + ((B.length : Nat) : Int))))) (123 + 36 * k + 2) ((iI (((nB (lg l k) : Nat) : Int) + ((B.length : Nat) : Int)))))) := by rw [hw_218]; exact pset_eq _ _ _
                              have mc : w_218 mo = some (eO 9 [.ref (mo + 1), .ref (mo + 2), .ref (mo + 3), .int (iI ((rg 3))), .ref (mo + 4), .ref (mo + 5), .int (iI ((rg 6))), .ref (mo + 6), .int (iI ((rg 8))), .ref (mo + 7), .int (iI ((rg 10))), .int (iI ((rg 11))), .int (iI ((rg 12))), .int (iI ((rg 13))), .int (iI ((rg 14))), .ref (mo + 8), .int (iI ((rg 16))), .ref (mo + 9), .ref (mo + 10), .ref (mo + 11)]) := (ow_218 _ (by omega)).trans mc
                              have sc : w_218 (mo + 2) = some (eI 483 sp1) := (ow_218 _ (by omega)).trans sc
                              have pc : w_218 (mo + 3) = some (eI 2898 pa) := (ow_218 _ (by omega)).trans pc
                              have kc : w_218 (mo + 4) = some (eI 968 kp) := (ow_218 _ (by omega)).trans kc
                              have ic : w_218 (mo + 5) = some (eZ 2 ik) := (ow_218 _ (by omega)).trans ic
                              have bc : w_218 (mo + 6) = some (eI 40 bg) := (ow_218 _ (by omega)).trans bc
                              have lc : w_218 (mo + 7) = some (eI 17 (fun ii => iI ((ln ii : Nat) : Int))) := (ow_218 _ (by omega)).trans lc
                              have oc : w_218 (mo + 8) = some (eI 10 (fun ii => iI ((od ii : Nat) : Int))) := (ow_218 _ (by omega)).trans oc
                              have xc : w_218 (mo + 9) = some (eI 1210 (fun ii => iI (sco ii))) := (ow_218 _ (by omega)).trans xc
                              have ec : w_218 (mo + 10) = some (eI 1210 (fun ii => iI (leo ii))) := (ow_218 _ (by omega)).trans ec
                              have uc : w_218 (mo + 11) = some (eI 1331 (fun ii => iI (smo ii))) := (ow_218 _ (by omega)).trans uc
                              refine r_iinc [(2, .int (iI (((k : Nat) : Int) + 1))), (3, .int (iI 1)), (0, .ref mo), (1, .int (iI (((p : Nat) : Int))))] hb 222 4 1 dX9_insert_219 rfl rfl hnL (by decide) (((k : Nat) : Int) + 1) (by omega) rfl ?_
                              refine r_goto hb 124 dX9_insert_222 (by decide) ?_
                              refine r_lv [(2, .int (iI (((k + 1 : Nat) : Int)))), (0, .ref mo), (1, .int (iI (((p : Nat) : Int))))] [0, 2, 3] rfl ?_
                              refine ih_lk (l.length - (k + 1)) (by omega) (k + 1) _ _ rfl (by omega) xw_218 mc sc pc kc ic bc lc oc xc ec uc ?_ ?_ ?_ ?_ (hO.trans ((ow_193.mono (by omega) (by omega)).trans (ow_218.mono (by omega) (by omega))))
                              · exact hDi.congr (fun q hq => by rw [pk_un (by omega), pk_un (by omega)])
                              · rw [pk_un (by omega), pk_un (by omega)]; exact q1
                              · rw [pk_un (by omega), pk_un (by omega)]; exact q2
                              · have e1 : nB (mvIns p B.length (lg l k)) = nB (lg l k) + B.length := if_pos (by omega)
                                have e2 : nE (mvIns p B.length (lg l k)) = nE (lg l k) + B.length := if_pos (by omega)
                                refine vnx_step (ys := fun m => mvIns p B.length (lg l m)) hXi (vnt_head hN (fun q h1 h2 => ?_) ?_ ?_ ?_ ?_ ?_ rfl ⟨n11, ?_, ?_⟩) (fun q hq => ?_)
                                · rw [pk_un (by omega), pk_un (by omega)]
                                · rw [pk_un (by omega), pk_un (by omega)]; exact n0
                                · rw [pk_un (by omega), pk_un (by omega)]; exact n1
                                · exact pk_us.trans (congrArg iI (by omega))
                                · exact (pk_un (by omega)).trans (pk_us.trans (congrArg iI (by omega)))
                                · rw [pk_un (by omega), pk_un (by omega)]; exact n4
                                · rw [e1]; omega
                                · rw [e2]; omega
                                · rw [pk_un (by omega), pk_un (by omega)]
                          · exfalso; omega
                  have ej : j = B.length := by omega
                  subst ej
                  refine r_lv [(2, .int (iI (((0 : Nat) : Int)))), (0, .ref mo), (1, .int (iI (((p : Nat) : Int))))] [0, 1, 2] rfl ?_
                  refine lk _ 0 _ _ rfl (Nat.zero_le _) xw_121 mc sc pc kc ic bc lc oc xc ec uc ⟨?_, fun j hj => ?_, by rw [putL_len (by omega)]; omega⟩ ((pk_un (by omega)).trans ((qB _ (by omega)).trans hP.1)) ((pk_un (by omega)).trans ((qB _ (by omega)).trans hP.2.1)) (vnx_none (hP.2.2.2.2.congr hPl (fun q h1 _ => (pk_un (by omega)).trans (qB q (by omega))))) (hO.trans (ow_121.mono (by omega) (by omega)))
                  · rw [pk_us, putL_len (by omega)]; exact congrArg iI (by omega)
                  · rw [putL_len (by omega)] at hj
                    rw [pk_un (by omega), putL_get (by omega)]
                    by_cases h : j < p
                    · rw [if_pos h]; exact (qB _ (by omega)).trans (hD.2.1 j (by omega))
                    · rw [if_neg h]
                      by_cases h2 : j < p + B.length
                      · rw [if_pos h2]; have e := qJ (j - p) (by omega); rw [show 1 + p + (j - p) = 1 + j by omega] at e; exact e
                      · rw [if_neg h2]; have e := qA (j - B.length) (by omega) (by omega); rw [show 1 + (j - B.length) + B.length = 1 + j by omega] at e; exact e
                · refine r_aload_n hb 88 dX9_insert_87 rfl 1 rfl ?_
                  refine r_get hb ho 91 dX9_insert_88 rfl lk_X9_7 pf_X9_0 mc rfl ?_
                  refine r_iconst hb 92 dX9_insert_91 rfl ?_
                  refine r_iload_n hb 93 dX9_insert_92 rfl 2 rfl ?_
                  refine r_iaddZ hb 94 (((p : Nat) : Int) + 1) dX9_insert_93 rfl (by omega) ?_
                  refine r_iload_n hb 95 dX9_insert_94 rfl 0 rfl ?_
                  refine r_iaddZ hb 96 (((p : Nat) : Int) + ((j : Nat) : Int) + 1) dX9_insert_95 rfl (by omega) ?_
                  refine r_aload_n hb 97 dX9_insert_96 rfl 1 rfl ?_
                  refine r_get hb ho 100 dX9_insert_97 rfl lk_X9_30 pf_X9_7 mc rfl ?_
                  refine r_iload_n hb 101 dX9_insert_100 rfl 0 rfl ?_
                  refine r_iald hb 102 dX9_insert_101 rfl bc j (by omega) (⟨by omega, by omega⟩) ?_
                  refine r_topv (.int (B.getD j 0)) (congrArg Value.int (hB.2 j (by omega))) ?_
                  refine r_iast hb 103 dX9_insert_102 rfl vc (1 + p + j) (by omega) (⟨by omega, by omega⟩) (fun w_102 hw_102 => ?_)
                  have ow_102 := pset_off hw_102
                  have xw_102 : w_102 (mo + 1) = some (eI 483 (upd gi (1 + p + j) ((B.getD j 0)))) := by rw [hw_102]; exact pset_eq _ _ _
                  have mc : w_102 mo = some (eO 9 [.ref (mo + 1), .ref (mo + 2), .ref (mo + 3), .int (iI ((rg 3))), .ref (mo + 4), .ref (mo + 5), .int (iI ((rg 6))), .ref (mo + 6), .int (iI ((rg 8))), .ref (mo + 7), .int (iI ((rg 10))), .int (iI ((rg 11))), .int (iI ((rg 12))), .int (iI ((rg 13))), .int (iI ((rg 14))), .ref (mo + 8), .int (iI ((rg 16))), .ref (mo + 9), .ref (mo + 10), .ref (mo + 11)]) := (ow_102 _ (by omega)).trans mc
                  have sc : w_102 (mo + 2) = some (eI 483 sp1) := (ow_102 _ (by omega)).trans sc
                  have pc : w_102 (mo + 3) = some (eI 2898 pa) := (ow_102 _ (by omega)).trans pc
                  have kc : w_102 (mo + 4) = some (eI 968 kp) := (ow_102 _ (by omega)).trans kc
                  have ic : w_102 (mo + 5) = some (eZ 2 ik) := (ow_102 _ (by omega)).trans ic
                  have bc : w_102 (mo + 6) = some (eI 40 bg) := (ow_102 _ (by omega)).trans bc
                  have lc : w_102 (mo + 7) = some (eI 17 (fun ii => iI ((ln ii : Nat) : Int))) := (ow_102 _ (by omega)).trans lc
                  have oc : w_102 (mo + 8) = some (eI 10 (fun ii => iI ((od ii : Nat) : Int))) := (ow_102 _ (by omega)).trans oc
                  have xc : w_102 (mo + 9) = some (eI 1210 (fun ii => iI (sco ii))) := (ow_102 _ (by omega)).trans xc
                  have ec : w_102 (mo + 10) = some (eI 1210 (fun ii => iI (leo ii))) := (ow_102 _ (by omega)).trans ec
                  have uc : w_102 (mo + 11) = some (eI 1331 (fun ii => iI (smo ii))) := (ow_102 _ (by omega)).trans uc
                  refine r_iinc [(2, .int (iI (((j : Nat) : Int) + 1))), (0, .ref mo), (1, .int (iI (((p : Nat) : Int))))] hb 106 4 0 dX9_insert_103 rfl rfl hnL (by decide) (((j : Nat) : Int) + 1) (by omega) rfl ?_
                  refine r_goto hb 79 dX9_insert_106 (by decide) ?_
                  refine r_lv [(2, .int (iI (((j + 1 : Nat) : Int)))), (0, .ref mo), (1, .int (iI (((p : Nat) : Int))))] [0, 1, 2] rfl ?_
                  refine ih_lj (B.length - (j + 1)) (by omega) (j + 1) _ _ rfl (by omega) xw_102 mc sc pc kc ic bc lc oc xc ec uc ?_ ?_ ?_ (hO.trans (ow_102.mono (by omega) (by omega)))
                  · intro q hq
                    by_cases e : q = j
                    · subst e; rw [pk_us]
                    · exact (pk_un (by omega)).trans (qJ q (by omega))
                  · intro q hq hq2
                    exact (pk_un (by omega)).trans (qA q hq hq2)
                  · intro q hq
                    exact (pk_un (by omega)).trans (qB q hq)
            have ei : p = i := by omega
            subst ei
            refine r_lv [(2, .int (iI (((0 : Nat) : Int)))), (0, .ref mo), (1, .int (iI (((p : Nat) : Int))))] [0, 1, 2] rfl ?_
            refine lj _ 0 _ _ rfl (by omega) vc mc sc pc kc ic bc lc oc xc ec uc (fun q h => absurd h (Nat.not_lt_zero _)) qA (fun q hq => qB q (by omega)) hO
          · refine r_aload_n hb 51 dX9_insert_50 rfl 1 rfl ?_
            refine r_get hb ho 54 dX9_insert_51 rfl lk_X9_7 pf_X9_0 mc rfl ?_
            refine r_iconst hb 55 dX9_insert_54 rfl ?_
            refine r_iload_n hb 56 dX9_insert_55 rfl 0 rfl ?_
            refine r_iaddZ hb 57 (((i : Nat) : Int)) dX9_insert_56 rfl (by omega) ?_
            refine r_aload_n hb 58 dX9_insert_57 rfl 1 rfl ?_
            refine r_get hb ho 61 dX9_insert_58 rfl lk_X9_63 pf_X9_8 mc rfl ?_
            refine r_topv (.int (iI (((B.length : Nat) : Int)))) (congrArg (fun z => Value.int (iI z)) (by omega)) ?_
            refine r_iaddZ hb 62 (((i : Nat) : Int) + ((B.length : Nat) : Int)) dX9_insert_61 rfl (by omega) ?_
            refine r_aload_n hb 63 dX9_insert_62 rfl 1 rfl ?_
            refine r_get hb ho 66 dX9_insert_63 rfl lk_X9_7 pf_X9_0 mc rfl ?_
            refine r_iconst hb 67 dX9_insert_66 rfl ?_
            refine r_iload_n hb 68 dX9_insert_67 rfl 0 rfl ?_
            refine r_iaddZ hb 69 (((i : Nat) : Int)) dX9_insert_68 rfl (by omega) ?_
            refine r_iald hb 70 dX9_insert_69 rfl vc (1 + (i - 1)) (by omega) (⟨by omega, by omega⟩) ?_
            refine r_topv (.int (D.getD (i - 1) 0)) (congrArg Value.int ((qB _ (by omega)).trans (hD.2.1 (i - 1) (by omega)))) ?_
            refine r_iast hb 71 dX9_insert_70 rfl vc (1 + (i - 1) + B.length) (by omega) (⟨by omega, by omega⟩) (fun w_70 hw_70 => ?_)
            have ow_70 := pset_off hw_70
            have xw_70 : w_70 (mo + 1) = some (eI 483 (upd gi (1 + (i - 1) + B.length) ((D.getD (i - 1) 0)))) := by rw [hw_70]; exact pset_eq _ _ _
            have mc : w_70 mo = some (eO 9 [.ref (mo + 1), .ref (mo + 2), .ref (mo + 3), .int (iI ((rg 3))), .ref (mo + 4), .ref (mo + 5), .int (iI ((rg 6))), .ref (mo + 6), .int (iI ((rg 8))), .ref (mo + 7), .int (iI ((rg 10))), .int (iI ((rg 11))), .int (iI ((rg 12))), .int (iI ((rg 13))), .int (iI ((rg 14))), .ref (mo + 8), .int (iI ((rg 16))), .ref (mo + 9), .ref (mo + 10), .ref (mo + 11)]) := (ow_70 _ (by omega)).trans mc
            have sc : w_70 (mo + 2) = some (eI 483 sp1) := (ow_70 _ (by omega)).trans sc
            have pc : w_70 (mo + 3) = some (eI 2898 pa) := (ow_70 _ (by omega)).trans pc
            have kc : w_70 (mo + 4) = some (eI 968 kp) := (ow_70 _ (by omega)).trans kc
            have ic : w_70 (mo + 5) = some (eZ 2 ik) := (ow_70 _ (by omega)).trans ic
            have bc : w_70 (mo + 6) = some (eI 40 bg) := (ow_70 _ (by omega)).trans bc
            have lc : w_70 (mo + 7) = some (eI 17 (fun ii => iI ((ln ii : Nat) : Int))) := (ow_70 _ (by omega)).trans lc
            have oc : w_70 (mo + 8) = some (eI 10 (fun ii => iI ((od ii : Nat) : Int))) := (ow_70 _ (by omega)).trans oc
            have xc : w_70 (mo + 9) = some (eI 1210 (fun ii => iI (sco ii))) := (ow_70 _ (by omega)).trans xc
            have ec : w_70 (mo + 10) = some (eI 1210 (fun ii => iI (leo ii))) := (ow_70 _ (by omega)).trans ec
            have uc : w_70 (mo + 11) = some (eI 1331 (fun ii => iI (smo ii))) := (ow_70 _ (by omega)).trans uc
            refine r_iinc [(2, .int (iI (((i : Nat) : Int) - 2))), (0, .ref mo), (1, .int (iI (((p : Nat) : Int))))] hb 74 4 0 dX9_insert_71 rfl rfl hnL (by decide) (((i : Nat) : Int) - 2) (by omega) rfl ?_
            refine r_goto hb 45 dX9_insert_74 (by decide) ?_
            refine r_lv [(2, .int (iI ((((i - 1 : Nat) : Nat) : Int) - 1))), (0, .ref mo), (1, .int (iI (((p : Nat) : Int))))] [0, 1, 2] (congrArg (fun zz : Int => ([(2, .int (iI zz)), (0, .ref mo), (1, .int (iI ((p : Nat) : Int)))] : List (Nat × Value))) (show ((i : Nat) : Int) - 2 = ((i - 1 : Nat) : Int) - 1 from by omega)) ?_
            refine ih_lp (i - 1) (by omega) (i - 1) _ _ rfl (by omega) xw_70 mc sc pc kc ic bc lc oc xc ec uc ?_ ?_ (hO.trans (ow_70.mono (by omega) (by omega)))
            · intro q hq hq2
              by_cases e : q = i - 1
              · subst e; rw [pk_us]
              · exact (pk_un (by omega)).trans (qA q (by omega) hq2)
            · intro q hq
              exact (pk_un (by omega)).trans (qB q (by omega))
      refine r_lv [(2, .int (iI (((D.length : Nat) : Int) - 1))), (0, .ref mo), (1, .int (iI (((p : Nat) : Int))))] [0, 1, 2] rfl ?_
      refine lp _ D.length _ _ rfl (by omega) vc mc sc pc kc ic bc lc oc xc ec uc (fun q h h2 => absurd h2 (by omega)) (fun q hq => rfl) (ow_33.mono (by omega) (by omega))
    · refine r_sipush (-1004) hb 31 dX9_insert_28 rfl rfl ?_
      refine r_iret hS dX9_insert_31 rfl rfl (Nat.zero_le _) (Nat.zero_le _) ?_
      have e : oIns B D l nx hs s0 s1 thr z = (iI (-1004), (B, (D, l, nx), hs, s0, s1, thr)) := by unfold oIns; rw [if_neg (by rw [c5]; decide), if_pos (by omega)]
      rw [e]
      exact ⟨_, rfl, rfl, rfl, hM, off.rfl' _ _ _⟩
  · refine r_sipush (-1001) hb 11 dX9_insert_8 rfl rfl ?_
    refine r_iret hS dX9_insert_11 rfl rfl (Nat.zero_le _) (Nat.zero_le _) ?_
    have e : oIns B D l nx hs s0 s1 thr z = (iI (-1001), (B, (D, l, nx), hs, s0, s1, thr)) := by unfold oIns; rw [if_pos c5]
    rw [e]
    exact ⟨_, rfl, rfl, rfl, hM, off.rfl' _ _ _⟩
