theorem bndD_le (b p m : Nat) : bndD b p m ≤ b := by unfold bndD; split <;> omega
theorem bndD_mono {b e p m : Nat} (h : b ≤ e) : bndD b p m ≤ bndD e p m := by unfold bndD; split <;> split <;> omega
abbrev rm_X9_delete : Room := { frames := 2, cells := 0, slots := 0, locals := 46 }
set_option maxHeartbeats 4000000 in
set_option maxRecDepth 100000 in
theorem c_X9_delete (mo : Nat) (B D : List Int32) (l : List Nt) (nx : Nat) (hs : List Pg) (s0 s1 : Option (Pg × Int)) (thr : Int) (z m : Int) {w : PW} {n : Nat} (hM : moE w mo B D l nx hs s0 s1 thr) (hzb : -2147483648 ≤ z ∧ z < 2147483648) (hmb : -2147483648 ≤ m ∧ m < 2147483648) (hok : pOk (D, l, nx)) : Ct1 yX9_delete cX9_delete 6 (some .int) rm_X9_delete [.ref mo, .int (iI (z)), .int (iI (m))] w n (fun v w1 n1 => v = .int (oDel B D l nx hs s0 s1 thr z m).1 ∧ n = n1 ∧ mo_ w1 mo (oDel B D l nx hs s0 s1 thr z m).2 ∧ off w w1 mo (mo + 12)) := by
  obtain ⟨rg, g, sp, pa, kp, ik, bg, ln, od, sco, leo, smo, mc, vc, sc, pc, kc, ic, bc, lc, oc, xc, ec, uc, hV, h3, hH, h6, h8, hB, hS0, hS1⟩ := id hM
  have hD : vdp g D := hV.1
  have hP : vnp g l nx := hV.2
  have hDl := hD.2.2
  have hPl := hP.2.2.1
  have hnx := hP.2.2.2.1
  have hBl := hB.1
  have hHl := hH.1
  refine Ctr.of rfl (Nat.le_of_ble_eq_true rfl) fun S hS => ?_
  have hb : S.1.1 = cX9_delete := by rw [hS]; rfl
  have ho : S.1.2.1 = RX9 := by rw [hS]; rfl
  have hnL : S.1.2.2.1 = 6 := by rw [hS]; rfl
  have hR0 : S.2.1 = rm_X9_delete := by rw [hS]; rfl
  show Wp S 0 [(0, .ref mo), (1, .int (iI (z))), (2, .int (iI (m)))] [] w n 0 0
  refine r_aload_n hb 1 dX9_delete_0 rfl 0 rfl ?_
  refine r_iload_n hb 2 dX9_delete_1 rfl 1 rfl ?_
  refine r_callVR (st := []) hb ho 5 dX9_delete_2 rfl ck_X9_76 (c_X9_isPosition mo rg g D (z) mc vc hD (by omega)) rfl rfl (mc) rfl rfl (by rw [hR0]; exact ⟨Nat.le_of_ble_eq_true rfl, Nat.le_of_ble_eq_true rfl⟩) (Nat.le_of_ble_eq_true rfl) ⟨rfl, rfl⟩ (by rw [hR0]; exact Nat.zero_le _) (by rw [hR0]; exact Nat.zero_le _) ?_
  refine r_ifb_ne hb 8 12 dX9_delete_5 rfl (by decide) (fun c5 => ?_) (fun c5 => ?_)
  · have hpo := of_decide_eq_true c5
    refine r_iload_n hb 13 dX9_delete_12 rfl 2 rfl ?_
    refine r_iconst hb 14 dX9_delete_13 rfl ?_
    refine r_bipush 120 hb 16 dX9_delete_14 rfl rfl ?_
    refine r_callSR (st := []) hb ho 19 dX9_delete_16 rfl ck_X9_52 (c_X9_in (m) 0 120 (by omega)) rfl rfl (by rw [hR0]; exact ⟨Nat.le_of_ble_eq_true rfl, Nat.le_of_ble_eq_true rfl⟩) (Nat.le_of_ble_eq_true rfl) ⟨rfl, rfl⟩ (by rw [hR0]; exact Nat.zero_le _) (by rw [hR0]; exact Nat.zero_le _) ?_
    refine r_ifb_eq hb 22 34 dX9_delete_19 rfl (by decide) (fun c19 => ?_) (fun c19 => ?_)
    · have c19 := of_decide_eq_false c19
      refine r_sipush (-1002) hb 37 dX9_delete_34 rfl rfl ?_
      refine r_iret hS dX9_delete_37 rfl rfl (Nat.zero_le _) (Nat.zero_le _) ?_
      have e : oDel B D l nx hs s0 s1 thr z m = (iI (-1002), (B, (D, l, nx), hs, s0, s1, thr)) := by unfold oDel; rw [if_neg (by rw [c5]; decide), if_pos (by omega)]
      rw [e]
      exact ⟨_, rfl, rfl, rfl, hM, off.rfl' _ _ _⟩
    · have c19 := of_decide_eq_true c19
      refine r_iload_n hb 23 dX9_delete_22 rfl 1 rfl ?_
      refine r_iload_n hb 24 dX9_delete_23 rfl 2 rfl ?_
      refine r_iaddZ hb 25 (z + m) dX9_delete_24 rfl (by omega) ?_
      refine r_aload_n hb 26 dX9_delete_25 rfl 0 rfl ?_
      refine r_get hb ho 29 dX9_delete_26 rfl lk_X9_7 pf_X9_0 mc rfl ?_
      refine r_iconst hb 30 dX9_delete_29 rfl ?_
      refine r_iald hb 31 dX9_delete_30 rfl vc 0 (by omega) (⟨by omega, by omega⟩) ?_
      refine r_topz ((((D).length : Nat) : Int)) (hD.1) ?_
      refine r_icmp_le hb 34 38 dX9_delete_31 rfl (by decide) (by omega) (by omega) (fun c31 => ?_) (fun c31 => ?_)
      · obtain ⟨p, rfl⟩ : ∃ p : Nat, z = (p : Int) := ⟨z.toNat, by have := of_decide_eq_true c5; omega⟩
        have hpp := of_decide_eq_true c5
        obtain ⟨mm, rfl⟩ : ∃ mm : Nat, m = (mm : Int) := ⟨m.toNat, by omega⟩
        refine r_aload_n hb 39 dX9_delete_38 rfl 0 rfl ?_
        refine r_callV0 (st := []) hb ho 42 dX9_delete_39 rfl ck_X9_66 (c_X9_begins mo rg g sp mc vc sc) rfl rfl (mc) rfl rfl (by rw [hR0]; exact ⟨Nat.le_of_ble_eq_true rfl, Nat.le_of_ble_eq_true rfl⟩) (Nat.le_of_ble_eq_true rfl) ⟨rfl, rfl⟩ (by rw [hR0]; exact Nat.zero_le _) (by rw [hR0]; exact Nat.zero_le _) (fun w_39 nw_39 qw_39 => ?_)
        obtain ⟨rfl, ⟨sp1, sc, spi⟩, ow_39⟩ := qw_39
        have hsp : vpo sp1 0 (D, l, nx) := vpg_o (hV.congr (fun i hi => spi i hi))
        have mc : w_39 mo = some (eO 9 [.ref (mo + 1), .ref (mo + 2), .ref (mo + 3), .int (iI ((rg 3))), .ref (mo + 4), .ref (mo + 5), .int (iI ((rg 6))), .ref (mo + 6), .int (iI ((rg 8))), .ref (mo + 7), .int (iI ((rg 10))), .int (iI ((rg 11))), .int (iI ((rg 12))), .int (iI ((rg 13))), .int (iI ((rg 14))), .ref (mo + 8), .int (iI ((rg 16))), .ref (mo + 9), .ref (mo + 10), .ref (mo + 11)]) := (ow_39 _ (by omega)).trans mc
        have vc : w_39 (mo + 1) = some (eI 483 g) := (ow_39 _ (by omega)).trans vc
        have pc : w_39 (mo + 3) = some (eI 2898 pa) := (ow_39 _ (by omega)).trans pc
        have kc : w_39 (mo + 4) = some (eI 968 kp) := (ow_39 _ (by omega)).trans kc
        have ic : w_39 (mo + 5) = some (eZ 2 ik) := (ow_39 _ (by omega)).trans ic
        have bc : w_39 (mo + 6) = some (eI 40 bg) := (ow_39 _ (by omega)).trans bc
        have lc : w_39 (mo + 7) = some (eI 17 (fun ii => iI ((ln ii : Nat) : Int))) := (ow_39 _ (by omega)).trans lc
        have oc : w_39 (mo + 8) = some (eI 10 (fun ii => iI ((od ii : Nat) : Int))) := (ow_39 _ (by omega)).trans oc
        have xc : w_39 (mo + 9) = some (eI 1210 (fun ii => iI (sco ii))) := (ow_39 _ (by omega)).trans xc
        have ec : w_39 (mo + 10) = some (eI 1210 (fun ii => iI (leo ii))) := (ow_39 _ (by omega)).trans ec
        have uc : w_39 (mo + 11) = some (eI 1331 (fun ii => iI (smo ii))) := (ow_39 _ (by omega)).trans uc
        refine r_iload_n hb 43 dX9_delete_42 rfl 1 rfl ?_
        refine r_istore_n [(3, .int (iI (((p : Nat) : Int)))), (0, .ref mo), (1, .int (iI (((p : Nat) : Int)))), (2, .int (iI (((mm : Nat) : Int))))] hb 44 6 dX9_delete_43 rfl rfl hnL (by decide) rfl ?_
        have lp : ∀ (d : Nat) (i : Nat) (wi : PW) (gi : Nat → Int32), D.length - i = d → (p ≤ i ∧ i + mm ≤ D.length) → (wi (mo + 1) = some (eI 483 gi)) → (wi mo = some (eO 9 [.ref (mo + 1), .ref (mo + 2), .ref (mo + 3), .int (iI ((rg 3))), .ref (mo + 4), .ref (mo + 5), .int (iI ((rg 6))), .ref (mo + 6), .int (iI ((rg 8))), .ref (mo + 7), .int (iI ((rg 10))), .int (iI ((rg 11))), .int (iI ((rg 12))), .int (iI ((rg 13))), .int (iI ((rg 14))), .ref (mo + 8), .int (iI ((rg 16))), .ref (mo + 9), .ref (mo + 10), .ref (mo + 11)])) → (wi (mo + 2) = some (eI 483 sp1)) → (wi (mo + 3) = some (eI 2898 pa)) → (wi (mo + 4) = some (eI 968 kp)) → (wi (mo + 5) = some (eZ 2 ik)) → (wi (mo + 6) = some (eI 40 bg)) → (wi (mo + 7) = some (eI 17 (fun ii => iI ((ln ii : Nat) : Int)))) → (wi (mo + 8) = some (eI 10 (fun ii => iI ((od ii : Nat) : Int)))) → (wi (mo + 9) = some (eI 1210 (fun ii => iI (sco ii)))) → (wi (mo + 10) = some (eI 1210 (fun ii => iI (leo ii)))) → (wi (mo + 11) = some (eI 1331 (fun ii => iI (smo ii)))) → (∀ q, p ≤ q → q < i → gi (1 + q) = D.getD (q + mm) 0) → (∀ q, q < 1 + p ∨ 1 + i ≤ q → gi q = g q) → (off w wi mo (mo + 12)) → Wp S 44 [(3, .int (iI (((i : Nat) : Int)))), (0, .ref mo), (1, .int (iI (((p : Nat) : Int)))), (2, .int (iI (((mm : Nat) : Int))))] [] wi n 0 0 := by
          intro d
          induction d using Nat.strongRecOn with
          | _ d ih_lp =>
            intro i wi gi hd_lp hi vc mc sc pc kc ic bc lc oc xc ec uc qA qB hO
            refine r_iload_n hb 45 dX9_delete_44 rfl 0 rfl ?_
            refine r_iload_n hb 46 dX9_delete_45 rfl 3 rfl ?_
            refine r_iaddZ hb 47 (((i : Nat) : Int) + ((mm : Nat) : Int)) dX9_delete_46 rfl (by omega) ?_
            refine r_aload_n hb 48 dX9_delete_47 rfl 1 rfl ?_
            refine r_get hb ho 51 dX9_delete_48 rfl lk_X9_7 pf_X9_0 mc rfl ?_
            refine r_iconst hb 52 dX9_delete_51 rfl ?_
            refine r_iald hb 53 dX9_delete_52 rfl vc 0 (by omega) (⟨by omega, by omega⟩) ?_
            refine r_topz (((D.length : Nat) : Int)) ((qB 0 (by omega)).trans hD.1) ?_
            refine r_icmp_ge hb 56 80 dX9_delete_53 rfl (by decide) (by omega) (by omega) (fun c53 => ?_) (fun c53 => ?_)
            · refine r_aload_n hb 81 dX9_delete_80 rfl 1 rfl ?_
              refine r_get hb ho 84 dX9_delete_81 rfl lk_X9_7 pf_X9_0 mc rfl ?_
              refine r_iconst hb 85 dX9_delete_84 rfl ?_
              refine r_dup2 hb 86 dX9_delete_85 rfl rfl rfl ?_
              refine r_iald hb 87 dX9_delete_86 rfl vc 0 (by omega) (⟨by omega, by omega⟩) ?_
              refine r_topz (((D.length : Nat) : Int)) ((qB 0 (by omega)).trans hD.1) ?_
              refine r_iload_n hb 88 dX9_delete_87 rfl 3 rfl ?_
              refine r_isubZ hb 89 (((D.length : Nat) : Int) - ((mm : Nat) : Int)) dX9_delete_88 rfl (by omega) ?_
              refine r_iast hb 90 dX9_delete_89 rfl vc 0 (by omega) (⟨by omega, by omega⟩) (fun w_89 hw_89 => ?_)
              have ow_89 := pset_off hw_89
              have xw_89 : w_89 (mo + 1) = some (eI 483 (upd gi 0 ((iI (((D.length : Nat) : Int) - ((mm : Nat) : Int)))))) := by rw [hw_89]; exact pset_eq _ _ _
              have mc : w_89 mo = some (eO 9 [.ref (mo + 1), .ref (mo + 2), .ref (mo + 3), .int (iI ((rg 3))), .ref (mo + 4), .ref (mo + 5), .int (iI ((rg 6))), .ref (mo + 6), .int (iI ((rg 8))), .ref (mo + 7), .int (iI ((rg 10))), .int (iI ((rg 11))), .int (iI ((rg 12))), .int (iI ((rg 13))), .int (iI ((rg 14))), .ref (mo + 8), .int (iI ((rg 16))), .ref (mo + 9), .ref (mo + 10), .ref (mo + 11)]) := (ow_89 _ (by omega)).trans mc
              have sc : w_89 (mo + 2) = some (eI 483 sp1) := (ow_89 _ (by omega)).trans sc
              have pc : w_89 (mo + 3) = some (eI 2898 pa) := (ow_89 _ (by omega)).trans pc
              have kc : w_89 (mo + 4) = some (eI 968 kp) := (ow_89 _ (by omega)).trans kc
              have ic : w_89 (mo + 5) = some (eZ 2 ik) := (ow_89 _ (by omega)).trans ic
              have bc : w_89 (mo + 6) = some (eI 40 bg) := (ow_89 _ (by omega)).trans bc
              have lc : w_89 (mo + 7) = some (eI 17 (fun ii => iI ((ln ii : Nat) : Int))) := (ow_89 _ (by omega)).trans lc
              have oc : w_89 (mo + 8) = some (eI 10 (fun ii => iI ((od ii : Nat) : Int))) := (ow_89 _ (by omega)).trans oc
              have xc : w_89 (mo + 9) = some (eI 1210 (fun ii => iI (sco ii))) := (ow_89 _ (by omega)).trans xc
              have ec : w_89 (mo + 10) = some (eI 1210 (fun ii => iI (leo ii))) := (ow_89 _ (by omega)).trans ec
              have uc : w_89 (mo + 11) = some (eI 1331 (fun ii => iI (smo ii))) := (ow_89 _ (by omega)).trans uc
              refine r_iconst hb 91 dX9_delete_90 rfl ?_
              refine r_istore_n [(3, .int (iI 0)), (0, .ref mo), (1, .int (iI (((p : Nat) : Int)))), (2, .int (iI (((mm : Nat) : Int))))] hb 92 6 dX9_delete_91 rfl rfl hnL (by decide) rfl ?_
              refine r_iconst hb 93 dX9_delete_92 rfl ?_
              refine r_istore [(4, .int (iI 0)), (3, .int (iI 0)), (0, .ref mo), (1, .int (iI (((p : Nat) : Int)))), (2, .int (iI (((mm : Nat) : Int))))] hb 95 6 dX9_delete_93 rfl hnL (by decide) rfl ?_
              have lk : ∀ (d : Nat) (k : Nat) (wi : PW) (gi : Nat → Int32), l.length - k = d → (k ≤ l.length) → (wi (mo + 1) = some (eI 483 gi)) → (wi mo = some (eO 9 [.ref (mo + 1), .ref (mo + 2), .ref (mo + 3), .int (iI ((rg 3))), .ref (mo + 4), .ref (mo + 5), .int (iI ((rg 6))), .ref (mo + 6), .int (iI ((rg 8))), .ref (mo + 7), .int (iI ((rg 10))), .int (iI ((rg 11))), .int (iI ((rg 12))), .int (iI ((rg 13))), .int (iI ((rg 14))), .ref (mo + 8), .int (iI ((rg 16))), .ref (mo + 9), .ref (mo + 10), .ref (mo + 11)])) → (wi (mo + 2) = some (eI 483 sp1)) → (wi (mo + 3) = some (eI 2898 pa)) → (wi (mo + 4) = some (eI 968 kp)) → (wi (mo + 5) = some (eZ 2 ik)) → (wi (mo + 6) = some (eI 40 bg)) → (wi (mo + 7) = some (eI 17 (fun ii => iI ((ln ii : Nat) : Int)))) → (wi (mo + 8) = some (eI 10 (fun ii => iI ((od ii : Nat) : Int)))) → (wi (mo + 9) = some (eI 1210 (fun ii => iI (sco ii)))) → (wi (mo + 10) = some (eI 1210 (fun ii => iI (leo ii)))) → (wi (mo + 11) = some (eI 1331 (fun ii => iI (smo ii)))) → (vdp gi (cutL D p mm)) → (gi 121 = iI ((nx : Nat) : Int)) → (gi 122 = iI ((l.length : Nat) : Int)) → (vnx gi (fun m => if m < k then mvDel p mm (lg l m) else lg l m) l.length) → (off w wi mo (mo + 12)) → Wp S 95 [(4, .int (iI (((k : Nat) : Int)))), (3, .int (iI (((orN p mm l k : Nat) : Int)))), (0, .ref mo), (1, .int (iI (((p : Nat) : Int)))), (2, .int (iI (((mm : Nat) : Int))))] [] wi n 0 0 := by
                intro d
                induction d using Nat.strongRecOn with
                | _ d ih_lk =>
                  intro k wi gi hd_lk hk vc mc sc pc kc ic bc lc oc xc ec uc hDi q1 q2 hXi hO
                  have hor := orN_le p mm l k
                  refine r_iload hb 97 dX9_delete_95 rfl 0 rfl ?_
                  refine r_aload_n hb 98 dX9_delete_97 rfl 2 rfl ?_
                  refine r_get hb ho 101 dX9_delete_98 rfl lk_X9_7 pf_X9_0 mc rfl ?_
                  refine r_bipush 122 hb 103 dX9_delete_101 rfl rfl ?_
                  refine r_iald hb 104 dX9_delete_103 rfl vc 122 (by omega) (⟨by omega, by omega⟩) ?_
                  refine r_topz (((l.length : Nat) : Int)) (q2) ?_
                  refine r_icmp_ge hb 107 258 dX9_delete_104 rfl (by decide) (by omega) (by omega) (fun c104 => ?_) (fun c104 => ?_)
                  · refine r_aload_n hb 259 dX9_delete_258 rfl 2 rfl ?_
                    refine r_iload_n hb 260 dX9_delete_259 rfl 1 rfl ?_
                    refine r_callV1 (st := []) hb ho 263 dX9_delete_260 rfl ck_X9_72 (c_X9_made mo rg sp1 pa hs (D, l, nx) (iI (((orN p mm l k : Nat) : Int))) mc sc pc h3 hH hsp) rfl rfl (mc) rfl rfl (by rw [hR0]; exact ⟨Nat.le_of_ble_eq_true rfl, Nat.le_of_ble_eq_true rfl⟩) (Nat.le_of_ble_eq_true rfl) ⟨rfl, rfl⟩ (by rw [hR0]; exact Nat.zero_le _) (by rw [hR0]; exact Nat.zero_le _) (fun vw_260 w_260 nw_260 qw_260 => ?_)
                    obtain ⟨rfl, rfl, ⟨rg3, pa1, mc, hF3, h3, pc, hH⟩, ow_260⟩ := qw_260
                    have h6 := (hF3 6 (by decide)).trans h6
                    have h8 := (hF3 8 (by decide)).trans h8
                    have vc : w_260 (mo + 1) = some (eI 483 gi) := (ow_260 _ (by omega) (by omega)).trans vc
                    have sc : w_260 (mo + 2) = some (eI 483 sp1) := (ow_260 _ (by omega) (by omega)).trans sc
                    have kc : w_260 (mo + 4) = some (eI 968 kp) := (ow_260 _ (by omega) (by omega)).trans kc
                    have ic : w_260 (mo + 5) = some (eZ 2 ik) := (ow_260 _ (by omega) (by omega)).trans ic
                    have bc : w_260 (mo + 6) = some (eI 40 bg) := (ow_260 _ (by omega) (by omega)).trans bc
                    have lc : w_260 (mo + 7) = some (eI 17 (fun ii => iI ((ln ii : Nat) : Int))) := (ow_260 _ (by omega) (by omega)).trans lc
                    have oc : w_260 (mo + 8) = some (eI 10 (fun ii => iI ((od ii : Nat) : Int))) := (ow_260 _ (by omega) (by omega)).trans oc
                    have xc : w_260 (mo + 9) = some (eI 1210 (fun ii => iI (sco ii))) := (ow_260 _ (by omega) (by omega)).trans xc
                    have ec : w_260 (mo + 10) = some (eI 1210 (fun ii => iI (leo ii))) := (ow_260 _ (by omega) (by omega)).trans ec
                    have uc : w_260 (mo + 11) = some (eI 1331 (fun ii => iI (smo ii))) := (ow_260 _ (by omega) (by omega)).trans uc
                    refine r_iret hS dX9_delete_263 rfl rfl (Nat.zero_le _) (Nat.zero_le _) ?_
                    have ek : k = l.length := by omega
                    subst ek
                    have hV1 : vpg gi (cutL D p mm, l.map (mvDel p mm), nx) := ⟨hDi, q1, by rw [List.length_map]; exact q2, by rw [List.length_map]; exact hPl, hnx, vnx_map hXi⟩
                    have e : oDel B D l nx hs s0 s1 thr ((p : Nat) : Int) ((mm : Nat) : Int) = (iI ((orN p mm l l.length : Nat) : Int), stP B D l nx hs s0 s1 thr (cutL D p mm, l.map (mvDel p mm), nx)) := by unfold oDel; rw [if_neg (by rw [c5]; decide), if_neg (by omega)]; rfl
                    rw [e]
                    exact ⟨_, rfl, rfl, rfl, ⟨rg3, gi, sp1, pa1, kp, ik, bg, ln, od, sco, leo, smo, mc, vc, sc, pc, kc, ic, bc, lc, oc, xc, ec, uc, hV1, h3, hH, h6, h8, hB, hS0, hS1⟩, (hO.trans (ow_260.cov (by omega) (by omega) (by omega) (by omega)))⟩
                  · have hN := vnx_at hXi (by omega : k < l.length)
                    obtain ⟨n0, n1, n2, n3, n4, n5, n6, n7, n8, n9, n10, n11, n12, n13⟩ := id (hN)
                    have hnk : nB (lg l k) ≤ nE (lg l k) ∧ nE (lg l k) ≤ D.length ∧ nNum (lg l k) < nx := (hok.2.2.2.1 k (show k < l.length by omega)).2
                    have hb1 := bndD_le (nB (lg l k)) p mm
                    have hb2 := bndD_le (nE (lg l k)) p mm
                    have hb3 := bndD_mono (p := p) (m := mm) hnk.1
                    refine r_aload_n hb 108 dX9_delete_107 rfl 2 rfl ?_
                    refine r_get hb ho 111 dX9_delete_108 rfl lk_X9_7 pf_X9_0 mc rfl ?_
                    refine r_iload hb 113 dX9_delete_111 rfl 0 rfl ?_
                    refine r_iconst hb 114 dX9_delete_113 rfl ?_
                    refine r_callSR (st := [.ref (mo + 1)]) hb ho 117 dX9_delete_114 rfl ck_X9_48 (c_X9_at (((k : Nat) : Int)) 2 (36 * ((k : Nat) : Int) + 125) (by omega)) rfl rfl (by rw [hR0]; exact ⟨Nat.le_of_ble_eq_true rfl, Nat.le_of_ble_eq_true rfl⟩) (Nat.le_of_ble_eq_true rfl) ⟨rfl, rfl⟩ (by rw [hR0]; exact Nat.zero_le _) (by rw [hR0]; exact Nat.zero_le _) ?_
                    refine r_aload_n hb 118 dX9_delete_117 rfl 2 rfl ?_
                    refine r_get hb ho 121 dX9_delete_118 rfl lk_X9_7 pf_X9_0 mc rfl ?_
                    refine r_iload hb 123 dX9_delete_121 rfl 0 rfl ?_
                    refine r_iconst hb 124 dX9_delete_123 rfl ?_
                    refine r_callSR (st := [.ref (mo + 1), .int (iI (36 * ((k : Nat) : Int) + 125)), .ref (mo + 1)]) hb ho 127 dX9_delete_124 rfl ck_X9_48 (c_X9_at (((k : Nat) : Int)) 2 (36 * ((k : Nat) : Int) + 125) (by omega)) rfl rfl (by rw [hR0]; exact ⟨Nat.le_of_ble_eq_true rfl, Nat.le_of_ble_eq_true rfl⟩) (Nat.le_of_ble_eq_true rfl) ⟨rfl, rfl⟩ (by rw [hR0]; exact Nat.zero_le _) (by rw [hR0]; exact Nat.zero_le _) ?_
                    refine r_iald hb 128 dX9_delete_127 rfl vc (123 + 36 * k + 2) (by omega) (⟨by omega, by omega⟩) ?_
                    refine r_topz (((nB (lg l k) : Nat) : Int)) (n2) ?_
                    refine r_iload_n hb 129 dX9_delete_128 rfl 3 rfl ?_
                    refine r_iload_n hb 130 dX9_delete_129 rfl 4 rfl ?_
                    refine r_callSR (st := [.int (iI (36 * ((k : Nat) : Int) + 125)), .ref (mo + 1)]) hb ho 133 dX9_delete_130 rfl ck_X9_80 (c_X9_without ((nB (lg l k))) p mm (by omega)) rfl rfl (by rw [hR0]; exact ⟨Nat.le_of_ble_eq_true rfl, Nat.le_of_ble_eq_true rfl⟩) (Nat.le_of_ble_eq_true rfl) ⟨rfl, rfl⟩ (by rw [hR0]; exact Nat.zero_le _) (by rw [hR0]; exact Nat.zero_le _) ?_
                    refine r_iast hb 134 dX9_delete_133 rfl vc (123 + 36 * k + 2) (by omega) (⟨by omega, by omega⟩) (fun w_133 hw_133 => ?_)
                    have ow_133 := pset_off hw_133
                    have xw_133 : w_133 (mo + 1) = some (eI 483 (upd gi (123 + 36 * k + 2) ((iI (((bndD ((nB (lg l k))) p mm : Nat) : Int)))))) := by rw [hw_133]; exact pset_eq _ _ _
                    have mc : w_133 mo = some (eO 9 [.ref (mo + 1), .ref (mo + 2), .ref (mo + 3), .int (iI ((rg 3))), .ref (mo + 4), .ref (mo + 5), .int (iI ((rg 6))), .ref (mo + 6), .int (iI ((rg 8))), .ref (mo + 7), .int (iI ((rg 10))), .int (iI ((rg 11))), .int (iI ((rg 12))), .int (iI ((rg 13))), .int (iI ((rg 14))), .ref (mo + 8), .int (iI ((rg 16))), .ref (mo + 9), .ref (mo + 10), .ref (mo + 11)]) := (ow_133 _ (by omega)).trans mc
                    have sc : w_133 (mo + 2) = some (eI 483 sp1) := (ow_133 _ (by omega)).trans sc
                    have pc : w_133 (mo + 3) = some (eI 2898 pa) := (ow_133 _ (by omega)).trans pc
                    have kc : w_133 (mo + 4) = some (eI 968 kp) := (ow_133 _ (by omega)).trans kc
                    have ic : w_133 (mo + 5) = some (eZ 2 ik) := (ow_133 _ (by omega)).trans ic
                    have bc : w_133 (mo + 6) = some (eI 40 bg) := (ow_133 _ (by omega)).trans bc
                    have lc : w_133 (mo + 7) = some (eI 17 (fun ii => iI ((ln ii : Nat) : Int))) := (ow_133 _ (by omega)).trans lc
                    have oc : w_133 (mo + 8) = some (eI 10 (fun ii => iI ((od ii : Nat) : Int))) := (ow_133 _ (by omega)).trans oc
                    have xc : w_133 (mo + 9) = some (eI 1210 (fun ii => iI (sco ii))) := (ow_133 _ (by omega)).trans xc
                    have ec : w_133 (mo + 10) = some (eI 1210 (fun ii => iI (leo ii))) := (ow_133 _ (by omega)).trans ec
                    have uc : w_133 (mo + 11) = some (eI 1331 (fun ii => iI (smo ii))) := (ow_133 _ (by omega)).trans uc
                    refine r_aload_n hb 135 dX9_delete_134 rfl 2 rfl ?_
                    refine r_get hb ho 138 dX9_delete_135 rfl lk_X9_7 pf_X9_0 mc rfl ?_
                    refine r_iload hb 140 dX9_delete_138 rfl 0 rfl ?_
                    refine r_iconst hb 141 dX9_delete_140 rfl ?_
                    refine r_callSR (st := [.ref (mo + 1)]) hb ho 144 dX9_delete_141 rfl ck_X9_48 (c_X9_at (((k : Nat) : Int)) 3 (36 * ((k : Nat) : Int) + 126) (by omega)) rfl rfl (by rw [hR0]; exact ⟨Nat.le_of_ble_eq_true rfl, Nat.le_of_ble_eq_true rfl⟩) (Nat.le_of_ble_eq_true rfl) ⟨rfl, rfl⟩ (by rw [hR0]; exact Nat.zero_le _) (by rw [hR0]; exact Nat.zero_le _) ?_
                    refine r_aload_n hb 145 dX9_delete_144 rfl 2 rfl ?_
                    refine r_get hb ho 148 dX9_delete_145 rfl lk_X9_7 pf_X9_0 mc rfl ?_
                    refine r_iload hb 150 dX9_delete_148 rfl 0 rfl ?_
                    refine r_iconst hb 151 dX9_delete_150 rfl ?_
                    refine r_callSR (st := [.ref (mo + 1), .int (iI (36 * ((k : Nat) : Int) + 126)), .ref (mo + 1)]) hb ho 154 dX9_delete_151 rfl ck_X9_48 (c_X9_at (((k : Nat) : Int)) 3 (36 * ((k : Nat) : Int) + 126) (by omega)) rfl rfl (by rw [hR0]; exact ⟨Nat.le_of_ble_eq_true rfl, Nat.le_of_ble_eq_true rfl⟩) (Nat.le_of_ble_eq_true rfl) ⟨rfl, rfl⟩ (by rw [hR0]; exact Nat.zero_le _) (by rw [hR0]; exact Nat.zero_le _) ?_
                    refine r_iald hb 155 dX9_delete_154 rfl xw_133 (123 + 36 * k + 3) (by omega) (⟨by omega, by omega⟩) ?_
                    refine r_topz (((nE (lg l k) : Nat) : Int)) ((pk_un (by omega)).trans n3) ?_
                    refine r_iload_n hb 156 dX9_delete_155 rfl 3 rfl ?_
                    refine r_iload_n hb 157 dX9_delete_156 rfl 4 rfl ?_
                    refine r_callSR (st := [.int (iI (36 * ((k : Nat) : Int) + 126)), .ref (mo + 1)]) hb ho 160 dX9_delete_157 rfl ck_X9_80 (c_X9_without ((nE (lg l k))) p mm (by omega)) rfl rfl (by rw [hR0]; exact ⟨Nat.le_of_ble_eq_true rfl, Nat.le_of_ble_eq_true rfl⟩) (Nat.le_of_ble_eq_true rfl) ⟨rfl, rfl⟩ (by rw [hR0]; exact Nat.zero_le _) (by rw [hR0]; exact Nat.zero_le _) ?_
                    refine r_iast hb 161 dX9_delete_160 rfl xw_133 (123 + 36 * k + 3) (by omega) (⟨by omega, by omega⟩) (fun w_160 hw_160 => ?_)
                    have ow_160 := pset_off hw_160
                    have xw_160 : w_160 (mo + 1) = some (eI 483 (upd (upd gi (123 + 36 * k + 2) ((iI (((bndD ((nB (lg l k))) p mm : Nat) : Int))))) (123 + 36 * k + 3) ((iI (((bndD ((nE (lg l k))) p mm : Nat) : Int)))))) := by rw [hw_160]; exact pset_eq _ _ _
                    have mc : w_160 mo = some (eO 9 [.ref (mo + 1), .ref (mo + 2), .ref (mo + 3), .int (iI ((rg 3))), .ref (mo + 4), .ref (mo + 5), .int (iI ((rg 6))), .ref (mo + 6), .int (iI ((rg 8))), .ref (mo + 7), .int (iI ((rg 10))), .int (iI ((rg 11))), .int (iI ((rg 12))), .int (iI ((rg 13))), .int (iI ((rg 14))), .ref (mo + 8), .int (iI ((rg 16))), .ref (mo + 9), .ref (mo + 10), .ref (mo + 11)]) := (ow_160 _ (by omega)).trans mc
                    have sc : w_160 (mo + 2) = some (eI 483 sp1) := (ow_160 _ (by omega)).trans sc
                    have pc : w_160 (mo + 3) = some (eI 2898 pa) := (ow_160 _ (by omega)).trans pc
                    have kc : w_160 (mo + 4) = some (eI 968 kp) := (ow_160 _ (by omega)).trans kc
                    have ic : w_160 (mo + 5) = some (eZ 2 ik) := (ow_160 _ (by omega)).trans ic
                    have bc : w_160 (mo + 6) = some (eI 40 bg) := (ow_160 _ (by omega)).trans bc
                    have lc : w_160 (mo + 7) = some (eI 17 (fun ii => iI ((ln ii : Nat) : Int))) := (ow_160 _ (by omega)).trans lc
                    have oc : w_160 (mo + 8) = some (eI 10 (fun ii => iI ((od ii : Nat) : Int))) := (ow_160 _ (by omega)).trans oc
                    have xc : w_160 (mo + 9) = some (eI 1210 (fun ii => iI (sco ii))) := (ow_160 _ (by omega)).trans xc
                    have ec : w_160 (mo + 10) = some (eI 1210 (fun ii => iI (leo ii))) := (ow_160 _ (by omega)).trans ec
                    have uc : w_160 (mo + 11) = some (eI 1331 (fun ii => iI (smo ii))) := (ow_160 _ (by omega)).trans uc
                    refine r_aload_n hb 162 dX9_delete_161 rfl 2 rfl ?_
                    refine r_get hb ho 165 dX9_delete_162 rfl lk_X9_7 pf_X9_0 mc rfl ?_
                    refine r_iload hb 167 dX9_delete_165 rfl 0 rfl ?_
                    refine r_iconst hb 168 dX9_delete_167 rfl ?_
                    refine r_callSR (st := [.ref (mo + 1)]) hb ho 171 dX9_delete_168 rfl ck_X9_48 (c_X9_at (((k : Nat) : Int)) 1 (36 * ((k : Nat) : Int) + 124) (by omega)) rfl rfl (by rw [hR0]; exact ⟨Nat.le_of_ble_eq_true rfl, Nat.le_of_ble_eq_true rfl⟩) (Nat.le_of_ble_eq_true rfl) ⟨rfl, rfl⟩ (by rw [hR0]; exact Nat.zero_le _) (by rw [hR0]; exact Nat.zero_le _) ?_
                    refine r_iald hb 172 dX9_delete_171 rfl xw_160 (123 + 36 * k + 1) (by omega) (⟨by omega, by omega⟩) ?_
                    refine r_topv (.int (bI (nK (lg l k)))) (congrArg Value.int ((pk_un (by omega)).trans ((pk_un (by omega)).trans n1))) ?_
                    refine r_iconst hb 173 dX9_delete_172 rfl ?_
                    refine r_icmpB_ne hb 176 205 dX9_delete_173 rfl (by decide) (fun c173 => ?_) (fun c173 => ?_)
                    · refine r_iconst hb 206 dX9_delete_205 rfl ?_
                      refine r_istore [(5, .int (iI 0)), (4, .int (iI (((k : Nat) : Int)))), (3, .int (iI (((orN p mm l k : Nat) : Int)))), (0, .ref mo), (1, .int (iI (((p : Nat) : Int)))), (2, .int (iI (((mm : Nat) : Int))))] hb 208 6 dX9_delete_206 rfl hnL (by decide) rfl ?_
                      refine r_aload_n hb 209 dX9_delete_208 rfl 3 rfl ?_
                      refine r_get hb ho 212 dX9_delete_209 rfl lk_X9_7 pf_X9_0 mc rfl ?_
                      refine r_iload hb 214 dX9_delete_212 rfl 1 rfl ?_
                      refine r_iconst hb 215 dX9_delete_214 rfl ?_
                      refine r_callSR (st := [.ref (mo + 1)]) hb ho 218 dX9_delete_215 rfl ck_X9_48 (c_X9_at (((k : Nat) : Int)) 1 (36 * ((k : Nat) : Int) + 124) (by omega)) rfl rfl (by rw [hR0]; exact ⟨Nat.le_of_ble_eq_true rfl, Nat.le_of_ble_eq_true rfl⟩) (Nat.le_of_ble_eq_true rfl) ⟨rfl, rfl⟩ (by rw [hR0]; exact Nat.zero_le _) (by rw [hR0]; exact Nat.zero_le _) ?_
                      refine r_iload hb 220 dX9_delete_218 rfl 0 rfl ?_
                      refine r_if_eq hb 223 227 dX9_delete_220 rfl (by decide) (by omega) (fun c220 => ?_) (fun c220 => ?_)
                      · refine r_aload_n hb 228 dX9_delete_227 rfl 3 rfl ?_
                        refine r_get hb ho 231 dX9_delete_228 rfl lk_X9_7 pf_X9_0 mc rfl ?_
                        refine r_iload hb 233 dX9_delete_231 rfl 1 rfl ?_
                        refine r_iconst hb 234 dX9_delete_233 rfl ?_
                        refine r_callSR (st := [.ref (mo + 1), .int (iI (36 * ((k : Nat) : Int) + 124)), .ref (mo + 1)]) hb ho 237 dX9_delete_234 rfl ck_X9_48 (c_X9_at (((k : Nat) : Int)) 1 (36 * ((k : Nat) : Int) + 124) (by omega)) rfl rfl (by rw [hR0]; exact ⟨Nat.le_of_ble_eq_true rfl, Nat.le_of_ble_eq_true rfl⟩) (Nat.le_of_ble_eq_true rfl) ⟨rfl, rfl⟩ (by rw [hR0]; exact Nat.zero_le _) (by rw [hR0]; exact Nat.zero_le _) ?_
                        refine r_iald hb 238 dX9_delete_237 rfl xw_160 (123 + 36 * k + 1) (by omega) (⟨by omega, by omega⟩) ?_
                        refine r_topv (.int (bI (nK (lg l k)))) (congrArg Value.int ((pk_un (by omega)).trans ((pk_un (by omega)).trans n1))) ?_
                        refine r_iast hb 239 dX9_delete_238 rfl xw_160 (123 + 36 * k + 1) (by omega) (⟨by omega, by omega⟩) (fun w_238 hw_238 => ?_)
                        have ow_238 := pset_off hw_238
                        have xw_238 : w_238 (mo + 1) = some (eI 483 (upd (upd (upd gi (123 + 36 * k + 2) ((iI (((bndD ((nB (lg l k))) p mm : Nat) : Int))))) (123 + 36 * k + 3) ((iI (((bndD ((nE (lg l k))) p mm : Nat) : Int))))) (123 + 36 * k + 1) ((bI (nK (lg l k)))))) := by rw [hw_238]; exact pset_eq _ _ _
                        have mc : w_238 mo = some (eO 9 [.ref (mo + 1), .ref (mo + 2), .ref (mo + 3), .int (iI ((rg 3))), .ref (mo + 4), .ref (mo + 5), .int (iI ((rg 6))), .ref (mo + 6), .int (iI ((rg 8))), .ref (mo + 7), .int (iI ((rg 10))), .int (iI ((rg 11))), .int (iI ((rg 12))), .int (iI ((rg 13))), .int (iI ((rg 14))), .ref (mo + 8), .int (iI ((rg 16))), .ref (mo + 9), .ref (mo + 10), .ref (mo + 11)]) := (ow_238 _ (by omega)).trans mc
                        have sc : w_238 (mo + 2) = some (eI 483 sp1) := (ow_238 _ (by omega)).trans sc
                        have pc : w_238 (mo + 3) = some (eI 2898 pa) := (ow_238 _ (by omega)).trans pc
                        have kc : w_238 (mo + 4) = some (eI 968 kp) := (ow_238 _ (by omega)).trans kc
                        have ic : w_238 (mo + 5) = some (eZ 2 ik) := (ow_238 _ (by omega)).trans ic
                        have bc : w_238 (mo + 6) = some (eI 40 bg) := (ow_238 _ (by omega)).trans bc
                        have lc : w_238 (mo + 7) = some (eI 17 (fun ii => iI ((ln ii : Nat) : Int))) := (ow_238 _ (by omega)).trans lc
                        have oc : w_238 (mo + 8) = some (eI 10 (fun ii => iI ((od ii : Nat) : Int))) := (ow_238 _ (by omega)).trans oc
                        have xc : w_238 (mo + 9) = some (eI 1210 (fun ii => iI (sco ii))) := (ow_238 _ (by omega)).trans xc
                        have ec : w_238 (mo + 10) = some (eI 1210 (fun ii => iI (leo ii))) := (ow_238 _ (by omega)).trans ec
                        have uc : w_238 (mo + 11) = some (eI 1331 (fun ii => iI (smo ii))) := (ow_238 _ (by omega)).trans uc
                        refine r_iload_n hb 240 dX9_delete_239 rfl 2 rfl ?_
                        refine r_iload hb 242 dX9_delete_240 rfl 0 rfl ?_
                        refine r_if_eq hb 245 249 dX9_delete_242 rfl (by decide) (by omega) (fun c242 => ?_) (fun c242 => ?_)
                        · refine r_iconst hb 250 dX9_delete_249 rfl ?_
                          refine r_iaddZ hb 251 (((orN p mm l k : Nat) : Int)) dX9_delete_250 rfl (by omega) ?_
                          refine r_istore_n [(3, .int (iI (((orN p mm l k : Nat) : Int)))), (5, .int (iI 0)), (4, .int (iI (((k : Nat) : Int)))), (0, .ref mo), (1, .int (iI (((p : Nat) : Int)))), (2, .int (iI (((mm : Nat) : Int))))] hb 252 6 dX9_delete_251 rfl rfl hnL (by decide) rfl ?_
                          refine r_iinc [(4, .int (iI (((k : Nat) : Int) + 1))), (3, .int (iI (((orN p mm l k : Nat) : Int)))), (5, .int (iI 0)), (0, .ref mo), (1, .int (iI (((p : Nat) : Int)))), (2, .int (iI (((mm : Nat) : Int))))] hb 255 6 2 dX9_delete_252 rfl rfl hnL (by decide) (((k : Nat) : Int) + 1) (by omega) rfl ?_
                          refine r_goto hb 95 dX9_delete_255 (by decide) ?_
                          have eK : nK (mvDel p mm (lg l k)) = false := by show (nK (lg l k) && decide (bndD (nB (lg l k)) p mm < bndD (nE (lg l k)) p mm)) = false; rw [c173]; rfl
                          have e3 : orN p mm l (k + 1) = orN p mm l k + 0 := by simp only [orN]; rw [c173]; rfl
                          refine r_lv [(4, .int (iI (((k + 1 : Nat) : Int)))), (3, .int (iI (((orN p mm l (k + 1) : Nat) : Int)))), (0, .ref mo), (1, .int (iI (((p : Nat) : Int)))), (2, .int (iI (((mm : Nat) : Int))))] [0, 1, 3, 4, 5] (by rw [e3]; rfl) ?_
                          refine ih_lk (l.length - (k + 1)) (by omega) (k + 1) _ _ rfl (by omega) xw_238 mc sc pc kc ic bc lc oc xc ec uc ?_ ?_ ?_ ?_ (hO.trans (((ow_133.mono (by omega) (by omega)).trans (ow_160.mono (by omega) (by omega))).trans (ow_238.mono (by omega) (by omega))))
                          · exact hDi.congr (fun q hq => by rw [pk_un (by omega), pk_un (by omega), pk_un (by omega)])
                          · rw [pk_un (by omega), pk_un (by omega), pk_un (by omega)]; exact q1
                          · rw [pk_un (by omega), pk_un (by omega), pk_un (by omega)]; exact q2
                          · refine vnx_step (ys := fun m => mvDel p mm (lg l m)) hXi (vnt_head hN (fun q h1 h2 => ?_) ?_ ?_ ?_ ?_ ?_ rfl ⟨n11, ?_, ?_⟩) (fun q hq => ?_)
                            · rw [pk_un (by omega), pk_un (by omega), pk_un (by omega)]
                            · rw [pk_un (by omega), pk_un (by omega), pk_un (by omega)]; exact n0
                            · exact pk_us.trans (congrArg bI (by rw [eK, c173]))
                            · rw [pk_un (by omega), pk_un (by omega), pk_us]; rfl
                            · rw [pk_un (by omega), pk_us]; rfl
                            · rw [pk_un (by omega), pk_un (by omega), pk_un (by omega)]; exact n4
                            · show bndD (nB (lg l k)) p mm ≤ 200; omega
                            · show bndD (nE (lg l k)) p mm ≤ 200; omega
                            · rw [pk_un (by omega), pk_un (by omega), pk_un (by omega)]
                        · exfalso; omega
                      · exfalso; omega
                    · refine r_aload_n hb 177 dX9_delete_176 rfl 2 rfl ?_
                      refine r_get hb ho 180 dX9_delete_177 rfl lk_X9_7 pf_X9_0 mc rfl ?_
                      refine r_iload hb 182 dX9_delete_180 rfl 0 rfl ?_
                      refine r_iconst hb 183 dX9_delete_182 rfl ?_
                      refine r_callSR (st := [.ref (mo + 1)]) hb ho 186 dX9_delete_183 rfl ck_X9_48 (c_X9_at (((k : Nat) : Int)) 2 (36 * ((k : Nat) : Int) + 125) (by omega)) rfl rfl (by rw [hR0]; exact ⟨Nat.le_of_ble_eq_true rfl, Nat.le_of_ble_eq_true rfl⟩) (Nat.le_of_ble_eq_true rfl) ⟨rfl, rfl⟩ (by rw [hR0]; exact Nat.zero_le _) (by rw [hR0]; exact Nat.zero_le _) ?_
                      refine r_iald hb 187 dX9_delete_186 rfl xw_160 (123 + 36 * k + 2) (by omega) (⟨by omega, by omega⟩) ?_
                      refine r_topz (((bndD (nB (lg l k)) p mm : Nat) : Int)) ((pk_un (by omega)).trans pk_us) ?_
                      refine r_aload_n hb 188 dX9_delete_187 rfl 2 rfl ?_
                      refine r_get hb ho 191 dX9_delete_188 rfl lk_X9_7 pf_X9_0 mc rfl ?_
                      refine r_iload hb 193 dX9_delete_191 rfl 0 rfl ?_
                      refine r_iconst hb 194 dX9_delete_193 rfl ?_
                      refine r_callSR (st := [.ref (mo + 1), .int (iI (((bndD (nB (lg l k)) p mm : Nat) : Int)))]) hb ho 197 dX9_delete_194 rfl ck_X9_48 (c_X9_at (((k : Nat) : Int)) 3 (36 * ((k : Nat) : Int) + 126) (by omega)) rfl rfl (by rw [hR0]; exact ⟨Nat.le_of_ble_eq_true rfl, Nat.le_of_ble_eq_true rfl⟩) (Nat.le_of_ble_eq_true rfl) ⟨rfl, rfl⟩ (by rw [hR0]; exact Nat.zero_le _) (by rw [hR0]; exact Nat.zero_le _) ?_
                      refine r_iald hb 198 dX9_delete_197 rfl xw_160 (123 + 36 * k + 3) (by omega) (⟨by omega, by omega⟩) ?_
                      refine r_topz (((bndD (nE (lg l k)) p mm : Nat) : Int)) (pk_us) ?_
                      refine r_icmp_ne hb 201 205 dX9_delete_198 rfl (by decide) (by omega) (by omega) (fun c198 => ?_) (fun c198 => ?_)
                      · refine r_iconst hb 206 dX9_delete_205 rfl ?_
                        refine r_istore [(5, .int (iI 0)), (4, .int (iI (((k : Nat) : Int)))), (3, .int (iI (((orN p mm l k : Nat) : Int)))), (0, .ref mo), (1, .int (iI (((p : Nat) : Int)))), (2, .int (iI (((mm : Nat) : Int))))] hb 208 6 dX9_delete_206 rfl hnL (by decide) rfl ?_
                        refine r_aload_n hb 209 dX9_delete_208 rfl 3 rfl ?_
                        refine r_get hb ho 212 dX9_delete_209 rfl lk_X9_7 pf_X9_0 mc rfl ?_
                        refine r_iload hb 214 dX9_delete_212 rfl 1 rfl ?_
                        refine r_iconst hb 215 dX9_delete_214 rfl ?_
                        refine r_callSR (st := [.ref (mo + 1)]) hb ho 218 dX9_delete_215 rfl ck_X9_48 (c_X9_at (((k : Nat) : Int)) 1 (36 * ((k : Nat) : Int) + 124) (by omega)) rfl rfl (by rw [hR0]; exact ⟨Nat.le_of_ble_eq_true rfl, Nat.le_of_ble_eq_true rfl⟩) (Nat.le_of_ble_eq_true rfl) ⟨rfl, rfl⟩ (by rw [hR0]; exact Nat.zero_le _) (by rw [hR0]; exact Nat.zero_le _) ?_
                        refine r_iload hb 220 dX9_delete_218 rfl 0 rfl ?_
                        refine r_if_eq hb 223 227 dX9_delete_220 rfl (by decide) (by omega) (fun c220 => ?_) (fun c220 => ?_)
                        · refine r_aload_n hb 228 dX9_delete_227 rfl 3 rfl ?_
                          refine r_get hb ho 231 dX9_delete_228 rfl lk_X9_7 pf_X9_0 mc rfl ?_
                          refine r_iload hb 233 dX9_delete_231 rfl 1 rfl ?_
                          refine r_iconst hb 234 dX9_delete_233 rfl ?_
                          refine r_callSR (st := [.ref (mo + 1), .int (iI (36 * ((k : Nat) : Int) + 124)), .ref (mo + 1)]) hb ho 237 dX9_delete_234 rfl ck_X9_48 (c_X9_at (((k : Nat) : Int)) 1 (36 * ((k : Nat) : Int) + 124) (by omega)) rfl rfl (by rw [hR0]; exact ⟨Nat.le_of_ble_eq_true rfl, Nat.le_of_ble_eq_true rfl⟩) (Nat.le_of_ble_eq_true rfl) ⟨rfl, rfl⟩ (by rw [hR0]; exact Nat.zero_le _) (by rw [hR0]; exact Nat.zero_le _) ?_
                          refine r_iald hb 238 dX9_delete_237 rfl xw_160 (123 + 36 * k + 1) (by omega) (⟨by omega, by omega⟩) ?_
                          refine r_topv (.int (bI (nK (lg l k)))) (congrArg Value.int ((pk_un (by omega)).trans ((pk_un (by omega)).trans n1))) ?_
                          refine r_iast hb 239 dX9_delete_238 rfl xw_160 (123 + 36 * k + 1) (by omega) (⟨by omega, by omega⟩) (fun w_238 hw_238 => ?_)
                          have ow_238 := pset_off hw_238
                          have xw_238 : w_238 (mo + 1) = some (eI 483 (upd (upd (upd gi (123 + 36 * k + 2) ((iI (((bndD ((nB (lg l k))) p mm : Nat) : Int))))) (123 + 36 * k + 3) ((iI (((bndD ((nE (lg l k))) p mm : Nat) : Int))))) (123 + 36 * k + 1) ((bI (nK (lg l k)))))) := by rw [hw_238]; exact pset_eq _ _ _
                          have mc : w_238 mo = some (eO 9 [.ref (mo + 1), .ref (mo + 2), .ref (mo + 3), .int (iI ((rg 3))), .ref (mo + 4), .ref (mo + 5), .int (iI ((rg 6))), .ref (mo + 6), .int (iI ((rg 8))), .ref (mo + 7), .int (iI ((rg 10))), .int (iI ((rg 11))), .int (iI ((rg 12))), .int (iI ((rg 13))), .int (iI ((rg 14))), .ref (mo + 8), .int (iI ((rg 16))), .ref (mo + 9), .ref (mo + 10), .ref (mo + 11)]) := (ow_238 _ (by omega)).trans mc
                          have sc : w_238 (mo + 2) = some (eI 483 sp1) := (ow_238 _ (by omega)).trans sc
                          have pc : w_238 (mo + 3) = some (eI 2898 pa) := (ow_238 _ (by omega)).trans pc
                          have kc : w_238 (mo + 4) = some (eI 968 kp) := (ow_238 _ (by omega)).trans kc
                          have ic : w_238 (mo + 5) = some (eZ 2 ik) := (ow_238 _ (by omega)).trans ic
                          have bc : w_238 (mo + 6) = some (eI 40 bg) := (ow_238 _ (by omega)).trans bc
                          have lc : w_238 (mo + 7) = some (eI 17 (fun ii => iI ((ln ii : Nat) : Int))) := (ow_238 _ (by omega)).trans lc
                          have oc : w_238 (mo + 8) = some (eI 10 (fun ii => iI ((od ii : Nat) : Int))) := (ow_238 _ (by omega)).trans oc
                          have xc : w_238 (mo + 9) = some (eI 1210 (fun ii => iI (sco ii))) := (ow_238 _ (by omega)).trans xc
                          have ec : w_238 (mo + 10) = some (eI 1210 (fun ii => iI (leo ii))) := (ow_238 _ (by omega)).trans ec
                          have uc : w_238 (mo + 11) = some (eI 1331 (fun ii => iI (smo ii))) := (ow_238 _ (by omega)).trans uc
                          refine r_iload_n hb 240 dX9_delete_239 rfl 2 rfl ?_
                          refine r_iload hb 242 dX9_delete_240 rfl 0 rfl ?_
                          refine r_if_eq hb 245 249 dX9_delete_242 rfl (by decide) (by omega) (fun c242 => ?_) (fun c242 => ?_)
                          · refine r_iconst hb 250 dX9_delete_249 rfl ?_
                            refine r_iaddZ hb 251 (((orN p mm l k : Nat) : Int)) dX9_delete_250 rfl (by omega) ?_
                            refine r_istore_n [(3, .int (iI (((orN p mm l k : Nat) : Int)))), (5, .int (iI 0)), (4, .int (iI (((k : Nat) : Int)))), (0, .ref mo), (1, .int (iI (((p : Nat) : Int)))), (2, .int (iI (((mm : Nat) : Int))))] hb 252 6 dX9_delete_251 rfl rfl hnL (by decide) rfl ?_
                            refine r_iinc [(4, .int (iI (((k : Nat) : Int) + 1))), (3, .int (iI (((orN p mm l k : Nat) : Int)))), (5, .int (iI 0)), (0, .ref mo), (1, .int (iI (((p : Nat) : Int)))), (2, .int (iI (((mm : Nat) : Int))))] hb 255 6 2 dX9_delete_252 rfl rfl hnL (by decide) (((k : Nat) : Int) + 1) (by omega) rfl ?_
                            refine r_goto hb 95 dX9_delete_255 (by decide) ?_
                            have eK : nK (mvDel p mm (lg l k)) = true := by show (nK (lg l k) && decide (bndD (nB (lg l k)) p mm < bndD (nE (lg l k)) p mm)) = true; rw [c173, decide_eq_true (by omega : bndD (nB (lg l k)) p mm < bndD (nE (lg l k)) p mm)]; rfl
                            have e3 : orN p mm l (k + 1) = orN p mm l k + 0 := by simp only [orN]; rw [c173, decide_eq_true (by omega : bndD (nB (lg l k)) p mm < bndD (nE (lg l k)) p mm)]; rfl
                            refine r_lv [(4, .int (iI (((k + 1 : Nat) : Int)))), (3, .int (iI (((orN p mm l (k + 1) : Nat) : Int)))), (0, .ref mo), (1, .int (iI (((p : Nat) : Int)))), (2, .int (iI (((mm : Nat) : Int))))] [0, 1, 3, 4, 5] (by rw [e3]; rfl) ?_
                            refine ih_lk (l.length - (k + 1)) (by omega) (k + 1) _ _ rfl (by omega) xw_238 mc sc pc kc ic bc lc oc xc ec uc ?_ ?_ ?_ ?_ (hO.trans (((ow_133.mono (by omega) (by omega)).trans (ow_160.mono (by omega) (by omega))).trans (ow_238.mono (by omega) (by omega))))
                            · exact hDi.congr (fun q hq => by rw [pk_un (by omega), pk_un (by omega), pk_un (by omega)])
                            · rw [pk_un (by omega), pk_un (by omega), pk_un (by omega)]; exact q1
                            · rw [pk_un (by omega), pk_un (by omega), pk_un (by omega)]; exact q2
                            · refine vnx_step (ys := fun m => mvDel p mm (lg l m)) hXi (vnt_head hN (fun q h1 h2 => ?_) ?_ ?_ ?_ ?_ ?_ rfl ⟨n11, ?_, ?_⟩) (fun q hq => ?_)
                              · rw [pk_un (by omega), pk_un (by omega), pk_un (by omega)]
                              · rw [pk_un (by omega), pk_un (by omega), pk_un (by omega)]; exact n0
                              · exact pk_us.trans (congrArg bI (by rw [eK, c173]))
                              · rw [pk_un (by omega), pk_un (by omega), pk_us]; rfl
                              · rw [pk_un (by omega), pk_us]; rfl
                              · rw [pk_un (by omega), pk_un (by omega), pk_un (by omega)]; exact n4
                              · show bndD (nB (lg l k)) p mm ≤ 200; omega
                              · show bndD (nE (lg l k)) p mm ≤ 200; omega
                              · rw [pk_un (by omega), pk_un (by omega), pk_un (by omega)]
                          · exfalso; omega
                        · exfalso; omega
                      · refine r_iconst hb 202 dX9_delete_201 rfl ?_
                        refine r_goto hb 206 dX9_delete_202 (by decide) ?_
                        refine r_istore [(5, .int (iI 1)), (4, .int (iI (((k : Nat) : Int)))), (3, .int (iI (((orN p mm l k : Nat) : Int)))), (0, .ref mo), (1, .int (iI (((p : Nat) : Int)))), (2, .int (iI (((mm : Nat) : Int))))] hb 208 6 dX9_delete_206 rfl hnL (by decide) rfl ?_
                        refine r_aload_n hb 209 dX9_delete_208 rfl 3 rfl ?_
                        refine r_get hb ho 212 dX9_delete_209 rfl lk_X9_7 pf_X9_0 mc rfl ?_
                        refine r_iload hb 214 dX9_delete_212 rfl 1 rfl ?_
                        refine r_iconst hb 215 dX9_delete_214 rfl ?_
                        refine r_callSR (st := [.ref (mo + 1)]) hb ho 218 dX9_delete_215 rfl ck_X9_48 (c_X9_at (((k : Nat) : Int)) 1 (36 * ((k : Nat) : Int) + 124) (by omega)) rfl rfl (by rw [hR0]; exact ⟨Nat.le_of_ble_eq_true rfl, Nat.le_of_ble_eq_true rfl⟩) (Nat.le_of_ble_eq_true rfl) ⟨rfl, rfl⟩ (by rw [hR0]; exact Nat.zero_le _) (by rw [hR0]; exact Nat.zero_le _) ?_
                        refine r_iload hb 220 dX9_delete_218 rfl 0 rfl ?_
                        refine r_if_eq hb 223 227 dX9_delete_220 rfl (by decide) (by omega) (fun c220 => ?_) (fun c220 => ?_)
                        · exfalso; omega
                        · refine r_iconst hb 224 dX9_delete_223 rfl ?_
                          refine r_goto hb 238 dX9_delete_224 (by decide) ?_
                          refine r_iast hb 239 dX9_delete_238 rfl xw_160 (123 + 36 * k + 1) (by omega) (⟨by omega, by omega⟩) (fun w_238 hw_238 => ?_)
                          have ow_238 := pset_off hw_238
                          have xw_238 : w_238 (mo + 1) = some (eI 483 (upd (upd (upd gi (123 + 36 * k + 2) ((iI (((bndD ((nB (lg l k))) p mm : Nat) : Int))))) (123 + 36 * k + 3) ((iI (((bndD ((nE (lg l k))) p mm : Nat) : Int))))) (123 + 36 * k + 1) ((iI 0)))) := by rw [hw_238]; exact pset_eq _ _ _
                          have mc : w_238 mo = some (eO 9 [.ref (mo + 1), .ref (mo + 2), .ref (mo + 3), .int (iI ((rg 3))), .ref (mo + 4), .ref (mo + 5), .int (iI ((rg 6))), .ref (mo + 6), .int (iI ((rg 8))), .ref (mo + 7), .int (iI ((rg 10))), .int (iI ((rg 11))), .int (iI ((rg 12))), .int (iI ((rg 13))), .int (iI ((rg 14))), .ref (mo + 8), .int (iI ((rg 16))), .ref (mo + 9), .ref (mo + 10), .ref (mo + 11)]) := (ow_238 _ (by omega)).trans mc
                          have sc : w_238 (mo + 2) = some (eI 483 sp1) := (ow_238 _ (by omega)).trans sc
                          have pc : w_238 (mo + 3) = some (eI 2898 pa) := (ow_238 _ (by omega)).trans pc
                          have kc : w_238 (mo + 4) = some (eI 968 kp) := (ow_238 _ (by omega)).trans kc
                          have ic : w_238 (mo + 5) = some (eZ 2 ik) := (ow_238 _ (by omega)).trans ic
                          have bc : w_238 (mo + 6) = some (eI 40 bg) := (ow_238 _ (by omega)).trans bc
                          have lc : w_238 (mo + 7) = some (eI 17 (fun ii => iI ((ln ii : Nat) : Int))) := (ow_238 _ (by omega)).trans lc
                          have oc : w_238 (mo + 8) = some (eI 10 (fun ii => iI ((od ii : Nat) : Int))) := (ow_238 _ (by omega)).trans oc
                          have xc : w_238 (mo + 9) = some (eI 1210 (fun ii => iI (sco ii))) := (ow_238 _ (by omega)).trans xc
                          have ec : w_238 (mo + 10) = some (eI 1210 (fun ii => iI (leo ii))) := (ow_238 _ (by omega)).trans ec
                          have uc : w_238 (mo + 11) = some (eI 1331 (fun ii => iI (smo ii))) := (ow_238 _ (by omega)).trans uc
                          refine r_iload_n hb 240 dX9_delete_239 rfl 2 rfl ?_
                          refine r_iload hb 242 dX9_delete_240 rfl 0 rfl ?_
                          refine r_if_eq hb 245 249 dX9_delete_242 rfl (by decide) (by omega) (fun c242 => ?_) (fun c242 => ?_)
                          · exfalso; omega
                          · refine r_iconst hb 246 dX9_delete_245 rfl ?_
                            refine r_goto hb 250 dX9_delete_246 (by decide) ?_
                            refine r_iaddZ hb 251 (((orN p mm l k : Nat) : Int) + 1) dX9_delete_250 rfl (by omega) ?_
                            refine r_istore_n [(3, .int (iI (((orN p mm l k : Nat) : Int) + 1))), (5, .int (iI 1)), (4, .int (iI (((k : Nat) : Int)))), (0, .ref mo), (1, .int (iI (((p : Nat) : Int)))), (2, .int (iI (((mm : Nat) : Int))))] hb 252 6 dX9_delete_251 rfl rfl hnL (by decide) rfl ?_
                            refine r_iinc [(4, .int (iI (((k : Nat) : Int) + 1))), (3, .int (iI (((orN p mm l k : Nat) : Int) + 1))), (5, .int (iI 1)), (0, .ref mo), (1, .int (iI (((p : Nat) : Int)))), (2, .int (iI (((mm : Nat) : Int))))] hb 255 6 2 dX9_delete_252 rfl rfl hnL (by decide) (((k : Nat) : Int) + 1) (by omega) rfl ?_
                            refine r_goto hb 95 dX9_delete_255 (by decide) ?_
                            have eK : nK (mvDel p mm (lg l k)) = false := by show (nK (lg l k) && decide (bndD (nB (lg l k)) p mm < bndD (nE (lg l k)) p mm)) = false; rw [c173, decide_eq_false (by omega : ¬ bndD (nB (lg l k)) p mm < bndD (nE (lg l k)) p mm)]; rfl
                            have e3 : orN p mm l (k + 1) = orN p mm l k + 1 := by simp only [orN]; rw [c173, decide_eq_false (by omega : ¬ bndD (nB (lg l k)) p mm < bndD (nE (lg l k)) p mm)]; rfl
                            refine r_lv [(4, .int (iI (((k + 1 : Nat) : Int)))), (3, .int (iI (((orN p mm l (k + 1) : Nat) : Int)))), (0, .ref mo), (1, .int (iI (((p : Nat) : Int)))), (2, .int (iI (((mm : Nat) : Int))))] [0, 1, 3, 4, 5] (by rw [e3]; rfl) ?_
                            refine ih_lk (l.length - (k + 1)) (by omega) (k + 1) _ _ rfl (by omega) xw_238 mc sc pc kc ic bc lc oc xc ec uc ?_ ?_ ?_ ?_ (hO.trans (((ow_133.mono (by omega) (by omega)).trans (ow_160.mono (by omega) (by omega))).trans (ow_238.mono (by omega) (by omega))))
                            · exact hDi.congr (fun q hq => by rw [pk_un (by omega), pk_un (by omega), pk_un (by omega)])
                            · rw [pk_un (by omega), pk_un (by omega), pk_un (by omega)]; exact q1
                            · rw [pk_un (by omega), pk_un (by omega), pk_un (by omega)]; exact q2
                            · refine vnx_step (ys := fun m => mvDel p mm (lg l m)) hXi (vnt_head hN (fun q h1 h2 => ?_) ?_ ?_ ?_ ?_ ?_ rfl ⟨n11, ?_, ?_⟩) (fun q hq => ?_)
                              · rw [pk_un (by omega), pk_un (by omega), pk_un (by omega)]
                              · rw [pk_un (by omega), pk_un (by omega), pk_un (by omega)]; exact n0
                              · exact pk_us.trans (bI_F eK)
                              · rw [pk_un (by omega), pk_un (by omega), pk_us]; rfl
                              · rw [pk_un (by omega), pk_us]; rfl
                              · rw [pk_un (by omega), pk_un (by omega), pk_un (by omega)]; exact n4
                              · show bndD (nB (lg l k)) p mm ≤ 200; omega
                              · show bndD (nE (lg l k)) p mm ≤ 200; omega
                              · rw [pk_un (by omega), pk_un (by omega), pk_un (by omega)]
              have ei : i + mm = D.length := by omega
              refine r_lv [(4, .int (iI (((0 : Nat) : Int)))), (3, .int (iI (((orN p mm l 0 : Nat) : Int)))), (0, .ref mo), (1, .int (iI (((p : Nat) : Int)))), (2, .int (iI (((mm : Nat) : Int))))] [0, 1, 2, 3, 4] rfl ?_
              refine lk _ 0 _ _ rfl (Nat.zero_le _) xw_89 mc sc pc kc ic bc lc oc xc ec uc ⟨?_, fun j hj => ?_, by rw [cutL_len (by omega)]; omega⟩ ((pk_un (by omega)).trans ((qB _ (by omega)).trans hP.1)) ((pk_un (by omega)).trans ((qB _ (by omega)).trans hP.2.1)) (vnx_none (hP.2.2.2.2.congr hPl (fun q h1 _ => (pk_un (by omega)).trans (qB q (by omega))))) (hO.trans (ow_89.mono (by omega) (by omega)))
              · rw [pk_us, cutL_len (by omega)]; exact congrArg iI (by omega)
              · rw [cutL_len (by omega)] at hj
                rw [pk_un (by omega), cutL_get (by omega)]
                by_cases h : j < p
                · rw [if_pos h]; exact (qB _ (by omega)).trans (hD.2.1 j (by omega))
                · rw [if_neg h]; exact qA j (by omega) (by omega)
            · refine r_aload_n hb 57 dX9_delete_56 rfl 1 rfl ?_
              refine r_get hb ho 60 dX9_delete_57 rfl lk_X9_7 pf_X9_0 mc rfl ?_
              refine r_iconst hb 61 dX9_delete_60 rfl ?_
              refine r_iload_n hb 62 dX9_delete_61 rfl 0 rfl ?_
              refine r_iaddZ hb 63 (((i : Nat) : Int) + 1) dX9_delete_62 rfl (by omega) ?_
              refine r_aload_n hb 64 dX9_delete_63 rfl 1 rfl ?_
              refine r_get hb ho 67 dX9_delete_64 rfl lk_X9_7 pf_X9_0 mc rfl ?_
              refine r_iconst hb 68 dX9_delete_67 rfl ?_
              refine r_iload_n hb 69 dX9_delete_68 rfl 0 rfl ?_
              refine r_iaddZ hb 70 (((i : Nat) : Int) + 1) dX9_delete_69 rfl (by omega) ?_
              refine r_iload_n hb 71 dX9_delete_70 rfl 3 rfl ?_
              refine r_iaddZ hb 72 (((i : Nat) : Int) + ((mm : Nat) : Int) + 1) dX9_delete_71 rfl (by omega) ?_
              refine r_iald hb 73 dX9_delete_72 rfl vc (1 + (i + mm)) (by omega) (⟨by omega, by omega⟩) ?_
              refine r_topv (.int (D.getD (i + mm) 0)) (congrArg Value.int ((qB _ (by omega)).trans (hD.2.1 (i + mm) (by omega)))) ?_
              refine r_iast hb 74 dX9_delete_73 rfl vc (1 + i) (by omega) (⟨by omega, by omega⟩) (fun w_73 hw_73 => ?_)
              have ow_73 := pset_off hw_73
              have xw_73 : w_73 (mo + 1) = some (eI 483 (upd gi (1 + i) ((D.getD (i + mm) 0)))) := by rw [hw_73]; exact pset_eq _ _ _
              have mc : w_73 mo = some (eO 9 [.ref (mo + 1), .ref (mo + 2), .ref (mo + 3), .int (iI ((rg 3))), .ref (mo + 4), .ref (mo + 5), .int (iI ((rg 6))), .ref (mo + 6), .int (iI ((rg 8))), .ref (mo + 7), .int (iI ((rg 10))), .int (iI ((rg 11))), .int (iI ((rg 12))), .int (iI ((rg 13))), .int (iI ((rg 14))), .ref (mo + 8), .int (iI ((rg 16))), .ref (mo + 9), .ref (mo + 10), .ref (mo + 11)]) := (ow_73 _ (by omega)).trans mc
              have sc : w_73 (mo + 2) = some (eI 483 sp1) := (ow_73 _ (by omega)).trans sc
              have pc : w_73 (mo + 3) = some (eI 2898 pa) := (ow_73 _ (by omega)).trans pc
              have kc : w_73 (mo + 4) = some (eI 968 kp) := (ow_73 _ (by omega)).trans kc
              have ic : w_73 (mo + 5) = some (eZ 2 ik) := (ow_73 _ (by omega)).trans ic
              have bc : w_73 (mo + 6) = some (eI 40 bg) := (ow_73 _ (by omega)).trans bc
              have lc : w_73 (mo + 7) = some (eI 17 (fun ii => iI ((ln ii : Nat) : Int))) := (ow_73 _ (by omega)).trans lc
              have oc : w_73 (mo + 8) = some (eI 10 (fun ii => iI ((od ii : Nat) : Int))) := (ow_73 _ (by omega)).trans oc
              have xc : w_73 (mo + 9) = some (eI 1210 (fun ii => iI (sco ii))) := (ow_73 _ (by omega)).trans xc
              have ec : w_73 (mo + 10) = some (eI 1210 (fun ii => iI (leo ii))) := (ow_73 _ (by omega)).trans ec
              have uc : w_73 (mo + 11) = some (eI 1331 (fun ii => iI (smo ii))) := (ow_73 _ (by omega)).trans uc
              refine r_iinc [(3, .int (iI (((i : Nat) : Int) + 1))), (0, .ref mo), (1, .int (iI (((p : Nat) : Int)))), (2, .int (iI (((mm : Nat) : Int))))] hb 77 6 0 dX9_delete_74 rfl rfl hnL (by decide) (((i : Nat) : Int) + 1) (by omega) rfl ?_
              refine r_goto hb 44 dX9_delete_77 (by decide) ?_
              refine r_lv [(3, .int (iI (((i + 1 : Nat) : Int)))), (0, .ref mo), (1, .int (iI (((p : Nat) : Int)))), (2, .int (iI (((mm : Nat) : Int))))] [0, 1, 2, 3] rfl ?_
              refine ih_lp (D.length - (i + 1)) (by omega) (i + 1) _ _ rfl (by omega) xw_73 mc sc pc kc ic bc lc oc xc ec uc ?_ ?_ (hO.trans (ow_73.mono (by omega) (by omega)))
              · intro q hq hq2
                by_cases e : q = i
                · subst e; rw [pk_us]
                · exact (pk_un (by omega)).trans (qA q hq (by omega))
              · intro q hq
                exact (pk_un (by omega)).trans (qB q (by omega))
        refine r_lv [(3, .int (iI (((p : Nat) : Int)))), (0, .ref mo), (1, .int (iI (((p : Nat) : Int)))), (2, .int (iI (((mm : Nat) : Int))))] [0, 1, 2, 3] rfl ?_
        refine lp _ p _ _ rfl (by omega) vc mc sc pc kc ic bc lc oc xc ec uc (fun q h h2 => absurd h2 (by omega)) (fun q hq => rfl) (ow_39.mono (by omega) (by omega))
      · refine r_sipush (-1002) hb 37 dX9_delete_34 rfl rfl ?_
        refine r_iret hS dX9_delete_37 rfl rfl (Nat.zero_le _) (Nat.zero_le _) ?_
        have e : oDel B D l nx hs s0 s1 thr z m = (iI (-1002), (B, (D, l, nx), hs, s0, s1, thr)) := by unfold oDel; rw [if_neg (by rw [c5]; decide), if_pos (by omega)]
        rw [e]
        exact ⟨_, rfl, rfl, rfl, hM, off.rfl' _ _ _⟩
  · refine r_sipush (-1001) hb 11 dX9_delete_8 rfl rfl ?_
    refine r_iret hS dX9_delete_11 rfl rfl (Nat.zero_le _) (Nat.zero_le _) ?_
    have e : oDel B D l nx hs s0 s1 thr z m = (iI (-1001), (B, (D, l, nx), hs, s0, s1, thr)) := by unfold oDel; rw [if_pos c5]
    rw [e]
    exact ⟨_, rfl, rfl, rfl, hM, off.rfl' _ _ _⟩

abbrev rm_X9_comment : Room := { frames := 3, cells := 0, slots := 0, locals := 69 }
set_option maxHeartbeats 4000000 in
set_option maxRecDepth 100000 in
theorem c_X9_comment (mo : Nat) (B D : List Int32) (l : List Nt) (nx : Nat) (hs : List Pg) (s0 s1 : Option (Pg × Int)) (thr : Int) (f t : Int) {w : PW} {n : Nat} (hM : moE w mo B D l nx hs s0 s1 thr) (hfb : -2147483648 ≤ f ∧ f < 2147483648) (htb : -2147483648 ≤ t ∧ t < 2147483648) (hcap : nx + 1 < 1000000) : Ct1 yX9_comment cX9_comment 4 (some .int) rm_X9_comment [.ref mo, .int (iI (f)), .int (iI (t))] w n (fun v w1 n1 => v = .int (oCom B D l nx hs s0 s1 thr f t).1 ∧ n = n1 ∧ mo_ w1 mo (oCom B D l nx hs s0 s1 thr f t).2 ∧ off w w1 mo (mo + 12)) := by
  obtain ⟨rg, g, sp, pa, kp, ik, bg, ln, od, sco, leo, smo, mc, vc, sc, pc, kc, ic, bc, lc, oc, xc, ec, uc, hV, h3, hH, h6, h8, hB, hS0, hS1⟩ := id hM
  have hD : vdp g D := hV.1
  have hP : vnp g l nx := hV.2
  have hDl := hD.2.2
  have hPl := hP.2.2.1
  have hnx := hP.2.2.2.1
  have hBl := hB.1
  have hHl := hH.1
  refine Ctr.of rfl (Nat.le_of_ble_eq_true rfl) fun S hS => ?_
  have hb : S.1.1 = cX9_comment := by rw [hS]; rfl
  have ho : S.1.2.1 = RX9 := by rw [hS]; rfl
  have hnL : S.1.2.2.1 = 4 := by rw [hS]; rfl
  have hR0 : S.2.1 = rm_X9_comment := by rw [hS]; rfl
  show Wp S 0 [(0, .ref mo), (1, .int (iI (f))), (2, .int (iI (t)))] [] w n 0 0
  refine r_aload_n hb 1 dX9_comment_0 rfl 0 rfl ?_
  refine r_iload_n hb 2 dX9_comment_1 rfl 1 rfl ?_
  refine r_callVR (st := []) hb ho 5 dX9_comment_2 rfl ck_X9_76 (c_X9_isPosition mo rg g D (f) mc vc hD (by omega)) rfl rfl (mc) rfl rfl (by rw [hR0]; exact ⟨Nat.le_of_ble_eq_true rfl, Nat.le_of_ble_eq_true rfl⟩) (Nat.le_of_ble_eq_true rfl) ⟨rfl, rfl⟩ (by rw [hR0]; exact Nat.zero_le _) (by rw [hR0]; exact Nat.zero_le _) ?_
  refine r_ifb_ne hb 8 12 dX9_comment_5 rfl (by decide) (fun c5 => ?_) (fun c5 => ?_)
  · have hpos := of_decide_eq_true c5
    refine r_iload_n hb 13 dX9_comment_12 rfl 2 rfl ?_
    refine r_iload_n hb 14 dX9_comment_13 rfl 1 rfl ?_
    refine r_iconst hb 15 dX9_comment_14 rfl ?_
    refine r_iaddZ hb 16 (f + 1) dX9_comment_15 rfl (by omega) ?_
    refine r_iload_n hb 17 dX9_comment_16 rfl 1 rfl ?_
    refine r_bipush 16 hb 19 dX9_comment_17 rfl rfl ?_
    refine r_iaddZ hb 20 (f + 16) dX9_comment_19 rfl (by omega) ?_
    refine r_callSR (st := []) hb ho 23 dX9_comment_20 rfl ck_X9_52 (c_X9_in (t) (f + 1) (f + 16) (by omega)) rfl rfl (by rw [hR0]; exact ⟨Nat.le_of_ble_eq_true rfl, Nat.le_of_ble_eq_true rfl⟩) (Nat.le_of_ble_eq_true rfl) ⟨rfl, rfl⟩ (by rw [hR0]; exact Nat.zero_le _) (by rw [hR0]; exact Nat.zero_le _) ?_
    refine r_ifb_eq hb 26 34 dX9_comment_23 rfl (by decide) (fun c23 => ?_) (fun c23 => ?_)
    · have c23 := of_decide_eq_false c23
      refine r_sipush (-1002) hb 37 dX9_comment_34 rfl rfl ?_
      refine r_iret hS dX9_comment_37 rfl rfl (Nat.zero_le _) (Nat.zero_le _) ?_
      have e : oCom B D l nx hs s0 s1 thr f t = (iI (-1002), (B, (D, l, nx), hs, s0, s1, thr)) := by unfold oCom; rw [if_neg (by rw [c5]; decide), if_pos (show rngN D f t 16 = false from decide_eq_false (by omega))]
      rw [e]
      exact ⟨_, rfl, rfl, rfl, hM, off.rfl' _ _ _⟩
    · have c23 := of_decide_eq_true c23
      refine r_aload_n hb 27 dX9_comment_26 rfl 0 rfl ?_
      refine r_iload_n hb 28 dX9_comment_27 rfl 2 rfl ?_
      refine r_callVR (st := []) hb ho 31 dX9_comment_28 rfl ck_X9_76 (c_X9_isPosition mo rg g D (t) mc vc hD (by omega)) rfl rfl (mc) rfl rfl (by rw [hR0]; exact ⟨Nat.le_of_ble_eq_true rfl, Nat.le_of_ble_eq_true rfl⟩) (Nat.le_of_ble_eq_true rfl) ⟨rfl, rfl⟩ (by rw [hR0]; exact Nat.zero_le _) (by rw [hR0]; exact Nat.zero_le _) ?_
      refine r_ifb_ne hb 34 38 dX9_comment_31 rfl (by decide) (fun c31 => ?_) (fun c31 => ?_)
      · have hrn : f < t ∧ t ≤ (D.length : Int) ∧ t - f ≤ 16 := by have := of_decide_eq_true c31; omega
        obtain ⟨p, rfl⟩ : ∃ p : Nat, f = (p : Int) := ⟨f.toNat, by omega⟩
        obtain ⟨e, rfl⟩ : ∃ e : Nat, t = (e : Int) := ⟨t.toNat, by omega⟩
        refine r_aload_n hb 39 dX9_comment_38 rfl 0 rfl ?_
        refine r_get hb ho 42 dX9_comment_39 rfl lk_X9_7 pf_X9_0 mc rfl ?_
        refine r_bipush 122 hb 44 dX9_comment_42 rfl rfl ?_
        refine r_iald hb 45 dX9_comment_44 rfl vc 122 (by omega) (⟨by omega, by omega⟩) ?_
        refine r_topz ((((l).length : Nat) : Int)) (hP.2.1) ?_
        refine r_bipush 10 hb 47 dX9_comment_45 rfl rfl ?_
        refine r_icmp_ne hb 50 54 dX9_comment_47 rfl (by decide) (by omega) (by omega) (fun c47 => ?_) (fun c47 => ?_)
        · refine r_aload_n hb 55 dX9_comment_54 rfl 0 rfl ?_
          refine r_callV0 (st := []) hb ho 58 dX9_comment_55 rfl ck_X9_66 (c_X9_begins mo rg g sp mc vc sc) rfl rfl (mc) rfl rfl (by rw [hR0]; exact ⟨Nat.le_of_ble_eq_true rfl, Nat.le_of_ble_eq_true rfl⟩) (Nat.le_of_ble_eq_true rfl) ⟨rfl, rfl⟩ (by rw [hR0]; exact Nat.zero_le _) (by rw [hR0]; exact Nat.zero_le _) (fun w_55 nw_55 qw_55 => ?_)
          obtain ⟨rfl, ⟨sp1, sc, spi⟩, ow_55⟩ := qw_55
          have hsp : vpo sp1 0 (D, l, nx) := vpg_o (hV.congr (fun i hi => spi i hi))
          have mc : w_55 mo = some (eO 9 [.ref (mo + 1), .ref (mo + 2), .ref (mo + 3), .int (iI ((rg 3))), .ref (mo + 4), .ref (mo + 5), .int (iI ((rg 6))), .ref (mo + 6), .int (iI ((rg 8))), .ref (mo + 7), .int (iI ((rg 10))), .int (iI ((rg 11))), .int (iI ((rg 12))), .int (iI ((rg 13))), .int (iI ((rg 14))), .ref (mo + 8), .int (iI ((rg 16))), .ref (mo + 9), .ref (mo + 10), .ref (mo + 11)]) := (ow_55 _ (by omega)).trans mc
          have vc : w_55 (mo + 1) = some (eI 483 g) := (ow_55 _ (by omega)).trans vc
          have pc : w_55 (mo + 3) = some (eI 2898 pa) := (ow_55 _ (by omega)).trans pc
          have kc : w_55 (mo + 4) = some (eI 968 kp) := (ow_55 _ (by omega)).trans kc
          have ic : w_55 (mo + 5) = some (eZ 2 ik) := (ow_55 _ (by omega)).trans ic
          have bc : w_55 (mo + 6) = some (eI 40 bg) := (ow_55 _ (by omega)).trans bc
          have lc : w_55 (mo + 7) = some (eI 17 (fun ii => iI ((ln ii : Nat) : Int))) := (ow_55 _ (by omega)).trans lc
          have oc : w_55 (mo + 8) = some (eI 10 (fun ii => iI ((od ii : Nat) : Int))) := (ow_55 _ (by omega)).trans oc
          have xc : w_55 (mo + 9) = some (eI 1210 (fun ii => iI (sco ii))) := (ow_55 _ (by omega)).trans xc
          have ec : w_55 (mo + 10) = some (eI 1210 (fun ii => iI (leo ii))) := (ow_55 _ (by omega)).trans ec
          have uc : w_55 (mo + 11) = some (eI 1331 (fun ii => iI (smo ii))) := (ow_55 _ (by omega)).trans uc
          refine r_aload_n hb 59 dX9_comment_58 rfl 0 rfl ?_
          refine r_get hb ho 62 dX9_comment_59 rfl lk_X9_7 pf_X9_0 mc rfl ?_
          refine r_bipush 122 hb 64 dX9_comment_62 rfl rfl ?_
          refine r_iald hb 65 dX9_comment_64 rfl vc 122 (by omega) (⟨by omega, by omega⟩) ?_
          refine r_topz ((((l).length : Nat) : Int)) (hP.2.1) ?_
          refine r_istore_n [(3, .int (iI ((((l).length : Nat) : Int)))), (0, .ref mo), (1, .int (iI (((p : Nat) : Int)))), (2, .int (iI (((e : Nat) : Int))))] hb 66 4 dX9_comment_65 rfl rfl hnL (by decide) rfl ?_
          refine r_aload_n hb 67 dX9_comment_66 rfl 1 rfl ?_
          refine r_get hb ho 70 dX9_comment_67 rfl lk_X9_7 pf_X9_0 mc rfl ?_
          refine r_bipush 122 hb 72 dX9_comment_70 rfl rfl ?_
          refine r_dup2 hb 73 dX9_comment_72 rfl rfl rfl ?_
          refine r_iald hb 74 dX9_comment_73 rfl vc 122 (by omega) (⟨by omega, by omega⟩) ?_
          refine r_topz ((((l).length : Nat) : Int)) (hP.2.1) ?_
          refine r_iconst hb 75 dX9_comment_74 rfl ?_
          refine r_iaddZ hb 76 ((((l).length : Nat) : Int) + 1) dX9_comment_75 rfl (by omega) ?_
          refine r_iast hb 77 dX9_comment_76 rfl vc 122 (by omega) (⟨by omega, by omega⟩) (fun w_76 hw_76 => ?_)
          have ow_76 := pset_off hw_76
          have xw_76 : w_76 (mo + 1) = some (eI 483 (upd g 122 ((iI ((((l).length : Nat) : Int) + 1))))) := by rw [hw_76]; exact pset_eq _ _ _
          have sc : w_76 (mo + 2) = some (eI 483 sp1) := (ow_76 _ (by omega)).trans sc
          have mc : w_76 mo = some (eO 9 [.ref (mo + 1), .ref (mo + 2), .ref (mo + 3), .int (iI ((rg 3))), .ref (mo + 4), .ref (mo + 5), .int (iI ((rg 6))), .ref (mo + 6), .int (iI ((rg 8))), .ref (mo + 7), .int (iI ((rg 10))), .int (iI ((rg 11))), .int (iI ((rg 12))), .int (iI ((rg 13))), .int (iI ((rg 14))), .ref (mo + 8), .int (iI ((rg 16))), .ref (mo + 9), .ref (mo + 10), .ref (mo + 11)]) := (ow_76 _ (by omega)).trans mc
          have pc : w_76 (mo + 3) = some (eI 2898 pa) := (ow_76 _ (by omega)).trans pc
          have kc : w_76 (mo + 4) = some (eI 968 kp) := (ow_76 _ (by omega)).trans kc
          have ic : w_76 (mo + 5) = some (eZ 2 ik) := (ow_76 _ (by omega)).trans ic
          have bc : w_76 (mo + 6) = some (eI 40 bg) := (ow_76 _ (by omega)).trans bc
          have lc : w_76 (mo + 7) = some (eI 17 (fun ii => iI ((ln ii : Nat) : Int))) := (ow_76 _ (by omega)).trans lc
          have oc : w_76 (mo + 8) = some (eI 10 (fun ii => iI ((od ii : Nat) : Int))) := (ow_76 _ (by omega)).trans oc
          have xc : w_76 (mo + 9) = some (eI 1210 (fun ii => iI (sco ii))) := (ow_76 _ (by omega)).trans xc
          have ec : w_76 (mo + 10) = some (eI 1210 (fun ii => iI (leo ii))) := (ow_76 _ (by omega)).trans ec
          have uc : w_76 (mo + 11) = some (eI 1331 (fun ii => iI (smo ii))) := (ow_76 _ (by omega)).trans uc
          refine r_aload_n hb 78 dX9_comment_77 rfl 1 rfl ?_
          refine r_get hb ho 81 dX9_comment_78 rfl lk_X9_7 pf_X9_0 mc rfl ?_
          refine r_iload_n hb 82 dX9_comment_81 rfl 0 rfl ?_
          refine r_iconst hb 83 dX9_comment_82 rfl ?_
          refine r_callSR (st := [.ref (mo + 1)]) hb ho 86 dX9_comment_83 rfl ck_X9_48 (c_X9_at ((((l).length : Nat) : Int)) 0 (36 * (((l).length : Nat) : Int) + 123) (by omega)) rfl rfl (by rw [hR0]; exact ⟨Nat.le_of_ble_eq_true rfl, Nat.le_of_ble_eq_true rfl⟩) (Nat.le_of_ble_eq_true rfl) ⟨rfl, rfl⟩ (by rw [hR0]; exact Nat.zero_le _) (by rw [hR0]; exact Nat.zero_le _) ?_
          refine r_aload_n hb 87 dX9_comment_86 rfl 1 rfl ?_
          refine r_get hb ho 90 dX9_comment_87 rfl lk_X9_7 pf_X9_0 mc rfl ?_
          refine r_bipush 121 hb 92 dX9_comment_90 rfl rfl ?_
          refine r_iald hb 93 dX9_comment_92 rfl xw_76 121 (by omega) (⟨by omega, by omega⟩) ?_
          refine r_topz (((nx : Nat) : Int)) ((pk_un (by omega)).trans hP.1) ?_
          refine r_iast hb 94 dX9_comment_93 rfl xw_76 (123 + 36 * l.length) (by omega) (⟨by omega, by omega⟩) (fun w_93 hw_93 => ?_)
          have ow_93 := pset_off hw_93
          have xw_93 : w_93 (mo + 1) = some (eI 483 (upd (upd g 122 ((iI ((((l).length : Nat) : Int) + 1)))) (123 + 36 * l.length) ((iI (((nx : Nat) : Int)))))) := by rw [hw_93]; exact pset_eq _ _ _
          have sc : w_93 (mo + 2) = some (eI 483 sp1) := (ow_93 _ (by omega)).trans sc
          have mc : w_93 mo = some (eO 9 [.ref (mo + 1), .ref (mo + 2), .ref (mo + 3), .int (iI ((rg 3))), .ref (mo + 4), .ref (mo + 5), .int (iI ((rg 6))), .ref (mo + 6), .int (iI ((rg 8))), .ref (mo + 7), .int (iI ((rg 10))), .int (iI ((rg 11))), .int (iI ((rg 12))), .int (iI ((rg 13))), .int (iI ((rg 14))), .ref (mo + 8), .int (iI ((rg 16))), .ref (mo + 9), .ref (mo + 10), .ref (mo + 11)]) := (ow_93 _ (by omega)).trans mc
          have pc : w_93 (mo + 3) = some (eI 2898 pa) := (ow_93 _ (by omega)).trans pc
          have kc : w_93 (mo + 4) = some (eI 968 kp) := (ow_93 _ (by omega)).trans kc
          have ic : w_93 (mo + 5) = some (eZ 2 ik) := (ow_93 _ (by omega)).trans ic
          have bc : w_93 (mo + 6) = some (eI 40 bg) := (ow_93 _ (by omega)).trans bc
          have lc : w_93 (mo + 7) = some (eI 17 (fun ii => iI ((ln ii : Nat) : Int))) := (ow_93 _ (by omega)).trans lc
          have oc : w_93 (mo + 8) = some (eI 10 (fun ii => iI ((od ii : Nat) : Int))) := (ow_93 _ (by omega)).trans oc
          have xc : w_93 (mo + 9) = some (eI 1210 (fun ii => iI (sco ii))) := (ow_93 _ (by omega)).trans xc
          have ec : w_93 (mo + 10) = some (eI 1210 (fun ii => iI (leo ii))) := (ow_93 _ (by omega)).trans ec
          have uc : w_93 (mo + 11) = some (eI 1331 (fun ii => iI (smo ii))) := (ow_93 _ (by omega)).trans uc
          refine r_aload_n hb 95 dX9_comment_94 rfl 1 rfl ?_
          refine r_get hb ho 98 dX9_comment_95 rfl lk_X9_7 pf_X9_0 mc rfl ?_
          refine r_iload_n hb 99 dX9_comment_98 rfl 0 rfl ?_
          refine r_iconst hb 100 dX9_comment_99 rfl ?_
          refine r_callSR (st := [.ref (mo + 1)]) hb ho 103 dX9_comment_100 rfl ck_X9_48 (c_X9_at ((((l).length : Nat) : Int)) 1 (36 * (((l).length : Nat) : Int) + 124) (by omega)) rfl rfl (by rw [hR0]; exact ⟨Nat.le_of_ble_eq_true rfl, Nat.le_of_ble_eq_true rfl⟩) (Nat.le_of_ble_eq_true rfl) ⟨rfl, rfl⟩ (by rw [hR0]; exact Nat.zero_le _) (by rw [hR0]; exact Nat.zero_le _) ?_
          refine r_iconst hb 104 dX9_comment_103 rfl ?_
          refine r_iast hb 105 dX9_comment_104 rfl xw_93 (123 + 36 * l.length + 1) (by omega) (⟨by omega, by omega⟩) (fun w_104 hw_104 => ?_)
          have ow_104 := pset_off hw_104
          have xw_104 : w_104 (mo + 1) = some (eI 483 (upd (upd (upd g 122 ((iI ((((l).length : Nat) : Int) + 1)))) (123 + 36 * l.length) ((iI (((nx : Nat) : Int))))) (123 + 36 * l.length + 1) ((iI 1)))) := by rw [hw_104]; exact pset_eq _ _ _
          have sc : w_104 (mo + 2) = some (eI 483 sp1) := (ow_104 _ (by omega)).trans sc
          have mc : w_104 mo = some (eO 9 [.ref (mo + 1), .ref (mo + 2), .ref (mo + 3), .int (iI ((rg 3))), .ref (mo + 4), .ref (mo + 5), .int (iI ((rg 6))), .ref (mo + 6), .int (iI ((rg 8))), .ref (mo + 7), .int (iI ((rg 10))), .int (iI ((rg 11))), .int (iI ((rg 12))), .int (iI ((rg 13))), .int (iI ((rg 14))), .ref (mo + 8), .int (iI ((rg 16))), .ref (mo + 9), .ref (mo + 10), .ref (mo + 11)]) := (ow_104 _ (by omega)).trans mc
          have pc : w_104 (mo + 3) = some (eI 2898 pa) := (ow_104 _ (by omega)).trans pc
          have kc : w_104 (mo + 4) = some (eI 968 kp) := (ow_104 _ (by omega)).trans kc
          have ic : w_104 (mo + 5) = some (eZ 2 ik) := (ow_104 _ (by omega)).trans ic
          have bc : w_104 (mo + 6) = some (eI 40 bg) := (ow_104 _ (by omega)).trans bc
          have lc : w_104 (mo + 7) = some (eI 17 (fun ii => iI ((ln ii : Nat) : Int))) := (ow_104 _ (by omega)).trans lc
          have oc : w_104 (mo + 8) = some (eI 10 (fun ii => iI ((od ii : Nat) : Int))) := (ow_104 _ (by omega)).trans oc
          have xc : w_104 (mo + 9) = some (eI 1210 (fun ii => iI (sco ii))) := (ow_104 _ (by omega)).trans xc
          have ec : w_104 (mo + 10) = some (eI 1210 (fun ii => iI (leo ii))) := (ow_104 _ (by omega)).trans ec
          have uc : w_104 (mo + 11) = some (eI 1331 (fun ii => iI (smo ii))) := (ow_104 _ (by omega)).trans uc
          refine r_aload_n hb 106 dX9_comment_105 rfl 1 rfl ?_
          refine r_get hb ho 109 dX9_comment_106 rfl lk_X9_7 pf_X9_0 mc rfl ?_
          refine r_iload_n hb 110 dX9_comment_109 rfl 0 rfl ?_
          refine r_iconst hb 111 dX9_comment_110 rfl ?_
          refine r_callSR (st := [.ref (mo + 1)]) hb ho 114 dX9_comment_111 rfl ck_X9_48 (c_X9_at ((((l).length : Nat) : Int)) 2 (36 * (((l).length : Nat) : Int) + 125) (by omega)) rfl rfl (by rw [hR0]; exact ⟨Nat.le_of_ble_eq_true rfl, Nat.le_of_ble_eq_true rfl⟩) (Nat.le_of_ble_eq_true rfl) ⟨rfl, rfl⟩ (by rw [hR0]; exact Nat.zero_le _) (by rw [hR0]; exact Nat.zero_le _) ?_
          refine r_iload_n hb 115 dX9_comment_114 rfl 2 rfl ?_
          refine r_iast hb 116 dX9_comment_115 rfl xw_104 (123 + 36 * l.length + 2) (by omega) (⟨by omega, by omega⟩) (fun w_115 hw_115 => ?_)
          have ow_115 := pset_off hw_115
          have xw_115 : w_115 (mo + 1) = some (eI 483 (upd (upd (upd (upd g 122 ((iI ((((l).length : Nat) : Int) + 1)))) (123 + 36 * l.length) ((iI (((nx : Nat) : Int))))) (123 + 36 * l.length + 1) ((iI 1))) (123 + 36 * l.length + 2) ((iI (((p : Nat) : Int)))))) := by rw [hw_115]; exact pset_eq _ _ _
          have sc : w_115 (mo + 2) = some (eI 483 sp1) := (ow_115 _ (by omega)).trans sc
          have mc : w_115 mo = some (eO 9 [.ref (mo + 1), .ref (mo + 2), .ref (mo + 3), .int (iI ((rg 3))), .ref (mo + 4), .ref (mo + 5), .int (iI ((rg 6))), .ref (mo + 6), .int (iI ((rg 8))), .ref (mo + 7), .int (iI ((rg 10))), .int (iI ((rg 11))), .int (iI ((rg 12))), .int (iI ((rg 13))), .int (iI ((rg 14))), .ref (mo + 8), .int (iI ((rg 16))), .ref (mo + 9), .ref (mo + 10), .ref (mo + 11)]) := (ow_115 _ (by omega)).trans mc
          have pc : w_115 (mo + 3) = some (eI 2898 pa) := (ow_115 _ (by omega)).trans pc
          have kc : w_115 (mo + 4) = some (eI 968 kp) := (ow_115 _ (by omega)).trans kc
          have ic : w_115 (mo + 5) = some (eZ 2 ik) := (ow_115 _ (by omega)).trans ic
          have bc : w_115 (mo + 6) = some (eI 40 bg) := (ow_115 _ (by omega)).trans bc
          have lc : w_115 (mo + 7) = some (eI 17 (fun ii => iI ((ln ii : Nat) : Int))) := (ow_115 _ (by omega)).trans lc
          have oc : w_115 (mo + 8) = some (eI 10 (fun ii => iI ((od ii : Nat) : Int))) := (ow_115 _ (by omega)).trans oc
          have xc : w_115 (mo + 9) = some (eI 1210 (fun ii => iI (sco ii))) := (ow_115 _ (by omega)).trans xc
          have ec : w_115 (mo + 10) = some (eI 1210 (fun ii => iI (leo ii))) := (ow_115 _ (by omega)).trans ec
          have uc : w_115 (mo + 11) = some (eI 1331 (fun ii => iI (smo ii))) := (ow_115 _ (by omega)).trans uc
          refine r_aload_n hb 117 dX9_comment_116 rfl 1 rfl ?_
          refine r_get hb ho 120 dX9_comment_117 rfl lk_X9_7 pf_X9_0 mc rfl ?_
          refine r_iload_n hb 121 dX9_comment_120 rfl 0 rfl ?_
          refine r_iconst hb 122 dX9_comment_121 rfl ?_
          refine r_callSR (st := [.ref (mo + 1)]) hb ho 125 dX9_comment_122 rfl ck_X9_48 (c_X9_at ((((l).length : Nat) : Int)) 3 (36 * (((l).length : Nat) : Int) + 126) (by omega)) rfl rfl (by rw [hR0]; exact ⟨Nat.le_of_ble_eq_true rfl, Nat.le_of_ble_eq_true rfl⟩) (Nat.le_of_ble_eq_true rfl) ⟨rfl, rfl⟩ (by rw [hR0]; exact Nat.zero_le _) (by rw [hR0]; exact Nat.zero_le _) ?_
          refine r_iload_n hb 126 dX9_comment_125 rfl 3 rfl ?_
          refine r_iast hb 127 dX9_comment_126 rfl xw_115 (123 + 36 * l.length + 3) (by omega) (⟨by omega, by omega⟩) (fun w_126 hw_126 => ?_)
          have ow_126 := pset_off hw_126
          have xw_126 : w_126 (mo + 1) = some (eI 483 (upd (upd (upd (upd (upd g 122 ((iI ((((l).length : Nat) : Int) + 1)))) (123 + 36 * l.length) ((iI (((nx : Nat) : Int))))) (123 + 36 * l.length + 1) ((iI 1))) (123 + 36 * l.length + 2) ((iI (((p : Nat) : Int))))) (123 + 36 * l.length + 3) ((iI (((e : Nat) : Int)))))) := by rw [hw_126]; exact pset_eq _ _ _
          have sc : w_126 (mo + 2) = some (eI 483 sp1) := (ow_126 _ (by omega)).trans sc
          have mc : w_126 mo = some (eO 9 [.ref (mo + 1), .ref (mo + 2), .ref (mo + 3), .int (iI ((rg 3))), .ref (mo + 4), .ref (mo + 5), .int (iI ((rg 6))), .ref (mo + 6), .int (iI ((rg 8))), .ref (mo + 7), .int (iI ((rg 10))), .int (iI ((rg 11))), .int (iI ((rg 12))), .int (iI ((rg 13))), .int (iI ((rg 14))), .ref (mo + 8), .int (iI ((rg 16))), .ref (mo + 9), .ref (mo + 10), .ref (mo + 11)]) := (ow_126 _ (by omega)).trans mc
          have pc : w_126 (mo + 3) = some (eI 2898 pa) := (ow_126 _ (by omega)).trans pc
          have kc : w_126 (mo + 4) = some (eI 968 kp) := (ow_126 _ (by omega)).trans kc
          have ic : w_126 (mo + 5) = some (eZ 2 ik) := (ow_126 _ (by omega)).trans ic
          have bc : w_126 (mo + 6) = some (eI 40 bg) := (ow_126 _ (by omega)).trans bc
          have lc : w_126 (mo + 7) = some (eI 17 (fun ii => iI ((ln ii : Nat) : Int))) := (ow_126 _ (by omega)).trans lc
          have oc : w_126 (mo + 8) = some (eI 10 (fun ii => iI ((od ii : Nat) : Int))) := (ow_126 _ (by omega)).trans oc
          have xc : w_126 (mo + 9) = some (eI 1210 (fun ii => iI (sco ii))) := (ow_126 _ (by omega)).trans xc
          have ec : w_126 (mo + 10) = some (eI 1210 (fun ii => iI (leo ii))) := (ow_126 _ (by omega)).trans ec
          have uc : w_126 (mo + 11) = some (eI 1331 (fun ii => iI (smo ii))) := (ow_126 _ (by omega)).trans uc
          refine r_aload_n hb 128 dX9_comment_127 rfl 1 rfl ?_
          refine r_get hb ho 131 dX9_comment_128 rfl lk_X9_7 pf_X9_0 mc rfl ?_
          refine r_iload_n hb 132 dX9_comment_131 rfl 0 rfl ?_
          refine r_iconst hb 133 dX9_comment_132 rfl ?_
          refine r_callSR (st := [.ref (mo + 1)]) hb ho 136 dX9_comment_133 rfl ck_X9_48 (c_X9_at ((((l).length : Nat) : Int)) 4 (36 * (((l).length : Nat) : Int) + 127) (by omega)) rfl rfl (by rw [hR0]; exact ⟨Nat.le_of_ble_eq_true rfl, Nat.le_of_ble_eq_true rfl⟩) (Nat.le_of_ble_eq_true rfl) ⟨rfl, rfl⟩ (by rw [hR0]; exact Nat.zero_le _) (by rw [hR0]; exact Nat.zero_le _) ?_
          refine r_iconst hb 137 dX9_comment_136 rfl ?_
          refine r_iast hb 138 dX9_comment_137 rfl xw_126 (123 + 36 * l.length + 4) (by omega) (⟨by omega, by omega⟩) (fun w_137 hw_137 => ?_)
          have ow_137 := pset_off hw_137
          have xw_137 : w_137 (mo + 1) = some (eI 483 (upd (upd (upd (upd (upd (upd g 122 ((iI ((((l).length : Nat) : Int) + 1)))) (123 + 36 * l.length) ((iI (((nx : Nat) : Int))))) (123 + 36 * l.length + 1) ((iI 1))) (123 + 36 * l.length + 2) ((iI (((p : Nat) : Int))))) (123 + 36 * l.length + 3) ((iI (((e : Nat) : Int))))) (123 + 36 * l.length + 4) ((iI 1)))) := by rw [hw_137]; exact pset_eq _ _ _
          have sc : w_137 (mo + 2) = some (eI 483 sp1) := (ow_137 _ (by omega)).trans sc
          have mc : w_137 mo = some (eO 9 [.ref (mo + 1), .ref (mo + 2), .ref (mo + 3), .int (iI ((rg 3))), .ref (mo + 4), .ref (mo + 5), .int (iI ((rg 6))), .ref (mo + 6), .int (iI ((rg 8))), .ref (mo + 7), .int (iI ((rg 10))), .int (iI ((rg 11))), .int (iI ((rg 12))), .int (iI ((rg 13))), .int (iI ((rg 14))), .ref (mo + 8), .int (iI ((rg 16))), .ref (mo + 9), .ref (mo + 10), .ref (mo + 11)]) := (ow_137 _ (by omega)).trans mc
          have pc : w_137 (mo + 3) = some (eI 2898 pa) := (ow_137 _ (by omega)).trans pc
          have kc : w_137 (mo + 4) = some (eI 968 kp) := (ow_137 _ (by omega)).trans kc
          have ic : w_137 (mo + 5) = some (eZ 2 ik) := (ow_137 _ (by omega)).trans ic
          have bc : w_137 (mo + 6) = some (eI 40 bg) := (ow_137 _ (by omega)).trans bc
          have lc : w_137 (mo + 7) = some (eI 17 (fun ii => iI ((ln ii : Nat) : Int))) := (ow_137 _ (by omega)).trans lc
          have oc : w_137 (mo + 8) = some (eI 10 (fun ii => iI ((od ii : Nat) : Int))) := (ow_137 _ (by omega)).trans oc
          have xc : w_137 (mo + 9) = some (eI 1210 (fun ii => iI (sco ii))) := (ow_137 _ (by omega)).trans xc
          have ec : w_137 (mo + 10) = some (eI 1210 (fun ii => iI (leo ii))) := (ow_137 _ (by omega)).trans ec
          have uc : w_137 (mo + 11) = some (eI 1331 (fun ii => iI (smo ii))) := (ow_137 _ (by omega)).trans uc
          refine r_aload_n hb 139 dX9_comment_138 rfl 1 rfl ?_
          refine r_iload_n hb 140 dX9_comment_139 rfl 0 rfl ?_
          have hDq : vdp (upd (upd (upd (upd (upd (upd g 122 ((iI ((((l).length : Nat) : Int) + 1)))) (123 + 36 * l.length) ((iI (((nx : Nat) : Int))))) (123 + 36 * l.length + 1) ((iI 1))) (123 + 36 * l.length + 2) ((iI (((p : Nat) : Int))))) (123 + 36 * l.length + 3) ((iI (((e : Nat) : Int))))) (123 + 36 * l.length + 4) ((iI 1))) D := hD.congr (fun q hq => by rw [pk_un (by omega), pk_un (by omega), pk_un (by omega), pk_un (by omega), pk_un (by omega), pk_un (by omega)])
          refine r_callV0 (st := []) hb ho 143 dX9_comment_140 rfl ck_X9_88 (c_X9_quotes mo rg _ D l.length p e mc xw_137 hDq (by rw [pk_un (by omega), pk_un (by omega), pk_us]) (by rw [pk_un (by omega), pk_us]) (by omega)) rfl rfl (mc) rfl rfl (by rw [hR0]; exact ⟨Nat.le_of_ble_eq_true rfl, Nat.le_of_ble_eq_true rfl⟩) (Nat.le_of_ble_eq_true rfl) ⟨rfl, rfl⟩ (by rw [hR0]; exact Nat.zero_le _) (by rw [hR0]; exact Nat.zero_le _) (fun w_140 nw_140 qw_140 => ?_)
          obtain ⟨rfl, ⟨g2, vc, ⟨t1, t2, t3⟩, e2⟩, ow_140⟩ := qw_140
          have sc : w_140 (mo + 2) = some (eI 483 sp1) := (ow_140 _ (by omega)).trans sc
          have mc : w_140 mo = some (eO 9 [.ref (mo + 1), .ref (mo + 2), .ref (mo + 3), .int (iI ((rg 3))), .ref (mo + 4), .ref (mo + 5), .int (iI ((rg 6))), .ref (mo + 6), .int (iI ((rg 8))), .ref (mo + 7), .int (iI ((rg 10))), .int (iI ((rg 11))), .int (iI ((rg 12))), .int (iI ((rg 13))), .int (iI ((rg 14))), .ref (mo + 8), .int (iI ((rg 16))), .ref (mo + 9), .ref (mo + 10), .ref (mo + 11)]) := (ow_140 _ (by omega)).trans mc
          have pc : w_140 (mo + 3) = some (eI 2898 pa) := (ow_140 _ (by omega)).trans pc
          have kc : w_140 (mo + 4) = some (eI 968 kp) := (ow_140 _ (by omega)).trans kc
          have ic : w_140 (mo + 5) = some (eZ 2 ik) := (ow_140 _ (by omega)).trans ic
          have bc : w_140 (mo + 6) = some (eI 40 bg) := (ow_140 _ (by omega)).trans bc
          have lc : w_140 (mo + 7) = some (eI 17 (fun ii => iI ((ln ii : Nat) : Int))) := (ow_140 _ (by omega)).trans lc
          have oc : w_140 (mo + 8) = some (eI 10 (fun ii => iI ((od ii : Nat) : Int))) := (ow_140 _ (by omega)).trans oc
          have xc : w_140 (mo + 9) = some (eI 1210 (fun ii => iI (sco ii))) := (ow_140 _ (by omega)).trans xc
          have ec : w_140 (mo + 10) = some (eI 1210 (fun ii => iI (leo ii))) := (ow_140 _ (by omega)).trans ec
          have uc : w_140 (mo + 11) = some (eI 1331 (fun ii => iI (smo ii))) := (ow_140 _ (by omega)).trans uc
          refine r_aload_n hb 144 dX9_comment_143 rfl 1 rfl ?_
          refine r_get hb ho 147 dX9_comment_144 rfl lk_X9_7 pf_X9_0 mc rfl ?_
          refine r_bipush 121 hb 149 dX9_comment_147 rfl rfl ?_
          refine r_dup2 hb 150 dX9_comment_149 rfl rfl rfl ?_
          refine r_iald hb 151 dX9_comment_150 rfl vc 121 (by omega) (⟨by omega, by omega⟩) ?_
          refine r_topz (((nx : Nat) : Int)) ((e2 _ (by omega)).trans (by rw [pk_un (by omega), pk_un (by omega), pk_un (by omega), pk_un (by omega), pk_un (by omega), pk_un (by omega)]; exact hP.1)) ?_
          refine r_iconst hb 152 dX9_comment_151 rfl ?_
          refine r_iaddZ hb 153 (((nx : Nat) : Int) + 1) dX9_comment_152 rfl (by omega) ?_
          refine r_iast hb 154 dX9_comment_153 rfl vc 121 (by omega) (⟨by omega, by omega⟩) (fun w_153 hw_153 => ?_)
          have ow_153 := pset_off hw_153
          have xw_153 : w_153 (mo + 1) = some (eI 483 (upd g2 121 ((iI (((nx : Nat) : Int) + 1))))) := by rw [hw_153]; exact pset_eq _ _ _
          have sc : w_153 (mo + 2) = some (eI 483 sp1) := (ow_153 _ (by omega)).trans sc
          have mc : w_153 mo = some (eO 9 [.ref (mo + 1), .ref (mo + 2), .ref (mo + 3), .int (iI ((rg 3))), .ref (mo + 4), .ref (mo + 5), .int (iI ((rg 6))), .ref (mo + 6), .int (iI ((rg 8))), .ref (mo + 7), .int (iI ((rg 10))), .int (iI ((rg 11))), .int (iI ((rg 12))), .int (iI ((rg 13))), .int (iI ((rg 14))), .ref (mo + 8), .int (iI ((rg 16))), .ref (mo + 9), .ref (mo + 10), .ref (mo + 11)]) := (ow_153 _ (by omega)).trans mc
          have pc : w_153 (mo + 3) = some (eI 2898 pa) := (ow_153 _ (by omega)).trans pc
          have kc : w_153 (mo + 4) = some (eI 968 kp) := (ow_153 _ (by omega)).trans kc
          have ic : w_153 (mo + 5) = some (eZ 2 ik) := (ow_153 _ (by omega)).trans ic
          have bc : w_153 (mo + 6) = some (eI 40 bg) := (ow_153 _ (by omega)).trans bc
          have lc : w_153 (mo + 7) = some (eI 17 (fun ii => iI ((ln ii : Nat) : Int))) := (ow_153 _ (by omega)).trans lc
          have oc : w_153 (mo + 8) = some (eI 10 (fun ii => iI ((od ii : Nat) : Int))) := (ow_153 _ (by omega)).trans oc
          have xc : w_153 (mo + 9) = some (eI 1210 (fun ii => iI (sco ii))) := (ow_153 _ (by omega)).trans xc
          have ec : w_153 (mo + 10) = some (eI 1210 (fun ii => iI (leo ii))) := (ow_153 _ (by omega)).trans ec
          have uc : w_153 (mo + 11) = some (eI 1331 (fun ii => iI (smo ii))) := (ow_153 _ (by omega)).trans uc
          refine r_aload_n hb 155 dX9_comment_154 rfl 1 rfl ?_
          refine r_aload_n hb 156 dX9_comment_155 rfl 1 rfl ?_
          refine r_get hb ho 159 dX9_comment_156 rfl lk_X9_7 pf_X9_0 mc rfl ?_
          refine r_bipush 121 hb 161 dX9_comment_159 rfl rfl ?_
          refine r_iald hb 162 dX9_comment_161 rfl xw_153 121 (by omega) (⟨by omega, by omega⟩) ?_
          refine r_topz (((nx : Nat) : Int) + 1) (pk_us) ?_
          refine r_iconst hb 163 dX9_comment_162 rfl ?_
          refine r_isubZ hb 164 (((nx : Nat) : Int)) dX9_comment_163 rfl (by omega) ?_
          refine r_topv (.int (iI (((nx : Nat) : Int)))) (congrArg (fun z => Value.int (iI z)) (by omega)) ?_
          refine r_callV1 (st := []) hb ho 167 dX9_comment_164 rfl ck_X9_72 (c_X9_made mo rg sp1 pa hs (D, l, nx) (iI (((nx : Nat) : Int))) mc sc pc h3 hH hsp) rfl rfl (mc) rfl rfl (by rw [hR0]; exact ⟨Nat.le_of_ble_eq_true rfl, Nat.le_of_ble_eq_true rfl⟩) (Nat.le_of_ble_eq_true rfl) ⟨rfl, rfl⟩ (by rw [hR0]; exact Nat.zero_le _) (by rw [hR0]; exact Nat.zero_le _) (fun vw_164 w_164 nw_164 qw_164 => ?_)
          obtain ⟨rfl, rfl, ⟨rg3, pa1, mc, hF3, h3, pc, hH⟩, ow_164⟩ := qw_164
          have h6 := (hF3 6 (by decide)).trans h6
          have h8 := (hF3 8 (by decide)).trans h8
          have xw_153 : w_164 (mo + 1) = some (eI 483 (upd g2 121 ((iI (((nx : Nat) : Int) + 1))))) := (ow_164 _ (by omega) (by omega)).trans xw_153
          have sc : w_164 (mo + 2) = some (eI 483 sp1) := (ow_164 _ (by omega) (by omega)).trans sc
          have kc : w_164 (mo + 4) = some (eI 968 kp) := (ow_164 _ (by omega) (by omega)).trans kc
          have ic : w_164 (mo + 5) = some (eZ 2 ik) := (ow_164 _ (by omega) (by omega)).trans ic
          have bc : w_164 (mo + 6) = some (eI 40 bg) := (ow_164 _ (by omega) (by omega)).trans bc
          have lc : w_164 (mo + 7) = some (eI 17 (fun ii => iI ((ln ii : Nat) : Int))) := (ow_164 _ (by omega) (by omega)).trans lc
          have oc : w_164 (mo + 8) = some (eI 10 (fun ii => iI ((od ii : Nat) : Int))) := (ow_164 _ (by omega) (by omega)).trans oc
          have xc : w_164 (mo + 9) = some (eI 1210 (fun ii => iI (sco ii))) := (ow_164 _ (by omega) (by omega)).trans xc
          have ec : w_164 (mo + 10) = some (eI 1210 (fun ii => iI (leo ii))) := (ow_164 _ (by omega) (by omega)).trans ec
          have uc : w_164 (mo + 11) = some (eI 1331 (fun ii => iI (smo ii))) := (ow_164 _ (by omega) (by omega)).trans uc
          refine r_iret hS dX9_comment_167 rfl rfl (Nat.zero_le _) (Nat.zero_le _) ?_
          have L1 := slice_len D (p - 6) p
          have L2 := slice_len D p e
          have L3 := slice_len D e (e + 6)
          have hV1 : vpg (upd g2 121 (iI (((nx : Nat) : Int) + 1))) (D, l ++ [mkN D nx p e], nx + 1) := by
            refine ⟨hDq.congr (fun q hq => (pk_un (by omega)).trans (e2 q (by omega))), pk_us, ?_, by rw [List.length_append]; show l.length + 1 ≤ 10; omega, hcap, fun j hj => ?_⟩
            · rw [pk_un (by omega), e2 _ (by omega), pk_un (by omega), pk_un (by omega), pk_un (by omega), pk_un (by omega), pk_un (by omega), pk_us, List.length_append]; rfl
            · rw [List.length_append] at hj
              by_cases h : j = l.length
              · subst h
                rw [lg_app2]
                refine ⟨?_, ?_, ?_, ?_, ?_, t1.congr (m := 6) (by omega) (fun q h1 h2 => pk_un (by omega)), t2.congr (m := 16) (by omega) (fun q h1 h2 => pk_un (by omega)), t3.congr (m := 6) (by omega) (fun q h1 h2 => pk_un (by omega)), by show (slice D _ _).length ≤ 6; omega, by show (slice D _ _).length ≤ 16; omega, by show (slice D _ _).length ≤ 6; omega, by show nx < 1000000; omega, by show p ≤ 200; omega, by show e ≤ 200; omega⟩
                · rw [pk_un (by omega), e2 _ (by omega), pk_un (by omega), pk_un (by omega), pk_un (by omega), pk_un (by omega), pk_us]; rfl
                · rw [pk_un (by omega), e2 _ (by omega), pk_un (by omega), pk_un (by omega), pk_un (by omega), pk_us]; rfl
                · rw [pk_un (by omega), e2 _ (by omega), pk_un (by omega), pk_un (by omega), pk_us]; rfl
                · rw [pk_un (by omega), e2 _ (by omega), pk_un (by omega), pk_us]; rfl
                · rw [pk_un (by omega), e2 _ (by omega), pk_us]; rfl
              · have h2 : j < l.length := by simp at hj; omega
                rw [lg_app1 _ _ h2]
                exact (hP.2.2.2.2 j h2).congr (fun q h3 h4 => by rw [pk_un (by omega), e2 _ (by omega)]; rw [pk_un (by omega), pk_un (by omega), pk_un (by omega), pk_un (by omega), pk_un (by omega), pk_un (by omega)])
          have e : oCom B D l nx hs s0 s1 thr ((p : Nat) : Int) ((e : Nat) : Int) = (iI ((nx : Nat) : Int), stP B D l nx hs s0 s1 thr (D, l ++ [mkN D nx p e], nx + 1)) := by unfold oCom; rw [if_neg (by rw [c5]; decide), if_neg (by rw [show rngN D ((p : Nat) : Int) ((e : Nat) : Int) 16 = true from decide_eq_true hrn]; decide), if_neg (by omega)]; rfl
          rw [e]
          exact ⟨_, rfl, rfl, rfl, ⟨rg3, _, sp1, pa1, kp, ik, bg, ln, od, sco, leo, smo, mc, xw_153, sc, pc, kc, ic, bc, lc, oc, xc, ec, uc, hV1, h3, hH, h6, h8, hB, hS0, hS1⟩, ((((((((((ow_55.mono (by omega) (by omega)).trans (ow_76.mono (by omega) (by omega))).trans (ow_93.mono (by omega) (by omega))).trans (ow_104.mono (by omega) (by omega))).trans (ow_115.mono (by omega) (by omega))).trans (ow_126.mono (by omega) (by omega))).trans (ow_137.mono (by omega) (by omega))).trans (ow_140.mono (by omega) (by omega))).trans (ow_153.mono (by omega) (by omega))).trans (ow_164.cov (by omega) (by omega) (by omega) (by omega)))⟩
        · refine r_sipush (-1004) hb 53 dX9_comment_50 rfl rfl ?_
          refine r_iret hS dX9_comment_53 rfl rfl (Nat.zero_le _) (Nat.zero_le _) ?_
          have e : oCom B D l nx hs s0 s1 thr ((p : Nat) : Int) ((e : Nat) : Int) = (iI (-1004), (B, (D, l, nx), hs, s0, s1, thr)) := by unfold oCom; rw [if_neg (by rw [c5]; decide), if_neg (by rw [show rngN D ((p : Nat) : Int) ((e : Nat) : Int) 16 = true from decide_eq_true hrn]; decide), if_pos (by omega)]
          rw [e]
          exact ⟨_, rfl, rfl, rfl, hM, off.rfl' _ _ _⟩
      · refine r_sipush (-1002) hb 37 dX9_comment_34 rfl rfl ?_
        refine r_iret hS dX9_comment_37 rfl rfl (Nat.zero_le _) (Nat.zero_le _) ?_
        have e : oCom B D l nx hs s0 s1 thr f t = (iI (-1002), (B, (D, l, nx), hs, s0, s1, thr)) := by unfold oCom; rw [if_neg (by rw [c5]; decide), if_pos (show rngN D f t 16 = false from decide_eq_false (by have := of_decide_eq_false c31; omega))]
        rw [e]
        exact ⟨_, rfl, rfl, rfl, hM, off.rfl' _ _ _⟩
  · refine r_sipush (-1001) hb 11 dX9_comment_8 rfl rfl ?_
    refine r_iret hS dX9_comment_11 rfl rfl (Nat.zero_le _) (Nat.zero_le _) ?_
    have e : oCom B D l nx hs s0 s1 thr f t = (iI (-1001), (B, (D, l, nx), hs, s0, s1, thr)) := by unfold oCom; rw [if_pos c5]
    rw [e]
    exact ⟨_, rfl, rfl, rfl, hM, off.rfl' _ _ _⟩

abbrev rm_X9_remove : Room := { frames := 2, cells := 0, slots := 0, locals := 46 }
set_option maxHeartbeats 4000000 in
set_option maxRecDepth 100000 in
theorem c_X9_remove (mo : Nat) (B D : List Int32) (l : List Nt) (nx : Nat) (hs : List Pg) (s0 s1 : Option (Pg × Int)) (thr : Int) (z : Int) {w : PW} {n : Nat} (hM : moE w mo B D l nx hs s0 s1 thr) (hzb : -2147483648 ≤ z ∧ z < 2147483648) : Ct1 yX9_remove cX9_remove 3 (some .int) rm_X9_remove [.ref mo, .int (iI (z))] w n (fun v w1 n1 => v = .int (oRem B D l nx hs s0 s1 thr z).1 ∧ n = n1 ∧ mo_ w1 mo (oRem B D l nx hs s0 s1 thr z).2 ∧ off w w1 mo (mo + 12)) := by
  obtain ⟨rg, g, sp, pa, kp, ik, bg, ln, od, sco, leo, smo, mc, vc, sc, pc, kc, ic, bc, lc, oc, xc, ec, uc, hV, h3, hH, h6, h8, hB, hS0, hS1⟩ := id hM
  have hD : vdp g D := hV.1
  have hP : vnp g l nx := hV.2
  have hDl := hD.2.2
  have hPl := hP.2.2.1
  have hnx := hP.2.2.2.1
  have hBl := hB.1
  have hHl := hH.1
  refine Ctr.of rfl (Nat.le_of_ble_eq_true rfl) fun S hS => ?_
  have hb : S.1.1 = cX9_remove := by rw [hS]; rfl
  have ho : S.1.2.1 = RX9 := by rw [hS]; rfl
  have hnL : S.1.2.2.1 = 3 := by rw [hS]; rfl
  have hR0 : S.2.1 = rm_X9_remove := by rw [hS]; rfl
  show Wp S 0 [(0, .ref mo), (1, .int (iI (z)))] [] w n 0 0
  refine r_aload_n hb 1 dX9_remove_0 rfl 0 rfl ?_
  refine r_iload_n hb 2 dX9_remove_1 rfl 1 rfl ?_
  refine r_callVR (st := []) hb ho 5 dX9_remove_2 rfl ck_X9_92 (c_X9_find mo rg g l nx (z) mc vc hP (by omega)) rfl rfl (mc) rfl rfl (by rw [hR0]; exact ⟨Nat.le_of_ble_eq_true rfl, Nat.le_of_ble_eq_true rfl⟩) (Nat.le_of_ble_eq_true rfl) ⟨rfl, rfl⟩ (by rw [hR0]; exact Nat.zero_le _) (by rw [hR0]; exact Nat.zero_le _) ?_
  by_cases hf : ixN l z < l.length
  · have hle := ixN_le l z
    refine r_topz ((ixN l z : Nat) : Int) (by unfold ixZ; rw [if_pos hf]) ?_
    refine r_istore_n [(2, .int (iI (((ixN l z : Nat) : Int)))), (0, .ref mo), (1, .int (iI (z)))] hb 6 3 dX9_remove_5 rfl rfl hnL (by decide) rfl ?_
    refine r_iload_n hb 7 dX9_remove_6 rfl 0 rfl ?_
    refine r_if_ge hb 10 14 dX9_remove_7 rfl (by decide) (by omega) (fun c7 => ?_) (fun c7 => ?_)
    · refine r_aload_n hb 15 dX9_remove_14 rfl 1 rfl ?_
      refine r_callV0 (st := []) hb ho 18 dX9_remove_15 rfl ck_X9_66 (c_X9_begins mo rg g sp mc vc sc) rfl rfl (mc) rfl rfl (by rw [hR0]; exact ⟨Nat.le_of_ble_eq_true rfl, Nat.le_of_ble_eq_true rfl⟩) (Nat.le_of_ble_eq_true rfl) ⟨rfl, rfl⟩ (by rw [hR0]; exact Nat.zero_le _) (by rw [hR0]; exact Nat.zero_le _) (fun w_15 nw_15 qw_15 => ?_)
      obtain ⟨rfl, ⟨sp1, sc, spi⟩, ow_15⟩ := qw_15
      have hsp : vpo sp1 0 (D, l, nx) := vpg_o (hV.congr (fun i hi => spi i hi))
      have mc : w_15 mo = some (eO 9 [.ref (mo + 1), .ref (mo + 2), .ref (mo + 3), .int (iI ((rg 3))), .ref (mo + 4), .ref (mo + 5), .int (iI ((rg 6))), .ref (mo + 6), .int (iI ((rg 8))), .ref (mo + 7), .int (iI ((rg 10))), .int (iI ((rg 11))), .int (iI ((rg 12))), .int (iI ((rg 13))), .int (iI ((rg 14))), .ref (mo + 8), .int (iI ((rg 16))), .ref (mo + 9), .ref (mo + 10), .ref (mo + 11)]) := (ow_15 _ (by omega)).trans mc
      have vc : w_15 (mo + 1) = some (eI 483 g) := (ow_15 _ (by omega)).trans vc
      have pc : w_15 (mo + 3) = some (eI 2898 pa) := (ow_15 _ (by omega)).trans pc
      have kc : w_15 (mo + 4) = some (eI 968 kp) := (ow_15 _ (by omega)).trans kc
      have ic : w_15 (mo + 5) = some (eZ 2 ik) := (ow_15 _ (by omega)).trans ic
      have bc : w_15 (mo + 6) = some (eI 40 bg) := (ow_15 _ (by omega)).trans bc
      have lc : w_15 (mo + 7) = some (eI 17 (fun ii => iI ((ln ii : Nat) : Int))) := (ow_15 _ (by omega)).trans lc
      have oc : w_15 (mo + 8) = some (eI 10 (fun ii => iI ((od ii : Nat) : Int))) := (ow_15 _ (by omega)).trans oc
      have xc : w_15 (mo + 9) = some (eI 1210 (fun ii => iI (sco ii))) := (ow_15 _ (by omega)).trans xc
      have ec : w_15 (mo + 10) = some (eI 1210 (fun ii => iI (leo ii))) := (ow_15 _ (by omega)).trans ec
      have uc : w_15 (mo + 11) = some (eI 1331 (fun ii => iI (smo ii))) := (ow_15 _ (by omega)).trans uc
      refine r_aload_n hb 19 dX9_remove_18 rfl 1 rfl ?_
      refine r_iload_n hb 20 dX9_remove_19 rfl 0 rfl ?_
      refine r_callV0 (st := []) hb ho 23 dX9_remove_20 rfl ck_X9_95 (c_X9_removes mo rg g l nx (ixN l z) mc vc hP hf) rfl rfl (mc) rfl rfl (by rw [hR0]; exact ⟨Nat.le_of_ble_eq_true rfl, Nat.le_of_ble_eq_true rfl⟩) (Nat.le_of_ble_eq_true rfl) ⟨rfl, rfl⟩ (by rw [hR0]; exact Nat.zero_le _) (by rw [hR0]; exact Nat.zero_le _) (fun w_20 nw_20 qw_20 => ?_)
      obtain ⟨rfl, ⟨g1, vc, ⟨hP1, e1⟩⟩, ow_20⟩ := qw_20
      have sc : w_20 (mo + 2) = some (eI 483 sp1) := (ow_20 _ (by omega)).trans sc
      have mc : w_20 mo = some (eO 9 [.ref (mo + 1), .ref (mo + 2), .ref (mo + 3), .int (iI ((rg 3))), .ref (mo + 4), .ref (mo + 5), .int (iI ((rg 6))), .ref (mo + 6), .int (iI ((rg 8))), .ref (mo + 7), .int (iI ((rg 10))), .int (iI ((rg 11))), .int (iI ((rg 12))), .int (iI ((rg 13))), .int (iI ((rg 14))), .ref (mo + 8), .int (iI ((rg 16))), .ref (mo + 9), .ref (mo + 10), .ref (mo + 11)]) := (ow_20 _ (by omega)).trans mc
      have pc : w_20 (mo + 3) = some (eI 2898 pa) := (ow_20 _ (by omega)).trans pc
      have kc : w_20 (mo + 4) = some (eI 968 kp) := (ow_20 _ (by omega)).trans kc
      have ic : w_20 (mo + 5) = some (eZ 2 ik) := (ow_20 _ (by omega)).trans ic
      have bc : w_20 (mo + 6) = some (eI 40 bg) := (ow_20 _ (by omega)).trans bc
      have lc : w_20 (mo + 7) = some (eI 17 (fun ii => iI ((ln ii : Nat) : Int))) := (ow_20 _ (by omega)).trans lc
      have oc : w_20 (mo + 8) = some (eI 10 (fun ii => iI ((od ii : Nat) : Int))) := (ow_20 _ (by omega)).trans oc
      have xc : w_20 (mo + 9) = some (eI 1210 (fun ii => iI (sco ii))) := (ow_20 _ (by omega)).trans xc
      have ec : w_20 (mo + 10) = some (eI 1210 (fun ii => iI (leo ii))) := (ow_20 _ (by omega)).trans ec
      have uc : w_20 (mo + 11) = some (eI 1331 (fun ii => iI (smo ii))) := (ow_20 _ (by omega)).trans uc
      refine r_aload_n hb 24 dX9_remove_23 rfl 1 rfl ?_
      refine r_aload_n hb 25 dX9_remove_24 rfl 1 rfl ?_
      refine r_get hb ho 28 dX9_remove_25 rfl lk_X9_7 pf_X9_0 mc rfl ?_
      refine r_bipush 122 hb 30 dX9_remove_28 rfl rfl ?_
      refine r_iald hb 31 dX9_remove_30 rfl vc 122 (by omega) (⟨by omega, by omega⟩) ?_
      refine r_topz ((((l.length - 1 : Nat) : Nat) : Int)) (hP1.2.1.trans (by rw [List.length_eraseIdx, if_pos hf])) ?_
      refine r_callV1 (st := []) hb ho 34 dX9_remove_31 rfl ck_X9_72 (c_X9_made mo rg sp1 pa hs (D, l, nx) (iI ((((l.length - 1 : Nat) : Nat) : Int))) mc sc pc h3 hH hsp) rfl rfl (mc) rfl rfl (by rw [hR0]; exact ⟨Nat.le_of_ble_eq_true rfl, Nat.le_of_ble_eq_true rfl⟩) (Nat.le_of_ble_eq_true rfl) ⟨rfl, rfl⟩ (by rw [hR0]; exact Nat.zero_le _) (by rw [hR0]; exact Nat.zero_le _) (fun vw_31 w_31 nw_31 qw_31 => ?_)
      obtain ⟨rfl, rfl, ⟨rg3, pa1, mc, hF3, h3, pc, hH⟩, ow_31⟩ := qw_31
      have h6 := (hF3 6 (by decide)).trans h6
      have h8 := (hF3 8 (by decide)).trans h8
      have vc : w_31 (mo + 1) = some (eI 483 g1) := (ow_31 _ (by omega) (by omega)).trans vc
      have sc : w_31 (mo + 2) = some (eI 483 sp1) := (ow_31 _ (by omega) (by omega)).trans sc
      have kc : w_31 (mo + 4) = some (eI 968 kp) := (ow_31 _ (by omega) (by omega)).trans kc
      have ic : w_31 (mo + 5) = some (eZ 2 ik) := (ow_31 _ (by omega) (by omega)).trans ic
      have bc : w_31 (mo + 6) = some (eI 40 bg) := (ow_31 _ (by omega) (by omega)).trans bc
      have lc : w_31 (mo + 7) = some (eI 17 (fun ii => iI ((ln ii : Nat) : Int))) := (ow_31 _ (by omega) (by omega)).trans lc
      have oc : w_31 (mo + 8) = some (eI 10 (fun ii => iI ((od ii : Nat) : Int))) := (ow_31 _ (by omega) (by omega)).trans oc
      have xc : w_31 (mo + 9) = some (eI 1210 (fun ii => iI (sco ii))) := (ow_31 _ (by omega) (by omega)).trans xc
      have ec : w_31 (mo + 10) = some (eI 1210 (fun ii => iI (leo ii))) := (ow_31 _ (by omega) (by omega)).trans ec
      have uc : w_31 (mo + 11) = some (eI 1331 (fun ii => iI (smo ii))) := (ow_31 _ (by omega) (by omega)).trans uc
      refine r_iret hS dX9_remove_34 rfl rfl (Nat.zero_le _) (Nat.zero_le _) ?_
      have hV1 : vpg g1 (D, l.eraseIdx (ixN l z), nx) := ⟨hD.congr (fun q hq => e1 q (by omega)), hP1⟩
      have e : oRem B D l nx hs s0 s1 thr z = (iI ((l.length - 1 : Nat) : Int), stP B D l nx hs s0 s1 thr (D, l.eraseIdx (ixN l z), nx)) := by unfold oRem; rw [if_neg (by omega)]
      rw [e]
      exact ⟨_, rfl, rfl, rfl, ⟨rg3, g1, sp1, pa1, kp, ik, bg, ln, od, sco, leo, smo, mc, vc, sc, pc, kc, ic, bc, lc, oc, xc, ec, uc, hV1, h3, hH, h6, h8, hB, hS0, hS1⟩, (((ow_15.mono (by omega) (by omega)).trans (ow_20.mono (by omega) (by omega))).trans (ow_31.cov (by omega) (by omega) (by omega) (by omega)))⟩
    · exfalso; omega
  · have hle := ixN_le l z
    refine r_topz (-1) (by unfold ixZ; rw [if_neg hf]) ?_
    refine r_istore_n [(2, .int (iI (-1))), (0, .ref mo), (1, .int (iI (z)))] hb 6 3 dX9_remove_5 rfl rfl hnL (by decide) rfl ?_
    refine r_iload_n hb 7 dX9_remove_6 rfl 0 rfl ?_
    refine r_if_ge hb 10 14 dX9_remove_7 rfl (by decide) (by omega) (fun c7 => ?_) (fun c7 => ?_)
    · exfalso; omega
    · refine r_sipush (-1001) hb 13 dX9_remove_10 rfl rfl ?_
      refine r_iret hS dX9_remove_13 rfl rfl (Nat.zero_le _) (Nat.zero_le _) ?_
      have e : oRem B D l nx hs s0 s1 thr z = (iI (-1001), (B, (D, l, nx), hs, s0, s1, thr)) := by unfold oRem; rw [if_pos (by omega)]
      rw [e]
      exact ⟨_, rfl, rfl, rfl, hM, off.rfl' _ _ _⟩

abbrev rm_X9_quoteAnew : Room := { frames := 3, cells := 0, slots := 0, locals := 69 }
set_option maxHeartbeats 4000000 in
set_option maxRecDepth 100000 in
theorem c_X9_quoteAnew (mo : Nat) (B D : List Int32) (l : List Nt) (nx : Nat) (hs : List Pg) (s0 s1 : Option (Pg × Int)) (thr : Int) (z : Int) {w : PW} {n : Nat} (hM : moE w mo B D l nx hs s0 s1 thr) (hzb : -2147483648 ≤ z ∧ z < 2147483648) (hok : pOk (D, l, nx)) : Ct1 yX9_quoteAnew cX9_quoteAnew 3 (some .int) rm_X9_quoteAnew [.ref mo, .int (iI (z))] w n (fun v w1 n1 => v = .int (oQuo B D l nx hs s0 s1 thr z).1 ∧ n = n1 ∧ mo_ w1 mo (oQuo B D l nx hs s0 s1 thr z).2 ∧ off w w1 mo (mo + 12)) := by
  obtain ⟨rg, g, sp, pa, kp, ik, bg, ln, od, sco, leo, smo, mc, vc, sc, pc, kc, ic, bc, lc, oc, xc, ec, uc, hV, h3, hH, h6, h8, hB, hS0, hS1⟩ := id hM
  have hD : vdp g D := hV.1
  have hP : vnp g l nx := hV.2
  have hDl := hD.2.2
  have hPl := hP.2.2.1
  have hnx := hP.2.2.2.1
  have hBl := hB.1
  have hHl := hH.1
  refine Ctr.of rfl (Nat.le_of_ble_eq_true rfl) fun S hS => ?_
  have hb : S.1.1 = cX9_quoteAnew := by rw [hS]; rfl
  have ho : S.1.2.1 = RX9 := by rw [hS]; rfl
  have hnL : S.1.2.2.1 = 3 := by rw [hS]; rfl
  have hR0 : S.2.1 = rm_X9_quoteAnew := by rw [hS]; rfl
  show Wp S 0 [(0, .ref mo), (1, .int (iI (z)))] [] w n 0 0
  refine r_aload_n hb 1 dX9_quoteAnew_0 rfl 0 rfl ?_
  refine r_iload_n hb 2 dX9_quoteAnew_1 rfl 1 rfl ?_
  refine r_callVR (st := []) hb ho 5 dX9_quoteAnew_2 rfl ck_X9_92 (c_X9_find mo rg g l nx (z) mc vc hP (by omega)) rfl rfl (mc) rfl rfl (by rw [hR0]; exact ⟨Nat.le_of_ble_eq_true rfl, Nat.le_of_ble_eq_true rfl⟩) (Nat.le_of_ble_eq_true rfl) ⟨rfl, rfl⟩ (by rw [hR0]; exact Nat.zero_le _) (by rw [hR0]; exact Nat.zero_le _) ?_
  by_cases hf : ixN l z < l.length
  · have hle := ixN_le l z
    refine r_topz ((ixN l z : Nat) : Int) (by unfold ixZ; rw [if_pos hf]) ?_
    refine r_istore_n [(2, .int (iI (((ixN l z : Nat) : Int)))), (0, .ref mo), (1, .int (iI (z)))] hb 6 3 dX9_quoteAnew_5 rfl rfl hnL (by decide) rfl ?_
    refine r_iload_n hb 7 dX9_quoteAnew_6 rfl 0 rfl ?_
    refine r_if_ge hb 10 14 dX9_quoteAnew_7 rfl (by decide) (by omega) (fun c7 => ?_) (fun c7 => ?_)
    · have hN : vnt g (123 + 36 * ixN l z) (lg l (ixN l z)) := hP.2.2.2.2 _ hf
      obtain ⟨n0, n1, n2, n3, n4, n5, n6, n7, n8, n9, n10, n11, n12, n13⟩ := id (hN)
      refine r_aload_n hb 15 dX9_quoteAnew_14 rfl 1 rfl ?_
      refine r_get hb ho 18 dX9_quoteAnew_15 rfl lk_X9_7 pf_X9_0 mc rfl ?_
      refine r_iload_n hb 19 dX9_quoteAnew_18 rfl 0 rfl ?_
      refine r_iconst hb 20 dX9_quoteAnew_19 rfl ?_
      refine r_callSR (st := [.ref (mo + 1)]) hb ho 23 dX9_quoteAnew_20 rfl ck_X9_48 (c_X9_at (((ixN l z : Nat) : Int)) 1 (36 * ((ixN l z : Nat) : Int) + 124) (by omega)) rfl rfl (by rw [hR0]; exact ⟨Nat.le_of_ble_eq_true rfl, Nat.le_of_ble_eq_true rfl⟩) (Nat.le_of_ble_eq_true rfl) ⟨rfl, rfl⟩ (by rw [hR0]; exact Nat.zero_le _) (by rw [hR0]; exact Nat.zero_le _) ?_
      refine r_iald hb 24 dX9_quoteAnew_23 rfl vc (123 + 36 * (ixN l z) + 1) (by omega) (⟨by omega, by omega⟩) ?_
      refine r_topv (.int (bI (nK (lg l (ixN l z))))) (congrArg Value.int (n1)) ?_
      refine r_ifb_eq hb 27 53 dX9_quoteAnew_24 rfl (by decide) (fun c24 => ?_) (fun c24 => ?_)
      · refine r_sipush (-1003) hb 56 dX9_quoteAnew_53 rfl rfl ?_
        refine r_iret hS dX9_quoteAnew_56 rfl rfl (Nat.zero_le _) (Nat.zero_le _) ?_
        have e : oQuo B D l nx hs s0 s1 thr z = (iI (-1003), (B, (D, l, nx), hs, s0, s1, thr)) := by unfold oQuo; rw [if_neg (by omega), if_pos (by first | exact Or.inl c24 | (right; omega))]
        rw [e]
        exact ⟨_, rfl, rfl, rfl, hM, off.rfl' _ _ _⟩
      · refine r_aload_n hb 28 dX9_quoteAnew_27 rfl 1 rfl ?_
        refine r_get hb ho 31 dX9_quoteAnew_28 rfl lk_X9_7 pf_X9_0 mc rfl ?_
        refine r_iload_n hb 32 dX9_quoteAnew_31 rfl 0 rfl ?_
        refine r_iconst hb 33 dX9_quoteAnew_32 rfl ?_
        refine r_callSR (st := [.ref (mo + 1)]) hb ho 36 dX9_quoteAnew_33 rfl ck_X9_48 (c_X9_at (((ixN l z : Nat) : Int)) 3 (36 * ((ixN l z : Nat) : Int) + 126) (by omega)) rfl rfl (by rw [hR0]; exact ⟨Nat.le_of_ble_eq_true rfl, Nat.le_of_ble_eq_true rfl⟩) (Nat.le_of_ble_eq_true rfl) ⟨rfl, rfl⟩ (by rw [hR0]; exact Nat.zero_le _) (by rw [hR0]; exact Nat.zero_le _) ?_
        refine r_iald hb 37 dX9_quoteAnew_36 rfl vc (123 + 36 * (ixN l z) + 3) (by omega) (⟨by omega, by omega⟩) ?_
        refine r_topz (((nE (lg l (ixN l z)) : Nat) : Int)) (n3) ?_
        refine r_aload_n hb 38 dX9_quoteAnew_37 rfl 1 rfl ?_
        refine r_get hb ho 41 dX9_quoteAnew_38 rfl lk_X9_7 pf_X9_0 mc rfl ?_
        refine r_iload_n hb 42 dX9_quoteAnew_41 rfl 0 rfl ?_
        refine r_iconst hb 43 dX9_quoteAnew_42 rfl ?_
        refine r_callSR (st := [.ref (mo + 1), .int (iI (((nE (lg l (ixN l z)) : Nat) : Int)))]) hb ho 46 dX9_quoteAnew_43 rfl ck_X9_48 (c_X9_at (((ixN l z : Nat) : Int)) 2 (36 * ((ixN l z : Nat) : Int) + 125) (by omega)) rfl rfl (by rw [hR0]; exact ⟨Nat.le_of_ble_eq_true rfl, Nat.le_of_ble_eq_true rfl⟩) (Nat.le_of_ble_eq_true rfl) ⟨rfl, rfl⟩ (by rw [hR0]; exact Nat.zero_le _) (by rw [hR0]; exact Nat.zero_le _) ?_
        refine r_iald hb 47 dX9_quoteAnew_46 rfl vc (123 + 36 * (ixN l z) + 2) (by omega) (⟨by omega, by omega⟩) ?_
        refine r_topz (((nB (lg l (ixN l z)) : Nat) : Int)) (n2) ?_
        refine r_isubZ hb 48 (((nE (lg l (ixN l z)) : Nat) : Int) - ((nB (lg l (ixN l z)) : Nat) : Int)) dX9_quoteAnew_47 rfl (by omega) ?_
        refine r_bipush 16 hb 50 dX9_quoteAnew_48 rfl rfl ?_
        refine r_icmp_le hb 53 57 dX9_quoteAnew_50 rfl (by decide) (by omega) (by omega) (fun c50 => ?_) (fun c50 => ?_)
        · refine r_aload_n hb 58 dX9_quoteAnew_57 rfl 1 rfl ?_
          refine r_callV0 (st := []) hb ho 61 dX9_quoteAnew_58 rfl ck_X9_66 (c_X9_begins mo rg g sp mc vc sc) rfl rfl (mc) rfl rfl (by rw [hR0]; exact ⟨Nat.le_of_ble_eq_true rfl, Nat.le_of_ble_eq_true rfl⟩) (Nat.le_of_ble_eq_true rfl) ⟨rfl, rfl⟩ (by rw [hR0]; exact Nat.zero_le _) (by rw [hR0]; exact Nat.zero_le _) (fun w_58 nw_58 qw_58 => ?_)
          obtain ⟨rfl, ⟨sp1, sc, spi⟩, ow_58⟩ := qw_58
          have hsp : vpo sp1 0 (D, l, nx) := vpg_o (hV.congr (fun i hi => spi i hi))
          have mc : w_58 mo = some (eO 9 [.ref (mo + 1), .ref (mo + 2), .ref (mo + 3), .int (iI ((rg 3))), .ref (mo + 4), .ref (mo + 5), .int (iI ((rg 6))), .ref (mo + 6), .int (iI ((rg 8))), .ref (mo + 7), .int (iI ((rg 10))), .int (iI ((rg 11))), .int (iI ((rg 12))), .int (iI ((rg 13))), .int (iI ((rg 14))), .ref (mo + 8), .int (iI ((rg 16))), .ref (mo + 9), .ref (mo + 10), .ref (mo + 11)]) := (ow_58 _ (by omega)).trans mc
          have vc : w_58 (mo + 1) = some (eI 483 g) := (ow_58 _ (by omega)).trans vc
          have pc : w_58 (mo + 3) = some (eI 2898 pa) := (ow_58 _ (by omega)).trans pc
          have kc : w_58 (mo + 4) = some (eI 968 kp) := (ow_58 _ (by omega)).trans kc
          have ic : w_58 (mo + 5) = some (eZ 2 ik) := (ow_58 _ (by omega)).trans ic
          have bc : w_58 (mo + 6) = some (eI 40 bg) := (ow_58 _ (by omega)).trans bc
          have lc : w_58 (mo + 7) = some (eI 17 (fun ii => iI ((ln ii : Nat) : Int))) := (ow_58 _ (by omega)).trans lc
          have oc : w_58 (mo + 8) = some (eI 10 (fun ii => iI ((od ii : Nat) : Int))) := (ow_58 _ (by omega)).trans oc
          have xc : w_58 (mo + 9) = some (eI 1210 (fun ii => iI (sco ii))) := (ow_58 _ (by omega)).trans xc
          have ec : w_58 (mo + 10) = some (eI 1210 (fun ii => iI (leo ii))) := (ow_58 _ (by omega)).trans ec
          have uc : w_58 (mo + 11) = some (eI 1331 (fun ii => iI (smo ii))) := (ow_58 _ (by omega)).trans uc
          refine r_aload_n hb 62 dX9_quoteAnew_61 rfl 1 rfl ?_
          refine r_iload_n hb 63 dX9_quoteAnew_62 rfl 0 rfl ?_
          have hnk : nB (lg l (ixN l z)) ≤ nE (lg l (ixN l z)) ∧ nE (lg l (ixN l z)) ≤ D.length ∧ nNum (lg l (ixN l z)) < nx := (hok.2.2.2.1 (ixN l z) hf).2
          refine r_callV0 (st := []) hb ho 66 dX9_quoteAnew_63 rfl ck_X9_88 (c_X9_quotes mo rg g D (ixN l z) (nB (lg l (ixN l z))) (nE (lg l (ixN l z))) mc vc hD n2 n3 (by omega)) rfl rfl (mc) rfl rfl (by rw [hR0]; exact ⟨Nat.le_of_ble_eq_true rfl, Nat.le_of_ble_eq_true rfl⟩) (Nat.le_of_ble_eq_true rfl) ⟨rfl, rfl⟩ (by rw [hR0]; exact Nat.zero_le _) (by rw [hR0]; exact Nat.zero_le _) (fun w_63 nw_63 qw_63 => ?_)
          obtain ⟨rfl, ⟨g2, vc, ⟨t1, t2, t3⟩, e2⟩, ow_63⟩ := qw_63
          have sc : w_63 (mo + 2) = some (eI 483 sp1) := (ow_63 _ (by omega)).trans sc
          have mc : w_63 mo = some (eO 9 [.ref (mo + 1), .ref (mo + 2), .ref (mo + 3), .int (iI ((rg 3))), .ref (mo + 4), .ref (mo + 5), .int (iI ((rg 6))), .ref (mo + 6), .int (iI ((rg 8))), .ref (mo + 7), .int (iI ((rg 10))), .int (iI ((rg 11))), .int (iI ((rg 12))), .int (iI ((rg 13))), .int (iI ((rg 14))), .ref (mo + 8), .int (iI ((rg 16))), .ref (mo + 9), .ref (mo + 10), .ref (mo + 11)]) := (ow_63 _ (by omega)).trans mc
          have pc : w_63 (mo + 3) = some (eI 2898 pa) := (ow_63 _ (by omega)).trans pc
          have kc : w_63 (mo + 4) = some (eI 968 kp) := (ow_63 _ (by omega)).trans kc
          have ic : w_63 (mo + 5) = some (eZ 2 ik) := (ow_63 _ (by omega)).trans ic
          have bc : w_63 (mo + 6) = some (eI 40 bg) := (ow_63 _ (by omega)).trans bc
          have lc : w_63 (mo + 7) = some (eI 17 (fun ii => iI ((ln ii : Nat) : Int))) := (ow_63 _ (by omega)).trans lc
          have oc : w_63 (mo + 8) = some (eI 10 (fun ii => iI ((od ii : Nat) : Int))) := (ow_63 _ (by omega)).trans oc
          have xc : w_63 (mo + 9) = some (eI 1210 (fun ii => iI (sco ii))) := (ow_63 _ (by omega)).trans xc
          have ec : w_63 (mo + 10) = some (eI 1210 (fun ii => iI (leo ii))) := (ow_63 _ (by omega)).trans ec
          have uc : w_63 (mo + 11) = some (eI 1331 (fun ii => iI (smo ii))) := (ow_63 _ (by omega)).trans uc
          refine r_aload_n hb 67 dX9_quoteAnew_66 rfl 1 rfl ?_
          refine r_aload_n hb 68 dX9_quoteAnew_67 rfl 1 rfl ?_
          refine r_get hb ho 71 dX9_quoteAnew_68 rfl lk_X9_7 pf_X9_0 mc rfl ?_
          refine r_iload_n hb 72 dX9_quoteAnew_71 rfl 0 rfl ?_
          refine r_bipush 12 hb 74 dX9_quoteAnew_72 rfl rfl ?_
          refine r_callSR (st := [.ref (mo + 1), .ref mo]) hb ho 77 dX9_quoteAnew_74 rfl ck_X9_48 (c_X9_at (((ixN l z : Nat) : Int)) 12 (36 * ((ixN l z : Nat) : Int) + 135) (by omega)) rfl rfl (by rw [hR0]; exact ⟨Nat.le_of_ble_eq_true rfl, Nat.le_of_ble_eq_true rfl⟩) (Nat.le_of_ble_eq_true rfl) ⟨rfl, rfl⟩ (by rw [hR0]; exact Nat.zero_le _) (by rw [hR0]; exact Nat.zero_le _) ?_
          refine r_iald hb 78 dX9_quoteAnew_77 rfl vc (123 + 36 * ixN l z + 12) (by omega) (⟨by omega, by omega⟩) ?_
          refine r_topz ((((slice D (nB (lg l (ixN l z))) (nE (lg l (ixN l z)))).length : Nat) : Int)) (t2.1) ?_
          refine r_callV1 (st := []) hb ho 81 dX9_quoteAnew_78 rfl ck_X9_72 (c_X9_made mo rg sp1 pa hs (D, l, nx) (iI ((((slice D (nB (lg l (ixN l z))) (nE (lg l (ixN l z)))).length : Nat) : Int))) mc sc pc h3 hH hsp) rfl rfl (mc) rfl rfl (by rw [hR0]; exact ⟨Nat.le_of_ble_eq_true rfl, Nat.le_of_ble_eq_true rfl⟩) (Nat.le_of_ble_eq_true rfl) ⟨rfl, rfl⟩ (by rw [hR0]; exact Nat.zero_le _) (by rw [hR0]; exact Nat.zero_le _) (fun vw_78 w_78 nw_78 qw_78 => ?_)
          obtain ⟨rfl, rfl, ⟨rg3, pa1, mc, hF3, h3, pc, hH⟩, ow_78⟩ := qw_78
          have h6 := (hF3 6 (by decide)).trans h6
          have h8 := (hF3 8 (by decide)).trans h8
          have vc : w_78 (mo + 1) = some (eI 483 g2) := (ow_78 _ (by omega) (by omega)).trans vc
          have sc : w_78 (mo + 2) = some (eI 483 sp1) := (ow_78 _ (by omega) (by omega)).trans sc
          have kc : w_78 (mo + 4) = some (eI 968 kp) := (ow_78 _ (by omega) (by omega)).trans kc
          have ic : w_78 (mo + 5) = some (eZ 2 ik) := (ow_78 _ (by omega) (by omega)).trans ic
          have bc : w_78 (mo + 6) = some (eI 40 bg) := (ow_78 _ (by omega) (by omega)).trans bc
          have lc : w_78 (mo + 7) = some (eI 17 (fun ii => iI ((ln ii : Nat) : Int))) := (ow_78 _ (by omega) (by omega)).trans lc
          have oc : w_78 (mo + 8) = some (eI 10 (fun ii => iI ((od ii : Nat) : Int))) := (ow_78 _ (by omega) (by omega)).trans oc
          have xc : w_78 (mo + 9) = some (eI 1210 (fun ii => iI (sco ii))) := (ow_78 _ (by omega) (by omega)).trans xc
          have ec : w_78 (mo + 10) = some (eI 1210 (fun ii => iI (leo ii))) := (ow_78 _ (by omega) (by omega)).trans ec
          have uc : w_78 (mo + 11) = some (eI 1331 (fun ii => iI (smo ii))) := (ow_78 _ (by omega) (by omega)).trans uc
          refine r_iret hS dX9_quoteAnew_81 rfl rfl (Nat.zero_le _) (Nat.zero_le _) ?_
          have L1 := slice_len D (nB (lg l (ixN l z)) - 6) (nB (lg l (ixN l z)))
          have L2 := slice_len D (nB (lg l (ixN l z))) (nE (lg l (ixN l z)))
          have L3 := slice_len D (nE (lg l (ixN l z))) (nE (lg l (ixN l z)) + 6)
          have hV1 : vpg g2 (D, l.set (ixN l z) (qtN D (lg l (ixN l z))), nx) := by
            refine ⟨hD.congr (fun q hq => e2 q (by omega)), vnp_set hP ⟨?_, ?_, ?_, ?_, ?_, t1, t2, t3, ?_, ?_, ?_, n11, n12, n13⟩ (fun q hq => e2 q (by omega))⟩
            · exact (e2 _ (by omega)).trans n0
            · exact (e2 _ (by omega)).trans n1
            · exact (e2 _ (by omega)).trans n2
            · exact (e2 _ (by omega)).trans n3
            · exact (e2 _ (by omega)).trans n4
            · show (slice D _ _).length ≤ 6; omega
            · show (slice D _ _).length ≤ 16; omega
            · show (slice D _ _).length ≤ 6; omega
          have e : oQuo B D l nx hs s0 s1 thr z = (iI (((nQ (qtN D (lg l (ixN l z)))).length : Nat) : Int), stP B D l nx hs s0 s1 thr (D, l.set (ixN l z) (qtN D (lg l (ixN l z))), nx)) := by unfold oQuo; rw [if_neg (by omega), if_neg (fun hh => hh.elim (fun h1 => by rw [c24] at h1; cases h1) (fun h1 => by omega))]
          rw [e]
          exact ⟨_, rfl, rfl, rfl, ⟨rg3, g2, sp1, pa1, kp, ik, bg, ln, od, sco, leo, smo, mc, vc, sc, pc, kc, ic, bc, lc, oc, xc, ec, uc, hV1, h3, hH, h6, h8, hB, hS0, hS1⟩, (((ow_58.mono (by omega) (by omega)).trans (ow_63.mono (by omega) (by omega))).trans (ow_78.cov (by omega) (by omega) (by omega) (by omega)))⟩
        · refine r_sipush (-1003) hb 56 dX9_quoteAnew_53 rfl rfl ?_
          refine r_iret hS dX9_quoteAnew_56 rfl rfl (Nat.zero_le _) (Nat.zero_le _) ?_
          have e : oQuo B D l nx hs s0 s1 thr z = (iI (-1003), (B, (D, l, nx), hs, s0, s1, thr)) := by unfold oQuo; rw [if_neg (by omega), if_pos (by first | exact Or.inl c24 | (right; omega))]
          rw [e]
          exact ⟨_, rfl, rfl, rfl, hM, off.rfl' _ _ _⟩
    · exfalso; omega
  · have hle := ixN_le l z
    refine r_topz (-1) (by unfold ixZ; rw [if_neg hf]) ?_
    refine r_istore_n [(2, .int (iI (-1))), (0, .ref mo), (1, .int (iI (z)))] hb 6 3 dX9_quoteAnew_5 rfl rfl hnL (by decide) rfl ?_
    refine r_iload_n hb 7 dX9_quoteAnew_6 rfl 0 rfl ?_
    refine r_if_ge hb 10 14 dX9_quoteAnew_7 rfl (by decide) (by omega) (fun c7 => ?_) (fun c7 => ?_)
    · exfalso; omega
    · refine r_sipush (-1001) hb 13 dX9_quoteAnew_10 rfl rfl ?_
      refine r_iret hS dX9_quoteAnew_13 rfl rfl (Nat.zero_le _) (Nat.zero_le _) ?_
      have e : oQuo B D l nx hs s0 s1 thr z = (iI (-1001), (B, (D, l, nx), hs, s0, s1, thr)) := by unfold oQuo; rw [if_pos (by omega)]
      rw [e]
      exact ⟨_, rfl, rfl, rfl, hM, off.rfl' _ _ _⟩
