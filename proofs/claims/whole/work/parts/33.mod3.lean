abbrev rm_X9_bestAt : Room := { frames := 3, cells := 0, slots := 0, locals := 70 }
set_option maxHeartbeats 4000000 in
set_option maxRecDepth 100000 in
theorem c_X9_bestAt (mo : Nat) (rg : Nat → Int) (g : Nat → Int32) (ln : Nat → Nat) (D : List Int32) (k : Nat) (x : Nt) (s : Nat) {w : PW} {n : Nat} (mc : w mo = some (mE mo rg)) (vc : w (mo + 1) = some (eI 483 g)) (lc : w (mo + 7) = some (eI 17 (fun ii => iI ((ln ii : Nat) : Int)))) (hD : vdp g D) (hN : vnt g (123 + 36 * k) x) (hk : k < 10) (hs : s < D.length) (hx : nOk x) : Ct1 yX9_bestAt cX9_bestAt 7 (some .boolean) rm_X9_bestAt [.ref mo, .int (iI (((k : Nat) : Int))), .int (iI (((s : Nat) : Int)))] w n (fun v w1 n1 => v = .int (bI (bA x D s).isSome) ∧ n = n1 ∧ (∃ rg1 : Nat → Int, w1 mo = some (mE mo rg1) ∧ (∀ i, i < 10 ∨ 12 ≤ i → rg1 i = rg i) ∧ ∀ p, bA x D s = some p → rg1 10 = p.1 ∧ rg1 11 = ((p.2 : Nat) : Int)) ∧ (∃ ln1 : Nat → Nat, w1 (mo + 7) = some (eI 17 (fun ii => iI ((ln1 ii : Nat) : Int)))) ∧ off2 w w1 mo (mo + 1) (mo + 7) (mo + 8)) := by
  obtain ⟨n0, n1, n2, n3, n4, n5, n6, n7, n8, n9, n10, n11, n12, n13⟩ := id (hN)
  have hDl := hD.2.2
  refine Ctr.of rfl (Nat.le_of_ble_eq_true rfl) fun S hS => ?_
  have hb : S.1.1 = cX9_bestAt := by rw [hS]; rfl
  have ho : S.1.2.1 = RX9 := by rw [hS]; rfl
  have hnL : S.1.2.2.1 = 7 := by rw [hS]; rfl
  have hR0 : S.2.1 = rm_X9_bestAt := by rw [hS]; rfl
  show Wp S 0 [(0, .ref mo), (1, .int (iI (((k : Nat) : Int)))), (2, .int (iI (((s : Nat) : Int))))] [] w n 0 0
  refine r_aload_n hb 1 dX9_bestAt_0 rfl 0 rfl ?_
  refine r_get hb ho 4 dX9_bestAt_1 rfl lk_X9_7 pf_X9_0 mc rfl ?_
  refine r_iload_n hb 5 dX9_bestAt_4 rfl 1 rfl ?_
  refine r_bipush 12 hb 7 dX9_bestAt_5 rfl rfl ?_
  refine r_callSR (st := [.ref (mo + 1)]) hb ho 10 dX9_bestAt_7 rfl ck_X9_48 (c_X9_at (((k : Nat) : Int)) 12 (36 * ((k : Nat) : Int) + 135) (by omega)) rfl rfl (by rw [hR0]; exact ⟨Nat.le_of_ble_eq_true rfl, Nat.le_of_ble_eq_true rfl⟩) (Nat.le_of_ble_eq_true rfl) ⟨rfl, rfl⟩ (by rw [hR0]; exact Nat.zero_le _) (by rw [hR0]; exact Nat.zero_le _) ?_
  refine r_iald hb 11 dX9_bestAt_10 rfl vc (123 + 36 * k + 12) (by omega) (⟨by omega, by omega⟩) ?_
  refine r_topz ((((nQ (x)).length : Nat) : Int)) (n6.1) ?_
  refine r_istore_n [(3, .int (iI ((((nQ (x)).length : Nat) : Int)))), (0, .ref mo), (1, .int (iI (((k : Nat) : Int)))), (2, .int (iI (((s : Nat) : Int))))] hb 12 7 dX9_bestAt_11 rfl rfl hnL (by decide) rfl ?_
  refine r_iconst hb 13 dX9_bestAt_12 rfl ?_
  refine r_istore [(4, .int (iI 0)), (3, .int (iI ((((nQ (x)).length : Nat) : Int)))), (0, .ref mo), (1, .int (iI (((k : Nat) : Int)))), (2, .int (iI (((s : Nat) : Int))))] hb 15 7 dX9_bestAt_13 rfl hnL (by decide) rfl ?_
  refine r_aload_n hb 16 dX9_bestAt_15 rfl 2 rfl ?_
  refine r_iload_n hb 17 dX9_bestAt_16 rfl 3 rfl ?_
  refine r_callV0 (st := []) hb ho 20 dX9_bestAt_17 rfl ck_X9_98 (c_X9_startsLine mo rg g ln k x mc vc lc hN hk) rfl rfl (mc) rfl rfl (by rw [hR0]; exact ⟨Nat.le_of_ble_eq_true rfl, Nat.le_of_ble_eq_true rfl⟩) (Nat.le_of_ble_eq_true rfl) ⟨rfl, rfl⟩ (by rw [hR0]; exact Nat.zero_le _) (by rw [hR0]; exact Nat.zero_le _) (fun w_17 nw_17 qw_17 => ?_)
  obtain ⟨rfl, ⟨lnw_17, lc, hl⟩, ow_17⟩ := qw_17
  have mc : w_17 mo = some (eO 9 [.ref (mo + 1), .ref (mo + 2), .ref (mo + 3), .int (iI ((rg 3))), .ref (mo + 4), .ref (mo + 5), .int (iI ((rg 6))), .ref (mo + 6), .int (iI ((rg 8))), .ref (mo + 7), .int (iI ((rg 10))), .int (iI ((rg 11))), .int (iI ((rg 12))), .int (iI ((rg 13))), .int (iI ((rg 14))), .ref (mo + 8), .int (iI ((rg 16))), .ref (mo + 9), .ref (mo + 10), .ref (mo + 11)]) := (ow_17 _ (by omega)).trans mc
  have vc : w_17 (mo + 1) = some (eI 483 g) := (ow_17 _ (by omega)).trans vc
  refine r_iconst hb 21 dX9_bestAt_20 rfl ?_
  refine r_istore [(5, .int (iI 1)), (4, .int (iI 0)), (3, .int (iI ((((nQ (x)).length : Nat) : Int)))), (0, .ref mo), (1, .int (iI (((k : Nat) : Int)))), (2, .int (iI (((s : Nat) : Int))))] hb 23 7 dX9_bestAt_21 rfl hnL (by decide) rfl ?_
  have lp : ∀ (d : Nat) (t : Nat) (wi : PW) (rgi : Nat → Int) (li : Nat → Nat), min ((nQ x).length + 3) (D.length - s) - t = d → (t ≤ min ((nQ x).length + 3) (D.length - s)) → (wi mo = some (mE mo rgi)) → (wi (mo + 1) = some (eI 483 g)) → (wi (mo + 7) = some (eI 17 (fun ii => iI ((li ii : Nat) : Int)))) → (∀ q, q ≤ (nQ x).length → li q = edK (nQ x) D s t q) → (∀ i, i < 10 ∨ 12 ≤ i → rgi i = rg i) → (∀ p, bAt x D s t = some p → rgi 10 = p.1 ∧ rgi 11 = ((p.2 : Nat) : Int)) → (off2 w wi (mo) (mo + 1) (mo + 7) (mo + 8)) → Wp S 23 [(5, .int (iI (((t : Nat) : Int) + 1))), (4, .int (bI ((bAt x D s t).isSome))), (0, .ref mo), (1, .int (iI (((k : Nat) : Int)))), (2, .int (iI (((s : Nat) : Int)))), (3, .int (iI ((((nQ x).length : Nat) : Int))))] [] wi n 0 0 := by
    intro d
    induction d using Nat.strongRecOn with
    | _ d ih_lp =>
      intro t wi rgi li hd_lp ht mc vc lc hl hF hT hO
      have hgb := gIt_bd hx D (s := s) (by omega) (k := t) (by omega)
      refine r_iload hb 25 dX9_bestAt_23 rfl 0 rfl ?_
      refine r_iload_n hb 26 dX9_bestAt_25 rfl 5 rfl ?_
      refine r_iconst hb 27 dX9_bestAt_26 rfl ?_
      refine r_iaddZ hb 28 ((((nQ x).length : Nat) : Int) + 3) dX9_bestAt_27 rfl (by omega) ?_
      refine r_icmp_gt hb 31 123 dX9_bestAt_28 rfl (by decide) (by omega) (by omega) (fun c28 => ?_) (fun c28 => ?_)
      · refine r_iload hb 125 dX9_bestAt_123 rfl 1 rfl ?_
        refine r_iret hS dX9_bestAt_125 rfl (bI_nar _) (Nat.zero_le _) (Nat.zero_le _) ?_
        have et : t = min ((nQ x).length + 3) (D.length - s) := by omega
        subst et
        exact ⟨_, rfl, rfl, rfl, ⟨rgi, mc, hF, hT⟩, ⟨_, lc⟩, hO⟩
      · refine r_iload_n hb 32 dX9_bestAt_31 rfl 4 rfl ?_
        refine r_iload hb 34 dX9_bestAt_32 rfl 0 rfl ?_
        refine r_iaddZ hb 35 (((s : Nat) : Int) + ((t : Nat) : Int) + 1) dX9_bestAt_34 rfl (by omega) ?_
        refine r_aload_n hb 36 dX9_bestAt_35 rfl 2 rfl ?_
        refine r_get hb ho 39 dX9_bestAt_36 rfl lk_X9_7 pf_X9_0 mc rfl ?_
        refine r_iconst hb 40 dX9_bestAt_39 rfl ?_
        refine r_iald hb 41 dX9_bestAt_40 rfl vc 0 (by omega) (⟨by omega, by omega⟩) ?_
        refine r_topz ((((D).length : Nat) : Int)) (hD.1) ?_
        refine r_icmp_gt hb 44 123 dX9_bestAt_41 rfl (by decide) (by omega) (by omega) (fun c41 => ?_) (fun c41 => ?_)
        · refine r_iload hb 125 dX9_bestAt_123 rfl 1 rfl ?_
          refine r_iret hS dX9_bestAt_125 rfl (bI_nar _) (Nat.zero_le _) (Nat.zero_le _) ?_
          have et : t = min ((nQ x).length + 3) (D.length - s) := by omega
          subst et
          exact ⟨_, rfl, rfl, rfl, ⟨rgi, mc, hF, hT⟩, ⟨_, lc⟩, hO⟩
        · refine r_aload_n hb 45 dX9_bestAt_44 rfl 2 rfl ?_
          refine r_iload_n hb 46 dX9_bestAt_45 rfl 3 rfl ?_
          refine r_aload_n hb 47 dX9_bestAt_46 rfl 2 rfl ?_
          refine r_get hb ho 50 dX9_bestAt_47 rfl lk_X9_7 pf_X9_0 mc rfl ?_
          refine r_iconst hb 51 dX9_bestAt_50 rfl ?_
          refine r_iload_n hb 52 dX9_bestAt_51 rfl 4 rfl ?_
          refine r_iaddZ hb 53 (((s : Nat) : Int) + 1) dX9_bestAt_52 rfl (by omega) ?_
          refine r_iload hb 55 dX9_bestAt_53 rfl 0 rfl ?_
          refine r_iaddZ hb 56 (((s : Nat) : Int) + ((t : Nat) : Int) + 2) dX9_bestAt_55 rfl (by omega) ?_
          refine r_iconst hb 57 dX9_bestAt_56 rfl ?_
          refine r_isubZ hb 58 (((s : Nat) : Int) + ((t : Nat) : Int) + 1) dX9_bestAt_57 rfl (by omega) ?_
          refine r_iald hb 59 dX9_bestAt_58 rfl vc (1 + (s + t)) (by omega) (⟨by omega, by omega⟩) ?_
          refine r_topv (.int ((D).getD (s + t) 0)) (congrArg Value.int (hD.2.1 (s + t) (by omega))) ?_
          refine r_callV0 (st := []) hb ho 62 dX9_bestAt_59 rfl ck_X9_101 (c_X9_goesOn mo rgi g li (edK (nQ x) D s t) k x (D.getD (s + t) 0) mc vc lc hN hk hl (fun j hj => by have := edK_le (nQ x) D s t j; omega)) rfl rfl (mc) rfl rfl (by rw [hR0]; exact ⟨Nat.le_of_ble_eq_true rfl, Nat.le_of_ble_eq_true rfl⟩) (Nat.le_of_ble_eq_true rfl) ⟨rfl, rfl⟩ (by rw [hR0]; exact Nat.zero_le _) (by rw [hR0]; exact Nat.zero_le _) (fun w_59 nw_59 qw_59 => ?_)
          obtain ⟨rfl, ⟨lnw_59, lc, hl⟩, ow_59⟩ := qw_59
          have mc : w_59 mo = some (eO 9 [.ref (mo + 1), .ref (mo + 2), .ref (mo + 3), .int (iI ((rgi 3))), .ref (mo + 4), .ref (mo + 5), .int (iI ((rgi 6))), .ref (mo + 6), .int (iI ((rgi 8))), .ref (mo + 7), .int (iI ((rgi 10))), .int (iI ((rgi 11))), .int (iI ((rgi 12))), .int (iI ((rgi 13))), .int (iI ((rgi 14))), .ref (mo + 8), .int (iI ((rgi 16))), .ref (mo + 9), .ref (mo + 10), .ref (mo + 11)]) := (ow_59 _ (by omega)).trans mc
          have vc : w_59 (mo + 1) = some (eI 483 g) := (ow_59 _ (by omega)).trans vc
          replace hl : ∀ q, q ≤ (nQ x).length → lnw_59 q = edK (nQ x) D s (t + 1) q := hl
          have hek := edK_le (nQ x) D s (t + 1) (nQ x).length
          have hsc := scN_bd hx D (s := s) (e := s + (t + 1)) (d := edK (nQ x) D s (t + 1) (nQ x).length) (by omega) (by omega)
          refine r_aload_n hb 63 dX9_bestAt_62 rfl 2 rfl ?_
          refine r_iload_n hb 64 dX9_bestAt_63 rfl 3 rfl ?_
          refine r_iload_n hb 65 dX9_bestAt_64 rfl 4 rfl ?_
          refine r_iload_n hb 66 dX9_bestAt_65 rfl 4 rfl ?_
          refine r_iload hb 68 dX9_bestAt_66 rfl 0 rfl ?_
          refine r_iaddZ hb 69 ((((s + (t + 1) : Nat) : Nat) : Int)) dX9_bestAt_68 rfl (by omega) ?_
          refine r_aload_n hb 70 dX9_bestAt_69 rfl 2 rfl ?_
          refine r_get hb ho 73 dX9_bestAt_70 rfl lk_X9_33 pf_X9_9 mc rfl ?_
          refine r_iload_n hb 74 dX9_bestAt_73 rfl 5 rfl ?_
          refine r_ialdN hb 75 dX9_bestAt_74 rfl lc ((nQ x).length) (by omega) (⟨by omega, by omega⟩) ?_
          refine r_topv (.int (iI (((edK (nQ x) D s (t + 1) (nQ x).length : Nat) : Int)))) (by rw [hl _ (Nat.le_refl _)]) ?_
          refine r_callVR (st := []) hb ho 78 dX9_bestAt_75 rfl ck_X9_111 (c_X9_scored mo rgi g D k x s (s + (t + 1)) (edK (nQ x) D s (t + 1) (nQ x).length) mc vc hD hN hk (by omega) (by omega) (by omega)) rfl rfl (mc) rfl rfl (by rw [hR0]; exact ⟨Nat.le_of_ble_eq_true rfl, Nat.le_of_ble_eq_true rfl⟩) (Nat.le_of_ble_eq_true rfl) ⟨rfl, rfl⟩ (by rw [hR0]; exact Nat.zero_le _) (by rw [hR0]; exact Nat.zero_le _) ?_
          refine r_istore [(6, .int (iI ((scN x D s (s + (t + 1)) (edK (nQ x) D s (t + 1) (nQ x).length))))), (5, .int (iI (((t : Nat) : Int) + 1))), (4, .int (bI ((bAt x D s t).isSome))), (0, .ref mo), (1, .int (iI (((k : Nat) : Int)))), (2, .int (iI (((s : Nat) : Int)))), (3, .int (iI ((((nQ x).length : Nat) : Int))))] hb 80 7 dX9_bestAt_78 rfl hnL (by decide) rfl ?_
          refine r_iload hb 82 dX9_bestAt_80 rfl 1 rfl ?_
          refine r_iload_n hb 83 dX9_bestAt_82 rfl 6 rfl ?_
          refine r_iconst hb 84 dX9_bestAt_83 rfl ?_
          refine r_isubZ hb 85 ((((nQ x).length : Nat) : Int) - 3) dX9_bestAt_84 rfl (by omega) ?_
          refine r_icmp_lt hb 88 117 dX9_bestAt_85 rfl (by decide) (by omega) (by omega) (fun c85 => ?_) (fun c85 => ?_)
          · refine r_iinc [(5, .int (iI (((t : Nat) : Int) + 2))), (6, .int (iI ((scN x D s (s + (t + 1)) (edK (nQ x) D s (t + 1) (nQ x).length))))), (4, .int (bI ((bAt x D s t).isSome))), (0, .ref mo), (1, .int (iI (((k : Nat) : Int)))), (2, .int (iI (((s : Nat) : Int)))), (3, .int (iI ((((nQ x).length : Nat) : Int))))] hb 120 7 1 dX9_bestAt_117 rfl rfl hnL (by decide) (((t : Nat) : Int) + 2) (by omega) rfl ?_
            refine r_goto hb 23 dX9_bestAt_120 (by decide) ?_
            have ht1 : t + 1 ≤ min ((nQ x).length + 3) (D.length - s) := by omega
            have e := bAt_short (x := x) (D := D) (s := s) (k := t) (by omega)
            refine r_lv [(5, .int (iI (((t + 1 : Nat) : Int) + 1))), (4, .int (bI ((bAt x D s (t + 1)).isSome))), (0, .ref mo), (1, .int (iI (((k : Nat) : Int)))), (2, .int (iI (((s : Nat) : Int)))), (3, .int (iI ((((nQ x).length : Nat) : Int))))] [0, 2, 3, 4, 5, 6] (by rw [e]; rfl) ?_
            refine ih_lp (min ((nQ x).length + 3) (D.length - s) - (t + 1)) (by omega) (t + 1) _ rgi _ rfl ht1 mc vc lc hl ?_ ?_ (hO.trans (off_r ow_59 (by omega) (by omega) _ _))
            · exact hF
            · intro p hp; rw [e] at hp; exact hT p hp
          · refine r_iload hb 90 dX9_bestAt_88 rfl 2 rfl ?_
            refine r_ifb_eq hb 93 102 dX9_bestAt_90 rfl (by decide) (fun c90 => ?_) (fun c90 => ?_)
            · refine r_aload_n hb 103 dX9_bestAt_102 rfl 3 rfl ?_
              refine r_iload hb 105 dX9_bestAt_103 rfl 0 rfl ?_
              refine r_put hb ho 108 dX9_bestAt_105 rfl lk_X9_115 pf_X9_10 mc (Nat.le_of_ble_eq_true rfl) ⟨rfl, rfl⟩ (fun w_105 hw_105 => ?_)
              have ow_105 := pset_off hw_105
              have xw_105 : w_105 mo = some (eO 9 [.ref (mo + 1), .ref (mo + 2), .ref (mo + 3), .int (iI ((rgi 3))), .ref (mo + 4), .ref (mo + 5), .int (iI ((rgi 6))), .ref (mo + 6), .int (iI ((rgi 8))), .ref (mo + 7), .int (iI ((scN x D s (s + (t + 1)) (edK (nQ x) D s (t + 1) (nQ x).length)))), .int (iI ((rgi 11))), .int (iI ((rgi 12))), .int (iI ((rgi 13))), .int (iI ((rgi 14))), .ref (mo + 8), .int (iI ((rgi 16))), .ref (mo + 9), .ref (mo + 10), .ref (mo + 11)]) := by rw [hw_105]; exact pset_eq _ _ _
              have lc : w_105 (mo + 7) = some (eI 17 (fun ii => iI ((lnw_59 ii : Nat) : Int))) := (ow_105 _ (by omega)).trans lc
              have vc : w_105 (mo + 1) = some (eI 483 g) := (ow_105 _ (by omega)).trans vc
              refine r_aload_n hb 109 dX9_bestAt_108 rfl 3 rfl ?_
              refine r_iload hb 111 dX9_bestAt_109 rfl 1 rfl ?_
              refine r_put hb ho 114 dX9_bestAt_111 rfl lk_X9_118 pf_X9_11 xw_105 (Nat.le_of_ble_eq_true rfl) ⟨rfl, rfl⟩ (fun w_111 hw_111 => ?_)
              have ow_111 := pset_off hw_111
              have xw_111 : w_111 mo = some (eO 9 [.ref (mo + 1), .ref (mo + 2), .ref (mo + 3), .int (iI ((rgi 3))), .ref (mo + 4), .ref (mo + 5), .int (iI ((rgi 6))), .ref (mo + 6), .int (iI ((rgi 8))), .ref (mo + 7), .int (iI ((scN x D s (s + (t + 1)) (edK (nQ x) D s (t + 1) (nQ x).length)))), .int (iI (((t : Nat) : Int) + 1)), .int (iI ((rgi 12))), .int (iI ((rgi 13))), .int (iI ((rgi 14))), .ref (mo + 8), .int (iI ((rgi 16))), .ref (mo + 9), .ref (mo + 10), .ref (mo + 11)]) := by rw [hw_111]; exact pset_eq _ _ _
              have lc : w_111 (mo + 7) = some (eI 17 (fun ii => iI ((lnw_59 ii : Nat) : Int))) := (ow_111 _ (by omega)).trans lc
              have vc : w_111 (mo + 1) = some (eI 483 g) := (ow_111 _ (by omega)).trans vc
              refine r_iconst hb 115 dX9_bestAt_114 rfl ?_
              refine r_istore [(4, .int (iI 1)), (6, .int (iI ((scN x D s (s + (t + 1)) (edK (nQ x) D s (t + 1) (nQ x).length))))), (5, .int (iI (((t : Nat) : Int) + 1))), (0, .ref mo), (1, .int (iI (((k : Nat) : Int)))), (2, .int (iI (((s : Nat) : Int)))), (3, .int (iI ((((nQ x).length : Nat) : Int))))] hb 117 7 dX9_bestAt_115 rfl hnL (by decide) rfl ?_
              refine r_iinc [(5, .int (iI (((t : Nat) : Int) + 2))), (4, .int (iI 1)), (6, .int (iI ((scN x D s (s + (t + 1)) (edK (nQ x) D s (t + 1) (nQ x).length))))), (0, .ref mo), (1, .int (iI (((k : Nat) : Int)))), (2, .int (iI (((s : Nat) : Int)))), (3, .int (iI ((((nQ x).length : Nat) : Int))))] hb 120 7 2 dX9_bestAt_117 rfl rfl hnL (by decide) (((t : Nat) : Int) + 2) (by omega) rfl ?_
              refine r_goto hb 23 dX9_bestAt_120 (by decide) ?_
              have ht1 : t + 1 ≤ min ((nQ x).length + 3) (D.length - s) := by omega
              have hn : bAt x D s t = none := by cases h : bAt x D s t with
                | none => rfl
                | some p => rw [h] at c90; simp at c90
              have hg : gI (bAt x D s t) = -1005 := by rw [hn]; rfl
              have e := bAt_up (D := D) (s := s) (k := t) hx (by omega) (by omega) (by omega) (by omega)
              refine r_lv [(5, .int (iI (((t + 1 : Nat) : Int) + 1))), (4, .int (bI ((bAt x D s (t + 1)).isSome))), (0, .ref mo), (1, .int (iI (((k : Nat) : Int)))), (2, .int (iI (((s : Nat) : Int)))), (3, .int (iI ((((nQ x).length : Nat) : Int))))] [0, 1, 3, 4, 5, 6] (by rw [e]; rfl) ?_
              refine ih_lp (min ((nQ x).length + 3) (D.length - s) - (t + 1)) (by omega) (t + 1) _ (updZ (updZ rgi 10 (scN x D s (s + (t + 1)) (edK (nQ x) D s (t + 1) (nQ x).length))) 11 ((t : Int) + 1)) _ rfl ht1 xw_111 vc lc hl ?_ ?_ (((hO.trans (off_r ow_59 (by omega) (by omega) _ _)).trans (off_l ow_105 (by omega) (by omega) _ _)).trans (off_l ow_111 (by omega) (by omega) _ _))
              · intro i hi; rw [updZ_n _ _ (by omega), updZ_n _ _ (by omega)]; exact hF i hi
              · intro p hp; rw [e] at hp; cases hp; exact ⟨rfl, rfl⟩
            · have hg : gI (bAt x D s t) = rgi 10 := by cases h : bAt x D s t with
                | none => rw [h] at c90; exact absurd c90 (by decide)
                | some p => exact (hT p h).1.symm
              refine r_iload hb 95 dX9_bestAt_93 rfl 0 rfl ?_
              refine r_aload_n hb 96 dX9_bestAt_95 rfl 3 rfl ?_
              refine r_get hb ho 99 dX9_bestAt_96 rfl lk_X9_115 pf_X9_10 mc rfl ?_
              refine r_icmp_le hb 102 117 dX9_bestAt_99 rfl (by decide) (by omega) (by omega) (fun c99 => ?_) (fun c99 => ?_)
              · refine r_iinc [(5, .int (iI (((t : Nat) : Int) + 2))), (6, .int (iI ((scN x D s (s + (t + 1)) (edK (nQ x) D s (t + 1) (nQ x).length))))), (4, .int (bI ((bAt x D s t).isSome))), (0, .ref mo), (1, .int (iI (((k : Nat) : Int)))), (2, .int (iI (((s : Nat) : Int)))), (3, .int (iI ((((nQ x).length : Nat) : Int))))] hb 120 7 1 dX9_bestAt_117 rfl rfl hnL (by decide) (((t : Nat) : Int) + 2) (by omega) rfl ?_
                refine r_goto hb 23 dX9_bestAt_120 (by decide) ?_
                have ht1 : t + 1 ≤ min ((nQ x).length + 3) (D.length - s) := by omega
                have e := bAt_keep (D := D) (s := s) (k := t) hx (by omega) (by omega) (by omega) (by omega)
                refine r_lv [(5, .int (iI (((t + 1 : Nat) : Int) + 1))), (4, .int (bI ((bAt x D s (t + 1)).isSome))), (0, .ref mo), (1, .int (iI (((k : Nat) : Int)))), (2, .int (iI (((s : Nat) : Int)))), (3, .int (iI ((((nQ x).length : Nat) : Int))))] [0, 2, 3, 4, 5, 6] (by rw [e]; rfl) ?_
                refine ih_lp (min ((nQ x).length + 3) (D.length - s) - (t + 1)) (by omega) (t + 1) _ rgi _ rfl ht1 mc vc lc hl ?_ ?_ (hO.trans (off_r ow_59 (by omega) (by omega) _ _))
                · exact hF
                · intro p hp; rw [e] at hp; exact hT p hp
              · refine r_aload_n hb 103 dX9_bestAt_102 rfl 3 rfl ?_
                refine r_iload hb 105 dX9_bestAt_103 rfl 0 rfl ?_
                refine r_put hb ho 108 dX9_bestAt_105 rfl lk_X9_115 pf_X9_10 mc (Nat.le_of_ble_eq_true rfl) ⟨rfl, rfl⟩ (fun w_105 hw_105 => ?_)
                have ow_105 := pset_off hw_105
                have xw_105 : w_105 mo = some (eO 9 [.ref (mo + 1), .ref (mo + 2), .ref (mo + 3), .int (iI ((rgi 3))), .ref (mo + 4), .ref (mo + 5), .int (iI ((rgi 6))), .ref (mo + 6), .int (iI ((rgi 8))), .ref (mo + 7), .int (iI ((scN x D s (s + (t + 1)) (edK (nQ x) D s (t + 1) (nQ x).length)))), .int (iI ((rgi 11))), .int (iI ((rgi 12))), .int (iI ((rgi 13))), .int (iI ((rgi 14))), .ref (mo + 8), .int (iI ((rgi 16))), .ref (mo + 9), .ref (mo + 10), .ref (mo + 11)]) := by rw [hw_105]; exact pset_eq _ _ _
                have lc : w_105 (mo + 7) = some (eI 17 (fun ii => iI ((lnw_59 ii : Nat) : Int))) := (ow_105 _ (by omega)).trans lc
                have vc : w_105 (mo + 1) = some (eI 483 g) := (ow_105 _ (by omega)).trans vc
                refine r_aload_n hb 109 dX9_bestAt_108 rfl 3 rfl ?_
                refine r_iload hb 111 dX9_bestAt_109 rfl 1 rfl ?_
                refine r_put hb ho 114 dX9_bestAt_111 rfl lk_X9_118 pf_X9_11 xw_105 (Nat.le_of_ble_eq_true rfl) ⟨rfl, rfl⟩ (fun w_111 hw_111 => ?_)
                have ow_111 := pset_off hw_111
                have xw_111 : w_111 mo = some (eO 9 [.ref (mo + 1), .ref (mo + 2), .ref (mo + 3), .int (iI ((rgi 3))), .ref (mo + 4), .ref (mo + 5), .int (iI ((rgi 6))), .ref (mo + 6), .int (iI ((rgi 8))), .ref (mo + 7), .int (iI ((scN x D s (s + (t + 1)) (edK (nQ x) D s (t + 1) (nQ x).length)))), .int (iI (((t : Nat) : Int) + 1)), .int (iI ((rgi 12))), .int (iI ((rgi 13))), .int (iI ((rgi 14))), .ref (mo + 8), .int (iI ((rgi 16))), .ref (mo + 9), .ref (mo + 10), .ref (mo + 11)]) := by rw [hw_111]; exact pset_eq _ _ _
                have lc : w_111 (mo + 7) = some (eI 17 (fun ii => iI ((lnw_59 ii : Nat) : Int))) := (ow_111 _ (by omega)).trans lc
                have vc : w_111 (mo + 1) = some (eI 483 g) := (ow_111 _ (by omega)).trans vc
                refine r_iconst hb 115 dX9_bestAt_114 rfl ?_
                refine r_istore [(4, .int (iI 1)), (6, .int (iI ((scN x D s (s + (t + 1)) (edK (nQ x) D s (t + 1) (nQ x).length))))), (5, .int (iI (((t : Nat) : Int) + 1))), (0, .ref mo), (1, .int (iI (((k : Nat) : Int)))), (2, .int (iI (((s : Nat) : Int)))), (3, .int (iI ((((nQ x).length : Nat) : Int))))] hb 117 7 dX9_bestAt_115 rfl hnL (by decide) rfl ?_
                refine r_iinc [(5, .int (iI (((t : Nat) : Int) + 2))), (4, .int (iI 1)), (6, .int (iI ((scN x D s (s + (t + 1)) (edK (nQ x) D s (t + 1) (nQ x).length))))), (0, .ref mo), (1, .int (iI (((k : Nat) : Int)))), (2, .int (iI (((s : Nat) : Int)))), (3, .int (iI ((((nQ x).length : Nat) : Int))))] hb 120 7 2 dX9_bestAt_117 rfl rfl hnL (by decide) (((t : Nat) : Int) + 2) (by omega) rfl ?_
                refine r_goto hb 23 dX9_bestAt_120 (by decide) ?_
                have ht1 : t + 1 ≤ min ((nQ x).length + 3) (D.length - s) := by omega
                have e := bAt_up (D := D) (s := s) (k := t) hx (by omega) (by omega) (by omega) (by omega)
                refine r_lv [(5, .int (iI (((t + 1 : Nat) : Int) + 1))), (4, .int (bI ((bAt x D s (t + 1)).isSome))), (0, .ref mo), (1, .int (iI (((k : Nat) : Int)))), (2, .int (iI (((s : Nat) : Int)))), (3, .int (iI ((((nQ x).length : Nat) : Int))))] [0, 1, 3, 4, 5, 6] (by rw [e]; rfl) ?_
                refine ih_lp (min ((nQ x).length + 3) (D.length - s) - (t + 1)) (by omega) (t + 1) _ (updZ (updZ rgi 10 (scN x D s (s + (t + 1)) (edK (nQ x) D s (t + 1) (nQ x).length))) 11 ((t : Int) + 1)) _ rfl ht1 xw_111 vc lc hl ?_ ?_ (((hO.trans (off_r ow_59 (by omega) (by omega) _ _)).trans (off_l ow_105 (by omega) (by omega) _ _)).trans (off_l ow_111 (by omega) (by omega) _ _))
                · intro i hi; rw [updZ_n _ _ (by omega), updZ_n _ _ (by omega)]; exact hF i hi
                · intro p hp; rw [e] at hp; cases hp; exact ⟨rfl, rfl⟩
  refine r_lv [(5, .int (iI (((0 : Nat) : Int) + 1))), (4, .int (bI ((bAt x D s 0).isSome))), (0, .ref mo), (1, .int (iI (((k : Nat) : Int)))), (2, .int (iI (((s : Nat) : Int)))), (3, .int (iI ((((nQ x).length : Nat) : Int))))] [0, 1, 3, 4, 5, 2] rfl ?_
  refine lp _ 0 _ _ _ rfl (Nat.zero_le _) mc vc lc ?_ (fun i _ => rfl) (fun p hp => by cases hp) (off_r ow_17 (by omega) (by omega) _ _)
  intro q hq; rw [hl q hq]; rfl

abbrev rm_X9_findBest : Room := { frames := 4, cells := 0, slots := 0, locals := 96 }
set_option maxHeartbeats 4000000 in
set_option maxRecDepth 100000 in
theorem c_X9_findBest (mo : Nat) (rg : Nat → Int) (g : Nat → Int32) (ln : Nat → Nat) (D : List Int32) (k : Nat) (x : Nt) {w : PW} {n : Nat} (mc : w mo = some (mE mo rg)) (vc : w (mo + 1) = some (eI 483 g)) (lc : w (mo + 7) = some (eI 17 (fun ii => iI ((ln ii : Nat) : Int)))) (hD : vdp g D) (hN : vnt g (123 + 36 * k) x) (hk : k < 10) (hx : nOk x) : Ct1 yX9_findBest cX9_findBest 4 (some .boolean) rm_X9_findBest [.ref mo, .int (iI (((k : Nat) : Int)))] w n (fun v w1 n1 => v = .int (bI (fB x D).isSome) ∧ n = n1 ∧ (∃ rg1 : Nat → Int, w1 mo = some (mE mo rg1) ∧ (∀ i, i < 10 ∨ 15 ≤ i → rg1 i = rg i) ∧ ∀ r, fB x D = some r → rg1 12 = r.1 ∧ rg1 13 = ((r.2.1 : Nat) : Int) ∧ rg1 14 = ((r.2.2 : Nat) : Int)) ∧ (∃ ln1 : Nat → Nat, w1 (mo + 7) = some (eI 17 (fun ii => iI ((ln1 ii : Nat) : Int)))) ∧ off2 w w1 mo (mo + 1) (mo + 7) (mo + 8)) := by
  obtain ⟨n0, n1, n2, n3, n4, n5, n6, n7, n8, n9, n10, n11, n12, n13⟩ := id (hN)
  have hDl := hD.2.2
  refine Ctr.of rfl (Nat.le_of_ble_eq_true rfl) fun S hS => ?_
  have hb : S.1.1 = cX9_findBest := by rw [hS]; rfl
  have ho : S.1.2.1 = RX9 := by rw [hS]; rfl
  have hnL : S.1.2.2.1 = 4 := by rw [hS]; rfl
  have hR0 : S.2.1 = rm_X9_findBest := by rw [hS]; rfl
  show Wp S 0 [(0, .ref mo), (1, .int (iI (((k : Nat) : Int))))] [] w n 0 0
  refine r_iconst hb 1 dX9_findBest_0 rfl ?_
  refine r_istore_n [(2, .int (iI 0)), (0, .ref mo), (1, .int (iI (((k : Nat) : Int))))] hb 2 4 dX9_findBest_1 rfl rfl hnL (by decide) rfl ?_
  refine r_iconst hb 3 dX9_findBest_2 rfl ?_
  refine r_istore_n [(3, .int (iI 0)), (2, .int (iI 0)), (0, .ref mo), (1, .int (iI (((k : Nat) : Int))))] hb 4 4 dX9_findBest_3 rfl rfl hnL (by decide) rfl ?_
  have lp : ∀ (d : Nat) (s : Nat) (wi : PW) (rgi : Nat → Int) (li : Nat → Nat), D.length - s = d → (s ≤ D.length) → (wi mo = some (mE mo rgi)) → (wi (mo + 1) = some (eI 483 g)) → (wi (mo + 7) = some (eI 17 (fun ii => iI ((li ii : Nat) : Int)))) → (∀ i, i < 10 ∨ 15 ≤ i → rgi i = rg i) → (∀ r, fBt x D s = some r → rgi 12 = r.1 ∧ rgi 13 = ((r.2.1 : Nat) : Int) ∧ rgi 14 = ((r.2.2 : Nat) : Int)) → (off2 w wi (mo) (mo + 1) (mo + 7) (mo + 8)) → Wp S 4 [(3, .int (iI (((s : Nat) : Int)))), (2, .int (bI ((fBt x D s).isSome))), (0, .ref mo), (1, .int (iI (((k : Nat) : Int))))] [] wi n 0 0 := by
    intro d
    induction d using Nat.strongRecOn with
    | _ d ih_lp =>
      intro s wi rgi li hd_lp hs mc vc lc hF hB hO
      have hgb := gB0_bd hx D (s := s) (by omega)
      have hga := gI_bd hx D (s := s) (by omega)
      refine r_iload_n hb 5 dX9_findBest_4 rfl 0 rfl ?_
      refine r_aload_n hb 6 dX9_findBest_5 rfl 2 rfl ?_
      refine r_get hb ho 9 dX9_findBest_6 rfl lk_X9_7 pf_X9_0 mc rfl ?_
      refine r_iconst hb 10 dX9_findBest_9 rfl ?_
      refine r_iald hb 11 dX9_findBest_10 rfl vc 0 (by omega) (⟨by omega, by omega⟩) ?_
      refine r_topz ((((D).length : Nat) : Int)) (hD.1) ?_
      refine r_icmp_ge hb 14 67 dX9_findBest_11 rfl (by decide) (by omega) (by omega) (fun c11 => ?_) (fun c11 => ?_)
      · refine r_iload_n hb 68 dX9_findBest_67 rfl 1 rfl ?_
        refine r_iret hS dX9_findBest_68 rfl (bI_nar _) (Nat.zero_le _) (Nat.zero_le _) ?_
        have es : s = D.length := by omega
        subst es
        exact ⟨_, rfl, rfl, rfl, ⟨rgi, mc, hF, hB⟩, ⟨_, lc⟩, hO⟩
      · refine r_aload_n hb 15 dX9_findBest_14 rfl 2 rfl ?_
        refine r_iload_n hb 16 dX9_findBest_15 rfl 3 rfl ?_
        refine r_iload_n hb 17 dX9_findBest_16 rfl 0 rfl ?_
        refine r_callV1 (st := []) hb ho 20 dX9_findBest_17 rfl ck_X9_121 (c_X9_bestAt mo rgi g li D k x s mc vc lc hD hN hk (by omega) hx) rfl rfl (mc) rfl rfl (by rw [hR0]; exact ⟨Nat.le_of_ble_eq_true rfl, Nat.le_of_ble_eq_true rfl⟩) (Nat.le_of_ble_eq_true rfl) ⟨rfl, rfl⟩ (by rw [hR0]; exact Nat.zero_le _) (by rw [hR0]; exact Nat.zero_le _) (fun vw_17 w_17 nw_17 qw_17 => ?_)
        obtain ⟨rfl, rfl, ⟨rgj, mc, hF2, hT⟩, ⟨lj, lc⟩, ow_17⟩ := qw_17
        have vc : w_17 (mo + 1) = some (eI 483 g) := (ow_17 _ (by omega) (by omega)).trans vc
        refine r_ifb_eq hb 23 61 dX9_findBest_20 rfl (by decide) (fun c20 => ?_) (fun c20 => ?_)
        · refine r_iinc [(3, .int (iI (((s : Nat) : Int) + 1))), (2, .int (bI ((fBt x D s).isSome))), (0, .ref mo), (1, .int (iI (((k : Nat) : Int))))] hb 64 4 0 dX9_findBest_61 rfl rfl hnL (by decide) (((s : Nat) : Int) + 1) (by omega) rfl ?_
          refine r_goto hb 4 dX9_findBest_64 (by decide) ?_
          have e : fBt x D (s + 1) = fBt x D s := by simp only [fBt]; rw [show bA x D s = none from by cases h : bA x D s with
            | none => rfl
            | some p => rw [h] at c20; simp at c20]
          refine r_lv [(3, .int (iI (((s + 1 : Nat) : Int)))), (2, .int (bI ((fBt x D (s + 1)).isSome))), (0, .ref mo), (1, .int (iI (((k : Nat) : Int))))] [0, 1, 2, 3] (by rw [e]; rfl) ?_
          refine ih_lp (D.length - (s + 1)) (by omega) (s + 1) _ rgj _ rfl (by omega) mc vc lc ?_ ?_ ((hO.trans ow_17))
          · intro i hi; exact (hF2 i (by omega)).trans (hF i hi)
          · intro r hr; rw [e] at hr; rw [hF2 12 (by omega), hF2 13 (by omega), hF2 14 (by omega)]; exact hB r hr
        · have hga1 : gI (bA x D s) = rgj 10 := by cases h : bA x D s with
            | none => rw [h] at c20; exact absurd c20 (by decide)
            | some p => exact (hT p h).1.symm
          have hga2 : -1005 < gI (bA x D s) := by cases h : bA x D s with
            | none => rw [h] at c20; exact absurd c20 (by decide)
            | some p => have hq := bA_bd hx D (by omega) h; show -1005 < p.1; omega
          refine r_iload_n hb 24 dX9_findBest_23 rfl 1 rfl ?_
          refine r_ifb_eq hb 27 38 dX9_findBest_24 rfl (by decide) (fun c24 => ?_) (fun c24 => ?_)
          · refine r_aload_n hb 39 dX9_findBest_38 rfl 2 rfl ?_
            refine r_aload_n hb 40 dX9_findBest_39 rfl 2 rfl ?_
            refine r_get hb ho 43 dX9_findBest_40 rfl lk_X9_115 pf_X9_10 mc rfl ?_
            refine r_put hb ho 46 dX9_findBest_43 rfl lk_X9_125 pf_X9_12 mc (Nat.le_of_ble_eq_true rfl) ⟨rfl, rfl⟩ (fun w_43 hw_43 => ?_)
            have ow_43 := pset_off hw_43
            have xw_43 : w_43 mo = some (eO 9 [.ref (mo + 1), .ref (mo + 2), .ref (mo + 3), .int (iI ((rgj 3))), .ref (mo + 4), .ref (mo + 5), .int (iI ((rgj 6))), .ref (mo + 6), .int (iI ((rgj 8))), .ref (mo + 7), .int (iI ((rgj 10))), .int (iI ((rgj 11))), .int (iI ((rgj 10))), .int (iI ((rgj 13))), .int (iI ((rgj 14))), .ref (mo + 8), .int (iI ((rgj 16))), .ref (mo + 9), .ref (mo + 10), .ref (mo + 11)]) := by rw [hw_43]; exact pset_eq _ _ _
            have lc : w_43 (mo + 7) = some (eI 17 (fun ii => iI ((lj ii : Nat) : Int))) := (ow_43 _ (by omega)).trans lc
            have vc : w_43 (mo + 1) = some (eI 483 g) := (ow_43 _ (by omega)).trans vc
            refine r_aload_n hb 47 dX9_findBest_46 rfl 2 rfl ?_
            refine r_iload_n hb 48 dX9_findBest_47 rfl 0 rfl ?_
            refine r_put hb ho 51 dX9_findBest_48 rfl lk_X9_128 pf_X9_13 xw_43 (Nat.le_of_ble_eq_true rfl) ⟨rfl, rfl⟩ (fun w_48 hw_48 => ?_)
            have ow_48 := pset_off hw_48
            have xw_48 : w_48 mo = some (eO 9 [.ref (mo + 1), .ref (mo + 2), .ref (mo + 3), .int (iI ((rgj 3))), .ref (mo + 4), .ref (mo + 5), .int (iI ((rgj 6))), .ref (mo + 6), .int (iI ((rgj 8))), .ref (mo + 7), .int (iI ((rgj 10))), .int (iI ((rgj 11))), .int (iI ((rgj 10))), .int (iI (((s : Nat) : Int))), .int (iI ((rgj 14))), .ref (mo + 8), .int (iI ((rgj 16))), .ref (mo + 9), .ref (mo + 10), .ref (mo + 11)]) := by rw [hw_48]; exact pset_eq _ _ _
            have lc : w_48 (mo + 7) = some (eI 17 (fun ii => iI ((lj ii : Nat) : Int))) := (ow_48 _ (by omega)).trans lc
            have vc : w_48 (mo + 1) = some (eI 483 g) := (ow_48 _ (by omega)).trans vc
            refine r_aload_n hb 52 dX9_findBest_51 rfl 2 rfl ?_
            refine r_aload_n hb 53 dX9_findBest_52 rfl 2 rfl ?_
            refine r_get hb ho 56 dX9_findBest_53 rfl lk_X9_118 pf_X9_11 xw_48 rfl ?_
            refine r_put hb ho 59 dX9_findBest_56 rfl lk_X9_131 pf_X9_14 xw_48 (Nat.le_of_ble_eq_true rfl) ⟨rfl, rfl⟩ (fun w_56 hw_56 => ?_)
            have ow_56 := pset_off hw_56
            have xw_56 : w_56 mo = some (eO 9 [.ref (mo + 1), .ref (mo + 2), .ref (mo + 3), .int (iI ((rgj 3))), .ref (mo + 4), .ref (mo + 5), .int (iI ((rgj 6))), .ref (mo + 6), .int (iI ((rgj 8))), .ref (mo + 7), .int (iI ((rgj 10))), .int (iI ((rgj 11))), .int (iI ((rgj 10))), .int (iI (((s : Nat) : Int))), .int (iI ((rgj 11))), .ref (mo + 8), .int (iI ((rgj 16))), .ref (mo + 9), .ref (mo + 10), .ref (mo + 11)]) := by rw [hw_56]; exact pset_eq _ _ _
            have lc : w_56 (mo + 7) = some (eI 17 (fun ii => iI ((lj ii : Nat) : Int))) := (ow_56 _ (by omega)).trans lc
            have vc : w_56 (mo + 1) = some (eI 483 g) := (ow_56 _ (by omega)).trans vc
            refine r_iconst hb 60 dX9_findBest_59 rfl ?_
            refine r_istore_n [(2, .int (iI 1)), (3, .int (iI (((s : Nat) : Int)))), (0, .ref mo), (1, .int (iI (((k : Nat) : Int))))] hb 61 4 dX9_findBest_60 rfl rfl hnL (by decide) rfl ?_
            refine r_iinc [(3, .int (iI (((s : Nat) : Int) + 1))), (2, .int (iI 1)), (0, .ref mo), (1, .int (iI (((k : Nat) : Int))))] hb 64 4 1 dX9_findBest_61 rfl rfl hnL (by decide) (((s : Nat) : Int) + 1) (by omega) rfl ?_
            refine r_goto hb 4 dX9_findBest_64 (by decide) ?_
            have hg : gB0 (fBt x D s) = -1005 := by cases h : fBt x D s with
              | none => rfl
              | some p => rw [h] at c24; simp at c24
            obtain ⟨p, e1, e⟩ := fBt_up hx (by omega) (by omega : gB0 (fBt x D s) < gI (bA x D s))
            obtain ⟨t1, t2⟩ := hT p e1
            refine r_lv [(3, .int (iI (((s + 1 : Nat) : Int)))), (2, .int (bI ((fBt x D (s + 1)).isSome))), (0, .ref mo), (1, .int (iI (((k : Nat) : Int))))] [0, 1, 2, 3] (by rw [e]; rfl) ?_
            refine ih_lp (D.length - (s + 1)) (by omega) (s + 1) _ (updZ (updZ (updZ rgj 12 (rgj 10)) 13 ((s : Nat) : Int)) 14 (rgj 11)) _ rfl (by omega) xw_56 vc lc ?_ ?_ ((((hO.trans ow_17).trans (off_l ow_43 (by omega) (by omega) _ _)).trans (off_l ow_48 (by omega) (by omega) _ _)).trans (off_l ow_56 (by omega) (by omega) _ _))
            · intro i hi; rw [updZ_n _ _ (by omega), updZ_n _ _ (by omega), updZ_n _ _ (by omega)]; exact (hF2 i (by omega)).trans (hF i hi)
            · intro r hr; rw [e] at hr; cases hr; exact ⟨t1, rfl, t2⟩
          · have hg : gB0 (fBt x D s) = rgj 12 := by cases h : fBt x D s with
              | none => rw [h] at c24; exact absurd c24 (by decide)
              | some p => rw [hF2 12 (by omega)]; exact (hB p h).1.symm
            refine r_aload_n hb 28 dX9_findBest_27 rfl 2 rfl ?_
            refine r_get hb ho 31 dX9_findBest_28 rfl lk_X9_115 pf_X9_10 mc rfl ?_
            refine r_aload_n hb 32 dX9_findBest_31 rfl 2 rfl ?_
            refine r_get hb ho 35 dX9_findBest_32 rfl lk_X9_125 pf_X9_12 mc rfl ?_
            refine r_icmp_le hb 38 61 dX9_findBest_35 rfl (by decide) (by omega) (by omega) (fun c35 => ?_) (fun c35 => ?_)
            · refine r_iinc [(3, .int (iI (((s : Nat) : Int) + 1))), (2, .int (bI ((fBt x D s).isSome))), (0, .ref mo), (1, .int (iI (((k : Nat) : Int))))] hb 64 4 0 dX9_findBest_61 rfl rfl hnL (by decide) (((s : Nat) : Int) + 1) (by omega) rfl ?_
              refine r_goto hb 4 dX9_findBest_64 (by decide) ?_
              have e := fBt_keep hx (by omega) (by omega : gI (bA x D s) ≤ gB0 (fBt x D s))
              refine r_lv [(3, .int (iI (((s + 1 : Nat) : Int)))), (2, .int (bI ((fBt x D (s + 1)).isSome))), (0, .ref mo), (1, .int (iI (((k : Nat) : Int))))] [0, 1, 2, 3] (by rw [e]; rfl) ?_
              refine ih_lp (D.length - (s + 1)) (by omega) (s + 1) _ rgj _ rfl (by omega) mc vc lc ?_ ?_ ((hO.trans ow_17))
              · intro i hi; exact (hF2 i (by omega)).trans (hF i hi)
              · intro r hr; rw [e] at hr; rw [hF2 12 (by omega), hF2 13 (by omega), hF2 14 (by omega)]; exact hB r hr
            · refine r_aload_n hb 39 dX9_findBest_38 rfl 2 rfl ?_
              refine r_aload_n hb 40 dX9_findBest_39 rfl 2 rfl ?_
              refine r_get hb ho 43 dX9_findBest_40 rfl lk_X9_115 pf_X9_10 mc rfl ?_
              refine r_put hb ho 46 dX9_findBest_43 rfl lk_X9_125 pf_X9_12 mc (Nat.le_of_ble_eq_true rfl) ⟨rfl, rfl⟩ (fun w_43 hw_43 => ?_)
              have ow_43 := pset_off hw_43
              have xw_43 : w_43 mo = some (eO 9 [.ref (mo + 1), .ref (mo + 2), .ref (mo + 3), .int (iI ((rgj 3))), .ref (mo + 4), .ref (mo + 5), .int (iI ((rgj 6))), .ref (mo + 6), .int (iI ((rgj 8))), .ref (mo + 7), .int (iI ((rgj 10))), .int (iI ((rgj 11))), .int (iI ((rgj 10))), .int (iI ((rgj 13))), .int (iI ((rgj 14))), .ref (mo + 8), .int (iI ((rgj 16))), .ref (mo + 9), .ref (mo + 10), .ref (mo + 11)]) := by rw [hw_43]; exact pset_eq _ _ _
              have lc : w_43 (mo + 7) = some (eI 17 (fun ii => iI ((lj ii : Nat) : Int))) := (ow_43 _ (by omega)).trans lc
              have vc : w_43 (mo + 1) = some (eI 483 g) := (ow_43 _ (by omega)).trans vc
              refine r_aload_n hb 47 dX9_findBest_46 rfl 2 rfl ?_
              refine r_iload_n hb 48 dX9_findBest_47 rfl 0 rfl ?_
              refine r_put hb ho 51 dX9_findBest_48 rfl lk_X9_128 pf_X9_13 xw_43 (Nat.le_of_ble_eq_true rfl) ⟨rfl, rfl⟩ (fun w_48 hw_48 => ?_)
              have ow_48 := pset_off hw_48
              have xw_48 : w_48 mo = some (eO 9 [.ref (mo + 1), .ref (mo + 2), .ref (mo + 3), .int (iI ((rgj 3))), .ref (mo + 4), .ref (mo + 5), .int (iI ((rgj 6))), .ref (mo + 6), .int (iI ((rgj 8))), .ref (mo + 7), .int (iI ((rgj 10))), .int (iI ((rgj 11))), .int (iI ((rgj 10))), .int (iI (((s : Nat) : Int))), .int (iI ((rgj 14))), .ref (mo + 8), .int (iI ((rgj 16))), .ref (mo + 9), .ref (mo + 10), .ref (mo + 11)]) := by rw [hw_48]; exact pset_eq _ _ _
              have lc : w_48 (mo + 7) = some (eI 17 (fun ii => iI ((lj ii : Nat) : Int))) := (ow_48 _ (by omega)).trans lc
              have vc : w_48 (mo + 1) = some (eI 483 g) := (ow_48 _ (by omega)).trans vc
              refine r_aload_n hb 52 dX9_findBest_51 rfl 2 rfl ?_
              refine r_aload_n hb 53 dX9_findBest_52 rfl 2 rfl ?_
              refine r_get hb ho 56 dX9_findBest_53 rfl lk_X9_118 pf_X9_11 xw_48 rfl ?_
              refine r_put hb ho 59 dX9_findBest_56 rfl lk_X9_131 pf_X9_14 xw_48 (Nat.le_of_ble_eq_true rfl) ⟨rfl, rfl⟩ (fun w_56 hw_56 => ?_)
              have ow_56 := pset_off hw_56
              have xw_56 : w_56 mo = some (eO 9 [.ref (mo + 1), .ref (mo + 2), .ref (mo + 3), .int (iI ((rgj 3))), .ref (mo + 4), .ref (mo + 5), .int (iI ((rgj 6))), .ref (mo + 6), .int (iI ((rgj 8))), .ref (mo + 7), .int (iI ((rgj 10))), .int (iI ((rgj 11))), .int (iI ((rgj 10))), .int (iI (((s : Nat) : Int))), .int (iI ((rgj 11))), .ref (mo + 8), .int (iI ((rgj 16))), .ref (mo + 9), .ref (mo + 10), .ref (mo + 11)]) := by rw [hw_56]; exact pset_eq _ _ _
              have lc : w_56 (mo + 7) = some (eI 17 (fun ii => iI ((lj ii : Nat) : Int))) := (ow_56 _ (by omega)).trans lc
              have vc : w_56 (mo + 1) = some (eI 483 g) := (ow_56 _ (by omega)).trans vc
              refine r_iconst hb 60 dX9_findBest_59 rfl ?_
              refine r_istore_n [(2, .int (iI 1)), (3, .int (iI (((s : Nat) : Int)))), (0, .ref mo), (1, .int (iI (((k : Nat) : Int))))] hb 61 4 dX9_findBest_60 rfl rfl hnL (by decide) rfl ?_
              refine r_iinc [(3, .int (iI (((s : Nat) : Int) + 1))), (2, .int (iI 1)), (0, .ref mo), (1, .int (iI (((k : Nat) : Int))))] hb 64 4 1 dX9_findBest_61 rfl rfl hnL (by decide) (((s : Nat) : Int) + 1) (by omega) rfl ?_
              refine r_goto hb 4 dX9_findBest_64 (by decide) ?_
              obtain ⟨p, e1, e⟩ := fBt_up hx (by omega) (by omega : gB0 (fBt x D s) < gI (bA x D s))
              obtain ⟨t1, t2⟩ := hT p e1
              refine r_lv [(3, .int (iI (((s + 1 : Nat) : Int)))), (2, .int (bI ((fBt x D (s + 1)).isSome))), (0, .ref mo), (1, .int (iI (((k : Nat) : Int))))] [0, 1, 2, 3] (by rw [e]; rfl) ?_
              refine ih_lp (D.length - (s + 1)) (by omega) (s + 1) _ (updZ (updZ (updZ rgj 12 (rgj 10)) 13 ((s : Nat) : Int)) 14 (rgj 11)) _ rfl (by omega) xw_56 vc lc ?_ ?_ ((((hO.trans ow_17).trans (off_l ow_43 (by omega) (by omega) _ _)).trans (off_l ow_48 (by omega) (by omega) _ _)).trans (off_l ow_56 (by omega) (by omega) _ _))
              · intro i hi; rw [updZ_n _ _ (by omega), updZ_n _ _ (by omega), updZ_n _ _ (by omega)]; exact (hF2 i (by omega)).trans (hF i hi)
              · intro r hr; rw [e] at hr; cases hr; exact ⟨t1, rfl, t2⟩
  refine r_lv [(3, .int (iI (((0 : Nat) : Int)))), (2, .int (bI ((fBt x D 0).isSome))), (0, .ref mo), (1, .int (iI (((k : Nat) : Int))))] [0, 1, 2, 3] rfl ?_
  exact lp _ 0 _ _ _ rfl (Nat.zero_le _) mc vc lc (fun i _ => rfl) (fun p hp => by cases hp) (off2.rfl' _ _ _ _ _)

abbrev rm_X9_attaches : Room := { frames := 1, cells := 0, slots := 0, locals := 21 }
set_option maxHeartbeats 4000000 in
set_option maxRecDepth 100000 in
theorem c_X9_attaches (mo : Nat) (rg : Nat → Int) (g : Nat → Int32) (k : Nat) (x : Nt) (s m : Nat) {w : PW} {n : Nat} (mc : w mo = some (mE mo rg)) (vc : w (mo + 1) = some (eI 483 g)) (hN : vnt g (123 + 36 * k) x) (hk : k < 10) (hs : s + m ≤ 200) : Ct0 yX9_attaches cX9_attaches 4 none rm_X9_attaches [.ref mo, .int (iI (((k : Nat) : Int))), .int (iI (((s : Nat) : Int))), .int (iI (((m : Nat) : Int)))] w n (fun w1 n1 => n = n1 ∧ (∃ g1, w1 (mo + 1) = some (eI 483 g1) ∧ vnt g1 (123 + 36 * k) (atN s (s + m) x) ∧ ∀ q, q < 123 + 36 * k ∨ 123 + 36 * k + 36 ≤ q → g1 q = g q) ∧ off w w1 (mo + 1) (mo + 2)) := by
  obtain ⟨n0, n1, n2, n3, n4, n5, n6, n7, n8, n9, n10, n11, n12, n13⟩ := id (hN)
  refine Ctr.of rfl (Nat.le_of_ble_eq_true rfl) fun S hS => ?_
  have hb : S.1.1 = cX9_attaches := by rw [hS]; rfl
  have ho : S.1.2.1 = RX9 := by rw [hS]; rfl
  have hnL : S.1.2.2.1 = 4 := by rw [hS]; rfl
  have hR0 : S.2.1 = rm_X9_attaches := by rw [hS]; rfl
  show Wp S 0 [(0, .ref mo), (1, .int (iI (((k : Nat) : Int)))), (2, .int (iI (((s : Nat) : Int)))), (3, .int (iI (((m : Nat) : Int))))] [] w n 0 0
  refine r_aload_n hb 1 dX9_attaches_0 rfl 0 rfl ?_
  refine r_get hb ho 4 dX9_attaches_1 rfl lk_X9_7 pf_X9_0 mc rfl ?_
  refine r_iload_n hb 5 dX9_attaches_4 rfl 1 rfl ?_
  refine r_iconst hb 6 dX9_attaches_5 rfl ?_
  refine r_callSR (st := [.ref (mo + 1)]) hb ho 9 dX9_attaches_6 rfl ck_X9_48 (c_X9_at (((k : Nat) : Int)) 1 (36 * ((k : Nat) : Int) + 124) (by omega)) rfl rfl (by rw [hR0]; exact ⟨Nat.le_of_ble_eq_true rfl, Nat.le_of_ble_eq_true rfl⟩) (Nat.le_of_ble_eq_true rfl) ⟨rfl, rfl⟩ (by rw [hR0]; exact Nat.zero_le _) (by rw [hR0]; exact Nat.zero_le _) ?_
  refine r_iconst hb 10 dX9_attaches_9 rfl ?_
  refine r_iast hb 11 dX9_attaches_10 rfl vc (123 + 36 * k + 1) (by omega) (⟨by omega, by omega⟩) (fun w_10 hw_10 => ?_)
  have ow_10 := pset_off hw_10
  have xw_10 : w_10 (mo + 1) = some (eI 483 (upd g (123 + 36 * k + 1) ((iI 1)))) := by rw [hw_10]; exact pset_eq _ _ _
  have mc : w_10 mo = some (eO 9 [.ref (mo + 1), .ref (mo + 2), .ref (mo + 3), .int (iI ((rg 3))), .ref (mo + 4), .ref (mo + 5), .int (iI ((rg 6))), .ref (mo + 6), .int (iI ((rg 8))), .ref (mo + 7), .int (iI ((rg 10))), .int (iI ((rg 11))), .int (iI ((rg 12))), .int (iI ((rg 13))), .int (iI ((rg 14))), .ref (mo + 8), .int (iI ((rg 16))), .ref (mo + 9), .ref (mo + 10), .ref (mo + 11)]) := (ow_10 _ (by omega)).trans mc
  refine r_aload_n hb 12 dX9_attaches_11 rfl 0 rfl ?_
  refine r_get hb ho 15 dX9_attaches_12 rfl lk_X9_7 pf_X9_0 mc rfl ?_
  refine r_iload_n hb 16 dX9_attaches_15 rfl 1 rfl ?_
  refine r_iconst hb 17 dX9_attaches_16 rfl ?_
  refine r_callSR (st := [.ref (mo + 1)]) hb ho 20 dX9_attaches_17 rfl ck_X9_48 (c_X9_at (((k : Nat) : Int)) 2 (36 * ((k : Nat) : Int) + 125) (by omega)) rfl rfl (by rw [hR0]; exact ⟨Nat.le_of_ble_eq_true rfl, Nat.le_of_ble_eq_true rfl⟩) (Nat.le_of_ble_eq_true rfl) ⟨rfl, rfl⟩ (by rw [hR0]; exact Nat.zero_le _) (by rw [hR0]; exact Nat.zero_le _) ?_
  refine r_iload_n hb 21 dX9_attaches_20 rfl 2 rfl ?_
  refine r_iast hb 22 dX9_attaches_21 rfl xw_10 (123 + 36 * k + 2) (by omega) (⟨by omega, by omega⟩) (fun w_21 hw_21 => ?_)
  have ow_21 := pset_off hw_21
  have xw_21 : w_21 (mo + 1) = some (eI 483 (upd (upd g (123 + 36 * k + 1) ((iI 1))) (123 + 36 * k + 2) ((iI (((s : Nat) : Int)))))) := by rw [hw_21]; exact pset_eq _ _ _
  have mc : w_21 mo = some (eO 9 [.ref (mo + 1), .ref (mo + 2), .ref (mo + 3), .int (iI ((rg 3))), .ref (mo + 4), .ref (mo + 5), .int (iI ((rg 6))), .ref (mo + 6), .int (iI ((rg 8))), .ref (mo + 7), .int (iI ((rg 10))), .int (iI ((rg 11))), .int (iI ((rg 12))), .int (iI ((rg 13))), .int (iI ((rg 14))), .ref (mo + 8), .int (iI ((rg 16))), .ref (mo + 9), .ref (mo + 10), .ref (mo + 11)]) := (ow_21 _ (by omega)).trans mc
  refine r_aload_n hb 23 dX9_attaches_22 rfl 0 rfl ?_
  refine r_get hb ho 26 dX9_attaches_23 rfl lk_X9_7 pf_X9_0 mc rfl ?_
  refine r_iload_n hb 27 dX9_attaches_26 rfl 1 rfl ?_
  refine r_iconst hb 28 dX9_attaches_27 rfl ?_
  refine r_callSR (st := [.ref (mo + 1)]) hb ho 31 dX9_attaches_28 rfl ck_X9_48 (c_X9_at (((k : Nat) : Int)) 3 (36 * ((k : Nat) : Int) + 126) (by omega)) rfl rfl (by rw [hR0]; exact ⟨Nat.le_of_ble_eq_true rfl, Nat.le_of_ble_eq_true rfl⟩) (Nat.le_of_ble_eq_true rfl) ⟨rfl, rfl⟩ (by rw [hR0]; exact Nat.zero_le _) (by rw [hR0]; exact Nat.zero_le _) ?_
  refine r_iload_n hb 32 dX9_attaches_31 rfl 2 rfl ?_
  refine r_iload_n hb 33 dX9_attaches_32 rfl 3 rfl ?_
  refine r_iaddZ hb 34 ((((s + m : Nat) : Nat) : Int)) dX9_attaches_33 rfl (by omega) ?_
  refine r_iast hb 35 dX9_attaches_34 rfl xw_21 (123 + 36 * k + 3) (by omega) (⟨by omega, by omega⟩) (fun w_34 hw_34 => ?_)
  have ow_34 := pset_off hw_34
  have xw_34 : w_34 (mo + 1) = some (eI 483 (upd (upd (upd g (123 + 36 * k + 1) ((iI 1))) (123 + 36 * k + 2) ((iI (((s : Nat) : Int))))) (123 + 36 * k + 3) ((iI ((((s + m : Nat) : Nat) : Int)))))) := by rw [hw_34]; exact pset_eq _ _ _
  have mc : w_34 mo = some (eO 9 [.ref (mo + 1), .ref (mo + 2), .ref (mo + 3), .int (iI ((rg 3))), .ref (mo + 4), .ref (mo + 5), .int (iI ((rg 6))), .ref (mo + 6), .int (iI ((rg 8))), .ref (mo + 7), .int (iI ((rg 10))), .int (iI ((rg 11))), .int (iI ((rg 12))), .int (iI ((rg 13))), .int (iI ((rg 14))), .ref (mo + 8), .int (iI ((rg 16))), .ref (mo + 9), .ref (mo + 10), .ref (mo + 11)]) := (ow_34 _ (by omega)).trans mc
  refine r_vret hS dX9_attaches_35 rfl (Nat.zero_le _) (Nat.zero_le _) ?_
  refine ⟨rfl, rfl, ⟨_, xw_34, vnt_head hN (fun i hi hi2 => ?_) ?_ ?_ ?_ ?_ ?_ rfl ⟨n11, by show s ≤ 200; omega, hs⟩, fun q hq => ?_⟩, (((ow_10.mono (by omega) (by omega)).trans (ow_21.mono (by omega) (by omega))).trans (ow_34.mono (by omega) (by omega)))⟩
  · rw [pk_un (by omega), pk_un (by omega), pk_un (by omega)]
  · rw [pk_un (by omega), pk_un (by omega), pk_un (by omega)]; exact n0
  · rw [pk_un (by omega), pk_un (by omega), pk_us]; rfl
  · rw [pk_un (by omega), pk_us]; rfl
  · rw [pk_us]; rfl
  · rw [pk_un (by omega), pk_un (by omega), pk_un (by omega)]; exact n4
  · rw [pk_un (by omega), pk_un (by omega), pk_un (by omega)]
