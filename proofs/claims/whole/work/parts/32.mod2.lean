abbrev rm_X9_startsLine : Room := { frames := 1, cells := 0, slots := 0, locals := 21 }
set_option maxHeartbeats 4000000 in
set_option maxRecDepth 100000 in
theorem c_X9_startsLine (mo : Nat) (rg : Nat → Int) (g : Nat → Int32) (ln : Nat → Nat) (k : Nat) (x : Nt) {w : PW} {n : Nat} (mc : w mo = some (mE mo rg)) (vc : w (mo + 1) = some (eI 483 g)) (lc : w (mo + 7) = some (eI 17 (fun ii => iI ((ln ii : Nat) : Int)))) (hN : vnt g (123 + 36 * k) x) (hk : k < 10) : Ct0 yX9_startsLine cX9_startsLine 3 none rm_X9_startsLine [.ref mo, .int (iI (((k : Nat) : Int)))] w n (fun w1 n1 => n = n1 ∧ (∃ ln1 : Nat → Nat, w1 (mo + 7) = some (eI 17 (fun ii => iI ((ln1 ii : Nat) : Int))) ∧ ∀ j, j ≤ (nQ x).length → ln1 j = j) ∧ off w w1 (mo + 7) (mo + 8)) := by
  obtain ⟨n0, n1, n2, n3, n4, n5, n6, n7, n8, n9, n10, n11, n12, n13⟩ := id (hN)
  refine Ctr.of rfl (Nat.le_of_ble_eq_true rfl) fun S hS => ?_
  have hb : S.1.1 = cX9_startsLine := by rw [hS]; rfl
  have ho : S.1.2.1 = RX9 := by rw [hS]; rfl
  have hnL : S.1.2.2.1 = 3 := by rw [hS]; rfl
  have hR0 : S.2.1 = rm_X9_startsLine := by rw [hS]; rfl
  show Wp S 0 [(0, .ref mo), (1, .int (iI (((k : Nat) : Int))))] [] w n 0 0
  refine r_iconst hb 1 dX9_startsLine_0 rfl ?_
  refine r_istore_n [(2, .int (iI 0)), (0, .ref mo), (1, .int (iI (((k : Nat) : Int))))] hb 2 3 dX9_startsLine_1 rfl rfl hnL (by decide) rfl ?_
  have lp : ∀ (d : Nat) (j : Nat) (wi : PW) (li : Nat → Nat), 17 - j = d → (j ≤ (nQ x).length + 1) → (wi mo = some (mE mo rg)) → (wi (mo + 1) = some (eI 483 g)) → (wi (mo + 7) = some (eI 17 (fun ii => iI ((li ii : Nat) : Int)))) → (∀ q, q < j → li q = q) → (off w wi (mo + 7) (mo + 8)) → Wp S 2 [(2, .int (iI (((j : Nat) : Int)))), (0, .ref mo), (1, .int (iI (((k : Nat) : Int))))] [] wi n 0 0 := by
    intro d
    induction d using Nat.strongRecOn with
    | _ d ih_lp =>
      intro j wi li hd_lp hj mc vc lc h1 hO
      refine r_iload_n hb 3 dX9_startsLine_2 rfl 0 rfl ?_
      refine r_aload_n hb 4 dX9_startsLine_3 rfl 1 rfl ?_
      refine r_get hb ho 7 dX9_startsLine_4 rfl lk_X9_7 pf_X9_0 mc rfl ?_
      refine r_iload_n hb 8 dX9_startsLine_7 rfl 2 rfl ?_
      refine r_bipush 12 hb 10 dX9_startsLine_8 rfl rfl ?_
      refine r_callSR (st := [.ref (mo + 1), .int (iI (((j : Nat) : Int)))]) hb ho 13 dX9_startsLine_10 rfl ck_X9_48 (c_X9_at (((k : Nat) : Int)) 12 (36 * ((k : Nat) : Int) + 135) (by omega)) rfl rfl (by rw [hR0]; exact ⟨Nat.le_of_ble_eq_true rfl, Nat.le_of_ble_eq_true rfl⟩) (Nat.le_of_ble_eq_true rfl) ⟨rfl, rfl⟩ (by rw [hR0]; exact Nat.zero_le _) (by rw [hR0]; exact Nat.zero_le _) ?_
      refine r_iald hb 14 dX9_startsLine_13 rfl vc (123 + 36 * k + 12) (by omega) (⟨by omega, by omega⟩) ?_
      refine r_topz ((((nQ (x)).length : Nat) : Int)) (n6.1) ?_
      refine r_icmp_gt hb 17 30 dX9_startsLine_14 rfl (by decide) (by omega) (by omega) (fun c14 => ?_) (fun c14 => ?_)
      · refine r_vret hS dX9_startsLine_30 rfl (Nat.zero_le _) (Nat.zero_le _) ?_
        exact ⟨rfl, rfl, ⟨li, lc, fun q hq => h1 q (by omega)⟩, hO⟩
      · refine r_aload_n hb 18 dX9_startsLine_17 rfl 1 rfl ?_
        refine r_get hb ho 21 dX9_startsLine_18 rfl lk_X9_33 pf_X9_9 mc rfl ?_
        refine r_iload_n hb 22 dX9_startsLine_21 rfl 0 rfl ?_
        refine r_iload_n hb 23 dX9_startsLine_22 rfl 0 rfl ?_
        refine r_iastN (x := j) (by omega) hb 24 dX9_startsLine_23 rfl lc j (by omega) (⟨by omega, by omega⟩) (fun w_23 hw_23 => ?_)
        have ow_23 := pset_off hw_23
        have xw_23 : w_23 (mo + 7) = some (eI 17 (fun ii => iI (((updN li j j) ii : Nat) : Int))) := by rw [hw_23]; exact pset_eq _ _ _
        have mc : w_23 mo = some (eO 9 [.ref (mo + 1), .ref (mo + 2), .ref (mo + 3), .int (iI ((rg 3))), .ref (mo + 4), .ref (mo + 5), .int (iI ((rg 6))), .ref (mo + 6), .int (iI ((rg 8))), .ref (mo + 7), .int (iI ((rg 10))), .int (iI ((rg 11))), .int (iI ((rg 12))), .int (iI ((rg 13))), .int (iI ((rg 14))), .ref (mo + 8), .int (iI ((rg 16))), .ref (mo + 9), .ref (mo + 10), .ref (mo + 11)]) := (ow_23 _ (by omega)).trans mc
        have vc : w_23 (mo + 1) = some (eI 483 g) := (ow_23 _ (by omega)).trans vc
        refine r_iinc [(2, .int (iI (((j : Nat) : Int) + 1))), (0, .ref mo), (1, .int (iI (((k : Nat) : Int))))] hb 27 3 0 dX9_startsLine_24 rfl rfl hnL (by decide) (((j : Nat) : Int) + 1) (by omega) rfl ?_
        refine r_goto hb 2 dX9_startsLine_27 (by decide) ?_
        refine r_lv [(2, .int (iI (((j + 1 : Nat) : Int)))), (0, .ref mo), (1, .int (iI (((k : Nat) : Int))))] [0, 1, 2] rfl ?_
        refine ih_lp (17 - (j + 1)) (by omega) (j + 1) _ _ rfl (by omega) mc vc xw_23 ?_ (hO.trans (ow_23.mono (by omega) (by omega)))
        intro q hq
        by_cases e : q = j
        · subst e; exact updN_s _ _ _
        · rw [updN_n _ _ e]; exact h1 q (by omega)
  refine r_lv [(2, .int (iI (((0 : Nat) : Int)))), (0, .ref mo), (1, .int (iI (((k : Nat) : Int))))] [0, 1, 2] rfl ?_
  exact lp _ 0 _ ln rfl (Nat.zero_le _) mc vc lc (fun q hq => absurd hq (Nat.not_lt_zero _)) (off.rfl' _ _ _)

abbrev rm_X9_goesOn : Room := { frames := 1, cells := 0, slots := 0, locals := 21 }
set_option maxHeartbeats 4000000 in
set_option maxRecDepth 100000 in
theorem c_X9_goesOn (mo : Nat) (rg : Nat → Int) (g : Nat → Int32) (ln r : Nat → Nat) (k : Nat) (x : Nt) (c : Int32) {w : PW} {n : Nat} (mc : w mo = some (mE mo rg)) (vc : w (mo + 1) = some (eI 483 g)) (lc : w (mo + 7) = some (eI 17 (fun ii => iI ((ln ii : Nat) : Int)))) (hN : vnt g (123 + 36 * k) x) (hk : k < 10) (hl : ∀ j, j ≤ (nQ x).length → ln j = r j) (hr : ∀ j, j ≤ (nQ x).length → r j ≤ 1000) : Ct0 yX9_goesOn cX9_goesOn 6 none rm_X9_goesOn [.ref mo, .int (iI (((k : Nat) : Int))), .int c] w n (fun w1 n1 => n = n1 ∧ (∃ ln1 : Nat → Nat, w1 (mo + 7) = some (eI 17 (fun ii => iI ((ln1 ii : Nat) : Int))) ∧ ∀ j, j ≤ (nQ x).length → ln1 j = rowS (nQ x) c r j) ∧ off w w1 (mo + 7) (mo + 8)) := by
  obtain ⟨n0, n1, n2, n3, n4, n5, n6, n7, n8, n9, n10, n11, n12, n13⟩ := id (hN)
  refine Ctr.of rfl (Nat.le_of_ble_eq_true rfl) fun S hS => ?_
  have hb : S.1.1 = cX9_goesOn := by rw [hS]; rfl
  have ho : S.1.2.1 = RX9 := by rw [hS]; rfl
  have hnL : S.1.2.2.1 = 6 := by rw [hS]; rfl
  have hR0 : S.2.1 = rm_X9_goesOn := by rw [hS]; rfl
  show Wp S 0 [(0, .ref mo), (1, .int (iI (((k : Nat) : Int)))), (2, .int c)] [] w n 0 0
  refine r_aload_n hb 1 dX9_goesOn_0 rfl 0 rfl ?_
  refine r_get hb ho 4 dX9_goesOn_1 rfl lk_X9_33 pf_X9_9 mc rfl ?_
  refine r_iconst hb 5 dX9_goesOn_4 rfl ?_
  refine r_ialdN hb 6 dX9_goesOn_5 rfl lc 0 (by omega) (⟨by omega, by omega⟩) ?_
  refine r_topv (.int (iI (((r 0 : Nat) : Int)))) (by rw [hl 0 (Nat.zero_le _)]) ?_
  refine r_istore_n [(3, .int (iI (((r 0 : Nat) : Int)))), (0, .ref mo), (1, .int (iI (((k : Nat) : Int)))), (2, .int c)] hb 7 6 dX9_goesOn_6 rfl rfl hnL (by decide) rfl ?_
  refine r_aload_n hb 8 dX9_goesOn_7 rfl 1 rfl ?_
  refine r_get hb ho 11 dX9_goesOn_8 rfl lk_X9_33 pf_X9_9 mc rfl ?_
  refine r_iconst hb 12 dX9_goesOn_11 rfl ?_
  refine r_dup2 hb 13 dX9_goesOn_12 rfl rfl rfl ?_
  refine r_ialdN hb 14 dX9_goesOn_13 rfl lc 0 (by omega) (⟨by omega, by omega⟩) ?_
  refine r_topv (.int (iI (((r 0 : Nat) : Int)))) (by rw [hl 0 (Nat.zero_le _)]) ?_
  have hr0 := hr 0 (Nat.zero_le _)
  refine r_iconst hb 15 dX9_goesOn_14 rfl ?_
  refine r_iaddZ hb 16 (((r 0 : Nat) : Int) + 1) dX9_goesOn_15 rfl (by omega) ?_
  refine r_iastN (x := (r 0 + 1)) (by omega) hb 17 dX9_goesOn_16 rfl lc 0 (by omega) (⟨by omega, by omega⟩) (fun w_16 hw_16 => ?_)
  have ow_16 := pset_off hw_16
  have xw_16 : w_16 (mo + 7) = some (eI 17 (fun ii => iI (((updN ln 0 (r 0 + 1)) ii : Nat) : Int))) := by rw [hw_16]; exact pset_eq _ _ _
  have mc : w_16 mo = some (eO 9 [.ref (mo + 1), .ref (mo + 2), .ref (mo + 3), .int (iI ((rg 3))), .ref (mo + 4), .ref (mo + 5), .int (iI ((rg 6))), .ref (mo + 6), .int (iI ((rg 8))), .ref (mo + 7), .int (iI ((rg 10))), .int (iI ((rg 11))), .int (iI ((rg 12))), .int (iI ((rg 13))), .int (iI ((rg 14))), .ref (mo + 8), .int (iI ((rg 16))), .ref (mo + 9), .ref (mo + 10), .ref (mo + 11)]) := (ow_16 _ (by omega)).trans mc
  have vc : w_16 (mo + 1) = some (eI 483 g) := (ow_16 _ (by omega)).trans vc
  refine r_iconst hb 18 dX9_goesOn_17 rfl ?_
  refine r_istore [(4, .int (iI 1)), (3, .int (iI (((r 0 : Nat) : Int)))), (0, .ref mo), (1, .int (iI (((k : Nat) : Int)))), (2, .int c)] hb 20 6 dX9_goesOn_18 rfl hnL (by decide) rfl ?_
  have lp : ∀ (d : Nat) (j : Nat) (wi : PW) (li : Nat → Nat), (nQ x).length - j = d → (j ≤ (nQ x).length) → (wi mo = some (mE mo rg)) → (wi (mo + 1) = some (eI 483 g)) → (wi (mo + 7) = some (eI 17 (fun ii => iI ((li ii : Nat) : Int)))) → (∀ q, q ≤ j → li q = rowS (nQ x) c r q) → (∀ q, j < q → q ≤ (nQ x).length → li q = r q) → (off w wi (mo + 7) (mo + 8)) → Wp S 20 [(4, .int (iI (((j : Nat) : Int) + 1))), (3, .int (iI (((r j : Nat) : Int)))), (0, .ref mo), (1, .int (iI (((k : Nat) : Int)))), (2, .int c)] [] wi n 0 0 := by
    intro d
    induction d using Nat.strongRecOn with
    | _ d ih_lp =>
      intro j wi li hd_lp hj mc vc lc hlo hhi hO
      have hrk := hr j hj
      have hsk := rowS_le (nQ x) c r j
      refine r_iload hb 22 dX9_goesOn_20 rfl 0 rfl ?_
      refine r_aload_n hb 23 dX9_goesOn_22 rfl 2 rfl ?_
      refine r_get hb ho 26 dX9_goesOn_23 rfl lk_X9_7 pf_X9_0 mc rfl ?_
      refine r_iload_n hb 27 dX9_goesOn_26 rfl 3 rfl ?_
      refine r_bipush 12 hb 29 dX9_goesOn_27 rfl rfl ?_
      refine r_callSR (st := [.ref (mo + 1), .int (iI (((j : Nat) : Int) + 1))]) hb ho 32 dX9_goesOn_29 rfl ck_X9_48 (c_X9_at (((k : Nat) : Int)) 12 (36 * ((k : Nat) : Int) + 135) (by omega)) rfl rfl (by rw [hR0]; exact ⟨Nat.le_of_ble_eq_true rfl, Nat.le_of_ble_eq_true rfl⟩) (Nat.le_of_ble_eq_true rfl) ⟨rfl, rfl⟩ (by rw [hR0]; exact Nat.zero_le _) (by rw [hR0]; exact Nat.zero_le _) ?_
      refine r_iald hb 33 dX9_goesOn_32 rfl vc (123 + 36 * k + 12) (by omega) (⟨by omega, by omega⟩) ?_
      refine r_topz ((((nQ (x)).length : Nat) : Int)) (n6.1) ?_
      refine r_icmp_gt hb 36 110 dX9_goesOn_33 rfl (by decide) (by omega) (by omega) (fun c33 => ?_) (fun c33 => ?_)
      · refine r_vret hS dX9_goesOn_110 rfl (Nat.zero_le _) (Nat.zero_le _) ?_
        exact ⟨rfl, rfl, ⟨li, lc, fun q hq => hlo q (by omega)⟩, hO⟩
      · refine r_iload_n hb 37 dX9_goesOn_36 rfl 1 rfl ?_
        refine r_aload_n hb 38 dX9_goesOn_37 rfl 2 rfl ?_
        refine r_get hb ho 41 dX9_goesOn_38 rfl lk_X9_7 pf_X9_0 mc rfl ?_
        refine r_iload_n hb 42 dX9_goesOn_41 rfl 3 rfl ?_
        refine r_bipush 12 hb 44 dX9_goesOn_42 rfl rfl ?_
        refine r_iload hb 46 dX9_goesOn_44 rfl 0 rfl ?_
        refine r_iaddZ hb 47 (((j : Nat) : Int) + 13) dX9_goesOn_46 rfl (by omega) ?_
        refine r_callSR (st := [.ref (mo + 1), .int (iI (((r j : Nat) : Int)))]) hb ho 50 dX9_goesOn_47 rfl ck_X9_48 (c_X9_at (((k : Nat) : Int)) (((j : Nat) : Int) + 13) (36 * ((k : Nat) : Int) + ((j : Nat) : Int) + 136) (by omega)) rfl rfl (by rw [hR0]; exact ⟨Nat.le_of_ble_eq_true rfl, Nat.le_of_ble_eq_true rfl⟩) (Nat.le_of_ble_eq_true rfl) ⟨rfl, rfl⟩ (by rw [hR0]; exact Nat.zero_le _) (by rw [hR0]; exact Nat.zero_le _) ?_
        refine r_iald hb 51 dX9_goesOn_50 rfl vc (123 + 36 * k + 12 + 1 + j) (by omega) (⟨by omega, by omega⟩) ?_
        refine r_topv (.int ((nQ (x)).getD j 0)) (congrArg Value.int (n6.2 j (by omega))) ?_
        refine r_iload_n hb 52 dX9_goesOn_51 rfl 4 rfl ?_
        refine r_icmpR_ne hb 55 59 dX9_goesOn_52 rfl (by decide) (fun c52 => ?_) (fun c52 => ?_)
        · refine r_iconst hb 60 dX9_goesOn_59 rfl ?_
          refine r_iaddZ hb 61 (((r j : Nat) : Int) + 1) dX9_goesOn_60 rfl (by omega) ?_
          refine r_istore [(5, .int (iI (((r j : Nat) : Int) + 1))), (4, .int (iI (((j : Nat) : Int) + 1))), (3, .int (iI (((r j : Nat) : Int)))), (0, .ref mo), (1, .int (iI (((k : Nat) : Int)))), (2, .int c)] hb 63 6 dX9_goesOn_61 rfl hnL (by decide) rfl ?_
          refine r_aload_n hb 64 dX9_goesOn_63 rfl 3 rfl ?_
          refine r_get hb ho 67 dX9_goesOn_64 rfl lk_X9_33 pf_X9_9 mc rfl ?_
          refine r_iload hb 69 dX9_goesOn_67 rfl 1 rfl ?_
          refine r_ialdN hb 70 dX9_goesOn_69 rfl lc (j + 1) (by omega) (⟨by omega, by omega⟩) ?_
          refine r_topv (.int (iI (((r (j + 1) : Nat) : Int)))) (by rw [hhi (j + 1) (by omega) (by omega)]) ?_
          have hr1 := hr (j + 1) (by omega)
          refine r_istore_n [(3, .int (iI (((r (j + 1) : Nat) : Int)))), (5, .int (iI (((r j : Nat) : Int) + 1))), (4, .int (iI (((j : Nat) : Int) + 1))), (0, .ref mo), (1, .int (iI (((k : Nat) : Int)))), (2, .int c)] hb 71 6 dX9_goesOn_70 rfl rfl hnL (by decide) rfl ?_
          refine r_aload_n hb 72 dX9_goesOn_71 rfl 3 rfl ?_
          refine r_get hb ho 75 dX9_goesOn_72 rfl lk_X9_33 pf_X9_9 mc rfl ?_
          refine r_iload hb 77 dX9_goesOn_75 rfl 2 rfl ?_
          refine r_iload hb 79 dX9_goesOn_77 rfl 1 rfl ?_
          refine r_iconst hb 80 dX9_goesOn_79 rfl ?_
          refine r_aload_n hb 81 dX9_goesOn_80 rfl 3 rfl ?_
          refine r_get hb ho 84 dX9_goesOn_81 rfl lk_X9_33 pf_X9_9 mc rfl ?_
          refine r_iload hb 86 dX9_goesOn_84 rfl 2 rfl ?_
          refine r_ialdN hb 87 dX9_goesOn_86 rfl lc (j + 1) (by omega) (⟨by omega, by omega⟩) ?_
          refine r_topv (.int (iI (((r (j + 1) : Nat) : Int)))) (by rw [hhi (j + 1) (by omega) (by omega)]) ?_
          refine r_aload_n hb 88 dX9_goesOn_87 rfl 3 rfl ?_
          refine r_get hb ho 91 dX9_goesOn_88 rfl lk_X9_33 pf_X9_9 mc rfl ?_
          refine r_iload hb 93 dX9_goesOn_91 rfl 2 rfl ?_
          refine r_iconst hb 94 dX9_goesOn_93 rfl ?_
          refine r_isubZ hb 95 (((j : Nat) : Int)) dX9_goesOn_94 rfl (by omega) ?_
          refine r_ialdN hb 96 dX9_goesOn_95 rfl lc j (by omega) (⟨by omega, by omega⟩) ?_
          refine r_topv (.int (iI (((rowS (nQ x) c r j : Nat) : Int)))) (by rw [hlo j (by omega)]) ?_
          refine r_callSR (st := [.int (iI 1), .int (iI (((r j : Nat) : Int) + 1)), .int (iI (((j : Nat) : Int) + 1)), .ref (mo + 7)]) hb ho 99 dX9_goesOn_96 rfl ck_X9_69 (c_X9_least (((r (j + 1) : Nat) : Int)) (((rowS (nQ x) c r j : Nat) : Int)) (((min ((r (j + 1))) ((rowS (nQ x) c r j)) : Nat) : Int)) (by omega)) rfl rfl (by rw [hR0]; exact ⟨Nat.le_of_ble_eq_true rfl, Nat.le_of_ble_eq_true rfl⟩) (Nat.le_of_ble_eq_true rfl) ⟨rfl, rfl⟩ (by rw [hR0]; exact Nat.zero_le _) (by rw [hR0]; exact Nat.zero_le _) ?_
          refine r_iaddZ hb 100 (((min ((r (j + 1))) ((rowS (nQ x) c r j)) : Nat) : Int) + 1) dX9_goesOn_99 rfl (by omega) ?_
          refine r_callSR (st := [.int (iI (((j : Nat) : Int) + 1)), .ref (mo + 7)]) hb ho 103 dX9_goesOn_100 rfl ck_X9_69 (c_X9_least (((r j : Nat) : Int) + 1) (((min ((r (j + 1))) ((rowS (nQ x) c r j)) : Nat) : Int) + 1) (((min ((r j) + 1) ((min ((r (j + 1))) ((rowS (nQ x) c r j))) + 1) : Nat) : Int)) (by omega)) rfl rfl (by rw [hR0]; exact ⟨Nat.le_of_ble_eq_true rfl, Nat.le_of_ble_eq_true rfl⟩) (Nat.le_of_ble_eq_true rfl) ⟨rfl, rfl⟩ (by rw [hR0]; exact Nat.zero_le _) (by rw [hR0]; exact Nat.zero_le _) ?_
          refine r_iastN (x := ((min ((r j) + 1) ((min ((r (j + 1))) ((rowS (nQ x) c r j))) + 1)))) (by omega) hb 104 dX9_goesOn_103 rfl lc (j + 1) (by omega) (⟨by omega, by omega⟩) (fun w_103 hw_103 => ?_)
          have ow_103 := pset_off hw_103
          have xw_103 : w_103 (mo + 7) = some (eI 17 (fun ii => iI (((updN li (j + 1) ((min ((r j) + 1) ((min ((r (j + 1))) ((rowS (nQ x) c r j))) + 1)))) ii : Nat) : Int))) := by rw [hw_103]; exact pset_eq _ _ _
          have mc : w_103 mo = some (eO 9 [.ref (mo + 1), .ref (mo + 2), .ref (mo + 3), .int (iI ((rg 3))), .ref (mo + 4), .ref (mo + 5), .int (iI ((rg 6))), .ref (mo + 6), .int (iI ((rg 8))), .ref (mo + 7), .int (iI ((rg 10))), .int (iI ((rg 11))), .int (iI ((rg 12))), .int (iI ((rg 13))), .int (iI ((rg 14))), .ref (mo + 8), .int (iI ((rg 16))), .ref (mo + 9), .ref (mo + 10), .ref (mo + 11)]) := (ow_103 _ (by omega)).trans mc
          have vc : w_103 (mo + 1) = some (eI 483 g) := (ow_103 _ (by omega)).trans vc
          refine r_iinc [(4, .int (iI (((j : Nat) : Int) + 2))), (3, .int (iI (((r (j + 1) : Nat) : Int)))), (5, .int (iI (((r j : Nat) : Int) + 1))), (0, .ref mo), (1, .int (iI (((k : Nat) : Int)))), (2, .int c)] hb 107 6 2 dX9_goesOn_104 rfl rfl hnL (by decide) (((j : Nat) : Int) + 2) (by omega) rfl ?_
          refine r_goto hb 20 dX9_goesOn_107 (by decide) ?_
          have e : rowS (nQ x) c r (j + 1) = min (r j + 1) (min (r (j + 1)) (rowS (nQ x) c r j) + 1) := by
            simp only [rowS]
            rw [if_neg c52]
          refine r_lv [(4, .int (iI (((j + 1 : Nat) : Int) + 1))), (3, .int (iI (((r (j + 1) : Nat) : Int)))), (0, .ref mo), (1, .int (iI (((k : Nat) : Int)))), (2, .int c)] [0, 1, 3, 4, 5] rfl ?_
          refine ih_lp ((nQ x).length - (j + 1)) (by omega) (j + 1) _ _ rfl (by omega) mc vc xw_103 ?_ ?_ (hO.trans (ow_103.mono (by omega) (by omega)))
          · intro q hq
            by_cases h : q = j + 1
            · subst h; rw [updN_s, e]
            · rw [updN_n _ _ h]; exact hlo q (by omega)
          · intro q hq hq2
            rw [updN_n _ _ (by omega)]; exact hhi q (by omega) hq2
        · refine r_iconst hb 56 dX9_goesOn_55 rfl ?_
          refine r_goto hb 60 dX9_goesOn_56 (by decide) ?_
          refine r_iaddZ hb 61 (((r j : Nat) : Int)) dX9_goesOn_60 rfl (by omega) ?_
          refine r_istore [(5, .int (iI (((r j : Nat) : Int)))), (4, .int (iI (((j : Nat) : Int) + 1))), (3, .int (iI (((r j : Nat) : Int)))), (0, .ref mo), (1, .int (iI (((k : Nat) : Int)))), (2, .int c)] hb 63 6 dX9_goesOn_61 rfl hnL (by decide) rfl ?_
          refine r_aload_n hb 64 dX9_goesOn_63 rfl 3 rfl ?_
          refine r_get hb ho 67 dX9_goesOn_64 rfl lk_X9_33 pf_X9_9 mc rfl ?_
          refine r_iload hb 69 dX9_goesOn_67 rfl 1 rfl ?_
          refine r_ialdN hb 70 dX9_goesOn_69 rfl lc (j + 1) (by omega) (⟨by omega, by omega⟩) ?_
          refine r_topv (.int (iI (((r (j + 1) : Nat) : Int)))) (by rw [hhi (j + 1) (by omega) (by omega)]) ?_
          have hr1 := hr (j + 1) (by omega)
          refine r_istore_n [(3, .int (iI (((r (j + 1) : Nat) : Int)))), (5, .int (iI (((r j : Nat) : Int)))), (4, .int (iI (((j : Nat) : Int) + 1))), (0, .ref mo), (1, .int (iI (((k : Nat) : Int)))), (2, .int c)] hb 71 6 dX9_goesOn_70 rfl rfl hnL (by decide) rfl ?_
          refine r_aload_n hb 72 dX9_goesOn_71 rfl 3 rfl ?_
          refine r_get hb ho 75 dX9_goesOn_72 rfl lk_X9_33 pf_X9_9 mc rfl ?_
          refine r_iload hb 77 dX9_goesOn_75 rfl 2 rfl ?_
          refine r_iload hb 79 dX9_goesOn_77 rfl 1 rfl ?_
          refine r_iconst hb 80 dX9_goesOn_79 rfl ?_
          refine r_aload_n hb 81 dX9_goesOn_80 rfl 3 rfl ?_
          refine r_get hb ho 84 dX9_goesOn_81 rfl lk_X9_33 pf_X9_9 mc rfl ?_
          refine r_iload hb 86 dX9_goesOn_84 rfl 2 rfl ?_
          refine r_ialdN hb 87 dX9_goesOn_86 rfl lc (j + 1) (by omega) (⟨by omega, by omega⟩) ?_
          refine r_topv (.int (iI (((r (j + 1) : Nat) : Int)))) (by rw [hhi (j + 1) (by omega) (by omega)]) ?_
          refine r_aload_n hb 88 dX9_goesOn_87 rfl 3 rfl ?_
          refine r_get hb ho 91 dX9_goesOn_88 rfl lk_X9_33 pf_X9_9 mc rfl ?_
          refine r_iload hb 93 dX9_goesOn_91 rfl 2 rfl ?_
          refine r_iconst hb 94 dX9_goesOn_93 rfl ?_
          refine r_isubZ hb 95 (((j : Nat) : Int)) dX9_goesOn_94 rfl (by omega) ?_
          refine r_ialdN hb 96 dX9_goesOn_95 rfl lc j (by omega) (⟨by omega, by omega⟩) ?_
          refine r_topv (.int (iI (((rowS (nQ x) c r j : Nat) : Int)))) (by rw [hlo j (by omega)]) ?_
          refine r_callSR (st := [.int (iI 1), .int (iI (((r j : Nat) : Int))), .int (iI (((j : Nat) : Int) + 1)), .ref (mo + 7)]) hb ho 99 dX9_goesOn_96 rfl ck_X9_69 (c_X9_least (((r (j + 1) : Nat) : Int)) (((rowS (nQ x) c r j : Nat) : Int)) (((min ((r (j + 1))) ((rowS (nQ x) c r j)) : Nat) : Int)) (by omega)) rfl rfl (by rw [hR0]; exact ⟨Nat.le_of_ble_eq_true rfl, Nat.le_of_ble_eq_true rfl⟩) (Nat.le_of_ble_eq_true rfl) ⟨rfl, rfl⟩ (by rw [hR0]; exact Nat.zero_le _) (by rw [hR0]; exact Nat.zero_le _) ?_
          refine r_iaddZ hb 100 (((min ((r (j + 1))) ((rowS (nQ x) c r j)) : Nat) : Int) + 1) dX9_goesOn_99 rfl (by omega) ?_
          refine r_callSR (st := [.int (iI (((j : Nat) : Int) + 1)), .ref (mo + 7)]) hb ho 103 dX9_goesOn_100 rfl ck_X9_69 (c_X9_least (((r j : Nat) : Int)) (((min ((r (j + 1))) ((rowS (nQ x) c r j)) : Nat) : Int) + 1) (((min ((r j)) ((min ((r (j + 1))) ((rowS (nQ x) c r j))) + 1) : Nat) : Int)) (by omega)) rfl rfl (by rw [hR0]; exact ⟨Nat.le_of_ble_eq_true rfl, Nat.le_of_ble_eq_true rfl⟩) (Nat.le_of_ble_eq_true rfl) ⟨rfl, rfl⟩ (by rw [hR0]; exact Nat.zero_le _) (by rw [hR0]; exact Nat.zero_le _) ?_
          refine r_iastN (x := ((min ((r j)) ((min ((r (j + 1))) ((rowS (nQ x) c r j))) + 1)))) (by omega) hb 104 dX9_goesOn_103 rfl lc (j + 1) (by omega) (⟨by omega, by omega⟩) (fun w_103 hw_103 => ?_)
          have ow_103 := pset_off hw_103
          have xw_103 : w_103 (mo + 7) = some (eI 17 (fun ii => iI (((updN li (j + 1) ((min ((r j)) ((min ((r (j + 1))) ((rowS (nQ x) c r j))) + 1)))) ii : Nat) : Int))) := by rw [hw_103]; exact pset_eq _ _ _
          have mc : w_103 mo = some (eO 9 [.ref (mo + 1), .ref (mo + 2), .ref (mo + 3), .int (iI ((rg 3))), .ref (mo + 4), .ref (mo + 5), .int (iI ((rg 6))), .ref (mo + 6), .int (iI ((rg 8))), .ref (mo + 7), .int (iI ((rg 10))), .int (iI ((rg 11))), .int (iI ((rg 12))), .int (iI ((rg 13))), .int (iI ((rg 14))), .ref (mo + 8), .int (iI ((rg 16))), .ref (mo + 9), .ref (mo + 10), .ref (mo + 11)]) := (ow_103 _ (by omega)).trans mc
          have vc : w_103 (mo + 1) = some (eI 483 g) := (ow_103 _ (by omega)).trans vc
          refine r_iinc [(4, .int (iI (((j : Nat) : Int) + 2))), (3, .int (iI (((r (j + 1) : Nat) : Int)))), (5, .int (iI (((r j : Nat) : Int)))), (0, .ref mo), (1, .int (iI (((k : Nat) : Int)))), (2, .int c)] hb 107 6 2 dX9_goesOn_104 rfl rfl hnL (by decide) (((j : Nat) : Int) + 2) (by omega) rfl ?_
          refine r_goto hb 20 dX9_goesOn_107 (by decide) ?_
          have e : rowS (nQ x) c r (j + 1) = min (r j) (min (r (j + 1)) (rowS (nQ x) c r j) + 1) := by
            simp only [rowS]
            rw [if_pos c52]
          refine r_lv [(4, .int (iI (((j + 1 : Nat) : Int) + 1))), (3, .int (iI (((r (j + 1) : Nat) : Int)))), (0, .ref mo), (1, .int (iI (((k : Nat) : Int)))), (2, .int c)] [0, 1, 3, 4, 5] rfl ?_
          refine ih_lp ((nQ x).length - (j + 1)) (by omega) (j + 1) _ _ rfl (by omega) mc vc xw_103 ?_ ?_ (hO.trans (ow_103.mono (by omega) (by omega)))
          · intro q hq
            by_cases h : q = j + 1
            · subst h; rw [updN_s, e]
            · rw [updN_n _ _ h]; exact hlo q (by omega)
          · intro q hq hq2
            rw [updN_n _ _ (by omega)]; exact hhi q (by omega) hq2
  refine r_lv [(4, .int (iI (((0 : Nat) : Int) + 1))), (3, .int (iI (((r 0 : Nat) : Int)))), (0, .ref mo), (1, .int (iI (((k : Nat) : Int)))), (2, .int c)] [0, 1, 2, 3, 4] rfl ?_
  refine lp _ 0 _ _ rfl (Nat.zero_le _) mc vc xw_16 ?_ ?_ (ow_16.mono (by omega) (by omega))
  · intro q hq
    rw [show q = 0 by omega, updN_s]; rfl
  · intro q hq hq2
    rw [updN_n _ _ (by omega)]; exact hl q hq2

abbrev rm_X9_distanceOf : Room := { frames := 2, cells := 0, slots := 0, locals := 46 }
set_option maxHeartbeats 4000000 in
set_option maxRecDepth 100000 in
theorem c_X9_distanceOf (mo : Nat) (rg : Nat → Int) (g : Nat → Int32) (ln : Nat → Nat) (D : List Int32) (k : Nat) (x : Nt) (s e : Nat) {w : PW} {n : Nat} (mc : w mo = some (mE mo rg)) (vc : w (mo + 1) = some (eI 483 g)) (lc : w (mo + 7) = some (eI 17 (fun ii => iI ((ln ii : Nat) : Int)))) (hD : vdp g D) (hN : vnt g (123 + 36 * k) x) (hk : k < 10) (he : e ≤ D.length) (hs : s ≤ 200) : Ct1 yX9_distanceOf cX9_distanceOf 5 (some .int) rm_X9_distanceOf [.ref mo, .int (iI (((k : Nat) : Int))), .int (iI (((s : Nat) : Int))), .int (iI (((e : Nat) : Int)))] w n (fun v w1 n1 => v = .int (iI ((edD (nQ x) D s e : Nat) : Int)) ∧ n = n1 ∧ (∃ ln1 : Nat → Nat, w1 (mo + 7) = some (eI 17 (fun ii => iI ((ln1 ii : Nat) : Int)))) ∧ off w w1 (mo + 7) (mo + 8)) := by
  obtain ⟨n0, n1, n2, n3, n4, n5, n6, n7, n8, n9, n10, n11, n12, n13⟩ := id (hN)
  have hDl := hD.2.2
  refine Ctr.of rfl (Nat.le_of_ble_eq_true rfl) fun S hS => ?_
  have hb : S.1.1 = cX9_distanceOf := by rw [hS]; rfl
  have ho : S.1.2.1 = RX9 := by rw [hS]; rfl
  have hnL : S.1.2.2.1 = 5 := by rw [hS]; rfl
  have hR0 : S.2.1 = rm_X9_distanceOf := by rw [hS]; rfl
  show Wp S 0 [(0, .ref mo), (1, .int (iI (((k : Nat) : Int)))), (2, .int (iI (((s : Nat) : Int)))), (3, .int (iI (((e : Nat) : Int))))] [] w n 0 0
  refine r_aload_n hb 1 dX9_distanceOf_0 rfl 0 rfl ?_
  refine r_iload_n hb 2 dX9_distanceOf_1 rfl 1 rfl ?_
  refine r_callV0 (st := []) hb ho 5 dX9_distanceOf_2 rfl ck_X9_98 (c_X9_startsLine mo rg g ln k x mc vc lc hN hk) rfl rfl (mc) rfl rfl (by rw [hR0]; exact ⟨Nat.le_of_ble_eq_true rfl, Nat.le_of_ble_eq_true rfl⟩) (Nat.le_of_ble_eq_true rfl) ⟨rfl, rfl⟩ (by rw [hR0]; exact Nat.zero_le _) (by rw [hR0]; exact Nat.zero_le _) (fun w_2 nw_2 qw_2 => ?_)
  obtain ⟨rfl, ⟨lnw_2, lc, hl⟩, ow_2⟩ := qw_2
  have mc : w_2 mo = some (eO 9 [.ref (mo + 1), .ref (mo + 2), .ref (mo + 3), .int (iI ((rg 3))), .ref (mo + 4), .ref (mo + 5), .int (iI ((rg 6))), .ref (mo + 6), .int (iI ((rg 8))), .ref (mo + 7), .int (iI ((rg 10))), .int (iI ((rg 11))), .int (iI ((rg 12))), .int (iI ((rg 13))), .int (iI ((rg 14))), .ref (mo + 8), .int (iI ((rg 16))), .ref (mo + 9), .ref (mo + 10), .ref (mo + 11)]) := (ow_2 _ (by omega)).trans mc
  have vc : w_2 (mo + 1) = some (eI 483 g) := (ow_2 _ (by omega)).trans vc
  refine r_iload_n hb 6 dX9_distanceOf_5 rfl 2 rfl ?_
  refine r_istore [(4, .int (iI (((s : Nat) : Int)))), (0, .ref mo), (1, .int (iI (((k : Nat) : Int)))), (2, .int (iI (((s : Nat) : Int)))), (3, .int (iI (((e : Nat) : Int))))] hb 8 5 dX9_distanceOf_6 rfl hnL (by decide) rfl ?_
  have lp : ∀ (d : Nat) (i : Nat) (wi : PW) (li : Nat → Nat), e - i = d → (s ≤ i) → (i ≤ e ∨ i = s) → (wi mo = some (mE mo rg)) → (wi (mo + 1) = some (eI 483 g)) → (wi (mo + 7) = some (eI 17 (fun ii => iI ((li ii : Nat) : Int)))) → (∀ q, q ≤ (nQ x).length → li q = edK (nQ x) D s (i - s) q) → (off w wi (mo + 7) (mo + 8)) → Wp S 8 [(4, .int (iI (((i : Nat) : Int)))), (0, .ref mo), (1, .int (iI (((k : Nat) : Int)))), (2, .int (iI (((s : Nat) : Int)))), (3, .int (iI (((e : Nat) : Int))))] [] wi n 0 0 := by
    intro d
    induction d using Nat.strongRecOn with
    | _ d ih_lp =>
      intro i wi li hd_lp hi hi2 mc vc lc hl hO
      refine r_iload hb 10 dX9_distanceOf_8 rfl 0 rfl ?_
      refine r_iload_n hb 11 dX9_distanceOf_10 rfl 4 rfl ?_
      refine r_icmp_ge hb 14 34 dX9_distanceOf_11 rfl (by decide) (by omega) (by omega) (fun c11 => ?_) (fun c11 => ?_)
      · refine r_aload_n hb 35 dX9_distanceOf_34 rfl 1 rfl ?_
        refine r_get hb ho 38 dX9_distanceOf_35 rfl lk_X9_33 pf_X9_9 mc rfl ?_
        refine r_aload_n hb 39 dX9_distanceOf_38 rfl 1 rfl ?_
        refine r_get hb ho 42 dX9_distanceOf_39 rfl lk_X9_7 pf_X9_0 mc rfl ?_
        refine r_iload_n hb 43 dX9_distanceOf_42 rfl 2 rfl ?_
        refine r_bipush 12 hb 45 dX9_distanceOf_43 rfl rfl ?_
        refine r_callSR (st := [.ref (mo + 1), .ref (mo + 7)]) hb ho 48 dX9_distanceOf_45 rfl ck_X9_48 (c_X9_at (((k : Nat) : Int)) 12 (36 * ((k : Nat) : Int) + 135) (by omega)) rfl rfl (by rw [hR0]; exact ⟨Nat.le_of_ble_eq_true rfl, Nat.le_of_ble_eq_true rfl⟩) (Nat.le_of_ble_eq_true rfl) ⟨rfl, rfl⟩ (by rw [hR0]; exact Nat.zero_le _) (by rw [hR0]; exact Nat.zero_le _) ?_
        refine r_iald hb 49 dX9_distanceOf_48 rfl vc (123 + 36 * k + 12) (by omega) (⟨by omega, by omega⟩) ?_
        refine r_topz ((((nQ (x)).length : Nat) : Int)) (n6.1) ?_
        refine r_ialdN hb 50 dX9_distanceOf_49 rfl lc ((nQ x).length) (by omega) (⟨by omega, by omega⟩) ?_
        refine r_topv (.int (iI (((edK (nQ x) D s (i - s) (nQ x).length : Nat) : Int)))) (by rw [hl _ (Nat.le_refl _)]) ?_
        refine r_iret hS dX9_distanceOf_50 rfl rfl (Nat.zero_le _) (Nat.zero_le _) ?_
        exact ⟨_, rfl, by unfold edD; rw [show i - s = e - s by omega], rfl, ⟨_, lc⟩, hO⟩
      · refine r_aload_n hb 15 dX9_distanceOf_14 rfl 1 rfl ?_
        refine r_iload_n hb 16 dX9_distanceOf_15 rfl 2 rfl ?_
        refine r_aload_n hb 17 dX9_distanceOf_16 rfl 1 rfl ?_
        refine r_get hb ho 20 dX9_distanceOf_17 rfl lk_X9_7 pf_X9_0 mc rfl ?_
        refine r_iconst hb 21 dX9_distanceOf_20 rfl ?_
        refine r_iload hb 23 dX9_distanceOf_21 rfl 0 rfl ?_
        refine r_iaddZ hb 24 (((i : Nat) : Int) + 1) dX9_distanceOf_23 rfl (by omega) ?_
        refine r_iald hb 25 dX9_distanceOf_24 rfl vc (1 + i) (by omega) (⟨by omega, by omega⟩) ?_
        refine r_topv (.int ((D).getD i 0)) (congrArg Value.int (hD.2.1 i (by omega))) ?_
        refine r_callV0 (st := []) hb ho 28 dX9_distanceOf_25 rfl ck_X9_101 (c_X9_goesOn mo rg g li (edK (nQ x) D s (i - s)) k x (D.getD i 0) mc vc lc hN hk hl (fun j hj => by have := edK_le (nQ x) D s (i - s) j; omega)) rfl rfl (mc) rfl rfl (by rw [hR0]; exact ⟨Nat.le_of_ble_eq_true rfl, Nat.le_of_ble_eq_true rfl⟩) (Nat.le_of_ble_eq_true rfl) ⟨rfl, rfl⟩ (by rw [hR0]; exact Nat.zero_le _) (by rw [hR0]; exact Nat.zero_le _) (fun w_25 nw_25 qw_25 => ?_)
        obtain ⟨rfl, ⟨lnw_25, lc, hl⟩, ow_25⟩ := qw_25
        have mc : w_25 mo = some (eO 9 [.ref (mo + 1), .ref (mo + 2), .ref (mo + 3), .int (iI ((rg 3))), .ref (mo + 4), .ref (mo + 5), .int (iI ((rg 6))), .ref (mo + 6), .int (iI ((rg 8))), .ref (mo + 7), .int (iI ((rg 10))), .int (iI ((rg 11))), .int (iI ((rg 12))), .int (iI ((rg 13))), .int (iI ((rg 14))), .ref (mo + 8), .int (iI ((rg 16))), .ref (mo + 9), .ref (mo + 10), .ref (mo + 11)]) := (ow_25 _ (by omega)).trans mc
        have vc : w_25 (mo + 1) = some (eI 483 g) := (ow_25 _ (by omega)).trans vc
        refine r_iinc [(4, .int (iI (((i : Nat) : Int) + 1))), (0, .ref mo), (1, .int (iI (((k : Nat) : Int)))), (2, .int (iI (((s : Nat) : Int)))), (3, .int (iI (((e : Nat) : Int))))] hb 31 5 0 dX9_distanceOf_28 rfl rfl hnL (by decide) (((i : Nat) : Int) + 1) (by omega) rfl ?_
        refine r_goto hb 8 dX9_distanceOf_31 (by decide) ?_
        refine r_lv [(4, .int (iI (((i + 1 : Nat) : Int)))), (0, .ref mo), (1, .int (iI (((k : Nat) : Int)))), (2, .int (iI (((s : Nat) : Int)))), (3, .int (iI (((e : Nat) : Int))))] [0, 1, 2, 3, 4] rfl ?_
        refine ih_lp (e - (i + 1)) (by omega) (i + 1) _ _ rfl (by omega) (by omega) mc vc lc ?_ (hO.trans (ow_25.mono (by omega) (by omega)))
        intro q hq
        rw [hl q hq, show i + 1 - s = (i - s) + 1 by omega]
        simp only [edK]
        rw [show s + (i - s) = i by omega]
  refine r_lv [(4, .int (iI (((s : Nat) : Int)))), (0, .ref mo), (1, .int (iI (((k : Nat) : Int)))), (2, .int (iI (((s : Nat) : Int)))), (3, .int (iI (((e : Nat) : Int))))] [0, 1, 2, 3, 4] rfl ?_
  refine lp _ s _ _ rfl (Nat.le_refl _) (by omega) mc vc lc ?_ (ow_2.mono (by omega) (by omega))
  intro q hq
  rw [hl q hq, Nat.sub_self]; rfl

abbrev rm_X9_before : Room := { frames := 1, cells := 0, slots := 0, locals := 21 }
set_option maxHeartbeats 4000000 in
set_option maxRecDepth 100000 in
theorem c_X9_before (mo : Nat) (rg : Nat → Int) (g : Nat → Int32) (D : List Int32) (k : Nat) (x : Nt) (s : Nat) {w : PW} {n : Nat} (mc : w mo = some (mE mo rg)) (vc : w (mo + 1) = some (eI 483 g)) (hD : vdp g D) (hN : vnt g (123 + 36 * k) x) (hk : k < 10) (hs : s ≤ D.length) : CtR yX9_before cX9_before 5 (some .int) rm_X9_before [.ref mo, .int (iI (((k : Nat) : Int))), .int (iI (((s : Nat) : Int)))] w n (.int (iI (((lkB (nP x) D s : Nat) : Int)))) := by
  obtain ⟨n0, n1, n2, n3, n4, n5, n6, n7, n8, n9, n10, n11, n12, n13⟩ := id (hN)
  have hDl := hD.2.2
  refine Ctr.of rfl (Nat.le_of_ble_eq_true rfl) fun S hS => ?_
  have hb : S.1.1 = cX9_before := by rw [hS]; rfl
  have ho : S.1.2.1 = RX9 := by rw [hS]; rfl
  have hnL : S.1.2.2.1 = 5 := by rw [hS]; rfl
  have hR0 : S.2.1 = rm_X9_before := by rw [hS]; rfl
  show Wp S 0 [(0, .ref mo), (1, .int (iI (((k : Nat) : Int)))), (2, .int (iI (((s : Nat) : Int))))] [] w n 0 0
  refine r_aload_n hb 1 dX9_before_0 rfl 0 rfl ?_
  refine r_get hb ho 4 dX9_before_1 rfl lk_X9_7 pf_X9_0 mc rfl ?_
  refine r_iload_n hb 5 dX9_before_4 rfl 1 rfl ?_
  refine r_iconst hb 6 dX9_before_5 rfl ?_
  refine r_callSR (st := [.ref (mo + 1)]) hb ho 9 dX9_before_6 rfl ck_X9_48 (c_X9_at (((k : Nat) : Int)) 5 (36 * ((k : Nat) : Int) + 128) (by omega)) rfl rfl (by rw [hR0]; exact ⟨Nat.le_of_ble_eq_true rfl, Nat.le_of_ble_eq_true rfl⟩) (Nat.le_of_ble_eq_true rfl) ⟨rfl, rfl⟩ (by rw [hR0]; exact Nat.zero_le _) (by rw [hR0]; exact Nat.zero_le _) ?_
  refine r_iald hb 10 dX9_before_9 rfl vc (123 + 36 * k + 5) (by omega) (⟨by omega, by omega⟩) ?_
  refine r_topz ((((nP (x)).length : Nat) : Int)) (n5.1) ?_
  refine r_istore_n [(3, .int (iI ((((nP (x)).length : Nat) : Int)))), (0, .ref mo), (1, .int (iI (((k : Nat) : Int)))), (2, .int (iI (((s : Nat) : Int))))] hb 11 5 dX9_before_10 rfl rfl hnL (by decide) rfl ?_
  refine r_iconst hb 12 dX9_before_11 rfl ?_
  refine r_istore [(4, .int (iI 0)), (3, .int (iI ((((nP (x)).length : Nat) : Int)))), (0, .ref mo), (1, .int (iI (((k : Nat) : Int)))), (2, .int (iI (((s : Nat) : Int))))] hb 14 5 dX9_before_12 rfl hnL (by decide) rfl ?_
  have lp : ∀ (d : Nat) (j : Nat), (nP x).length - j = d → (j ≤ (nP x).length) → (runL (lkcB (nP x) D s) ((nP x).length - j) j = lkB (nP x) D s) → Wp S 14 [(4, .int (iI (((j : Nat) : Int)))), (3, .int (iI ((((nP x).length : Nat) : Int)))), (0, .ref mo), (1, .int (iI (((k : Nat) : Int)))), (2, .int (iI (((s : Nat) : Int))))] [] w n 0 0 := by
    intro d
    induction d using Nat.strongRecOn with
    | _ d ih_lp =>
      intro j hd_lp hj hr
      refine r_iload hb 16 dX9_before_14 rfl 0 rfl ?_
      refine r_iload_n hb 17 dX9_before_16 rfl 1 rfl ?_
      refine r_icmp_ge hb 20 63 dX9_before_17 rfl (by decide) (by omega) (by omega) (fun c17 => ?_) (fun c17 => ?_)
      · refine r_iload hb 65 dX9_before_63 rfl 0 rfl ?_
        refine r_iret hS dX9_before_65 rfl rfl (Nat.zero_le _) (Nat.zero_le _) ?_
        have e := runL_f (c := lkcB (nP x) D s) (N := (nP x).length) (a := j) (Or.inl (by omega))
        exact ⟨_, rfl, by rw [← hr, e], rfl, rfl⟩
      · refine r_iload hb 22 dX9_before_20 rfl 0 rfl ?_
        refine r_iload_n hb 23 dX9_before_22 rfl 4 rfl ?_
        refine r_icmp_ge hb 26 63 dX9_before_23 rfl (by decide) (by omega) (by omega) (fun c23 => ?_) (fun c23 => ?_)
        · refine r_iload hb 65 dX9_before_63 rfl 0 rfl ?_
          refine r_iret hS dX9_before_65 rfl rfl (Nat.zero_le _) (Nat.zero_le _) ?_
          have e := runL_f (c := lkcB (nP x) D s) (N := (nP x).length) (a := j) (Or.inr (decide_eq_false (fun h => by omega)))
          exact ⟨_, rfl, by rw [← hr, e], rfl, rfl⟩
        · refine r_aload_n hb 27 dX9_before_26 rfl 2 rfl ?_
          refine r_get hb ho 30 dX9_before_27 rfl lk_X9_7 pf_X9_0 mc rfl ?_
          refine r_iload_n hb 31 dX9_before_30 rfl 3 rfl ?_
          refine r_iconst hb 32 dX9_before_31 rfl ?_
          refine r_iload_n hb 33 dX9_before_32 rfl 1 rfl ?_
          refine r_iaddZ hb 34 ((((nP x).length : Nat) : Int) + 5) dX9_before_33 rfl (by omega) ?_
          refine r_iload hb 36 dX9_before_34 rfl 0 rfl ?_
          refine r_isubZ hb 37 ((((nP x).length : Nat) : Int) - ((j : Nat) : Int) + 5) dX9_before_36 rfl (by omega) ?_
          refine r_callSR (st := [.ref (mo + 1)]) hb ho 40 dX9_before_37 rfl ck_X9_48 (c_X9_at (((k : Nat) : Int)) ((((nP x).length : Nat) : Int) - ((j : Nat) : Int) + 5) (36 * ((k : Nat) : Int) + (((nP x).length : Nat) : Int) - ((j : Nat) : Int) + 128) (by omega)) rfl rfl (by rw [hR0]; exact ⟨Nat.le_of_ble_eq_true rfl, Nat.le_of_ble_eq_true rfl⟩) (Nat.le_of_ble_eq_true rfl) ⟨rfl, rfl⟩ (by rw [hR0]; exact Nat.zero_le _) (by rw [hR0]; exact Nat.zero_le _) ?_
          refine r_iald hb 41 dX9_before_40 rfl vc (123 + 36 * k + 5 + 1 + ((nP x).length - 1 - j)) (by omega) (⟨by omega, by omega⟩) ?_
          refine r_topv (.int ((nP (x)).getD ((nP x).length - 1 - j) 0)) (congrArg Value.int (n5.2 ((nP x).length - 1 - j) (by omega))) ?_
          refine r_aload_n hb 42 dX9_before_41 rfl 2 rfl ?_
          refine r_get hb ho 45 dX9_before_42 rfl lk_X9_7 pf_X9_0 mc rfl ?_
          refine r_iconst hb 46 dX9_before_45 rfl ?_
          refine r_iload_n hb 47 dX9_before_46 rfl 4 rfl ?_
          refine r_iaddZ hb 48 (((s : Nat) : Int) + 1) dX9_before_47 rfl (by omega) ?_
          refine r_iconst hb 49 dX9_before_48 rfl ?_
          refine r_isubZ hb 50 (((s : Nat) : Int)) dX9_before_49 rfl (by omega) ?_
          refine r_iload hb 52 dX9_before_50 rfl 0 rfl ?_
          refine r_isubZ hb 53 (((s : Nat) : Int) - ((j : Nat) : Int)) dX9_before_52 rfl (by omega) ?_
          refine r_iald hb 54 dX9_before_53 rfl vc (1 + (s - 1 - j)) (by omega) (⟨by omega, by omega⟩) ?_
          refine r_topv (.int ((D).getD (s - 1 - j) 0)) (congrArg Value.int (hD.2.1 (s - 1 - j) (by omega))) ?_
          refine r_icmpR_ne hb 57 63 dX9_before_54 rfl (by decide) (fun c54 => ?_) (fun c54 => ?_)
          · refine r_iload hb 65 dX9_before_63 rfl 0 rfl ?_
            refine r_iret hS dX9_before_65 rfl rfl (Nat.zero_le _) (Nat.zero_le _) ?_
            have e := runL_f (c := lkcB (nP x) D s) (N := (nP x).length) (a := j) (Or.inr (decide_eq_false (fun h => c54 h.2)))
            exact ⟨_, rfl, by rw [← hr, e], rfl, rfl⟩
          · refine r_iinc [(4, .int (iI (((j : Nat) : Int) + 1))), (3, .int (iI ((((nP x).length : Nat) : Int)))), (0, .ref mo), (1, .int (iI (((k : Nat) : Int)))), (2, .int (iI (((s : Nat) : Int))))] hb 60 5 0 dX9_before_57 rfl rfl hnL (by decide) (((j : Nat) : Int) + 1) (by omega) rfl ?_
            refine r_goto hb 14 dX9_before_60 (by decide) ?_
            refine r_lv [(4, .int (iI (((j + 1 : Nat) : Int)))), (3, .int (iI ((((nP x).length : Nat) : Int)))), (0, .ref mo), (1, .int (iI (((k : Nat) : Int)))), (2, .int (iI (((s : Nat) : Int))))] [0, 1, 2, 3, 4] rfl ?_
            exact ih_lp ((nP x).length - (j + 1)) (by omega) (j + 1) rfl (by omega) (by rw [← runL_t (by omega) (decide_eq_true ⟨by omega, c54⟩)]; exact hr)
  refine r_lv [(4, .int (iI (((0 : Nat) : Int)))), (3, .int (iI ((((nP x).length : Nat) : Int)))), (0, .ref mo), (1, .int (iI (((k : Nat) : Int)))), (2, .int (iI (((s : Nat) : Int))))] [0, 1, 2, 3, 4] rfl ?_
  exact lp _ 0 rfl (Nat.zero_le _) rfl

abbrev rm_X9_behind : Room := { frames := 1, cells := 0, slots := 0, locals := 21 }
set_option maxHeartbeats 4000000 in
set_option maxRecDepth 100000 in
theorem c_X9_behind (mo : Nat) (rg : Nat → Int) (g : Nat → Int32) (D : List Int32) (k : Nat) (x : Nt) (e : Nat) {w : PW} {n : Nat} (mc : w mo = some (mE mo rg)) (vc : w (mo + 1) = some (eI 483 g)) (hD : vdp g D) (hN : vnt g (123 + 36 * k) x) (hk : k < 10) (he : e ≤ D.length) : CtR yX9_behind cX9_behind 4 (some .int) rm_X9_behind [.ref mo, .int (iI (((k : Nat) : Int))), .int (iI (((e : Nat) : Int)))] w n (.int (iI (((lkS (nS x) D e : Nat) : Int)))) := by
  obtain ⟨n0, n1, n2, n3, n4, n5, n6, n7, n8, n9, n10, n11, n12, n13⟩ := id (hN)
  have hDl := hD.2.2
  refine Ctr.of rfl (Nat.le_of_ble_eq_true rfl) fun S hS => ?_
  have hb : S.1.1 = cX9_behind := by rw [hS]; rfl
  have ho : S.1.2.1 = RX9 := by rw [hS]; rfl
  have hnL : S.1.2.2.1 = 4 := by rw [hS]; rfl
  have hR0 : S.2.1 = rm_X9_behind := by rw [hS]; rfl
  show Wp S 0 [(0, .ref mo), (1, .int (iI (((k : Nat) : Int)))), (2, .int (iI (((e : Nat) : Int))))] [] w n 0 0
  refine r_iconst hb 1 dX9_behind_0 rfl ?_
  refine r_istore_n [(3, .int (iI 0)), (0, .ref mo), (1, .int (iI (((k : Nat) : Int)))), (2, .int (iI (((e : Nat) : Int))))] hb 2 4 dX9_behind_1 rfl rfl hnL (by decide) rfl ?_
  have lp : ∀ (d : Nat) (j : Nat), (nS x).length - j = d → (j ≤ (nS x).length) → (runL (lkcS (nS x) D e) ((nS x).length - j) j = lkS (nS x) D e) → Wp S 2 [(3, .int (iI (((j : Nat) : Int)))), (0, .ref mo), (1, .int (iI (((k : Nat) : Int)))), (2, .int (iI (((e : Nat) : Int))))] [] w n 0 0 := by
    intro d
    induction d using Nat.strongRecOn with
    | _ d ih_lp =>
      intro j hd_lp hj hr
      refine r_iload_n hb 3 dX9_behind_2 rfl 0 rfl ?_
      refine r_aload_n hb 4 dX9_behind_3 rfl 1 rfl ?_
      refine r_get hb ho 7 dX9_behind_4 rfl lk_X9_7 pf_X9_0 mc rfl ?_
      refine r_iload_n hb 8 dX9_behind_7 rfl 2 rfl ?_
      refine r_bipush 29 hb 10 dX9_behind_8 rfl rfl ?_
      refine r_callSR (st := [.ref (mo + 1), .int (iI (((j : Nat) : Int)))]) hb ho 13 dX9_behind_10 rfl ck_X9_48 (c_X9_at (((k : Nat) : Int)) 29 (36 * ((k : Nat) : Int) + 152) (by omega)) rfl rfl (by rw [hR0]; exact ⟨Nat.le_of_ble_eq_true rfl, Nat.le_of_ble_eq_true rfl⟩) (Nat.le_of_ble_eq_true rfl) ⟨rfl, rfl⟩ (by rw [hR0]; exact Nat.zero_le _) (by rw [hR0]; exact Nat.zero_le _) ?_
      refine r_iald hb 14 dX9_behind_13 rfl vc (123 + 36 * k + 29) (by omega) (⟨by omega, by omega⟩) ?_
      refine r_topz ((((nS (x)).length : Nat) : Int)) (n7.1) ?_
      refine r_icmp_ge hb 17 61 dX9_behind_14 rfl (by decide) (by omega) (by omega) (fun c14 => ?_) (fun c14 => ?_)
      · refine r_iload_n hb 62 dX9_behind_61 rfl 0 rfl ?_
        refine r_iret hS dX9_behind_62 rfl rfl (Nat.zero_le _) (Nat.zero_le _) ?_
        have e := runL_f (c := lkcS (nS x) D e) (N := (nS x).length) (a := j) (Or.inl (by omega))
        exact ⟨_, rfl, by rw [← hr, e], rfl, rfl⟩
      · refine r_iload_n hb 18 dX9_behind_17 rfl 3 rfl ?_
        refine r_iload_n hb 19 dX9_behind_18 rfl 0 rfl ?_
        refine r_iaddZ hb 20 (((e : Nat) : Int) + ((j : Nat) : Int)) dX9_behind_19 rfl (by omega) ?_
        refine r_aload_n hb 21 dX9_behind_20 rfl 1 rfl ?_
        refine r_get hb ho 24 dX9_behind_21 rfl lk_X9_7 pf_X9_0 mc rfl ?_
        refine r_iconst hb 25 dX9_behind_24 rfl ?_
        refine r_iald hb 26 dX9_behind_25 rfl vc 0 (by omega) (⟨by omega, by omega⟩) ?_
        refine r_topz ((((D).length : Nat) : Int)) (hD.1) ?_
        refine r_icmp_ge hb 29 61 dX9_behind_26 rfl (by decide) (by omega) (by omega) (fun c26 => ?_) (fun c26 => ?_)
        · refine r_iload_n hb 62 dX9_behind_61 rfl 0 rfl ?_
          refine r_iret hS dX9_behind_62 rfl rfl (Nat.zero_le _) (Nat.zero_le _) ?_
          have e := runL_f (c := lkcS (nS x) D e) (N := (nS x).length) (a := j) (Or.inr (decide_eq_false (fun h => by omega)))
          exact ⟨_, rfl, by rw [← hr, e], rfl, rfl⟩
        · refine r_aload_n hb 30 dX9_behind_29 rfl 1 rfl ?_
          refine r_get hb ho 33 dX9_behind_30 rfl lk_X9_7 pf_X9_0 mc rfl ?_
          refine r_iload_n hb 34 dX9_behind_33 rfl 2 rfl ?_
          refine r_bipush 30 hb 36 dX9_behind_34 rfl rfl ?_
          refine r_iload_n hb 37 dX9_behind_36 rfl 0 rfl ?_
          refine r_iaddZ hb 38 (((j : Nat) : Int) + 30) dX9_behind_37 rfl (by omega) ?_
          refine r_callSR (st := [.ref (mo + 1)]) hb ho 41 dX9_behind_38 rfl ck_X9_48 (c_X9_at (((k : Nat) : Int)) (((j : Nat) : Int) + 30) (36 * ((k : Nat) : Int) + ((j : Nat) : Int) + 153) (by omega)) rfl rfl (by rw [hR0]; exact ⟨Nat.le_of_ble_eq_true rfl, Nat.le_of_ble_eq_true rfl⟩) (Nat.le_of_ble_eq_true rfl) ⟨rfl, rfl⟩ (by rw [hR0]; exact Nat.zero_le _) (by rw [hR0]; exact Nat.zero_le _) ?_
          refine r_iald hb 42 dX9_behind_41 rfl vc (123 + 36 * k + 29 + 1 + j) (by omega) (⟨by omega, by omega⟩) ?_
          refine r_topv (.int ((nS (x)).getD j 0)) (congrArg Value.int (n7.2 j (by omega))) ?_
          refine r_aload_n hb 43 dX9_behind_42 rfl 1 rfl ?_
          refine r_get hb ho 46 dX9_behind_43 rfl lk_X9_7 pf_X9_0 mc rfl ?_
          refine r_iconst hb 47 dX9_behind_46 rfl ?_
          refine r_iload_n hb 48 dX9_behind_47 rfl 3 rfl ?_
          refine r_iaddZ hb 49 (((e : Nat) : Int) + 1) dX9_behind_48 rfl (by omega) ?_
          refine r_iload_n hb 50 dX9_behind_49 rfl 0 rfl ?_
          refine r_iaddZ hb 51 (((e : Nat) : Int) + ((j : Nat) : Int) + 1) dX9_behind_50 rfl (by omega) ?_
          refine r_iald hb 52 dX9_behind_51 rfl vc (1 + (e + j)) (by omega) (⟨by omega, by omega⟩) ?_
          refine r_topv (.int ((D).getD (e + j) 0)) (congrArg Value.int (hD.2.1 (e + j) (by omega))) ?_
          refine r_icmpR_ne hb 55 61 dX9_behind_52 rfl (by decide) (fun c52 => ?_) (fun c52 => ?_)
          · refine r_iload_n hb 62 dX9_behind_61 rfl 0 rfl ?_
            refine r_iret hS dX9_behind_62 rfl rfl (Nat.zero_le _) (Nat.zero_le _) ?_
            have e := runL_f (c := lkcS (nS x) D e) (N := (nS x).length) (a := j) (Or.inr (decide_eq_false (fun h => c52 h.2)))
            exact ⟨_, rfl, by rw [← hr, e], rfl, rfl⟩
          · refine r_iinc [(3, .int (iI (((j : Nat) : Int) + 1))), (0, .ref mo), (1, .int (iI (((k : Nat) : Int)))), (2, .int (iI (((e : Nat) : Int))))] hb 58 4 0 dX9_behind_55 rfl rfl hnL (by decide) (((j : Nat) : Int) + 1) (by omega) rfl ?_
            refine r_goto hb 2 dX9_behind_58 (by decide) ?_
            refine r_lv [(3, .int (iI (((j + 1 : Nat) : Int)))), (0, .ref mo), (1, .int (iI (((k : Nat) : Int)))), (2, .int (iI (((e : Nat) : Int))))] [0, 1, 2, 3] rfl ?_
            exact ih_lp ((nS x).length - (j + 1)) (by omega) (j + 1) rfl (by omega) (by rw [← runL_t (by omega) (decide_eq_true ⟨by omega, c52⟩)]; exact hr)
  refine r_lv [(3, .int (iI (((0 : Nat) : Int)))), (0, .ref mo), (1, .int (iI (((k : Nat) : Int)))), (2, .int (iI (((e : Nat) : Int))))] [0, 1, 2, 3] rfl ?_
  exact lp _ 0 rfl (Nat.zero_le _) rfl

abbrev rm_X9_scored : Room := { frames := 2, cells := 0, slots := 0, locals := 45 }
set_option maxHeartbeats 4000000 in
set_option maxRecDepth 100000 in
theorem c_X9_scored (mo : Nat) (rg : Nat → Int) (g : Nat → Int32) (D : List Int32) (k : Nat) (x : Nt) (s e d : Nat) {w : PW} {n : Nat} (mc : w mo = some (mE mo rg)) (vc : w (mo + 1) = some (eI 483 g)) (hD : vdp g D) (hN : vnt g (123 + 36 * k) x) (hk : k < 10) (hs : s ≤ D.length) (he : e ≤ D.length) (hd : d ≤ 1000) : CtR yX9_scored cX9_scored 6 (some .int) rm_X9_scored [.ref mo, .int (iI (((k : Nat) : Int))), .int (iI (((s : Nat) : Int))), .int (iI (((e : Nat) : Int))), .int (iI (((d : Nat) : Int)))] w n (.int (iI ((scN x D s e d)))) := by
  obtain ⟨n0, n1, n2, n3, n4, n5, n6, n7, n8, n9, n10, n11, n12, n13⟩ := id (hN)
  have hDl := hD.2.2
  have l1 := lkB_le (nP x) D s
  have l2 := lkS_le (nS x) D e
  refine Ctr.of rfl (Nat.le_of_ble_eq_true rfl) fun S hS => ?_
  have hb : S.1.1 = cX9_scored := by rw [hS]; rfl
  have ho : S.1.2.1 = RX9 := by rw [hS]; rfl
  have hnL : S.1.2.2.1 = 6 := by rw [hS]; rfl
  have hR0 : S.2.1 = rm_X9_scored := by rw [hS]; rfl
  show Wp S 0 [(0, .ref mo), (1, .int (iI (((k : Nat) : Int)))), (2, .int (iI (((s : Nat) : Int)))), (3, .int (iI (((e : Nat) : Int)))), (4, .int (iI (((d : Nat) : Int))))] [] w n 0 0
  refine r_iload_n hb 1 dX9_scored_0 rfl 2 rfl ?_
  refine r_aload_n hb 2 dX9_scored_1 rfl 0 rfl ?_
  refine r_get hb ho 5 dX9_scored_2 rfl lk_X9_7 pf_X9_0 mc rfl ?_
  refine r_iload_n hb 6 dX9_scored_5 rfl 1 rfl ?_
  refine r_iconst hb 7 dX9_scored_6 rfl ?_
  refine r_callSR (st := [.ref (mo + 1), .int (iI (((s : Nat) : Int)))]) hb ho 10 dX9_scored_7 rfl ck_X9_48 (c_X9_at (((k : Nat) : Int)) 2 (36 * ((k : Nat) : Int) + 125) (by omega)) rfl rfl (by rw [hR0]; exact ⟨Nat.le_of_ble_eq_true rfl, Nat.le_of_ble_eq_true rfl⟩) (Nat.le_of_ble_eq_true rfl) ⟨rfl, rfl⟩ (by rw [hR0]; exact Nat.zero_le _) (by rw [hR0]; exact Nat.zero_le _) ?_
  refine r_iald hb 11 dX9_scored_10 rfl vc (123 + 36 * k + 2) (by omega) (⟨by omega, by omega⟩) ?_
  refine r_topz (((nB (x) : Nat) : Int)) (n2) ?_
  refine r_isubZ hb 12 (((s : Nat) : Int) - ((nB (x) : Nat) : Int)) dX9_scored_11 rfl (by omega) ?_
  refine r_istore [(5, .int (iI (((s : Nat) : Int) - ((nB (x) : Nat) : Int)))), (0, .ref mo), (1, .int (iI (((k : Nat) : Int)))), (2, .int (iI (((s : Nat) : Int)))), (3, .int (iI (((e : Nat) : Int)))), (4, .int (iI (((d : Nat) : Int))))] hb 14 6 dX9_scored_12 rfl hnL (by decide) rfl ?_
  refine r_bipush 60 hb 16 dX9_scored_14 rfl rfl ?_
  refine r_bipush 10 hb 18 dX9_scored_16 rfl rfl ?_
  refine r_iload hb 20 dX9_scored_18 rfl 5 rfl ?_
  refine r_imulZ hb 21 (10 * ((d : Nat) : Int)) dX9_scored_20 rfl (by omega) ?_
  refine r_isubZ hb 22 ((-10) * ((d : Nat) : Int) + 60) dX9_scored_21 rfl (by omega) ?_
  refine r_iconst hb 23 dX9_scored_22 rfl ?_
  refine r_aload_n hb 24 dX9_scored_23 rfl 1 rfl ?_
  refine r_iload_n hb 25 dX9_scored_24 rfl 2 rfl ?_
  refine r_iload_n hb 26 dX9_scored_25 rfl 3 rfl ?_
  refine r_callVR (st := [.int (iI 4), .int (iI ((-10) * ((d : Nat) : Int) + 60))]) hb ho 29 dX9_scored_26 rfl ck_X9_105 (c_X9_before mo rg g D k x s mc vc hD hN hk hs) rfl rfl (mc) rfl rfl (by rw [hR0]; exact ⟨Nat.le_of_ble_eq_true rfl, Nat.le_of_ble_eq_true rfl⟩) (Nat.le_of_ble_eq_true rfl) ⟨rfl, rfl⟩ (by rw [hR0]; exact Nat.zero_le _) (by rw [hR0]; exact Nat.zero_le _) ?_
  refine r_imulZ hb 30 (4 * ((lkB (nP x) D s : Nat) : Int)) dX9_scored_29 rfl (by omega) ?_
  refine r_iaddZ hb 31 ((-10) * ((d : Nat) : Int) + 4 * ((lkB (nP x) D s : Nat) : Int) + 60) dX9_scored_30 rfl (by omega) ?_
  refine r_iconst hb 32 dX9_scored_31 rfl ?_
  refine r_aload_n hb 33 dX9_scored_32 rfl 1 rfl ?_
  refine r_iload_n hb 34 dX9_scored_33 rfl 2 rfl ?_
  refine r_iload_n hb 35 dX9_scored_34 rfl 4 rfl ?_
  refine r_callVR (st := [.int (iI 4), .int (iI ((-10) * ((d : Nat) : Int) + 4 * ((lkB (nP x) D s : Nat) : Int) + 60))]) hb ho 38 dX9_scored_35 rfl ck_X9_108 (c_X9_behind mo rg g D k x e mc vc hD hN hk he) rfl rfl (mc) rfl rfl (by rw [hR0]; exact ⟨Nat.le_of_ble_eq_true rfl, Nat.le_of_ble_eq_true rfl⟩) (Nat.le_of_ble_eq_true rfl) ⟨rfl, rfl⟩ (by rw [hR0]; exact Nat.zero_le _) (by rw [hR0]; exact Nat.zero_le _) ?_
  refine r_imulZ hb 39 (4 * ((lkS (nS x) D e : Nat) : Int)) dX9_scored_38 rfl (by omega) ?_
  refine r_iaddZ hb 40 ((-10) * ((d : Nat) : Int) + 4 * ((lkB (nP x) D s : Nat) : Int) + 4 * ((lkS (nS x) D e : Nat) : Int) + 60) dX9_scored_39 rfl (by omega) ?_
  refine r_iload hb 42 dX9_scored_40 rfl 0 rfl ?_
  refine r_if_ge hb 45 51 dX9_scored_42 rfl (by decide) (by omega) (fun c42 => ?_) (fun c42 => ?_)
  · refine r_iload hb 53 dX9_scored_51 rfl 0 rfl ?_
    refine r_stk [.int (iI (((((s : Int) - (nB x : Int)).natAbs : Nat) : Int))), .int (iI ((-10) * ((d : Nat) : Int) + 4 * ((lkB (nP x) D s : Nat) : Int) + 4 * ((lkS (nS x) D e : Nat) : Int) + 60))] (congrArg (fun zz : Int => ([.int (iI zz), .int (iI ((-10) * ((d : Nat) : Int) + 4 * ((lkB (nP x) D s : Nat) : Int) + 4 * ((lkS (nS x) D e : Nat) : Int) + 60))] : List Value)) (show (((s : Nat) : Int) - ((nB (x) : Nat) : Int)) = (((((s : Int) - (nB x : Int)).natAbs : Nat) : Int)) from by omega)) ?_
    refine r_iconst hb 54 dX9_scored_53 rfl ?_
    refine r_idiv hb 55 dX9_scored_54 rfl (by decide) ?_
    refine r_topz (((((s : Int) - (nB x : Int)).natAbs / 5 : Nat) : Int)) (iI_tdiv5 (by omega)) ?_
    refine r_isubZ hb 56 ((-10) * ((d : Nat) : Int) + 4 * ((lkB (nP x) D s : Nat) : Int) + 4 * ((lkS (nS x) D e : Nat) : Int) - ((((s : Int) - (nB x : Int)).natAbs / 5 : Nat) : Int) + 60) dX9_scored_55 rfl (by omega) ?_
    refine r_iret hS dX9_scored_56 rfl rfl (Nat.zero_le _) (Nat.zero_le _) ?_
    exact ⟨_, rfl, congrArg (fun z => Value.int (iI z)) (by unfold scN; omega), rfl, rfl⟩
  · refine r_iload hb 47 dX9_scored_45 rfl 0 rfl ?_
    refine r_ineg hb 48 dX9_scored_47 rfl ?_
    refine r_topz (-((s : Nat) : Int) + ((nB (x) : Nat) : Int)) ((iI_neg _).trans (congrArg iI (by omega))) ?_
    refine r_goto hb 53 dX9_scored_48 (by decide) ?_
    refine r_stk [.int (iI (((((s : Int) - (nB x : Int)).natAbs : Nat) : Int))), .int (iI ((-10) * ((d : Nat) : Int) + 4 * ((lkB (nP x) D s : Nat) : Int) + 4 * ((lkS (nS x) D e : Nat) : Int) + 60))] (congrArg (fun zz : Int => ([.int (iI zz), .int (iI ((-10) * ((d : Nat) : Int) + 4 * ((lkB (nP x) D s : Nat) : Int) + 4 * ((lkS (nS x) D e : Nat) : Int) + 60))] : List Value)) (show (-((s : Nat) : Int) + ((nB (x) : Nat) : Int)) = (((((s : Int) - (nB x : Int)).natAbs : Nat) : Int)) from by omega)) ?_
    refine r_iconst hb 54 dX9_scored_53 rfl ?_
    refine r_idiv hb 55 dX9_scored_54 rfl (by decide) ?_
    refine r_topz (((((s : Int) - (nB x : Int)).natAbs / 5 : Nat) : Int)) (iI_tdiv5 (by omega)) ?_
    refine r_isubZ hb 56 ((-10) * ((d : Nat) : Int) + 4 * ((lkB (nP x) D s : Nat) : Int) + 4 * ((lkS (nS x) D e : Nat) : Int) - ((((s : Int) - (nB x : Int)).natAbs / 5 : Nat) : Int) + 60) dX9_scored_55 rfl (by omega) ?_
    refine r_iret hS dX9_scored_56 rfl rfl (Nat.zero_le _) (Nat.zero_le _) ?_
    exact ⟨_, rfl, congrArg (fun z => Value.int (iI z)) (by unfold scN; omega), rfl, rfl⟩
