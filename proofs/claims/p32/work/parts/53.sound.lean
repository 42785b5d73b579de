/-! what the law checks of every state -/
abbrev rm_L_sound : Room := { frames := 6, cells := 0, slots := 0, locals := 146 }
set_option maxHeartbeats 4000000 in
set_option maxRecDepth 100000 in
theorem c_L_sound (a : Nat) (W : Int) (B D : List Int32) (l : List Nt) (nx : Nat) (hs : List Pg) (s0 s1 : Option (Pg × Int)) (thr : Int) {w : PW} {n : Nat} (hX : xo w a (B, (D, l, nx), hs, s0, s1, thr)) (hok : pOk (D, l, nx)) (hq : qOk W l) (ht : 0 ≤ thr ∧ thr ≤ 108) (hcap : nx < 1000000) : Ct1 yL_sound cL_sound 11 (some .boolean) rm_L_sound [.ref a, .int (iI (thr))] w n (fun v w1 n1 => v = .int (iI 1) ∧ n = n1 ∧ xo w1 a (B, (D, l, nx), hs, s0, s1, thr) ∧ off w w1 a (a + 729)) := by
  have hO : off w w a (a + 729) := off.rfl' _ _ _
  have hl := pOk_l hok
  have hDl : D.length ≤ 120 := hok.1
  have hll : l.length ≤ 10 := hok.2.2.1
  refine Ctr.of rfl (Nat.le_of_ble_eq_true rfl) fun S hS => ?_
  have hb : S.1.1 = cL_sound := by rw [hS]; rfl
  have ho : S.1.2.1 = RL := by rw [hS]; rfl
  have hnL : S.1.2.2.1 = 11 := by rw [hS]; rfl
  have hR0 : S.2.1 = rm_L_sound := by rw [hS]; rfl
  show Wp S 0 [(0, .ref a), (1, .int (iI (thr)))] [] w n 0 0
  refine r_aload_n hb 1 dL_sound_0 rfl 0 rfl ?_
  refine r_callV1 (st := []) hb ho 4 dL_sound_1 rfl ck_L_24 (c_X8_length a B D l nx hs s0 s1 thr hX) rfl rfl ((xo_cell (T := (B, (D, l, nx), hs, s0, s1, thr)) hX)) rfl rfl (by rw [hR0]; exact ⟨Nat.le_of_ble_eq_true rfl, Nat.le_of_ble_eq_true rfl⟩) (Nat.le_of_ble_eq_true rfl) ⟨rfl, rfl⟩ (by rw [hR0]; exact Nat.zero_le _) (by rw [hR0]; exact Nat.zero_le _) (fun vw_1 w_1 nw_1 qw_1 => ?_)
  obtain ⟨rfl, rfl, hX, ow_1⟩ := qw_1
  have hO := hO.trans ow_1
  rw [rd_length] at hX
  refine r_topz (((D.length : Nat) : Int)) (rfl) ?_
  refine r_if_lt hb 7 54 dL_sound_4 rfl (by decide) (by omega) (fun c4 => ?_) (fun c4 => ?_)
  · exfalso; omega
  · refine r_aload_n hb 8 dL_sound_7 rfl 0 rfl ?_
    refine r_callV1 (st := []) hb ho 11 dL_sound_8 rfl ck_L_24 (c_X8_length a B D l nx hs s0 s1 thr hX) rfl rfl ((xo_cell (T := (B, (D, l, nx), hs, s0, s1, thr)) hX)) rfl rfl (by rw [hR0]; exact ⟨Nat.le_of_ble_eq_true rfl, Nat.le_of_ble_eq_true rfl⟩) (Nat.le_of_ble_eq_true rfl) ⟨rfl, rfl⟩ (by rw [hR0]; exact Nat.zero_le _) (by rw [hR0]; exact Nat.zero_le _) (fun vw_8 w_8 nw_8 qw_8 => ?_)
    obtain ⟨rfl, rfl, hX, ow_8⟩ := qw_8
    have hO := hO.trans ow_8
    rw [rd_length] at hX
    refine r_topz (((D.length : Nat) : Int)) (rfl) ?_
    refine r_bipush 120 hb 13 dL_sound_11 rfl rfl ?_
    refine r_icmp_gt hb 16 54 dL_sound_13 rfl (by decide) (by omega) (by omega) (fun c13 => ?_) (fun c13 => ?_)
    · exfalso; omega
    · refine r_aload_n hb 17 dL_sound_16 rfl 0 rfl ?_
      refine r_callV1 (st := []) hb ho 20 dL_sound_17 rfl ck_L_27 (c_X8_comments a B D l nx hs s0 s1 thr hX) rfl rfl ((xo_cell (T := (B, (D, l, nx), hs, s0, s1, thr)) hX)) rfl rfl (by rw [hR0]; exact ⟨Nat.le_of_ble_eq_true rfl, Nat.le_of_ble_eq_true rfl⟩) (Nat.le_of_ble_eq_true rfl) ⟨rfl, rfl⟩ (by rw [hR0]; exact Nat.zero_le _) (by rw [hR0]; exact Nat.zero_le _) (fun vw_17 w_17 nw_17 qw_17 => ?_)
      obtain ⟨rfl, rfl, hX, ow_17⟩ := qw_17
      have hO := hO.trans ow_17
      rw [rd_comments] at hX
      refine r_topz (((l.length : Nat) : Int)) (rfl) ?_
      refine r_bipush 10 hb 22 dL_sound_20 rfl rfl ?_
      refine r_icmp_gt hb 25 54 dL_sound_22 rfl (by decide) (by omega) (by omega) (fun c22 => ?_) (fun c22 => ?_)
      · exfalso; omega
      · refine r_aload_n hb 26 dL_sound_25 rfl 0 rfl ?_
        refine r_aload_n hb 27 dL_sound_26 rfl 0 rfl ?_
        refine r_callV1 (st := [.ref a]) hb ho 30 dL_sound_27 rfl ck_L_27 (c_X8_comments a B D l nx hs s0 s1 thr hX) rfl rfl ((xo_cell (T := (B, (D, l, nx), hs, s0, s1, thr)) hX)) rfl rfl (by rw [hR0]; exact ⟨Nat.le_of_ble_eq_true rfl, Nat.le_of_ble_eq_true rfl⟩) (Nat.le_of_ble_eq_true rfl) ⟨rfl, rfl⟩ (by rw [hR0]; exact Nat.zero_le _) (by rw [hR0]; exact Nat.zero_le _) (fun vw_27 w_27 nw_27 qw_27 => ?_)
        obtain ⟨rfl, rfl, hX, ow_27⟩ := qw_27
        have hO := hO.trans ow_27
        rw [rd_comments] at hX
        refine r_topz (((l.length : Nat) : Int)) (rfl) ?_
        refine r_callV1 (st := []) hb ho 33 dL_sound_30 rfl ck_L_30 (c_X8_commentAt a B D l nx hs s0 s1 thr (((l.length : Nat) : Int)) hX (by omega)) rfl rfl ((xo_cell (T := (B, (D, l, nx), hs, s0, s1, thr)) hX)) rfl rfl (by rw [hR0]; exact ⟨Nat.le_of_ble_eq_true rfl, Nat.le_of_ble_eq_true rfl⟩) (Nat.le_of_ble_eq_true rfl) ⟨rfl, rfl⟩ (by rw [hR0]; exact Nat.zero_le _) (by rw [hR0]; exact Nat.zero_le _) (fun vw_30 w_30 nw_30 qw_30 => ?_)
        obtain ⟨rfl, rfl, hX, ow_30⟩ := qw_30
        have hO := hO.trans ow_30
        rw [rd_commentAt] at hX
        refine r_topz (-1001) ((e_AtO B D l nx hs s0 s1 thr (Or.inr (Int.le_refl _)))) ?_
        refine r_sipush (-1001) hb 36 dL_sound_33 rfl rfl ?_
        refine r_icmp_ne hb 39 54 dL_sound_36 rfl (by decide) (by omega) (by omega) (fun c36 => ?_) (fun c36 => ?_)
        · exfalso; omega
        · refine r_aload_n hb 40 dL_sound_39 rfl 0 rfl ?_
          refine r_iconst hb 41 dL_sound_40 rfl ?_
          refine r_callV1 (st := []) hb ho 44 dL_sound_41 rfl ck_L_30 (c_X8_commentAt a B D l nx hs s0 s1 thr (-1) hX (by omega)) rfl rfl ((xo_cell (T := (B, (D, l, nx), hs, s0, s1, thr)) hX)) rfl rfl (by rw [hR0]; exact ⟨Nat.le_of_ble_eq_true rfl, Nat.le_of_ble_eq_true rfl⟩) (Nat.le_of_ble_eq_true rfl) ⟨rfl, rfl⟩ (by rw [hR0]; exact Nat.zero_le _) (by rw [hR0]; exact Nat.zero_le _) (fun vw_41 w_41 nw_41 qw_41 => ?_)
          obtain ⟨rfl, rfl, hX, ow_41⟩ := qw_41
          have hO := hO.trans ow_41
          rw [rd_commentAt] at hX
          refine r_topz (-1001) ((e_AtO B D l nx hs s0 s1 thr (Or.inl (by decide)))) ?_
          refine r_sipush (-1001) hb 47 dL_sound_44 rfl rfl ?_
          refine r_icmp_ne hb 50 54 dL_sound_47 rfl (by decide) (by omega) (by omega) (fun c47 => ?_) (fun c47 => ?_)
          · exfalso; omega
          · refine r_iconst hb 51 dL_sound_50 rfl ?_
            refine r_goto hb 55 dL_sound_51 (by decide) ?_
            refine r_istore_n [(2, .int (iI 1)), (0, .ref a), (1, .int (iI (thr)))] hb 56 11 dL_sound_55 rfl rfl hnL (by decide) rfl ?_
            refine r_iconst hb 57 dL_sound_56 rfl ?_
            refine r_istore_n [(3, .int (iI 0)), (2, .int (iI 1)), (0, .ref a), (1, .int (iI (thr)))] hb 58 11 dL_sound_57 rfl rfl hnL (by decide) rfl ?_
            have lp : ∀ (d : Nat) (i : Nat) (wi : PW), l.length - i = d → (i ≤ l.length) → (xo wi a (B, (D, l, nx), hs, s0, s1, thr)) → (off w wi a (a + 729)) → Wp S 58 [(3, .int (iI (((i : Nat) : Int)))), (2, .int (iI 1)), (0, .ref a), (1, .int (iI (thr)))] [] wi n 0 0 := by
              intro d
              induction d using Nat.strongRecOn with
              | _ d ih_lp =>
                intro i wi hd_lp hi0 hX hO
                refine r_iload_n hb 59 dL_sound_58 rfl 0 rfl ?_
                refine r_aload_n hb 60 dL_sound_59 rfl 2 rfl ?_
                refine r_callV1 (st := [.int (iI (((i : Nat) : Int)))]) hb ho 63 dL_sound_60 rfl ck_L_27 (c_X8_comments a B D l nx hs s0 s1 thr hX) rfl rfl ((xo_cell (T := (B, (D, l, nx), hs, s0, s1, thr)) hX)) rfl rfl (by rw [hR0]; exact ⟨Nat.le_of_ble_eq_true rfl, Nat.le_of_ble_eq_true rfl⟩) (Nat.le_of_ble_eq_true rfl) ⟨rfl, rfl⟩ (by rw [hR0]; exact Nat.zero_le _) (by rw [hR0]; exact Nat.zero_le _) (fun vw_60 w_60 nw_60 qw_60 => ?_)
                obtain ⟨rfl, rfl, hX, ow_60⟩ := qw_60
                have hO := hO.trans ow_60
                rw [rd_comments] at hX
                refine r_topz (((l.length : Nat) : Int)) (rfl) ?_
                refine r_icmp_ge hb 66 427 dL_sound_63 rfl (by decide) (by omega) (by omega) (fun c63 => ?_) (fun c63 => ?_)
                · refine r_iload_n hb 428 dL_sound_427 rfl 1 rfl ?_
                  refine r_if_eq hb 431 444 dL_sound_428 rfl (by decide) (by omega) (fun c428 => ?_) (fun c428 => ?_)
                  · exfalso; omega
                  · refine r_aload_n hb 432 dL_sound_431 rfl 2 rfl ?_
                    refine r_iload_n hb 433 dL_sound_432 rfl 3 rfl ?_
                    refine r_callV1 (st := []) hb ho 436 dL_sound_433 rfl ck_L_63 (c_X8_setThreshold a B D l nx hs s0 s1 thr (thr) hX (by omega)) rfl rfl ((xo_cell (T := (B, (D, l, nx), hs, s0, s1, thr)) hX)) rfl rfl (by rw [hR0]; exact ⟨Nat.le_of_ble_eq_true rfl, Nat.le_of_ble_eq_true rfl⟩) (Nat.le_of_ble_eq_true rfl) ⟨rfl, rfl⟩ (by rw [hR0]; exact Nat.zero_le _) (by rw [hR0]; exact Nat.zero_le _) (fun vw_433 w_433 nw_433 qw_433 => ?_)
                    obtain ⟨rfl, rfl, hX, ow_433⟩ := qw_433
                    have hO := hO.trans ow_433
                    have hX : xo w_433 a (B, (D, l, nx), hs, s0, s1, thr) := by rw [e_Thr B D l nx hs s0 s1 thr ht] at hX; exact hX
                    refine r_topz (thr) (by rw [e_Thr B D l nx hs s0 s1 thr ht]) ?_
                    refine r_iload_n hb 437 dL_sound_436 rfl 3 rfl ?_
                    refine r_icmp_ne hb 440 444 dL_sound_437 rfl (by decide) (by omega) (by omega) (fun c437 => ?_) (fun c437 => ?_)
                    · exfalso; omega
                    · refine r_iconst hb 441 dL_sound_440 rfl ?_
                      refine r_goto hb 445 dL_sound_441 (by decide) ?_
                      refine r_iret hS dL_sound_445 rfl rfl (Nat.zero_le _) (Nat.zero_le _) ?_
                      exact ⟨_, rfl, rfl, rfl, hX, hO⟩
                · have hi : i < l.length := by omega
                  have hx := (pOk_l hok).1 i hi
                  obtain ⟨hx0, hx1, hx2, hx3⟩ := id hx
                  obtain ⟨hp1, hp2⟩ := hq.1 i hi
                  refine r_iload_n hb 67 dL_sound_66 rfl 1 rfl ?_
                  refine r_if_eq hb 70 427 dL_sound_67 rfl (by decide) (by omega) (fun c67 => ?_) (fun c67 => ?_)
                  · exfalso; omega
                  · refine r_aload_n hb 71 dL_sound_70 rfl 2 rfl ?_
                    refine r_iload_n hb 72 dL_sound_71 rfl 0 rfl ?_
                    refine r_callV1 (st := []) hb ho 75 dL_sound_72 rfl ck_L_30 (c_X8_commentAt a B D l nx hs s0 s1 thr (((i : Nat) : Int)) hX (by omega)) rfl rfl ((xo_cell (T := (B, (D, l, nx), hs, s0, s1, thr)) hX)) rfl rfl (by rw [hR0]; exact ⟨Nat.le_of_ble_eq_true rfl, Nat.le_of_ble_eq_true rfl⟩) (Nat.le_of_ble_eq_true rfl) ⟨rfl, rfl⟩ (by rw [hR0]; exact Nat.zero_le _) (by rw [hR0]; exact Nat.zero_le _) (fun vw_72 w_72 nw_72 qw_72 => ?_)
                    obtain ⟨rfl, rfl, hX, ow_72⟩ := qw_72
                    have hO := hO.trans ow_72
                    rw [rd_commentAt] at hX
                    refine r_topz (((nNum (lg l i) : Nat) : Int)) ((e_At B D l nx hs s0 s1 thr hi)) ?_
                    refine r_istore [(4, .int (iI (((nNum (lg l i) : Nat) : Int)))), (3, .int (iI (((i : Nat) : Int)))), (2, .int (iI 1)), (0, .ref a), (1, .int (iI (thr)))] hb 77 11 dL_sound_75 rfl hnL (by decide) rfl ?_
                    refine r_aload_n hb 78 dL_sound_77 rfl 3 rfl ?_
                    refine r_iload hb 80 dL_sound_78 rfl 0 rfl ?_
                    refine r_iconst hb 81 dL_sound_80 rfl ?_
                    refine r_topv (.int (bI (false))) (rfl) ?_
                    refine r_callV1 (st := []) hb ho 84 dL_sound_81 rfl ck_L_33 (c_X8_range a B D l nx hs s0 s1 thr (((nNum (lg l i) : Nat) : Int)) false hX (by omega)) rfl rfl ((xo_cell (T := (B, (D, l, nx), hs, s0, s1, thr)) hX)) rfl rfl (by rw [hR0]; exact ⟨Nat.le_of_ble_eq_true rfl, Nat.le_of_ble_eq_true rfl⟩) (Nat.le_of_ble_eq_true rfl) ⟨rfl, rfl⟩ (by rw [hR0]; exact Nat.zero_le _) (by rw [hR0]; exact Nat.zero_le _) (fun vw_81 w_81 nw_81 qw_81 => ?_)
                    obtain ⟨rfl, rfl, hX, ow_81⟩ := qw_81
                    have hO := hO.trans ow_81
                    rw [rd_range] at hX
                    refine r_topz (((nB (lg l i) : Nat) : Int)) ((e_Ran B D l nx hs s0 s1 thr (ixN_self hl hi) hi false).trans rfl) ?_
                    refine r_istore [(5, .int (iI (((nB (lg l i) : Nat) : Int)))), (4, .int (iI (((nNum (lg l i) : Nat) : Int)))), (3, .int (iI (((i : Nat) : Int)))), (2, .int (iI 1)), (0, .ref a), (1, .int (iI (thr)))] hb 86 11 dL_sound_84 rfl hnL (by decide) rfl ?_
                    refine r_aload_n hb 87 dL_sound_86 rfl 4 rfl ?_
                    refine r_iload hb 89 dL_sound_87 rfl 1 rfl ?_
                    refine r_iconst hb 90 dL_sound_89 rfl ?_
                    refine r_topv (.int (bI (true))) (rfl) ?_
                    refine r_callV1 (st := []) hb ho 93 dL_sound_90 rfl ck_L_33 (c_X8_range a B D l nx hs s0 s1 thr (((nNum (lg l i) : Nat) : Int)) true hX (by omega)) rfl rfl ((xo_cell (T := (B, (D, l, nx), hs, s0, s1, thr)) hX)) rfl rfl (by rw [hR0]; exact ⟨Nat.le_of_ble_eq_true rfl, Nat.le_of_ble_eq_true rfl⟩) (Nat.le_of_ble_eq_true rfl) ⟨rfl, rfl⟩ (by rw [hR0]; exact Nat.zero_le _) (by rw [hR0]; exact Nat.zero_le _) (fun vw_90 w_90 nw_90 qw_90 => ?_)
                    obtain ⟨rfl, rfl, hX, ow_90⟩ := qw_90
                    have hO := hO.trans ow_90
                    rw [rd_range] at hX
                    refine r_topz (((nE (lg l i) : Nat) : Int)) ((e_Ran B D l nx hs s0 s1 thr (ixN_self hl hi) hi true).trans rfl) ?_
                    refine r_istore [(6, .int (iI (((nE (lg l i) : Nat) : Int)))), (5, .int (iI (((nB (lg l i) : Nat) : Int)))), (4, .int (iI (((nNum (lg l i) : Nat) : Int)))), (3, .int (iI (((i : Nat) : Int)))), (2, .int (iI 1)), (0, .ref a), (1, .int (iI (thr)))] hb 95 11 dL_sound_93 rfl hnL (by decide) rfl ?_
                    have j111 : ∀ (wj : PW), (xo wj a (B, (D, l, nx), hs, s0, s1, thr)) → (off w wj a (a + 729)) → Wp S 111 [(6, .int (iI (((nE (lg l i) : Nat) : Int)))), (5, .int (iI (((nB (lg l i) : Nat) : Int)))), (4, .int (iI (((nNum (lg l i) : Nat) : Int)))), (3, .int (iI (((i : Nat) : Int)))), (2, .int (iI 1)), (0, .ref a), (1, .int (iI (thr)))] [] wj n 0 0 := by
                      intro wj hX hO
                      refine r_iload hb 113 dL_sound_111 rfl 1 rfl ?_
                      refine r_if_lt hb 116 191 dL_sound_113 rfl (by decide) (by omega) (fun c113 => ?_) (fun c113 => ?_)
                      · exfalso; omega
                      · refine r_iload hb 118 dL_sound_116 rfl 1 rfl ?_
                        refine r_iload hb 120 dL_sound_118 rfl 0 rfl ?_
                        refine r_icmp_gt hb 123 191 dL_sound_120 rfl (by decide) (by omega) (by omega) (fun c120 => ?_) (fun c120 => ?_)
                        · exfalso; omega
                        · refine r_iload hb 125 dL_sound_123 rfl 0 rfl ?_
                          refine r_aload_n hb 126 dL_sound_125 rfl 5 rfl ?_
                          refine r_callV1 (st := [.int (iI (((nE (lg l i) : Nat) : Int)))]) hb ho 129 dL_sound_126 rfl ck_L_24 (c_X8_length a B D l nx hs s0 s1 thr hX) rfl rfl ((xo_cell (T := (B, (D, l, nx), hs, s0, s1, thr)) hX)) rfl rfl (by rw [hR0]; exact ⟨Nat.le_of_ble_eq_true rfl, Nat.le_of_ble_eq_true rfl⟩) (Nat.le_of_ble_eq_true rfl) ⟨rfl, rfl⟩ (by rw [hR0]; exact Nat.zero_le _) (by rw [hR0]; exact Nat.zero_le _) (fun vw_126 w_126 nw_126 qw_126 => ?_)
                          obtain ⟨rfl, rfl, hX, ow_126⟩ := qw_126
                          have hO := hO.trans ow_126
                          rw [rd_length] at hX
                          refine r_topz (((D.length : Nat) : Int)) (rfl) ?_
                          refine r_icmp_gt hb 132 191 dL_sound_129 rfl (by decide) (by omega) (by omega) (fun c129 => ?_) (fun c129 => ?_)
                          · exfalso; omega
                          · refine r_aload_n hb 133 dL_sound_132 rfl 5 rfl ?_
                            refine r_iload hb 135 dL_sound_133 rfl 2 rfl ?_
                            refine r_callV1 (st := []) hb ho 138 dL_sound_135 rfl ck_L_37 (c_X8_state a B D l nx hs s0 s1 thr (((nNum (lg l i) : Nat) : Int)) hX (by omega)) rfl rfl ((xo_cell (T := (B, (D, l, nx), hs, s0, s1, thr)) hX)) rfl rfl (by rw [hR0]; exact ⟨Nat.le_of_ble_eq_true rfl, Nat.le_of_ble_eq_true rfl⟩) (Nat.le_of_ble_eq_true rfl) ⟨rfl, rfl⟩ (by rw [hR0]; exact Nat.zero_le _) (by rw [hR0]; exact Nat.zero_le _) (fun vw_135 w_135 nw_135 qw_135 => ?_)
                            obtain ⟨rfl, rfl, hX, ow_135⟩ := qw_135
                            have hO := hO.trans ow_135
                            rw [rd_state] at hX
                            refine r_topv (.int (bI (nK (lg l i)))) (congrArg Value.int (e_Sta B D l nx hs s0 s1 thr (ixN_self hl hi) hi)) ?_
                            have j148 : Wp S 148 [(6, .int (iI (((nE (lg l i) : Nat) : Int)))), (5, .int (iI (((nB (lg l i) : Nat) : Int)))), (4, .int (iI (((nNum (lg l i) : Nat) : Int)))), (3, .int (iI (((i : Nat) : Int)))), (2, .int (iI 1)), (0, .ref a), (1, .int (iI (thr)))] [] w_135 n 0 0 := by
                              refine r_aload_n hb 149 dL_sound_148 rfl 5 rfl ?_
                              refine r_iload hb 151 dL_sound_149 rfl 2 rfl ?_
                              refine r_callV1 (st := []) hb ho 154 dL_sound_151 rfl ck_L_40 (c_X8_weight a B D l nx hs s0 s1 thr (((nNum (lg l i) : Nat) : Int)) hX (by omega)) rfl rfl ((xo_cell (T := (B, (D, l, nx), hs, s0, s1, thr)) hX)) rfl rfl (by rw [hR0]; exact ⟨Nat.le_of_ble_eq_true rfl, Nat.le_of_ble_eq_true rfl⟩) (Nat.le_of_ble_eq_true rfl) ⟨rfl, rfl⟩ (by rw [hR0]; exact Nat.zero_le _) (by rw [hR0]; exact Nat.zero_le _) (fun vw_151 w_151 nw_151 qw_151 => ?_)
                              obtain ⟨rfl, rfl, hX, ow_151⟩ := qw_151
                              have hO := hO.trans ow_151
                              rw [rd_weight] at hX
                              refine r_topz (((nW (lg l i)).toInt)) ((e_Wei B D l nx hs s0 s1 thr (ixN_self hl hi) hi).trans (iI_of _).symm) ?_
                              have hwb := iI_bd (nW (lg l i))
                              refine r_if_le hb 157 191 dL_sound_154 rfl (by decide) (by omega) (fun c154 => ?_) (fun c154 => ?_)
                              · exfalso; omega
                              · refine r_aload_n hb 158 dL_sound_157 rfl 5 rfl ?_
                                refine r_iload hb 160 dL_sound_158 rfl 2 rfl ?_
                                refine r_iconst hb 161 dL_sound_160 rfl ?_
                                refine r_iconst hb 162 dL_sound_161 rfl ?_
                                refine r_callV1 (st := []) hb ho 165 dL_sound_162 rfl ck_L_43 (c_X8_quoted a B D l nx hs s0 s1 thr (((nNum (lg l i) : Nat) : Int)) 3 0 hX (by omega) (by omega) (by omega)) rfl rfl ((xo_cell (T := (B, (D, l, nx), hs, s0, s1, thr)) hX)) rfl rfl (by rw [hR0]; exact ⟨Nat.le_of_ble_eq_true rfl, Nat.le_of_ble_eq_true rfl⟩) (Nat.le_of_ble_eq_true rfl) ⟨rfl, rfl⟩ (by rw [hR0]; exact Nat.zero_le _) (by rw [hR0]; exact Nat.zero_le _) (fun vw_162 w_162 nw_162 qw_162 => ?_)
                                obtain ⟨rfl, rfl, hX, ow_162⟩ := qw_162
                                have hO := hO.trans ow_162
                                rw [rd_quoted] at hX
                                refine r_topz (-1002) ((e_Qtd3 B D l nx hs s0 s1 thr (ixN_self hl hi) hi)) ?_
                                refine r_sipush (-1002) hb 168 dL_sound_165 rfl rfl ?_
                                refine r_icmp_ne hb 171 191 dL_sound_168 rfl (by decide) (by omega) (by omega) (fun c168 => ?_) (fun c168 => ?_)
                                · exfalso; omega
                                · refine r_aload_n hb 172 dL_sound_171 rfl 5 rfl ?_
                                  refine r_iload hb 174 dL_sound_172 rfl 2 rfl ?_
                                  refine r_iload hb 176 dL_sound_174 rfl 2 rfl ?_
                                  refine r_callV1 (st := []) hb ho 179 dL_sound_176 rfl ck_L_47 (c_X8_overlap a B D l nx hs s0 s1 thr (((nNum (lg l i) : Nat) : Int)) (((nNum (lg l i) : Nat) : Int)) hX (by omega) (by omega)) rfl rfl ((xo_cell (T := (B, (D, l, nx), hs, s0, s1, thr)) hX)) rfl rfl (by rw [hR0]; exact ⟨Nat.le_of_ble_eq_true rfl, Nat.le_of_ble_eq_true rfl⟩) (Nat.le_of_ble_eq_true rfl) ⟨rfl, rfl⟩ (by rw [hR0]; exact Nat.zero_le _) (by rw [hR0]; exact Nat.zero_le _) (fun vw_176 w_176 nw_176 qw_176 => ?_)
                                  obtain ⟨rfl, rfl, hX, ow_176⟩ := qw_176
                                  have hO := hO.trans ow_176
                                  rw [rd_overlap] at hX
                                  refine r_topz (((nE (lg l i) : Nat) : Int) - ((nB (lg l i) : Nat) : Int)) ((e_Ove B D l nx hs s0 s1 thr (ixN_self hl hi) hi hx1)) ?_
                                  refine r_iload hb 181 dL_sound_179 rfl 0 rfl ?_
                                  refine r_iload hb 183 dL_sound_181 rfl 1 rfl ?_
                                  refine r_isubZ hb 184 (((nE (lg l i) : Nat) : Int) - ((nB (lg l i) : Nat) : Int)) dL_sound_183 rfl (by omega) ?_
                                  refine r_icmp_ne hb 187 191 dL_sound_184 rfl (by decide) (by omega) (by omega) (fun c184 => ?_) (fun c184 => ?_)
                                  · exfalso; omega
                                  · refine r_iconst hb 188 dL_sound_187 rfl ?_
                                    refine r_goto hb 192 dL_sound_188 (by decide) ?_
                                    refine r_istore_n [(2, .int (iI 1)), (6, .int (iI (((nE (lg l i) : Nat) : Int)))), (5, .int (iI (((nB (lg l i) : Nat) : Int)))), (4, .int (iI (((nNum (lg l i) : Nat) : Int)))), (3, .int (iI (((i : Nat) : Int)))), (0, .ref a), (1, .int (iI (thr)))] hb 193 11 dL_sound_192 rfl rfl hnL (by decide) rfl ?_
                                    refine r_aload_n hb 194 dL_sound_193 rfl 5 rfl ?_
                                    refine r_iload hb 196 dL_sound_194 rfl 3 rfl ?_
                                    refine r_iconst hb 197 dL_sound_196 rfl ?_
                                    refine r_callV1 (st := []) hb ho 200 dL_sound_197 rfl ck_L_51 (c_X8_best a B D l nx hs s0 s1 thr (((nNum (lg l i) : Nat) : Int)) 0 hX (by omega) (by omega) hok) rfl rfl ((xo_cell (T := (B, (D, l, nx), hs, s0, s1, thr)) hX)) rfl rfl (by rw [hR0]; exact ⟨Nat.le_of_ble_eq_true rfl, Nat.le_of_ble_eq_true rfl⟩) (Nat.le_of_ble_eq_true rfl) ⟨rfl, rfl⟩ (by rw [hR0]; exact Nat.zero_le _) (by rw [hR0]; exact Nat.zero_le _) (fun vw_197 w_197 nw_197 qw_197 => ?_)
                                    obtain ⟨rfl, rfl, hX, ow_197⟩ := qw_197
                                    have hO := hO.trans ow_197
                                    rw [rd_best] at hX
                                    refine r_topz ((gB0 (fB (lg l i) D))) ((e_Bes0 B D l nx hs s0 s1 thr (ixN_self hl hi) hi)) ?_
                                    have hb0 := best_none hx0 (D := D) hDl
                                    have hgb : -1005 ≤ gB0 (fB (lg l i) D) ∧ gB0 (fB (lg l i) D) ≤ 108 := by
                                      rcases hb0 with h | ⟨r, h, h1, h2, -⟩
                                      · rw [h]; omega
                                      · rw [h]; simp only [gB0]; omega
                                    refine r_istore [(7, .int (iI ((gB0 (fB (lg l i) D))))), (2, .int (iI 1)), (6, .int (iI (((nE (lg l i) : Nat) : Int)))), (5, .int (iI (((nB (lg l i) : Nat) : Int)))), (4, .int (iI (((nNum (lg l i) : Nat) : Int)))), (3, .int (iI (((i : Nat) : Int)))), (0, .ref a), (1, .int (iI (thr)))] hb 202 11 dL_sound_200 rfl hnL (by decide) rfl ?_
                                    have j322 : ∀ (wj : PW), (xo wj a (B, (D, l, nx), hs, s0, s1, thr)) → (off w wj a (a + 729)) → Wp S 322 [(7, .int (iI ((gB0 (fB (lg l i) D))))), (6, .int (iI (((nE (lg l i) : Nat) : Int)))), (5, .int (iI (((nB (lg l i) : Nat) : Int)))), (4, .int (iI (((nNum (lg l i) : Nat) : Int)))), (3, .int (iI (((i : Nat) : Int)))), (2, .int (iI 1)), (0, .ref a), (1, .int (iI (thr)))] [] wj n 0 0 := by
                                      intro wj hX hO
                                      refine r_iload_n hb 323 dL_sound_322 rfl 5 rfl ?_
                                      refine r_if_eq hb 326 421 dL_sound_323 rfl (by decide) (by omega) (fun c323 => ?_) (fun c323 => ?_)
                                      · exfalso; omega
                                      · refine r_aload_n hb 327 dL_sound_326 rfl 6 rfl ?_
                                        refine r_iload hb 329 dL_sound_327 rfl 3 rfl ?_
                                        refine r_callV1 (st := []) hb ho 332 dL_sound_329 rfl ck_L_37 (c_X8_state a B D l nx hs s0 s1 thr (((nNum (lg l i) : Nat) : Int)) hX (by omega)) rfl rfl ((xo_cell (T := (B, (D, l, nx), hs, s0, s1, thr)) hX)) rfl rfl (by rw [hR0]; exact ⟨Nat.le_of_ble_eq_true rfl, Nat.le_of_ble_eq_true rfl⟩) (Nat.le_of_ble_eq_true rfl) ⟨rfl, rfl⟩ (by rw [hR0]; exact Nat.zero_le _) (by rw [hR0]; exact Nat.zero_le _) (fun vw_329 w_329 nw_329 qw_329 => ?_)
                                        obtain ⟨rfl, rfl, hX, ow_329⟩ := qw_329
                                        have hO := hO.trans ow_329
                                        rw [rd_state] at hX
                                        refine r_topv (.int (bI (nK (lg l i)))) (congrArg Value.int (e_Sta B D l nx hs s0 s1 thr (ixN_self hl hi) hi)) ?_
                                        refine r_iconst hb 333 dL_sound_332 rfl ?_
                                        refine r_icmpB_ne hb 336 421 dL_sound_333 rfl (by decide) (fun c333 => ?_) (fun c333 => ?_)
                                        · refine r_iinc [(3, .int (iI (((i : Nat) : Int) + 1))), (7, .int (iI ((gB0 (fB (lg l i) D))))), (6, .int (iI (((nE (lg l i) : Nat) : Int)))), (5, .int (iI (((nB (lg l i) : Nat) : Int)))), (4, .int (iI (((nNum (lg l i) : Nat) : Int)))), (2, .int (iI 1)), (0, .ref a), (1, .int (iI (thr)))] hb 424 11 4 dL_sound_421 rfl rfl hnL (by decide) (((i : Nat) : Int) + 1) (by omega) rfl ?_
                                          refine r_goto hb 58 dL_sound_424 (by decide) ?_
                                          refine r_lv [(3, .int (iI ((((i + 1 : Nat) : Nat) : Int)))), (2, .int (iI 1)), (0, .ref a), (1, .int (iI (thr)))] [0, 5, 6, 7] (rfl) ?_
                                          exact ih_lp (l.length - (i + 1)) (by omega) (i + 1) _ rfl (by omega) hX hO
                                        · refine r_aload_n hb 337 dL_sound_336 rfl 6 rfl ?_
                                          refine r_iload hb 339 dL_sound_337 rfl 3 rfl ?_
                                          refine r_callV1 (st := []) hb ho 342 dL_sound_339 rfl ck_L_57 (c_X8_distance a B D l nx hs s0 s1 thr (((nNum (lg l i) : Nat) : Int)) hX (by omega) hok) rfl rfl ((xo_cell (T := (B, (D, l, nx), hs, s0, s1, thr)) hX)) rfl rfl (by rw [hR0]; exact ⟨Nat.le_of_ble_eq_true rfl, Nat.le_of_ble_eq_true rfl⟩) (Nat.le_of_ble_eq_true rfl) ⟨rfl, rfl⟩ (by rw [hR0]; exact Nat.zero_le _) (by rw [hR0]; exact Nat.zero_le _) (fun vw_339 w_339 nw_339 qw_339 => ?_)
                                          obtain ⟨rfl, rfl, hX, ow_339⟩ := qw_339
                                          have hO := hO.trans ow_339
                                          rw [rd_distance] at hX
                                          refine r_topz (((edD (nQ (lg l i)) D (nB (lg l i)) (nE (lg l i)) : Nat) : Int)) ((e_Dis B D l nx hs s0 s1 thr (ixN_self hl hi) hi c333)) ?_
                                          have hedb : edD (nQ (lg l i)) D (nB (lg l i)) (nE (lg l i)) ≤ 1000 := by have h := edK_le (nQ (lg l i)) D (nB (lg l i)) (nE (lg l i) - nB (lg l i)) (nQ (lg l i)).length; have h2 := hx0.2.1; unfold edD; omega
                                          refine r_if_ne hb 345 421 dL_sound_342 rfl (by decide) (by omega) (fun c342 => ?_) (fun c342 => ?_)
                                          · refine r_iinc [(3, .int (iI (((i : Nat) : Int) + 1))), (7, .int (iI ((gB0 (fB (lg l i) D))))), (6, .int (iI (((nE (lg l i) : Nat) : Int)))), (5, .int (iI (((nB (lg l i) : Nat) : Int)))), (4, .int (iI (((nNum (lg l i) : Nat) : Int)))), (2, .int (iI 1)), (0, .ref a), (1, .int (iI (thr)))] hb 424 11 4 dL_sound_421 rfl rfl hnL (by decide) (((i : Nat) : Int) + 1) (by omega) rfl ?_
                                            refine r_goto hb 58 dL_sound_424 (by decide) ?_
                                            refine r_lv [(3, .int (iI ((((i + 1 : Nat) : Nat) : Int)))), (2, .int (iI 1)), (0, .ref a), (1, .int (iI (thr)))] [0, 5, 6, 7] (rfl) ?_
                                            exact ih_lp (l.length - (i + 1)) (by omega) (i + 1) _ rfl (by omega) hX hO
                                          · have hlen := edD_len0 (q := nQ (lg l i)) (D := D) (s := nB (lg l i)) (e := nE (lg l i)) (by omega)
                                            have hed0 : edD (nQ (lg l i)) D (nB (lg l i)) (nE (lg l i)) = 0 := by omega
                                            have hq16 := hx0.2.1
                                            have hlt := hp1 c333
                                            refine r_aload_n hb 346 dL_sound_345 rfl 6 rfl ?_
                                            refine r_iload hb 348 dL_sound_346 rfl 3 rfl ?_
                                            refine r_iload hb 350 dL_sound_348 rfl 2 rfl ?_
                                            refine r_iload hb 352 dL_sound_350 rfl 1 rfl ?_
                                            refine r_callV1 (st := []) hb ho 355 dL_sound_352 rfl ck_L_54 (c_X8_score a B D l nx hs s0 s1 thr (((nNum (lg l i) : Nat) : Int)) (((nB (lg l i) : Nat) : Int)) (((nE (lg l i) : Nat) : Int)) hX (by omega) (by omega) (by omega) hok) rfl rfl ((xo_cell (T := (B, (D, l, nx), hs, s0, s1, thr)) hX)) rfl rfl (by rw [hR0]; exact ⟨Nat.le_of_ble_eq_true rfl, Nat.le_of_ble_eq_true rfl⟩) (Nat.le_of_ble_eq_true rfl) ⟨rfl, rfl⟩ (by rw [hR0]; exact Nat.zero_le _) (by rw [hR0]; exact Nat.zero_le _) (fun vw_352 w_352 nw_352 qw_352 => ?_)
                                            obtain ⟨rfl, rfl, hX, ow_352⟩ := qw_352
                                            have hO := hO.trans ow_352
                                            rw [rd_score] at hX
                                            refine r_topz ((scN (lg l i) D (nB (lg l i)) (nE (lg l i)) (edD (nQ (lg l i)) D (nB (lg l i)) (nE (lg l i))))) ((e_Sco B D l nx hs s0 s1 thr (ixN_self hl hi) hi hlt hx2 (by omega))) ?_
                                            have hscb := scN_bd hx0 D (s := nB (lg l i)) (e := nE (lg l i)) (d := edD (nQ (lg l i)) D (nB (lg l i)) (nE (lg l i))) (by have h := edK_le (nQ (lg l i)) D (nB (lg l i)) (nE (lg l i) - nB (lg l i)) (nQ (lg l i)).length; have h2 := hx0.2.1; unfold edD; omega) hx0.2.2.2.1
                                            have hs60 := sc60 (x := lg l i) (D := D) hed0
                                            have hge := fB_ge (x := lg l i) (D := D) hlt (by omega) (by omega) hx2
                                            refine r_bipush 60 hb 357 dL_sound_355 rfl rfl ?_
                                            refine r_icmp_lt hb 360 371 dL_sound_357 rfl (by decide) (by omega) (by omega) (fun c357 => ?_) (fun c357 => ?_)
                                            · exfalso; omega
                                            · refine r_iload hb 362 dL_sound_360 rfl 0 rfl ?_
                                              refine r_bipush 60 hb 364 dL_sound_362 rfl rfl ?_
                                              refine r_icmp_lt hb 367 371 dL_sound_364 rfl (by decide) (by omega) (by omega) (fun c364 => ?_) (fun c364 => ?_)
                                              · exfalso; omega
                                              · refine r_iconst hb 368 dL_sound_367 rfl ?_
                                                refine r_goto hb 372 dL_sound_368 (by decide) ?_
                                                refine r_istore_n [(2, .int (iI 1)), (7, .int (iI ((gB0 (fB (lg l i) D))))), (6, .int (iI (((nE (lg l i) : Nat) : Int)))), (5, .int (iI (((nB (lg l i) : Nat) : Int)))), (4, .int (iI (((nNum (lg l i) : Nat) : Int)))), (3, .int (iI (((i : Nat) : Int)))), (0, .ref a), (1, .int (iI (thr)))] hb 373 11 dL_sound_372 rfl rfl hnL (by decide) rfl ?_
                                                refine r_iload hb 375 dL_sound_373 rfl 3 rfl ?_
                                                refine r_istore [(9, .int (iI (((nB (lg l i) : Nat) : Int)))), (2, .int (iI 1)), (7, .int (iI ((gB0 (fB (lg l i) D))))), (6, .int (iI (((nE (lg l i) : Nat) : Int)))), (5, .int (iI (((nB (lg l i) : Nat) : Int)))), (4, .int (iI (((nNum (lg l i) : Nat) : Int)))), (3, .int (iI (((i : Nat) : Int)))), (0, .ref a), (1, .int (iI (thr)))] hb 377 11 dL_sound_375 rfl hnL (by decide) rfl ?_
                                                have lq : ∀ (d : Nat) (p : Nat) (wq : PW), nE (lg l i) - p = d → (nB (lg l i) ≤ p) → (p ≤ nE (lg l i)) → (xo wq a (B, (D, l, nx), hs, s0, s1, thr)) → (off w wq a (a + 729)) → Wp S 377 [(9, .int (iI (((p : Nat) : Int)))), (7, .int (iI ((gB0 (fB (lg l i) D))))), (6, .int (iI (((nE (lg l i) : Nat) : Int)))), (5, .int (iI (((nB (lg l i) : Nat) : Int)))), (4, .int (iI (((nNum (lg l i) : Nat) : Int)))), (3, .int (iI (((i : Nat) : Int)))), (2, .int (iI 1)), (0, .ref a), (1, .int (iI (thr)))] [] wq n 0 0 := by
                                                  intro d
                                                  induction d using Nat.strongRecOn with
                                                  | _ d ih_lq =>
                                                    intro p wq hd_lq hpl hpe hX hO
                                                    refine r_iload hb 379 dL_sound_377 rfl 0 rfl ?_
                                                    refine r_iload hb 381 dL_sound_379 rfl 2 rfl ?_
                                                    refine r_icmp_ge hb 384 421 dL_sound_381 rfl (by decide) (by omega) (by omega) (fun c381 => ?_) (fun c381 => ?_)
                                                    · refine r_iinc [(3, .int (iI (((i : Nat) : Int) + 1))), (9, .int (iI (((p : Nat) : Int)))), (7, .int (iI ((gB0 (fB (lg l i) D))))), (6, .int (iI (((nE (lg l i) : Nat) : Int)))), (5, .int (iI (((nB (lg l i) : Nat) : Int)))), (4, .int (iI (((nNum (lg l i) : Nat) : Int)))), (2, .int (iI 1)), (0, .ref a), (1, .int (iI (thr)))] hb 424 11 5 dL_sound_421 rfl rfl hnL (by decide) (((i : Nat) : Int) + 1) (by omega) rfl ?_
                                                      refine r_goto hb 58 dL_sound_424 (by decide) ?_
                                                      refine r_lv [(3, .int (iI ((((i + 1 : Nat) : Nat) : Int)))), (2, .int (iI 1)), (0, .ref a), (1, .int (iI (thr)))] [0, 6, 7, 8] (rfl) ?_
                                                      exact ih_lp (l.length - (i + 1)) (by omega) (i + 1) _ rfl (by omega) hX hO
                                                    · refine r_iload_n hb 385 dL_sound_384 rfl 6 rfl ?_
                                                      refine r_if_eq hb 388 413 dL_sound_385 rfl (by decide) (by omega) (fun c385 => ?_) (fun c385 => ?_)
                                                      · exfalso; omega
                                                      · refine r_aload_n hb 389 dL_sound_388 rfl 7 rfl ?_
                                                        refine r_iload hb 391 dL_sound_389 rfl 4 rfl ?_
                                                        refine r_iconst hb 392 dL_sound_391 rfl ?_
                                                        refine r_iload hb 394 dL_sound_392 rfl 0 rfl ?_
                                                        refine r_iload hb 396 dL_sound_394 rfl 3 rfl ?_
                                                        refine r_isubZ hb 397 ((((p - nB (lg l i) : Nat) : Nat) : Int)) dL_sound_396 rfl (by omega) ?_
                                                        refine r_callV1 (st := []) hb ho 400 dL_sound_397 rfl ck_L_43 (c_X8_quoted a B D l nx hs s0 s1 thr (((nNum (lg l i) : Nat) : Int)) 1 ((((p - nB (lg l i) : Nat) : Nat) : Int)) hX (by omega) (by omega) (by omega)) rfl rfl ((xo_cell (T := (B, (D, l, nx), hs, s0, s1, thr)) hX)) rfl rfl (by rw [hR0]; exact ⟨Nat.le_of_ble_eq_true rfl, Nat.le_of_ble_eq_true rfl⟩) (Nat.le_of_ble_eq_true rfl) ⟨rfl, rfl⟩ (by rw [hR0]; exact Nat.zero_le _) (by rw [hR0]; exact Nat.zero_le _) (fun vw_397 w_397 nw_397 qw_397 => ?_)
                                                        obtain ⟨rfl, rfl, hX, ow_397⟩ := qw_397
                                                        have hO := hO.trans ow_397
                                                        rw [rd_quoted] at hX
                                                        refine r_topv (.int (D.getD p 0)) (congrArg Value.int ((e_Qtd1 B D l nx hs s0 s1 thr (ixN_self hl hi) hi (show p - nB (lg l i) < (nQ (lg l i)).length by omega)).trans (edD_let hed0 hpl (by omega)))) ?_
                                                        refine r_aload_n hb 401 dL_sound_400 rfl 7 rfl ?_
                                                        refine r_iload hb 403 dL_sound_401 rfl 0 rfl ?_
                                                        refine r_callV1 (st := [.int (D.getD p 0)]) hb ho 406 dL_sound_403 rfl ck_L_60 (c_X8_letter a B D l nx hs s0 s1 thr (((p : Nat) : Int)) hX (by omega)) rfl rfl ((xo_cell (T := (B, (D, l, nx), hs, s0, s1, thr)) hX)) rfl rfl (by rw [hR0]; exact ⟨Nat.le_of_ble_eq_true rfl, Nat.le_of_ble_eq_true rfl⟩) (Nat.le_of_ble_eq_true rfl) ⟨rfl, rfl⟩ (by rw [hR0]; exact Nat.zero_le _) (by rw [hR0]; exact Nat.zero_le _) (fun vw_403 w_403 nw_403 qw_403 => ?_)
                                                        obtain ⟨rfl, rfl, hX, ow_403⟩ := qw_403
                                                        have hO := hO.trans ow_403
                                                        rw [rd_letter] at hX
                                                        refine r_topv (.int (D.getD p 0)) (congrArg Value.int (e_Let B D l nx hs s0 s1 thr (by omega))) ?_
                                                        refine r_icmpR_ne hb 409 413 dL_sound_406 rfl (by decide) (fun c406 => ?_) (fun c406 => ?_)
                                                        · exact absurd rfl c406
                                                        · refine r_iconst hb 410 dL_sound_409 rfl ?_
                                                          refine r_goto hb 414 dL_sound_410 (by decide) ?_
                                                          refine r_istore_n [(2, .int (iI 1)), (9, .int (iI (((p : Nat) : Int)))), (7, .int (iI ((gB0 (fB (lg l i) D))))), (6, .int (iI (((nE (lg l i) : Nat) : Int)))), (5, .int (iI (((nB (lg l i) : Nat) : Int)))), (4, .int (iI (((nNum (lg l i) : Nat) : Int)))), (3, .int (iI (((i : Nat) : Int)))), (0, .ref a), (1, .int (iI (thr)))] hb 415 11 dL_sound_414 rfl rfl hnL (by decide) rfl ?_
                                                          refine r_iinc [(9, .int (iI (((p : Nat) : Int) + 1))), (2, .int (iI 1)), (7, .int (iI ((gB0 (fB (lg l i) D))))), (6, .int (iI (((nE (lg l i) : Nat) : Int)))), (5, .int (iI (((nB (lg l i) : Nat) : Int)))), (4, .int (iI (((nNum (lg l i) : Nat) : Int)))), (3, .int (iI (((i : Nat) : Int)))), (0, .ref a), (1, .int (iI (thr)))] hb 418 11 1 dL_sound_415 rfl rfl hnL (by decide) (((p : Nat) : Int) + 1) (by omega) rfl ?_
                                                          refine r_goto hb 377 dL_sound_418 (by decide) ?_
                                                          refine r_lv [(9, .int (iI ((((p + 1 : Nat) : Nat) : Int)))), (7, .int (iI ((gB0 (fB (lg l i) D))))), (6, .int (iI (((nE (lg l i) : Nat) : Int)))), (5, .int (iI (((nB (lg l i) : Nat) : Int)))), (4, .int (iI (((nNum (lg l i) : Nat) : Int)))), (3, .int (iI (((i : Nat) : Int)))), (2, .int (iI 1)), (0, .ref a), (1, .int (iI (thr)))] [0, 2, 3, 4, 5, 6, 1, 7, 8] (rfl) ?_
                                                          exact ih_lq (nE (lg l i) - (p + 1)) (by omega) (p + 1) _ rfl (by omega) (by omega) hX hO
                                                refine r_lv [(9, .int (iI (((nB (lg l i) : Nat) : Int)))), (7, .int (iI ((gB0 (fB (lg l i) D))))), (6, .int (iI (((nE (lg l i) : Nat) : Int)))), (5, .int (iI (((nB (lg l i) : Nat) : Int)))), (4, .int (iI (((nNum (lg l i) : Nat) : Int)))), (3, .int (iI (((i : Nat) : Int)))), (2, .int (iI 1)), (0, .ref a), (1, .int (iI (thr)))] [0, 2, 3, 4, 5, 6, 1, 7, 8] (rfl) ?_
                                                exact lq _ (nB (lg l i)) _ rfl (Nat.le_refl _) hx1 hX hO
                                    refine r_aload_n hb 203 dL_sound_202 rfl 6 rfl ?_
                                    refine r_callV1 (st := []) hb ho 206 dL_sound_203 rfl ck_L_24 (c_X8_length a B D l nx hs s0 s1 thr hX) rfl rfl ((xo_cell (T := (B, (D, l, nx), hs, s0, s1, thr)) hX)) rfl rfl (by rw [hR0]; exact ⟨Nat.le_of_ble_eq_true rfl, Nat.le_of_ble_eq_true rfl⟩) (Nat.le_of_ble_eq_true rfl) ⟨rfl, rfl⟩ (by rw [hR0]; exact Nat.zero_le _) (by rw [hR0]; exact Nat.zero_le _) (fun vw_203 w_203 nw_203 qw_203 => ?_)
                                    obtain ⟨rfl, rfl, hX, ow_203⟩ := qw_203
                                    have hO := hO.trans ow_203
                                    rw [rd_length] at hX
                                    refine r_topz (((D.length : Nat) : Int)) (rfl) ?_
                                    refine r_if_le hb 209 221 dL_sound_206 rfl (by decide) (by omega) (fun c206 => ?_) (fun c206 => ?_)
                                    · refine r_iconst hb 222 dL_sound_221 rfl ?_
                                      refine r_istore [(8, .int (iI 0)), (7, .int (iI ((gB0 (fB (lg l i) D))))), (2, .int (iI 1)), (6, .int (iI (((nE (lg l i) : Nat) : Int)))), (5, .int (iI (((nB (lg l i) : Nat) : Int)))), (4, .int (iI (((nNum (lg l i) : Nat) : Int)))), (3, .int (iI (((i : Nat) : Int)))), (0, .ref a), (1, .int (iI (thr)))] hb 224 11 dL_sound_222 rfl hnL (by decide) rfl ?_
                                      refine r_iload_n hb 225 dL_sound_224 rfl 2 rfl ?_
                                      refine r_if_eq hb 228 322 dL_sound_225 rfl (by decide) (by omega) (fun c225 => ?_) (fun c225 => ?_)
                                      · exfalso; omega
                                      · refine r_iload hb 230 dL_sound_228 rfl 0 rfl ?_
                                        refine r_if_eq hb 233 322 dL_sound_230 rfl (by decide) (by omega) (fun c230 => ?_) (fun c230 => ?_)
                                        · refine r_lv [(7, .int (iI ((gB0 (fB (lg l i) D))))), (6, .int (iI (((nE (lg l i) : Nat) : Int)))), (5, .int (iI (((nB (lg l i) : Nat) : Int)))), (4, .int (iI (((nNum (lg l i) : Nat) : Int)))), (3, .int (iI (((i : Nat) : Int)))), (2, .int (iI 1)), (0, .ref a), (1, .int (iI (thr)))] [1, 3, 4, 5, 6, 2, 7, 8] (rfl) ?_
                                          exact j322 _ hX hO
                                        · exfalso; omega
                                    · refine r_iload hb 211 dL_sound_209 rfl 0 rfl ?_
                                      refine r_sipush (-1005) hb 214 dL_sound_211 rfl rfl ?_
                                      refine r_icmp_eq hb 217 221 dL_sound_214 rfl (by decide) (by omega) (by omega) (fun c214 => ?_) (fun c214 => ?_)
                                      · refine r_iconst hb 222 dL_sound_221 rfl ?_
                                        refine r_istore [(8, .int (iI 0)), (7, .int (iI ((gB0 (fB (lg l i) D))))), (2, .int (iI 1)), (6, .int (iI (((nE (lg l i) : Nat) : Int)))), (5, .int (iI (((nB (lg l i) : Nat) : Int)))), (4, .int (iI (((nNum (lg l i) : Nat) : Int)))), (3, .int (iI (((i : Nat) : Int)))), (0, .ref a), (1, .int (iI (thr)))] hb 224 11 dL_sound_222 rfl hnL (by decide) rfl ?_
                                        refine r_iload_n hb 225 dL_sound_224 rfl 2 rfl ?_
                                        refine r_if_eq hb 228 322 dL_sound_225 rfl (by decide) (by omega) (fun c225 => ?_) (fun c225 => ?_)
                                        · exfalso; omega
                                        · refine r_iload hb 230 dL_sound_228 rfl 0 rfl ?_
                                          refine r_if_eq hb 233 322 dL_sound_230 rfl (by decide) (by omega) (fun c230 => ?_) (fun c230 => ?_)
                                          · refine r_lv [(7, .int (iI ((gB0 (fB (lg l i) D))))), (6, .int (iI (((nE (lg l i) : Nat) : Int)))), (5, .int (iI (((nB (lg l i) : Nat) : Int)))), (4, .int (iI (((nNum (lg l i) : Nat) : Int)))), (3, .int (iI (((i : Nat) : Int)))), (2, .int (iI 1)), (0, .ref a), (1, .int (iI (thr)))] [1, 3, 4, 5, 6, 2, 7, 8] (rfl) ?_
                                            exact j322 _ hX hO
                                          · exfalso; omega
                                      · refine r_iconst hb 218 dL_sound_217 rfl ?_
                                        refine r_goto hb 222 dL_sound_218 (by decide) ?_
                                        refine r_istore [(8, .int (iI 1)), (7, .int (iI ((gB0 (fB (lg l i) D))))), (2, .int (iI 1)), (6, .int (iI (((nE (lg l i) : Nat) : Int)))), (5, .int (iI (((nB (lg l i) : Nat) : Int)))), (4, .int (iI (((nNum (lg l i) : Nat) : Int)))), (3, .int (iI (((i : Nat) : Int)))), (0, .ref a), (1, .int (iI (thr)))] hb 224 11 dL_sound_222 rfl hnL (by decide) rfl ?_
                                        refine r_iload_n hb 225 dL_sound_224 rfl 2 rfl ?_
                                        refine r_if_eq hb 228 322 dL_sound_225 rfl (by decide) (by omega) (fun c225 => ?_) (fun c225 => ?_)
                                        · exfalso; omega
                                        · refine r_iload hb 230 dL_sound_228 rfl 0 rfl ?_
                                          refine r_if_eq hb 233 322 dL_sound_230 rfl (by decide) (by omega) (fun c230 => ?_) (fun c230 => ?_)
                                          · exfalso; omega
                                          · obtain ⟨r, hr, hr1, hr2, hr3, hr4, hr5, hr6⟩ : ∃ r, fB (lg l i) D = some r ∧ -700 ≤ r.1 ∧ r.1 ≤ 108 ∧ r.2.1 < D.length ∧ 1 ≤ r.2.2 ∧ r.2.1 + r.2.2 ≤ D.length ∧ r.2.2 ≤ 19 := by
                                              rcases hb0 with h | h
                                              · exact absurd h c214
                                              · exact h
                                            have hrs := fB_sp hr
                                            have hrg : gB0 (fB (lg l i) D) = r.1 := by rw [hr]; rfl
                                            refine r_aload_n hb 234 dL_sound_233 rfl 7 rfl ?_
                                            refine r_iload hb 236 dL_sound_234 rfl 5 rfl ?_
                                            refine r_iconst hb 237 dL_sound_236 rfl ?_
                                            refine r_callV1 (st := []) hb ho 240 dL_sound_237 rfl ck_L_51 (c_X8_best a B D l nx hs s0 s1 thr (((nNum (lg l i) : Nat) : Int)) 1 hX (by omega) (by omega) hok) rfl rfl ((xo_cell (T := (B, (D, l, nx), hs, s0, s1, thr)) hX)) rfl rfl (by rw [hR0]; exact ⟨Nat.le_of_ble_eq_true rfl, Nat.le_of_ble_eq_true rfl⟩) (Nat.le_of_ble_eq_true rfl) ⟨rfl, rfl⟩ (by rw [hR0]; exact Nat.zero_le _) (by rw [hR0]; exact Nat.zero_le _) (fun vw_237 w_237 nw_237 qw_237 => ?_)
                                            obtain ⟨rfl, rfl, hX, ow_237⟩ := qw_237
                                            have hO := hO.trans ow_237
                                            rw [rd_best] at hX
                                            refine r_topz (((r.2.1 : Nat) : Int)) ((e_Bes1 B D l nx hs s0 s1 thr (ixN_self hl hi) hi).trans (by rw [hr]; rfl)) ?_
                                            refine r_istore [(9, .int (iI (((r.2.1 : Nat) : Int)))), (8, .int (iI 1)), (7, .int (iI ((gB0 (fB (lg l i) D))))), (2, .int (iI 1)), (6, .int (iI (((nE (lg l i) : Nat) : Int)))), (5, .int (iI (((nB (lg l i) : Nat) : Int)))), (4, .int (iI (((nNum (lg l i) : Nat) : Int)))), (3, .int (iI (((i : Nat) : Int)))), (0, .ref a), (1, .int (iI (thr)))] hb 242 11 dL_sound_240 rfl hnL (by decide) rfl ?_
                                            refine r_aload_n hb 243 dL_sound_242 rfl 8 rfl ?_
                                            refine r_iload hb 245 dL_sound_243 rfl 6 rfl ?_
                                            refine r_iconst hb 246 dL_sound_245 rfl ?_
                                            refine r_callV1 (st := []) hb ho 249 dL_sound_246 rfl ck_L_51 (c_X8_best a B D l nx hs s0 s1 thr (((nNum (lg l i) : Nat) : Int)) 2 hX (by omega) (by omega) hok) rfl rfl ((xo_cell (T := (B, (D, l, nx), hs, s0, s1, thr)) hX)) rfl rfl (by rw [hR0]; exact ⟨Nat.le_of_ble_eq_true rfl, Nat.le_of_ble_eq_true rfl⟩) (Nat.le_of_ble_eq_true rfl) ⟨rfl, rfl⟩ (by rw [hR0]; exact Nat.zero_le _) (by rw [hR0]; exact Nat.zero_le _) (fun vw_246 w_246 nw_246 qw_246 => ?_)
                                            obtain ⟨rfl, rfl, hX, ow_246⟩ := qw_246
                                            have hO := hO.trans ow_246
                                            rw [rd_best] at hX
                                            refine r_topz ((((r.2.1 + r.2.2 : Nat) : Nat) : Int)) ((e_Bes2 B D l nx hs s0 s1 thr (ixN_self hl hi) hi).trans (by rw [hr]; rfl)) ?_
                                            refine r_istore [(10, .int (iI ((((r.2.1 + r.2.2 : Nat) : Nat) : Int)))), (9, .int (iI (((r.2.1 : Nat) : Int)))), (8, .int (iI 1)), (7, .int (iI ((gB0 (fB (lg l i) D))))), (2, .int (iI 1)), (6, .int (iI (((nE (lg l i) : Nat) : Int)))), (5, .int (iI (((nB (lg l i) : Nat) : Int)))), (4, .int (iI (((nNum (lg l i) : Nat) : Int)))), (3, .int (iI (((i : Nat) : Int)))), (0, .ref a), (1, .int (iI (thr)))] hb 251 11 dL_sound_249 rfl hnL (by decide) rfl ?_
                                            refine r_iload hb 253 dL_sound_251 rfl 3 rfl ?_
                                            refine r_bipush 108 hb 255 dL_sound_253 rfl rfl ?_
                                            refine r_icmp_gt hb 258 320 dL_sound_255 rfl (by decide) (by omega) (by omega) (fun c255 => ?_) (fun c255 => ?_)
                                            · exfalso; omega
                                            · refine r_aload_n hb 259 dL_sound_258 rfl 9 rfl ?_
                                              refine r_iload hb 261 dL_sound_259 rfl 7 rfl ?_
                                              refine r_iload hb 263 dL_sound_261 rfl 1 rfl ?_
                                              refine r_iload hb 265 dL_sound_263 rfl 0 rfl ?_
                                              refine r_callV1 (st := []) hb ho 268 dL_sound_265 rfl ck_L_54 (c_X8_score a B D l nx hs s0 s1 thr (((nNum (lg l i) : Nat) : Int)) (((r.2.1 : Nat) : Int)) ((((r.2.1 + r.2.2 : Nat) : Nat) : Int)) hX (by omega) (by omega) (by omega) hok) rfl rfl ((xo_cell (T := (B, (D, l, nx), hs, s0, s1, thr)) hX)) rfl rfl (by rw [hR0]; exact ⟨Nat.le_of_ble_eq_true rfl, Nat.le_of_ble_eq_true rfl⟩) (Nat.le_of_ble_eq_true rfl) ⟨rfl, rfl⟩ (by rw [hR0]; exact Nat.zero_le _) (by rw [hR0]; exact Nat.zero_le _) (fun vw_265 w_265 nw_265 qw_265 => ?_)
                                              obtain ⟨rfl, rfl, hX, ow_265⟩ := qw_265
                                              have hO := hO.trans ow_265
                                              rw [rd_score] at hX
                                              refine r_topz ((gB0 (fB (lg l i) D))) ((e_Sco B D l nx hs s0 s1 thr (ixN_self hl hi) hi (show r.2.1 < r.2.1 + r.2.2 by omega) hr5 (by omega)).trans (congrArg iI (by rw [hrg, hrs]))) ?_
                                              refine r_iload hb 270 dL_sound_268 rfl 3 rfl ?_
                                              refine r_icmp_ne hb 273 320 dL_sound_270 rfl (by decide) (by omega) (by omega) (fun c270 => ?_) (fun c270 => ?_)
                                              · exfalso; omega
                                              · refine r_aload_n hb 274 dL_sound_273 rfl 9 rfl ?_
                                                refine r_iload hb 276 dL_sound_274 rfl 7 rfl ?_
                                                refine r_callV1 (st := []) hb ho 279 dL_sound_276 rfl ck_L_37 (c_X8_state a B D l nx hs s0 s1 thr (((nNum (lg l i) : Nat) : Int)) hX (by omega)) rfl rfl ((xo_cell (T := (B, (D, l, nx), hs, s0, s1, thr)) hX)) rfl rfl (by rw [hR0]; exact ⟨Nat.le_of_ble_eq_true rfl, Nat.le_of_ble_eq_true rfl⟩) (Nat.le_of_ble_eq_true rfl) ⟨rfl, rfl⟩ (by rw [hR0]; exact Nat.zero_le _) (by rw [hR0]; exact Nat.zero_le _) (fun vw_276 w_276 nw_276 qw_276 => ?_)
                                                obtain ⟨rfl, rfl, hX, ow_276⟩ := qw_276
                                                have hO := hO.trans ow_276
                                                rw [rd_state] at hX
                                                refine r_topv (.int (bI (nK (lg l i)))) (congrArg Value.int (e_Sta B D l nx hs s0 s1 thr (ixN_self hl hi) hi)) ?_
                                                refine r_ifb_eq hb 282 316 dL_sound_279 rfl (by decide) (fun c279 => ?_) (fun c279 => ?_)
                                                · refine r_iconst hb 317 dL_sound_316 rfl ?_
                                                  refine r_goto hb 321 dL_sound_317 (by decide) ?_
                                                  refine r_istore_n [(2, .int (iI 1)), (10, .int (iI ((((r.2.1 + r.2.2 : Nat) : Nat) : Int)))), (9, .int (iI (((r.2.1 : Nat) : Int)))), (8, .int (iI 1)), (7, .int (iI ((gB0 (fB (lg l i) D))))), (6, .int (iI (((nE (lg l i) : Nat) : Int)))), (5, .int (iI (((nB (lg l i) : Nat) : Int)))), (4, .int (iI (((nNum (lg l i) : Nat) : Int)))), (3, .int (iI (((i : Nat) : Int)))), (0, .ref a), (1, .int (iI (thr)))] hb 322 11 dL_sound_321 rfl rfl hnL (by decide) rfl ?_
                                                  refine r_lv [(7, .int (iI ((gB0 (fB (lg l i) D))))), (6, .int (iI (((nE (lg l i) : Nat) : Int)))), (5, .int (iI (((nB (lg l i) : Nat) : Int)))), (4, .int (iI (((nNum (lg l i) : Nat) : Int)))), (3, .int (iI (((i : Nat) : Int)))), (2, .int (iI 1)), (0, .ref a), (1, .int (iI (thr)))] [4, 5, 6, 7, 8, 0, 9, 10] (rfl) ?_
                                                  exact j322 _ hX hO
                                                · refine r_iload hb 284 dL_sound_282 rfl 5 rfl ?_
                                                  refine r_iload hb 286 dL_sound_284 rfl 6 rfl ?_
                                                  refine r_isubZ hb 287 (((nE (lg l i) : Nat) : Int) - ((nB (lg l i) : Nat) : Int)) dL_sound_286 rfl (by omega) ?_
                                                  refine r_iconst hb 288 dL_sound_287 rfl ?_
                                                  refine r_icmp_gt hb 291 316 dL_sound_288 rfl (by decide) (by omega) (by omega) (fun c288 => ?_) (fun c288 => ?_)
                                                  · refine r_iconst hb 317 dL_sound_316 rfl ?_
                                                    refine r_goto hb 321 dL_sound_317 (by decide) ?_
                                                    refine r_istore_n [(2, .int (iI 1)), (10, .int (iI ((((r.2.1 + r.2.2 : Nat) : Nat) : Int)))), (9, .int (iI (((r.2.1 : Nat) : Int)))), (8, .int (iI 1)), (7, .int (iI ((gB0 (fB (lg l i) D))))), (6, .int (iI (((nE (lg l i) : Nat) : Int)))), (5, .int (iI (((nB (lg l i) : Nat) : Int)))), (4, .int (iI (((nNum (lg l i) : Nat) : Int)))), (3, .int (iI (((i : Nat) : Int)))), (0, .ref a), (1, .int (iI (thr)))] hb 322 11 dL_sound_321 rfl rfl hnL (by decide) rfl ?_
                                                    refine r_lv [(7, .int (iI ((gB0 (fB (lg l i) D))))), (6, .int (iI (((nE (lg l i) : Nat) : Int)))), (5, .int (iI (((nB (lg l i) : Nat) : Int)))), (4, .int (iI (((nNum (lg l i) : Nat) : Int)))), (3, .int (iI (((i : Nat) : Int)))), (2, .int (iI 1)), (0, .ref a), (1, .int (iI (thr)))] [4, 5, 6, 7, 8, 0, 9, 10] (rfl) ?_
                                                    exact j322 _ hX hO
                                                  · refine r_aload_n hb 292 dL_sound_291 rfl 9 rfl ?_
                                                    refine r_iload hb 294 dL_sound_292 rfl 7 rfl ?_
                                                    refine r_iload hb 296 dL_sound_294 rfl 6 rfl ?_
                                                    refine r_iload hb 298 dL_sound_296 rfl 5 rfl ?_
                                                    have hlt := hp1 c279
                                                    refine r_callV1 (st := []) hb ho 301 dL_sound_298 rfl ck_L_54 (c_X8_score a B D l nx hs s0 s1 thr (((nNum (lg l i) : Nat) : Int)) (((nB (lg l i) : Nat) : Int)) (((nE (lg l i) : Nat) : Int)) hX (by omega) (by omega) (by omega) hok) rfl rfl ((xo_cell (T := (B, (D, l, nx), hs, s0, s1, thr)) hX)) rfl rfl (by rw [hR0]; exact ⟨Nat.le_of_ble_eq_true rfl, Nat.le_of_ble_eq_true rfl⟩) (Nat.le_of_ble_eq_true rfl) ⟨rfl, rfl⟩ (by rw [hR0]; exact Nat.zero_le _) (by rw [hR0]; exact Nat.zero_le _) (fun vw_298 w_298 nw_298 qw_298 => ?_)
                                                    obtain ⟨rfl, rfl, hX, ow_298⟩ := qw_298
                                                    have hO := hO.trans ow_298
                                                    rw [rd_score] at hX
                                                    refine r_topz ((scN (lg l i) D (nB (lg l i)) (nE (lg l i)) (edD (nQ (lg l i)) D (nB (lg l i)) (nE (lg l i))))) ((e_Sco B D l nx hs s0 s1 thr (ixN_self hl hi) hi (hp1 c279) hx2 (by have := hp1 c279; omega))) ?_
                                                    have hscb := scN_bd hx0 D (s := nB (lg l i)) (e := nE (lg l i)) (d := edD (nQ (lg l i)) D (nB (lg l i)) (nE (lg l i))) (by have h := edK_le (nQ (lg l i)) D (nB (lg l i)) (nE (lg l i) - nB (lg l i)) (nQ (lg l i)).length; have h2 := hx0.2.1; unfold edD; omega) hx0.2.2.2.1
                                                    refine r_iload hb 303 dL_sound_301 rfl 3 rfl ?_
                                                    refine r_icmp_le hb 306 316 dL_sound_303 rfl (by decide) (by omega) (by omega) (fun c303 => ?_) (fun c303 => ?_)
                                                    · refine r_iconst hb 317 dL_sound_316 rfl ?_
                                                      refine r_goto hb 321 dL_sound_317 (by decide) ?_
                                                      refine r_istore_n [(2, .int (iI 1)), (10, .int (iI ((((r.2.1 + r.2.2 : Nat) : Nat) : Int)))), (9, .int (iI (((r.2.1 : Nat) : Int)))), (8, .int (iI 1)), (7, .int (iI ((gB0 (fB (lg l i) D))))), (6, .int (iI (((nE (lg l i) : Nat) : Int)))), (5, .int (iI (((nB (lg l i) : Nat) : Int)))), (4, .int (iI (((nNum (lg l i) : Nat) : Int)))), (3, .int (iI (((i : Nat) : Int)))), (0, .ref a), (1, .int (iI (thr)))] hb 322 11 dL_sound_321 rfl rfl hnL (by decide) rfl ?_
                                                      refine r_lv [(7, .int (iI ((gB0 (fB (lg l i) D))))), (6, .int (iI (((nE (lg l i) : Nat) : Int)))), (5, .int (iI (((nB (lg l i) : Nat) : Int)))), (4, .int (iI (((nNum (lg l i) : Nat) : Int)))), (3, .int (iI (((i : Nat) : Int)))), (2, .int (iI 1)), (0, .ref a), (1, .int (iI (thr)))] [4, 5, 6, 7, 8, 0, 9, 10] (rfl) ?_
                                                      exact j322 _ hX hO
                                                    · refine r_aload_n hb 307 dL_sound_306 rfl 9 rfl ?_
                                                      refine r_iload hb 309 dL_sound_307 rfl 7 rfl ?_
                                                      refine r_callV1 (st := []) hb ho 312 dL_sound_309 rfl ck_L_57 (c_X8_distance a B D l nx hs s0 s1 thr (((nNum (lg l i) : Nat) : Int)) hX (by omega) hok) rfl rfl ((xo_cell (T := (B, (D, l, nx), hs, s0, s1, thr)) hX)) rfl rfl (by rw [hR0]; exact ⟨Nat.le_of_ble_eq_true rfl, Nat.le_of_ble_eq_true rfl⟩) (Nat.le_of_ble_eq_true rfl) ⟨rfl, rfl⟩ (by rw [hR0]; exact Nat.zero_le _) (by rw [hR0]; exact Nat.zero_le _) (fun vw_309 w_309 nw_309 qw_309 => ?_)
                                                      obtain ⟨rfl, rfl, hX, ow_309⟩ := qw_309
                                                      have hO := hO.trans ow_309
                                                      rw [rd_distance] at hX
                                                      refine r_topz (((edD (nQ (lg l i)) D (nB (lg l i)) (nE (lg l i)) : Nat) : Int)) ((e_Dis B D l nx hs s0 s1 thr (ixN_self hl hi) hi c279)) ?_
                                                      have hcand : ¬ edD (nQ (lg l i)) D (nB (lg l i)) (nE (lg l i)) ≤ 3 := fun h => by
                                                        have h2 := edD_len h
                                                        have h3 := fB_ge (x := lg l i) (D := D) hlt h2.1 h2.2 hx2
                                                        omega
                                                      have hedb : edD (nQ (lg l i)) D (nB (lg l i)) (nE (lg l i)) ≤ 1000 := by have h := edK_le (nQ (lg l i)) D (nB (lg l i)) (nE (lg l i) - nB (lg l i)) (nQ (lg l i)).length; have h2 := hx0.2.1; unfold edD; omega
                                                      refine r_iconst hb 313 dL_sound_312 rfl ?_
                                                      refine r_icmp_le hb 316 320 dL_sound_313 rfl (by decide) (by omega) (by omega) (fun c313 => ?_) (fun c313 => ?_)
                                                      · exfalso; omega
                                                      · refine r_iconst hb 317 dL_sound_316 rfl ?_
                                                        refine r_goto hb 321 dL_sound_317 (by decide) ?_
                                                        refine r_istore_n [(2, .int (iI 1)), (10, .int (iI ((((r.2.1 + r.2.2 : Nat) : Nat) : Int)))), (9, .int (iI (((r.2.1 : Nat) : Int)))), (8, .int (iI 1)), (7, .int (iI ((gB0 (fB (lg l i) D))))), (6, .int (iI (((nE (lg l i) : Nat) : Int)))), (5, .int (iI (((nB (lg l i) : Nat) : Int)))), (4, .int (iI (((nNum (lg l i) : Nat) : Int)))), (3, .int (iI (((i : Nat) : Int)))), (0, .ref a), (1, .int (iI (thr)))] hb 322 11 dL_sound_321 rfl rfl hnL (by decide) rfl ?_
                                                        refine r_lv [(7, .int (iI ((gB0 (fB (lg l i) D))))), (6, .int (iI (((nE (lg l i) : Nat) : Int)))), (5, .int (iI (((nB (lg l i) : Nat) : Int)))), (4, .int (iI (((nNum (lg l i) : Nat) : Int)))), (3, .int (iI (((i : Nat) : Int)))), (2, .int (iI 1)), (0, .ref a), (1, .int (iI (thr)))] [4, 5, 6, 7, 8, 0, 9, 10] (rfl) ?_
                                                        exact j322 _ hX hO
                            refine r_ifb_eq hb 141 148 dL_sound_138 rfl (by decide) (fun c138 => ?_) (fun c138 => ?_)
                            · exact j148
                            · have hlt := hp1 c138
                              refine r_iload hb 143 dL_sound_141 rfl 1 rfl ?_
                              refine r_iload hb 145 dL_sound_143 rfl 0 rfl ?_
                              refine r_icmp_ge hb 148 191 dL_sound_145 rfl (by decide) (by omega) (by omega) (fun c145 => ?_) (fun c145 => ?_)
                              · exfalso; omega
                              · exact j148
                    refine r_iload_n hb 96 dL_sound_95 rfl 3 rfl ?_
                    refine r_if_eq hb 99 111 dL_sound_96 rfl (by decide) (by omega) (fun c96 => ?_) (fun c96 => ?_)
                    · refine r_lv [(6, .int (iI (((nE (lg l i) : Nat) : Int)))), (5, .int (iI (((nB (lg l i) : Nat) : Int)))), (4, .int (iI (((nNum (lg l i) : Nat) : Int)))), (3, .int (iI (((i : Nat) : Int)))), (2, .int (iI 1)), (0, .ref a), (1, .int (iI (thr)))] [0, 1, 2, 3, 4, 5, 6] (rfl) ?_
                      exact j111 _ hX hO
                    · refine r_aload_n hb 100 dL_sound_99 rfl 5 rfl ?_
                      refine r_iload_n hb 101 dL_sound_100 rfl 3 rfl ?_
                      refine r_iconst hb 102 dL_sound_101 rfl ?_
                      refine r_isubZ hb 103 ((((i - 1 : Nat) : Nat) : Int)) dL_sound_102 rfl (by omega) ?_
                      refine r_callV1 (st := []) hb ho 106 dL_sound_103 rfl ck_L_30 (c_X8_commentAt a B D l nx hs s0 s1 thr ((((i - 1 : Nat) : Nat) : Int)) hX (by omega)) rfl rfl ((xo_cell (T := (B, (D, l, nx), hs, s0, s1, thr)) hX)) rfl rfl (by rw [hR0]; exact ⟨Nat.le_of_ble_eq_true rfl, Nat.le_of_ble_eq_true rfl⟩) (Nat.le_of_ble_eq_true rfl) ⟨rfl, rfl⟩ (by rw [hR0]; exact Nat.zero_le _) (by rw [hR0]; exact Nat.zero_le _) (fun vw_103 w_103 nw_103 qw_103 => ?_)
                      obtain ⟨rfl, rfl, hX, ow_103⟩ := qw_103
                      have hO := hO.trans ow_103
                      rw [rd_commentAt] at hX
                      refine r_topz (((nNum (lg l (i - 1)) : Nat) : Int)) ((e_At B D l nx hs s0 s1 thr (show i - 1 < l.length by omega))) ?_
                      have hasc := (pOk_l hok).2 (i - 1) i (by omega) hi
                      have hnm := ((pOk_l hok).1 (i - 1) (by omega)).2.2.2
                      refine r_iload hb 108 dL_sound_106 rfl 2 rfl ?_
                      refine r_icmp_ge hb 111 191 dL_sound_108 rfl (by decide) (by omega) (by omega) (fun c108 => ?_) (fun c108 => ?_)
                      · exfalso; omega
                      · refine r_lv [(6, .int (iI (((nE (lg l i) : Nat) : Int)))), (5, .int (iI (((nB (lg l i) : Nat) : Int)))), (4, .int (iI (((nNum (lg l i) : Nat) : Int)))), (3, .int (iI (((i : Nat) : Int)))), (2, .int (iI 1)), (0, .ref a), (1, .int (iI (thr)))] [0, 1, 2, 3, 4, 5, 6] (rfl) ?_
                        exact j111 _ hX hO
            refine r_lv [(3, .int (iI (((0 : Nat) : Int)))), (2, .int (iI 1)), (0, .ref a), (1, .int (iI (thr)))] [0, 1, 2, 3] (rfl) ?_
            exact lp _ 0 _ rfl (Nat.zero_le _) hX hO

