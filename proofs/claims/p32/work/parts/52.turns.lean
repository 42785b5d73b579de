/-! the law's turns -/
abbrev rm_L_turns : Room := { frames := 8, cells := 0, slots := 0, locals := 195 }
set_option maxHeartbeats 4000000 in
set_option maxRecDepth 100000 in
theorem c_L_turns (a cap : Nat) (W : Int) (B D : List Int32) (l : List Nt) (nx : Nat) (hs : List Pg) (s0 s1 : Option (Pg × Int)) (thr : Int) (y : Nat) {w : PW} {n : Nat} (hX : xo w a (B, (D, l, nx), hs, s0, s1, thr)) (hsk : sOk cap (B, (D, l, nx), hs, s0, s1, thr)) (hq : qOk W l) (hW : W ≤ 1000) (hcap : cap ≤ 1000) (hy : y < 2147483648) : Ct1 yL_turns cL_turns 13 (some .boolean) rm_L_turns [.ref a, .int (iI (((y : Nat) : Int))), .int (iI (thr))] w n (fun v w1 n1 => v = .int (iI 1) ∧ n = n1 ∧ (∃ T1 : Fs, xo w1 a T1 ∧ sOk (cap + 4) T1 ∧ qOk (W + 1) T1.2.1.2.1 ∧ T1.2.2.2.2.2 = thr) ∧ off w w1 a (a + 729)) := by
  have hO : off w w a (a + 729) := off.rfl' _ _ _
  have hok : pOk (D, l, nx) := hsk.2.1.1
  have hnx : nx ≤ cap := hsk.2.1.2
  have ht : 0 ≤ thr ∧ thr ≤ 108 := hsk.2.2.2.2.2
  have hB0 : B.length ≤ 40 ∧ okL B := hsk.1
  have hl6 : hs.length ≤ 6 := xo_hl hX
  have hDl : D.length ≤ 120 := hok.1
  have hll : l.length ≤ 10 := hok.2.2.1
  refine Ctr.of rfl (Nat.le_of_ble_eq_true rfl) fun S hS => ?_
  have hb : S.1.1 = cL_turns := by rw [hS]; rfl
  have ho : S.1.2.1 = RL := by rw [hS]; rfl
  have hnL : S.1.2.2.1 = 13 := by rw [hS]; rfl
  have hR0 : S.2.1 = rm_L_turns := by rw [hS]; rfl
  show Wp S 0 [(0, .ref a), (1, .int (iI (((y : Nat) : Int)))), (2, .int (iI (thr)))] [] w n 0 0
  refine r_aload_n hb 1 dL_turns_0 rfl 0 rfl ?_
  refine r_callV1 (st := []) hb ho 4 dL_turns_1 rfl ck_L_66 (c_X8_checksum a B D l nx hs s0 s1 thr hX hok) rfl rfl ((xo_cell (T := (B, (D, l, nx), hs, s0, s1, thr)) hX)) rfl rfl (by rw [hR0]; exact ⟨Nat.le_of_ble_eq_true rfl, Nat.le_of_ble_eq_true rfl⟩) (Nat.le_of_ble_eq_true rfl) ⟨rfl, rfl⟩ (by rw [hR0]; exact Nat.zero_le _) (by rw [hR0]; exact Nat.zero_le _) (fun vw_1 w_1 nw_1 qw_1 => ?_)
  obtain ⟨rfl, rfl, hX, ow_1⟩ := qw_1
  have hO := hO.trans ow_1
  refine r_lstore_n [(3, .long (oSum D l)), (0, .ref a), (1, .int (iI (((y : Nat) : Int)))), (2, .int (iI (thr)))] hb 5 13 dL_turns_4 rfl rfl hnL (by decide) rfl ?_
  refine r_iload_n hb 6 dL_turns_5 rfl 2 rfl ?_
  refine r_iconst hb 7 dL_turns_6 rfl ?_
  refine r_ishrN (a := y) (k := 4) hb 8 dL_turns_7 rfl (by omega) (by omega) (sN_b 4 (by decide)) (y / 16) rfl ?_
  refine r_istore [(5, .int (iI (((y / 16 : Nat) : Int)))), (3, .long (oSum D l)), (0, .ref a), (1, .int (iI (((y : Nat) : Int)))), (2, .int (iI (thr)))] hb 10 13 dL_turns_8 rfl hnL (by decide) rfl ?_
  refine r_aload_n hb 11 dL_turns_10 rfl 2 rfl ?_
  refine r_callV1 (st := []) hb ho 14 dL_turns_11 rfl ck_L_27 (c_X8_comments a B D l nx hs s0 s1 thr hX) rfl rfl ((xo_cell (T := (B, (D, l, nx), hs, s0, s1, thr)) hX)) rfl rfl (by rw [hR0]; exact ⟨Nat.le_of_ble_eq_true rfl, Nat.le_of_ble_eq_true rfl⟩) (Nat.le_of_ble_eq_true rfl) ⟨rfl, rfl⟩ (by rw [hR0]; exact Nat.zero_le _) (by rw [hR0]; exact Nat.zero_le _) (fun vw_11 w_11 nw_11 qw_11 => ?_)
  obtain ⟨rfl, rfl, hX, ow_11⟩ := qw_11
  have hO := hO.trans ow_11
  rw [rd_comments] at hX
  refine r_topz (((l.length : Nat) : Int)) (rfl) ?_
  refine r_istore [(6, .int (iI (((l.length : Nat) : Int)))), (5, .int (iI (((y / 16 : Nat) : Int)))), (3, .long (oSum D l)), (0, .ref a), (1, .int (iI (((y : Nat) : Int)))), (2, .int (iI (thr)))] hb 16 13 dL_turns_14 rfl hnL (by decide) rfl ?_
  obtain ⟨kc, hkc⟩ : ∃ kc : Nat, acK l (y / 16) = kc := ⟨_, rfl⟩
  have hkb : kc ≤ nx := by rw [← hkc]; exact acK_le hok _
  have j34 : ∀ (wj : PW), (xo wj a (B, (D, l, nx), hs, s0, s1, thr)) → (off w wj a (a + 729)) → Wp S 34 [(6, .int (iI (((l.length : Nat) : Int)))), (5, .int (iI (((y / 16 : Nat) : Int)))), (3, .long (oSum D l)), (0, .ref a), (1, .int (iI (((y : Nat) : Int)))), (2, .int (iI (thr)))] [.int (iI (((kc : Nat) : Int)))] wj n 0 0 := by
    intro wj hX hO
    refine r_istore [(7, .int (iI (((kc : Nat) : Int)))), (6, .int (iI (((l.length : Nat) : Int)))), (5, .int (iI (((y / 16 : Nat) : Int)))), (3, .long (oSum D l)), (0, .ref a), (1, .int (iI (((y : Nat) : Int)))), (2, .int (iI (thr)))] hb 36 13 dL_turns_34 rfl hnL (by decide) rfl ?_
    refine r_iload hb 38 dL_turns_36 rfl 2 rfl ?_
    refine r_aload_n hb 39 dL_turns_38 rfl 4 rfl ?_
    refine r_callV1 (st := [.int (iI (((y / 16 : Nat) : Int)))]) hb ho 42 dL_turns_39 rfl ck_L_24 (c_X8_length a B D l nx hs s0 s1 thr hX) rfl rfl ((xo_cell (T := (B, (D, l, nx), hs, s0, s1, thr)) hX)) rfl rfl (by rw [hR0]; exact ⟨Nat.le_of_ble_eq_true rfl, Nat.le_of_ble_eq_true rfl⟩) (Nat.le_of_ble_eq_true rfl) ⟨rfl, rfl⟩ (by rw [hR0]; exact Nat.zero_le _) (by rw [hR0]; exact Nat.zero_le _) (fun vw_39 w_39 nw_39 qw_39 => ?_)
    obtain ⟨rfl, rfl, hX, ow_39⟩ := qw_39
    have hO := hO.trans ow_39
    rw [rd_length] at hX
    refine r_topz (((D.length : Nat) : Int)) (rfl) ?_
    refine r_iconst hb 43 dL_turns_42 rfl ?_
    refine r_iaddZ hb 44 (((D.length : Nat) : Int) + 1) dL_turns_43 rfl (by omega) ?_
    obtain ⟨p, hp⟩ : ∃ p : Nat, y / 16 % (D.length + 1) = p := ⟨_, rfl⟩
    have hpb : p ≤ D.length := by rw [← hp]; exact Nat.lt_succ_iff.mp (Nat.mod_lt _ (Nat.succ_pos _))
    refine r_iremN (a := ((y / 16))) (d := (D.length + 1)) hb 45 dL_turns_44 rfl (by omega) (by omega) (by omega) (by omega) (by omega) ?_
    refine r_topv (.int (iI (((p : Nat) : Int)))) (by rw [hp]) ?_
    refine r_istore [(8, .int (iI (((p : Nat) : Int)))), (7, .int (iI (((kc : Nat) : Int)))), (6, .int (iI (((l.length : Nat) : Int)))), (5, .int (iI (((y / 16 : Nat) : Int)))), (3, .long (oSum D l)), (0, .ref a), (1, .int (iI (((y : Nat) : Int)))), (2, .int (iI (thr)))] hb 47 13 dL_turns_45 rfl hnL (by decide) rfl ?_
    have j269 : ∀ (wj : PW) (B1 : List Int32) (R : Int32), (B1.length ≤ 40 ∧ okL B1) → ((R = iI (-1005) ∧ xo wj a (B1, (D, l, nx), hs, s0, s1, thr)) ∨ (R = (acF B1 D l nx hs s0 s1 thr y).1 ∧ xo wj a (acF B1 D l nx hs s0 s1 thr y).2)) → (off w wj a (a + 729)) → Wp S 269 [(9, .int R), (8, .int (iI (((p : Nat) : Int)))), (7, .int (iI (((kc : Nat) : Int)))), (6, .int (iI (((l.length : Nat) : Int)))), (5, .int (iI (((y / 16 : Nat) : Int)))), (3, .long (oSum D l)), (0, .ref a), (1, .int (iI (((y : Nat) : Int)))), (2, .int (iI (thr)))] [] wj n 0 0 := by
      intro wj B1 R hB1 hJ hO
      have hJ2 : (R.toInt ≤ -1001 ∧ xo wj a (B1, (D, l, nx), hs, s0, s1, thr)) ∨ (-1001 < R.toInt ∧ ∃ p : Pg, qOk (W + 1) p.2.1 ∧ (∀ hs s0 s1, acF B1 D l nx hs s0 s1 thr y = (R, stP B1 D l nx hs s0 s1 thr p)) ∧ xo wj a (stP B1 D l nx hs s0 s1 thr p)) := by
        rcases hJ with ⟨hR, hX⟩ | ⟨hR, hX⟩
        · exact Or.inl ⟨by rw [hR, toInt_iI (by omega)]; omega, hX⟩
        · obtain ⟨r, ⟨h1, h2⟩ | ⟨h1, p, h2, h3⟩⟩ := act_F (W := W) (B := B1) hq (by omega) hok hB1.1 (by omega) ht.1 y
          · have e := h2 hs s0 s1
            simp only at e
            rw [e] at hR hX
            simp only at hR
            rw [hR]
            exact Or.inl ⟨h1, hX⟩
          · have e := h3 hs s0 s1
            simp only at e
            rw [e] at hR hX
            simp only at hR
            subst hR
            exact Or.inr ⟨by omega, p, h2, h3, hX⟩
      have hRb := iI_bd R
      have hbuf := ok_buf hsk hB1
      rcases hJ2 with ⟨hRs, hX⟩ | ⟨hRs, ⟨⟨D2, l2, nx2⟩, hq2, hall, hX⟩⟩
      · refine r_iload hb 271 dL_turns_269 rfl 0 rfl ?_
        refine r_topz ((R.toInt)) ((iI_of _).symm) ?_
        refine r_sipush (-1001) hb 274 dL_turns_271 rfl rfl ?_
        refine r_icmp_gt hb 277 292 dL_turns_274 rfl (by decide) (by omega) (by omega) (fun c274 => ?_) (fun c274 => ?_)
        · exfalso; omega
        · refine r_aload_n hb 278 dL_turns_277 rfl 6 rfl ?_
          refine r_callV1 (st := []) hb ho 281 dL_turns_278 rfl ck_L_66 (c_X8_checksum a B1 D l nx hs s0 s1 thr hX hok) rfl rfl ((xo_cell (T := (B1, (D, l, nx), hs, s0, s1, thr)) hX)) rfl rfl (by rw [hR0]; exact ⟨Nat.le_of_ble_eq_true rfl, Nat.le_of_ble_eq_true rfl⟩) (Nat.le_of_ble_eq_true rfl) ⟨rfl, rfl⟩ (by rw [hR0]; exact Nat.zero_le _) (by rw [hR0]; exact Nat.zero_le _) (fun vw_278 w_278 nw_278 qw_278 => ?_)
          obtain ⟨rfl, rfl, hX, ow_278⟩ := qw_278
          have hO := hO.trans ow_278
          refine r_lload_n hb 282 dL_turns_281 rfl 5 rfl ?_
          refine r_lcmp hb 283 dL_turns_282 rfl ?_
          refine r_if0_ne hb 286 290 dL_turns_283 rfl (by decide) (fun c283 => ?_) (fun c283 => ?_)
          · exact absurd (lg_cmp_self _) c283
          · refine r_iconst hb 287 dL_turns_286 rfl ?_
            refine r_goto hb 291 dL_turns_287 (by decide) ?_
            refine r_iret hS dL_turns_291 rfl rfl (Nat.zero_le _) (Nat.zero_le _) ?_
            exact ⟨_, rfl, rfl, rfl, ⟨_, hX, hbuf.up (by omega), hq.up (by omega), rfl⟩, hO⟩
      · have k1 : sOk (cap + 1) (stP B1 D l nx hs s0 s1 thr (D2, l2, nx2)) := by
          have h := ok_F hbuf y
          rw [hall] at h
          exact h
        have hok2 : pOk (D2, l2, nx2) := k1.2.1.1
        obtain ⟨hu, hs2, hub, eU⟩ : ∃ (hu : Nat) (hs2 : List Pg), hu < 1000 ∧ oUndo B1 D2 l2 nx2 (recH hs (D, l, nx)) s0 s1 thr = (iI ((hu : Nat) : Int), (B1, (D, l, nx), hs2, s0, s1, thr)) := ⟨_, _, by have := recH_len hs (D, l, nx) hl6; omega, e_Und B1 D2 l2 nx2 hs s0 s1 thr (D, l, nx)⟩
        have k2 : sOk (cap + 2) (B1, (D, l, nx), hs2, s0, s1, thr) := by
          have h := ok_undo k1
          rw [eU] at h
          exact h
        have k3 : sOk (cap + 3) (B1, (D, l, nx), hs2, s0, some ((D, l, nx), thr), thr) := by
          have h := ok_sav k2 1
          rw [e_Sav1] at h
          exact h
        have k4 : sOk (cap + 4) (stP B1 D l nx hs2 s0 (some ((D, l, nx), thr)) thr (D2, l2, nx2)) := by
          have h := ok_F k3 y
          rw [hall] at h
          exact h
        refine r_iload hb 271 dL_turns_269 rfl 0 rfl ?_
        refine r_topz ((R.toInt)) ((iI_of _).symm) ?_
        refine r_sipush (-1001) hb 274 dL_turns_271 rfl rfl ?_
        refine r_icmp_gt hb 277 292 dL_turns_274 rfl (by decide) (by omega) (by omega) (fun c274 => ?_) (fun c274 => ?_)
        · refine r_aload_n hb 293 dL_turns_292 rfl 6 rfl ?_
          refine r_callV1 (st := []) hb ho 296 dL_turns_293 rfl ck_L_66 (c_X8_checksum a B1 D2 l2 nx2 (recH hs (D, l, nx)) s0 s1 thr hX hok2) rfl rfl ((xo_cell (T := (B1, (D2, l2, nx2), (recH hs (D, l, nx)), s0, s1, thr)) hX)) rfl rfl (by rw [hR0]; exact ⟨Nat.le_of_ble_eq_true rfl, Nat.le_of_ble_eq_true rfl⟩) (Nat.le_of_ble_eq_true rfl) ⟨rfl, rfl⟩ (by rw [hR0]; exact Nat.zero_le _) (by rw [hR0]; exact Nat.zero_le _) (fun vw_293 w_293 nw_293 qw_293 => ?_)
          obtain ⟨rfl, rfl, hX, ow_293⟩ := qw_293
          have hO := hO.trans ow_293
          refine r_lstore [(10, .long (oSum D2 l2)), (9, .int R), (8, .int (iI (((p : Nat) : Int)))), (7, .int (iI (((kc : Nat) : Int)))), (6, .int (iI (((l.length : Nat) : Int)))), (5, .int (iI (((y / 16 : Nat) : Int)))), (3, .long (oSum D l)), (0, .ref a), (1, .int (iI (((y : Nat) : Int)))), (2, .int (iI (thr)))] hb 298 13 dL_turns_296 rfl hnL (by decide) rfl ?_
          refine r_aload_n hb 299 dL_turns_298 rfl 7 rfl ?_
          refine r_callV1 (st := []) hb ho 302 dL_turns_299 rfl ck_L_101 (c_X8_undo a B1 D2 l2 nx2 (recH hs (D, l, nx)) s0 s1 thr hX) rfl rfl ((xo_cell (T := (B1, (D2, l2, nx2), (recH hs (D, l, nx)), s0, s1, thr)) hX)) rfl rfl (by rw [hR0]; exact ⟨Nat.le_of_ble_eq_true rfl, Nat.le_of_ble_eq_true rfl⟩) (Nat.le_of_ble_eq_true rfl) ⟨rfl, rfl⟩ (by rw [hR0]; exact Nat.zero_le _) (by rw [hR0]; exact Nat.zero_le _) (fun vw_299 w_299 nw_299 qw_299 => ?_)
          obtain ⟨rfl, rfl, hX, ow_299⟩ := qw_299
          have hO := hO.trans ow_299
          have hX : xo w_299 a (B1, (D, l, nx), hs2, s0, s1, thr) := by rw [eU] at hX; exact hX
          refine r_topz (((hu : Nat) : Int)) (by rw [eU]) ?_
          refine r_if_lt hb 305 328 dL_turns_302 rfl (by decide) (by omega) (fun c302 => ?_) (fun c302 => ?_)
          · exfalso; omega
          · refine r_aload_n hb 306 dL_turns_305 rfl 7 rfl ?_
            refine r_callV1 (st := []) hb ho 309 dL_turns_306 rfl ck_L_66 (c_X8_checksum a B1 D l nx hs2 s0 s1 thr hX hok) rfl rfl ((xo_cell (T := (B1, (D, l, nx), hs2, s0, s1, thr)) hX)) rfl rfl (by rw [hR0]; exact ⟨Nat.le_of_ble_eq_true rfl, Nat.le_of_ble_eq_true rfl⟩) (Nat.le_of_ble_eq_true rfl) ⟨rfl, rfl⟩ (by rw [hR0]; exact Nat.zero_le _) (by rw [hR0]; exact Nat.zero_le _) (fun vw_306 w_306 nw_306 qw_306 => ?_)
            obtain ⟨rfl, rfl, hX, ow_306⟩ := qw_306
            have hO := hO.trans ow_306
            refine r_lload_n hb 310 dL_turns_309 rfl 6 rfl ?_
            refine r_lcmp hb 311 dL_turns_310 rfl ?_
            refine r_if0_ne hb 314 328 dL_turns_311 rfl (by decide) (fun c311 => ?_) (fun c311 => ?_)
            · exact absurd (lg_cmp_self _) c311
            · refine r_aload_n hb 315 dL_turns_314 rfl 7 rfl ?_
              refine r_iconst hb 316 dL_turns_315 rfl ?_
              refine r_callV1 (st := []) hb ho 319 dL_turns_316 rfl ck_L_104 (c_X8_save a B1 D l nx hs2 s0 s1 thr 1 hX (by omega)) rfl rfl ((xo_cell (T := (B1, (D, l, nx), hs2, s0, s1, thr)) hX)) rfl rfl (by rw [hR0]; exact ⟨Nat.le_of_ble_eq_true rfl, Nat.le_of_ble_eq_true rfl⟩) (Nat.le_of_ble_eq_true rfl) ⟨rfl, rfl⟩ (by rw [hR0]; exact Nat.zero_le _) (by rw [hR0]; exact Nat.zero_le _) (fun vw_316 w_316 nw_316 qw_316 => ?_)
              obtain ⟨rfl, rfl, hX, ow_316⟩ := qw_316
              have hO := hO.trans ow_316
              have hX : xo w_316 a (B1, (D, l, nx), hs2, s0, (some ((D, l, nx), thr)), thr) := by rw [e_Sav1] at hX; exact hX
              refine r_topz (((l.length : Nat) : Int)) (by rw [e_Sav1]) ?_
              refine r_iload hb 321 dL_turns_319 rfl 4 rfl ?_
              refine r_icmp_ne hb 324 328 dL_turns_321 rfl (by decide) (by omega) (by omega) (fun c321 => ?_) (fun c321 => ?_)
              · exfalso; omega
              · refine r_iconst hb 325 dL_turns_324 rfl ?_
                refine r_goto hb 329 dL_turns_325 (by decide) ?_
                refine r_istore [(12, .int (iI 1)), (10, .long (oSum D2 l2)), (9, .int R), (8, .int (iI (((p : Nat) : Int)))), (7, .int (iI (((kc : Nat) : Int)))), (6, .int (iI (((l.length : Nat) : Int)))), (5, .int (iI (((y / 16 : Nat) : Int)))), (3, .long (oSum D l)), (0, .ref a), (1, .int (iI (((y : Nat) : Int)))), (2, .int (iI (thr)))] hb 331 13 dL_turns_329 rfl hnL (by decide) rfl ?_
                refine r_iload hb 333 dL_turns_331 rfl 0 rfl ?_
                refine r_if_eq hb 336 361 dL_turns_333 rfl (by decide) (by omega) (fun c333 => ?_) (fun c333 => ?_)
                · exfalso; omega
                · refine r_aload_n hb 337 dL_turns_336 rfl 8 rfl ?_
                  refine r_iload_n hb 338 dL_turns_337 rfl 9 rfl ?_
                  refine r_iload_n hb 339 dL_turns_338 rfl 10 rfl ?_
                  refine r_callS1 (st := []) hb ho 342 dL_turns_339 rfl ck_L_107 (c_L_again a B1 D l nx hs2 s0 (some ((D, l, nx), thr)) thr y hX hok ht (by omega) hy) rfl rfl (by rw [hR0]; exact ⟨Nat.le_of_ble_eq_true rfl, Nat.le_of_ble_eq_true rfl⟩) (Nat.le_of_ble_eq_true rfl) ⟨rfl, rfl⟩ (by rw [hR0]; exact Nat.zero_le _) (by rw [hR0]; exact Nat.zero_le _) (fun vw_339 w_339 nw_339 qw_339 => ?_)
                  obtain ⟨rfl, rfl, hX, ow_339⟩ := qw_339
                  have hO := hO.trans ow_339
                  have hX : xo w_339 a (stP B1 D l nx hs2 s0 (some ((D, l, nx), thr)) thr (D2, l2, nx2)) := by rw [hall] at hX; exact hX
                  refine r_topv (.int R) (by rw [hall]) ?_
                  refine r_iload hb 344 dL_turns_342 rfl 2 rfl ?_
                  refine r_icmpR_ne hb 347 361 dL_turns_344 rfl (by decide) (fun c344 => ?_) (fun c344 => ?_)
                  · exact absurd rfl c344
                  · refine r_aload_n hb 348 dL_turns_347 rfl 8 rfl ?_
                    refine r_callV1 (st := []) hb ho 351 dL_turns_348 rfl ck_L_66 (c_X8_checksum a B1 D2 l2 nx2 (recH hs2 (D, l, nx)) s0 (some ((D, l, nx), thr)) thr hX hok2) rfl rfl ((xo_cell (T := (B1, (D2, l2, nx2), (recH hs2 (D, l, nx)), s0, (some ((D, l, nx), thr)), thr)) hX)) rfl rfl (by rw [hR0]; exact ⟨Nat.le_of_ble_eq_true rfl, Nat.le_of_ble_eq_true rfl⟩) (Nat.le_of_ble_eq_true rfl) ⟨rfl, rfl⟩ (by rw [hR0]; exact Nat.zero_le _) (by rw [hR0]; exact Nat.zero_le _) (fun vw_348 w_348 nw_348 qw_348 => ?_)
                    obtain ⟨rfl, rfl, hX, ow_348⟩ := qw_348
                    have hO := hO.trans ow_348
                    refine r_lload hb 353 dL_turns_351 rfl 1 rfl ?_
                    refine r_lcmp hb 354 dL_turns_353 rfl ?_
                    refine r_if0_ne hb 357 361 dL_turns_354 rfl (by decide) (fun c354 => ?_) (fun c354 => ?_)
                    · exact absurd (lg_cmp_self _) c354
                    · refine r_iconst hb 358 dL_turns_357 rfl ?_
                      refine r_goto hb 362 dL_turns_358 (by decide) ?_
                      refine r_iret hS dL_turns_362 rfl rfl (Nat.zero_le _) (Nat.zero_le _) ?_
                      exact ⟨_, rfl, rfl, rfl, ⟨_, hX, k4, hq2, rfl⟩, hO⟩
        · exfalso; omega
    refine r_iload_n hb 48 dL_turns_47 rfl 6 rfl ?_
    refine r_bipush 10 hb 50 dL_turns_48 rfl rfl ?_
    refine r_iremN (a := y) (d := 10) hb 51 dL_turns_50 rfl (by omega) (by omega) (by omega) (by omega) (by omega) ?_
    rcases (show y % 10 = 0 ∨ y % 10 = 1 ∨ y % 10 = 2 ∨ y % 10 = 3 ∨ y % 10 = 4 ∨ y % 10 = 5 ∨ y % 10 = 6 ∨ y % 10 = 7 ∨ y % 10 = 8 ∨ y % 10 = 9 from by omega) with hk0 | hk1 | hk2 | hk3 | hk4 | hk5 | hk6 | hk7 | hk8 | hk9
    · refine r_tsw hb 100 dL_turns_51 0 ((toInt_iI (by omega)).trans (by omega)) (by decide) (by decide) rfl (by decide) ?_
      refine r_aload_n hb 101 dL_turns_100 rfl 5 rfl ?_
      refine r_iload hb 103 dL_turns_101 rfl 3 rfl ?_
      refine r_iload hb 105 dL_turns_103 rfl 3 rfl ?_
      refine r_iconst hb 106 dL_turns_105 rfl ?_
      refine r_ishrN (a := ((y / 16))) (k := 5) hb 107 dL_turns_106 rfl (by omega) (by omega) (sN_b 5 (by decide)) (((y / 16)) / 32) rfl ?_
      refine r_bipush 9 hb 109 dL_turns_107 rfl rfl ?_
      refine r_iremN (a := ((((y / 16)) / 32))) (d := 9) hb 110 dL_turns_109 rfl (by omega) (by omega) (by omega) (by omega) (by omega) ?_
      refine r_callS0 (st := []) hb ho 113 dL_turns_110 rfl ck_L_70 (c_L_buffers a B D l nx hs s0 s1 thr ((iI (((y / 16 : Nat) : Int)))) (((((((y / 16)) / 32)) % 9))) hX (by omega)) rfl rfl (by rw [hR0]; exact ⟨Nat.le_of_ble_eq_true rfl, Nat.le_of_ble_eq_true rfl⟩) (Nat.le_of_ble_eq_true rfl) ⟨rfl, rfl⟩ (by rw [hR0]; exact Nat.zero_le _) (by rw [hR0]; exact Nat.zero_le _) (fun w_110 nw_110 qw_110 => ?_)
      obtain ⟨rfl, ⟨B1, hBl, hBo, hX⟩, ow_110⟩ := qw_110
      have hO := hO.trans ow_110
      refine r_aload_n hb 114 dL_turns_113 rfl 5 rfl ?_
      refine r_iload hb 116 dL_turns_114 rfl 0 rfl ?_
      refine r_callV1 (st := []) hb ho 119 dL_turns_116 rfl ck_L_74 (c_X8_insert a B1 D l nx hs s0 s1 thr (((p : Nat) : Int)) hX (by omega) hok) rfl rfl ((xo_cell (T := (B1, (D, l, nx), hs, s0, s1, thr)) hX)) rfl rfl (by rw [hR0]; exact ⟨Nat.le_of_ble_eq_true rfl, Nat.le_of_ble_eq_true rfl⟩) (Nat.le_of_ble_eq_true rfl) ⟨rfl, rfl⟩ (by rw [hR0]; exact Nat.zero_le _) (by rw [hR0]; exact Nat.zero_le _) (fun vw_116 w_116 nw_116 qw_116 => ?_)
      obtain ⟨rfl, rfl, hX, ow_116⟩ := qw_116
      have hO := hO.trans ow_116
      refine r_istore [(9, .int ((oIns B1 D l nx hs s0 s1 thr (((p : Nat) : Int))).1)), (8, .int (iI (((p : Nat) : Int)))), (7, .int (iI (((kc : Nat) : Int)))), (6, .int (iI (((l.length : Nat) : Int)))), (5, .int (iI (((y / 16 : Nat) : Int)))), (3, .long (oSum D l)), (0, .ref a), (1, .int (iI (((y : Nat) : Int)))), (2, .int (iI (thr)))] hb 121 13 dL_turns_119 rfl hnL (by decide) rfl ?_
      refine r_goto hb 269 dL_turns_121 (by decide) ?_
      have e : acF B1 D l nx hs s0 s1 thr y = oIns B1 D l nx hs s0 s1 thr (((p : Nat) : Int)) := by unfold acF; rw [if_pos hk0, hp]
      refine r_lv [(9, .int ((oIns B1 D l nx hs s0 s1 thr (((p : Nat) : Int))).1)), (8, .int (iI (((p : Nat) : Int)))), (7, .int (iI (((kc : Nat) : Int)))), (6, .int (iI (((l.length : Nat) : Int)))), (5, .int (iI (((y / 16 : Nat) : Int)))), (3, .long (oSum D l)), (0, .ref a), (1, .int (iI (((y : Nat) : Int)))), (2, .int (iI (thr)))] [0, 1, 2, 3, 4, 5, 6, 7, 8] (rfl) ?_
      exact j269 _ _ _ ⟨by omega, hBo⟩ (Or.inr ⟨by rw [e], by rw [e]; exact hX⟩) hO
    · refine r_tsw hb 124 dL_turns_51 1 ((toInt_iI (by omega)).trans (by omega)) (by decide) (by decide) rfl (by decide) ?_
      refine r_aload_n hb 125 dL_turns_124 rfl 5 rfl ?_
      refine r_iload hb 127 dL_turns_125 rfl 0 rfl ?_
      refine r_iload hb 129 dL_turns_127 rfl 3 rfl ?_
      refine r_iconst hb 130 dL_turns_129 rfl ?_
      refine r_ishrN (a := ((y / 16))) (k := 5) hb 131 dL_turns_130 rfl (by omega) (by omega) (sN_b 5 (by decide)) (((y / 16)) / 32) rfl ?_
      refine r_bipush 6 hb 133 dL_turns_131 rfl rfl ?_
      refine r_iremN (a := ((((y / 16)) / 32))) (d := 6) hb 134 dL_turns_133 rfl (by omega) (by omega) (by omega) (by omega) (by omega) ?_
      refine r_callV1 (st := []) hb ho 137 dL_turns_134 rfl ck_L_77 (c_X8_delete a B D l nx hs s0 s1 thr (((p : Nat) : Int)) (((((((y / 16)) / 32)) % 6 : Nat) : Int)) hX (by omega) (by omega)) rfl rfl ((xo_cell (T := (B, (D, l, nx), hs, s0, s1, thr)) hX)) rfl rfl (by rw [hR0]; exact ⟨Nat.le_of_ble_eq_true rfl, Nat.le_of_ble_eq_true rfl⟩) (Nat.le_of_ble_eq_true rfl) ⟨rfl, rfl⟩ (by rw [hR0]; exact Nat.zero_le _) (by rw [hR0]; exact Nat.zero_le _) (fun vw_134 w_134 nw_134 qw_134 => ?_)
      obtain ⟨rfl, rfl, hX, ow_134⟩ := qw_134
      have hO := hO.trans ow_134
      refine r_istore [(9, .int ((oDel B D l nx hs s0 s1 thr (((p : Nat) : Int)) (((((((y / 16)) / 32)) % 6 : Nat) : Int))).1)), (8, .int (iI (((p : Nat) : Int)))), (7, .int (iI (((kc : Nat) : Int)))), (6, .int (iI (((l.length : Nat) : Int)))), (5, .int (iI (((y / 16 : Nat) : Int)))), (3, .long (oSum D l)), (0, .ref a), (1, .int (iI (((y : Nat) : Int)))), (2, .int (iI (thr)))] hb 139 13 dL_turns_137 rfl hnL (by decide) rfl ?_
      refine r_goto hb 269 dL_turns_139 (by decide) ?_
      have e : acF B D l nx hs s0 s1 thr y = oDel B D l nx hs s0 s1 thr (((p : Nat) : Int)) (((((((y / 16)) / 32)) % 6 : Nat) : Int)) := by unfold acF; rw [if_neg (by omega), if_pos hk1, hp]
      refine r_lv [(9, .int ((oDel B D l nx hs s0 s1 thr (((p : Nat) : Int)) (((((((y / 16)) / 32)) % 6 : Nat) : Int))).1)), (8, .int (iI (((p : Nat) : Int)))), (7, .int (iI (((kc : Nat) : Int)))), (6, .int (iI (((l.length : Nat) : Int)))), (5, .int (iI (((y / 16 : Nat) : Int)))), (3, .long (oSum D l)), (0, .ref a), (1, .int (iI (((y : Nat) : Int)))), (2, .int (iI (thr)))] [0, 1, 2, 3, 4, 5, 6, 7, 8] (rfl) ?_
      exact j269 _ _ _ hB0 (Or.inr ⟨by rw [e], by rw [e]; exact hX⟩) hO
    · refine r_tsw hb 142 dL_turns_51 2 ((toInt_iI (by omega)).trans (by omega)) (by decide) (by decide) rfl (by decide) ?_
      refine r_aload_n hb 143 dL_turns_142 rfl 5 rfl ?_
      refine r_iload hb 145 dL_turns_143 rfl 0 rfl ?_
      refine r_iload hb 147 dL_turns_145 rfl 0 rfl ?_
      refine r_iconst hb 148 dL_turns_147 rfl ?_
      refine r_iaddZ hb 149 (((p : Nat) : Int) + 1) dL_turns_148 rfl (by omega) ?_
      refine r_iload hb 151 dL_turns_149 rfl 3 rfl ?_
      refine r_iconst hb 152 dL_turns_151 rfl ?_
      refine r_ishrN (a := ((y / 16))) (k := 5) hb 153 dL_turns_152 rfl (by omega) (by omega) (sN_b 5 (by decide)) (((y / 16)) / 32) rfl ?_
      refine r_bipush 7 hb 155 dL_turns_153 rfl rfl ?_
      refine r_iremN (a := ((((y / 16)) / 32))) (d := 7) hb 156 dL_turns_155 rfl (by omega) (by omega) (by omega) (by omega) (by omega) ?_
      refine r_iaddZ hb 157 (((p : Nat) : Int) + ((((((y / 16)) / 32)) % 7 : Nat) : Int) + 1) dL_turns_156 rfl (by omega) ?_
      refine r_topv (.int (iI (((p + 1 + y / 16 / 32 % 7 : Nat) : Int)))) (congrArg (fun z : Int => Value.int (iI z)) (by omega)) ?_
      refine r_callV1 (st := []) hb ho 160 dL_turns_157 rfl ck_L_80 (c_X8_comment a B D l nx hs s0 s1 thr (((p : Nat) : Int)) (((p + 1 + y / 16 / 32 % 7 : Nat) : Int)) hX (by omega) (by omega) (by omega)) rfl rfl ((xo_cell (T := (B, (D, l, nx), hs, s0, s1, thr)) hX)) rfl rfl (by rw [hR0]; exact ⟨Nat.le_of_ble_eq_true rfl, Nat.le_of_ble_eq_true rfl⟩) (Nat.le_of_ble_eq_true rfl) ⟨rfl, rfl⟩ (by rw [hR0]; exact Nat.zero_le _) (by rw [hR0]; exact Nat.zero_le _) (fun vw_157 w_157 nw_157 qw_157 => ?_)
      obtain ⟨rfl, rfl, hX, ow_157⟩ := qw_157
      have hO := hO.trans ow_157
      refine r_istore [(9, .int ((oCom B D l nx hs s0 s1 thr (((p : Nat) : Int)) (((p + 1 + y / 16 / 32 % 7 : Nat) : Int))).1)), (8, .int (iI (((p : Nat) : Int)))), (7, .int (iI (((kc : Nat) : Int)))), (6, .int (iI (((l.length : Nat) : Int)))), (5, .int (iI (((y / 16 : Nat) : Int)))), (3, .long (oSum D l)), (0, .ref a), (1, .int (iI (((y : Nat) : Int)))), (2, .int (iI (thr)))] hb 162 13 dL_turns_160 rfl hnL (by decide) rfl ?_
      refine r_goto hb 269 dL_turns_162 (by decide) ?_
      have e : acF B D l nx hs s0 s1 thr y = oCom B D l nx hs s0 s1 thr (((p : Nat) : Int)) (((p + 1 + y / 16 / 32 % 7 : Nat) : Int)) := by unfold acF; rw [if_neg (by omega), if_neg (by omega), if_pos (Or.inl hk2), hp]
      refine r_lv [(9, .int ((oCom B D l nx hs s0 s1 thr (((p : Nat) : Int)) (((p + 1 + y / 16 / 32 % 7 : Nat) : Int))).1)), (8, .int (iI (((p : Nat) : Int)))), (7, .int (iI (((kc : Nat) : Int)))), (6, .int (iI (((l.length : Nat) : Int)))), (5, .int (iI (((y / 16 : Nat) : Int)))), (3, .long (oSum D l)), (0, .ref a), (1, .int (iI (((y : Nat) : Int)))), (2, .int (iI (thr)))] [0, 1, 2, 3, 4, 5, 6, 7, 8] (rfl) ?_
      exact j269 _ _ _ hB0 (Or.inr ⟨by rw [e], by rw [e]; exact hX⟩) hO
    · refine r_tsw hb 142 dL_turns_51 3 ((toInt_iI (by omega)).trans (by omega)) (by decide) (by decide) rfl (by decide) ?_
      refine r_aload_n hb 143 dL_turns_142 rfl 5 rfl ?_
      refine r_iload hb 145 dL_turns_143 rfl 0 rfl ?_
      refine r_iload hb 147 dL_turns_145 rfl 0 rfl ?_
      refine r_iconst hb 148 dL_turns_147 rfl ?_
      refine r_iaddZ hb 149 (((p : Nat) : Int) + 1) dL_turns_148 rfl (by omega) ?_
      refine r_iload hb 151 dL_turns_149 rfl 3 rfl ?_
      refine r_iconst hb 152 dL_turns_151 rfl ?_
      refine r_ishrN (a := ((y / 16))) (k := 5) hb 153 dL_turns_152 rfl (by omega) (by omega) (sN_b 5 (by decide)) (((y / 16)) / 32) rfl ?_
      refine r_bipush 7 hb 155 dL_turns_153 rfl rfl ?_
      refine r_iremN (a := ((((y / 16)) / 32))) (d := 7) hb 156 dL_turns_155 rfl (by omega) (by omega) (by omega) (by omega) (by omega) ?_
      refine r_iaddZ hb 157 (((p : Nat) : Int) + ((((((y / 16)) / 32)) % 7 : Nat) : Int) + 1) dL_turns_156 rfl (by omega) ?_
      refine r_topv (.int (iI (((p + 1 + y / 16 / 32 % 7 : Nat) : Int)))) (congrArg (fun z : Int => Value.int (iI z)) (by omega)) ?_
      refine r_callV1 (st := []) hb ho 160 dL_turns_157 rfl ck_L_80 (c_X8_comment a B D l nx hs s0 s1 thr (((p : Nat) : Int)) (((p + 1 + y / 16 / 32 % 7 : Nat) : Int)) hX (by omega) (by omega) (by omega)) rfl rfl ((xo_cell (T := (B, (D, l, nx), hs, s0, s1, thr)) hX)) rfl rfl (by rw [hR0]; exact ⟨Nat.le_of_ble_eq_true rfl, Nat.le_of_ble_eq_true rfl⟩) (Nat.le_of_ble_eq_true rfl) ⟨rfl, rfl⟩ (by rw [hR0]; exact Nat.zero_le _) (by rw [hR0]; exact Nat.zero_le _) (fun vw_157 w_157 nw_157 qw_157 => ?_)
      obtain ⟨rfl, rfl, hX, ow_157⟩ := qw_157
      have hO := hO.trans ow_157
      refine r_istore [(9, .int ((oCom B D l nx hs s0 s1 thr (((p : Nat) : Int)) (((p + 1 + y / 16 / 32 % 7 : Nat) : Int))).1)), (8, .int (iI (((p : Nat) : Int)))), (7, .int (iI (((kc : Nat) : Int)))), (6, .int (iI (((l.length : Nat) : Int)))), (5, .int (iI (((y / 16 : Nat) : Int)))), (3, .long (oSum D l)), (0, .ref a), (1, .int (iI (((y : Nat) : Int)))), (2, .int (iI (thr)))] hb 162 13 dL_turns_160 rfl hnL (by decide) rfl ?_
      refine r_goto hb 269 dL_turns_162 (by decide) ?_
      have e : acF B D l nx hs s0 s1 thr y = oCom B D l nx hs s0 s1 thr (((p : Nat) : Int)) (((p + 1 + y / 16 / 32 % 7 : Nat) : Int)) := by unfold acF; rw [if_neg (by omega), if_neg (by omega), if_pos (Or.inr hk3), hp]
      refine r_lv [(9, .int ((oCom B D l nx hs s0 s1 thr (((p : Nat) : Int)) (((p + 1 + y / 16 / 32 % 7 : Nat) : Int))).1)), (8, .int (iI (((p : Nat) : Int)))), (7, .int (iI (((kc : Nat) : Int)))), (6, .int (iI (((l.length : Nat) : Int)))), (5, .int (iI (((y / 16 : Nat) : Int)))), (3, .long (oSum D l)), (0, .ref a), (1, .int (iI (((y : Nat) : Int)))), (2, .int (iI (thr)))] [0, 1, 2, 3, 4, 5, 6, 7, 8] (rfl) ?_
      exact j269 _ _ _ hB0 (Or.inr ⟨by rw [e], by rw [e]; exact hX⟩) hO
    · refine r_tsw hb 165 dL_turns_51 4 ((toInt_iI (by omega)).trans (by omega)) (by decide) (by decide) rfl (by decide) ?_
      refine r_aload_n hb 166 dL_turns_165 rfl 5 rfl ?_
      refine r_iload hb 168 dL_turns_166 rfl 1 rfl ?_
      refine r_callV1 (st := []) hb ho 171 dL_turns_168 rfl ck_L_83 (c_X8_attach a B D l nx hs s0 s1 thr (((kc : Nat) : Int)) hX (by omega) hok ht) rfl rfl ((xo_cell (T := (B, (D, l, nx), hs, s0, s1, thr)) hX)) rfl rfl (by rw [hR0]; exact ⟨Nat.le_of_ble_eq_true rfl, Nat.le_of_ble_eq_true rfl⟩) (Nat.le_of_ble_eq_true rfl) ⟨rfl, rfl⟩ (by rw [hR0]; exact Nat.zero_le _) (by rw [hR0]; exact Nat.zero_le _) (fun vw_168 w_168 nw_168 qw_168 => ?_)
      obtain ⟨rfl, rfl, hX, ow_168⟩ := qw_168
      have hO := hO.trans ow_168
      refine r_istore [(9, .int ((oAtt B D l nx hs s0 s1 thr (((kc : Nat) : Int))).1)), (8, .int (iI (((p : Nat) : Int)))), (7, .int (iI (((kc : Nat) : Int)))), (6, .int (iI (((l.length : Nat) : Int)))), (5, .int (iI (((y / 16 : Nat) : Int)))), (3, .long (oSum D l)), (0, .ref a), (1, .int (iI (((y : Nat) : Int)))), (2, .int (iI (thr)))] hb 173 13 dL_turns_171 rfl hnL (by decide) rfl ?_
      refine r_goto hb 269 dL_turns_173 (by decide) ?_
      have e : acF B D l nx hs s0 s1 thr y = oAtt B D l nx hs s0 s1 thr (((kc : Nat) : Int)) := by unfold acF; rw [if_neg (by omega), if_neg (by omega), if_neg (by omega), if_pos hk4, hkc]
      refine r_lv [(9, .int ((oAtt B D l nx hs s0 s1 thr (((kc : Nat) : Int))).1)), (8, .int (iI (((p : Nat) : Int)))), (7, .int (iI (((kc : Nat) : Int)))), (6, .int (iI (((l.length : Nat) : Int)))), (5, .int (iI (((y / 16 : Nat) : Int)))), (3, .long (oSum D l)), (0, .ref a), (1, .int (iI (((y : Nat) : Int)))), (2, .int (iI (thr)))] [0, 1, 2, 3, 4, 5, 6, 7, 8] (rfl) ?_
      exact j269 _ _ _ hB0 (Or.inr ⟨by rw [e], by rw [e]; exact hX⟩) hO
    · refine r_tsw hb 176 dL_turns_51 5 ((toInt_iI (by omega)).trans (by omega)) (by decide) (by decide) rfl (by decide) ?_
      refine r_aload_n hb 177 dL_turns_176 rfl 5 rfl ?_
      refine r_callV1 (st := []) hb ho 180 dL_turns_177 rfl ck_L_86 (c_X8_attachAll a B D l nx hs s0 s1 thr hX hok ht) rfl rfl ((xo_cell (T := (B, (D, l, nx), hs, s0, s1, thr)) hX)) rfl rfl (by rw [hR0]; exact ⟨Nat.le_of_ble_eq_true rfl, Nat.le_of_ble_eq_true rfl⟩) (Nat.le_of_ble_eq_true rfl) ⟨rfl, rfl⟩ (by rw [hR0]; exact Nat.zero_le _) (by rw [hR0]; exact Nat.zero_le _) (fun vw_177 w_177 nw_177 qw_177 => ?_)
      obtain ⟨rfl, rfl, hX, ow_177⟩ := qw_177
      have hO := hO.trans ow_177
      refine r_istore [(9, .int ((oAll B D l nx hs s0 s1 thr ).1)), (8, .int (iI (((p : Nat) : Int)))), (7, .int (iI (((kc : Nat) : Int)))), (6, .int (iI (((l.length : Nat) : Int)))), (5, .int (iI (((y / 16 : Nat) : Int)))), (3, .long (oSum D l)), (0, .ref a), (1, .int (iI (((y : Nat) : Int)))), (2, .int (iI (thr)))] hb 182 13 dL_turns_180 rfl hnL (by decide) rfl ?_
      refine r_goto hb 269 dL_turns_182 (by decide) ?_
      have e : acF B D l nx hs s0 s1 thr y = oAll B D l nx hs s0 s1 thr  := by unfold acF; rw [if_neg (by omega), if_neg (by omega), if_neg (by omega), if_neg (by omega), if_pos hk5]
      refine r_lv [(9, .int ((oAll B D l nx hs s0 s1 thr ).1)), (8, .int (iI (((p : Nat) : Int)))), (7, .int (iI (((kc : Nat) : Int)))), (6, .int (iI (((l.length : Nat) : Int)))), (5, .int (iI (((y / 16 : Nat) : Int)))), (3, .long (oSum D l)), (0, .ref a), (1, .int (iI (((y : Nat) : Int)))), (2, .int (iI (thr)))] [0, 1, 2, 3, 4, 5, 6, 7, 8] (rfl) ?_
      exact j269 _ _ _ hB0 (Or.inr ⟨by rw [e], by rw [e]; exact hX⟩) hO
    · refine r_tsw hb 185 dL_turns_51 6 ((toInt_iI (by omega)).trans (by omega)) (by decide) (by decide) rfl (by decide) ?_
      refine r_aload_n hb 186 dL_turns_185 rfl 5 rfl ?_
      refine r_callV1 (st := []) hb ho 189 dL_turns_186 rfl ck_L_89 (c_X8_merge a B D l nx hs s0 s1 thr hX) rfl rfl ((xo_cell (T := (B, (D, l, nx), hs, s0, s1, thr)) hX)) rfl rfl (by rw [hR0]; exact ⟨Nat.le_of_ble_eq_true rfl, Nat.le_of_ble_eq_true rfl⟩) (Nat.le_of_ble_eq_true rfl) ⟨rfl, rfl⟩ (by rw [hR0]; exact Nat.zero_le _) (by rw [hR0]; exact Nat.zero_le _) (fun vw_186 w_186 nw_186 qw_186 => ?_)
      obtain ⟨rfl, rfl, hX, ow_186⟩ := qw_186
      have hO := hO.trans ow_186
      refine r_istore [(9, .int ((oMer B D l nx hs s0 s1 thr ).1)), (8, .int (iI (((p : Nat) : Int)))), (7, .int (iI (((kc : Nat) : Int)))), (6, .int (iI (((l.length : Nat) : Int)))), (5, .int (iI (((y / 16 : Nat) : Int)))), (3, .long (oSum D l)), (0, .ref a), (1, .int (iI (((y : Nat) : Int)))), (2, .int (iI (thr)))] hb 191 13 dL_turns_189 rfl hnL (by decide) rfl ?_
      refine r_goto hb 269 dL_turns_191 (by decide) ?_
      have e : acF B D l nx hs s0 s1 thr y = oMer B D l nx hs s0 s1 thr  := by unfold acF; rw [if_neg (by omega), if_neg (by omega), if_neg (by omega), if_neg (by omega), if_neg (by omega), if_pos hk6]
      refine r_lv [(9, .int ((oMer B D l nx hs s0 s1 thr ).1)), (8, .int (iI (((p : Nat) : Int)))), (7, .int (iI (((kc : Nat) : Int)))), (6, .int (iI (((l.length : Nat) : Int)))), (5, .int (iI (((y / 16 : Nat) : Int)))), (3, .long (oSum D l)), (0, .ref a), (1, .int (iI (((y : Nat) : Int)))), (2, .int (iI (thr)))] [0, 1, 2, 3, 4, 5, 6, 7, 8] (rfl) ?_
      exact j269 _ _ _ hB0 (Or.inr ⟨by rw [e], by rw [e]; exact hX⟩) hO
    · refine r_tsw hb 194 dL_turns_51 7 ((toInt_iI (by omega)).trans (by omega)) (by decide) (by decide) rfl (by decide) ?_
      refine r_iload hb 196 dL_turns_194 rfl 3 rfl ?_
      refine r_bipush 32 hb 198 dL_turns_196 rfl rfl ?_
      refine r_iand hb 199 dL_turns_198 rfl ?_
      refine r_if0_ne hb 202 211 dL_turns_199 rfl (by decide) (fun c199 => ?_) (fun c199 => ?_)
      · refine r_aload_n hb 212 dL_turns_211 rfl 5 rfl ?_
        refine r_iload hb 214 dL_turns_212 rfl 1 rfl ?_
        refine r_callV1 (st := []) hb ho 217 dL_turns_214 rfl ck_L_95 (c_X8_quoteAnew a B D l nx hs s0 s1 thr (((kc : Nat) : Int)) hX (by omega)) rfl rfl ((xo_cell (T := (B, (D, l, nx), hs, s0, s1, thr)) hX)) rfl rfl (by rw [hR0]; exact ⟨Nat.le_of_ble_eq_true rfl, Nat.le_of_ble_eq_true rfl⟩) (Nat.le_of_ble_eq_true rfl) ⟨rfl, rfl⟩ (by rw [hR0]; exact Nat.zero_le _) (by rw [hR0]; exact Nat.zero_le _) (fun vw_214 w_214 nw_214 qw_214 => ?_)
        obtain ⟨rfl, rfl, hX, ow_214⟩ := qw_214
        have hO := hO.trans ow_214
        refine r_istore [(9, .int ((oQuo B D l nx hs s0 s1 thr (((kc : Nat) : Int))).1)), (8, .int (iI (((p : Nat) : Int)))), (7, .int (iI (((kc : Nat) : Int)))), (6, .int (iI (((l.length : Nat) : Int)))), (5, .int (iI (((y / 16 : Nat) : Int)))), (3, .long (oSum D l)), (0, .ref a), (1, .int (iI (((y : Nat) : Int)))), (2, .int (iI (thr)))] hb 219 13 dL_turns_217 rfl hnL (by decide) rfl ?_
        refine r_goto hb 269 dL_turns_219 (by decide) ?_
        have e : acF B D l nx hs s0 s1 thr y = oQuo B D l nx hs s0 s1 thr (((kc : Nat) : Int)) := by unfold acF; rw [if_neg (by omega), if_neg (by omega), if_neg (by omega), if_neg (by omega), if_neg (by omega), if_neg (by omega), if_pos hk7, if_neg c199, hkc]
        refine r_lv [(9, .int ((oQuo B D l nx hs s0 s1 thr (((kc : Nat) : Int))).1)), (8, .int (iI (((p : Nat) : Int)))), (7, .int (iI (((kc : Nat) : Int)))), (6, .int (iI (((l.length : Nat) : Int)))), (5, .int (iI (((y / 16 : Nat) : Int)))), (3, .long (oSum D l)), (0, .ref a), (1, .int (iI (((y : Nat) : Int)))), (2, .int (iI (thr)))] [0, 1, 2, 3, 4, 5, 6, 7, 8] (rfl) ?_
        exact j269 _ _ _ hB0 (Or.inr ⟨by rw [e], by rw [e]; exact hX⟩) hO
      · refine r_aload_n hb 203 dL_turns_202 rfl 5 rfl ?_
        refine r_iload hb 205 dL_turns_203 rfl 1 rfl ?_
        refine r_callV1 (st := []) hb ho 208 dL_turns_205 rfl ck_L_92 (c_X8_remove a B D l nx hs s0 s1 thr (((kc : Nat) : Int)) hX (by omega)) rfl rfl ((xo_cell (T := (B, (D, l, nx), hs, s0, s1, thr)) hX)) rfl rfl (by rw [hR0]; exact ⟨Nat.le_of_ble_eq_true rfl, Nat.le_of_ble_eq_true rfl⟩) (Nat.le_of_ble_eq_true rfl) ⟨rfl, rfl⟩ (by rw [hR0]; exact Nat.zero_le _) (by rw [hR0]; exact Nat.zero_le _) (fun vw_205 w_205 nw_205 qw_205 => ?_)
        obtain ⟨rfl, rfl, hX, ow_205⟩ := qw_205
        have hO := hO.trans ow_205
        refine r_goto hb 217 dL_turns_208 (by decide) ?_
        refine r_istore [(9, .int ((oRem B D l nx hs s0 s1 thr (((kc : Nat) : Int))).1)), (8, .int (iI (((p : Nat) : Int)))), (7, .int (iI (((kc : Nat) : Int)))), (6, .int (iI (((l.length : Nat) : Int)))), (5, .int (iI (((y / 16 : Nat) : Int)))), (3, .long (oSum D l)), (0, .ref a), (1, .int (iI (((y : Nat) : Int)))), (2, .int (iI (thr)))] hb 219 13 dL_turns_217 rfl hnL (by decide) rfl ?_
        refine r_goto hb 269 dL_turns_219 (by decide) ?_
        have e : acF B D l nx hs s0 s1 thr y = oRem B D l nx hs s0 s1 thr (((kc : Nat) : Int)) := by unfold acF; rw [if_neg (by omega), if_neg (by omega), if_neg (by omega), if_neg (by omega), if_neg (by omega), if_neg (by omega), if_pos hk7, if_pos c199, hkc]
        refine r_lv [(9, .int ((oRem B D l nx hs s0 s1 thr (((kc : Nat) : Int))).1)), (8, .int (iI (((p : Nat) : Int)))), (7, .int (iI (((kc : Nat) : Int)))), (6, .int (iI (((l.length : Nat) : Int)))), (5, .int (iI (((y / 16 : Nat) : Int)))), (3, .long (oSum D l)), (0, .ref a), (1, .int (iI (((y : Nat) : Int)))), (2, .int (iI (thr)))] [0, 1, 2, 3, 4, 5, 6, 7, 8] (rfl) ?_
        exact j269 _ _ _ hB0 (Or.inr ⟨by rw [e], by rw [e]; exact hX⟩) hO
    · refine r_tsw hb 222 dL_turns_51 8 ((toInt_iI (by omega)).trans (by omega)) (by decide) (by decide) rfl (by decide) ?_
      refine r_aload_n hb 223 dL_turns_222 rfl 5 rfl ?_
      refine r_iload hb 225 dL_turns_223 rfl 3 rfl ?_
      refine r_bipush 10 hb 227 dL_turns_225 rfl rfl ?_
      refine r_iload hb 229 dL_turns_227 rfl 3 rfl ?_
      refine r_iconst hb 230 dL_turns_229 rfl ?_
      refine r_ishrN (a := ((y / 16))) (k := 5) hb 231 dL_turns_230 rfl (by omega) (by omega) (sN_b 5 (by decide)) (((y / 16)) / 32) rfl ?_
      refine r_bipush 20 hb 233 dL_turns_231 rfl rfl ?_
      refine r_iremN (a := ((((y / 16)) / 32))) (d := 20) hb 234 dL_turns_233 rfl (by omega) (by omega) (by omega) (by omega) (by omega) ?_
      refine r_iaddZ hb 235 (((((((y / 16)) / 32)) % 20 : Nat) : Int) + 10) dL_turns_234 rfl (by omega) ?_
      refine r_topv (.int (iI (((10 + y / 16 / 32 % 20 : Nat) : Int)))) (congrArg (fun z : Int => Value.int (iI z)) (by omega)) ?_
      refine r_callS0 (st := []) hb ho 238 dL_turns_235 rfl ck_L_70 (c_L_buffers a B D l nx hs s0 s1 thr ((iI (((y / 16 : Nat) : Int)))) (((10 + y / 16 / 32 % 20))) hX (by omega)) rfl rfl (by rw [hR0]; exact ⟨Nat.le_of_ble_eq_true rfl, Nat.le_of_ble_eq_true rfl⟩) (Nat.le_of_ble_eq_true rfl) ⟨rfl, rfl⟩ (by rw [hR0]; exact Nat.zero_le _) (by rw [hR0]; exact Nat.zero_le _) (fun w_235 nw_235 qw_235 => ?_)
      obtain ⟨rfl, ⟨B1, hBl, hBo, hX⟩, ow_235⟩ := qw_235
      have hO := hO.trans ow_235
      refine r_iload hb 240 dL_turns_238 rfl 3 rfl ?_
      refine r_bipush 64 hb 242 dL_turns_240 rfl rfl ?_
      refine r_iand hb 243 dL_turns_242 rfl ?_
      refine r_if0_ne hb 246 253 dL_turns_243 rfl (by decide) (fun c243 => ?_) (fun c243 => ?_)
      · refine r_aload_n hb 254 dL_turns_253 rfl 5 rfl ?_
        refine r_iload hb 256 dL_turns_254 rfl 0 rfl ?_
        refine r_callV1 (st := []) hb ho 259 dL_turns_256 rfl ck_L_74 (c_X8_insert a B1 D l nx hs s0 s1 thr (((p : Nat) : Int)) hX (by omega) hok) rfl rfl ((xo_cell (T := (B1, (D, l, nx), hs, s0, s1, thr)) hX)) rfl rfl (by rw [hR0]; exact ⟨Nat.le_of_ble_eq_true rfl, Nat.le_of_ble_eq_true rfl⟩) (Nat.le_of_ble_eq_true rfl) ⟨rfl, rfl⟩ (by rw [hR0]; exact Nat.zero_le _) (by rw [hR0]; exact Nat.zero_le _) (fun vw_256 w_256 nw_256 qw_256 => ?_)
        obtain ⟨rfl, rfl, hX, ow_256⟩ := qw_256
        have hO := hO.trans ow_256
        refine r_istore [(9, .int ((oIns B1 D l nx hs s0 s1 thr (((p : Nat) : Int))).1)), (8, .int (iI (((p : Nat) : Int)))), (7, .int (iI (((kc : Nat) : Int)))), (6, .int (iI (((l.length : Nat) : Int)))), (5, .int (iI (((y / 16 : Nat) : Int)))), (3, .long (oSum D l)), (0, .ref a), (1, .int (iI (((y : Nat) : Int)))), (2, .int (iI (thr)))] hb 261 13 dL_turns_259 rfl hnL (by decide) rfl ?_
        refine r_goto hb 269 dL_turns_261 (by decide) ?_
        have e : acF B1 D l nx hs s0 s1 thr y = oIns B1 D l nx hs s0 s1 thr (((p : Nat) : Int)) := by unfold acF; rw [if_neg (by omega), if_neg (by omega), if_neg (by omega), if_neg (by omega), if_neg (by omega), if_neg (by omega), if_neg (by omega), if_neg c243, hp]
        refine r_lv [(9, .int ((oIns B1 D l nx hs s0 s1 thr (((p : Nat) : Int))).1)), (8, .int (iI (((p : Nat) : Int)))), (7, .int (iI (((kc : Nat) : Int)))), (6, .int (iI (((l.length : Nat) : Int)))), (5, .int (iI (((y / 16 : Nat) : Int)))), (3, .long (oSum D l)), (0, .ref a), (1, .int (iI (((y : Nat) : Int)))), (2, .int (iI (thr)))] [0, 1, 2, 3, 4, 5, 6, 7, 8] (rfl) ?_
        exact j269 _ _ _ ⟨by omega, hBo⟩ (Or.inr ⟨by rw [e], by rw [e]; exact hX⟩) hO
      · refine r_aload_n hb 247 dL_turns_246 rfl 5 rfl ?_
        refine r_callV1 (st := []) hb ho 250 dL_turns_247 rfl ck_L_98 (c_X8_load a B1 D l nx hs s0 s1 thr hX hok) rfl rfl ((xo_cell (T := (B1, (D, l, nx), hs, s0, s1, thr)) hX)) rfl rfl (by rw [hR0]; exact ⟨Nat.le_of_ble_eq_true rfl, Nat.le_of_ble_eq_true rfl⟩) (Nat.le_of_ble_eq_true rfl) ⟨rfl, rfl⟩ (by rw [hR0]; exact Nat.zero_le _) (by rw [hR0]; exact Nat.zero_le _) (fun vw_247 w_247 nw_247 qw_247 => ?_)
        obtain ⟨rfl, rfl, hX, ow_247⟩ := qw_247
        have hO := hO.trans ow_247
        refine r_goto hb 259 dL_turns_250 (by decide) ?_
        refine r_istore [(9, .int ((oLoad B1 D l nx hs s0 s1 thr ).1)), (8, .int (iI (((p : Nat) : Int)))), (7, .int (iI (((kc : Nat) : Int)))), (6, .int (iI (((l.length : Nat) : Int)))), (5, .int (iI (((y / 16 : Nat) : Int)))), (3, .long (oSum D l)), (0, .ref a), (1, .int (iI (((y : Nat) : Int)))), (2, .int (iI (thr)))] hb 261 13 dL_turns_259 rfl hnL (by decide) rfl ?_
        refine r_goto hb 269 dL_turns_261 (by decide) ?_
        have e : acF B1 D l nx hs s0 s1 thr y = oLoad B1 D l nx hs s0 s1 thr  := by unfold acF; rw [if_neg (by omega), if_neg (by omega), if_neg (by omega), if_neg (by omega), if_neg (by omega), if_neg (by omega), if_neg (by omega), if_pos c243]
        refine r_lv [(9, .int ((oLoad B1 D l nx hs s0 s1 thr ).1)), (8, .int (iI (((p : Nat) : Int)))), (7, .int (iI (((kc : Nat) : Int)))), (6, .int (iI (((l.length : Nat) : Int)))), (5, .int (iI (((y / 16 : Nat) : Int)))), (3, .long (oSum D l)), (0, .ref a), (1, .int (iI (((y : Nat) : Int)))), (2, .int (iI (thr)))] [0, 1, 2, 3, 4, 5, 6, 7, 8] (rfl) ?_
        exact j269 _ _ _ ⟨by omega, hBo⟩ (Or.inr ⟨by rw [e], by rw [e]; exact hX⟩) hO
    · refine r_tswO hb 264 dL_turns_51 (Or.inr (by rw [toInt_iI (by omega)]; omega)) (by decide) ?_
      refine r_sipush (-1005) hb 267 dL_turns_264 rfl rfl ?_
      refine r_istore [(9, .int (iI (-1005))), (8, .int (iI (((p : Nat) : Int)))), (7, .int (iI (((kc : Nat) : Int)))), (6, .int (iI (((l.length : Nat) : Int)))), (5, .int (iI (((y / 16 : Nat) : Int)))), (3, .long (oSum D l)), (0, .ref a), (1, .int (iI (((y : Nat) : Int)))), (2, .int (iI (thr)))] hb 269 13 dL_turns_267 rfl hnL (by decide) rfl ?_
      refine r_lv [(9, .int (iI (-1005))), (8, .int (iI (((p : Nat) : Int)))), (7, .int (iI (((kc : Nat) : Int)))), (6, .int (iI (((l.length : Nat) : Int)))), (5, .int (iI (((y / 16 : Nat) : Int)))), (3, .long (oSum D l)), (0, .ref a), (1, .int (iI (((y : Nat) : Int)))), (2, .int (iI (thr)))] [0, 1, 2, 3, 4, 5, 6, 7, 8] (rfl) ?_
      exact j269 _ _ _ hB0 (Or.inl ⟨rfl, hX⟩) hO
  refine r_iload hb 18 dL_turns_16 rfl 0 rfl ?_
  refine r_if_ne hb 21 25 dL_turns_18 rfl (by decide) (by omega) (fun c18 => ?_) (fun c18 => ?_)
  · refine r_aload_n hb 26 dL_turns_25 rfl 3 rfl ?_
    refine r_iload hb 28 dL_turns_26 rfl 1 rfl ?_
    refine r_iload hb 30 dL_turns_28 rfl 0 rfl ?_
    refine r_iremN (a := ((y / 16))) (d := l.length) hb 31 dL_turns_30 rfl (by omega) (by omega) (by omega) (by omega) (by omega) ?_
    have hmod : y / 16 % l.length < l.length := Nat.mod_lt _ (by omega)
    refine r_callV1 (st := []) hb ho 34 dL_turns_31 rfl ck_L_30 (c_X8_commentAt a B D l nx hs s0 s1 thr (((((y / 16)) % l.length : Nat) : Int)) hX (by omega)) rfl rfl ((xo_cell (T := (B, (D, l, nx), hs, s0, s1, thr)) hX)) rfl rfl (by rw [hR0]; exact ⟨Nat.le_of_ble_eq_true rfl, Nat.le_of_ble_eq_true rfl⟩) (Nat.le_of_ble_eq_true rfl) ⟨rfl, rfl⟩ (by rw [hR0]; exact Nat.zero_le _) (by rw [hR0]; exact Nat.zero_le _) (fun vw_31 w_31 nw_31 qw_31 => ?_)
    obtain ⟨rfl, rfl, hX, ow_31⟩ := qw_31
    have hO := hO.trans ow_31
    rw [rd_commentAt] at hX
    refine r_topz (((kc : Nat) : Int)) ((e_At B D l nx hs s0 s1 thr (Nat.mod_lt _ (by omega))).trans (congrArg (fun z : Nat => iI ((z : Nat) : Int)) (by rw [← hkc]; unfold acK; rw [if_neg (by omega)]))) ?_
    refine r_lv [(6, .int (iI (((l.length : Nat) : Int)))), (5, .int (iI (((y / 16 : Nat) : Int)))), (3, .long (oSum D l)), (0, .ref a), (1, .int (iI (((y : Nat) : Int)))), (2, .int (iI (thr)))] [0, 1, 2, 3, 4, 5] (rfl) ?_
    exact j34 _ hX hO
  · refine r_iconst hb 22 dL_turns_21 rfl ?_
    refine r_topv (.int (iI (((kc : Nat) : Int)))) (by rw [← hkc]; unfold acK; rw [if_pos (by omega)]; rfl) ?_
    refine r_goto hb 34 dL_turns_22 (by decide) ?_
    refine r_lv [(6, .int (iI (((l.length : Nat) : Int)))), (5, .int (iI (((y / 16 : Nat) : Int)))), (3, .long (oSum D l)), (0, .ref a), (1, .int (iI (((y : Nat) : Int)))), (2, .int (iI (thr)))] [0, 1, 2, 3, 4, 5] (rfl) ?_
    exact j34 _ hX hO

