/-! the law's small methods: sign, cell, buffers, again -/
theorem lg_cmp_self (x : Int64) : lg_cmp x x = 0 := by unfold lg_cmp; simp
theorem xo_cell {w : PW} {a : Nat} {T : Fs} (h : xo w a T) : w a = some (eO 8 [.ref (a + 1), .ref (a + 3), .ref (a + 77), .ref (a + 523), .ref (a + 598), .ref (a + 673), .ref (a + 675), .int (iI T.2.2.2.2.2)]) := h.1
theorem xo_hl {w : PW} {a : Nat} {T : Fs} (h : xo w a T) : T.2.2.1.length ≤ 6 := by
  obtain ⟨-, -, -, ⟨ph, qa, P, hO0, -⟩, -⟩ := h
  exact hO0.2.2.2.2.2
theorem acK_le {D : List Int32} {nx : Nat} {l : List Nt} (h : pOk (D, l, nx)) (z : Nat) : acK l z ≤ nx := by
  unfold acK
  by_cases e : l.length = 0
  · rw [if_pos e]; exact Nat.zero_le _
  · rw [if_neg e]
    have := (pOk_l h).1 (z % l.length) (Nat.mod_lt _ (by omega))
    exact Nat.le_of_lt this.2.2.2
abbrev rm_L_sign : Room := { frames := 0, cells := 0, slots := 0, locals := 0 }
set_option maxHeartbeats 4000000 in
set_option maxRecDepth 100000 in
theorem c_L_sign (x : Int32) {w : PW} {n : Nat}  : Ct1 yL_sign cL_sign 1 (some .int) rm_L_sign [.int x] w n (fun v w1 n1 => n = n1 ∧ w = w1 ∧ ∃ c : Nat, 97 ≤ c ∧ c ≤ 99 ∧ v = .int (iI ((c : Nat) : Int))) := by
  refine Ctr.of rfl (Nat.le_of_ble_eq_true rfl) fun S hS => ?_
  have hb : S.1.1 = cL_sign := by rw [hS]; rfl
  have ho : S.1.2.1 = RL := by rw [hS]; rfl
  have hnL : S.1.2.2.1 = 1 := by rw [hS]; rfl
  have hR0 : S.2.1 = rm_L_sign := by rw [hS]; rfl
  show Wp S 0 [(0, .int x)] [] w n 0 0
  refine r_bipush 97 hb 2 dL_sign_0 rfl rfl ?_
  refine r_iload_n hb 3 dL_sign_2 rfl 0 rfl ?_
  refine r_ldcI hb ho 5 dL_sign_3 rfl kI_L_8 ?_
  obtain ⟨c, hc, hce⟩ := sg_and x
  refine r_iand hb 6 dL_sign_5 rfl ?_
  refine r_topz (((c : Nat) : Int)) (hce) ?_
  refine r_iconst hb 7 dL_sign_6 rfl ?_
  refine r_iremN (a := c) (d := 3) hb 8 dL_sign_7 rfl (by omega) (by omega) (by omega) (by omega) (by omega) ?_
  refine r_iaddZ hb 9 (((c % 3 : Nat) : Int) + 97) dL_sign_8 rfl (by omega) ?_
  refine r_iret hS dL_sign_9 rfl rfl (Nat.zero_le _) (Nat.zero_le _) ?_
  exact ⟨_, rfl, rfl, rfl, 97 + c % 3, by omega, by omega, congrArg (fun z : Int => Value.int (iI z)) (by omega)⟩

abbrev rm_L_cell : Room := { frames := 0, cells := 0, slots := 0, locals := 0 }
set_option maxHeartbeats 4000000 in
set_option maxRecDepth 100000 in
theorem c_L_cell (b L k n : Nat) (xs : Nat → Int32) (hk : k < 1000) (hL : L ≤ 260) : CtC yL_cell cL_cell 2 (some .int) rm_L_cell [.ref b, .int (iI ((k : Nat) : Int))] b L xs n (fun v => ∃ c : Nat, c < 2147483648 ∧ v = .int (iI ((c : Nat) : Int))) := by
  refine CtC.of rfl (Nat.le_of_ble_eq_true rfl) fun S hS => ?_
  have hb : S.1.1 = cL_cell := by rw [hS]; rfl
  have ho : S.1.2.1 = RL := by rw [hS]; rfl
  show Wp S 0 [(0, .ref b), (1, .int (iI (((k : Nat) : Int))))] [] wE n 0 0
  refine r_iload_n hb 1 dL_cell_0 rfl 1 rfl ?_
  refine r_aload_n hb 2 dL_cell_1 rfl 0 rfl ?_
  refine r_clen hS 3 dL_cell_2 rfl ?_
  refine r_icmp_ge hb 6 12 dL_cell_3 rfl (by decide) (by omega) (by omega) (fun c3 => ?_) (fun c3 => ?_)
  · refine r_ldcI hb ho 14 dL_cell_12 rfl kI_L_7 ?_
    refine r_iload_n hb 15 dL_cell_14 rfl 1 rfl ?_
    refine r_imul hb 16 dL_cell_15 rfl ?_
    refine r_sipush 283 hb 19 dL_cell_16 rfl rfl ?_
    refine r_iadd hb 20 dL_cell_19 rfl ?_
    refine r_ldcI hb ho 22 dL_cell_20 rfl kI_L_8 ?_
    obtain ⟨c, hc, hce⟩ := sg_and (((15517087 : Int32) * (iI (((k : Nat) : Int)))) + (iI 283))
    refine r_iand hb 23 dL_cell_22 rfl ?_
    refine r_topz (((c : Nat) : Int)) (hce) ?_
    exact r_cret hS dL_cell_23 rfl rfl (Nat.zero_le _) (Nat.zero_le _) ⟨rfl, rfl, _, rfl, c, hc, rfl⟩
  · refine r_aload_n hb 7 dL_cell_6 rfl 0 rfl ?_
    refine r_iload_n hb 8 dL_cell_7 rfl 1 rfl ?_
    refine r_cld hS 9 dL_cell_8 rfl k rfl (by omega) (by omega) ?_
    refine r_goto hb 20 dL_cell_9 (by decide) ?_
    refine r_ldcI hb ho 22 dL_cell_20 rfl kI_L_8 ?_
    obtain ⟨c, hc, hce⟩ := sg_and (xs k)
    refine r_iand hb 23 dL_cell_22 rfl ?_
    refine r_topz (((c : Nat) : Int)) (hce) ?_
    exact r_cret hS dL_cell_23 rfl rfl (Nat.zero_le _) (Nat.zero_le _) ⟨rfl, rfl, _, rfl, c, hc, rfl⟩

abbrev rm_L_buffers : Room := { frames := 2, cells := 0, slots := 0, locals := 42 }
set_option maxHeartbeats 4000000 in
set_option maxRecDepth 100000 in
theorem c_L_buffers (a : Nat) (B D : List Int32) (l : List Nt) (nx : Nat) (hs : List Pg) (s0 s1 : Option (Pg × Int)) (thr : Int) (yv : Int32) (many : Nat) {w : PW} {n : Nat} (hX : xo w a (B, (D, l, nx), hs, s0, s1, thr)) (hm : many ≤ 40) : Ct0 yL_buffers cL_buffers 4 none rm_L_buffers [.ref a, .int yv, .int (iI (((many : Nat) : Int)))] w n (fun w1 n1 => n = n1 ∧ (∃ B1 : List Int32, B1.length = many ∧ okL B1 ∧ xo w1 a (B1, (D, l, nx), hs, s0, s1, thr)) ∧ off w w1 a (a + 729)) := by
  have hO : off w w a (a + 729) := off.rfl' _ _ _
  refine Ctr.of rfl (Nat.le_of_ble_eq_true rfl) fun S hS => ?_
  have hb : S.1.1 = cL_buffers := by rw [hS]; rfl
  have ho : S.1.2.1 = RL := by rw [hS]; rfl
  have hnL : S.1.2.2.1 = 4 := by rw [hS]; rfl
  have hR0 : S.2.1 = rm_L_buffers := by rw [hS]; rfl
  show Wp S 0 [(0, .ref a), (1, .int yv), (2, .int (iI (((many : Nat) : Int))))] [] w n 0 0
  refine r_aload_n hb 1 dL_buffers_0 rfl 0 rfl ?_
  refine r_callV1 (st := []) hb ho 4 dL_buffers_1 rfl ck_L_9 (c_X8_clearBuffer a B D l nx hs s0 s1 thr hX) rfl rfl ((xo_cell (T := (B, (D, l, nx), hs, s0, s1, thr)) hX)) rfl rfl (by rw [hR0]; exact ⟨Nat.le_of_ble_eq_true rfl, Nat.le_of_ble_eq_true rfl⟩) (Nat.le_of_ble_eq_true rfl) ⟨rfl, rfl⟩ (by rw [hR0]; exact Nat.zero_le _) (by rw [hR0]; exact Nat.zero_le _) (fun vw_1 w_1 nw_1 qw_1 => ?_)
  obtain ⟨rfl, rfl, hX, ow_1⟩ := qw_1
  have hO := hO.trans ow_1
  have hX : xo w_1 a ([], (D, l, nx), hs, s0, s1, thr) := hX
  refine r_pop hb 5 dL_buffers_4 rfl rfl ?_
  refine r_iconst hb 6 dL_buffers_5 rfl ?_
  refine r_istore_n [(3, .int (iI 0)), (0, .ref a), (1, .int yv), (2, .int (iI (((many : Nat) : Int))))] hb 7 4 dL_buffers_6 rfl rfl hnL (by decide) rfl ?_
  have lp : ∀ (d : Nat) (k : Nat) (wi : PW) (Bi : List Int32), many - k = d → (k ≤ many) → (Bi.length = k) → (okL Bi) → (xo wi a (Bi, (D, l, nx), hs, s0, s1, thr)) → (off w wi a (a + 729)) → Wp S 7 [(3, .int (iI (((k : Nat) : Int)))), (0, .ref a), (1, .int yv), (2, .int (iI (((many : Nat) : Int))))] [] wi n 0 0 := by
    intro d
    induction d using Nat.strongRecOn with
    | _ d ih_lp =>
      intro k wi Bi hd_lp hk hBl hBo hX hO
      refine r_iload_n hb 8 dL_buffers_7 rfl 0 rfl ?_
      refine r_iload_n hb 9 dL_buffers_8 rfl 3 rfl ?_
      refine r_icmp_ge hb 12 36 dL_buffers_9 rfl (by decide) (by omega) (by omega) (fun c9 => ?_) (fun c9 => ?_)
      · refine r_vret hS dL_buffers_36 rfl (Nat.zero_le _) (Nat.zero_le _) ?_
        have ek : k = many := by omega
        exact ⟨rfl, rfl, ⟨Bi, by omega, hBo, hX⟩, hO⟩
      · refine r_aload_n hb 13 dL_buffers_12 rfl 1 rfl ?_
        refine r_iload_n hb 14 dL_buffers_13 rfl 2 rfl ?_
        refine r_iload_n hb 15 dL_buffers_14 rfl 0 rfl ?_
        refine r_ishr hb 16 dL_buffers_15 rfl ?_
        refine r_iload_n hb 17 dL_buffers_16 rfl 2 rfl ?_
        refine r_iload_n hb 18 dL_buffers_17 rfl 0 rfl ?_
        refine r_bipush 7 hb 20 dL_buffers_18 rfl rfl ?_
        refine r_iaddZ hb 21 (((k : Nat) : Int) + 7) dL_buffers_20 rfl (by omega) ?_
        refine r_ishr hb 22 dL_buffers_21 rfl ?_
        refine r_ixor hb 23 dL_buffers_22 rfl ?_
        refine r_callS1 (st := [.ref a]) hb ho 26 dL_buffers_23 rfl ck_L_15 (c_L_sign ((yv >>> ((iI (((k : Nat) : Int))) &&& 31)) ^^^ (yv >>> ((iI (((k : Nat) : Int) + 7)) &&& 31)))) rfl rfl (by rw [hR0]; exact ⟨Nat.le_of_ble_eq_true rfl, Nat.le_of_ble_eq_true rfl⟩) (Nat.le_of_ble_eq_true rfl) ⟨rfl, rfl⟩ (by rw [hR0]; exact Nat.zero_le _) (by rw [hR0]; exact Nat.zero_le _) (fun vw_23 w_23 nw_23 qw_23 => ?_)
        obtain ⟨rfl, rfl, c, hc1, hc2, rfl⟩ := qw_23
        refine r_callV1 (st := []) hb ho 29 dL_buffers_26 rfl ck_L_21 (c_X8_type a Bi D l nx hs s0 s1 thr (((c : Nat) : Int)) hX (by omega)) rfl rfl ((xo_cell (T := (Bi, (D, l, nx), hs, s0, s1, thr)) hX)) rfl rfl (by rw [hR0]; exact ⟨Nat.le_of_ble_eq_true rfl, Nat.le_of_ble_eq_true rfl⟩) (Nat.le_of_ble_eq_true rfl) ⟨rfl, rfl⟩ (by rw [hR0]; exact Nat.zero_le _) (by rw [hR0]; exact Nat.zero_le _) (fun vw_26 w_26 nw_26 qw_26 => ?_)
        obtain ⟨rfl, rfl, hX, ow_26⟩ := qw_26
        have hO := hO.trans ow_26
        have hX : xo w_26 a (Bi ++ [iI ((c : Nat) : Int)], (D, l, nx), hs, s0, s1, thr) := by
          have e : oType Bi D l nx hs s0 s1 thr ((c : Nat) : Int) = (iI ((Bi.length + 1 : Nat) : Int), (Bi ++ [iI ((c : Nat) : Int)], (D, l, nx), hs, s0, s1, thr)) := by unfold oType; rw [if_neg (by omega), if_neg (by omega)]
          rw [e] at hX; exact hX
        refine r_pop hb 30 dL_buffers_29 rfl rfl ?_
        refine r_iinc [(3, .int (iI (((k : Nat) : Int) + 1))), (0, .ref a), (1, .int yv), (2, .int (iI (((many : Nat) : Int))))] hb 33 4 0 dL_buffers_30 rfl rfl hnL (by decide) (((k : Nat) : Int) + 1) (by omega) rfl ?_
        refine r_goto hb 7 dL_buffers_33 (by decide) ?_
        refine r_lv [(3, .int (iI ((((k + 1 : Nat) : Nat) : Int)))), (0, .ref a), (1, .int yv), (2, .int (iI (((many : Nat) : Int))))] [0, 1, 2, 3] (rfl) ?_
        exact ih_lp (many - (k + 1)) (by omega) (k + 1) _ (Bi ++ [iI ((c : Nat) : Int)]) rfl (by omega) (by simp; omega) (okL.app hBo (fun x hx => by rw [List.mem_singleton.mp hx]; intro h3; have h4 := congrArg Int32.toInt h3; rw [iI_toInt (by omega), iI_toInt (by omega)] at h4; omega)) hX hO
  refine r_lv [(3, .int (iI (((0 : Nat) : Int)))), (0, .ref a), (1, .int yv), (2, .int (iI (((many : Nat) : Int))))] [0, 1, 2, 3] (rfl) ?_
  exact lp _ 0 _ [] rfl (Nat.zero_le _) rfl (fun c hc => absurd hc List.not_mem_nil) hX hO

abbrev rm_L_again : Room := { frames := 7, cells := 0, slots := 0, locals := 169 }
set_option maxHeartbeats 4000000 in
set_option maxRecDepth 100000 in
theorem c_L_again (a : Nat) (B D : List Int32) (l : List Nt) (nx : Nat) (hs : List Pg) (s0 s1 : Option (Pg × Int)) (thr : Int) (y : Nat) {w : PW} {n : Nat} (hX : xo w a (B, (D, l, nx), hs, s0, s1, thr)) (hok : pOk (D, l, nx)) (ht : 0 ≤ thr ∧ thr ≤ 108) (hcap : nx + 1 < 1000000) (hy : y < 2147483648) : Ct1 yL_again cL_again 7 (some .int) rm_L_again [.ref a, .int (iI (((y : Nat) : Int))), .int (iI (thr))] w n (fun v w1 n1 => v = .int (acF B D l nx hs s0 s1 thr y).1 ∧ n = n1 ∧ xo w1 a (acF B D l nx hs s0 s1 thr y).2 ∧ off w w1 a (a + 729)) := by
  have hO : off w w a (a + 729) := off.rfl' _ _ _
  have hDl : D.length ≤ 120 := hok.1
  have hll : l.length ≤ 10 := hok.2.2.1
  refine Ctr.of rfl (Nat.le_of_ble_eq_true rfl) fun S hS => ?_
  have hb : S.1.1 = cL_again := by rw [hS]; rfl
  have ho : S.1.2.1 = RL := by rw [hS]; rfl
  have hnL : S.1.2.2.1 = 7 := by rw [hS]; rfl
  have hR0 : S.2.1 = rm_L_again := by rw [hS]; rfl
  show Wp S 0 [(0, .ref a), (1, .int (iI (((y : Nat) : Int)))), (2, .int (iI (thr)))] [] w n 0 0
  refine r_iload_n hb 1 dL_again_0 rfl 1 rfl ?_
  refine r_iconst hb 2 dL_again_1 rfl ?_
  refine r_ishrN (a := y) (k := 4) hb 3 dL_again_2 rfl (by omega) (by omega) (sN_b 4 (by decide)) (y / 16) rfl ?_
  refine r_istore_n [(3, .int (iI (((y / 16 : Nat) : Int)))), (0, .ref a), (1, .int (iI (((y : Nat) : Int)))), (2, .int (iI (thr)))] hb 4 7 dL_again_3 rfl rfl hnL (by decide) rfl ?_
  refine r_aload_n hb 5 dL_again_4 rfl 1 rfl ?_
  refine r_callV1 (st := []) hb ho 8 dL_again_5 rfl ck_L_27 (c_X8_comments a B D l nx hs s0 s1 thr hX) rfl rfl ((xo_cell (T := (B, (D, l, nx), hs, s0, s1, thr)) hX)) rfl rfl (by rw [hR0]; exact ⟨Nat.le_of_ble_eq_true rfl, Nat.le_of_ble_eq_true rfl⟩) (Nat.le_of_ble_eq_true rfl) ⟨rfl, rfl⟩ (by rw [hR0]; exact Nat.zero_le _) (by rw [hR0]; exact Nat.zero_le _) (fun vw_5 w_5 nw_5 qw_5 => ?_)
  obtain ⟨rfl, rfl, hX, ow_5⟩ := qw_5
  have hO := hO.trans ow_5
  rw [rd_comments] at hX
  refine r_topz (((l.length : Nat) : Int)) (rfl) ?_
  refine r_istore [(4, .int (iI (((l.length : Nat) : Int)))), (3, .int (iI (((y / 16 : Nat) : Int)))), (0, .ref a), (1, .int (iI (((y : Nat) : Int)))), (2, .int (iI (thr)))] hb 10 7 dL_again_8 rfl hnL (by decide) rfl ?_
  obtain ⟨kc, hkc⟩ : ∃ kc : Nat, acK l (y / 16) = kc := ⟨_, rfl⟩
  have hkb : kc ≤ nx := by rw [← hkc]; exact acK_le hok _
  have j27 : ∀ (wj : PW), (xo wj a (B, (D, l, nx), hs, s0, s1, thr)) → (off w wj a (a + 729)) → Wp S 27 [(4, .int (iI (((l.length : Nat) : Int)))), (3, .int (iI (((y / 16 : Nat) : Int)))), (0, .ref a), (1, .int (iI (((y : Nat) : Int)))), (2, .int (iI (thr)))] [.int (iI (((kc : Nat) : Int)))] wj n 0 0 := by
    intro wj hX hO
    refine r_istore [(5, .int (iI (((kc : Nat) : Int)))), (4, .int (iI (((l.length : Nat) : Int)))), (3, .int (iI (((y / 16 : Nat) : Int)))), (0, .ref a), (1, .int (iI (((y : Nat) : Int)))), (2, .int (iI (thr)))] hb 29 7 dL_again_27 rfl hnL (by decide) rfl ?_
    refine r_iload_n hb 30 dL_again_29 rfl 2 rfl ?_
    refine r_aload_n hb 31 dL_again_30 rfl 3 rfl ?_
    refine r_callV1 (st := [.int (iI (((y / 16 : Nat) : Int)))]) hb ho 34 dL_again_31 rfl ck_L_24 (c_X8_length a B D l nx hs s0 s1 thr hX) rfl rfl ((xo_cell (T := (B, (D, l, nx), hs, s0, s1, thr)) hX)) rfl rfl (by rw [hR0]; exact ⟨Nat.le_of_ble_eq_true rfl, Nat.le_of_ble_eq_true rfl⟩) (Nat.le_of_ble_eq_true rfl) ⟨rfl, rfl⟩ (by rw [hR0]; exact Nat.zero_le _) (by rw [hR0]; exact Nat.zero_le _) (fun vw_31 w_31 nw_31 qw_31 => ?_)
    obtain ⟨rfl, rfl, hX, ow_31⟩ := qw_31
    have hO := hO.trans ow_31
    rw [rd_length] at hX
    refine r_topz (((D.length : Nat) : Int)) (rfl) ?_
    refine r_iconst hb 35 dL_again_34 rfl ?_
    refine r_iaddZ hb 36 (((D.length : Nat) : Int) + 1) dL_again_35 rfl (by omega) ?_
    obtain ⟨p, hp⟩ : ∃ p : Nat, y / 16 % (D.length + 1) = p := ⟨_, rfl⟩
    have hpb : p ≤ D.length := by rw [← hp]; exact Nat.lt_succ_iff.mp (Nat.mod_lt _ (Nat.succ_pos _))
    refine r_iremN (a := ((y / 16))) (d := (D.length + 1)) hb 37 dL_again_36 rfl (by omega) (by omega) (by omega) (by omega) (by omega) ?_
    refine r_topv (.int (iI (((p : Nat) : Int)))) (by rw [hp]) ?_
    refine r_istore [(6, .int (iI (((p : Nat) : Int)))), (5, .int (iI (((kc : Nat) : Int)))), (4, .int (iI (((l.length : Nat) : Int)))), (3, .int (iI (((y / 16 : Nat) : Int)))), (0, .ref a), (1, .int (iI (((y : Nat) : Int)))), (2, .int (iI (thr)))] hb 39 7 dL_again_37 rfl hnL (by decide) rfl ?_
    refine r_iload_n hb 40 dL_again_39 rfl 5 rfl ?_
    refine r_bipush 10 hb 42 dL_again_40 rfl rfl ?_
    refine r_iremN (a := y) (d := 10) hb 43 dL_again_42 rfl (by omega) (by omega) (by omega) (by omega) (by omega) ?_
    rcases (show y % 10 = 0 ∨ y % 10 = 1 ∨ y % 10 = 2 ∨ y % 10 = 3 ∨ y % 10 = 4 ∨ y % 10 = 5 ∨ y % 10 = 6 ∨ y % 10 = 7 ∨ y % 10 = 8 ∨ y % 10 = 9 from by omega) with hk0 | hk1 | hk2 | hk3 | hk4 | hk5 | hk6 | hk7 | hk8 | hk9
    · refine r_tsw hb 88 dL_again_43 0 ((toInt_iI (by omega)).trans (by omega)) (by decide) (by decide) rfl (by decide) ?_
      refine r_aload_n hb 89 dL_again_88 rfl 4 rfl ?_
      refine r_iload hb 91 dL_again_89 rfl 0 rfl ?_
      refine r_callV1 (st := []) hb ho 94 dL_again_91 rfl ck_L_74 (c_X8_insert a B D l nx hs s0 s1 thr (((p : Nat) : Int)) hX (by omega) hok) rfl rfl ((xo_cell (T := (B, (D, l, nx), hs, s0, s1, thr)) hX)) rfl rfl (by rw [hR0]; exact ⟨Nat.le_of_ble_eq_true rfl, Nat.le_of_ble_eq_true rfl⟩) (Nat.le_of_ble_eq_true rfl) ⟨rfl, rfl⟩ (by rw [hR0]; exact Nat.zero_le _) (by rw [hR0]; exact Nat.zero_le _) (fun vw_91 w_91 nw_91 qw_91 => ?_)
      obtain ⟨rfl, rfl, hX, ow_91⟩ := qw_91
      have hO := hO.trans ow_91
      refine r_iret hS dL_again_94 rfl rfl (Nat.zero_le _) (Nat.zero_le _) ?_
      have e : acF B D l nx hs s0 s1 thr y = oIns B D l nx hs s0 s1 thr (((p : Nat) : Int)) := by unfold acF; rw [if_pos hk0, hp]
      rw [e]
      exact ⟨_, rfl, rfl, rfl, hX, hO⟩
    · refine r_tsw hb 95 dL_again_43 1 ((toInt_iI (by omega)).trans (by omega)) (by decide) (by decide) rfl (by decide) ?_
      refine r_aload_n hb 96 dL_again_95 rfl 4 rfl ?_
      refine r_iload hb 98 dL_again_96 rfl 0 rfl ?_
      refine r_iload_n hb 99 dL_again_98 rfl 3 rfl ?_
      refine r_iconst hb 100 dL_again_99 rfl ?_
      refine r_ishrN (a := ((y / 16))) (k := 5) hb 101 dL_again_100 rfl (by omega) (by omega) (sN_b 5 (by decide)) (((y / 16)) / 32) rfl ?_
      refine r_bipush 6 hb 103 dL_again_101 rfl rfl ?_
      refine r_iremN (a := ((((y / 16)) / 32))) (d := 6) hb 104 dL_again_103 rfl (by omega) (by omega) (by omega) (by omega) (by omega) ?_
      refine r_callV1 (st := []) hb ho 107 dL_again_104 rfl ck_L_77 (c_X8_delete a B D l nx hs s0 s1 thr (((p : Nat) : Int)) (((((((y / 16)) / 32)) % 6 : Nat) : Int)) hX (by omega) (by omega)) rfl rfl ((xo_cell (T := (B, (D, l, nx), hs, s0, s1, thr)) hX)) rfl rfl (by rw [hR0]; exact ⟨Nat.le_of_ble_eq_true rfl, Nat.le_of_ble_eq_true rfl⟩) (Nat.le_of_ble_eq_true rfl) ⟨rfl, rfl⟩ (by rw [hR0]; exact Nat.zero_le _) (by rw [hR0]; exact Nat.zero_le _) (fun vw_104 w_104 nw_104 qw_104 => ?_)
      obtain ⟨rfl, rfl, hX, ow_104⟩ := qw_104
      have hO := hO.trans ow_104
      refine r_iret hS dL_again_107 rfl rfl (Nat.zero_le _) (Nat.zero_le _) ?_
      have e : acF B D l nx hs s0 s1 thr y = oDel B D l nx hs s0 s1 thr (((p : Nat) : Int)) (((((((y / 16)) / 32)) % 6 : Nat) : Int)) := by unfold acF; rw [if_neg (by omega), if_pos hk1, hp]
      rw [e]
      exact ⟨_, rfl, rfl, rfl, hX, hO⟩
    · refine r_tsw hb 108 dL_again_43 2 ((toInt_iI (by omega)).trans (by omega)) (by decide) (by decide) rfl (by decide) ?_
      refine r_aload_n hb 109 dL_again_108 rfl 4 rfl ?_
      refine r_iload hb 111 dL_again_109 rfl 0 rfl ?_
      refine r_iload hb 113 dL_again_111 rfl 0 rfl ?_
      refine r_iconst hb 114 dL_again_113 rfl ?_
      refine r_iaddZ hb 115 (((p : Nat) : Int) + 1) dL_again_114 rfl (by omega) ?_
      refine r_iload_n hb 116 dL_again_115 rfl 3 rfl ?_
      refine r_iconst hb 117 dL_again_116 rfl ?_
      refine r_ishrN (a := ((y / 16))) (k := 5) hb 118 dL_again_117 rfl (by omega) (by omega) (sN_b 5 (by decide)) (((y / 16)) / 32) rfl ?_
      refine r_bipush 7 hb 120 dL_again_118 rfl rfl ?_
      refine r_iremN (a := ((((y / 16)) / 32))) (d := 7) hb 121 dL_again_120 rfl (by omega) (by omega) (by omega) (by omega) (by omega) ?_
      refine r_iaddZ hb 122 (((p : Nat) : Int) + ((((((y / 16)) / 32)) % 7 : Nat) : Int) + 1) dL_again_121 rfl (by omega) ?_
      refine r_topv (.int (iI (((p + 1 + y / 16 / 32 % 7 : Nat) : Int)))) (congrArg (fun z : Int => Value.int (iI z)) (by omega)) ?_
      refine r_callV1 (st := []) hb ho 125 dL_again_122 rfl ck_L_80 (c_X8_comment a B D l nx hs s0 s1 thr (((p : Nat) : Int)) (((p + 1 + y / 16 / 32 % 7 : Nat) : Int)) hX (by omega) (by omega) (by omega)) rfl rfl ((xo_cell (T := (B, (D, l, nx), hs, s0, s1, thr)) hX)) rfl rfl (by rw [hR0]; exact ⟨Nat.le_of_ble_eq_true rfl, Nat.le_of_ble_eq_true rfl⟩) (Nat.le_of_ble_eq_true rfl) ⟨rfl, rfl⟩ (by rw [hR0]; exact Nat.zero_le _) (by rw [hR0]; exact Nat.zero_le _) (fun vw_122 w_122 nw_122 qw_122 => ?_)
      obtain ⟨rfl, rfl, hX, ow_122⟩ := qw_122
      have hO := hO.trans ow_122
      refine r_iret hS dL_again_125 rfl rfl (Nat.zero_le _) (Nat.zero_le _) ?_
      have e : acF B D l nx hs s0 s1 thr y = oCom B D l nx hs s0 s1 thr (((p : Nat) : Int)) (((p + 1 + y / 16 / 32 % 7 : Nat) : Int)) := by unfold acF; rw [if_neg (by omega), if_neg (by omega), if_pos (Or.inl hk2), hp]
      rw [e]
      exact ⟨_, rfl, rfl, rfl, hX, hO⟩
    · refine r_tsw hb 108 dL_again_43 3 ((toInt_iI (by omega)).trans (by omega)) (by decide) (by decide) rfl (by decide) ?_
      refine r_aload_n hb 109 dL_again_108 rfl 4 rfl ?_
      refine r_iload hb 111 dL_again_109 rfl 0 rfl ?_
      refine r_iload hb 113 dL_again_111 rfl 0 rfl ?_
      refine r_iconst hb 114 dL_again_113 rfl ?_
      refine r_iaddZ hb 115 (((p : Nat) : Int) + 1) dL_again_114 rfl (by omega) ?_
      refine r_iload_n hb 116 dL_again_115 rfl 3 rfl ?_
      refine r_iconst hb 117 dL_again_116 rfl ?_
      refine r_ishrN (a := ((y / 16))) (k := 5) hb 118 dL_again_117 rfl (by omega) (by omega) (sN_b 5 (by decide)) (((y / 16)) / 32) rfl ?_
      refine r_bipush 7 hb 120 dL_again_118 rfl rfl ?_
      refine r_iremN (a := ((((y / 16)) / 32))) (d := 7) hb 121 dL_again_120 rfl (by omega) (by omega) (by omega) (by omega) (by omega) ?_
      refine r_iaddZ hb 122 (((p : Nat) : Int) + ((((((y / 16)) / 32)) % 7 : Nat) : Int) + 1) dL_again_121 rfl (by omega) ?_
      refine r_topv (.int (iI (((p + 1 + y / 16 / 32 % 7 : Nat) : Int)))) (congrArg (fun z : Int => Value.int (iI z)) (by omega)) ?_
      refine r_callV1 (st := []) hb ho 125 dL_again_122 rfl ck_L_80 (c_X8_comment a B D l nx hs s0 s1 thr (((p : Nat) : Int)) (((p + 1 + y / 16 / 32 % 7 : Nat) : Int)) hX (by omega) (by omega) (by omega)) rfl rfl ((xo_cell (T := (B, (D, l, nx), hs, s0, s1, thr)) hX)) rfl rfl (by rw [hR0]; exact ⟨Nat.le_of_ble_eq_true rfl, Nat.le_of_ble_eq_true rfl⟩) (Nat.le_of_ble_eq_true rfl) ⟨rfl, rfl⟩ (by rw [hR0]; exact Nat.zero_le _) (by rw [hR0]; exact Nat.zero_le _) (fun vw_122 w_122 nw_122 qw_122 => ?_)
      obtain ⟨rfl, rfl, hX, ow_122⟩ := qw_122
      have hO := hO.trans ow_122
      refine r_iret hS dL_again_125 rfl rfl (Nat.zero_le _) (Nat.zero_le _) ?_
      have e : acF B D l nx hs s0 s1 thr y = oCom B D l nx hs s0 s1 thr (((p : Nat) : Int)) (((p + 1 + y / 16 / 32 % 7 : Nat) : Int)) := by unfold acF; rw [if_neg (by omega), if_neg (by omega), if_pos (Or.inr hk3), hp]
      rw [e]
      exact ⟨_, rfl, rfl, rfl, hX, hO⟩
    · refine r_tsw hb 126 dL_again_43 4 ((toInt_iI (by omega)).trans (by omega)) (by decide) (by decide) rfl (by decide) ?_
      refine r_aload_n hb 127 dL_again_126 rfl 4 rfl ?_
      refine r_iload hb 129 dL_again_127 rfl 1 rfl ?_
      refine r_callV1 (st := []) hb ho 132 dL_again_129 rfl ck_L_83 (c_X8_attach a B D l nx hs s0 s1 thr (((kc : Nat) : Int)) hX (by omega) hok ht) rfl rfl ((xo_cell (T := (B, (D, l, nx), hs, s0, s1, thr)) hX)) rfl rfl (by rw [hR0]; exact ⟨Nat.le_of_ble_eq_true rfl, Nat.le_of_ble_eq_true rfl⟩) (Nat.le_of_ble_eq_true rfl) ⟨rfl, rfl⟩ (by rw [hR0]; exact Nat.zero_le _) (by rw [hR0]; exact Nat.zero_le _) (fun vw_129 w_129 nw_129 qw_129 => ?_)
      obtain ⟨rfl, rfl, hX, ow_129⟩ := qw_129
      have hO := hO.trans ow_129
      refine r_iret hS dL_again_132 rfl rfl (Nat.zero_le _) (Nat.zero_le _) ?_
      have e : acF B D l nx hs s0 s1 thr y = oAtt B D l nx hs s0 s1 thr (((kc : Nat) : Int)) := by unfold acF; rw [if_neg (by omega), if_neg (by omega), if_neg (by omega), if_pos hk4, hkc]
      rw [e]
      exact ⟨_, rfl, rfl, rfl, hX, hO⟩
    · refine r_tsw hb 133 dL_again_43 5 ((toInt_iI (by omega)).trans (by omega)) (by decide) (by decide) rfl (by decide) ?_
      refine r_aload_n hb 134 dL_again_133 rfl 4 rfl ?_
      refine r_callV1 (st := []) hb ho 137 dL_again_134 rfl ck_L_86 (c_X8_attachAll a B D l nx hs s0 s1 thr hX hok ht) rfl rfl ((xo_cell (T := (B, (D, l, nx), hs, s0, s1, thr)) hX)) rfl rfl (by rw [hR0]; exact ⟨Nat.le_of_ble_eq_true rfl, Nat.le_of_ble_eq_true rfl⟩) (Nat.le_of_ble_eq_true rfl) ⟨rfl, rfl⟩ (by rw [hR0]; exact Nat.zero_le _) (by rw [hR0]; exact Nat.zero_le _) (fun vw_134 w_134 nw_134 qw_134 => ?_)
      obtain ⟨rfl, rfl, hX, ow_134⟩ := qw_134
      have hO := hO.trans ow_134
      refine r_iret hS dL_again_137 rfl rfl (Nat.zero_le _) (Nat.zero_le _) ?_
      have e : acF B D l nx hs s0 s1 thr y = oAll B D l nx hs s0 s1 thr  := by unfold acF; rw [if_neg (by omega), if_neg (by omega), if_neg (by omega), if_neg (by omega), if_pos hk5]
      rw [e]
      exact ⟨_, rfl, rfl, rfl, hX, hO⟩
    · refine r_tsw hb 138 dL_again_43 6 ((toInt_iI (by omega)).trans (by omega)) (by decide) (by decide) rfl (by decide) ?_
      refine r_aload_n hb 139 dL_again_138 rfl 4 rfl ?_
      refine r_callV1 (st := []) hb ho 142 dL_again_139 rfl ck_L_89 (c_X8_merge a B D l nx hs s0 s1 thr hX) rfl rfl ((xo_cell (T := (B, (D, l, nx), hs, s0, s1, thr)) hX)) rfl rfl (by rw [hR0]; exact ⟨Nat.le_of_ble_eq_true rfl, Nat.le_of_ble_eq_true rfl⟩) (Nat.le_of_ble_eq_true rfl) ⟨rfl, rfl⟩ (by rw [hR0]; exact Nat.zero_le _) (by rw [hR0]; exact Nat.zero_le _) (fun vw_139 w_139 nw_139 qw_139 => ?_)
      obtain ⟨rfl, rfl, hX, ow_139⟩ := qw_139
      have hO := hO.trans ow_139
      refine r_iret hS dL_again_142 rfl rfl (Nat.zero_le _) (Nat.zero_le _) ?_
      have e : acF B D l nx hs s0 s1 thr y = oMer B D l nx hs s0 s1 thr  := by unfold acF; rw [if_neg (by omega), if_neg (by omega), if_neg (by omega), if_neg (by omega), if_neg (by omega), if_pos hk6]
      rw [e]
      exact ⟨_, rfl, rfl, rfl, hX, hO⟩
    · refine r_tsw hb 143 dL_again_43 7 ((toInt_iI (by omega)).trans (by omega)) (by decide) (by decide) rfl (by decide) ?_
      refine r_iload_n hb 144 dL_again_143 rfl 3 rfl ?_
      refine r_bipush 32 hb 146 dL_again_144 rfl rfl ?_
      refine r_iand hb 147 dL_again_146 rfl ?_
      refine r_if0_ne hb 150 159 dL_again_147 rfl (by decide) (fun c147 => ?_) (fun c147 => ?_)
      · refine r_aload_n hb 160 dL_again_159 rfl 4 rfl ?_
        refine r_iload hb 162 dL_again_160 rfl 1 rfl ?_
        refine r_callV1 (st := []) hb ho 165 dL_again_162 rfl ck_L_95 (c_X8_quoteAnew a B D l nx hs s0 s1 thr (((kc : Nat) : Int)) hX (by omega)) rfl rfl ((xo_cell (T := (B, (D, l, nx), hs, s0, s1, thr)) hX)) rfl rfl (by rw [hR0]; exact ⟨Nat.le_of_ble_eq_true rfl, Nat.le_of_ble_eq_true rfl⟩) (Nat.le_of_ble_eq_true rfl) ⟨rfl, rfl⟩ (by rw [hR0]; exact Nat.zero_le _) (by rw [hR0]; exact Nat.zero_le _) (fun vw_162 w_162 nw_162 qw_162 => ?_)
        obtain ⟨rfl, rfl, hX, ow_162⟩ := qw_162
        have hO := hO.trans ow_162
        refine r_iret hS dL_again_165 rfl rfl (Nat.zero_le _) (Nat.zero_le _) ?_
        have e : acF B D l nx hs s0 s1 thr y = oQuo B D l nx hs s0 s1 thr (((kc : Nat) : Int)) := by unfold acF; rw [if_neg (by omega), if_neg (by omega), if_neg (by omega), if_neg (by omega), if_neg (by omega), if_neg (by omega), if_pos hk7, if_neg c147, hkc]
        rw [e]
        exact ⟨_, rfl, rfl, rfl, hX, hO⟩
      · refine r_aload_n hb 151 dL_again_150 rfl 4 rfl ?_
        refine r_iload hb 153 dL_again_151 rfl 1 rfl ?_
        refine r_callV1 (st := []) hb ho 156 dL_again_153 rfl ck_L_92 (c_X8_remove a B D l nx hs s0 s1 thr (((kc : Nat) : Int)) hX (by omega)) rfl rfl ((xo_cell (T := (B, (D, l, nx), hs, s0, s1, thr)) hX)) rfl rfl (by rw [hR0]; exact ⟨Nat.le_of_ble_eq_true rfl, Nat.le_of_ble_eq_true rfl⟩) (Nat.le_of_ble_eq_true rfl) ⟨rfl, rfl⟩ (by rw [hR0]; exact Nat.zero_le _) (by rw [hR0]; exact Nat.zero_le _) (fun vw_153 w_153 nw_153 qw_153 => ?_)
        obtain ⟨rfl, rfl, hX, ow_153⟩ := qw_153
        have hO := hO.trans ow_153
        refine r_goto hb 165 dL_again_156 (by decide) ?_
        refine r_iret hS dL_again_165 rfl rfl (Nat.zero_le _) (Nat.zero_le _) ?_
        have e : acF B D l nx hs s0 s1 thr y = oRem B D l nx hs s0 s1 thr (((kc : Nat) : Int)) := by unfold acF; rw [if_neg (by omega), if_neg (by omega), if_neg (by omega), if_neg (by omega), if_neg (by omega), if_neg (by omega), if_pos hk7, if_pos c147, hkc]
        rw [e]
        exact ⟨_, rfl, rfl, rfl, hX, hO⟩
    · refine r_tswO hb 166 dL_again_43 (Or.inr (by rw [toInt_iI (by omega)]; omega)) (by decide) ?_
      refine r_iload_n hb 167 dL_again_166 rfl 3 rfl ?_
      refine r_bipush 64 hb 169 dL_again_167 rfl rfl ?_
      refine r_iand hb 170 dL_again_169 rfl ?_
      refine r_if0_ne hb 173 180 dL_again_170 rfl (by decide) (fun c170 => ?_) (fun c170 => ?_)
      · refine r_aload_n hb 181 dL_again_180 rfl 4 rfl ?_
        refine r_iload hb 183 dL_again_181 rfl 0 rfl ?_
        refine r_callV1 (st := []) hb ho 186 dL_again_183 rfl ck_L_74 (c_X8_insert a B D l nx hs s0 s1 thr (((p : Nat) : Int)) hX (by omega) hok) rfl rfl ((xo_cell (T := (B, (D, l, nx), hs, s0, s1, thr)) hX)) rfl rfl (by rw [hR0]; exact ⟨Nat.le_of_ble_eq_true rfl, Nat.le_of_ble_eq_true rfl⟩) (Nat.le_of_ble_eq_true rfl) ⟨rfl, rfl⟩ (by rw [hR0]; exact Nat.zero_le _) (by rw [hR0]; exact Nat.zero_le _) (fun vw_183 w_183 nw_183 qw_183 => ?_)
        obtain ⟨rfl, rfl, hX, ow_183⟩ := qw_183
        have hO := hO.trans ow_183
        refine r_iret hS dL_again_186 rfl rfl (Nat.zero_le _) (Nat.zero_le _) ?_
        have e : acF B D l nx hs s0 s1 thr y = oIns B D l nx hs s0 s1 thr (((p : Nat) : Int)) := by unfold acF; rw [if_neg (by omega), if_neg (by omega), if_neg (by omega), if_neg (by omega), if_neg (by omega), if_neg (by omega), if_neg (by omega), if_neg c170, hp]
        rw [e]
        exact ⟨_, rfl, rfl, rfl, hX, hO⟩
      · refine r_aload_n hb 174 dL_again_173 rfl 4 rfl ?_
        refine r_callV1 (st := []) hb ho 177 dL_again_174 rfl ck_L_98 (c_X8_load a B D l nx hs s0 s1 thr hX hok) rfl rfl ((xo_cell (T := (B, (D, l, nx), hs, s0, s1, thr)) hX)) rfl rfl (by rw [hR0]; exact ⟨Nat.le_of_ble_eq_true rfl, Nat.le_of_ble_eq_true rfl⟩) (Nat.le_of_ble_eq_true rfl) ⟨rfl, rfl⟩ (by rw [hR0]; exact Nat.zero_le _) (by rw [hR0]; exact Nat.zero_le _) (fun vw_174 w_174 nw_174 qw_174 => ?_)
        obtain ⟨rfl, rfl, hX, ow_174⟩ := qw_174
        have hO := hO.trans ow_174
        refine r_goto hb 186 dL_again_177 (by decide) ?_
        refine r_iret hS dL_again_186 rfl rfl (Nat.zero_le _) (Nat.zero_le _) ?_
        have e : acF B D l nx hs s0 s1 thr y = oLoad B D l nx hs s0 s1 thr  := by unfold acF; rw [if_neg (by omega), if_neg (by omega), if_neg (by omega), if_neg (by omega), if_neg (by omega), if_neg (by omega), if_neg (by omega), if_pos c170]
        rw [e]
        exact ⟨_, rfl, rfl, rfl, hX, hO⟩
    · refine r_tswO hb 166 dL_again_43 (Or.inr (by rw [toInt_iI (by omega)]; omega)) (by decide) ?_
      refine r_iload_n hb 167 dL_again_166 rfl 3 rfl ?_
      refine r_bipush 64 hb 169 dL_again_167 rfl rfl ?_
      refine r_iand hb 170 dL_again_169 rfl ?_
      refine r_if0_ne hb 173 180 dL_again_170 rfl (by decide) (fun c170 => ?_) (fun c170 => ?_)
      · refine r_aload_n hb 181 dL_again_180 rfl 4 rfl ?_
        refine r_iload hb 183 dL_again_181 rfl 0 rfl ?_
        refine r_callV1 (st := []) hb ho 186 dL_again_183 rfl ck_L_74 (c_X8_insert a B D l nx hs s0 s1 thr (((p : Nat) : Int)) hX (by omega) hok) rfl rfl ((xo_cell (T := (B, (D, l, nx), hs, s0, s1, thr)) hX)) rfl rfl (by rw [hR0]; exact ⟨Nat.le_of_ble_eq_true rfl, Nat.le_of_ble_eq_true rfl⟩) (Nat.le_of_ble_eq_true rfl) ⟨rfl, rfl⟩ (by rw [hR0]; exact Nat.zero_le _) (by rw [hR0]; exact Nat.zero_le _) (fun vw_183 w_183 nw_183 qw_183 => ?_)
        obtain ⟨rfl, rfl, hX, ow_183⟩ := qw_183
        have hO := hO.trans ow_183
        refine r_iret hS dL_again_186 rfl rfl (Nat.zero_le _) (Nat.zero_le _) ?_
        have e : acF B D l nx hs s0 s1 thr y = oIns B D l nx hs s0 s1 thr (((p : Nat) : Int)) := by unfold acF; rw [if_neg (by omega), if_neg (by omega), if_neg (by omega), if_neg (by omega), if_neg (by omega), if_neg (by omega), if_neg (by omega), if_neg c170, hp]
        rw [e]
        exact ⟨_, rfl, rfl, rfl, hX, hO⟩
      · refine r_aload_n hb 174 dL_again_173 rfl 4 rfl ?_
        refine r_callV1 (st := []) hb ho 177 dL_again_174 rfl ck_L_98 (c_X8_load a B D l nx hs s0 s1 thr hX hok) rfl rfl ((xo_cell (T := (B, (D, l, nx), hs, s0, s1, thr)) hX)) rfl rfl (by rw [hR0]; exact ⟨Nat.le_of_ble_eq_true rfl, Nat.le_of_ble_eq_true rfl⟩) (Nat.le_of_ble_eq_true rfl) ⟨rfl, rfl⟩ (by rw [hR0]; exact Nat.zero_le _) (by rw [hR0]; exact Nat.zero_le _) (fun vw_174 w_174 nw_174 qw_174 => ?_)
        obtain ⟨rfl, rfl, hX, ow_174⟩ := qw_174
        have hO := hO.trans ow_174
        refine r_goto hb 186 dL_again_177 (by decide) ?_
        refine r_iret hS dL_again_186 rfl rfl (Nat.zero_le _) (Nat.zero_le _) ?_
        have e : acF B D l nx hs s0 s1 thr y = oLoad B D l nx hs s0 s1 thr  := by unfold acF; rw [if_neg (by omega), if_neg (by omega), if_neg (by omega), if_neg (by omega), if_neg (by omega), if_neg (by omega), if_neg (by omega), if_pos c170]
        rw [e]
        exact ⟨_, rfl, rfl, rfl, hX, hO⟩
  refine r_iload hb 12 dL_again_10 rfl 0 rfl ?_
  refine r_if_ne hb 15 19 dL_again_12 rfl (by decide) (by omega) (fun c12 => ?_) (fun c12 => ?_)
  · refine r_aload_n hb 20 dL_again_19 rfl 2 rfl ?_
    refine r_iload_n hb 21 dL_again_20 rfl 1 rfl ?_
    refine r_iload hb 23 dL_again_21 rfl 0 rfl ?_
    refine r_iremN (a := ((y / 16))) (d := l.length) hb 24 dL_again_23 rfl (by omega) (by omega) (by omega) (by omega) (by omega) ?_
    have hmod : y / 16 % l.length < l.length := Nat.mod_lt _ (by omega)
    refine r_callV1 (st := []) hb ho 27 dL_again_24 rfl ck_L_30 (c_X8_commentAt a B D l nx hs s0 s1 thr (((((y / 16)) % l.length : Nat) : Int)) hX (by omega)) rfl rfl ((xo_cell (T := (B, (D, l, nx), hs, s0, s1, thr)) hX)) rfl rfl (by rw [hR0]; exact ⟨Nat.le_of_ble_eq_true rfl, Nat.le_of_ble_eq_true rfl⟩) (Nat.le_of_ble_eq_true rfl) ⟨rfl, rfl⟩ (by rw [hR0]; exact Nat.zero_le _) (by rw [hR0]; exact Nat.zero_le _) (fun vw_24 w_24 nw_24 qw_24 => ?_)
    obtain ⟨rfl, rfl, hX, ow_24⟩ := qw_24
    have hO := hO.trans ow_24
    rw [rd_commentAt] at hX
    refine r_topz (((kc : Nat) : Int)) ((e_At B D l nx hs s0 s1 thr (Nat.mod_lt _ (by omega))).trans (congrArg (fun z : Nat => iI ((z : Nat) : Int)) (by rw [← hkc]; unfold acK; rw [if_neg (by omega)]))) ?_
    refine r_lv [(4, .int (iI (((l.length : Nat) : Int)))), (3, .int (iI (((y / 16 : Nat) : Int)))), (0, .ref a), (1, .int (iI (((y : Nat) : Int)))), (2, .int (iI (thr)))] [0, 1, 2, 3, 4] (rfl) ?_
    exact j27 _ hX hO
  · refine r_iconst hb 16 dL_again_15 rfl ?_
    refine r_topv (.int (iI (((kc : Nat) : Int)))) (by rw [← hkc]; unfold acK; rw [if_pos (by omega)]; rfl) ?_
    refine r_goto hb 27 dL_again_16 (by decide) ?_
    refine r_lv [(4, .int (iI (((l.length : Nat) : Int)))), (3, .int (iI (((y / 16 : Nat) : Int)))), (0, .ref a), (1, .int (iI (((y : Nat) : Int)))), (2, .int (iI (thr)))] [0, 1, 2, 3, 4] (rfl) ?_
    exact j27 _ hX hO

