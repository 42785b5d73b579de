/-! the law -/
def lS (b L N0 : Nat) (xs : Nat → Int32) (nm : String) : PS := ((code, R_law, 8, ret, nm), room_1, (fun q => N0 ≤ q), fun _ below args s Z => args = #[Value.ref b] ∧ Z = lw_Z below #[Value.ref b] s ∧ va_X b L xs s s.heap ∧ b < s.heap.size ∧ N0 = s.heap.size)
/-- the call of 'cell': nothing of the world changes, the answer is not negative -/
theorem r_callCell {S : PS} {b L N0 : Nat} {xs : Nat → Int32} {nm : String} {pc idx : Nat} {lv : List (Nat × Value)} {st : List Value} {w : PW} {n ce sl : Nat} {z : Int} (hS0 : S = lS b L N0 xs nm) (hL : L ≤ 260) (q : Nat) (hd : decode code pc = .ok (.invokestatic idx, 3)) (hq : pc + 3 = q) (hl0 : pCS RL idx yL_cell cL_cell 2 (some .int) 2) (k : Nat) (hz : z = (k : Int)) (hk : k < 1000) (hcat : (st.map fun v => v.category).sum ≤ 8) (hce : ce ≤ 600000) (hsl : sl ≤ 7302250) (kk : ∀ c : Nat, c < 2147483648 → Wp S q lv (.int (iI ((c : Nat) : Int)) :: st) w n ce sl) : Wp S pc lv (.int (iI z) :: .ref b :: st) w n ce sl := by
  subst hS0; subst hq; subst hz
  intro D p l e s m args below meth c H locs ls Q' hC hX hl hH hn hdm hs hS
  obtain ⟨har, hZ, hXX, hbl, hN⟩ := id hX
  obtain ⟨hx, hcd, hml, hown, hts, hret, hnm, hlk, hK⟩ := id hC
  obtain ⟨m1, m2, m3⟩ := hl0
  have hbH : H[b]? = s.heap[b]? := hS.2.1 b hbl (show ¬ N0 ≤ b by omega)
  have hXH : va_X b L xs s H := hXX.kept hbH
  have hsz : s.heap.size ≤ H.size := hS.1
  refine p_callC (n := n) (mc := 0) (ms := 0) (va_runS (rest := st) ⟨hx, hcd, hml, hown, hts⟩ (c_L_cell b L k n xs hk hL l D) ⟨pMt.cb m1 m2 hts ⟨Nat.le_of_ble_eq_true rfl, Nat.le_of_ble_eq_true rfl⟩, hts _ m3⟩ ⟨p_blindC _, fun U hU hW => ⟨rfl, ⟨by rw [hU]; exact va_X.moved hW.alike hXH, by rw [hU]; omega, by rw [hU, hn]⟩, pK.moved hW hK⟩⟩ rfl rfl hl.1 rfl (lv_room hcat) hd ⟨hce, hsl⟩) hn hS (fun q hq => by show N0 ≤ q; omega) fun v w1 H1 locs1 g1 g2 g4 => ?_
  obtain ⟨-, hn1, x, rfl, c2, hc2, rfl⟩ := g1
  exact kk c2 hc2 D p l e s m args below meth c H1 locs1 ls Q' hC hX hl (fun a e h => (hH a e h).kept (g2 a (by rw [← hn]; exact (hH a e h).lt))) hn1 hdm hs g4
theorem r_lwret {S : PS} {b L N0 : Nat} {xs : Nat → Int32} {nm : String} {pc : Nat} {lv : List (Nat × Value)} {w : PW} {n ce sl : Nat} (hS0 : S = lS b L N0 xs nm) (hd : decode code pc = .ok (.ireturn, 1)) (hce : ce ≤ 600000) (hsl : sl ≤ 7302250) : Wp S pc lv [.int (iI 1)] w n ce sl := by
  subst hS0
  intro D p l e s m args below meth c H locs ls Q hC hX hl hH hn hdm hs hS
  obtain ⟨har, hZ, hXX, hbl, hN⟩ := id hX
  subst har; subst hZ
  obtain ⟨hx, hcd, hml, hown, hts, hret, hnm, hlk, hK⟩ := id hC
  refine va_forget (fun q hq => by have := hS.2.2 q hq; have h2 : N0 ≤ q.base := this; omega) ?_
  refine W.widen (k := 600000) (n := 7302250) hce hsl ?_
  exact lw_ret hx hcd hret hlk hd
theorem sOk_0 : sOk 0 ([], ([], [], 0), [], none, none, 60) := by
  refine ⟨⟨Nat.zero_le _, fun c hc => absurd hc List.not_mem_nil⟩, ⟨⟨Nat.zero_le _, fun c hc => absurd hc List.not_mem_nil, Nat.zero_le _, fun j hj => absurd hj (Nat.not_lt_zero _), fun i j _ hj => absurd hj (Nat.not_lt_zero _)⟩, Nat.le_refl _⟩, fun p hp => absurd hp List.not_mem_nil, (fun v hv => by cases hv), (fun v hv => by cases hv), ?_, ?_⟩ <;> decide
/-- a comment of three letters -/
theorem com3 {B D : List Int32} {l : List Nt} {nx f : Nat} {hs : List Pg} {s0 s1 : Option (Pg × Int)} {thr : Int} (hf : f + 3 ≤ D.length) (hl : l.length < 10) : oCom B D l nx hs s0 s1 thr ((f : Nat) : Int) ((f + 3 : Nat) : Int) = (iI ((nx : Nat) : Int), stP B D l nx hs s0 s1 thr (D, l ++ [mkN D nx f (f + 3)], nx + 1)) := by
  unfold oCom
  have e1 : posN D ((f : Nat) : Int) = true := decide_eq_true (by omega)
  have e2 : rngN D ((f : Nat) : Int) ((f + 3 : Nat) : Int) 16 = true := decide_eq_true (by omega)
  rw [e1, e2, if_neg (by decide), if_neg (by decide), if_neg (by omega)]
  rfl
theorem mkN_pos (D : List Int32) (k f : Nat) : nPos (mkN D k f (f + 3)) := ⟨fun _ => (by show f < f + 3; omega), (by show 1 ≤ (1 : Int32).toInt; decide)⟩
set_option maxHeartbeats 8000000 in
set_option maxRecDepth 100000 in
theorem law_wp {b L N0 : Nat} {xs : Nat → Int32} {nm : String} (hL : L ≤ 260) (S : PS) (hS : S = lS b L N0 xs nm) : Wp S 0 [(0, .ref b)] [] (fun _ => none) N0 0 0 := by
  have hb : S.1.1 = cL_law := by rw [hS]; rfl
  have ho : S.1.2.1 = RL := by rw [hS]; rfl
  have hnL : S.1.2.2.1 = 8 := by rw [hS]; rfl
  have hR0 : S.2.1 = room_1 := by rw [hS]; rfl
  refine r_new hb ho 3 dL_law_0 rfl (kn_X8 kc_L_10) (by rw [hR0]; exact Nat.le_of_ble_eq_true rfl) (by rw [hR0]; exact Nat.le_of_ble_eq_true rfl) (fun w_0 hw_0 => ?_)
  have ow_0 := pset_off hw_0
  have fw_0 : w_0 N0 = some (eO 8 [.null, .null, .null, .null, .null, .null, .null, .int (iI 0)]) := by rw [hw_0]; exact pset_eq _ _ _
  refine r_dup hb 4 dL_law_3 rfl rfl ?_
  refine r_callN0 (st := [.ref N0]) hb ho 7 dL_law_4 rfl ck_L_111 (c_X8_init N0 fw_0) rfl rfl (by rw [hR0]; exact ⟨Nat.le_of_ble_eq_true rfl, Nat.le_of_ble_eq_true rfl⟩) (Nat.le_of_ble_eq_true rfl) (by rw [hR0]; exact Nat.le_of_ble_eq_true rfl) (by rw [hR0]; exact Nat.le_of_ble_eq_true rfl) (fun w_4 nw_4 qw_4 => ?_)
  obtain ⟨rfl, hX, ow_4⟩ := qw_4
  refine r_widen 729 99999 (by decide) (by decide) ?_
  refine r_astore_n [(1, .ref N0), (0, .ref b)] hb 8 8 dL_law_7 rfl rfl hnL (by decide) rfl ?_
  refine r_aload_n hb 9 dL_law_8 rfl 1 rfl ?_
  refine r_iconst hb 10 dL_law_9 rfl ?_
  refine r_callCell hS hL 13 dL_law_10 rfl ck_L_112 0 (by omega) (by omega) (Nat.le_of_ble_eq_true rfl) (Nat.le_of_ble_eq_true rfl) (Nat.le_of_ble_eq_true rfl) (fun c0 hc0 => ?_)
  refine r_istore_n [(2, .int (iI (((c0 : Nat) : Int)))), (1, .ref N0), (0, .ref b)] hb 14 8 dL_law_13 rfl rfl hnL (by decide) rfl ?_
  refine r_bipush 40 hb 16 dL_law_14 rfl rfl ?_
  refine r_iload_n hb 17 dL_law_16 rfl 0 rfl ?_
  refine r_bipush 40 hb 19 dL_law_17 rfl rfl ?_
  refine r_iremN (a := c0) (d := 40) hb 20 dL_law_19 rfl (by omega) (by omega) (by omega) (by omega) (by omega) ?_
  obtain ⟨th, hth, hth1, hth2⟩ : ∃ th : Nat, 40 + c0 % 40 = th ∧ 40 ≤ th ∧ th < 80 := ⟨_, rfl, by omega, by omega⟩
  refine r_iaddZ hb 21 (((c0 % 40 : Nat) : Int) + 40) dL_law_20 rfl (by omega) ?_
  refine r_topv (.int (iI (((th : Nat) : Int)))) (congrArg (fun z : Int => Value.int (iI z)) (by omega)) ?_
  refine r_istore_n [(3, .int (iI (((th : Nat) : Int)))), (2, .int (iI (((c0 : Nat) : Int)))), (1, .ref N0), (0, .ref b)] hb 22 8 dL_law_21 rfl rfl hnL (by decide) rfl ?_
  refine r_aload_n hb 23 dL_law_22 rfl 2 rfl ?_
  refine r_callV1 (st := []) hb ho 26 dL_law_23 rfl ck_L_101 (c_X8_undo (N0) ([]) ([]) ([]) 0 ([]) none none 60 hX) rfl rfl ((xo_cell (T := ([], ([], [], 0), [], none, none, 60)) hX)) rfl rfl (by rw [hR0]; exact ⟨Nat.le_of_ble_eq_true rfl, Nat.le_of_ble_eq_true rfl⟩) (Nat.le_of_ble_eq_true rfl) ⟨rfl, rfl⟩ (by rw [hR0]; exact Nat.le_of_ble_eq_true rfl) (by rw [hR0]; exact Nat.le_of_ble_eq_true rfl) (fun vw_23 w_23 nw_23 qw_23 => ?_)
  obtain ⟨rfl, rfl, hX, ow_23⟩ := qw_23
  have hX : xo w_23 N0 ([], ([], [], 0), [], none, none, 60) := by rw [e_UndE ([]) ([]) ([]) 0 ([]) none none 60 rfl] at hX; exact hX
  refine r_topz (-1003) (by rw [e_UndE ([]) ([]) ([]) 0 ([]) none none 60 rfl]) ?_
  refine r_sipush (-1003) hb 29 dL_law_26 rfl rfl ?_
  refine r_icmp_ne hb 32 68 dL_law_29 rfl (by decide) (by omega) (by omega) (fun c29 => ?_) (fun c29 => ?_)
  · exfalso; omega
  · refine r_aload_n hb 33 dL_law_32 rfl 2 rfl ?_
    refine r_iconst hb 34 dL_law_33 rfl ?_
    refine r_callV1 (st := []) hb ho 37 dL_law_34 rfl ck_L_116 (c_X8_restore (N0) ([]) ([]) ([]) 0 ([]) none none 60 0 hX (by omega)) rfl rfl ((xo_cell (T := ([], ([], [], 0), [], none, none, 60)) hX)) rfl rfl (by rw [hR0]; exact ⟨Nat.le_of_ble_eq_true rfl, Nat.le_of_ble_eq_true rfl⟩) (Nat.le_of_ble_eq_true rfl) ⟨rfl, rfl⟩ (by rw [hR0]; exact Nat.le_of_ble_eq_true rfl) (by rw [hR0]; exact Nat.le_of_ble_eq_true rfl) (fun vw_34 w_34 nw_34 qw_34 => ?_)
    obtain ⟨rfl, rfl, hX, ow_34⟩ := qw_34
    have hX : xo w_34 N0 ([], ([], [], 0), [], none, none, 60) := by rw [e_ResE ([]) ([]) ([]) 0 ([]) none none 60 rfl] at hX; exact hX
    refine r_topz (-1003) (by rw [e_ResE ([]) ([]) ([]) 0 ([]) none none 60 rfl]) ?_
    refine r_sipush (-1003) hb 40 dL_law_37 rfl rfl ?_
    refine r_icmp_ne hb 43 68 dL_law_40 rfl (by decide) (by omega) (by omega) (fun c40 => ?_) (fun c40 => ?_)
    · exfalso; omega
    · refine r_aload_n hb 44 dL_law_43 rfl 2 rfl ?_
      refine r_iconst hb 45 dL_law_44 rfl ?_
      refine r_callV1 (st := []) hb ho 48 dL_law_45 rfl ck_L_74 (c_X8_insert (N0) ([]) ([]) ([]) 0 ([]) none none 60 1 hX (by omega) ⟨Nat.zero_le _, fun c hc => absurd hc List.not_mem_nil, Nat.zero_le _, fun j hj => absurd hj (Nat.not_lt_zero _), fun i j _ hj => absurd hj (Nat.not_lt_zero _)⟩) rfl rfl ((xo_cell (T := ([], ([], [], 0), [], none, none, 60)) hX)) rfl rfl (by rw [hR0]; exact ⟨Nat.le_of_ble_eq_true rfl, Nat.le_of_ble_eq_true rfl⟩) (Nat.le_of_ble_eq_true rfl) ⟨rfl, rfl⟩ (by rw [hR0]; exact Nat.le_of_ble_eq_true rfl) (by rw [hR0]; exact Nat.le_of_ble_eq_true rfl) (fun vw_45 w_45 nw_45 qw_45 => ?_)
      obtain ⟨rfl, rfl, hX, ow_45⟩ := qw_45
      have hX : xo w_45 N0 ([], ([], [], 0), [], none, none, 60) := by rw [e_InsE ([]) ([]) ([]) 0 ([]) none none 60 (decide_eq_false (by simp))] at hX; exact hX
      refine r_topz (-1001) (by rw [e_InsE ([]) ([]) ([]) 0 ([]) none none 60 (decide_eq_false (by simp))]) ?_
      refine r_sipush (-1001) hb 51 dL_law_48 rfl rfl ?_
      refine r_icmp_ne hb 54 68 dL_law_51 rfl (by decide) (by omega) (by omega) (fun c51 => ?_) (fun c51 => ?_)
      · exfalso; omega
      · refine r_aload_n hb 55 dL_law_54 rfl 2 rfl ?_
        refine r_iload_n hb 56 dL_law_55 rfl 0 rfl ?_
        refine r_callV1 (st := []) hb ho 59 dL_law_56 rfl ck_L_63 (c_X8_setThreshold (N0) ([]) ([]) ([]) 0 ([]) none none 60 (((th : Nat) : Int)) hX (by omega)) rfl rfl ((xo_cell (T := ([], ([], [], 0), [], none, none, 60)) hX)) rfl rfl (by rw [hR0]; exact ⟨Nat.le_of_ble_eq_true rfl, Nat.le_of_ble_eq_true rfl⟩) (Nat.le_of_ble_eq_true rfl) ⟨rfl, rfl⟩ (by rw [hR0]; exact Nat.le_of_ble_eq_true rfl) (by rw [hR0]; exact Nat.le_of_ble_eq_true rfl) (fun vw_56 w_56 nw_56 qw_56 => ?_)
        obtain ⟨rfl, rfl, hX, ow_56⟩ := qw_56
        have hX : xo w_56 N0 ([], ([], [], 0), [], none, none, ((th : Nat) : Int)) := by rw [e_Thr ([]) ([]) ([]) 0 ([]) none none 60 (by omega)] at hX; exact hX
        refine r_topz 60 (by rw [e_Thr ([]) ([]) ([]) 0 ([]) none none 60 (by omega)]) ?_
        refine r_bipush 60 hb 61 dL_law_59 rfl rfl ?_
        refine r_icmp_ne hb 64 68 dL_law_61 rfl (by decide) (by omega) (by omega) (fun c61 => ?_) (fun c61 => ?_)
        · exfalso; omega
        · refine r_iconst hb 65 dL_law_64 rfl ?_
          refine r_goto hb 69 dL_law_65 (by decide) ?_
          refine r_istore [(4, .int (iI 1)), (3, .int (iI (((th : Nat) : Int)))), (2, .int (iI (((c0 : Nat) : Int)))), (1, .ref N0), (0, .ref b)] hb 71 8 dL_law_69 rfl hnL (by decide) rfl ?_
          refine r_aload_n hb 72 dL_law_71 rfl 3 rfl ?_
          refine r_iload_n hb 73 dL_law_72 rfl 2 rfl ?_
          refine r_bipush 6 hb 75 dL_law_73 rfl rfl ?_
          refine r_ishrN (a := c0) (k := 6) hb 76 dL_law_75 rfl (by omega) (by omega) (sN_b 6 (by decide)) (c0 / 64) rfl ?_
          refine r_bipush 20 hb 78 dL_law_76 rfl rfl ?_
          refine r_callS0 (st := []) hb ho 81 dL_law_78 rfl ck_L_70 (c_L_buffers N0 ([]) ([]) ([]) 0 ([]) none none ((th : Nat) : Int) ((iI (((c0 / 64 : Nat) : Int)))) 20 hX (by omega)) rfl rfl (by rw [hR0]; exact ⟨Nat.le_of_ble_eq_true rfl, Nat.le_of_ble_eq_true rfl⟩) (Nat.le_of_ble_eq_true rfl) ⟨rfl, rfl⟩ (by rw [hR0]; exact Nat.le_of_ble_eq_true rfl) (by rw [hR0]; exact Nat.le_of_ble_eq_true rfl) (fun w_78 nw_78 qw_78 => ?_)
          obtain ⟨rfl, ⟨B1, hBl, hBo, hX⟩, ow_78⟩ := qw_78
          have k0 : sOk 0 ([], ([], [], 0), [], none, none, ((th : Nat) : Int)) := ⟨sOk_0.1, sOk_0.2.1, sOk_0.2.2.1, sOk_0.2.2.2.1, sOk_0.2.2.2.2.1, by show (0 : Int) ≤ ((th : Nat) : Int); omega, by show ((th : Nat) : Int) ≤ 108; omega⟩
          have k1 : sOk 0 (B1, ([], [], 0), [], none, none, ((th : Nat) : Int)) := ok_buf k0 ⟨by omega, hBo⟩
          have k2 : sOk 1 (B1, (B1, [], 0), (recH [] ([], [], 0)), none, none, ((th : Nat) : Int)) := ok_load k1
          obtain ⟨f, hf, hf9⟩ : ∃ f : Nat, c0 % 10 = f ∧ f ≤ 9 := ⟨_, rfl, by omega⟩
          have e5 := com3 (B := B1) (D := B1) (l := []) (nx := 0) (f := f) (hs := recH [] ([], [], 0)) (s0 := none) (s1 := none) (thr := ((th : Nat) : Int)) (by omega) (by decide)
          have e6 := com3 (B := B1) (D := B1) (l := [mkN B1 0 f (f + 3)]) (nx := 1) (f := f) (hs := recH (recH [] ([], [], 0)) (B1, [], 0)) (s0 := none) (s1 := none) (thr := ((th : Nat) : Int)) (by omega) (show 1 < 10 by decide)
          have k3 : sOk 2 (B1, (B1, [mkN B1 0 f (f + 3)], 1), (recH (recH [] ([], [], 0)) (B1, [], 0)), none, none, ((th : Nat) : Int)) := by
            have h := ok_com k2 ((f : Nat) : Int) ((f + 3 : Nat) : Int)
            rw [e5] at h
            exact h
          have k4 : sOk 3 (B1, (B1, [mkN B1 0 f (f + 3), mkN B1 1 f (f + 3)], 2), (recH (recH (recH [] ([], [], 0)) (B1, [], 0)) (B1, [mkN B1 0 f (f + 3)], 1)), none, none, ((th : Nat) : Int)) := by
            have h := ok_com k3 ((f : Nat) : Int) ((f + 3 : Nat) : Int)
            rw [e6] at h
            exact h
          have hq0 : qOk 2 [mkN B1 0 f (f + 3), mkN B1 1 f (f + 3)] := q_app (W := 1) (q_app (W := 0) (l := []) ⟨fun j hj => absurd hj (Nat.not_lt_zero _), Int.le_refl _⟩ (mkN_pos B1 0 f) rfl) (mkN_pos B1 1 f) rfl
          refine r_iload hb 83 dL_law_81 rfl 0 rfl ?_
          refine r_if_eq hb 86 141 dL_law_83 rfl (by decide) (by omega) (fun c83 => ?_) (fun c83 => ?_)
          · exfalso; omega
          · refine r_aload_n hb 87 dL_law_86 rfl 3 rfl ?_
            refine r_callV1 (st := []) hb ho 90 dL_law_87 rfl ck_L_98 (c_X8_load (N0) B1 ([]) ([]) 0 ([]) none none ((th : Nat) : Int) hX ⟨Nat.zero_le _, fun c hc => absurd hc List.not_mem_nil, Nat.zero_le _, fun j hj => absurd hj (Nat.not_lt_zero _), fun i j _ hj => absurd hj (Nat.not_lt_zero _)⟩) rfl rfl ((xo_cell (T := (B1, ([], [], 0), [], none, none, ((th : Nat) : Int))) hX)) rfl rfl (by rw [hR0]; exact ⟨Nat.le_of_ble_eq_true rfl, Nat.le_of_ble_eq_true rfl⟩) (Nat.le_of_ble_eq_true rfl) ⟨rfl, rfl⟩ (by rw [hR0]; exact Nat.le_of_ble_eq_true rfl) (by rw [hR0]; exact Nat.le_of_ble_eq_true rfl) (fun vw_87 w_87 nw_87 qw_87 => ?_)
            obtain ⟨rfl, rfl, hX, ow_87⟩ := qw_87
            have hX : xo w_87 N0 (B1, (B1, [], 0), (recH [] ([], [], 0)), none, none, ((th : Nat) : Int)) := hX
            refine r_topz 0 (rfl) ?_
            refine r_if_ne hb 93 141 dL_law_90 rfl (by decide) (by omega) (fun c90 => ?_) (fun c90 => ?_)
            · exfalso; omega
            · refine r_aload_n hb 94 dL_law_93 rfl 3 rfl ?_
              refine r_callV1 (st := []) hb ho 97 dL_law_94 rfl ck_L_24 (c_X8_length (N0) B1 B1 ([]) 0 (recH [] ([], [], 0)) none none ((th : Nat) : Int) hX) rfl rfl ((xo_cell (T := (B1, (B1, [], 0), (recH [] ([], [], 0)), none, none, ((th : Nat) : Int))) hX)) rfl rfl (by rw [hR0]; exact ⟨Nat.le_of_ble_eq_true rfl, Nat.le_of_ble_eq_true rfl⟩) (Nat.le_of_ble_eq_true rfl) ⟨rfl, rfl⟩ (by rw [hR0]; exact Nat.le_of_ble_eq_true rfl) (by rw [hR0]; exact Nat.le_of_ble_eq_true rfl) (fun vw_94 w_94 nw_94 qw_94 => ?_)
              obtain ⟨rfl, rfl, hX, ow_94⟩ := qw_94
              rw [rd_length] at hX
              refine r_topz (((B1.length : Nat) : Int)) (rfl) ?_
              refine r_bipush 20 hb 99 dL_law_97 rfl rfl ?_
              refine r_icmp_ne hb 102 141 dL_law_99 rfl (by decide) (by omega) (by omega) (fun c99 => ?_) (fun c99 => ?_)
              · exfalso; omega
              · refine r_aload_n hb 103 dL_law_102 rfl 3 rfl ?_
                refine r_iload_n hb 104 dL_law_103 rfl 2 rfl ?_
                refine r_bipush 10 hb 106 dL_law_104 rfl rfl ?_
                refine r_iremN (a := c0) (d := 10) hb 107 dL_law_106 rfl (by omega) (by omega) (by omega) (by omega) (by omega) ?_
                refine r_topv (.int (iI (((f : Nat) : Int)))) (by rw [hf]) ?_
                refine r_iload_n hb 108 dL_law_107 rfl 2 rfl ?_
                refine r_bipush 10 hb 110 dL_law_108 rfl rfl ?_
                refine r_iremN (a := c0) (d := 10) hb 111 dL_law_110 rfl (by omega) (by omega) (by omega) (by omega) (by omega) ?_
                refine r_topv (.int (iI (((f : Nat) : Int)))) (by rw [hf]) ?_
                refine r_iconst hb 112 dL_law_111 rfl ?_
                refine r_iaddZ hb 113 (((f : Nat) : Int) + 3) dL_law_112 rfl (by omega) ?_
                refine r_topv (.int (iI ((((f + 3 : Nat) : Nat) : Int)))) (congrArg (fun z : Int => Value.int (iI z)) (by omega)) ?_
                refine r_callV1 (st := []) hb ho 116 dL_law_113 rfl ck_L_80 (c_X8_comment (N0) B1 B1 ([]) 0 (recH [] ([], [], 0)) none none ((th : Nat) : Int) (((f : Nat) : Int)) ((((f + 3 : Nat) : Nat) : Int)) hX (by omega) (by omega) (by omega)) rfl rfl ((xo_cell (T := (B1, (B1, [], 0), (recH [] ([], [], 0)), none, none, ((th : Nat) : Int))) hX)) rfl rfl (by rw [hR0]; exact ⟨Nat.le_of_ble_eq_true rfl, Nat.le_of_ble_eq_true rfl⟩) (Nat.le_of_ble_eq_true rfl) ⟨rfl, rfl⟩ (by rw [hR0]; exact Nat.le_of_ble_eq_true rfl) (by rw [hR0]; exact Nat.le_of_ble_eq_true rfl) (fun vw_113 w_113 nw_113 qw_113 => ?_)
                obtain ⟨rfl, rfl, hX, ow_113⟩ := qw_113
                have hX : xo w_113 N0 (B1, (B1, [mkN B1 0 f (f + 3)], 1), (recH (recH [] ([], [], 0)) (B1, [], 0)), none, none, ((th : Nat) : Int)) := by rw [e5] at hX; exact hX
                refine r_topz 0 (by rw [e5]; rfl) ?_
                refine r_if_ne hb 119 141 dL_law_116 rfl (by decide) (by omega) (fun c116 => ?_) (fun c116 => ?_)
                · exfalso; omega
                · refine r_aload_n hb 120 dL_law_119 rfl 3 rfl ?_
                  refine r_iload_n hb 121 dL_law_120 rfl 2 rfl ?_
                  refine r_bipush 10 hb 123 dL_law_121 rfl rfl ?_
                  refine r_iremN (a := c0) (d := 10) hb 124 dL_law_123 rfl (by omega) (by omega) (by omega) (by omega) (by omega) ?_
                  refine r_topv (.int (iI (((f : Nat) : Int)))) (by rw [hf]) ?_
                  refine r_iload_n hb 125 dL_law_124 rfl 2 rfl ?_
                  refine r_bipush 10 hb 127 dL_law_125 rfl rfl ?_
                  refine r_iremN (a := c0) (d := 10) hb 128 dL_law_127 rfl (by omega) (by omega) (by omega) (by omega) (by omega) ?_
                  refine r_topv (.int (iI (((f : Nat) : Int)))) (by rw [hf]) ?_
                  refine r_iconst hb 129 dL_law_128 rfl ?_
                  refine r_iaddZ hb 130 (((f : Nat) : Int) + 3) dL_law_129 rfl (by omega) ?_
                  refine r_topv (.int (iI ((((f + 3 : Nat) : Nat) : Int)))) (congrArg (fun z : Int => Value.int (iI z)) (by omega)) ?_
                  refine r_callV1 (st := []) hb ho 133 dL_law_130 rfl ck_L_80 (c_X8_comment (N0) B1 B1 ([mkN B1 0 f (f + 3)]) 1 (recH (recH [] ([], [], 0)) (B1, [], 0)) none none ((th : Nat) : Int) (((f : Nat) : Int)) ((((f + 3 : Nat) : Nat) : Int)) hX (by omega) (by omega) (by omega)) rfl rfl ((xo_cell (T := (B1, (B1, [mkN B1 0 f (f + 3)], 1), (recH (recH [] ([], [], 0)) (B1, [], 0)), none, none, ((th : Nat) : Int))) hX)) rfl rfl (by rw [hR0]; exact ⟨Nat.le_of_ble_eq_true rfl, Nat.le_of_ble_eq_true rfl⟩) (Nat.le_of_ble_eq_true rfl) ⟨rfl, rfl⟩ (by rw [hR0]; exact Nat.le_of_ble_eq_true rfl) (by rw [hR0]; exact Nat.le_of_ble_eq_true rfl) (fun vw_130 w_130 nw_130 qw_130 => ?_)
                  obtain ⟨rfl, rfl, hX, ow_130⟩ := qw_130
                  have hX : xo w_130 N0 (B1, (B1, [mkN B1 0 f (f + 3), mkN B1 1 f (f + 3)], 2), (recH (recH (recH [] ([], [], 0)) (B1, [], 0)) (B1, [mkN B1 0 f (f + 3)], 1)), none, none, ((th : Nat) : Int)) := by rw [e6] at hX; exact hX
                  refine r_topz 1 (by rw [e6]; rfl) ?_
                  refine r_iconst hb 134 dL_law_133 rfl ?_
                  refine r_icmp_ne hb 137 141 dL_law_134 rfl (by decide) (by omega) (by omega) (fun c134 => ?_) (fun c134 => ?_)
                  · exfalso; omega
                  · refine r_iconst hb 138 dL_law_137 rfl ?_
                    refine r_goto hb 142 dL_law_138 (by decide) ?_
                    refine r_istore [(4, .int (iI 1)), (3, .int (iI (((th : Nat) : Int)))), (2, .int (iI (((c0 : Nat) : Int)))), (1, .ref N0), (0, .ref b)] hb 144 8 dL_law_142 rfl hnL (by decide) rfl ?_
                    refine r_iconst hb 145 dL_law_144 rfl ?_
                    refine r_istore [(5, .int (iI 0)), (4, .int (iI 1)), (3, .int (iI (((th : Nat) : Int)))), (2, .int (iI (((c0 : Nat) : Int)))), (1, .ref N0), (0, .ref b)] hb 147 8 dL_law_145 rfl hnL (by decide) rfl ?_
                    have lp : ∀ (d : Nat) (k : Nat) (wi : PW) (T : Fs), 14 - k = d → (k ≤ 14) → (xo wi N0 T) → (sOk (30 + 4 * k) T) → (qOk (2 + (k : Int)) T.2.1.2.1) → (T.2.2.2.2.2 = ((th : Nat) : Int)) → Wp S 147 [(5, .int (iI (((k : Nat) : Int)))), (4, .int (iI 1)), (3, .int (iI (((th : Nat) : Int)))), (2, .int (iI (((c0 : Nat) : Int)))), (1, .ref N0), (0, .ref b)] [] wi (N0 + 729) 729 99999 := by
                      intro d
                      induction d using Nat.strongRecOn with
                      | _ d ih_lp =>
                        intro k wi T hd_lp hk hX hsk hq hthr
                        obtain ⟨B, ⟨D, l, nx⟩, hs, s0, s1, thr⟩ := T
                        have hthr : thr = ((th : Nat) : Int) := hthr
                        subst hthr
                        have hok : pOk (D, l, nx) := hsk.2.1.1
                        have hnx : nx ≤ 30 + 4 * k := hsk.2.1.2
                        have hDl : D.length ≤ 120 := hok.1
                        have hll : l.length ≤ 10 := hok.2.2.1
                        have hnn : ∀ (z : Int), z < 0 ∨ 1000 ≤ z → ixN l z = l.length := fun z hz => ixN_none (fun j hj => by have h := ((pOk_l hok).1 j hj).2.2.2; omega)
                        refine r_iload hb 149 dL_law_147 rfl 0 rfl ?_
                        refine r_bipush 14 hb 151 dL_law_149 rfl rfl ?_
                        refine r_icmp_ge hb 154 196 dL_law_151 rfl (by decide) (by omega) (by omega) (fun c151 => ?_) (fun c151 => ?_)
                        · refine r_aload_n hb 197 dL_law_196 rfl 4 rfl ?_
                          refine r_callV1 (st := []) hb ho 200 dL_law_197 rfl ck_L_27 (c_X8_comments (N0) B D l nx hs s0 s1 ((th : Nat) : Int) hX) rfl rfl ((xo_cell (T := (B, (D, l, nx), hs, s0, s1, ((th : Nat) : Int))) hX)) rfl rfl (by rw [hR0]; exact ⟨Nat.le_of_ble_eq_true rfl, Nat.le_of_ble_eq_true rfl⟩) (Nat.le_of_ble_eq_true rfl) ⟨rfl, rfl⟩ (by rw [hR0]; exact Nat.le_of_ble_eq_true rfl) (by rw [hR0]; exact Nat.le_of_ble_eq_true rfl) (fun vw_197 w_197 nw_197 qw_197 => ?_)
                          obtain ⟨rfl, rfl, hX, ow_197⟩ := qw_197
                          rw [rd_comments] at hX
                          refine r_topz (((l.length : Nat) : Int)) (rfl) ?_
                          refine r_istore [(5, .int (iI (((l.length : Nat) : Int)))), (4, .int (iI 1)), (3, .int (iI (((th : Nat) : Int)))), (2, .int (iI (((c0 : Nat) : Int)))), (1, .ref N0), (0, .ref b)] hb 202 8 dL_law_200 rfl hnL (by decide) rfl ?_
                          refine r_aload_n hb 203 dL_law_202 rfl 4 rfl ?_
                          refine r_callV1 (st := []) hb ho 206 dL_law_203 rfl ck_L_66 (c_X8_checksum (N0) B D l nx hs s0 s1 ((th : Nat) : Int) hX hok) rfl rfl ((xo_cell (T := (B, (D, l, nx), hs, s0, s1, ((th : Nat) : Int))) hX)) rfl rfl (by rw [hR0]; exact ⟨Nat.le_of_ble_eq_true rfl, Nat.le_of_ble_eq_true rfl⟩) (Nat.le_of_ble_eq_true rfl) ⟨rfl, rfl⟩ (by rw [hR0]; exact Nat.le_of_ble_eq_true rfl) (by rw [hR0]; exact Nat.le_of_ble_eq_true rfl) (fun vw_203 w_203 nw_203 qw_203 => ?_)
                          obtain ⟨rfl, rfl, hX, ow_203⟩ := qw_203
                          refine r_lstore [(6, .long (oSum D l)), (5, .int (iI (((l.length : Nat) : Int)))), (4, .int (iI 1)), (3, .int (iI (((th : Nat) : Int)))), (2, .int (iI (((c0 : Nat) : Int)))), (1, .ref N0), (0, .ref b)] hb 208 8 dL_law_206 rfl hnL (by decide) rfl ?_
                          refine r_iload hb 210 dL_law_208 rfl 2 rfl ?_
                          refine r_if_eq hb 213 349 dL_law_210 rfl (by decide) (by omega) (fun c210 => ?_) (fun c210 => ?_)
                          · exfalso; omega
                          · refine r_aload_n hb 214 dL_law_213 rfl 5 rfl ?_
                            refine r_bipush 31 hb 216 dL_law_214 rfl rfl ?_
                            refine r_callV1 (st := []) hb ho 219 dL_law_216 rfl ck_L_21 (c_X8_type (N0) B D l nx hs s0 s1 ((th : Nat) : Int) 31 hX (by omega)) rfl rfl ((xo_cell (T := (B, (D, l, nx), hs, s0, s1, ((th : Nat) : Int))) hX)) rfl rfl (by rw [hR0]; exact ⟨Nat.le_of_ble_eq_true rfl, Nat.le_of_ble_eq_true rfl⟩) (Nat.le_of_ble_eq_true rfl) ⟨rfl, rfl⟩ (by rw [hR0]; exact Nat.le_of_ble_eq_true rfl) (by rw [hR0]; exact Nat.le_of_ble_eq_true rfl) (fun vw_216 w_216 nw_216 qw_216 => ?_)
                            obtain ⟨rfl, rfl, hX, ow_216⟩ := qw_216
                            have hX : xo w_216 N0 (B, (D, l, nx), hs, s0, s1, ((th : Nat) : Int)) := by rw [e_TypE B D l nx hs s0 s1 ((th : Nat) : Int)] at hX; exact hX
                            refine r_topz (-1002) (by rw [e_TypE B D l nx hs s0 s1 ((th : Nat) : Int)]) ?_
                            refine r_sipush (-1002) hb 222 dL_law_219 rfl rfl ?_
                            refine r_icmp_ne hb 225 349 dL_law_222 rfl (by decide) (by omega) (by omega) (fun c222 => ?_) (fun c222 => ?_)
                            · exfalso; omega
                            · refine r_aload_n hb 226 dL_law_225 rfl 5 rfl ?_
                              refine r_iconst hb 227 dL_law_226 rfl ?_
                              refine r_callV1 (st := []) hb ho 230 dL_law_227 rfl ck_L_74 (c_X8_insert (N0) B D l nx hs s0 s1 ((th : Nat) : Int) (-1) hX (by omega) hok) rfl rfl ((xo_cell (T := (B, (D, l, nx), hs, s0, s1, ((th : Nat) : Int))) hX)) rfl rfl (by rw [hR0]; exact ⟨Nat.le_of_ble_eq_true rfl, Nat.le_of_ble_eq_true rfl⟩) (Nat.le_of_ble_eq_true rfl) ⟨rfl, rfl⟩ (by rw [hR0]; exact Nat.le_of_ble_eq_true rfl) (by rw [hR0]; exact Nat.le_of_ble_eq_true rfl) (fun vw_227 w_227 nw_227 qw_227 => ?_)
                              obtain ⟨rfl, rfl, hX, ow_227⟩ := qw_227
                              have hX : xo w_227 N0 (B, (D, l, nx), hs, s0, s1, ((th : Nat) : Int)) := by rw [e_InsE B D l nx hs s0 s1 ((th : Nat) : Int) (decide_eq_false (by omega))] at hX; exact hX
                              refine r_topz (-1001) (by rw [e_InsE B D l nx hs s0 s1 ((th : Nat) : Int) (decide_eq_false (by omega))]) ?_
                              refine r_sipush (-1001) hb 233 dL_law_230 rfl rfl ?_
                              refine r_icmp_ne hb 236 349 dL_law_233 rfl (by decide) (by omega) (by omega) (fun c233 => ?_) (fun c233 => ?_)
                              · exfalso; omega
                              · refine r_aload_n hb 237 dL_law_236 rfl 5 rfl ?_
                                refine r_iconst hb 238 dL_law_237 rfl ?_
                                refine r_iconst hb 239 dL_law_238 rfl ?_
                                refine r_callV1 (st := []) hb ho 242 dL_law_239 rfl ck_L_77 (c_X8_delete (N0) B D l nx hs s0 s1 ((th : Nat) : Int) 0 (-1) hX (by omega) (by omega)) rfl rfl ((xo_cell (T := (B, (D, l, nx), hs, s0, s1, ((th : Nat) : Int))) hX)) rfl rfl (by rw [hR0]; exact ⟨Nat.le_of_ble_eq_true rfl, Nat.le_of_ble_eq_true rfl⟩) (Nat.le_of_ble_eq_true rfl) ⟨rfl, rfl⟩ (by rw [hR0]; exact Nat.le_of_ble_eq_true rfl) (by rw [hR0]; exact Nat.le_of_ble_eq_true rfl) (fun vw_239 w_239 nw_239 qw_239 => ?_)
                                obtain ⟨rfl, rfl, hX, ow_239⟩ := qw_239
                                have hX : xo w_239 N0 (B, (D, l, nx), hs, s0, s1, ((th : Nat) : Int)) := by rw [e_DelE B D l nx hs s0 s1 ((th : Nat) : Int)] at hX; exact hX
                                refine r_topz (-1002) (by rw [e_DelE B D l nx hs s0 s1 ((th : Nat) : Int)]) ?_
                                refine r_sipush (-1002) hb 245 dL_law_242 rfl rfl ?_
                                refine r_icmp_ne hb 248 349 dL_law_245 rfl (by decide) (by omega) (by omega) (fun c245 => ?_) (fun c245 => ?_)
                                · exfalso; omega
                                · refine r_aload_n hb 249 dL_law_248 rfl 5 rfl ?_
                                  refine r_iconst hb 250 dL_law_249 rfl ?_
                                  refine r_iconst hb 251 dL_law_250 rfl ?_
                                  refine r_callV1 (st := []) hb ho 254 dL_law_251 rfl ck_L_80 (c_X8_comment (N0) B D l nx hs s0 s1 ((th : Nat) : Int) 0 0 hX (by omega) (by omega) (by omega)) rfl rfl ((xo_cell (T := (B, (D, l, nx), hs, s0, s1, ((th : Nat) : Int))) hX)) rfl rfl (by rw [hR0]; exact ⟨Nat.le_of_ble_eq_true rfl, Nat.le_of_ble_eq_true rfl⟩) (Nat.le_of_ble_eq_true rfl) ⟨rfl, rfl⟩ (by rw [hR0]; exact Nat.le_of_ble_eq_true rfl) (by rw [hR0]; exact Nat.le_of_ble_eq_true rfl) (fun vw_251 w_251 nw_251 qw_251 => ?_)
                                  obtain ⟨rfl, rfl, hX, ow_251⟩ := qw_251
                                  have hX : xo w_251 N0 (B, (D, l, nx), hs, s0, s1, ((th : Nat) : Int)) := by rw [e_ComE B D l nx hs s0 s1 ((th : Nat) : Int)] at hX; exact hX
                                  refine r_topz (-1002) (by rw [e_ComE B D l nx hs s0 s1 ((th : Nat) : Int)]) ?_
                                  refine r_sipush (-1002) hb 257 dL_law_254 rfl rfl ?_
                                  refine r_icmp_ne hb 260 349 dL_law_257 rfl (by decide) (by omega) (by omega) (fun c257 => ?_) (fun c257 => ?_)
                                  · exfalso; omega
                                  · refine r_aload_n hb 261 dL_law_260 rfl 5 rfl ?_
                                    refine r_sipush 1000 hb 264 dL_law_261 rfl rfl ?_
                                    refine r_callV1 (st := []) hb ho 267 dL_law_264 rfl ck_L_92 (c_X8_remove (N0) B D l nx hs s0 s1 ((th : Nat) : Int) 1000 hX (by omega)) rfl rfl ((xo_cell (T := (B, (D, l, nx), hs, s0, s1, ((th : Nat) : Int))) hX)) rfl rfl (by rw [hR0]; exact ⟨Nat.le_of_ble_eq_true rfl, Nat.le_of_ble_eq_true rfl⟩) (Nat.le_of_ble_eq_true rfl) ⟨rfl, rfl⟩ (by rw [hR0]; exact Nat.le_of_ble_eq_true rfl) (by rw [hR0]; exact Nat.le_of_ble_eq_true rfl) (fun vw_264 w_264 nw_264 qw_264 => ?_)
                                    obtain ⟨rfl, rfl, hX, ow_264⟩ := qw_264
                                    have hX : xo w_264 N0 (B, (D, l, nx), hs, s0, s1, ((th : Nat) : Int)) := by rw [e_RemE B D l nx hs s0 s1 ((th : Nat) : Int) (hnn 1000 (by omega))] at hX; exact hX
                                    refine r_topz (-1001) (by rw [e_RemE B D l nx hs s0 s1 ((th : Nat) : Int) (hnn 1000 (by omega))]) ?_
                                    refine r_sipush (-1001) hb 270 dL_law_267 rfl rfl ?_
                                    refine r_icmp_ne hb 273 349 dL_law_270 rfl (by decide) (by omega) (by omega) (fun c270 => ?_) (fun c270 => ?_)
                                    · exfalso; omega
                                    · refine r_aload_n hb 274 dL_law_273 rfl 5 rfl ?_
                                      refine r_iconst hb 275 dL_law_274 rfl ?_
                                      refine r_callV1 (st := []) hb ho 278 dL_law_275 rfl ck_L_83 (c_X8_attach (N0) B D l nx hs s0 s1 ((th : Nat) : Int) (-1) hX (by omega) hok (by omega)) rfl rfl ((xo_cell (T := (B, (D, l, nx), hs, s0, s1, ((th : Nat) : Int))) hX)) rfl rfl (by rw [hR0]; exact ⟨Nat.le_of_ble_eq_true rfl, Nat.le_of_ble_eq_true rfl⟩) (Nat.le_of_ble_eq_true rfl) ⟨rfl, rfl⟩ (by rw [hR0]; exact Nat.le_of_ble_eq_true rfl) (by rw [hR0]; exact Nat.le_of_ble_eq_true rfl) (fun vw_275 w_275 nw_275 qw_275 => ?_)
                                      obtain ⟨rfl, rfl, hX, ow_275⟩ := qw_275
                                      have hX : xo w_275 N0 (B, (D, l, nx), hs, s0, s1, ((th : Nat) : Int)) := by rw [e_AttE B D l nx hs s0 s1 ((th : Nat) : Int) (hnn (-1) (by omega))] at hX; exact hX
                                      refine r_topz (-1001) (by rw [e_AttE B D l nx hs s0 s1 ((th : Nat) : Int) (hnn (-1) (by omega))]) ?_
                                      refine r_sipush (-1001) hb 281 dL_law_278 rfl rfl ?_
                                      refine r_icmp_ne hb 284 349 dL_law_281 rfl (by decide) (by omega) (by omega) (fun c281 => ?_) (fun c281 => ?_)
                                      · exfalso; omega
                                      · refine r_aload_n hb 285 dL_law_284 rfl 5 rfl ?_
                                        refine r_sipush 1000 hb 288 dL_law_285 rfl rfl ?_
                                        refine r_iconst hb 289 dL_law_288 rfl ?_
                                        refine r_callV1 (st := []) hb ho 292 dL_law_289 rfl ck_L_51 (c_X8_best (N0) B D l nx hs s0 s1 ((th : Nat) : Int) 1000 0 hX (by omega) (by omega) hok) rfl rfl ((xo_cell (T := (B, (D, l, nx), hs, s0, s1, ((th : Nat) : Int))) hX)) rfl rfl (by rw [hR0]; exact ⟨Nat.le_of_ble_eq_true rfl, Nat.le_of_ble_eq_true rfl⟩) (Nat.le_of_ble_eq_true rfl) ⟨rfl, rfl⟩ (by rw [hR0]; exact Nat.le_of_ble_eq_true rfl) (by rw [hR0]; exact Nat.le_of_ble_eq_true rfl) (fun vw_289 w_289 nw_289 qw_289 => ?_)
                                        obtain ⟨rfl, rfl, hX, ow_289⟩ := qw_289
                                        rw [rd_best] at hX
                                        refine r_topz (-1001) (by rw [e_BesE B D l nx hs s0 s1 ((th : Nat) : Int) (hnn 1000 (by omega))]) ?_
                                        refine r_sipush (-1001) hb 295 dL_law_292 rfl rfl ?_
                                        refine r_icmp_ne hb 298 349 dL_law_295 rfl (by decide) (by omega) (by omega) (fun c295 => ?_) (fun c295 => ?_)
                                        · exfalso; omega
                                        · refine r_aload_n hb 299 dL_law_298 rfl 5 rfl ?_
                                          refine r_aload_n hb 300 dL_law_299 rfl 5 rfl ?_
                                          refine r_callV1 (st := [.ref N0]) hb ho 303 dL_law_300 rfl ck_L_24 (c_X8_length (N0) B D l nx hs s0 s1 ((th : Nat) : Int) hX) rfl rfl ((xo_cell (T := (B, (D, l, nx), hs, s0, s1, ((th : Nat) : Int))) hX)) rfl rfl (by rw [hR0]; exact ⟨Nat.le_of_ble_eq_true rfl, Nat.le_of_ble_eq_true rfl⟩) (Nat.le_of_ble_eq_true rfl) ⟨rfl, rfl⟩ (by rw [hR0]; exact Nat.le_of_ble_eq_true rfl) (by rw [hR0]; exact Nat.le_of_ble_eq_true rfl) (fun vw_300 w_300 nw_300 qw_300 => ?_)
                                          obtain ⟨rfl, rfl, hX, ow_300⟩ := qw_300
                                          rw [rd_length] at hX
                                          refine r_topz (((D.length : Nat) : Int)) (rfl) ?_
                                          refine r_iconst hb 304 dL_law_303 rfl ?_
                                          refine r_callV1 (st := []) hb ho 307 dL_law_304 rfl ck_L_127 (c_X8_covering (N0) B D l nx hs s0 s1 ((th : Nat) : Int) (((D.length : Nat) : Int)) 0 hX (by omega) (by omega)) rfl rfl ((xo_cell (T := (B, (D, l, nx), hs, s0, s1, ((th : Nat) : Int))) hX)) rfl rfl (by rw [hR0]; exact ⟨Nat.le_of_ble_eq_true rfl, Nat.le_of_ble_eq_true rfl⟩) (Nat.le_of_ble_eq_true rfl) ⟨rfl, rfl⟩ (by rw [hR0]; exact Nat.le_of_ble_eq_true rfl) (by rw [hR0]; exact Nat.le_of_ble_eq_true rfl) (fun vw_304 w_304 nw_304 qw_304 => ?_)
                                          obtain ⟨rfl, rfl, hX, ow_304⟩ := qw_304
                                          rw [rd_covering] at hX
                                          refine r_topz (-1001) (by rw [e_CovE B D l nx hs s0 s1 ((th : Nat) : Int) rfl]) ?_
                                          refine r_sipush (-1001) hb 310 dL_law_307 rfl rfl ?_
                                          refine r_icmp_ne hb 313 349 dL_law_310 rfl (by decide) (by omega) (by omega) (fun c310 => ?_) (fun c310 => ?_)
                                          · exfalso; omega
                                          · refine r_aload_n hb 314 dL_law_313 rfl 5 rfl ?_
                                            refine r_iconst hb 315 dL_law_314 rfl ?_
                                            refine r_callV1 (st := []) hb ho 318 dL_law_315 rfl ck_L_63 (c_X8_setThreshold (N0) B D l nx hs s0 s1 ((th : Nat) : Int) (-1) hX (by omega)) rfl rfl ((xo_cell (T := (B, (D, l, nx), hs, s0, s1, ((th : Nat) : Int))) hX)) rfl rfl (by rw [hR0]; exact ⟨Nat.le_of_ble_eq_true rfl, Nat.le_of_ble_eq_true rfl⟩) (Nat.le_of_ble_eq_true rfl) ⟨rfl, rfl⟩ (by rw [hR0]; exact Nat.le_of_ble_eq_true rfl) (by rw [hR0]; exact Nat.le_of_ble_eq_true rfl) (fun vw_315 w_315 nw_315 qw_315 => ?_)
                                            obtain ⟨rfl, rfl, hX, ow_315⟩ := qw_315
                                            have hX : xo w_315 N0 (B, (D, l, nx), hs, s0, s1, ((th : Nat) : Int)) := by rw [e_ThrE B D l nx hs s0 s1 ((th : Nat) : Int)] at hX; exact hX
                                            refine r_topz (-1002) (by rw [e_ThrE B D l nx hs s0 s1 ((th : Nat) : Int)]) ?_
                                            refine r_sipush (-1002) hb 321 dL_law_318 rfl rfl ?_
                                            refine r_icmp_ne hb 324 349 dL_law_321 rfl (by decide) (by omega) (by omega) (fun c321 => ?_) (fun c321 => ?_)
                                            · exfalso; omega
                                            · refine r_aload_n hb 325 dL_law_324 rfl 5 rfl ?_
                                              refine r_iconst hb 326 dL_law_325 rfl ?_
                                              refine r_callV1 (st := []) hb ho 329 dL_law_326 rfl ck_L_104 (c_X8_save (N0) B D l nx hs s0 s1 ((th : Nat) : Int) 2 hX (by omega)) rfl rfl ((xo_cell (T := (B, (D, l, nx), hs, s0, s1, ((th : Nat) : Int))) hX)) rfl rfl (by rw [hR0]; exact ⟨Nat.le_of_ble_eq_true rfl, Nat.le_of_ble_eq_true rfl⟩) (Nat.le_of_ble_eq_true rfl) ⟨rfl, rfl⟩ (by rw [hR0]; exact Nat.le_of_ble_eq_true rfl) (by rw [hR0]; exact Nat.le_of_ble_eq_true rfl) (fun vw_326 w_326 nw_326 qw_326 => ?_)
                                              obtain ⟨rfl, rfl, hX, ow_326⟩ := qw_326
                                              have hX : xo w_326 N0 (B, (D, l, nx), hs, s0, s1, ((th : Nat) : Int)) := by rw [e_SavE B D l nx hs s0 s1 ((th : Nat) : Int)] at hX; exact hX
                                              refine r_topz (-1001) (by rw [e_SavE B D l nx hs s0 s1 ((th : Nat) : Int)]) ?_
                                              refine r_sipush (-1001) hb 332 dL_law_329 rfl rfl ?_
                                              refine r_icmp_ne hb 335 349 dL_law_332 rfl (by decide) (by omega) (by omega) (fun c332 => ?_) (fun c332 => ?_)
                                              · exfalso; omega
                                              · refine r_aload_n hb 336 dL_law_335 rfl 5 rfl ?_
                                                refine r_callV1 (st := []) hb ho 339 dL_law_336 rfl ck_L_66 (c_X8_checksum (N0) B D l nx hs s0 s1 ((th : Nat) : Int) hX hok) rfl rfl ((xo_cell (T := (B, (D, l, nx), hs, s0, s1, ((th : Nat) : Int))) hX)) rfl rfl (by rw [hR0]; exact ⟨Nat.le_of_ble_eq_true rfl, Nat.le_of_ble_eq_true rfl⟩) (Nat.le_of_ble_eq_true rfl) ⟨rfl, rfl⟩ (by rw [hR0]; exact Nat.le_of_ble_eq_true rfl) (by rw [hR0]; exact Nat.le_of_ble_eq_true rfl) (fun vw_336 w_336 nw_336 qw_336 => ?_)
                                                obtain ⟨rfl, rfl, hX, ow_336⟩ := qw_336
                                                refine r_lload hb 341 dL_law_339 rfl 0 rfl ?_
                                                refine r_lcmp hb 342 dL_law_341 rfl ?_
                                                refine r_if0_ne hb 345 349 dL_law_342 rfl (by decide) (fun c342 => ?_) (fun c342 => ?_)
                                                · exact absurd (lg_cmp_self _) c342
                                                · refine r_iconst hb 346 dL_law_345 rfl ?_
                                                  refine r_goto hb 350 dL_law_346 (by decide) ?_
                                                  refine r_istore [(4, .int (iI 1)), (6, .long (oSum D l)), (5, .int (iI (((l.length : Nat) : Int)))), (3, .int (iI (((th : Nat) : Int)))), (2, .int (iI (((c0 : Nat) : Int)))), (1, .ref N0), (0, .ref b)] hb 352 8 dL_law_350 rfl hnL (by decide) rfl ?_
                                                  refine r_iload hb 354 dL_law_352 rfl 0 rfl ?_
                                                  refine r_if_eq hb 357 378 dL_law_354 rfl (by decide) (by omega) (fun c354 => ?_) (fun c354 => ?_)
                                                  · exfalso; omega
                                                  · refine r_aload_n hb 358 dL_law_357 rfl 5 rfl ?_
                                                    refine r_iconst hb 359 dL_law_358 rfl ?_
                                                    refine r_callV1 (st := []) hb ho 362 dL_law_359 rfl ck_L_104 (c_X8_save (N0) B D l nx hs s0 s1 ((th : Nat) : Int) 0 hX (by omega)) rfl rfl ((xo_cell (T := (B, (D, l, nx), hs, s0, s1, ((th : Nat) : Int))) hX)) rfl rfl (by rw [hR0]; exact ⟨Nat.le_of_ble_eq_true rfl, Nat.le_of_ble_eq_true rfl⟩) (Nat.le_of_ble_eq_true rfl) ⟨rfl, rfl⟩ (by rw [hR0]; exact Nat.le_of_ble_eq_true rfl) (by rw [hR0]; exact Nat.le_of_ble_eq_true rfl) (fun vw_359 w_359 nw_359 qw_359 => ?_)
                                                    obtain ⟨rfl, rfl, hX, ow_359⟩ := qw_359
                                                    have hX : xo w_359 N0 (B, (D, l, nx), hs, (some ((D, l, nx), ((th : Nat) : Int))), s1, ((th : Nat) : Int)) := by rw [e_Sav0] at hX; exact hX
                                                    refine r_topz (((l.length : Nat) : Int)) (by rw [e_Sav0]) ?_
                                                    refine r_iload hb 364 dL_law_362 rfl 2 rfl ?_
                                                    refine r_icmp_ne hb 367 378 dL_law_364 rfl (by decide) (by omega) (by omega) (fun c364 => ?_) (fun c364 => ?_)
                                                    · exfalso; omega
                                                    · refine r_aload_n hb 368 dL_law_367 rfl 5 rfl ?_
                                                      refine r_callV1 (st := []) hb ho 371 dL_law_368 rfl ck_L_98 (c_X8_load (N0) B D l nx hs (some ((D, l, nx), ((th : Nat) : Int))) s1 ((th : Nat) : Int) hX hok) rfl rfl ((xo_cell (T := (B, (D, l, nx), hs, (some ((D, l, nx), ((th : Nat) : Int))), s1, ((th : Nat) : Int))) hX)) rfl rfl (by rw [hR0]; exact ⟨Nat.le_of_ble_eq_true rfl, Nat.le_of_ble_eq_true rfl⟩) (Nat.le_of_ble_eq_true rfl) ⟨rfl, rfl⟩ (by rw [hR0]; exact Nat.le_of_ble_eq_true rfl) (by rw [hR0]; exact Nat.le_of_ble_eq_true rfl) (fun vw_368 w_368 nw_368 qw_368 => ?_)
                                                      obtain ⟨rfl, rfl, hX, ow_368⟩ := qw_368
                                                      have hX : xo w_368 N0 (B, (B, (l.map (mvRep B.length)), nx), (recH hs (D, l, nx)), (some ((D, l, nx), ((th : Nat) : Int))), s1, ((th : Nat) : Int)) := hX
                                                      refine r_topz (((D.length : Nat) : Int)) (rfl) ?_
                                                      have hok3 : pOk (B, l.map (mvRep B.length), nx) := (ok_load hsk).2.1.1
                                                      refine r_if_lt hb 374 378 dL_law_371 rfl (by decide) (by omega) (fun c371 => ?_) (fun c371 => ?_)
                                                      · exfalso; omega
                                                      · refine r_iconst hb 375 dL_law_374 rfl ?_
                                                        refine r_goto hb 379 dL_law_375 (by decide) ?_
                                                        refine r_istore [(4, .int (iI 1)), (6, .long (oSum D l)), (5, .int (iI (((l.length : Nat) : Int)))), (3, .int (iI (((th : Nat) : Int)))), (2, .int (iI (((c0 : Nat) : Int)))), (1, .ref N0), (0, .ref b)] hb 381 8 dL_law_379 rfl hnL (by decide) rfl ?_
                                                        refine r_iload hb 383 dL_law_381 rfl 0 rfl ?_
                                                        refine r_if_eq hb 386 420 dL_law_383 rfl (by decide) (by omega) (fun c383 => ?_) (fun c383 => ?_)
                                                        · exfalso; omega
                                                        · refine r_aload_n hb 387 dL_law_386 rfl 5 rfl ?_
                                                          refine r_iconst hb 388 dL_law_387 rfl ?_
                                                          refine r_callV1 (st := []) hb ho 391 dL_law_388 rfl ck_L_116 (c_X8_restore (N0) B B (l.map (mvRep B.length)) nx (recH hs (D, l, nx)) (some ((D, l, nx), ((th : Nat) : Int))) s1 ((th : Nat) : Int) 0 hX (by omega)) rfl rfl ((xo_cell (T := (B, (B, (l.map (mvRep B.length)), nx), (recH hs (D, l, nx)), (some ((D, l, nx), ((th : Nat) : Int))), s1, ((th : Nat) : Int))) hX)) rfl rfl (by rw [hR0]; exact ⟨Nat.le_of_ble_eq_true rfl, Nat.le_of_ble_eq_true rfl⟩) (Nat.le_of_ble_eq_true rfl) ⟨rfl, rfl⟩ (by rw [hR0]; exact Nat.le_of_ble_eq_true rfl) (by rw [hR0]; exact Nat.le_of_ble_eq_true rfl) (fun vw_388 w_388 nw_388 qw_388 => ?_)
                                                          obtain ⟨rfl, rfl, hX, ow_388⟩ := qw_388
                                                          have hX : xo w_388 N0 (B, (D, l, nx), [], (some ((D, l, nx), ((th : Nat) : Int))), s1, ((th : Nat) : Int)) := by rw [e_Res0 B B (l.map (mvRep B.length)) nx (recH hs (D, l, nx)) (some ((D, l, nx), ((th : Nat) : Int))) s1 ((th : Nat) : Int) rfl] at hX; exact hX
                                                          refine r_topz (((l.length : Nat) : Int)) (by rw [e_Res0 B B (l.map (mvRep B.length)) nx (recH hs (D, l, nx)) (some ((D, l, nx), ((th : Nat) : Int))) s1 ((th : Nat) : Int) rfl]) ?_
                                                          refine r_iload hb 393 dL_law_391 rfl 2 rfl ?_
                                                          refine r_icmp_ne hb 396 420 dL_law_393 rfl (by decide) (by omega) (by omega) (fun c393 => ?_) (fun c393 => ?_)
                                                          · exfalso; omega
                                                          · refine r_aload_n hb 397 dL_law_396 rfl 5 rfl ?_
                                                            refine r_callV1 (st := []) hb ho 400 dL_law_397 rfl ck_L_66 (c_X8_checksum (N0) B D l nx ([]) (some ((D, l, nx), ((th : Nat) : Int))) s1 ((th : Nat) : Int) hX hok) rfl rfl ((xo_cell (T := (B, (D, l, nx), [], (some ((D, l, nx), ((th : Nat) : Int))), s1, ((th : Nat) : Int))) hX)) rfl rfl (by rw [hR0]; exact ⟨Nat.le_of_ble_eq_true rfl, Nat.le_of_ble_eq_true rfl⟩) (Nat.le_of_ble_eq_true rfl) ⟨rfl, rfl⟩ (by rw [hR0]; exact Nat.le_of_ble_eq_true rfl) (by rw [hR0]; exact Nat.le_of_ble_eq_true rfl) (fun vw_397 w_397 nw_397 qw_397 => ?_)
                                                            obtain ⟨rfl, rfl, hX, ow_397⟩ := qw_397
                                                            refine r_lload hb 402 dL_law_400 rfl 1 rfl ?_
                                                            refine r_lcmp hb 403 dL_law_402 rfl ?_
                                                            refine r_if0_ne hb 406 420 dL_law_403 rfl (by decide) (fun c403 => ?_) (fun c403 => ?_)
                                                            · exact absurd (lg_cmp_self _) c403
                                                            · refine r_aload_n hb 407 dL_law_406 rfl 5 rfl ?_
                                                              refine r_callV1 (st := []) hb ho 410 dL_law_407 rfl ck_L_101 (c_X8_undo (N0) B D l nx ([]) (some ((D, l, nx), ((th : Nat) : Int))) s1 ((th : Nat) : Int) hX) rfl rfl ((xo_cell (T := (B, (D, l, nx), [], (some ((D, l, nx), ((th : Nat) : Int))), s1, ((th : Nat) : Int))) hX)) rfl rfl (by rw [hR0]; exact ⟨Nat.le_of_ble_eq_true rfl, Nat.le_of_ble_eq_true rfl⟩) (Nat.le_of_ble_eq_true rfl) ⟨rfl, rfl⟩ (by rw [hR0]; exact Nat.le_of_ble_eq_true rfl) (by rw [hR0]; exact Nat.le_of_ble_eq_true rfl) (fun vw_407 w_407 nw_407 qw_407 => ?_)
                                                              obtain ⟨rfl, rfl, hX, ow_407⟩ := qw_407
                                                              have hX : xo w_407 N0 (B, (D, l, nx), [], (some ((D, l, nx), ((th : Nat) : Int))), s1, ((th : Nat) : Int)) := by rw [e_UndE B D l nx ([]) (some ((D, l, nx), ((th : Nat) : Int))) s1 ((th : Nat) : Int) rfl] at hX; exact hX
                                                              refine r_topz (-1003) (by rw [e_UndE B D l nx ([]) (some ((D, l, nx), ((th : Nat) : Int))) s1 ((th : Nat) : Int) rfl]) ?_
                                                              refine r_sipush (-1003) hb 413 dL_law_410 rfl rfl ?_
                                                              refine r_icmp_ne hb 416 420 dL_law_413 rfl (by decide) (by omega) (by omega) (fun c413 => ?_) (fun c413 => ?_)
                                                              · exfalso; omega
                                                              · refine r_iconst hb 417 dL_law_416 rfl ?_
                                                                refine r_goto hb 421 dL_law_417 (by decide) ?_
                                                                exact r_lwret hS dL_law_421 (by decide) (by decide)
                        · refine r_iload hb 156 dL_law_154 rfl 1 rfl ?_
                          refine r_if_eq hb 159 196 dL_law_156 rfl (by decide) (by omega) (fun c156 => ?_) (fun c156 => ?_)
                          · exfalso; omega
                          · refine r_aload_n hb 160 dL_law_159 rfl 4 rfl ?_
                            refine r_aload_n hb 161 dL_law_160 rfl 5 rfl ?_
                            refine r_iconst hb 162 dL_law_161 rfl ?_
                            refine r_iload hb 164 dL_law_162 rfl 0 rfl ?_
                            refine r_iaddZ hb 165 (((k : Nat) : Int) + 1) dL_law_164 rfl (by omega) ?_
                            refine r_callCell hS hL 168 dL_law_165 rfl ck_L_112 (1 + k) (by omega) (by omega) (Nat.le_of_ble_eq_true rfl) (Nat.le_of_ble_eq_true rfl) (Nat.le_of_ble_eq_true rfl) (fun cy hcy => ?_)
                            refine r_iload_n hb 169 dL_law_168 rfl 2 rfl ?_
                            refine r_callS1 (st := []) hb ho 172 dL_law_169 rfl ck_L_119 (c_L_turns N0 (30 + 4 * k) (2 + (k : Int)) B D l nx hs s0 s1 ((th : Nat) : Int) cy hX hsk hq (by omega) (by omega) hcy) rfl rfl (by rw [hR0]; exact ⟨Nat.le_of_ble_eq_true rfl, Nat.le_of_ble_eq_true rfl⟩) (Nat.le_of_ble_eq_true rfl) ⟨rfl, rfl⟩ (by rw [hR0]; exact Nat.le_of_ble_eq_true rfl) (by rw [hR0]; exact Nat.le_of_ble_eq_true rfl) (fun vw_169 w_169 nw_169 qw_169 => ?_)
                            obtain ⟨rfl, rfl, ⟨⟨B, ⟨D, l, nx⟩, hs, s0, s1, thr⟩, hX, hsk, hq, hthr⟩, ow_169⟩ := qw_169
                            have hthr : thr = ((th : Nat) : Int) := hthr
                            subst hthr
                            have hok : pOk (D, l, nx) := hsk.2.1.1
                            have hnx2 : nx ≤ 30 + 4 * k + 4 := hsk.2.1.2
                            refine r_if_eq hb 175 187 dL_law_172 rfl (by decide) (by omega) (fun c172 => ?_) (fun c172 => ?_)
                            · exfalso; omega
                            · refine r_aload_n hb 176 dL_law_175 rfl 4 rfl ?_
                              refine r_iload_n hb 177 dL_law_176 rfl 2 rfl ?_
                              refine r_callS1 (st := []) hb ho 180 dL_law_177 rfl ck_L_123 (c_L_sound N0 (2 + (k : Int) + 1) B D l nx hs s0 s1 ((th : Nat) : Int) hX hok hq (by omega) (by omega)) rfl rfl (by rw [hR0]; exact ⟨Nat.le_of_ble_eq_true rfl, Nat.le_of_ble_eq_true rfl⟩) (Nat.le_of_ble_eq_true rfl) ⟨rfl, rfl⟩ (by rw [hR0]; exact Nat.le_of_ble_eq_true rfl) (by rw [hR0]; exact Nat.le_of_ble_eq_true rfl) (fun vw_177 w_177 nw_177 qw_177 => ?_)
                              obtain ⟨rfl, rfl, hX, ow_177⟩ := qw_177
                              refine r_if_eq hb 183 187 dL_law_180 rfl (by decide) (by omega) (fun c180 => ?_) (fun c180 => ?_)
                              · exfalso; omega
                              · refine r_iconst hb 184 dL_law_183 rfl ?_
                                refine r_goto hb 188 dL_law_184 (by decide) ?_
                                refine r_istore [(4, .int (iI 1)), (5, .int (iI (((k : Nat) : Int)))), (3, .int (iI (((th : Nat) : Int)))), (2, .int (iI (((c0 : Nat) : Int)))), (1, .ref N0), (0, .ref b)] hb 190 8 dL_law_188 rfl hnL (by decide) rfl ?_
                                refine r_iinc [(5, .int (iI (((k : Nat) : Int) + 1))), (4, .int (iI 1)), (3, .int (iI (((th : Nat) : Int)))), (2, .int (iI (((c0 : Nat) : Int)))), (1, .ref N0), (0, .ref b)] hb 193 8 1 dL_law_190 rfl rfl hnL (by decide) (((k : Nat) : Int) + 1) (by omega) rfl ?_
                                refine r_goto hb 147 dL_law_193 (by decide) ?_
                                refine r_lv [(5, .int (iI ((((k + 1 : Nat) : Nat) : Int)))), (4, .int (iI 1)), (3, .int (iI (((th : Nat) : Int)))), (2, .int (iI (((c0 : Nat) : Int)))), (1, .ref N0), (0, .ref b)] [0, 1, 2, 3, 4, 5] (rfl) ?_
                                exact ih_lp (14 - (k + 1)) (by omega) (k + 1) _ _ rfl (by omega) hX (hsk.up (by omega)) (hq.up (by omega)) rfl
                    refine r_lv [(5, .int (iI (((0 : Nat) : Int)))), (4, .int (iI 1)), (3, .int (iI (((th : Nat) : Int)))), (2, .int (iI (((c0 : Nat) : Int)))), (1, .ref N0), (0, .ref b)] [0, 1, 2, 3, 4, 5] (rfl) ?_
                    exact lp _ 0 _ (B1, (B1, [mkN B1 0 f (f + 3), mkN B1 1 f (f + 3)], 2), (recH (recH (recH [] ([], [], 0)) (B1, [], 0)) (B1, [mkN B1 0 f (f + 3)], 1)), none, none, ((th : Nat) : Int)) rfl (Nat.zero_le _) hX (k4.up (by omega)) hq0 rfl
