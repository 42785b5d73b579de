abbrev rm_X8_mix : Room := { frames := 0, cells := 0, slots := 0, locals := 0 }
set_option maxHeartbeats 4000000 in
set_option maxRecDepth 100000 in
theorem c_X8_mix (h : Int64) (x : Int32) {w : PW} {n : Nat}  : CtR yX8_mix cX8_mix 3 (some .long) rm_X8_mix [.long (h), .int x] w n (.long (mixL h x)) := by
  refine Ctr.of rfl (Nat.le_of_ble_eq_true rfl) fun S hS => ?_
  have hb : S.1.1 = cX8_mix := by rw [hS]; rfl
  have ho : S.1.2.1 = RX8 := by rw [hS]; rfl
  have hnL : S.1.2.2.1 = 3 := by rw [hS]; rfl
  have hR0 : S.2.1 = rm_X8_mix := by rw [hS]; rfl
  show Wp S 0 [(0, .long (h)), (2, .int x)] [] w n 0 0
  refine r_ldc2 hb ho 3 dX8_mix_0 rfl kl_X8_234 ?_
  refine r_lload_n hb 4 dX8_mix_3 rfl 0 rfl ?_
  refine r_lmul hb 5 dX8_mix_4 rfl ?_
  refine r_iload_n hb 6 dX8_mix_5 rfl 1 rfl ?_
  refine r_i2l hb 7 dX8_mix_6 rfl ?_
  refine r_ladd hb 8 dX8_mix_7 rfl ?_
  refine r_lret hS dX8_mix_8 rfl (Nat.zero_le _) (Nat.zero_le _) ?_
  exact ⟨_, rfl, rfl, rfl, rfl⟩

abbrev rm_X8_mixText : Room := { frames := 1, cells := 0, slots := 0, locals := 22 }
set_option maxHeartbeats 4000000 in
set_option maxRecDepth 100000 in
theorem c_X8_mixText (h0 : Int64) (t R : Nat) (L : List Int32) {w : PW} {n : Nat} (hT : tx w t R L) (hR : R ≤ 200) : CtR yX8_mixText cX8_mixText 6 (some .long) rm_X8_mixText [.long (h0), .ref t] w n (.long (mixT h0 L L.length)) := by
  have tc := hT.1
  have tl := hT.2.1
  refine Ctr.of rfl (Nat.le_of_ble_eq_true rfl) fun S hS => ?_
  have hb : S.1.1 = cX8_mixText := by rw [hS]; rfl
  have ho : S.1.2.1 = RX8 := by rw [hS]; rfl
  have hnL : S.1.2.2.1 = 6 := by rw [hS]; rfl
  have hR0 : S.2.1 = rm_X8_mixText := by rw [hS]; rfl
  show Wp S 0 [(0, .long (h0)), (2, .ref t)] [] w n 0 0
  refine r_lload_n hb 1 dX8_mixText_0 rfl 0 rfl ?_
  refine r_lstore_n [(3, .long (h0)), (0, .long (h0)), (2, .ref t)] hb 2 6 dX8_mixText_1 rfl rfl hnL (by decide) rfl ?_
  refine r_iconst hb 3 dX8_mixText_2 rfl ?_
  refine r_istore [(5, .int (iI 0)), (3, .long (h0)), (0, .long (h0)), (2, .ref t)] hb 5 6 dX8_mixText_3 rfl hnL (by decide) rfl ?_
  have lp : ∀ (d : Nat) (i : Nat), L.length - i = d → (i ≤ L.length) → Wp S 5 [(5, .int (iI (((i : Nat) : Int)))), (3, .long (mixT h0 L i)), (0, .long (h0)), (2, .ref t)] [] w n 0 0 := by
    intro d
    induction d using Nat.strongRecOn with
    | _ d ih_lp =>
      intro i hd_lp hi
      refine r_iload hb 7 dX8_mixText_5 rfl 0 rfl ?_
      refine r_aload_n hb 8 dX8_mixText_7 rfl 3 rfl ?_
      refine r_get hb ho 11 dX8_mixText_8 rfl lk_X8_60 pf_X7_1 tc rfl ?_
      refine r_icmp_ge hb 14 31 dX8_mixText_11 rfl (by decide) (by omega) (by omega) (fun c11 => ?_) (fun c11 => ?_)
      · refine r_lload_n hb 32 dX8_mixText_31 rfl 1 rfl ?_
        refine r_lret hS dX8_mixText_32 rfl (Nat.zero_le _) (Nat.zero_le _) ?_
        rw [show i = L.length by omega]
        exact ⟨_, rfl, rfl, rfl, rfl⟩
      · refine r_lload_n hb 15 dX8_mixText_14 rfl 1 rfl ?_
        refine r_aload_n hb 16 dX8_mixText_15 rfl 3 rfl ?_
        refine r_iload hb 18 dX8_mixText_16 rfl 0 rfl ?_
        refine r_callVR (st := [.long (mixT h0 L i)]) hb ho 21 dX8_mixText_18 rfl ck_X8_173 (c_X7_at (t) R L (((i : Nat) : Int)) hT (hR) (by omega)) rfl rfl (tc) rfl rfl (by rw [hR0]; exact ⟨Nat.le_of_ble_eq_true rfl, Nat.le_of_ble_eq_true rfl⟩) (Nat.le_of_ble_eq_true rfl) ⟨rfl, rfl⟩ (by rw [hR0]; exact Nat.zero_le _) (by rw [hR0]; exact Nat.zero_le _) ?_
        refine r_topv (.int (L.getD i 0)) (by rw [textAt_nat (by omega)]) ?_
        refine r_callSR (st := []) hb ho 24 dX8_mixText_21 rfl ck_X8_222 (c_X8_mix (mixT h0 L i) (L.getD i 0)) rfl rfl (by rw [hR0]; exact ⟨Nat.le_of_ble_eq_true rfl, Nat.le_of_ble_eq_true rfl⟩) (Nat.le_of_ble_eq_true rfl) ⟨rfl, rfl⟩ (by rw [hR0]; exact Nat.zero_le _) (by rw [hR0]; exact Nat.zero_le _) ?_
        refine r_lstore_n [(3, .long (mixL (mixT h0 L i) (L.getD i 0))), (5, .int (iI (((i : Nat) : Int)))), (0, .long (h0)), (2, .ref t)] hb 25 6 dX8_mixText_24 rfl rfl hnL (by decide) rfl ?_
        refine r_iinc [(5, .int (iI (((i : Nat) : Int) + 1))), (3, .long (mixL (mixT h0 L i) (L.getD i 0))), (0, .long (h0)), (2, .ref t)] hb 28 6 1 dX8_mixText_25 rfl rfl hnL (by decide) (((i : Nat) : Int) + 1) (by omega) rfl ?_
        refine r_goto hb 5 dX8_mixText_28 (by decide) ?_
        refine r_lv [(5, .int (iI (((i + 1 : Nat)) : Int))), (3, .long (mixT h0 L (i + 1))), (0, .long h0), (2, .ref t)] [0, 1, 2, 3] rfl ?_
        exact ih_lp (L.length - (i + 1)) (by omega) (i + 1) rfl (by omega)
  refine r_lv [(5, .int (iI (((0 : Nat)) : Int))), (3, .long (mixT h0 L 0)), (0, .long h0), (2, .ref t)] [0, 1, 2, 3] rfl ?_
  exact lp _ 0 rfl (Nat.zero_le _)

abbrev rm_X8_mixNote : Room := { frames := 5, cells := 0, slots := 0, locals := 123 }
set_option maxHeartbeats 4000000 in
set_option maxRecDepth 100000 in
theorem c_X8_mixNote (a b c nx : Nat) (k0 : Int64) (x : Nt) (D : List Int32) (b0 b1 b2 eh thr : Int) (ri : Nat → Nat) {w : PW} {n : Nat} (xc : w a = some (eO 8 [.ref (a + 1), .ref (a + 3), .ref (a + 77), .ref (a + 523), .ref (a + 598), .ref (a + 673), .ref (a + 675), .int (iI thr)])) (gc : w (a + 3) = some (eO 4 [.ref (a + 3 + 1), .ref (a + 3 + 3), .int (iI ((c : Nat) : Int)), .int (iI ((nx : Nat) : Int))])) (gT : tx w (a + 3 + 1) 120 D) (hN : nt w b x) (xF : fd w (a + 673) b0 b1 b2 eh) (xR : fr w (a + 673) 0 ri) (hx : nOk x) (hbr : a + 3 ≤ b ∧ b + 7 ≤ a + 77) : Ct1 yX8_mixNote cX8_mixNote 6 (some .long) rm_X8_mixNote [.ref a, .long (k0), .ref b] w n (fun v w1 n1 => v = .long (mixN k0 D x) ∧ n = n1 ∧ (∃ b0 b1 b2 eh : Int, fd w1 (a + 673) b0 b1 b2 eh) ∧ (∃ r, fr w1 (a + 673) 0 r) ∧ off w w1 (a + 673) (a + 675)) := by
  obtain ⟨h0, tP, tQ, tS, hnum, hB, hE⟩ := id hN
  have fc := xF
  refine Ctr.of rfl (Nat.le_of_ble_eq_true rfl) fun S hS => ?_
  have hb : S.1.1 = cX8_mixNote := by rw [hS]; rfl
  have ho : S.1.2.1 = RX8 := by rw [hS]; rfl
  have hnL : S.1.2.2.1 = 6 := by rw [hS]; rfl
  have hR0 : S.2.1 = rm_X8_mixNote := by rw [hS]; rfl
  show Wp S 0 [(0, .ref a), (1, .long (k0)), (3, .ref b)] [] w n 0 0
  refine r_lload_n hb 1 dX8_mixNote_0 rfl 1 rfl ?_
  refine r_aload_n hb 2 dX8_mixNote_1 rfl 2 rfl ?_
  refine r_get hb ho 5 dX8_mixNote_2 rfl lk_X8_180 pf_X3_3 h0 rfl ?_
  refine r_callSR (st := []) hb ho 8 dX8_mixNote_5 rfl ck_X8_222 (c_X8_mix k0 (iI (((nNum x : Nat) : Int)))) rfl rfl (by rw [hR0]; exact ⟨Nat.le_of_ble_eq_true rfl, Nat.le_of_ble_eq_true rfl⟩) (Nat.le_of_ble_eq_true rfl) ⟨rfl, rfl⟩ (by rw [hR0]; exact Nat.zero_le _) (by rw [hR0]; exact Nat.zero_le _) ?_
  refine r_lstore [(4, .long (mixL k0 (iI (((nNum x : Nat) : Int))))), (0, .ref a), (1, .long (k0)), (3, .ref b)] hb 10 6 dX8_mixNote_8 rfl hnL (by decide) rfl ?_
  refine r_lload hb 12 dX8_mixNote_10 rfl 0 rfl ?_
  refine r_aload_n hb 13 dX8_mixNote_12 rfl 3 rfl ?_
  refine r_get hb ho 16 dX8_mixNote_13 rfl lk_X8_113 pf_X3_4 h0 rfl ?_
  refine r_callSR (st := []) hb ho 19 dX8_mixNote_16 rfl ck_X8_222 (c_X8_mix (mixL k0 (iI (((nNum x : Nat) : Int)))) (bI (nK x))) rfl rfl (by rw [hR0]; exact ⟨Nat.le_of_ble_eq_true rfl, Nat.le_of_ble_eq_true rfl⟩) (Nat.le_of_ble_eq_true rfl) ⟨rfl, rfl⟩ (by rw [hR0]; exact Nat.zero_le _) (by rw [hR0]; exact Nat.zero_le _) ?_
  refine r_lstore [(4, .long (mixL (mixL k0 (iI (((nNum x : Nat) : Int)))) (bI (nK x)))), (0, .ref a), (1, .long (k0)), (3, .ref b)] hb 21 6 dX8_mixNote_19 rfl hnL (by decide) rfl ?_
  refine r_lload hb 23 dX8_mixNote_21 rfl 0 rfl ?_
  refine r_aload_n hb 24 dX8_mixNote_23 rfl 3 rfl ?_
  refine r_get hb ho 27 dX8_mixNote_24 rfl lk_X8_121 pf_X3_5 h0 rfl ?_
  refine r_callSR (st := []) hb ho 30 dX8_mixNote_27 rfl ck_X8_222 (c_X8_mix (mixL (mixL k0 (iI (((nNum x : Nat) : Int)))) (bI (nK x))) (iI (((nB x : Nat) : Int)))) rfl rfl (by rw [hR0]; exact ⟨Nat.le_of_ble_eq_true rfl, Nat.le_of_ble_eq_true rfl⟩) (Nat.le_of_ble_eq_true rfl) ⟨rfl, rfl⟩ (by rw [hR0]; exact Nat.zero_le _) (by rw [hR0]; exact Nat.zero_le _) ?_
  refine r_lstore [(4, .long (mixL (mixL (mixL k0 (iI (((nNum x : Nat) : Int)))) (bI (nK x))) (iI (((nB x : Nat) : Int))))), (0, .ref a), (1, .long (k0)), (3, .ref b)] hb 32 6 dX8_mixNote_30 rfl hnL (by decide) rfl ?_
  refine r_lload hb 34 dX8_mixNote_32 rfl 0 rfl ?_
  refine r_aload_n hb 35 dX8_mixNote_34 rfl 3 rfl ?_
  refine r_get hb ho 38 dX8_mixNote_35 rfl lk_X8_118 pf_X3_6 h0 rfl ?_
  refine r_callSR (st := []) hb ho 41 dX8_mixNote_38 rfl ck_X8_222 (c_X8_mix (mixL (mixL (mixL k0 (iI (((nNum x : Nat) : Int)))) (bI (nK x))) (iI (((nB x : Nat) : Int)))) (iI (((nE x : Nat) : Int)))) rfl rfl (by rw [hR0]; exact ⟨Nat.le_of_ble_eq_true rfl, Nat.le_of_ble_eq_true rfl⟩) (Nat.le_of_ble_eq_true rfl) ⟨rfl, rfl⟩ (by rw [hR0]; exact Nat.zero_le _) (by rw [hR0]; exact Nat.zero_le _) ?_
  refine r_lstore [(4, .long (mixL (mixL (mixL (mixL k0 (iI (((nNum x : Nat) : Int)))) (bI (nK x))) (iI (((nB x : Nat) : Int)))) (iI (((nE x : Nat) : Int))))), (0, .ref a), (1, .long (k0)), (3, .ref b)] hb 43 6 dX8_mixNote_41 rfl hnL (by decide) rfl ?_
  refine r_lload hb 45 dX8_mixNote_43 rfl 0 rfl ?_
  refine r_aload_n hb 46 dX8_mixNote_45 rfl 3 rfl ?_
  refine r_get hb ho 49 dX8_mixNote_46 rfl lk_X8_183 pf_X3_7 h0 rfl ?_
  refine r_callSR (st := []) hb ho 52 dX8_mixNote_49 rfl ck_X8_222 (c_X8_mix (mixL (mixL (mixL (mixL k0 (iI (((nNum x : Nat) : Int)))) (bI (nK x))) (iI (((nB x : Nat) : Int)))) (iI (((nE x : Nat) : Int)))) (nW x)) rfl rfl (by rw [hR0]; exact ⟨Nat.le_of_ble_eq_true rfl, Nat.le_of_ble_eq_true rfl⟩) (Nat.le_of_ble_eq_true rfl) ⟨rfl, rfl⟩ (by rw [hR0]; exact Nat.zero_le _) (by rw [hR0]; exact Nat.zero_le _) ?_
  refine r_lstore [(4, .long (mixL (mixL (mixL (mixL (mixL k0 (iI (((nNum x : Nat) : Int)))) (bI (nK x))) (iI (((nB x : Nat) : Int)))) (iI (((nE x : Nat) : Int)))) (nW x))), (0, .ref a), (1, .long (k0)), (3, .ref b)] hb 54 6 dX8_mixNote_52 rfl hnL (by decide) rfl ?_
  refine r_lload hb 56 dX8_mixNote_54 rfl 0 rfl ?_
  refine r_aload_n hb 57 dX8_mixNote_56 rfl 3 rfl ?_
  refine r_get hb ho 60 dX8_mixNote_57 rfl lk_X8_186 pf_X3_0 h0 rfl ?_
  refine r_callSR (st := []) hb ho 63 dX8_mixNote_60 rfl ck_X8_226 (c_X8_mixText (mixL (mixL (mixL (mixL (mixL k0 (iI (((nNum x : Nat) : Int)))) (bI (nK x))) (iI (((nB x : Nat) : Int)))) (iI (((nE x : Nat) : Int)))) (nW x)) (b + 1) 6 (nP x) tP (by omega)) rfl rfl (by rw [hR0]; exact ⟨Nat.le_of_ble_eq_true rfl, Nat.le_of_ble_eq_true rfl⟩) (Nat.le_of_ble_eq_true rfl) ⟨rfl, rfl⟩ (by rw [hR0]; exact Nat.zero_le _) (by rw [hR0]; exact Nat.zero_le _) ?_
  refine r_lstore [(4, .long (mixT (mixL (mixL (mixL (mixL (mixL k0 (iI (((nNum x : Nat) : Int)))) (bI (nK x))) (iI (((nB x : Nat) : Int)))) (iI (((nE x : Nat) : Int)))) (nW x)) (nP x) (nP x).length)), (0, .ref a), (1, .long (k0)), (3, .ref b)] hb 65 6 dX8_mixNote_63 rfl hnL (by decide) rfl ?_
  refine r_lload hb 67 dX8_mixNote_65 rfl 0 rfl ?_
  refine r_aload_n hb 68 dX8_mixNote_67 rfl 3 rfl ?_
  refine r_get hb ho 71 dX8_mixNote_68 rfl lk_X8_127 pf_X3_1 h0 rfl ?_
  refine r_callSR (st := []) hb ho 74 dX8_mixNote_71 rfl ck_X8_226 (c_X8_mixText (mixT (mixL (mixL (mixL (mixL (mixL k0 (iI (((nNum x : Nat) : Int)))) (bI (nK x))) (iI (((nB x : Nat) : Int)))) (iI (((nE x : Nat) : Int)))) (nW x)) (nP x) (nP x).length) (b + 3) 16 (nQ x) tQ (by omega)) rfl rfl (by rw [hR0]; exact ⟨Nat.le_of_ble_eq_true rfl, Nat.le_of_ble_eq_true rfl⟩) (Nat.le_of_ble_eq_true rfl) ⟨rfl, rfl⟩ (by rw [hR0]; exact Nat.zero_le _) (by rw [hR0]; exact Nat.zero_le _) ?_
  refine r_lstore [(4, .long (mixT (mixT (mixL (mixL (mixL (mixL (mixL k0 (iI (((nNum x : Nat) : Int)))) (bI (nK x))) (iI (((nB x : Nat) : Int)))) (iI (((nE x : Nat) : Int)))) (nW x)) (nP x) (nP x).length) (nQ x) (nQ x).length)), (0, .ref a), (1, .long (k0)), (3, .ref b)] hb 76 6 dX8_mixNote_74 rfl hnL (by decide) rfl ?_
  refine r_lload hb 78 dX8_mixNote_76 rfl 0 rfl ?_
  refine r_aload_n hb 79 dX8_mixNote_78 rfl 3 rfl ?_
  refine r_get hb ho 82 dX8_mixNote_79 rfl lk_X8_189 pf_X3_2 h0 rfl ?_
  refine r_callSR (st := []) hb ho 85 dX8_mixNote_82 rfl ck_X8_226 (c_X8_mixText (mixT (mixT (mixL (mixL (mixL (mixL (mixL k0 (iI (((nNum x : Nat) : Int)))) (bI (nK x))) (iI (((nB x : Nat) : Int)))) (iI (((nE x : Nat) : Int)))) (nW x)) (nP x) (nP x).length) (nQ x) (nQ x).length) (b + 5) 6 (nS x) tS (by omega)) rfl rfl (by rw [hR0]; exact ⟨Nat.le_of_ble_eq_true rfl, Nat.le_of_ble_eq_true rfl⟩) (Nat.le_of_ble_eq_true rfl) ⟨rfl, rfl⟩ (by rw [hR0]; exact Nat.zero_le _) (by rw [hR0]; exact Nat.zero_le _) ?_
  refine r_lstore [(4, .long (mixT (mixT (mixT (mixL (mixL (mixL (mixL (mixL k0 (iI (((nNum x : Nat) : Int)))) (bI (nK x))) (iI (((nB x : Nat) : Int)))) (iI (((nE x : Nat) : Int)))) (nW x)) (nP x) (nP x).length) (nQ x) (nQ x).length) (nS x) (nS x).length)), (0, .ref a), (1, .long (k0)), (3, .ref b)] hb 87 6 dX8_mixNote_85 rfl hnL (by decide) rfl ?_
  refine r_aload_n hb 88 dX8_mixNote_87 rfl 1 rfl ?_
  refine r_get hb ho 91 dX8_mixNote_88 rfl lk_X8_45 pf_X8_5 xc rfl ?_
  refine r_aload_n hb 92 dX8_mixNote_91 rfl 3 rfl ?_
  refine r_aload_n hb 93 dX8_mixNote_92 rfl 1 rfl ?_
  refine r_get hb ho 96 dX8_mixNote_93 rfl lk_X8_21 pf_X8_1 xc rfl ?_
  refine r_get hb ho 99 dX8_mixNote_96 rfl lk_X8_73 pf_X4_0 gc rfl ?_
  refine r_callV0 (st := []) hb ho 102 dX8_mixNote_99 rfl ck_X8_130 (c_X1_search b (a + 3 + 1) x D (a + 673) 0 ri b0 b1 b2 eh xF xR hN gT (by omega) (by omega) hx) rfl rfl (fc) rfl rfl (by rw [hR0]; exact ⟨Nat.le_of_ble_eq_true rfl, Nat.le_of_ble_eq_true rfl⟩) (Nat.le_of_ble_eq_true rfl) ⟨rfl, rfl⟩ (by rw [hR0]; exact Nat.zero_le _) (by rw [hR0]; exact Nat.zero_le _) (fun w_99 nw_99 qw_99 => ?_)
  obtain ⟨rfl, ⟨e2, xF⟩, ⟨r2, xR⟩, ow_99⟩ := qw_99
  have fc := xF
  have xc : w_99 a = some (eO 8 [.ref (a + 1), .ref (a + 3), .ref (a + 77), .ref (a + 523), .ref (a + 598), .ref (a + 673), .ref (a + 675), .int (iI (thr))]) := (ow_99 _ (by omega)).trans xc
  have gc : w_99 (a + 3) = some (eO 4 [.ref (a + 3 + 1), .ref (a + 3 + 3), .int (iI (((c : Nat) : Int))), .int (iI (((nx : Nat) : Int)))]) := (ow_99 _ (by omega)).trans gc
  have h0 : w_99 b = some (eO 3 [.ref (b + 1), .ref (b + 3), .ref (b + 5), .int (iI (((nNum x : Nat) : Int))), .int (bI (nK x)), .int (iI (((nB x : Nat) : Int))), .int (iI (((nE x : Nat) : Int))), .int (nW x)]) := (ow_99 _ (by omega)).trans h0
  refine r_lload hb 104 dX8_mixNote_102 rfl 0 rfl ?_
  refine r_aload_n hb 105 dX8_mixNote_104 rfl 1 rfl ?_
  refine r_get hb ho 108 dX8_mixNote_105 rfl lk_X8_45 pf_X8_5 xc rfl ?_
  refine r_get hb ho 111 dX8_mixNote_108 rfl lk_X8_134 pf_X1_1 fc rfl ?_
  refine r_callSR (st := []) hb ho 114 dX8_mixNote_111 rfl ck_X8_222 (c_X8_mix (mixT (mixT (mixT (mixL (mixL (mixL (mixL (mixL k0 (iI (((nNum x : Nat) : Int)))) (bI (nK x))) (iI (((nB x : Nat) : Int)))) (iI (((nE x : Nat) : Int)))) (nW x)) (nP x) (nP x).length) (nQ x) (nQ x).length) (nS x) (nS x).length) (iI ((gB0 (fB x D))))) rfl rfl (by rw [hR0]; exact ⟨Nat.le_of_ble_eq_true rfl, Nat.le_of_ble_eq_true rfl⟩) (Nat.le_of_ble_eq_true rfl) ⟨rfl, rfl⟩ (by rw [hR0]; exact Nat.zero_le _) (by rw [hR0]; exact Nat.zero_le _) ?_
  refine r_lstore [(4, .long (mixL (mixT (mixT (mixT (mixL (mixL (mixL (mixL (mixL k0 (iI (((nNum x : Nat) : Int)))) (bI (nK x))) (iI (((nB x : Nat) : Int)))) (iI (((nE x : Nat) : Int)))) (nW x)) (nP x) (nP x).length) (nQ x) (nQ x).length) (nS x) (nS x).length) (iI ((gB0 (fB x D)))))), (0, .ref a), (1, .long (k0)), (3, .ref b)] hb 116 6 dX8_mixNote_114 rfl hnL (by decide) rfl ?_
  refine r_lload hb 118 dX8_mixNote_116 rfl 0 rfl ?_
  refine r_aload_n hb 119 dX8_mixNote_118 rfl 1 rfl ?_
  refine r_get hb ho 122 dX8_mixNote_119 rfl lk_X8_45 pf_X8_5 xc rfl ?_
  refine r_get hb ho 125 dX8_mixNote_122 rfl lk_X8_137 pf_X1_2 fc rfl ?_
  refine r_callSR (st := []) hb ho 128 dX8_mixNote_125 rfl ck_X8_222 (c_X8_mix (mixL (mixT (mixT (mixT (mixL (mixL (mixL (mixL (mixL k0 (iI (((nNum x : Nat) : Int)))) (bI (nK x))) (iI (((nB x : Nat) : Int)))) (iI (((nE x : Nat) : Int)))) (nW x)) (nP x) (nP x).length) (nQ x) (nQ x).length) (nS x) (nS x).length) (iI ((gB0 (fB x D))))) (iI ((gB1 (fB x D))))) rfl rfl (by rw [hR0]; exact ⟨Nat.le_of_ble_eq_true rfl, Nat.le_of_ble_eq_true rfl⟩) (Nat.le_of_ble_eq_true rfl) ⟨rfl, rfl⟩ (by rw [hR0]; exact Nat.zero_le _) (by rw [hR0]; exact Nat.zero_le _) ?_
  refine r_lstore [(4, .long (mixL (mixL (mixT (mixT (mixT (mixL (mixL (mixL (mixL (mixL k0 (iI (((nNum x : Nat) : Int)))) (bI (nK x))) (iI (((nB x : Nat) : Int)))) (iI (((nE x : Nat) : Int)))) (nW x)) (nP x) (nP x).length) (nQ x) (nQ x).length) (nS x) (nS x).length) (iI ((gB0 (fB x D))))) (iI ((gB1 (fB x D)))))), (0, .ref a), (1, .long (k0)), (3, .ref b)] hb 130 6 dX8_mixNote_128 rfl hnL (by decide) rfl ?_
  refine r_lload hb 132 dX8_mixNote_130 rfl 0 rfl ?_
  refine r_aload_n hb 133 dX8_mixNote_132 rfl 1 rfl ?_
  refine r_get hb ho 136 dX8_mixNote_133 rfl lk_X8_45 pf_X8_5 xc rfl ?_
  refine r_get hb ho 139 dX8_mixNote_136 rfl lk_X8_140 pf_X1_3 fc rfl ?_
  refine r_callSR (st := []) hb ho 142 dX8_mixNote_139 rfl ck_X8_222 (c_X8_mix (mixL (mixL (mixT (mixT (mixT (mixL (mixL (mixL (mixL (mixL k0 (iI (((nNum x : Nat) : Int)))) (bI (nK x))) (iI (((nB x : Nat) : Int)))) (iI (((nE x : Nat) : Int)))) (nW x)) (nP x) (nP x).length) (nQ x) (nQ x).length) (nS x) (nS x).length) (iI ((gB0 (fB x D))))) (iI ((gB1 (fB x D))))) (iI ((gB2 (fB x D))))) rfl rfl (by rw [hR0]; exact ⟨Nat.le_of_ble_eq_true rfl, Nat.le_of_ble_eq_true rfl⟩) (Nat.le_of_ble_eq_true rfl) ⟨rfl, rfl⟩ (by rw [hR0]; exact Nat.zero_le _) (by rw [hR0]; exact Nat.zero_le _) ?_
  refine r_lret hS dX8_mixNote_142 rfl (Nat.zero_le _) (Nat.zero_le _) ?_
  exact ⟨_, rfl, rfl, rfl, ⟨_, _, _, _, xF⟩, ⟨_, xR⟩, ow_99⟩

abbrev rm_X8_checksum : Room := { frames := 6, cells := 0, slots := 0, locals := 148 }
set_option maxHeartbeats 4000000 in
set_option maxRecDepth 100000 in
theorem c_X8_checksum (a : Nat) (B D : List Int32) (l : List Nt) (nx : Nat) (hs : List Pg) (s0 s1 : Option (Pg × Int)) (thr : Int) {w : PW} {n : Nat} (hX : xoE w a B D l nx hs s0 s1 thr) (hok : pOk (D, l, nx)) : Ct1 yX8_checksum cX8_checksum 4 (some .long) rm_X8_checksum [.ref a] w n (fun v w1 n1 => v = .long (oSum D l) ∧ n = n1 ∧ xo w1 a (B, (D, l, nx), hs, s0, s1, thr) ∧ off w w1 a (a + 729)) := by
  obtain ⟨xc, xB, xP, xH, xS0, xS1, ⟨b0, b1, b2, eh, xF⟩, ⟨ri, xR⟩, ⟨pc0, oh0, ch0, xL, xLc⟩, xA⟩ := id hX
  have bc := xB.1
  have bl := xB.2.1
  obtain ⟨h, pa, xs, hG, hx⟩ := id xP
  obtain ⟨gc, gT, gcl, gnx, ⟨ga, gh⟩, ⟨gs1, gs2⟩, gN⟩ := id hG
  have gd := gT.1
  have gdl := gT.2.1
  obtain ⟨ph, qa, P, hO0, hhx⟩ := id xH
  have hc := hO0.1
  have hcl := hO0.2.2.2.2.2
  have fc := xF
  have lc := xL.1
  obtain ⟨p0, t0, s0c, s0p, s0e⟩ := id xS0
  obtain ⟨p1, t1, s1c, s1p, s1e⟩ := id xS1
  refine Ctr.of rfl (Nat.le_of_ble_eq_true rfl) fun S hS => ?_
  have hb : S.1.1 = cX8_checksum := by rw [hS]; rfl
  have ho : S.1.2.1 = RX8 := by rw [hS]; rfl
  have hnL : S.1.2.2.1 = 4 := by rw [hS]; rfl
  have hR0 : S.2.1 = rm_X8_checksum := by rw [hS]; rfl
  show Wp S 0 [(0, .ref a)] [] w n 0 0
  refine r_ldc2 hb ho 3 dX8_checksum_0 rfl kl_X8_220 ?_
  refine r_aload_n hb 4 dX8_checksum_3 rfl 0 rfl ?_
  refine r_get hb ho 7 dX8_checksum_4 rfl lk_X8_21 pf_X8_1 xc rfl ?_
  refine r_get hb ho 10 dX8_checksum_7 rfl lk_X8_73 pf_X4_0 gc rfl ?_
  refine r_get hb ho 13 dX8_checksum_10 rfl lk_X8_60 pf_X7_1 gd rfl ?_
  refine r_callSR (st := []) hb ho 16 dX8_checksum_13 rfl ck_X8_222 (c_X8_mix (61 : Int64) (iI (((D.length : Nat) : Int)))) rfl rfl (by rw [hR0]; exact ⟨Nat.le_of_ble_eq_true rfl, Nat.le_of_ble_eq_true rfl⟩) (Nat.le_of_ble_eq_true rfl) ⟨rfl, rfl⟩ (by rw [hR0]; exact Nat.zero_le _) (by rw [hR0]; exact Nat.zero_le _) ?_
  refine r_lstore_n [(1, .long (mixL (61 : Int64) (iI (((D.length : Nat) : Int))))), (0, .ref a)] hb 17 4 dX8_checksum_16 rfl rfl hnL (by decide) rfl ?_
  refine r_lload_n hb 18 dX8_checksum_17 rfl 0 rfl ?_
  refine r_aload_n hb 19 dX8_checksum_18 rfl 1 rfl ?_
  refine r_get hb ho 22 dX8_checksum_19 rfl lk_X8_21 pf_X8_1 xc rfl ?_
  refine r_get hb ho 25 dX8_checksum_22 rfl lk_X8_73 pf_X4_0 gc rfl ?_
  refine r_callSR (st := []) hb ho 28 dX8_checksum_25 rfl ck_X8_226 (c_X8_mixText (mixL (61 : Int64) (iI (((D.length : Nat) : Int)))) (a + 3 + 1) 120 D gT (by omega)) rfl rfl (by rw [hR0]; exact ⟨Nat.le_of_ble_eq_true rfl, Nat.le_of_ble_eq_true rfl⟩) (Nat.le_of_ble_eq_true rfl) ⟨rfl, rfl⟩ (by rw [hR0]; exact Nat.zero_le _) (by rw [hR0]; exact Nat.zero_le _) ?_
  refine r_lstore_n [(1, .long (mixT (mixL (61 : Int64) (iI (((D.length : Nat) : Int)))) D D.length)), (0, .ref a)] hb 29 4 dX8_checksum_28 rfl rfl hnL (by decide) rfl ?_
  refine r_lload_n hb 30 dX8_checksum_29 rfl 0 rfl ?_
  refine r_aload_n hb 31 dX8_checksum_30 rfl 1 rfl ?_
  refine r_get hb ho 34 dX8_checksum_31 rfl lk_X8_21 pf_X8_1 xc rfl ?_
  refine r_get hb ho 37 dX8_checksum_34 rfl lk_X8_96 pf_X4_2 gc rfl ?_
  refine r_callSR (st := []) hb ho 40 dX8_checksum_37 rfl ck_X8_222 (c_X8_mix (mixT (mixL (61 : Int64) (iI (((D.length : Nat) : Int)))) D D.length) (iI (((l.length : Nat) : Int)))) rfl rfl (by rw [hR0]; exact ⟨Nat.le_of_ble_eq_true rfl, Nat.le_of_ble_eq_true rfl⟩) (Nat.le_of_ble_eq_true rfl) ⟨rfl, rfl⟩ (by rw [hR0]; exact Nat.zero_le _) (by rw [hR0]; exact Nat.zero_le _) ?_
  refine r_lstore_n [(1, .long (mixL (mixT (mixL (61 : Int64) (iI (((D.length : Nat) : Int)))) D D.length) (iI (((l.length : Nat) : Int))))), (0, .ref a)] hb 41 4 dX8_checksum_40 rfl rfl hnL (by decide) rfl ?_
  refine r_iconst hb 42 dX8_checksum_41 rfl ?_
  refine r_istore_n [(3, .int (iI 0)), (1, .long (mixL (mixT (mixL (61 : Int64) (iI (((D.length : Nat) : Int)))) D D.length) (iI (((l.length : Nat) : Int))))), (0, .ref a)] hb 43 4 dX8_checksum_42 rfl rfl hnL (by decide) rfl ?_
  have lp : ∀ (d : Nat) (i : Nat) (wi : PW) (b0 b1 b2 eh : Int) (ri : Nat → Nat), l.length - i = d → (i ≤ l.length) → (wi a = some (eO 8 [.ref (a + 1), .ref (a + 3), .ref (a + 77), .ref (a + 523), .ref (a + 598), .ref (a + 673), .ref (a + 675), .int (iI thr)])) → (tx wi (a + 1) 40 B) → (pg wi (a + 3) D l nx) → (hst wi (a + 77) hs) → (slt wi (a + 523) s0) → (slt wi (a + 598) s1) → (fd wi (a + 673) b0 b1 b2 eh) → (fr wi (a + 673) 0 ri) → (plo wi (a + 675) pc0 oh0 ch0) → (chA wi (a + 675)) → (pgo wi (a + 3) D h pa xs l.length nx) → (off w wi a (a + 729)) → Wp S 43 [(3, .int (iI (((i : Nat) : Int)))), (1, .long (mixP (mixL (mixT (mixL (61 : Int64) (iI ((D.length : Nat) : Int))) D D.length) (iI ((l.length : Nat) : Int))) D l i)), (0, .ref a)] [] wi n 0 0 := by
    intro d
    induction d using Nat.strongRecOn with
    | _ d ih_lp =>
      intro i wi b0 b1 b2 eh ri hd_lp hi xc xB xP xH xS0 xS1 xF xR xL xA hG hO
      obtain ⟨gc, gT, gcl, gnx, ⟨ga, gh⟩, ⟨gs1, gs2⟩, gN⟩ := id hG
      have gd := gT.1
      have gdl := gT.2.1
      refine r_iload_n hb 44 dX8_checksum_43 rfl 0 rfl ?_
      refine r_aload_n hb 45 dX8_checksum_44 rfl 2 rfl ?_
      refine r_get hb ho 48 dX8_checksum_45 rfl lk_X8_21 pf_X8_1 xc rfl ?_
      refine r_get hb ho 51 dX8_checksum_48 rfl lk_X8_96 pf_X4_2 gc rfl ?_
      refine r_icmp_ge hb 54 87 dX8_checksum_51 rfl (by decide) (by omega) (by omega) (fun c51 => ?_) (fun c51 => ?_)
      · refine r_lload_n hb 88 dX8_checksum_87 rfl 1 rfl ?_
        refine r_lret hS dX8_checksum_88 rfl (Nat.zero_le _) (Nat.zero_le _) ?_
        rw [show i = l.length by omega]
        exact ⟨_, rfl, rfl, rfl, ⟨xc, xB, xP, xH, xS0, xS1, ⟨_, _, _, _, xF⟩, ⟨_, xR⟩, ⟨_, _, _, xL, xLc⟩, xA⟩, hO⟩
      · refine r_iload_n hb 55 dX8_checksum_54 rfl 0 rfl ?_
        refine r_aload_n hb 56 dX8_checksum_55 rfl 2 rfl ?_
        refine r_get hb ho 59 dX8_checksum_56 rfl lk_X8_21 pf_X8_1 xc rfl ?_
        refine r_get hb ho 62 dX8_checksum_59 rfl lk_X8_176 pf_X4_1 gc rfl ?_
        refine r_alen hb 63 dX8_checksum_62 rfl ga (by decide) 10 rfl ?_
        refine r_icmp_ge hb 66 87 dX8_checksum_63 rfl (by decide) (by omega) (by omega) (fun c63 => ?_) (fun c63 => ?_)
        · exfalso; omega
        · refine r_aload_n hb 67 dX8_checksum_66 rfl 2 rfl ?_
          refine r_lload_n hb 68 dX8_checksum_67 rfl 1 rfl ?_
          refine r_aload_n hb 69 dX8_checksum_68 rfl 2 rfl ?_
          refine r_get hb ho 72 dX8_checksum_69 rfl lk_X8_21 pf_X8_1 xc rfl ?_
          refine r_get hb ho 75 dX8_checksum_72 rfl lk_X8_176 pf_X4_1 gc rfl ?_
          refine r_iload_n hb 76 dX8_checksum_75 rfl 0 rfl ?_
          refine r_aald hb 77 dX8_checksum_76 rfl ga (by decide) i (by omega) (⟨by omega, by omega⟩) (pa i) (gh i (by omega)) ?_
          have hni : nt wi (pa i) (lg l i) := hx i (by omega) ▸ gN i (by omega)
          have hsi := gs1 i (by omega)
          have hil : i < l.length := by omega
          refine r_callV1 (st := []) hb ho 80 dX8_checksum_77 rfl ck_X8_230 (c_X8_mixNote a (pa i) l.length nx (mixP (mixL (mixT (mixL (61 : Int64) (iI ((D.length : Nat) : Int))) D D.length) (iI ((l.length : Nat) : Int))) D l i) (lg l i) D b0 b1 b2 eh thr ri xc gc gT hni xF xR (hok.2.2.2.1 i hil).1 (by omega)) rfl rfl (xc) rfl rfl (by rw [hR0]; exact ⟨Nat.le_of_ble_eq_true rfl, Nat.le_of_ble_eq_true rfl⟩) (Nat.le_of_ble_eq_true rfl) ⟨rfl, rfl⟩ (by rw [hR0]; exact Nat.zero_le _) (by rw [hR0]; exact Nat.zero_le _) (fun vw_77 w_77 nw_77 qw_77 => ?_)
          obtain ⟨rfl, rfl, ⟨b0, b1, b2, eh, xF⟩, ⟨ri, xR⟩, ow_77⟩ := qw_77
          have xc : w_77 a = some (eO 8 [.ref (a + 1), .ref (a + 3), .ref (a + 77), .ref (a + 523), .ref (a + 598), .ref (a + 673), .ref (a + 675), .int (iI (thr))]) := (ow_77 _ (by omega)).trans xc
          have gc : w_77 (a + 3) = some (eO 4 [.ref (a + 3 + 1), .ref (a + 3 + 3), .int (iI (((l.length : Nat) : Int))), .int (iI (((nx : Nat) : Int)))]) := (ow_77 _ (by omega)).trans gc
          have ga : w_77 (a + 3 + 3) = some (eQ 3 10 h) := (ow_77 _ (by omega)).trans ga
          have gT : tx w_77 (a + 3 + 1) 120 D := gT.off ow_77 (by omega)
          have gd : w_77 (a + 3 + 1) = some (eO 7 [.ref (a + 3 + 1 + 1), .int (iI (((D.length : Nat) : Int)))]) := (ow_77 _ (by omega)).trans gd
          have xB : tx w_77 (a + 1) 40 B := xB.off ow_77 (by omega)
          have xP : pg w_77 (a + 3) D l nx := xP.off ow_77 (by omega)
          have xH : hst w_77 (a + 77) hs := xH.off ow_77 (by omega)
          have xS0 : slt w_77 (a + 523) s0 := xS0.off ow_77 (by omega)
          have xS1 : slt w_77 (a + 598) s1 := xS1.off ow_77 (by omega)
          have xL : plo w_77 (a + 675) pc0 oh0 ch0 := xL.off ow_77 (by omega)
          have xA : chA w_77 (a + 675) := xA.off ow_77 (by omega)
          have hG : pgo w_77 (a + 3) D h pa xs l.length nx := hG.off ow_77 (by omega)
          refine r_lstore_n [(1, .long (mixN (mixP (mixL (mixT (mixL (61 : Int64) (iI ((D.length : Nat) : Int))) D D.length) (iI ((l.length : Nat) : Int))) D l i) D (lg l i))), (3, .int (iI (((i : Nat) : Int)))), (0, .ref a)] hb 81 4 dX8_checksum_80 rfl rfl hnL (by decide) rfl ?_
          refine r_iinc [(3, .int (iI (((i : Nat) : Int) + 1))), (1, .long (mixN (mixP (mixL (mixT (mixL (61 : Int64) (iI ((D.length : Nat) : Int))) D D.length) (iI ((l.length : Nat) : Int))) D l i) D (lg l i))), (0, .ref a)] hb 84 4 1 dX8_checksum_81 rfl rfl hnL (by decide) (((i : Nat) : Int) + 1) (by omega) rfl ?_
          refine r_goto hb 43 dX8_checksum_84 (by decide) ?_
          refine r_lv [(3, .int (iI (((i + 1 : Nat)) : Int))), (1, .long (mixP (mixL (mixT (mixL (61 : Int64) (iI ((D.length : Nat) : Int))) D D.length) (iI ((l.length : Nat) : Int))) D l (i + 1))), (0, .ref a)] [0, 1, 2] rfl ?_
          exact ih_lp (l.length - (i + 1)) (by omega) (i + 1) _ _ _ _ _ _ rfl (by omega) xc xB xP xH xS0 xS1 xF xR xL xA hG (hO.trans (ow_77.mono (by omega) (by omega)))
  refine r_lv [(3, .int (iI (((0 : Nat)) : Int))), (1, .long (mixP (mixL (mixT (mixL (61 : Int64) (iI ((D.length : Nat) : Int))) D D.length) (iI ((l.length : Nat) : Int))) D l 0)), (0, .ref a)] [0, 1, 2] rfl ?_
  exact lp _ 0 _ _ _ _ _ _ rfl (Nat.zero_le _) xc xB xP xH xS0 xS1 xF xR xL xA hG (off.rfl' _ _ _)

abbrev rm_X8_init : Room := { frames := 5, cells := 728, slots := 9163, locals := 104 }
set_option maxHeartbeats 4000000 in
set_option maxRecDepth 100000 in
theorem c_X8_init (a : Nat) {w : PW}  (h0 : w a = some (eO 8 [.null, .null, .null, .null, .null, .null, .null, .int (iI 0)])) : Ct0 yX8_init cX8_init 1 none rm_X8_init [.ref a] w (a + 1) (fun w1 n1 => n1 = a + 729 ∧ xo w1 a ([], ([], [], 0), [], none, none, 60) ∧ off w w1 a (a + 729)) := by
  refine Ctr.of rfl (Nat.le_of_ble_eq_true rfl) fun S hS => ?_
  have hb : S.1.1 = cX8_init := by rw [hS]; rfl
  have ho : S.1.2.1 = RX8 := by rw [hS]; rfl
  have hnL : S.1.2.2.1 = 1 := by rw [hS]; rfl
  have hR0 : S.2.1 = rm_X8_init := by rw [hS]; rfl
  have hnm : S.1.2.2.2.2 = "<init>" := by rw [hS]; rfl
  show Wp S 0 [(0, .ref a)] [] w (a + 1) 0 0
  refine r_aload_n hb 1 dX8_init_0 rfl 0 rfl ?_
  refine r_objInit hb ho 4 dX8_init_1 rfl ck_X8_1 ob_i ob_c (by rw [hR0]; exact Nat.le_of_ble_eq_true rfl) (by rw [hR0]; exact Nat.le_of_ble_eq_true rfl) ?_
  refine r_aload_n hb 5 dX8_init_4 rfl 0 rfl ?_
  refine r_new hb ho 8 dX8_init_5 rfl (kn_X7 kc_X8_7) (by rw [hR0]; exact Nat.le_of_ble_eq_true rfl) (by rw [hR0]; exact Nat.le_of_ble_eq_true rfl) (fun w_5 hw_5 => ?_)
  have ow_5 := pset_off hw_5
  have fw_5 : w_5 (a + 1) = some (eO 7 [.null, .int (iI 0)]) := by rw [hw_5]; exact pset_eq _ _ _
  have h0 : w_5 a = some (eO 8 [.null, .null, .null, .null, .null, .null, .null, .int (iI 0)]) := (ow_5 _ (by omega)).trans h0
  refine r_dup hb 9 dX8_init_8 rfl rfl ?_
  refine r_bipush 40 hb 11 dX8_init_9 rfl rfl ?_
  refine r_callN0 (st := [.ref ((a + 1)), .ref a]) hb ho 14 dX8_init_11 rfl ck_X8_11 (c_X7_init (a + 1) 40 fw_5 (by omega)) rfl rfl (by rw [hR0]; exact ⟨Nat.le_of_ble_eq_true rfl, Nat.le_of_ble_eq_true rfl⟩) (Nat.le_of_ble_eq_true rfl) (by rw [hR0]; exact Nat.le_of_ble_eq_true rfl) (by rw [hR0]; exact Nat.le_of_ble_eq_true rfl) (fun w_11 nw_11 qw_11 => ?_)
  obtain ⟨rfl, xB, ow_11⟩ := qw_11
  have h0 : w_11 a = some (eO 8 [.null, .null, .null, .null, .null, .null, .null, .int (iI 0)]) := (ow_11 _ (by omega)).trans h0
  refine r_putF hb ho hnm rfl 17 dX8_init_14 rfl lkw_X8_14 pf_X8_0 h0 (Nat.le_of_ble_eq_true rfl) ⟨rfl, rfl⟩ (fun w_14 hw_14 => ?_)
  have ow_14 := pset_off hw_14
  have xw_14 : w_14 a = some (eO 8 [.ref ((a + 1)), .null, .null, .null, .null, .null, .null, .int (iI 0)]) := by rw [hw_14]; exact pset_eq _ _ _
  have xB : tx w_14 (a + 1) 40 [] := xB.off ow_14 (by omega)
  refine r_aload_n hb 18 dX8_init_17 rfl 0 rfl ?_
  refine r_new hb ho 21 dX8_init_18 rfl (kn_X4 kc_X8_18) (by rw [hR0]; exact Nat.le_of_ble_eq_true rfl) (by rw [hR0]; exact Nat.le_of_ble_eq_true rfl) (fun w_18 hw_18 => ?_)
  have ow_18 := pset_off hw_18
  have fw_18 : w_18 (a + 3) = some (eO 4 [.null, .null, .int (iI 0), .int (iI 0)]) := by rw [hw_18]; exact pset_eq _ _ _
  have xw_14 : w_18 a = some (eO 8 [.ref ((a + 1)), .null, .null, .null, .null, .null, .null, .int (iI 0)]) := (ow_18 _ (by omega)).trans xw_14
  have xB : tx w_18 (a + 1) 40 [] := xB.off ow_18 (by omega)
  refine r_dup hb 22 dX8_init_21 rfl rfl ?_
  refine r_callN0 (st := [.ref ((a + 3)), .ref a]) hb ho 25 dX8_init_22 rfl ck_X8_20 (c_X4_init (a + 3) fw_18) rfl rfl (by rw [hR0]; exact ⟨Nat.le_of_ble_eq_true rfl, Nat.le_of_ble_eq_true rfl⟩) (Nat.le_of_ble_eq_true rfl) (by rw [hR0]; exact Nat.le_of_ble_eq_true rfl) (by rw [hR0]; exact Nat.le_of_ble_eq_true rfl) (fun w_22 nw_22 qw_22 => ?_)
  obtain ⟨rfl, xP, ow_22⟩ := qw_22
  have xw_14 : w_22 a = some (eO 8 [.ref ((a + 1)), .null, .null, .null, .null, .null, .null, .int (iI 0)]) := (ow_22 _ (by omega)).trans xw_14
  have xB : tx w_22 (a + 1) 40 [] := xB.off ow_22 (by omega)
  refine r_putF hb ho hnm rfl 28 dX8_init_25 rfl lkw_X8_21 pf_X8_1 xw_14 (Nat.le_of_ble_eq_true rfl) ⟨rfl, rfl⟩ (fun w_25 hw_25 => ?_)
  have ow_25 := pset_off hw_25
  have xw_25 : w_25 a = some (eO 8 [.ref ((a + 1)), .ref ((a + 3)), .null, .null, .null, .null, .null, .int (iI 0)]) := by rw [hw_25]; exact pset_eq _ _ _
  have xP : pg w_25 (a + 3) [] [] 0 := xP.off ow_25 (by omega)
  have xB : tx w_25 (a + 1) 40 [] := xB.off ow_25 (by omega)
  refine r_aload_n hb 29 dX8_init_28 rfl 0 rfl ?_
  refine r_new hb ho 32 dX8_init_29 rfl (kn_X2 kc_X8_25) (by rw [hR0]; exact Nat.le_of_ble_eq_true rfl) (by rw [hR0]; exact Nat.le_of_ble_eq_true rfl) (fun w_29 hw_29 => ?_)
  have ow_29 := pset_off hw_29
  have fw_29 : w_29 (a + 77) = some (eO 2 [.null, .int (iI 0)]) := by rw [hw_29]; exact pset_eq _ _ _
  have xw_25 : w_29 a = some (eO 8 [.ref ((a + 1)), .ref ((a + 3)), .null, .null, .null, .null, .null, .int (iI 0)]) := (ow_29 _ (by omega)).trans xw_25
  have xP : pg w_29 (a + 3) [] [] 0 := xP.off ow_29 (by omega)
  have xB : tx w_29 (a + 1) 40 [] := xB.off ow_29 (by omega)
  refine r_dup hb 33 dX8_init_32 rfl rfl ?_
  refine r_callN0 (st := [.ref ((a + 77)), .ref a]) hb ho 36 dX8_init_33 rfl ck_X8_27 (c_X2_init (a + 77) fw_29) rfl rfl (by rw [hR0]; exact ⟨Nat.le_of_ble_eq_true rfl, Nat.le_of_ble_eq_true rfl⟩) (Nat.le_of_ble_eq_true rfl) (by rw [hR0]; exact Nat.le_of_ble_eq_true rfl) (by rw [hR0]; exact Nat.le_of_ble_eq_true rfl) (fun w_33 nw_33 qw_33 => ?_)
  obtain ⟨rfl, xH, ow_33⟩ := qw_33
  have xw_25 : w_33 a = some (eO 8 [.ref ((a + 1)), .ref ((a + 3)), .null, .null, .null, .null, .null, .int (iI 0)]) := (ow_33 _ (by omega)).trans xw_25
  have xP : pg w_33 (a + 3) [] [] 0 := xP.off ow_33 (by omega)
  have xB : tx w_33 (a + 1) 40 [] := xB.off ow_33 (by omega)
  refine r_putF hb ho hnm rfl 39 dX8_init_36 rfl lkw_X8_28 pf_X8_2 xw_25 (Nat.le_of_ble_eq_true rfl) ⟨rfl, rfl⟩ (fun w_36 hw_36 => ?_)
  have ow_36 := pset_off hw_36
  have xw_36 : w_36 a = some (eO 8 [.ref ((a + 1)), .ref ((a + 3)), .ref ((a + 77)), .null, .null, .null, .null, .int (iI 0)]) := by rw [hw_36]; exact pset_eq _ _ _
  have xH : hst w_36 (a + 77) [] := xH.off ow_36 (by omega)
  have xP : pg w_36 (a + 3) [] [] 0 := xP.off ow_36 (by omega)
  have xB : tx w_36 (a + 1) 40 [] := xB.off ow_36 (by omega)
  refine r_aload_n hb 40 dX8_init_39 rfl 0 rfl ?_
  refine r_new hb ho 43 dX8_init_40 rfl (kn_X6 kc_X8_32) (by rw [hR0]; exact Nat.le_of_ble_eq_true rfl) (by rw [hR0]; exact Nat.le_of_ble_eq_true rfl) (fun w_40 hw_40 => ?_)
  have ow_40 := pset_off hw_40
  have fw_40 : w_40 (a + 523) = some (eO 6 [.null, .int (iI 0), .int (iI 0)]) := by rw [hw_40]; exact pset_eq _ _ _
  have xw_36 : w_40 a = some (eO 8 [.ref ((a + 1)), .ref ((a + 3)), .ref ((a + 77)), .null, .null, .null, .null, .int (iI 0)]) := (ow_40 _ (by omega)).trans xw_36
  have xH : hst w_40 (a + 77) [] := xH.off ow_40 (by omega)
  have xP : pg w_40 (a + 3) [] [] 0 := xP.off ow_40 (by omega)
  have xB : tx w_40 (a + 1) 40 [] := xB.off ow_40 (by omega)
  refine r_dup hb 44 dX8_init_43 rfl rfl ?_
  refine r_callN0 (st := [.ref ((a + 523)), .ref a]) hb ho 47 dX8_init_44 rfl ck_X8_34 (c_X6_init (a + 523) fw_40) rfl rfl (by rw [hR0]; exact ⟨Nat.le_of_ble_eq_true rfl, Nat.le_of_ble_eq_true rfl⟩) (Nat.le_of_ble_eq_true rfl) (by rw [hR0]; exact Nat.le_of_ble_eq_true rfl) (by rw [hR0]; exact Nat.le_of_ble_eq_true rfl) (fun w_44 nw_44 qw_44 => ?_)
  obtain ⟨rfl, xS0, ow_44⟩ := qw_44
  have xw_36 : w_44 a = some (eO 8 [.ref ((a + 1)), .ref ((a + 3)), .ref ((a + 77)), .null, .null, .null, .null, .int (iI 0)]) := (ow_44 _ (by omega)).trans xw_36
  have xH : hst w_44 (a + 77) [] := xH.off ow_44 (by omega)
  have xP : pg w_44 (a + 3) [] [] 0 := xP.off ow_44 (by omega)
  have xB : tx w_44 (a + 1) 40 [] := xB.off ow_44 (by omega)
  refine r_putF hb ho hnm rfl 50 dX8_init_47 rfl lkw_X8_35 pf_X8_3 xw_36 (Nat.le_of_ble_eq_true rfl) ⟨rfl, rfl⟩ (fun w_47 hw_47 => ?_)
  have ow_47 := pset_off hw_47
  have xw_47 : w_47 a = some (eO 8 [.ref ((a + 1)), .ref ((a + 3)), .ref ((a + 77)), .ref ((a + 523)), .null, .null, .null, .int (iI 0)]) := by rw [hw_47]; exact pset_eq _ _ _
  have xS0 : slt w_47 (a + 523) none := xS0.off ow_47 (by omega)
  have xH : hst w_47 (a + 77) [] := xH.off ow_47 (by omega)
  have xP : pg w_47 (a + 3) [] [] 0 := xP.off ow_47 (by omega)
  have xB : tx w_47 (a + 1) 40 [] := xB.off ow_47 (by omega)
  refine r_aload_n hb 51 dX8_init_50 rfl 0 rfl ?_
  refine r_new hb ho 54 dX8_init_51 rfl (kn_X6 kc_X8_32) (by rw [hR0]; exact Nat.le_of_ble_eq_true rfl) (by rw [hR0]; exact Nat.le_of_ble_eq_true rfl) (fun w_51 hw_51 => ?_)
  have ow_51 := pset_off hw_51
  have fw_51 : w_51 (a + 598) = some (eO 6 [.null, .int (iI 0), .int (iI 0)]) := by rw [hw_51]; exact pset_eq _ _ _
  have xw_47 : w_51 a = some (eO 8 [.ref ((a + 1)), .ref ((a + 3)), .ref ((a + 77)), .ref ((a + 523)), .null, .null, .null, .int (iI 0)]) := (ow_51 _ (by omega)).trans xw_47
  have xS0 : slt w_51 (a + 523) none := xS0.off ow_51 (by omega)
  have xH : hst w_51 (a + 77) [] := xH.off ow_51 (by omega)
  have xP : pg w_51 (a + 3) [] [] 0 := xP.off ow_51 (by omega)
  have xB : tx w_51 (a + 1) 40 [] := xB.off ow_51 (by omega)
  refine r_dup hb 55 dX8_init_54 rfl rfl ?_
  refine r_callN0 (st := [.ref ((a + 598)), .ref a]) hb ho 58 dX8_init_55 rfl ck_X8_34 (c_X6_init (a + 598) fw_51) rfl rfl (by rw [hR0]; exact ⟨Nat.le_of_ble_eq_true rfl, Nat.le_of_ble_eq_true rfl⟩) (Nat.le_of_ble_eq_true rfl) (by rw [hR0]; exact Nat.le_of_ble_eq_true rfl) (by rw [hR0]; exact Nat.le_of_ble_eq_true rfl) (fun w_55 nw_55 qw_55 => ?_)
  obtain ⟨rfl, xS1, ow_55⟩ := qw_55
  have xw_47 : w_55 a = some (eO 8 [.ref ((a + 1)), .ref ((a + 3)), .ref ((a + 77)), .ref ((a + 523)), .null, .null, .null, .int (iI 0)]) := (ow_55 _ (by omega)).trans xw_47
  have xS0 : slt w_55 (a + 523) none := xS0.off ow_55 (by omega)
  have xH : hst w_55 (a + 77) [] := xH.off ow_55 (by omega)
  have xP : pg w_55 (a + 3) [] [] 0 := xP.off ow_55 (by omega)
  have xB : tx w_55 (a + 1) 40 [] := xB.off ow_55 (by omega)
  refine r_putF hb ho hnm rfl 61 dX8_init_58 rfl lkw_X8_39 pf_X8_4 xw_47 (Nat.le_of_ble_eq_true rfl) ⟨rfl, rfl⟩ (fun w_58 hw_58 => ?_)
  have ow_58 := pset_off hw_58
  have xw_58 : w_58 a = some (eO 8 [.ref ((a + 1)), .ref ((a + 3)), .ref ((a + 77)), .ref ((a + 523)), .ref ((a + 598)), .null, .null, .int (iI 0)]) := by rw [hw_58]; exact pset_eq _ _ _
  have xS1 : slt w_58 (a + 598) none := xS1.off ow_58 (by omega)
  have xS0 : slt w_58 (a + 523) none := xS0.off ow_58 (by omega)
  have xH : hst w_58 (a + 77) [] := xH.off ow_58 (by omega)
  have xP : pg w_58 (a + 3) [] [] 0 := xP.off ow_58 (by omega)
  have xB : tx w_58 (a + 1) 40 [] := xB.off ow_58 (by omega)
  refine r_aload_n hb 62 dX8_init_61 rfl 0 rfl ?_
  refine r_new hb ho 65 dX8_init_62 rfl (kn_X1 kc_X8_42) (by rw [hR0]; exact Nat.le_of_ble_eq_true rfl) (by rw [hR0]; exact Nat.le_of_ble_eq_true rfl) (fun w_62 hw_62 => ?_)
  have ow_62 := pset_off hw_62
  have fw_62 : w_62 (a + 673) = some (eO 1 [.null, .int (iI 0), .int (iI 0), .int (iI 0), .int (iI 0)]) := by rw [hw_62]; exact pset_eq _ _ _
  have xw_58 : w_62 a = some (eO 8 [.ref ((a + 1)), .ref ((a + 3)), .ref ((a + 77)), .ref ((a + 523)), .ref ((a + 598)), .null, .null, .int (iI 0)]) := (ow_62 _ (by omega)).trans xw_58
  have xS1 : slt w_62 (a + 598) none := xS1.off ow_62 (by omega)
  have xS0 : slt w_62 (a + 523) none := xS0.off ow_62 (by omega)
  have xH : hst w_62 (a + 77) [] := xH.off ow_62 (by omega)
  have xP : pg w_62 (a + 3) [] [] 0 := xP.off ow_62 (by omega)
  have xB : tx w_62 (a + 1) 40 [] := xB.off ow_62 (by omega)
  refine r_dup hb 66 dX8_init_65 rfl rfl ?_
  refine r_callN0 (st := [.ref ((a + 673)), .ref a]) hb ho 69 dX8_init_66 rfl ck_X8_44 (c_X1_init (a + 673) fw_62) rfl rfl (by rw [hR0]; exact ⟨Nat.le_of_ble_eq_true rfl, Nat.le_of_ble_eq_true rfl⟩) (Nat.le_of_ble_eq_true rfl) (by rw [hR0]; exact Nat.le_of_ble_eq_true rfl) (by rw [hR0]; exact Nat.le_of_ble_eq_true rfl) (fun w_66 nw_66 qw_66 => ?_)
  obtain ⟨rfl, xF, xR, ow_66⟩ := qw_66
  have xw_58 : w_66 a = some (eO 8 [.ref ((a + 1)), .ref ((a + 3)), .ref ((a + 77)), .ref ((a + 523)), .ref ((a + 598)), .null, .null, .int (iI 0)]) := (ow_66 _ (by omega)).trans xw_58
  have xS1 : slt w_66 (a + 598) none := xS1.off ow_66 (by omega)
  have xS0 : slt w_66 (a + 523) none := xS0.off ow_66 (by omega)
  have xH : hst w_66 (a + 77) [] := xH.off ow_66 (by omega)
  have xP : pg w_66 (a + 3) [] [] 0 := xP.off ow_66 (by omega)
  have xB : tx w_66 (a + 1) 40 [] := xB.off ow_66 (by omega)
  refine r_putF hb ho hnm rfl 72 dX8_init_69 rfl lkw_X8_45 pf_X8_5 xw_58 (Nat.le_of_ble_eq_true rfl) ⟨rfl, rfl⟩ (fun w_69 hw_69 => ?_)
  have ow_69 := pset_off hw_69
  have xw_69 : w_69 a = some (eO 8 [.ref ((a + 1)), .ref ((a + 3)), .ref ((a + 77)), .ref ((a + 523)), .ref ((a + 598)), .ref ((a + 673)), .null, .int (iI 0)]) := by rw [hw_69]; exact pset_eq _ _ _
  have xF : fd w_69 (a + 673) 0 0 0 0 := xF.off ow_69 (by omega)
  have xR : fr w_69 (a + 673) 0 (fun _ => 0) := xR.off ow_69 (by omega)
  have xS1 : slt w_69 (a + 598) none := xS1.off ow_69 (by omega)
  have xS0 : slt w_69 (a + 523) none := xS0.off ow_69 (by omega)
  have xH : hst w_69 (a + 77) [] := xH.off ow_69 (by omega)
  have xP : pg w_69 (a + 3) [] [] 0 := xP.off ow_69 (by omega)
  have xB : tx w_69 (a + 1) 40 [] := xB.off ow_69 (by omega)
  refine r_aload_n hb 73 dX8_init_72 rfl 0 rfl ?_
  refine r_new hb ho 76 dX8_init_73 rfl (kn_X5 kc_X8_49) (by rw [hR0]; exact Nat.le_of_ble_eq_true rfl) (by rw [hR0]; exact Nat.le_of_ble_eq_true rfl) (fun w_73 hw_73 => ?_)
  have ow_73 := pset_off hw_73
  have fw_73 : w_73 (a + 675) = some (eO 5 [.null, .null, .int (iI 0)]) := by rw [hw_73]; exact pset_eq _ _ _
  have xw_69 : w_73 a = some (eO 8 [.ref ((a + 1)), .ref ((a + 3)), .ref ((a + 77)), .ref ((a + 523)), .ref ((a + 598)), .ref ((a + 673)), .null, .int (iI 0)]) := (ow_73 _ (by omega)).trans xw_69
  have xF : fd w_73 (a + 673) 0 0 0 0 := xF.off ow_73 (by omega)
  have xR : fr w_73 (a + 673) 0 (fun _ => 0) := xR.off ow_73 (by omega)
  have xS1 : slt w_73 (a + 598) none := xS1.off ow_73 (by omega)
  have xS0 : slt w_73 (a + 523) none := xS0.off ow_73 (by omega)
  have xH : hst w_73 (a + 77) [] := xH.off ow_73 (by omega)
  have xP : pg w_73 (a + 3) [] [] 0 := xP.off ow_73 (by omega)
  have xB : tx w_73 (a + 1) 40 [] := xB.off ow_73 (by omega)
  refine r_dup hb 77 dX8_init_76 rfl rfl ?_
  refine r_callN0 (st := [.ref ((a + 675)), .ref a]) hb ho 80 dX8_init_77 rfl ck_X8_51 (c_X5_init (a + 675) fw_73) rfl rfl (by rw [hR0]; exact ⟨Nat.le_of_ble_eq_true rfl, Nat.le_of_ble_eq_true rfl⟩) (Nat.le_of_ble_eq_true rfl) (by rw [hR0]; exact Nat.le_of_ble_eq_true rfl) (by rw [hR0]; exact Nat.le_of_ble_eq_true rfl) (fun w_77 nw_77 qw_77 => ?_)
  obtain ⟨rfl, ⟨oh0, ch0, xL⟩, xA, ow_77⟩ := qw_77
  have xw_69 : w_77 a = some (eO 8 [.ref ((a + 1)), .ref ((a + 3)), .ref ((a + 77)), .ref ((a + 523)), .ref ((a + 598)), .ref ((a + 673)), .null, .int (iI 0)]) := (ow_77 _ (by omega)).trans xw_69
  have xF : fd w_77 (a + 673) 0 0 0 0 := xF.off ow_77 (by omega)
  have xR : fr w_77 (a + 673) 0 (fun _ => 0) := xR.off ow_77 (by omega)
  have xS1 : slt w_77 (a + 598) none := xS1.off ow_77 (by omega)
  have xS0 : slt w_77 (a + 523) none := xS0.off ow_77 (by omega)
  have xH : hst w_77 (a + 77) [] := xH.off ow_77 (by omega)
  have xP : pg w_77 (a + 3) [] [] 0 := xP.off ow_77 (by omega)
  have xB : tx w_77 (a + 1) 40 [] := xB.off ow_77 (by omega)
  refine r_putF hb ho hnm rfl 83 dX8_init_80 rfl lkw_X8_52 pf_X8_6 xw_69 (Nat.le_of_ble_eq_true rfl) ⟨rfl, rfl⟩ (fun w_80 hw_80 => ?_)
  have ow_80 := pset_off hw_80
  have xw_80 : w_80 a = some (eO 8 [.ref ((a + 1)), .ref ((a + 3)), .ref ((a + 77)), .ref ((a + 523)), .ref ((a + 598)), .ref ((a + 673)), .ref ((a + 675)), .int (iI 0)]) := by rw [hw_80]; exact pset_eq _ _ _
  have xL : plo w_80 (a + 675) 0 oh0 ch0 := xL.off ow_80 (by omega)
  have xA : chA w_80 (a + 675) := xA.off ow_80 (by omega)
  have xF : fd w_80 (a + 673) 0 0 0 0 := xF.off ow_80 (by omega)
  have xR : fr w_80 (a + 673) 0 (fun _ => 0) := xR.off ow_80 (by omega)
  have xS1 : slt w_80 (a + 598) none := xS1.off ow_80 (by omega)
  have xS0 : slt w_80 (a + 523) none := xS0.off ow_80 (by omega)
  have xH : hst w_80 (a + 77) [] := xH.off ow_80 (by omega)
  have xP : pg w_80 (a + 3) [] [] 0 := xP.off ow_80 (by omega)
  have xB : tx w_80 (a + 1) 40 [] := xB.off ow_80 (by omega)
  refine r_aload_n hb 84 dX8_init_83 rfl 0 rfl ?_
  refine r_bipush 60 hb 86 dX8_init_84 rfl rfl ?_
  refine r_put hb ho 89 dX8_init_86 rfl lk_X8_56 pf_X8_7 xw_80 (Nat.le_of_ble_eq_true rfl) ⟨rfl, rfl⟩ (fun w_86 hw_86 => ?_)
  have ow_86 := pset_off hw_86
  have xw_86 : w_86 a = some (eO 8 [.ref ((a + 1)), .ref ((a + 3)), .ref ((a + 77)), .ref ((a + 523)), .ref ((a + 598)), .ref ((a + 673)), .ref ((a + 675)), .int (iI 60)]) := by rw [hw_86]; exact pset_eq _ _ _
  have xL : plo w_86 (a + 675) 0 oh0 ch0 := xL.off ow_86 (by omega)
  have xA : chA w_86 (a + 675) := xA.off ow_86 (by omega)
  have xF : fd w_86 (a + 673) 0 0 0 0 := xF.off ow_86 (by omega)
  have xR : fr w_86 (a + 673) 0 (fun _ => 0) := xR.off ow_86 (by omega)
  have xS1 : slt w_86 (a + 598) none := xS1.off ow_86 (by omega)
  have xS0 : slt w_86 (a + 523) none := xS0.off ow_86 (by omega)
  have xH : hst w_86 (a + 77) [] := xH.off ow_86 (by omega)
  have xP : pg w_86 (a + 3) [] [] 0 := xP.off ow_86 (by omega)
  have xB : tx w_86 (a + 1) 40 [] := xB.off ow_86 (by omega)
  refine r_vret hS dX8_init_89 rfl (Nat.le_of_ble_eq_true rfl) (Nat.le_of_ble_eq_true rfl) ?_
  exact ⟨rfl, rfl, ⟨xw_86, xB, xP, xH, xS0, xS1, ⟨_, _, _, _, xF⟩, ⟨_, xR⟩, ⟨_, _, _, xL, by decide⟩, xA⟩, ((((((((((((((((((((((ow_5.mono (by omega) (by omega)).trans (ow_11.mono (by omega) (by omega))).trans (ow_14.mono (by omega) (by omega))).trans (ow_18.mono (by omega) (by omega))).trans (ow_22.mono (by omega) (by omega))).trans (ow_25.mono (by omega) (by omega))).trans (ow_29.mono (by omega) (by omega))).trans (ow_33.mono (by omega) (by omega))).trans (ow_36.mono (by omega) (by omega))).trans (ow_40.mono (by omega) (by omega))).trans (ow_44.mono (by omega) (by omega))).trans (ow_47.mono (by omega) (by omega))).trans (ow_51.mono (by omega) (by omega))).trans (ow_55.mono (by omega) (by omega))).trans (ow_58.mono (by omega) (by omega))).trans (ow_62.mono (by omega) (by omega))).trans (ow_66.mono (by omega) (by omega))).trans (ow_69.mono (by omega) (by omega))).trans (ow_73.mono (by omega) (by omega))).trans (ow_77.mono (by omega) (by omega))).trans (ow_80.mono (by omega) (by omega))).trans (ow_86.mono (by omega) (by omega)))⟩
